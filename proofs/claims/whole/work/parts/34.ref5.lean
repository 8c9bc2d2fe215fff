/-! The reference: costs, packing, the best way, and the small questions. -/
def wQR (wt : Nat → Nat → Nat) (dp : Nat → Nat) (w N : Nat) (v : bV) (sc : Nat → Int32) (ar : Nat → Nat → Int32) (r : Int32) (u : bS) : Prop := ∃ (sc1 : Nat → Int32) (ar1 : Nat → Nat → Int32), u = (v, sc1, ar1) ∧ wFr sc ar sc1 ar1 ∧ ((r = nI 1 ∧ ∃ bs, WR wt dp w (rowL (ar 34) 0 N) = some bs ∧ bs.length ≤ 1500000 ∧ sc1 31 = nI bs.length ∧ ar1 41 = wrO (ar 41) 0 bs) ∨ (r = nI 0 ∧ WR wt dp w (rowL (ar 34) 0 N) = none))
theorem sh8 (x : Int32) (k : Nat) (hk : k = 0 ∨ k = 8 ∨ k = 16 ∨ k = 24) (s : Int32) (hs : (s.toBitVec.smod 32).toNat = k) : (x >>> s) &&& 255 = nI (x.toBitVec.toNat / 2 ^ k % 256) := by
  rw [pk_and (x >>> s) 8 (by decide)]
  congr 1
  have h1 := pk_shr x s k hs
  rw [Int.shiftRight_eq_div_pow] at h1
  have h2 : (x >>> s).toInt = if 2 * (x >>> s).toBitVec.toNat < 2 ^ 32 then ((x >>> s).toBitVec.toNat : Int) else ((x >>> s).toBitVec.toNat : Int) - 2 ^ 32 := BitVec.toInt_eq_toNat_cond _
  have h3 : x.toInt = if 2 * x.toBitVec.toNat < 2 ^ 32 then (x.toBitVec.toNat : Int) else (x.toBitVec.toNat : Int) - 2 ^ 32 := BitVec.toInt_eq_toNat_cond _
  have h4 := x.toBitVec.isLt
  have h5 := (x >>> s).toBitVec.isLt
  generalize (x >>> s).toBitVec.toNat = Y at h2 h5 ⊢
  generalize x.toBitVec.toNat = X at h3 h4 ⊢
  rw [h2, h3] at h1
  rcases hk with rfl | rfl | rfl | rfl
  · split at h1 <;> split at h1 <;> (simp at h1; omega)
  · split at h1 <;> split at h1 <;> (simp at h1; omega)
  · split at h1 <;> split at h1 <;> (simp at h1; omega)
  · split at h1 <;> split at h1 <;> (simp at h1; omega)
theorem wt0_le {wt : Nat → Nat → Nat} {dp : Nat → Nat} {i : Nat} (h : wOK wt dp i) : wt i 0 ≤ 2 := by
  rcases h with q | q | q <;> omega
set_option maxHeartbeats 4000000 in
set_option maxRecDepth 100000 in
theorem r_writes (l : Launch) (z : bZ) (v : bV) (sc : Nat → Int32) (ar : Nat → Nat → Int32) (K N w : Nat) (wt : Nat → Nat → Nat) (dp : Nat → Nat) (hK4 : K ≤ 40) (hRW : RW wt dp K ar) (hw : w < K) (hN : sc 22 = nI N) (hN4 : N ≤ 400) : Met l yX10_writes (Cond.code yX10_writes cX10_writes 8 (some .boolean) :: uW) rmR (pC z v sc ar [.ref (zad z 27), .int (nI (w))]) (qI z (fun r u => wQR wt dp w N v sc ar r u)) 0 0 (zA z) := by
  refine eM (by decide) (Nat.le_of_ble_eq_true rfl) ?_
  intro pP eE s mM below meth cC ls C hr hlk h hl
  have hx := C.1.1
  have hb := C.1.2.1
  have hl : lv_has ls 8 [(0, .ref (zad z 27)), (1, .int (nI (w)))] := hl
  have hd4 := dpLe2 (hRW w hw).2.2.2.2.2.2
  refine lv_iconst (v := nI (0)) hx hb dX10_writes_0 (by decide) ?_
  refine lv_istore_n (lv' := [(2, .int (nI (0))), (0, .ref (zad z 27)), (1, .int (nI (w)))]) hx hb dX10_writes_1 rfl hl (by decide) rfl (fun ls hl => ?_)
  refine lpW2 (fun (k : Nat) (P : Nat → Int32) (H : Heap) (locs : List Loc) (ls : Array Slot) => (k ≤ N) ∧ (∀ q, q < k → P q = ar 34 q) ∧ hH z v sc (va_up ar 36 (P)) s H locs ∧ lv_has ls 8 [(0, .ref (zad z 27)), (1, .int (nI (w))), (2, .int (nI (k)))]) (fun (k : Nat) (P : Nat → Int32) => N - k) (fun k P ih_2 H locs ls hI => ?_) (0) (ar 36) ⟨Nat.zero_le _, fun q hq => absurd hq (Nat.not_lt_zero _), (by rw [va_us]; exact h), lv_sub hl [1, 2, 0] rfl⟩
  obtain ⟨h1, hP, h, hl⟩ := hI
  refine lv_iload_n hx hb dX10_writes_2 rfl (lv_at hl 2 rfl) ?_
  refine lv_aload_n hx hb dX10_writes_3 rfl (lv_at hl 0 rfl) ?_
  refine rg_X10_120 C h dX10_writes_4 ?_
  refine tI (y := nI (N)) hN ?_
  refine jN_ge (tgt := 28) (a := k) (b := N) C (by omega) (by omega) dX10_writes_7 (by decide) (fun c_7 => ?_) (fun c_7 => ?_)
  · skip
    refine lv_aload_n hx hb dX10_writes_28 rfl (lv_at hl 0 rfl) ?_
    refine lv_aload_n hx hb dX10_writes_29 rfl (lv_at hl 0 rfl) ?_
    refine rg_X10_120 C h dX10_writes_30 ?_
    refine tI (y := nI (N)) hN ?_
    refine rp_X10_147 C h dX10_writes_33 (fun H locs h => ?_)
    refine lv_aload_n hx hb dX10_writes_36 rfl (lv_at hl 0 rfl) ?_
    refine lv_iconst (v := nI (0)) hx hb dX10_writes_37 (by decide) ?_
    refine rp_X10_141 C h dX10_writes_38 (fun H locs h => ?_)
    refine lv_aload_n hx hb dX10_writes_41 rfl (lv_at hl 0 rfl) ?_
    refine lv_iconst (v := nI (0)) hx hb dX10_writes_42 (by decide) ?_
    refine rp_X10_144 C h dX10_writes_43 (fun H locs h => ?_)
    refine lv_aload_n hx hb dX10_writes_46 rfl (lv_at hl 0 rfl) ?_
    refine lv_iload_n hx hb dX10_writes_47 rfl (lv_at hl 1 rfl) ?_
    refine lv_iconst (v := nI (0)) hx hb dX10_writes_48 (by decide) ?_
    refine lv_aload_n hx hb dX10_writes_49 rfl (lv_at hl 0 rfl) ?_
    refine rg_X10_120 C h dX10_writes_50 ?_
    refine tI (y := nI (N)) hN ?_
    refine backV h (runV (As := [.int (nI (w)), .int (nI (0)), .int (nI (N))]) (rest := []) C h (r_task l z v (va_up (va_up (va_up sc 29 (nI (N))) 31 (nI (0))) 30 (nI (0))) (va_up ar 36 (P)) 0 w 0 N rfl (by decide)) gv_X10_150 gv_X10_150_n ⟨rfl, rfl⟩ (r_Ref C h) rfl hl.1 rfl (Nat.le_of_ble_eq_true rfl) dX10_writes_53 ⟨Nat.le_of_ble_eq_true rfl, Nat.le_of_ble_eq_true rfl⟩ ⟨Nat.le_of_ble_eq_true rfl, Nat.le_of_ble_eq_true rfl⟩) (fun v_53 sc_53 ar_53 H locs p_53 h => ?_)
    rw [va_uu] at p_53
    have h : hH z v (va_up (va_up (va_up sc 29 (nI N)) 31 (nI 0)) 30 (nI (0 + 1))) (tkA (va_up ar 36 (P)) 0 w 0 N) s H locs := uEq p_53 h
    have hA : wFr sc ar (va_up (va_up (va_up sc 29 (nI N)) 31 (nI 0)) 30 (nI (0 + 1))) (tkA (va_up ar 36 (P)) 0 w 0 N) := ⟨fun i a b c => (va_up_ne _ _ b).trans ((va_up_ne _ _ c).trans (va_up_ne _ _ a)), fun k hk => (tkA_o (by omega) (by omega) (by omega)).trans (va_up_ne _ _ (by omega))⟩
    have eR : rowL ((tkA (va_up ar 36 (P)) 0 w 0 N) 36) 0 N = rowL (ar 34) 0 N := rowL_cg N 0 (fun i hi => by rw [Nat.zero_add]; exact hP i (by omega))
    refine wrM C hK4 w hw (va_up (va_up (va_up sc 29 (nI N)) 31 (nI 0)) 30 (nI (0 + 1))) (tkA (va_up ar 36 (P)) 0 w 0 N) H locs ls 0 0 N N 0 ⟨hRW.fr hA.2, rfl, tkA_at.1, tkA_at.2.1, tkA_at.2.2, by omega, by omega, hN4, rfl, by have := nd_le hd4 hN4; omega, rfl, by have := Bd_le hd4 hN4; omega⟩ h (lv_sub hl [0] rfl) (fun sc1 ar1 H locs ls bs w1 po h hl => ?_) (fun sc1 ar1 H locs ls w1 fr h hl => ?_)
    · skip
      rw [eR] at w1
      refine lv_aload_n hx hb dX10_writes_56 rfl (lv_at hl 0 rfl) ?_
      refine rg_X10_144 C h dX10_writes_57 ?_
      refine tI (y := nI (0)) po.2.1 ?_
      refine zN_le (tgt := 269) (a := 0) C (by decide) dX10_writes_60 (by decide) (fun _ => ?_) (fun q => absurd q (by decide))
      refine lv_iconst (v := nI (1)) hx hb dX10_writes_269 (by decide) ?_
      exact rZ C hr hlk h dX10_writes_270 rfl (Nat.le_of_ble_eq_true rfl) (Nat.le_of_ble_eq_true rfl) (⟨sc1, ar1, rfl, hA.trans po.1, Or.inl ⟨rfl, bs, w1, Nat.le_trans (WR_len w (fun q hq => (hRW q (by omega)).2.2.2.2.2.2) _ _ w1) (by rw [rowL_len]; exact Bd_le hd4 hN4), by have e := po.2.2.1; rw [Nat.zero_add] at e; exact e, po.2.2.2.2.2.2⟩⟩)
    · skip
      rw [eR] at w1
      refine lv_iconst (v := nI (0)) hx hb dX10_writes_236 (by decide) ?_
      exact rZ C hr hlk h dX10_writes_237 rfl (Nat.le_of_ble_eq_true rfl) (Nat.le_of_ble_eq_true rfl) (⟨sc1, ar1, rfl, hA.trans fr, Or.inr ⟨rfl, w1⟩⟩)
  · skip
    refine lv_aload_n hx hb dX10_writes_10 rfl (lv_at hl 0 rfl) ?_
    refine rg_X10_48 C h dX10_writes_11 ?_
    refine lv_iload_n hx hb dX10_writes_14 rfl (lv_at hl 2 rfl) ?_
    refine lv_aload_n hx hb dX10_writes_15 rfl (lv_at hl 0 rfl) ?_
    refine rg_X10_28 C h dX10_writes_16 ?_
    refine lv_iload_n hx hb dX10_writes_19 rfl (lv_at hl 2 rfl) ?_
    refine ldA 34 rfl (j := k) (show k < 400 by omega) (by decide) C h dX10_writes_20 ?_
    refine tI (y := ar 34 k) rfl ?_
    refine stA 36 rfl (j := k) (x := ar 34 k) (show k < 40000 by omega) (by decide) C h dX10_writes_21 (fun H locs h => ?_)
    rw [va_uu, va_up_self] at h
    have h : hH z v sc (va_up ar 36 (upd (P) (k) (ar 34 k))) s H locs := h
    refine lv_iinc (v := nI (k + 1)) (lv' := [(2, .int (nI (k + 1))), (0, .ref (zad z 27)), (1, .int (nI (w)))]) hx hb dX10_writes_22 hl (k := 2) rfl (nN_inc _) (by decide) rfl (fun ls hl => ?_)
    refine lv_goto (tgt := 2) hx hb dX10_writes_25 (by decide) ?_
    exact ih_2 (k + 1) (upd P k (ar 34 k)) (by omega) H locs ls ⟨by omega, fun q hq => (by by_cases e : q = k; rw [e, pk_us]; rw [pk_un e]; exact hP q (by omega)), h, lv_sub hl [1, 2, 0] rfl⟩
theorem gv_X10_165 : GoodIn uW (wsV RX10 165 RX10 yX10_writes (Cond.code yX10_writes cX10_writes 8 (some .boolean) :: uW)) := gI_V (uW_of (by decide +kernel) rfl) (uW_of (by decide +kernel) rfl) (uW_of (by decide +kernel) rfl) (uW_of (by decide +kernel) rfl) (uW_of (by decide +kernel) rfl)
theorem gv_X10_165_n : okN yX10_writes 1 := by decide +kernel
set_option maxHeartbeats 4000000 in
set_option maxRecDepth 100000 in
theorem r_cost (l : Launch) (z : bZ) (v : bV) (sc : Nat → Int32) (ar : Nat → Nat → Int32) (K N : Nat) (wt : Nat → Nat → Nat) (dp : Nat → Nat) (y : Int32) (hK : sc 21 = nI K) (hK4 : K ≤ 40) (hRW : RW wt dp K ar) (hN : sc 22 = nI N) (hN4 : N ≤ 400) : Met l yX10_cost (Cond.code yX10_cost cX10_cost 2 (some .int) :: uW) { frames := 13, cells := 0, slots := 0, locals := 427 } (pC z v sc ar [.ref (zad z 27), .int (y)]) (qI z (fun r u => (¬ isW K y ∧ u = (v, va_up sc 20 (nI 1), ar)) ∨ (∃ j, j < K ∧ y = nI j ∧ r = lenI (WR wt dp j (rowL (ar 34) 0 N)) ∧ ∃ sc1 ar1, u = (v, sc1, ar1) ∧ wFr (va_up sc 20 (nI 0)) ar sc1 ar1))) 0 0 (zA z) := by
  refine eM (by decide) (Nat.le_of_ble_eq_true rfl) ?_
  intro pP eE s mM below meth cC ls C hr hlk h hl
  have hx := C.1.1
  have hb := C.1.2.1
  have hl : lv_has ls 2 [(0, .ref (zad z 27)), (1, .int (y))] := hl
  refine lv_aload_n hx hb dX10_cost_0 rfl (lv_at hl 0 rfl) ?_
  refine lv_aload_n hx hb dX10_cost_1 rfl (lv_at hl 0 rfl) ?_
  refine lv_iload_n hx hb dX10_cost_2 rfl (lv_at hl 1 rfl) ?_
  refine backI h (runV (As := [.int (y)]) (rest := [.ref (zad z 27)]) C h (r_isWay l z v sc ar K y hK hK4) gv_X10_113 gv_X10_113_n ⟨rfl, rfl⟩ (r_Ref C h) rfl hl.1 rfl (Nat.le_of_ble_eq_true rfl) dX10_cost_3 ⟨Nat.le_of_ble_eq_true rfl, Nat.le_of_ble_eq_true rfl⟩ ⟨Nat.le_of_ble_eq_true rfl, Nat.le_of_ble_eq_true rfl⟩) (fun r_3 v_3 sc_3 ar_3 H locs p_3 h => ?_)
  have h : hH z v sc ar s H locs := uEq p_3.1 h
  rcases p_3.2 with ⟨er_3, ew_3⟩ | ⟨er_3, ew_3⟩
  · skip
    obtain ⟨j, hj, rfl⟩ := ew_3
    refine tI (y := nI 1) er_3 ?_
    refine zN_eq (tgt := 13) (a := 1) C (by decide) dX10_cost_6 (by decide) (fun q => absurd q (by decide)) (fun _ => ?_)
    refine lv_iconst (v := nI (0)) hx hb dX10_cost_9 (by decide) ?_
    refine lv_goto (tgt := 14) hx hb dX10_cost_10 (by decide) ?_
    refine backI h (runV (As := [.int (nI (0))]) (rest := []) C h (r_refuses l z v sc ar 0 (by decide)) gv_X10_105 gv_X10_105_n ⟨rfl, rfl⟩ (r_Ref C h) rfl hl.1 rfl (Nat.le_of_ble_eq_true rfl) dX10_cost_14 ⟨Nat.le_of_ble_eq_true rfl, Nat.le_of_ble_eq_true rfl⟩ ⟨Nat.le_of_ble_eq_true rfl, Nat.le_of_ble_eq_true rfl⟩) (fun r_14 v_14 sc_14 ar_14 H locs p_14 h => ?_)
    have h : hH z v (va_up sc 20 (nI (0))) ar s H locs := uEq p_14.2 h
    refine tI (y := nI (0)) p_14.1 ?_
    refine zN_eq (tgt := 22) (a := 0) C (by decide) dX10_cost_17 (by decide) (fun _ => ?_) (fun q => absurd q (by decide))
    refine lv_aload_n hx hb dX10_cost_22 rfl (lv_at hl 0 rfl) ?_
    refine lv_iload_n hx hb dX10_cost_23 rfl (lv_at hl 1 rfl) ?_
    refine backI h (runV (As := [.int (nI (j))]) (rest := []) C h (r_writes l z v (va_up sc 20 (nI (0))) ar K N j wt dp hK4 hRW hj hN hN4) gv_X10_165 gv_X10_165_n ⟨rfl, rfl⟩ (r_Ref C h) rfl hl.1 rfl (Nat.le_of_ble_eq_true rfl) dX10_cost_24 ⟨Nat.le_of_ble_eq_true rfl, Nat.le_of_ble_eq_true rfl⟩ ⟨Nat.le_of_ble_eq_true rfl, Nat.le_of_ble_eq_true rfl⟩) (fun r_24 v_24 sc_24 ar_24 H locs p_24 h => ?_)
    obtain ⟨sc1, ar1, eu1, fr1, ho1⟩ := p_24
    have h := uEq eu1 h
    rcases ho1 with hy1 | hy1
    · skip
      obtain ⟨er1, bs1, wr1, hb1, e311, e411⟩ := hy1
      refine tI (y := nI 1) er1 ?_
      refine zN_eq (tgt := 37) (a := 1) C (by decide) dX10_cost_27 (by decide) (fun q => absurd q (by decide)) (fun _ => ?_)
      refine lv_aload_n hx hb dX10_cost_30 rfl (lv_at hl 0 rfl) ?_
      refine rg_X10_141 C h dX10_cost_31 ?_
      refine tI (y := nI (bs1.length)) e311 ?_
      refine lv_goto (tgt := 38) hx hb dX10_cost_34 (by decide) ?_
      exact rI C hr hlk h dX10_cost_38 (Nat.le_of_ble_eq_true rfl) (Nat.le_of_ble_eq_true rfl) (Or.inr ⟨j, hj, rfl, by rw [wr1]; rfl, sc1, ar1, rfl, fr1⟩)
    · skip
      obtain ⟨er1, wr1⟩ := hy1
      refine tI (y := nI 0) er1 ?_
      refine zN_eq (tgt := 37) (a := 0) C (by decide) dX10_cost_27 (by decide) (fun _ => ?_) (fun q => absurd q (by decide))
      refine lv_iconst (v := (-1)) hx hb dX10_cost_37 (by decide) ?_
      exact rI C hr hlk h dX10_cost_38 (Nat.le_of_ble_eq_true rfl) (Nat.le_of_ble_eq_true rfl) (Or.inr ⟨j, hj, rfl, by rw [wr1]; rfl, sc1, ar1, rfl, fr1⟩)
  · skip
    refine tI (y := nI 0) er_3 ?_
    refine zN_eq (tgt := 13) (a := 0) C (by decide) dX10_cost_6 (by decide) (fun _ => ?_) (fun q => absurd q (by decide))
    refine lv_iconst (v := nI (1)) hx hb dX10_cost_13 (by decide) ?_
    refine backI h (runV (As := [.int (nI (1))]) (rest := []) C h (r_refuses l z v sc ar 1 (by decide)) gv_X10_105 gv_X10_105_n ⟨rfl, rfl⟩ (r_Ref C h) rfl hl.1 rfl (Nat.le_of_ble_eq_true rfl) dX10_cost_14 ⟨Nat.le_of_ble_eq_true rfl, Nat.le_of_ble_eq_true rfl⟩ ⟨Nat.le_of_ble_eq_true rfl, Nat.le_of_ble_eq_true rfl⟩) (fun r_14 v_14 sc_14 ar_14 H locs p_14 h => ?_)
    have h : hH z v (va_up sc 20 (nI (1))) ar s H locs := uEq p_14.2 h
    refine tI (y := nI (1)) p_14.1 ?_
    refine zN_eq (tgt := 22) (a := 1) C (by decide) dX10_cost_17 (by decide) (fun q => absurd q (by decide)) (fun _ => ?_)
    refine lv_iconst (v := nI (0)) hx hb dX10_cost_20 (by decide) ?_
    exact rI C hr hlk h dX10_cost_21 (Nat.le_of_ble_eq_true rfl) (Nat.le_of_ble_eq_true rfl) (Or.inl ⟨ew_3, rfl⟩)
set_option maxHeartbeats 4000000 in
set_option maxRecDepth 100000 in
theorem r_pack (l : Launch) (z : bZ) (v : bV) (sc : Nat → Int32) (ar : Nat → Nat → Int32) (K N n : Nat) (wt : Nat → Nat → Nat) (dp : Nat → Nat) (y : Int32) (hK : sc 21 = nI K) (hK4 : K ≤ 40) (hRW : RW wt dp K ar) (hN : sc 22 = nI N) (hN4 : N ≤ 400) (hn : sc 23 = nI n) (hn8 : n ≤ 8000) : Met l yX10_pack (Cond.code yX10_pack cX10_pack 3 (some .int) :: uW) { frames := 13, cells := 0, slots := 0, locals := 427 } (pC z v sc ar [.ref (zad z 27), .int (y)]) (qI z (fun r u => (¬ isW K y ∧ u = (v, va_up sc 20 (nI 1), ar)) ∨ (∃ j, j < K ∧ y = nI j ∧ ∃ sc1 ar1, wFr (va_up sc 20 (nI 0)) ar sc1 ar1 ∧ ((WR wt dp j (rowL (ar 34) 0 N) = none ∧ r = -1 ∧ u = (v, sc1, ar1)) ∨ (∃ bs, WR wt dp j (rowL (ar 34) 0 N) = some bs ∧ ((8000 < n + bs.length ∧ u = (v, va_up sc1 20 (nI 2), ar1)) ∨ (n + bs.length ≤ 8000 ∧ r = nI bs.length ∧ ∃ g, u = (v, va_up (va_up sc1 20 (nI 0)) 23 (nI (n + bs.length)), va_up ar1 35 g) ∧ (∀ q, q < n → g q = ar 35 q) ∧ ∀ q, q < bs.length → g (n + q) = nI (bs.getD q 0)))))))) 0 0 (zA z) := by
  refine eM (by decide) (Nat.le_of_ble_eq_true rfl) ?_
  intro pP eE s mM below meth cC ls C hr hlk h hl
  have hx := C.1.1
  have hb := C.1.2.1
  have hl : lv_has ls 3 [(0, .ref (zad z 27)), (1, .int (y))] := hl
  refine lv_aload_n hx hb dX10_pack_0 rfl (lv_at hl 0 rfl) ?_
  refine lv_aload_n hx hb dX10_pack_1 rfl (lv_at hl 0 rfl) ?_
  refine lv_iload_n hx hb dX10_pack_2 rfl (lv_at hl 1 rfl) ?_
  refine backI h (runV (As := [.int (y)]) (rest := [.ref (zad z 27)]) C h (r_isWay l z v sc ar K y hK hK4) gv_X10_113 gv_X10_113_n ⟨rfl, rfl⟩ (r_Ref C h) rfl hl.1 rfl (Nat.le_of_ble_eq_true rfl) dX10_pack_3 ⟨Nat.le_of_ble_eq_true rfl, Nat.le_of_ble_eq_true rfl⟩ ⟨Nat.le_of_ble_eq_true rfl, Nat.le_of_ble_eq_true rfl⟩) (fun r_3 v_3 sc_3 ar_3 H locs p_3 h => ?_)
  have h : hH z v sc ar s H locs := uEq p_3.1 h
  rcases p_3.2 with ⟨er_3, ew_3⟩ | ⟨er_3, ew_3⟩
  · skip
    obtain ⟨j, hj, rfl⟩ := ew_3
    refine tI (y := nI 1) er_3 ?_
    refine zN_eq (tgt := 13) (a := 1) C (by decide) dX10_pack_6 (by decide) (fun q => absurd q (by decide)) (fun _ => ?_)
    refine lv_iconst (v := nI (0)) hx hb dX10_pack_9 (by decide) ?_
    refine lv_goto (tgt := 14) hx hb dX10_pack_10 (by decide) ?_
    refine backI h (runV (As := [.int (nI (0))]) (rest := []) C h (r_refuses l z v sc ar 0 (by decide)) gv_X10_105 gv_X10_105_n ⟨rfl, rfl⟩ (r_Ref C h) rfl hl.1 rfl (Nat.le_of_ble_eq_true rfl) dX10_pack_14 ⟨Nat.le_of_ble_eq_true rfl, Nat.le_of_ble_eq_true rfl⟩ ⟨Nat.le_of_ble_eq_true rfl, Nat.le_of_ble_eq_true rfl⟩) (fun r_14 v_14 sc_14 ar_14 H locs p_14 h => ?_)
    have h : hH z v (va_up sc 20 (nI (0))) ar s H locs := uEq p_14.2 h
    refine tI (y := nI (0)) p_14.1 ?_
    refine zN_eq (tgt := 22) (a := 0) C (by decide) dX10_pack_17 (by decide) (fun _ => ?_) (fun q => absurd q (by decide))
    refine lv_aload_n hx hb dX10_pack_22 rfl (lv_at hl 0 rfl) ?_
    refine lv_iload_n hx hb dX10_pack_23 rfl (lv_at hl 1 rfl) ?_
    refine backI h (runV (As := [.int (nI (j))]) (rest := []) C h (r_writes l z v (va_up sc 20 (nI (0))) ar K N j wt dp hK4 hRW hj hN hN4) gv_X10_165 gv_X10_165_n ⟨rfl, rfl⟩ (r_Ref C h) rfl hl.1 rfl (Nat.le_of_ble_eq_true rfl) dX10_pack_24 ⟨Nat.le_of_ble_eq_true rfl, Nat.le_of_ble_eq_true rfl⟩ ⟨Nat.le_of_ble_eq_true rfl, Nat.le_of_ble_eq_true rfl⟩) (fun r_24 v_24 sc_24 ar_24 H locs p_24 h => ?_)
    obtain ⟨sc1, ar1, eu1, fr1, ho1⟩ := p_24
    have h := uEq eu1 h
    rcases ho1 with hy1 | hy1
    · skip
      obtain ⟨er1, bs1, wr1, hb1, e311, e411⟩ := hy1
      refine tI (y := nI 1) er1 ?_
      refine zN_ne (tgt := 32) (a := 1) C (by decide) dX10_pack_27 (by decide) (fun _ => ?_) (fun q => absurd q (by decide))
      have e23 : sc1 23 = nI n := (fr1.1 23 (by decide) (by decide) (by decide)).trans hn
      refine lv_aload_n hx hb dX10_pack_32 rfl (lv_at hl 0 rfl) ?_
      refine lv_aload_n hx hb dX10_pack_33 rfl (lv_at hl 0 rfl) ?_
      refine rg_X10_168 C h dX10_pack_34 ?_
      refine tI (y := nI (n)) e23 ?_
      refine lv_aload_n hx hb dX10_pack_37 rfl (lv_at hl 0 rfl) ?_
      refine rg_X10_141 C h dX10_pack_38 ?_
      refine tI (y := nI (bs1.length)) e311 ?_
      refine lv_iadd hx hb dX10_pack_41 ?_
      refine tI (y := nI (n + bs1.length)) (nI_add _ _) ?_
      refine lv_sipush (v := nI (8000)) hx hb dX10_pack_42 (by decide) ?_
      refine jN_le (tgt := 52) (a := n + bs1.length) (b := 8000) C (by omega) (by omega) dX10_pack_45 (by decide) (fun c_45 => ?_) (fun c_45 => ?_)
      · skip
        refine lv_iconst (v := nI (0)) hx hb dX10_pack_52 (by decide) ?_
        refine backI h (runV (As := [.int (nI (0))]) (rest := []) C h (r_refuses l z v sc1 ar1 0 (by decide)) gv_X10_105 gv_X10_105_n ⟨rfl, rfl⟩ (r_Ref C h) rfl hl.1 rfl (Nat.le_of_ble_eq_true rfl) dX10_pack_53 ⟨Nat.le_of_ble_eq_true rfl, Nat.le_of_ble_eq_true rfl⟩ ⟨Nat.le_of_ble_eq_true rfl, Nat.le_of_ble_eq_true rfl⟩) (fun r_53 v_53 sc_53 ar_53 H locs p_53 h => ?_)
        have h : hH z v (va_up sc1 20 (nI (0))) ar1 s H locs := uEq p_53.2 h
        refine tI (y := nI (0)) p_53.1 ?_
        refine zN_eq (tgt := 61) (a := 0) C (by decide) dX10_pack_56 (by decide) (fun _ => ?_) (fun q => absurd q (by decide))
        refine lv_iconst (v := nI (0)) hx hb dX10_pack_61 (by decide) ?_
        refine lv_istore_n (lv' := [(2, .int (nI (0))), (0, .ref (zad z 27)), (1, .int (nI (j)))]) hx hb dX10_pack_62 rfl hl (by decide) rfl (fun ls hl => ?_)
        refine lpW2 (fun (k : Nat) (g : Nat → Int32) (H : Heap) (locs : List Loc) (ls : Array Slot) => (k ≤ bs1.length) ∧ (∀ q, q < n → g q = ar1 35 q) ∧ (∀ q, q < k → g (n + q) = nI (bs1.getD q 0)) ∧ hH z v (va_up sc1 20 (nI 0)) (va_up ar1 35 g) s H locs ∧ lv_has ls 3 [(0, .ref (zad z 27)), (2, .int (nI (k)))]) (fun (k : Nat) (g : Nat → Int32) => bs1.length - k) (fun k g ih_63 H locs ls hI => ?_) (0) (ar1 35) ⟨Nat.zero_le _, fun _ _ => rfl, fun q hq => absurd hq (Nat.not_lt_zero _), (by rw [va_us]; exact h), lv_sub hl [1, 0] rfl⟩
        obtain ⟨h1, h2, h3, h, hl⟩ := hI
        refine lv_iload_n hx hb dX10_pack_63 rfl (lv_at hl 1 rfl) ?_
        refine lv_aload_n hx hb dX10_pack_64 rfl (lv_at hl 0 rfl) ?_
        refine rg_X10_141 C h dX10_pack_65 ?_
        refine tI (y := nI (bs1.length)) e311 ?_
        refine jN_ge (tgt := 94) (a := k) (b := bs1.length) C (by omega) (by omega) dX10_pack_68 (by decide) (fun c_68 => ?_) (fun c_68 => ?_)
        · skip
          refine lv_aload_n hx hb dX10_pack_94 rfl (lv_at hl 0 rfl) ?_
          refine lv_dup hx hb dX10_pack_95 rfl ?_
          refine rg_X10_168 C h dX10_pack_96 ?_
          refine tI (y := nI (n)) e23 ?_
          refine lv_aload_n hx hb dX10_pack_99 rfl (lv_at hl 0 rfl) ?_
          refine rg_X10_141 C h dX10_pack_100 ?_
          refine tI (y := nI (bs1.length)) e311 ?_
          refine lv_iadd hx hb dX10_pack_103 ?_
          refine tI (y := nI (n + bs1.length)) (nI_add _ _) ?_
          refine rp_X10_168 C h dX10_pack_104 (fun H locs h => ?_)
          refine lv_aload_n hx hb dX10_pack_107 rfl (lv_at hl 0 rfl) ?_
          refine rg_X10_141 C h dX10_pack_108 ?_
          refine tI (y := nI (bs1.length)) e311 ?_
          exact rI C hr hlk h dX10_pack_111 (Nat.le_of_ble_eq_true rfl) (Nat.le_of_ble_eq_true rfl) ((Or.inr ⟨j, hj, rfl, sc1, ar1, fr1, Or.inr ⟨bs1, wr1, Or.inr ⟨c_45, rfl, g, rfl, fun q hq => (h2 q hq).trans (congrFun (fr1.2 35 (by omega)) q), fun q hq => h3 q (by omega)⟩⟩⟩))
        · skip
          refine lv_aload_n hx hb dX10_pack_71 rfl (lv_at hl 0 rfl) ?_
          refine rg_X10_31 C h dX10_pack_72 ?_
          refine lv_aload_n hx hb dX10_pack_75 rfl (lv_at hl 0 rfl) ?_
          refine rg_X10_168 C h dX10_pack_76 ?_
          refine tI (y := nI (n)) e23 ?_
          refine lv_iload_n hx hb dX10_pack_79 rfl (lv_at hl 1 rfl) ?_
          refine lv_iadd hx hb dX10_pack_80 ?_
          refine tI (y := nI (n + k)) (nI_add _ _) ?_
          refine lv_aload_n hx hb dX10_pack_81 rfl (lv_at hl 0 rfl) ?_
          refine rg_X10_63 C h dX10_pack_82 ?_
          refine lv_iload_n hx hb dX10_pack_85 rfl (lv_at hl 1 rfl) ?_
          refine ldA 41 rfl (j := k) (show k < 8000 by omega) (by decide) C h dX10_pack_86 ?_
          refine tI (y := nI (bs1.getD k 0)) (by show ar1 41 k = _; rw [e411, wrO_in (by omega)]; rfl) ?_
          refine stA 35 rfl (j := n + k) (x := nI (bs1.getD k 0)) (show n + k < 8000 by omega) (by decide) C h dX10_pack_87 (fun H locs h => ?_)
          rw [va_uu, va_up_self] at h
          have h : hH z v (va_up sc1 20 (nI 0)) (va_up ar1 35 (upd (g) (n + k) (nI (bs1.getD k 0)))) s H locs := h
          refine lv_iinc (v := nI (k + 1)) (lv' := [(2, .int (nI (k + 1))), (0, .ref (zad z 27))]) hx hb dX10_pack_88 hl (k := 1) rfl (nN_inc _) (by decide) rfl (fun ls hl => ?_)
          refine lv_goto (tgt := 63) hx hb dX10_pack_91 (by decide) ?_
          exact ih_63 (k + 1) (upd g (n + k) (nI (bs1.getD k 0))) (by omega) H locs ls ⟨by omega, fun q hq => (by rw [pk_un (by omega)]; exact h2 q hq), fun q hq => (by by_cases e : q = k; rw [e, pk_us]; rw [pk_un (by omega)]; exact h3 q (by omega)), h, lv_sub hl [1, 0] rfl⟩
      · skip
        refine lv_iconst (v := nI (2)) hx hb dX10_pack_48 (by decide) ?_
        refine lv_goto (tgt := 53) hx hb dX10_pack_49 (by decide) ?_
        refine backI h (runV (As := [.int (nI (2))]) (rest := []) C h (r_refuses l z v sc1 ar1 2 (by decide)) gv_X10_105 gv_X10_105_n ⟨rfl, rfl⟩ (r_Ref C h) rfl hl.1 rfl (Nat.le_of_ble_eq_true rfl) dX10_pack_53 ⟨Nat.le_of_ble_eq_true rfl, Nat.le_of_ble_eq_true rfl⟩ ⟨Nat.le_of_ble_eq_true rfl, Nat.le_of_ble_eq_true rfl⟩) (fun r_53 v_53 sc_53 ar_53 H locs p_53 h => ?_)
        have h : hH z v (va_up sc1 20 (nI (2))) ar1 s H locs := uEq p_53.2 h
        refine tI (y := nI (1)) p_53.1 ?_
        refine zN_eq (tgt := 61) (a := 1) C (by decide) dX10_pack_56 (by decide) (fun q => absurd q (by decide)) (fun _ => ?_)
        refine lv_iconst (v := nI (0)) hx hb dX10_pack_59 (by decide) ?_
        exact rI C hr hlk h dX10_pack_60 (Nat.le_of_ble_eq_true rfl) (Nat.le_of_ble_eq_true rfl) ((Or.inr ⟨j, hj, rfl, sc1, ar1, fr1, Or.inr ⟨bs1, wr1, Or.inl ⟨by omega, rfl⟩⟩⟩))
    · skip
      obtain ⟨er1, wr1⟩ := hy1
      refine tI (y := nI 0) er1 ?_
      refine zN_ne (tgt := 32) (a := 0) C (by decide) dX10_pack_27 (by decide) (fun q => absurd q (by decide)) (fun _ => ?_)
      refine lv_iconst (v := (-1)) hx hb dX10_pack_30 (by decide) ?_
      exact rI C hr hlk h dX10_pack_31 (Nat.le_of_ble_eq_true rfl) (Nat.le_of_ble_eq_true rfl) ((Or.inr ⟨j, hj, rfl, sc1, ar1, fr1, Or.inl ⟨wr1, rfl, rfl⟩⟩))
  · skip
    refine tI (y := nI 0) er_3 ?_
    refine zN_eq (tgt := 13) (a := 0) C (by decide) dX10_pack_6 (by decide) (fun _ => ?_) (fun q => absurd q (by decide))
    refine lv_iconst (v := nI (1)) hx hb dX10_pack_13 (by decide) ?_
    refine backI h (runV (As := [.int (nI (1))]) (rest := []) C h (r_refuses l z v sc ar 1 (by decide)) gv_X10_105 gv_X10_105_n ⟨rfl, rfl⟩ (r_Ref C h) rfl hl.1 rfl (Nat.le_of_ble_eq_true rfl) dX10_pack_14 ⟨Nat.le_of_ble_eq_true rfl, Nat.le_of_ble_eq_true rfl⟩ ⟨Nat.le_of_ble_eq_true rfl, Nat.le_of_ble_eq_true rfl⟩) (fun r_14 v_14 sc_14 ar_14 H locs p_14 h => ?_)
    have h : hH z v (va_up sc 20 (nI (1))) ar s H locs := uEq p_14.2 h
    refine tI (y := nI (1)) p_14.1 ?_
    refine zN_eq (tgt := 22) (a := 1) C (by decide) dX10_pack_17 (by decide) (fun q => absurd q (by decide)) (fun _ => ?_)
    refine lv_iconst (v := nI (0)) hx hb dX10_pack_20 (by decide) ?_
    exact rI C hr hlk h dX10_pack_21 (Nat.le_of_ble_eq_true rfl) (Nat.le_of_ble_eq_true rfl) (Or.inl ⟨ew_3, rfl⟩)
set_option maxHeartbeats 4000000 in
set_option maxRecDepth 100000 in
theorem r_place (l : Launch) (z : bZ) (v : bV) (sc : Nat → Int32) (ar : Nat → Nat → Int32)   : Met l yX10_place (Cond.code yX10_place cX10_place 1 (some .int) :: uW) { frames := 0, cells := 0, slots := 0, locals := 0 } (pC z v sc ar [.ref (zad z 27)]) (qI z (fun r u => r = sc 25 ∧ u = (v, va_up sc 20 (nI 0), ar))) 0 0 (zA z) := by
  refine eM (by decide) (Nat.le_of_ble_eq_true rfl) ?_
  intro pP eE s mM below meth cC ls C hr hlk h hl
  have hx := C.1.1
  have hb := C.1.2.1
  have hl : lv_has ls 1 [(0, .ref (zad z 27))] := hl
  refine lv_aload_n hx hb dX10_place_0 rfl (lv_at hl 0 rfl) ?_
  refine lv_iconst (v := nI (0)) hx hb dX10_place_1 (by decide) ?_
  refine rp_X10_99 C h dX10_place_2 (fun H locs h => ?_)
  refine lv_aload_n hx hb dX10_place_5 rfl (lv_at hl 0 rfl) ?_
  refine rg_X10_34 C h dX10_place_6 ?_
  refine tI (y := sc 25) rfl ?_
  exact rI C hr hlk h dX10_place_9 (Nat.le_of_ble_eq_true rfl) (Nat.le_of_ble_eq_true rfl) (⟨rfl, rfl⟩)
set_option maxHeartbeats 4000000 in
set_option maxRecDepth 100000 in
theorem r_best (l : Launch) (z : bZ) (v : bV) (sc : Nat → Int32) (ar : Nat → Nat → Int32) (K N : Nat) (wt : Nat → Nat → Nat) (dp : Nat → Nat) (y1 y2 : Int32) (hK : sc 21 = nI K) (hK4 : K ≤ 40) (hRW : RW wt dp K ar) (hN : sc 22 = nI N) (hN4 : N ≤ 400) : Met l yX10_best (Cond.code yX10_best cX10_best 6 (some .int) :: uW) { frames := 13, cells := 0, slots := 0, locals := 427 } (pC z v sc ar [.ref (zad z 27), .int (y1), .int (y2)]) (qI z (fun r u => (¬ (∃ a b, y1 = nI a ∧ y2 = nI b ∧ a ≤ b ∧ b < K) ∧ u = (v, va_up sc 20 (nI 1), ar)) ∨ (∃ j1 j2, y1 = nI j1 ∧ y2 = nI j2 ∧ j1 ≤ j2 ∧ j2 < K ∧ r = oI ((bst (wLen wt dp (rowL (ar 34) 0 N)) j1 (j2 + 1 - j1)).map Prod.fst) ∧ ∃ sc1 ar1, u = (v, sc1, ar1) ∧ wFr (va_up sc 20 (nI 0)) ar sc1 ar1))) 0 0 (zA z) := by
  refine eM (by decide) (Nat.le_of_ble_eq_true rfl) ?_
  intro pP eE s mM below meth cC ls C hr hlk h hl
  have hx := C.1.1
  have hb := C.1.2.1
  have hl : lv_has ls 6 [(0, .ref (zad z 27)), (1, .int (y1)), (2, .int (y2))] := hl
  refine lv_aload_n hx hb dX10_best_0 rfl (lv_at hl 0 rfl) ?_
  refine lv_aload_n hx hb dX10_best_1 rfl (lv_at hl 0 rfl) ?_
  refine lv_iload_n hx hb dX10_best_2 rfl (lv_at hl 1 rfl) ?_
  refine backI h (runV (As := [.int (y1)]) (rest := [.ref (zad z 27)]) C h (r_isWay l z v sc ar K y1 hK hK4) gv_X10_113 gv_X10_113_n ⟨rfl, rfl⟩ (r_Ref C h) rfl hl.1 rfl (Nat.le_of_ble_eq_true rfl) dX10_best_3 ⟨Nat.le_of_ble_eq_true rfl, Nat.le_of_ble_eq_true rfl⟩ ⟨Nat.le_of_ble_eq_true rfl, Nat.le_of_ble_eq_true rfl⟩) (fun r_3 v_3 sc_3 ar_3 H locs p_3 h => ?_)
  have h : hH z v sc ar s H locs := uEq p_3.1 h
  rcases p_3.2 with ⟨er_3, ew_3⟩ | ⟨er_3, ew_3⟩
  · skip
    obtain ⟨j1, hj1, rfl⟩ := ew_3
    refine tI (y := nI 1) er_3 ?_
    refine zN_eq (tgt := 22) (a := 1) C (by decide) dX10_best_6 (by decide) (fun q => absurd q (by decide)) (fun _ => ?_)
    refine lv_aload_n hx hb dX10_best_9 rfl (lv_at hl 0 rfl) ?_
    refine lv_iload_n hx hb dX10_best_10 rfl (lv_at hl 2 rfl) ?_
    refine backI h (runV (As := [.int (y2)]) (rest := [.ref (zad z 27)]) C h (r_isWay l z v sc ar K y2 hK hK4) gv_X10_113 gv_X10_113_n ⟨rfl, rfl⟩ (r_Ref C h) rfl hl.1 rfl (Nat.le_of_ble_eq_true rfl) dX10_best_11 ⟨Nat.le_of_ble_eq_true rfl, Nat.le_of_ble_eq_true rfl⟩ ⟨Nat.le_of_ble_eq_true rfl, Nat.le_of_ble_eq_true rfl⟩) (fun r_11 v_11 sc_11 ar_11 H locs p_11 h => ?_)
    have h : hH z v sc ar s H locs := uEq p_11.1 h
    rcases p_11.2 with ⟨er_11, ew_11⟩ | ⟨er_11, ew_11⟩
    · skip
      obtain ⟨j2, hj2, rfl⟩ := ew_11
      refine tI (y := nI 1) er_11 ?_
      refine zN_eq (tgt := 22) (a := 1) C (by decide) dX10_best_14 (by decide) (fun q => absurd q (by decide)) (fun _ => ?_)
      refine lv_iload_n hx hb dX10_best_17 rfl (lv_at hl 2 rfl) ?_
      refine lv_iload_n hx hb dX10_best_18 rfl (lv_at hl 1 rfl) ?_
      refine jN_ge (tgt := 26) (a := j2) (b := j1) C (by omega) (by omega) dX10_best_19 (by decide) (fun c_19 => ?_) (fun c_19 => ?_)
      · skip
        refine lv_iconst (v := nI (0)) hx hb dX10_best_26 (by decide) ?_
        refine backI h (runV (As := [.int (nI (0))]) (rest := []) C h (r_refuses l z v sc ar 0 (by decide)) gv_X10_105 gv_X10_105_n ⟨rfl, rfl⟩ (r_Ref C h) rfl hl.1 rfl (Nat.le_of_ble_eq_true rfl) dX10_best_27 ⟨Nat.le_of_ble_eq_true rfl, Nat.le_of_ble_eq_true rfl⟩ ⟨Nat.le_of_ble_eq_true rfl, Nat.le_of_ble_eq_true rfl⟩) (fun r_27 v_27 sc_27 ar_27 H locs p_27 h => ?_)
        have h : hH z v (va_up sc 20 (nI (0))) ar s H locs := uEq p_27.2 h
        refine tI (y := nI (0)) p_27.1 ?_
        refine zN_eq (tgt := 35) (a := 0) C (by decide) dX10_best_30 (by decide) (fun _ => ?_) (fun q => absurd q (by decide))
        refine lv_iconst (v := (-1)) hx hb dX10_best_35 (by decide) ?_
        refine lv_istore_n (lv' := [(3, .int ((-1))), (0, .ref (zad z 27)), (1, .int (nI (j1))), (2, .int (nI (j2)))]) hx hb dX10_best_36 rfl hl (by decide) rfl (fun ls hl => ?_)
        refine lv_iconst (v := (-1)) hx hb dX10_best_37 (by decide) ?_
        refine lv_istore (lv' := [(4, .int ((-1))), (3, .int ((-1))), (0, .ref (zad z 27)), (1, .int (nI (j1))), (2, .int (nI (j2)))]) hx hb dX10_best_38 hl (by decide) rfl (fun ls hl => ?_)
        refine lv_iload_n hx hb dX10_best_40 rfl (lv_at hl 3 rfl) ?_
        refine lv_istore (lv' := [(5, .int (nI (j1))), (4, .int ((-1))), (3, .int ((-1))), (0, .ref (zad z 27)), (1, .int (nI (j1))), (2, .int (nI (j2)))]) hx hb dX10_best_41 hl (by decide) rfl (fun ls hl => ?_)
        refine lpW4 (fun (i : Nat) (o : Option (Nat × Nat)) (sc1 : Nat → Int32) (ar1 : Nat → Nat → Int32) (H : Heap) (locs : List Loc) (ls : Array Slot) => (j1 ≤ i ∧ i ≤ j2 + 1) ∧ (o = bst (wLen wt dp (rowL (ar 34) 0 N)) j1 (i - j1)) ∧ (∀ x, o = some x → x.1 ≤ 40 ∧ x.2 ≤ 1500000) ∧ (wFr (va_up sc 20 (nI 0)) ar sc1 ar1) ∧ hH z v sc1 ar1 s H locs ∧ lv_has ls 6 [(0, .ref (zad z 27)), (2, .int (nI (j2))), (3, .int (oI (o.map Prod.snd))), (4, .int (oI (o.map Prod.fst))), (5, .int (nI (i)))]) (fun (i : Nat) (o : Option (Nat × Nat)) (sc1 : Nat → Int32) (ar1 : Nat → Nat → Int32) => j2 + 1 - i) (fun i o sc1 ar1 ih_43 H locs ls hI => ?_) (j1) (none) ((va_up sc 20 (nI 0))) (ar) ⟨⟨Nat.le_refl _, by omega⟩, by rw [Nat.sub_self]; rfl, (fun x e => by cases e), ⟨fun _ _ _ _ => rfl, fun _ _ => rfl⟩, h, lv_sub hl [3, 5, 2, 1, 0] rfl⟩
        obtain ⟨h1, h2, hob, hx1, h, hl⟩ := hI
        refine lv_iload hx hb dX10_best_43 (lv_at hl 4 rfl) ?_
        refine lv_iload_n hx hb dX10_best_45 rfl (lv_at hl 1 rfl) ?_
        refine jN_gt (tgt := 87) (a := i) (b := j2) C (by omega) (by omega) dX10_best_46 (by decide) (fun c_46 => ?_) (fun c_46 => ?_)
        · skip
          refine lv_iload hx hb dX10_best_87 (lv_at hl 3 rfl) ?_
          exact rI C hr hlk h dX10_best_89 (Nat.le_of_ble_eq_true rfl) (Nat.le_of_ble_eq_true rfl) ((Or.inr ⟨j1, j2, rfl, rfl, c_19, hj2, by rw [h2, show i - j1 = j2 + 1 - j1 by omega], sc1, ar1, rfl, hx1⟩))
        · skip
          refine lv_aload_n hx hb dX10_best_49 rfl (lv_at hl 0 rfl) ?_
          refine lv_iload hx hb dX10_best_50 (lv_at hl 4 rfl) ?_
          refine backI h (runV (As := [.int (nI (i))]) (rest := []) C h (r_writes l z v sc1 ar1 K N i wt dp hK4 (hRW.fr hx1.2) (by omega) ((hx1.1 22 (by decide) (by decide) (by decide)).trans hN) hN4) gv_X10_165 gv_X10_165_n ⟨rfl, rfl⟩ (r_Ref C h) rfl hl.1 rfl (Nat.le_of_ble_eq_true rfl) dX10_best_52 ⟨Nat.le_of_ble_eq_true rfl, Nat.le_of_ble_eq_true rfl⟩ ⟨Nat.le_of_ble_eq_true rfl, Nat.le_of_ble_eq_true rfl⟩) (fun r_52 v_52 sc_52 ar_52 H locs p_52 h => ?_)
          unfold wQR at p_52
          rw [show ar1 34 = ar 34 from hx1.2 34 (by omega)] at p_52
          have hwl : (wLen wt dp (rowL (ar 34) 0 N)) i = (WR wt dp i (rowL (ar 34) 0 N)).map List.length := rfl
          obtain ⟨sc2, ar2, eu2, fr2, ho2⟩ := p_52
          have h := uEq eu2 h
          rcases ho2 with hy2 | hy2
          · skip
            obtain ⟨er2, bs2, wr2, hb2, e312, e412⟩ := hy2
            refine tI (y := nI 1) er2 ?_
            refine zN_eq (tgt := 81) (a := 1) C (by decide) dX10_best_55 (by decide) (fun q => absurd q (by decide)) (fun _ => ?_)
            refine lv_iload hx hb dX10_best_58 (lv_at hl 3 rfl) ?_
            refine lv_iconst (v := (-1)) hx hb dX10_best_60 (by decide) ?_
            refine lv_icmp_eq (tgt := 72) hx hb dX10_best_61 (by decide) (fun c_61 => ?_) (fun c_61 => ?_)
            · skip
              have eo : o = none := by
                rcases o with _ | x
                · rfl
                · exact absurd c_61 (nI_neg1 (by have := hob x rfl; show x.1 < _; omega))
              refine lv_iload hx hb dX10_best_72 (lv_at hl 4 rfl) ?_
              refine lv_istore (lv' := [(4, .int (nI (i))), (0, .ref (zad z 27)), (2, .int (nI (j2))), (3, .int (oI (o.map Prod.snd))), (5, .int (nI (i)))]) hx hb dX10_best_74 hl (by decide) rfl (fun ls hl => ?_)
              refine lv_aload_n hx hb dX10_best_76 rfl (lv_at hl 1 rfl) ?_
              refine rg_X10_141 C h dX10_best_77 ?_
              refine tI (y := nI (bs2.length)) e312 ?_
              refine lv_istore_n (lv' := [(3, .int (nI (bs2.length))), (4, .int (nI (i))), (0, .ref (zad z 27)), (2, .int (nI (j2))), (5, .int (nI (i)))]) hx hb dX10_best_80 rfl hl (by decide) rfl (fun ls hl => ?_)
              refine lv_iinc (v := nI (i + 1)) (lv' := [(5, .int (nI (i + 1))), (3, .int (nI (bs2.length))), (4, .int (nI (i))), (0, .ref (zad z 27)), (2, .int (nI (j2)))]) hx hb dX10_best_81 hl (k := 4) rfl (nN_inc _) (by decide) rfl (fun ls hl => ?_)
              refine lv_goto (tgt := 43) hx hb dX10_best_84 (by decide) ?_
              exact ih_43 (i + 1) (some (i, bs2.length)) (sc2) (ar2) (by omega) H locs ls ⟨⟨by omega, by omega⟩, by rw [show i + 1 - j1 = i - j1 + 1 by omega]; unfold bst; rw [show j1 + (i - j1) = i by omega, hwl, wr2, ← h2, eo]; rfl, (fun y e => by cases e; exact ⟨by omega, by show bs2.length ≤ _; omega⟩), hx1.trans fr2, h, lv_sub hl [3, 4, 1, 2, 0] rfl⟩
            · skip
              obtain ⟨x, eo⟩ : ∃ x, o = some x := by
                rcases o with _ | x
                · exact absurd rfl c_61
                · exact ⟨x, rfl⟩
              have hx1b := hob x eo
              have hl : lv_has ls 6 [(0, .ref (zad z 27)), (2, .int (nI (j2))), (3, .int (nI (x.2))), (4, .int (nI (x.1))), (5, .int (nI (i)))] := by rw [eo] at hl; exact hl
              refine lv_aload_n hx hb dX10_best_64 rfl (lv_at hl 0 rfl) ?_
              refine rg_X10_141 C h dX10_best_65 ?_
              refine tI (y := nI (bs2.length)) e312 ?_
              refine lv_iload_n hx hb dX10_best_68 rfl (lv_at hl 2 rfl) ?_
              refine jN_ge (tgt := 81) (a := bs2.length) (b := x.2) C (by omega) (by omega) dX10_best_69 (by decide) (fun c_69 => ?_) (fun c_69 => ?_)
              · skip
                refine lv_iinc (v := nI (i + 1)) (lv' := [(5, .int (nI (i + 1))), (0, .ref (zad z 27)), (2, .int (nI (j2))), (3, .int (nI (x.2))), (4, .int (nI (x.1)))]) hx hb dX10_best_81 hl (k := 4) rfl (nN_inc _) (by decide) rfl (fun ls hl => ?_)
                refine lv_goto (tgt := 43) hx hb dX10_best_84 (by decide) ?_
                exact ih_43 (i + 1) (some x) (sc2) (ar2) (by omega) H locs ls ⟨⟨by omega, by omega⟩, by rw [show i + 1 - j1 = i - j1 + 1 by omega]; unfold bst; rw [show j1 + (i - j1) = i by omega, hwl, wr2, ← h2, eo]; show some x = if bs2.length < x.2 then _ else some x; rw [if_neg (by omega)], fun y e => hob y (eo.trans e), hx1.trans fr2, h, lv_sub hl [1, 2, 3, 4, 0] rfl⟩
              · skip
                refine lv_iload hx hb dX10_best_72 (lv_at hl 4 rfl) ?_
                refine lv_istore (lv' := [(4, .int (nI (i))), (0, .ref (zad z 27)), (2, .int (nI (j2))), (3, .int (nI (x.2))), (5, .int (nI (i)))]) hx hb dX10_best_74 hl (by decide) rfl (fun ls hl => ?_)
                refine lv_aload_n hx hb dX10_best_76 rfl (lv_at hl 1 rfl) ?_
                refine rg_X10_141 C h dX10_best_77 ?_
                refine tI (y := nI (bs2.length)) e312 ?_
                refine lv_istore_n (lv' := [(3, .int (nI (bs2.length))), (4, .int (nI (i))), (0, .ref (zad z 27)), (2, .int (nI (j2))), (5, .int (nI (i)))]) hx hb dX10_best_80 rfl hl (by decide) rfl (fun ls hl => ?_)
                refine lv_iinc (v := nI (i + 1)) (lv' := [(5, .int (nI (i + 1))), (3, .int (nI (bs2.length))), (4, .int (nI (i))), (0, .ref (zad z 27)), (2, .int (nI (j2)))]) hx hb dX10_best_81 hl (k := 4) rfl (nN_inc _) (by decide) rfl (fun ls hl => ?_)
                refine lv_goto (tgt := 43) hx hb dX10_best_84 (by decide) ?_
                exact ih_43 (i + 1) (some (i, bs2.length)) (sc2) (ar2) (by omega) H locs ls ⟨⟨by omega, by omega⟩, by rw [show i + 1 - j1 = i - j1 + 1 by omega]; unfold bst; rw [show j1 + (i - j1) = i by omega, hwl, wr2, ← h2, eo]; show _ = if bs2.length < x.2 then some (i, bs2.length) else some x; rw [if_pos c_69], (fun y e => by cases e; exact ⟨by omega, by show bs2.length ≤ _; omega⟩), hx1.trans fr2, h, lv_sub hl [3, 4, 1, 2, 0] rfl⟩
          · skip
            obtain ⟨er2, wr2⟩ := hy2
            refine tI (y := nI 0) er2 ?_
            refine zN_eq (tgt := 81) (a := 0) C (by decide) dX10_best_55 (by decide) (fun _ => ?_) (fun q => absurd q (by decide))
            refine lv_iinc (v := nI (i + 1)) (lv' := [(5, .int (nI (i + 1))), (0, .ref (zad z 27)), (2, .int (nI (j2))), (3, .int (oI (o.map Prod.snd))), (4, .int (oI (o.map Prod.fst)))]) hx hb dX10_best_81 hl (k := 4) rfl (nN_inc _) (by decide) rfl (fun ls hl => ?_)
            refine lv_goto (tgt := 43) hx hb dX10_best_84 (by decide) ?_
            exact ih_43 (i + 1) (o) (sc2) (ar2) (by omega) H locs ls ⟨⟨by omega, by omega⟩, by rw [show i + 1 - j1 = i - j1 + 1 by omega]; unfold bst; rw [show j1 + (i - j1) = i by omega, hwl, wr2, ← h2]; rfl, hob, hx1.trans fr2, h, lv_sub hl [1, 2, 3, 4, 0] rfl⟩
      · skip
        refine lv_iconst (v := nI (1)) hx hb dX10_best_22 (by decide) ?_
        refine lv_goto (tgt := 27) hx hb dX10_best_23 (by decide) ?_
        refine backI h (runV (As := [.int (nI (1))]) (rest := []) C h (r_refuses l z v sc ar 1 (by decide)) gv_X10_105 gv_X10_105_n ⟨rfl, rfl⟩ (r_Ref C h) rfl hl.1 rfl (Nat.le_of_ble_eq_true rfl) dX10_best_27 ⟨Nat.le_of_ble_eq_true rfl, Nat.le_of_ble_eq_true rfl⟩ ⟨Nat.le_of_ble_eq_true rfl, Nat.le_of_ble_eq_true rfl⟩) (fun r_27 v_27 sc_27 ar_27 H locs p_27 h => ?_)
        have h : hH z v (va_up sc 20 (nI (1))) ar s H locs := uEq p_27.2 h
        refine tI (y := nI (1)) p_27.1 ?_
        refine zN_eq (tgt := 35) (a := 1) C (by decide) dX10_best_30 (by decide) (fun q => absurd q (by decide)) (fun _ => ?_)
        refine lv_iconst (v := nI (0)) hx hb dX10_best_33 (by decide) ?_
        exact rI C hr hlk h dX10_best_34 (Nat.le_of_ble_eq_true rfl) (Nat.le_of_ble_eq_true rfl) (Or.inl ⟨fun ⟨a, b, e1, e2, e3, e4⟩ => by have := (nI_eq (by omega) (by omega)).mp e1; have := (nI_eq (by omega) (by omega)).mp e2; omega, rfl⟩)
    · skip
      refine tI (y := nI 0) er_11 ?_
      refine zN_eq (tgt := 22) (a := 0) C (by decide) dX10_best_14 (by decide) (fun _ => ?_) (fun q => absurd q (by decide))
      refine lv_iconst (v := nI (1)) hx hb dX10_best_22 (by decide) ?_
      refine lv_goto (tgt := 27) hx hb dX10_best_23 (by decide) ?_
      refine backI h (runV (As := [.int (nI (1))]) (rest := []) C h (r_refuses l z v sc ar 1 (by decide)) gv_X10_105 gv_X10_105_n ⟨rfl, rfl⟩ (r_Ref C h) rfl hl.1 rfl (Nat.le_of_ble_eq_true rfl) dX10_best_27 ⟨Nat.le_of_ble_eq_true rfl, Nat.le_of_ble_eq_true rfl⟩ ⟨Nat.le_of_ble_eq_true rfl, Nat.le_of_ble_eq_true rfl⟩) (fun r_27 v_27 sc_27 ar_27 H locs p_27 h => ?_)
      have h : hH z v (va_up sc 20 (nI (1))) ar s H locs := uEq p_27.2 h
      refine tI (y := nI (1)) p_27.1 ?_
      refine zN_eq (tgt := 35) (a := 1) C (by decide) dX10_best_30 (by decide) (fun q => absurd q (by decide)) (fun _ => ?_)
      refine lv_iconst (v := nI (0)) hx hb dX10_best_33 (by decide) ?_
      exact rI C hr hlk h dX10_best_34 (Nat.le_of_ble_eq_true rfl) (Nat.le_of_ble_eq_true rfl) (Or.inl ⟨fun ⟨a, b, e1, e2, e3, e4⟩ => ew_11 ⟨b, e4, e2⟩, rfl⟩)
  · skip
    refine tI (y := nI 0) er_3 ?_
    refine zN_eq (tgt := 22) (a := 0) C (by decide) dX10_best_6 (by decide) (fun _ => ?_) (fun q => absurd q (by decide))
    refine lv_iconst (v := nI (1)) hx hb dX10_best_22 (by decide) ?_
    refine lv_goto (tgt := 27) hx hb dX10_best_23 (by decide) ?_
    refine backI h (runV (As := [.int (nI (1))]) (rest := []) C h (r_refuses l z v sc ar 1 (by decide)) gv_X10_105 gv_X10_105_n ⟨rfl, rfl⟩ (r_Ref C h) rfl hl.1 rfl (Nat.le_of_ble_eq_true rfl) dX10_best_27 ⟨Nat.le_of_ble_eq_true rfl, Nat.le_of_ble_eq_true rfl⟩ ⟨Nat.le_of_ble_eq_true rfl, Nat.le_of_ble_eq_true rfl⟩) (fun r_27 v_27 sc_27 ar_27 H locs p_27 h => ?_)
    have h : hH z v (va_up sc 20 (nI (1))) ar s H locs := uEq p_27.2 h
    refine tI (y := nI (1)) p_27.1 ?_
    refine zN_eq (tgt := 35) (a := 1) C (by decide) dX10_best_30 (by decide) (fun q => absurd q (by decide)) (fun _ => ?_)
    refine lv_iconst (v := nI (0)) hx hb dX10_best_33 (by decide) ?_
    exact rI C hr hlk h dX10_best_34 (Nat.le_of_ble_eq_true rfl) (Nat.le_of_ble_eq_true rfl) (Or.inl ⟨fun ⟨a, b, e1, e2, e3, e4⟩ => ew_3 ⟨a, by omega, e1⟩, rfl⟩)
set_option maxHeartbeats 4000000 in
set_option maxRecDepth 100000 in
theorem r_chosen (l : Launch) (z : bZ) (v : bV) (sc : Nat → Int32) (ar : Nat → Nat → Int32) (x : Int32)  : Met l yX10_chosen (Cond.code yX10_chosen cX10_chosen 2 (some .int) :: uW) { frames := 1, cells := 0, slots := 0, locals := 21 } (pC z v sc ar [.ref (zad z 27), .int (x)]) (qI z (fun r u => ((¬ ∃ j, j ≤ 2 ∧ x = nI j) ∧ u = (v, va_up sc 20 (nI 1), ar)) ∨ (u = (v, va_up sc 20 (nI 0), ar) ∧ ((x = nI 0 ∧ r = sc 26) ∨ (x = nI 1 ∧ r = sc 27) ∨ (x = nI 2 ∧ r = sc 28))))) 0 0 (zA z) := by
  refine eM (by decide) (Nat.le_of_ble_eq_true rfl) ?_
  intro pP eE s mM below meth cC ls C hr hlk h hl
  have hx := C.1.1
  have hb := C.1.2.1
  have hl : lv_has ls 2 [(0, .ref (zad z 27)), (1, .int (x))] := hl
  refine lv_aload_n hx hb dX10_chosen_0 rfl (lv_at hl 0 rfl) ?_
  refine lv_iload_n hx hb dX10_chosen_1 rfl (lv_at hl 1 rfl) ?_
  refine lv_if_lt (tgt := 10) hx hb dX10_chosen_2 (by decide) (fun c_2 => ?_) (fun c_2 => ?_)
  · skip
    refine lv_iconst (v := nI (1)) hx hb dX10_chosen_10 (by decide) ?_
    refine lv_goto (tgt := 15) hx hb dX10_chosen_11 (by decide) ?_
    refine backI h (runV (As := [.int (nI (1))]) (rest := []) C h (r_refuses l z v sc ar 1 (by decide)) gv_X10_105 gv_X10_105_n ⟨rfl, rfl⟩ (r_Ref C h) rfl hl.1 rfl (Nat.le_of_ble_eq_true rfl) dX10_chosen_15 ⟨Nat.le_of_ble_eq_true rfl, Nat.le_of_ble_eq_true rfl⟩ ⟨Nat.le_of_ble_eq_true rfl, Nat.le_of_ble_eq_true rfl⟩) (fun r_15 v_15 sc_15 ar_15 H locs p_15 h => ?_)
    have h : hH z v (va_up sc 20 (nI (1))) ar s H locs := uEq p_15.2 h
    refine tI (y := nI (1)) p_15.1 ?_
    refine zN_eq (tgt := 23) (a := 1) C (by decide) dX10_chosen_18 (by decide) (fun q => absurd q (by decide)) (fun _ => ?_)
    refine lv_iconst (v := nI (0)) hx hb dX10_chosen_21 (by decide) ?_
    exact rI C hr hlk h dX10_chosen_22 (Nat.le_of_ble_eq_true rfl) (Nat.le_of_ble_eq_true rfl) (Or.inl ⟨numOut (by omega) (Or.inl c_2), rfl⟩)
  · skip
    refine lv_iload_n hx hb dX10_chosen_5 rfl (lv_at hl 1 rfl) ?_
    refine lv_iconst (v := nI (2)) hx hb dX10_chosen_6 (by decide) ?_
    refine lv_icmp_le (tgt := 14) hx hb dX10_chosen_7 (by decide) (fun c_7 => ?_) (fun c_7 => ?_)
    · skip
      refine lv_iconst (v := nI (0)) hx hb dX10_chosen_14 (by decide) ?_
      refine backI h (runV (As := [.int (nI (0))]) (rest := []) C h (r_refuses l z v sc ar 0 (by decide)) gv_X10_105 gv_X10_105_n ⟨rfl, rfl⟩ (r_Ref C h) rfl hl.1 rfl (Nat.le_of_ble_eq_true rfl) dX10_chosen_15 ⟨Nat.le_of_ble_eq_true rfl, Nat.le_of_ble_eq_true rfl⟩ ⟨Nat.le_of_ble_eq_true rfl, Nat.le_of_ble_eq_true rfl⟩) (fun r_15 v_15 sc_15 ar_15 H locs p_15 h => ?_)
      have h : hH z v (va_up sc 20 (nI (0))) ar s H locs := uEq p_15.2 h
      refine tI (y := nI (0)) p_15.1 ?_
      refine zN_eq (tgt := 23) (a := 0) C (by decide) dX10_chosen_18 (by decide) (fun _ => ?_) (fun q => absurd q (by decide))
      obtain ⟨q, qh, rfl⟩ := numIn (x := x) (M := 2) (by omega) c_2 (Int32.not_lt.mpr c_7)
      refine lv_iload_n hx hb dX10_chosen_23 rfl (lv_at hl 1 rfl) ?_
      refine zN_ne (tgt := 34) (a := q) C (by omega) dX10_chosen_24 (by decide) (fun c_24 => ?_) (fun c_24 => ?_)
      · skip
        refine lv_iload_n hx hb dX10_chosen_34 rfl (lv_at hl 1 rfl) ?_
        refine lv_iconst (v := nI (1)) hx hb dX10_chosen_35 (by decide) ?_
        refine jN_ne (tgt := 46) (a := q) (b := 1) C (by omega) (by omega) dX10_chosen_36 (by decide) (fun c_36 => ?_) (fun c_36 => ?_)
        · skip
          refine lv_aload_n hx hb dX10_chosen_46 rfl (lv_at hl 0 rfl) ?_
          refine rg_X10_44 C h dX10_chosen_47 ?_
          refine tI (y := sc 28) rfl ?_
          exact rI C hr hlk h dX10_chosen_50 (Nat.le_of_ble_eq_true rfl) (Nat.le_of_ble_eq_true rfl) (Or.inr ⟨rfl, Or.inr (Or.inr ⟨by rw [show q = 2 by omega], rfl⟩)⟩)
        · skip
          refine lv_aload_n hx hb dX10_chosen_39 rfl (lv_at hl 0 rfl) ?_
          refine rg_X10_41 C h dX10_chosen_40 ?_
          refine tI (y := sc 27) rfl ?_
          refine lv_goto (tgt := 50) hx hb dX10_chosen_43 (by decide) ?_
          exact rI C hr hlk h dX10_chosen_50 (Nat.le_of_ble_eq_true rfl) (Nat.le_of_ble_eq_true rfl) (Or.inr ⟨rfl, Or.inr (Or.inl ⟨by rw [c_36], rfl⟩)⟩)
      · skip
        refine lv_aload_n hx hb dX10_chosen_27 rfl (lv_at hl 0 rfl) ?_
        refine rg_X10_38 C h dX10_chosen_28 ?_
        refine tI (y := sc 26) rfl ?_
        refine lv_goto (tgt := 50) hx hb dX10_chosen_31 (by decide) ?_
        exact rI C hr hlk h dX10_chosen_50 (Nat.le_of_ble_eq_true rfl) (Nat.le_of_ble_eq_true rfl) (Or.inr ⟨rfl, Or.inl ⟨by rw [c_24], rfl⟩⟩)
    · skip
      refine lv_iconst (v := nI (1)) hx hb dX10_chosen_10 (by decide) ?_
      refine lv_goto (tgt := 15) hx hb dX10_chosen_11 (by decide) ?_
      refine backI h (runV (As := [.int (nI (1))]) (rest := []) C h (r_refuses l z v sc ar 1 (by decide)) gv_X10_105 gv_X10_105_n ⟨rfl, rfl⟩ (r_Ref C h) rfl hl.1 rfl (Nat.le_of_ble_eq_true rfl) dX10_chosen_15 ⟨Nat.le_of_ble_eq_true rfl, Nat.le_of_ble_eq_true rfl⟩ ⟨Nat.le_of_ble_eq_true rfl, Nat.le_of_ble_eq_true rfl⟩) (fun r_15 v_15 sc_15 ar_15 H locs p_15 h => ?_)
      have h : hH z v (va_up sc 20 (nI (1))) ar s H locs := uEq p_15.2 h
      refine tI (y := nI (1)) p_15.1 ?_
      refine zN_eq (tgt := 23) (a := 1) C (by decide) dX10_chosen_18 (by decide) (fun q => absurd q (by decide)) (fun _ => ?_)
      refine lv_iconst (v := nI (0)) hx hb dX10_chosen_21 (by decide) ?_
      exact rI C hr hlk h dX10_chosen_22 (Nat.le_of_ble_eq_true rfl) (Nat.le_of_ble_eq_true rfl) (Or.inl ⟨numOut (by omega) (Or.inr (Int32.not_le.mp c_7)), rfl⟩)
set_option maxHeartbeats 4000000 in
set_option maxRecDepth 100000 in
theorem r_about (l : Launch) (z : bZ) (v : bV) (sc : Nat → Int32) (ar : Nat → Nat → Int32) (x : Int32)  : Met l yX10_about (Cond.code yX10_about cX10_about 2 (some .int) :: uW) { frames := 1, cells := 0, slots := 0, locals := 21 } (pC z v sc ar [.ref (zad z 27), .int (x)]) (qI z (fun r u => ((¬ ∃ j, j ≤ 3 ∧ x = nI j) ∧ u = (v, va_up sc 20 (nI 1), ar)) ∨ (u = (v, va_up sc 20 (nI 0), ar) ∧ ((x = nI 0 ∧ r = sc 21) ∨ (x = nI 1 ∧ r = sc 22) ∨ (x = nI 2 ∧ r = sc 23) ∨ (x = nI 3 ∧ r = sc 24))))) 0 0 (zA z) := by
  refine eM (by decide) (Nat.le_of_ble_eq_true rfl) ?_
  intro pP eE s mM below meth cC ls C hr hlk h hl
  have hx := C.1.1
  have hb := C.1.2.1
  have hl : lv_has ls 2 [(0, .ref (zad z 27)), (1, .int (x))] := hl
  refine lv_aload_n hx hb dX10_about_0 rfl (lv_at hl 0 rfl) ?_
  refine lv_iload_n hx hb dX10_about_1 rfl (lv_at hl 1 rfl) ?_
  refine lv_if_lt (tgt := 10) hx hb dX10_about_2 (by decide) (fun c_2 => ?_) (fun c_2 => ?_)
  · skip
    refine lv_iconst (v := nI (1)) hx hb dX10_about_10 (by decide) ?_
    refine lv_goto (tgt := 15) hx hb dX10_about_11 (by decide) ?_
    refine backI h (runV (As := [.int (nI (1))]) (rest := []) C h (r_refuses l z v sc ar 1 (by decide)) gv_X10_105 gv_X10_105_n ⟨rfl, rfl⟩ (r_Ref C h) rfl hl.1 rfl (Nat.le_of_ble_eq_true rfl) dX10_about_15 ⟨Nat.le_of_ble_eq_true rfl, Nat.le_of_ble_eq_true rfl⟩ ⟨Nat.le_of_ble_eq_true rfl, Nat.le_of_ble_eq_true rfl⟩) (fun r_15 v_15 sc_15 ar_15 H locs p_15 h => ?_)
    have h : hH z v (va_up sc 20 (nI (1))) ar s H locs := uEq p_15.2 h
    refine tI (y := nI (1)) p_15.1 ?_
    refine zN_eq (tgt := 23) (a := 1) C (by decide) dX10_about_18 (by decide) (fun q => absurd q (by decide)) (fun _ => ?_)
    refine lv_iconst (v := nI (0)) hx hb dX10_about_21 (by decide) ?_
    exact rI C hr hlk h dX10_about_22 (Nat.le_of_ble_eq_true rfl) (Nat.le_of_ble_eq_true rfl) (Or.inl ⟨numOut (by omega) (Or.inl c_2), rfl⟩)
  · skip
    refine lv_iload_n hx hb dX10_about_5 rfl (lv_at hl 1 rfl) ?_
    refine lv_iconst (v := nI (3)) hx hb dX10_about_6 (by decide) ?_
    refine lv_icmp_le (tgt := 14) hx hb dX10_about_7 (by decide) (fun c_7 => ?_) (fun c_7 => ?_)
    · skip
      refine lv_iconst (v := nI (0)) hx hb dX10_about_14 (by decide) ?_
      refine backI h (runV (As := [.int (nI (0))]) (rest := []) C h (r_refuses l z v sc ar 0 (by decide)) gv_X10_105 gv_X10_105_n ⟨rfl, rfl⟩ (r_Ref C h) rfl hl.1 rfl (Nat.le_of_ble_eq_true rfl) dX10_about_15 ⟨Nat.le_of_ble_eq_true rfl, Nat.le_of_ble_eq_true rfl⟩ ⟨Nat.le_of_ble_eq_true rfl, Nat.le_of_ble_eq_true rfl⟩) (fun r_15 v_15 sc_15 ar_15 H locs p_15 h => ?_)
      have h : hH z v (va_up sc 20 (nI (0))) ar s H locs := uEq p_15.2 h
      refine tI (y := nI (0)) p_15.1 ?_
      refine zN_eq (tgt := 23) (a := 0) C (by decide) dX10_about_18 (by decide) (fun _ => ?_) (fun q => absurd q (by decide))
      obtain ⟨q, qh, rfl⟩ := numIn (x := x) (M := 3) (by omega) c_2 (Int32.not_lt.mpr c_7)
      refine lv_iload_n hx hb dX10_about_23 rfl (lv_at hl 1 rfl) ?_
      refine zN_ne (tgt := 34) (a := q) C (by omega) dX10_about_24 (by decide) (fun c_24 => ?_) (fun c_24 => ?_)
      · skip
        refine lv_iload_n hx hb dX10_about_34 rfl (lv_at hl 1 rfl) ?_
        refine lv_iconst (v := nI (1)) hx hb dX10_about_35 (by decide) ?_
        refine jN_ne (tgt := 46) (a := q) (b := 1) C (by omega) (by omega) dX10_about_36 (by decide) (fun c_36 => ?_) (fun c_36 => ?_)
        · skip
          refine lv_iload_n hx hb dX10_about_46 rfl (lv_at hl 1 rfl) ?_
          refine lv_iconst (v := nI (2)) hx hb dX10_about_47 (by decide) ?_
          refine jN_ne (tgt := 58) (a := q) (b := 2) C (by omega) (by omega) dX10_about_48 (by decide) (fun c_48 => ?_) (fun c_48 => ?_)
          · skip
            refine lv_aload_n hx hb dX10_about_58 rfl (lv_at hl 0 rfl) ?_
            refine rg_X10_186 C h dX10_about_59 ?_
            refine tI (y := sc 24) rfl ?_
            exact rI C hr hlk h dX10_about_62 (Nat.le_of_ble_eq_true rfl) (Nat.le_of_ble_eq_true rfl) (Or.inr ⟨rfl, Or.inr (Or.inr (Or.inr ⟨by rw [show q = 3 by omega], rfl⟩))⟩)
          · skip
            refine lv_aload_n hx hb dX10_about_51 rfl (lv_at hl 0 rfl) ?_
            refine rg_X10_168 C h dX10_about_52 ?_
            refine tI (y := sc 23) rfl ?_
            refine lv_goto (tgt := 62) hx hb dX10_about_55 (by decide) ?_
            exact rI C hr hlk h dX10_about_62 (Nat.le_of_ble_eq_true rfl) (Nat.le_of_ble_eq_true rfl) (Or.inr ⟨rfl, Or.inr (Or.inr (Or.inl ⟨by rw [c_48], rfl⟩))⟩)
        · skip
          refine lv_aload_n hx hb dX10_about_39 rfl (lv_at hl 0 rfl) ?_
          refine rg_X10_120 C h dX10_about_40 ?_
          refine tI (y := sc 22) rfl ?_
          refine lv_goto (tgt := 62) hx hb dX10_about_43 (by decide) ?_
          exact rI C hr hlk h dX10_about_62 (Nat.le_of_ble_eq_true rfl) (Nat.le_of_ble_eq_true rfl) (Or.inr ⟨rfl, Or.inr (Or.inl ⟨by rw [c_36], rfl⟩)⟩)
      · skip
        refine lv_aload_n hx hb dX10_about_27 rfl (lv_at hl 0 rfl) ?_
        refine rg_X10_102 C h dX10_about_28 ?_
        refine tI (y := sc 21) rfl ?_
        refine lv_goto (tgt := 62) hx hb dX10_about_31 (by decide) ?_
        exact rI C hr hlk h dX10_about_62 (Nat.le_of_ble_eq_true rfl) (Nat.le_of_ble_eq_true rfl) (Or.inr ⟨rfl, Or.inl ⟨by rw [c_24], rfl⟩⟩)
    · skip
      refine lv_iconst (v := nI (1)) hx hb dX10_about_10 (by decide) ?_
      refine lv_goto (tgt := 15) hx hb dX10_about_11 (by decide) ?_
      refine backI h (runV (As := [.int (nI (1))]) (rest := []) C h (r_refuses l z v sc ar 1 (by decide)) gv_X10_105 gv_X10_105_n ⟨rfl, rfl⟩ (r_Ref C h) rfl hl.1 rfl (Nat.le_of_ble_eq_true rfl) dX10_about_15 ⟨Nat.le_of_ble_eq_true rfl, Nat.le_of_ble_eq_true rfl⟩ ⟨Nat.le_of_ble_eq_true rfl, Nat.le_of_ble_eq_true rfl⟩) (fun r_15 v_15 sc_15 ar_15 H locs p_15 h => ?_)
      have h : hH z v (va_up sc 20 (nI (1))) ar s H locs := uEq p_15.2 h
      refine tI (y := nI (1)) p_15.1 ?_
      refine zN_eq (tgt := 23) (a := 1) C (by decide) dX10_about_18 (by decide) (fun q => absurd q (by decide)) (fun _ => ?_)
      refine lv_iconst (v := nI (0)) hx hb dX10_about_21 (by decide) ?_
      exact rI C hr hlk h dX10_about_22 (Nat.le_of_ble_eq_true rfl) (Nat.le_of_ble_eq_true rfl) (Or.inl ⟨numOut (by omega) (Or.inr (Int32.not_le.mp c_7)), rfl⟩)
set_option maxHeartbeats 4000000 in
set_option maxRecDepth 100000 in
theorem r_end (l : Launch) (z : bZ) (v : bV) (sc : Nat → Int32) (ar : Nat → Nat → Int32) (n rf : Nat) (x : Int32) (hn : sc 23 = nI n) (hn8 : n ≤ 8000) (hf : sc 24 = nI rf) (hrf : rf ≤ n) : Met l yX10_end (Cond.code yX10_end cX10_end 2 none :: uW) { frames := 1, cells := 0, slots := 0, locals := 21 } (pC z v sc ar [.ref (zad z 27), .int (x)]) (qV z (fun u => ((¬ ∃ j, j ≤ n ∧ x = nI j) ∧ u = (v, va_up sc 20 (nI 1), ar)) ∨ (∃ j, j ≤ n ∧ x = nI j ∧ u = (v, va_up (va_up (va_up sc 20 (nI 0)) 23 (nI j)) 24 (nI (min rf j)), ar)))) 0 0 (zA z) := by
  refine eM (by decide) (Nat.le_of_ble_eq_true rfl) ?_
  intro pP eE s mM below meth cC ls C hr hlk h hl
  have hx := C.1.1
  have hb := C.1.2.1
  have hl : lv_has ls 2 [(0, .ref (zad z 27)), (1, .int (x))] := hl
  refine lv_aload_n hx hb dX10_end_0 rfl (lv_at hl 0 rfl) ?_
  refine lv_iload_n hx hb dX10_end_1 rfl (lv_at hl 1 rfl) ?_
  refine lv_if_lt (tgt := 13) hx hb dX10_end_2 (by decide) (fun c_2 => ?_) (fun c_2 => ?_)
  · skip
    refine lv_iconst (v := nI (1)) hx hb dX10_end_13 (by decide) ?_
    refine lv_goto (tgt := 18) hx hb dX10_end_14 (by decide) ?_
    refine backI h (runV (As := [.int (nI (1))]) (rest := []) C h (r_refuses l z v sc ar 1 (by decide)) gv_X10_105 gv_X10_105_n ⟨rfl, rfl⟩ (r_Ref C h) rfl hl.1 rfl (Nat.le_of_ble_eq_true rfl) dX10_end_18 ⟨Nat.le_of_ble_eq_true rfl, Nat.le_of_ble_eq_true rfl⟩ ⟨Nat.le_of_ble_eq_true rfl, Nat.le_of_ble_eq_true rfl⟩) (fun r_18 v_18 sc_18 ar_18 H locs p_18 h => ?_)
    have h : hH z v (va_up sc 20 (nI (1))) ar s H locs := uEq p_18.2 h
    refine tI (y := nI (1)) p_18.1 ?_
    refine zN_eq (tgt := 25) (a := 1) C (by decide) dX10_end_21 (by decide) (fun q => absurd q (by decide)) (fun _ => ?_)
    exact rV C hr hlk h dX10_end_24 (Nat.le_of_ble_eq_true rfl) (Nat.le_of_ble_eq_true rfl) (Or.inl ⟨numOut (by omega) (Or.inl c_2), rfl⟩)
  · skip
    refine lv_iload_n hx hb dX10_end_5 rfl (lv_at hl 1 rfl) ?_
    refine lv_aload_n hx hb dX10_end_6 rfl (lv_at hl 0 rfl) ?_
    refine rg_X10_168 C h dX10_end_7 ?_
    refine tI (y := nI (n)) hn ?_
    refine lv_icmp_le (tgt := 17) hx hb dX10_end_10 (by decide) (fun c_10 => ?_) (fun c_10 => ?_)
    · skip
      refine lv_iconst (v := nI (0)) hx hb dX10_end_17 (by decide) ?_
      refine backI h (runV (As := [.int (nI (0))]) (rest := []) C h (r_refuses l z v sc ar 0 (by decide)) gv_X10_105 gv_X10_105_n ⟨rfl, rfl⟩ (r_Ref C h) rfl hl.1 rfl (Nat.le_of_ble_eq_true rfl) dX10_end_18 ⟨Nat.le_of_ble_eq_true rfl, Nat.le_of_ble_eq_true rfl⟩ ⟨Nat.le_of_ble_eq_true rfl, Nat.le_of_ble_eq_true rfl⟩) (fun r_18 v_18 sc_18 ar_18 H locs p_18 h => ?_)
      have h : hH z v (va_up sc 20 (nI (0))) ar s H locs := uEq p_18.2 h
      refine tI (y := nI (0)) p_18.1 ?_
      refine zN_eq (tgt := 25) (a := 0) C (by decide) dX10_end_21 (by decide) (fun _ => ?_) (fun q => absurd q (by decide))
      obtain ⟨j, jh, rfl⟩ := numIn (x := x) (M := n) (by omega) c_2 (Int32.not_lt.mpr c_10)
      refine lv_aload_n hx hb dX10_end_25 rfl (lv_at hl 0 rfl) ?_
      refine lv_iload_n hx hb dX10_end_26 rfl (lv_at hl 1 rfl) ?_
      refine rp_X10_168 C h dX10_end_27 (fun H locs h => ?_)
      refine lv_aload_n hx hb dX10_end_30 rfl (lv_at hl 0 rfl) ?_
      refine lv_aload_n hx hb dX10_end_31 rfl (lv_at hl 0 rfl) ?_
      refine rg_X10_186 C h dX10_end_32 ?_
      refine tI (y := nI (rf)) hf ?_
      refine lv_iload_n hx hb dX10_end_35 rfl (lv_at hl 1 rfl) ?_
      refine jN_le (tgt := 43) (a := rf) (b := j) C (by omega) (by omega) dX10_end_36 (by decide) (fun c_36 => ?_) (fun c_36 => ?_)
      · skip
        refine lv_aload_n hx hb dX10_end_43 rfl (lv_at hl 0 rfl) ?_
        refine rg_X10_186 C h dX10_end_44 ?_
        refine tI (y := nI (rf)) hf ?_
        refine rp_X10_186 C h dX10_end_47 (fun H locs h => ?_)
        exact rV C hr hlk h dX10_end_50 (Nat.le_of_ble_eq_true rfl) (Nat.le_of_ble_eq_true rfl) ((Or.inr ⟨j, jh, rfl, by rw [Nat.min_eq_left c_36]⟩))
      · skip
        refine lv_iload_n hx hb dX10_end_39 rfl (lv_at hl 1 rfl) ?_
        refine lv_goto (tgt := 47) hx hb dX10_end_40 (by decide) ?_
        refine rp_X10_186 C h dX10_end_47 (fun H locs h => ?_)
        exact rV C hr hlk h dX10_end_50 (Nat.le_of_ble_eq_true rfl) (Nat.le_of_ble_eq_true rfl) ((Or.inr ⟨j, jh, rfl, by rw [Nat.min_eq_right (Nat.le_of_lt c_36)]⟩))
    · skip
      refine lv_iconst (v := nI (1)) hx hb dX10_end_13 (by decide) ?_
      refine lv_goto (tgt := 18) hx hb dX10_end_14 (by decide) ?_
      refine backI h (runV (As := [.int (nI (1))]) (rest := []) C h (r_refuses l z v sc ar 1 (by decide)) gv_X10_105 gv_X10_105_n ⟨rfl, rfl⟩ (r_Ref C h) rfl hl.1 rfl (Nat.le_of_ble_eq_true rfl) dX10_end_18 ⟨Nat.le_of_ble_eq_true rfl, Nat.le_of_ble_eq_true rfl⟩ ⟨Nat.le_of_ble_eq_true rfl, Nat.le_of_ble_eq_true rfl⟩) (fun r_18 v_18 sc_18 ar_18 H locs p_18 h => ?_)
      have h : hH z v (va_up sc 20 (nI (1))) ar s H locs := uEq p_18.2 h
      refine tI (y := nI (1)) p_18.1 ?_
      refine zN_eq (tgt := 25) (a := 1) C (by decide) dX10_end_21 (by decide) (fun q => absurd q (by decide)) (fun _ => ?_)
      exact rV C hr hlk h dX10_end_24 (Nat.le_of_ble_eq_true rfl) (Nat.le_of_ble_eq_true rfl) (Or.inl ⟨numOut (by omega) (Or.inr (Int32.not_le.mp c_10)), rfl⟩)
set_option maxHeartbeats 4000000 in
set_option maxRecDepth 100000 in
theorem r_seek (l : Launch) (z : bZ) (v : bV) (sc : Nat → Int32) (ar : Nat → Nat → Int32) (n rf : Nat) (x : Int32) (hn : sc 23 = nI n) (hn8 : n ≤ 8000) (hf : sc 24 = nI rf) (hrf : rf ≤ n) : Met l yX10_seek (Cond.code yX10_seek cX10_seek 3 (some .int) :: uW) { frames := 1, cells := 0, slots := 0, locals := 21 } (pC z v sc ar [.ref (zad z 27), .int (x)]) (qI z (fun r u => ((¬ ∃ j, j ≤ n ∧ x = nI j) ∧ u = (v, va_up sc 20 (nI 1), ar)) ∨ (∃ j, j ≤ n ∧ x = nI j ∧ r = nI rf ∧ u = (v, va_up (va_up sc 20 (nI 0)) 24 (nI j), ar)))) 0 0 (zA z) := by
  refine eM (by decide) (Nat.le_of_ble_eq_true rfl) ?_
  intro pP eE s mM below meth cC ls C hr hlk h hl
  have hx := C.1.1
  have hb := C.1.2.1
  have hl : lv_has ls 3 [(0, .ref (zad z 27)), (1, .int (x))] := hl
  refine lv_aload_n hx hb dX10_seek_0 rfl (lv_at hl 0 rfl) ?_
  refine lv_iload_n hx hb dX10_seek_1 rfl (lv_at hl 1 rfl) ?_
  refine lv_if_lt (tgt := 13) hx hb dX10_seek_2 (by decide) (fun c_2 => ?_) (fun c_2 => ?_)
  · skip
    refine lv_iconst (v := nI (1)) hx hb dX10_seek_13 (by decide) ?_
    refine lv_goto (tgt := 18) hx hb dX10_seek_14 (by decide) ?_
    refine backI h (runV (As := [.int (nI (1))]) (rest := []) C h (r_refuses l z v sc ar 1 (by decide)) gv_X10_105 gv_X10_105_n ⟨rfl, rfl⟩ (r_Ref C h) rfl hl.1 rfl (Nat.le_of_ble_eq_true rfl) dX10_seek_18 ⟨Nat.le_of_ble_eq_true rfl, Nat.le_of_ble_eq_true rfl⟩ ⟨Nat.le_of_ble_eq_true rfl, Nat.le_of_ble_eq_true rfl⟩) (fun r_18 v_18 sc_18 ar_18 H locs p_18 h => ?_)
    have h : hH z v (va_up sc 20 (nI (1))) ar s H locs := uEq p_18.2 h
    refine tI (y := nI (1)) p_18.1 ?_
    refine zN_eq (tgt := 26) (a := 1) C (by decide) dX10_seek_21 (by decide) (fun q => absurd q (by decide)) (fun _ => ?_)
    refine lv_iconst (v := nI (0)) hx hb dX10_seek_24 (by decide) ?_
    exact rI C hr hlk h dX10_seek_25 (Nat.le_of_ble_eq_true rfl) (Nat.le_of_ble_eq_true rfl) (Or.inl ⟨numOut (by omega) (Or.inl c_2), rfl⟩)
  · skip
    refine lv_iload_n hx hb dX10_seek_5 rfl (lv_at hl 1 rfl) ?_
    refine lv_aload_n hx hb dX10_seek_6 rfl (lv_at hl 0 rfl) ?_
    refine rg_X10_168 C h dX10_seek_7 ?_
    refine tI (y := nI (n)) hn ?_
    refine lv_icmp_le (tgt := 17) hx hb dX10_seek_10 (by decide) (fun c_10 => ?_) (fun c_10 => ?_)
    · skip
      refine lv_iconst (v := nI (0)) hx hb dX10_seek_17 (by decide) ?_
      refine backI h (runV (As := [.int (nI (0))]) (rest := []) C h (r_refuses l z v sc ar 0 (by decide)) gv_X10_105 gv_X10_105_n ⟨rfl, rfl⟩ (r_Ref C h) rfl hl.1 rfl (Nat.le_of_ble_eq_true rfl) dX10_seek_18 ⟨Nat.le_of_ble_eq_true rfl, Nat.le_of_ble_eq_true rfl⟩ ⟨Nat.le_of_ble_eq_true rfl, Nat.le_of_ble_eq_true rfl⟩) (fun r_18 v_18 sc_18 ar_18 H locs p_18 h => ?_)
      have h : hH z v (va_up sc 20 (nI (0))) ar s H locs := uEq p_18.2 h
      refine tI (y := nI (0)) p_18.1 ?_
      refine zN_eq (tgt := 26) (a := 0) C (by decide) dX10_seek_21 (by decide) (fun _ => ?_) (fun q => absurd q (by decide))
      obtain ⟨j, jh, rfl⟩ := numIn (x := x) (M := n) (by omega) c_2 (Int32.not_lt.mpr c_10)
      refine lv_aload_n hx hb dX10_seek_26 rfl (lv_at hl 0 rfl) ?_
      refine rg_X10_186 C h dX10_seek_27 ?_
      refine tI (y := nI (rf)) hf ?_
      refine lv_istore_n (lv' := [(2, .int (nI (rf))), (0, .ref (zad z 27)), (1, .int (nI (j)))]) hx hb dX10_seek_30 rfl hl (by decide) rfl (fun ls hl => ?_)
      refine lv_aload_n hx hb dX10_seek_31 rfl (lv_at hl 1 rfl) ?_
      refine lv_iload_n hx hb dX10_seek_32 rfl (lv_at hl 2 rfl) ?_
      refine rp_X10_186 C h dX10_seek_33 (fun H locs h => ?_)
      refine lv_iload_n hx hb dX10_seek_36 rfl (lv_at hl 0 rfl) ?_
      exact rI C hr hlk h dX10_seek_37 (Nat.le_of_ble_eq_true rfl) (Nat.le_of_ble_eq_true rfl) (Or.inr ⟨j, jh, rfl, rfl, rfl⟩)
    · skip
      refine lv_iconst (v := nI (1)) hx hb dX10_seek_13 (by decide) ?_
      refine lv_goto (tgt := 18) hx hb dX10_seek_14 (by decide) ?_
      refine backI h (runV (As := [.int (nI (1))]) (rest := []) C h (r_refuses l z v sc ar 1 (by decide)) gv_X10_105 gv_X10_105_n ⟨rfl, rfl⟩ (r_Ref C h) rfl hl.1 rfl (Nat.le_of_ble_eq_true rfl) dX10_seek_18 ⟨Nat.le_of_ble_eq_true rfl, Nat.le_of_ble_eq_true rfl⟩ ⟨Nat.le_of_ble_eq_true rfl, Nat.le_of_ble_eq_true rfl⟩) (fun r_18 v_18 sc_18 ar_18 H locs p_18 h => ?_)
      have h : hH z v (va_up sc 20 (nI (1))) ar s H locs := uEq p_18.2 h
      refine tI (y := nI (1)) p_18.1 ?_
      refine zN_eq (tgt := 26) (a := 1) C (by decide) dX10_seek_21 (by decide) (fun q => absurd q (by decide)) (fun _ => ?_)
      refine lv_iconst (v := nI (0)) hx hb dX10_seek_24 (by decide) ?_
      exact rI C hr hlk h dX10_seek_25 (Nat.le_of_ble_eq_true rfl) (Nat.le_of_ble_eq_true rfl) (Or.inl ⟨numOut (by omega) (Or.inr (Int32.not_le.mp c_10)), rfl⟩)
set_option maxHeartbeats 4000000 in
set_option maxRecDepth 100000 in
theorem r_tape (l : Launch) (z : bZ) (v : bV) (sc : Nat → Int32) (ar : Nat → Nat → Int32) (n : Nat) (i : Int32) (hn : sc 23 = nI n) (hn8 : n ≤ 8000) : Met l yX10_tape (Cond.code yX10_tape cX10_tape 2 (some .int) :: uW) { frames := 0, cells := 0, slots := 0, locals := 0 } (pC z v sc ar [.ref (zad z 27), .int (i)]) (qI z (fun r u => u = (v, va_up sc 20 (nI 0), ar) ∧ (∀ j, j < n → i = nI j → r = ar 35 j) ∧ ((¬ ∃ j, j < n ∧ i = nI j) → r = -1))) 0 0 (zA z) := by
  refine eM (by decide) (Nat.le_of_ble_eq_true rfl) ?_
  intro pP eE s mM below meth cC ls C hr hlk h hl
  have hx := C.1.1
  have hb := C.1.2.1
  have hl : lv_has ls 2 [(0, .ref (zad z 27)), (1, .int (i))] := hl
  refine lv_aload_n hx hb dX10_tape_0 rfl (lv_at hl 0 rfl) ?_
  refine lv_iconst (v := nI (0)) hx hb dX10_tape_1 (by decide) ?_
  refine rp_X10_99 C h dX10_tape_2 (fun H locs h => ?_)
  refine lv_iload_n hx hb dX10_tape_5 rfl (lv_at hl 1 rfl) ?_
  refine lv_if_lt (tgt := 26) hx hb dX10_tape_6 (by decide) (fun c_6 => ?_) (fun c_6 => ?_)
  · skip
    refine lv_iconst (v := (-1)) hx hb dX10_tape_26 (by decide) ?_
    exact rI C hr hlk h dX10_tape_27 (Nat.le_of_ble_eq_true rfl) (Nat.le_of_ble_eq_true rfl) (⟨rfl, fun j hj e => absurd c_6 (by rw [e]; exact nI_pos (by omega)), fun _ => rfl⟩)
  · skip
    obtain ⟨j, hj, rfl⟩ := nI_of c_6
    refine lv_iload_n hx hb dX10_tape_9 rfl (lv_at hl 1 rfl) ?_
    refine lv_aload_n hx hb dX10_tape_10 rfl (lv_at hl 0 rfl) ?_
    refine rg_X10_168 C h dX10_tape_11 ?_
    refine tI (y := nI (n)) hn ?_
    refine jN_ge (tgt := 26) (a := j) (b := n) C (by omega) (by omega) dX10_tape_14 (by decide) (fun c_14 => ?_) (fun c_14 => ?_)
    · skip
      refine lv_iconst (v := (-1)) hx hb dX10_tape_26 (by decide) ?_
      exact rI C hr hlk h dX10_tape_27 (Nat.le_of_ble_eq_true rfl) (Nat.le_of_ble_eq_true rfl) (⟨rfl, fun q hq e => absurd ((nI_eq hj (by omega)).mp e) (by omega), fun _ => rfl⟩)
    · skip
      refine lv_aload_n hx hb dX10_tape_17 rfl (lv_at hl 0 rfl) ?_
      refine rg_X10_31 C h dX10_tape_18 ?_
      refine lv_iload_n hx hb dX10_tape_21 rfl (lv_at hl 1 rfl) ?_
      refine ldA 35 rfl (j := j) (show j < 8000 by omega) (by decide) C h dX10_tape_22 ?_
      refine tI (y := (ar 35) (j)) rfl ?_
      refine lv_goto (tgt := 27) hx hb dX10_tape_23 (by decide) ?_
      exact rI C hr hlk h dX10_tape_27 (Nat.le_of_ble_eq_true rfl) (Nat.le_of_ble_eq_true rfl) (⟨rfl, fun q hq e => by rw [(nI_eq hj (by omega)).mp e], fun q => absurd ⟨j, c_14, rfl⟩ q⟩)
set_option maxHeartbeats 4000000 in
set_option maxRecDepth 100000 in
theorem r_way (l : Launch) (z : bZ) (v : bV) (sc : Nat → Int32) (ar : Nat → Nat → Int32) (K : Nat) (wt : Nat → Nat → Nat) (dp : Nat → Nat) (y1 x : Int32) (hK : sc 21 = nI K) (hK4 : K ≤ 40) (hRW : RW wt dp K ar) : Met l yX10_way (Cond.code yX10_way cX10_way 3 (some .int) :: uW) { frames := 1, cells := 0, slots := 0, locals := 21 } (pC z v sc ar [.ref (zad z 27), .int (y1), .int (x)]) (qI z (fun r u => (¬ (isW K y1 ∧ inR 0 4 x) ∧ u = (v, va_up sc 20 (nI 1), ar)) ∨ (∃ j1 q, (y1 = nI j1 ∧ j1 < K) ∧ (x = nI q ∧ q ≤ 4) ∧ u = (v, va_up sc 20 (nI 0), ar) ∧ r = if q = 4 then nI (dp j1) else trF wt j1 q))) 0 0 (zA z) := by
  refine eM (by decide) (Nat.le_of_ble_eq_true rfl) ?_
  intro pP eE s mM below meth cC ls C hr hlk h hl
  have hx := C.1.1
  have hb := C.1.2.1
  have hl : lv_has ls 3 [(0, .ref (zad z 27)), (1, .int (y1)), (2, .int (x))] := hl
  refine lv_aload_n hx hb dX10_way_0 rfl (lv_at hl 0 rfl) ?_
  refine lv_aload_n hx hb dX10_way_1 rfl (lv_at hl 0 rfl) ?_
  refine lv_iload_n hx hb dX10_way_2 rfl (lv_at hl 1 rfl) ?_
  refine backI h (runV (As := [.int (y1)]) (rest := [.ref (zad z 27)]) C h (r_isWay l z v sc ar K y1 hK hK4) gv_X10_113 gv_X10_113_n ⟨rfl, rfl⟩ (r_Ref C h) rfl hl.1 rfl (Nat.le_of_ble_eq_true rfl) dX10_way_3 ⟨Nat.le_of_ble_eq_true rfl, Nat.le_of_ble_eq_true rfl⟩ ⟨Nat.le_of_ble_eq_true rfl, Nat.le_of_ble_eq_true rfl⟩) (fun r_3 v_3 sc_3 ar_3 H locs p_3 h => ?_)
  have h : hH z v sc ar s H locs := uEq p_3.1 h
  rcases p_3.2 with ⟨er_3, ew_3⟩ | ⟨er_3, ew_3⟩
  · skip
    obtain ⟨j1, hj1, rfl⟩ := ew_3
    refine tI (y := nI 1) er_3 ?_
    refine zN_eq (tgt := 18) (a := 1) C (by decide) dX10_way_6 (by decide) (fun q => absurd q (by decide)) (fun _ => ?_)
    refine lv_iload_n hx hb dX10_way_9 rfl (lv_at hl 2 rfl) ?_
    refine lv_if_lt (tgt := 18) hx hb dX10_way_10 (by decide) (fun c_10 => ?_) (fun c_10 => ?_)
    · skip
      refine lv_iconst (v := nI (1)) hx hb dX10_way_18 (by decide) ?_
      refine lv_goto (tgt := 23) hx hb dX10_way_19 (by decide) ?_
      refine backI h (runV (As := [.int (nI (1))]) (rest := []) C h (r_refuses l z v sc ar 1 (by decide)) gv_X10_105 gv_X10_105_n ⟨rfl, rfl⟩ (r_Ref C h) rfl hl.1 rfl (Nat.le_of_ble_eq_true rfl) dX10_way_23 ⟨Nat.le_of_ble_eq_true rfl, Nat.le_of_ble_eq_true rfl⟩ ⟨Nat.le_of_ble_eq_true rfl, Nat.le_of_ble_eq_true rfl⟩) (fun r_23 v_23 sc_23 ar_23 H locs p_23 h => ?_)
      have h : hH z v (va_up sc 20 (nI (1))) ar s H locs := uEq p_23.2 h
      refine tI (y := nI (1)) p_23.1 ?_
      refine zN_eq (tgt := 31) (a := 1) C (by decide) dX10_way_26 (by decide) (fun q => absurd q (by decide)) (fun _ => ?_)
      refine lv_iconst (v := nI (0)) hx hb dX10_way_29 (by decide) ?_
      exact rI C hr hlk h dX10_way_30 (Nat.le_of_ble_eq_true rfl) (Nat.le_of_ble_eq_true rfl) (Or.inl ⟨fun g => rNo (lo := 0) (hi := 4) (by decide) (by decide) (Or.inl c_10) g.2, rfl⟩)
    · skip
      refine lv_iload_n hx hb dX10_way_13 rfl (lv_at hl 2 rfl) ?_
      refine lv_iconst (v := nI (4)) hx hb dX10_way_14 (by decide) ?_
      refine lv_icmp_le (tgt := 22) hx hb dX10_way_15 (by decide) (fun c_15 => ?_) (fun c_15 => ?_)
      · skip
        refine lv_iconst (v := nI (0)) hx hb dX10_way_22 (by decide) ?_
        refine backI h (runV (As := [.int (nI (0))]) (rest := []) C h (r_refuses l z v sc ar 0 (by decide)) gv_X10_105 gv_X10_105_n ⟨rfl, rfl⟩ (r_Ref C h) rfl hl.1 rfl (Nat.le_of_ble_eq_true rfl) dX10_way_23 ⟨Nat.le_of_ble_eq_true rfl, Nat.le_of_ble_eq_true rfl⟩ ⟨Nat.le_of_ble_eq_true rfl, Nat.le_of_ble_eq_true rfl⟩) (fun r_23 v_23 sc_23 ar_23 H locs p_23 h => ?_)
        have h : hH z v (va_up sc 20 (nI (0))) ar s H locs := uEq p_23.2 h
        refine tI (y := nI (0)) p_23.1 ?_
        refine zN_eq (tgt := 31) (a := 0) C (by decide) dX10_way_26 (by decide) (fun _ => ?_) (fun q => absurd q (by decide))
        obtain ⟨q, ql, qh, rfl⟩ := rIn (lo := 0) (hi := 4) (by decide) (by decide) c_10 (Int32.not_lt.mpr c_15)
        have hw0 := wt0_le (hRW j1 hj1).2.2.2.2.2.2
        have hmx : wt j1 0 = 0 → wt j1 1 ≤ 5 ∧ wt j1 2 ≤ 256 ∧ wt j1 3 ≤ 2 ∧ wt j1 4 ≤ 1 := fun e => by obtain ⟨⟨_, a⟩, ⟨_, b⟩, d, f, _⟩ := codOK (hRW j1 hj1).2.2.2.2.2.2 e; exact ⟨a, b, d, f⟩
        refine lv_iload_n hx hb dX10_way_31 rfl (lv_at hl 2 rfl) ?_
        refine lv_iconst (v := nI (4)) hx hb dX10_way_32 (by decide) ?_
        refine jN_ne (tgt := 43) (a := q) (b := 4) C (by omega) (by omega) dX10_way_33 (by decide) (fun c_33 => ?_) (fun c_33 => ?_)
        · skip
          refine lv_aload_n hx hb dX10_way_43 rfl (lv_at hl 0 rfl) ?_
          refine rg_X10_7 C h dX10_way_44 ?_
          refine lv_iload_n hx hb dX10_way_47 rfl (lv_at hl 1 rfl) ?_
          refine ldA 28 rfl (j := j1) (show j1 < 40 by omega) (by decide) C h dX10_way_48 ?_
          refine tI (y := nI (wt j1 0)) (hRW j1 hj1).1 ?_
          refine zN_eq (tgt := 54) (a := wt j1 0) C (by omega) dX10_way_49 (by decide) (fun c_49 => ?_) (fun c_49 => ?_)
          · skip
            refine lv_iload_n hx hb dX10_way_54 rfl (lv_at hl 2 rfl) ?_
            refine zN_ne (tgt := 67) (a := q) C (by omega) dX10_way_55 (by decide) (fun c_55 => ?_) (fun c_55 => ?_)
            · skip
              refine lv_iload_n hx hb dX10_way_67 rfl (lv_at hl 2 rfl) ?_
              refine lv_iconst (v := nI (1)) hx hb dX10_way_68 (by decide) ?_
              refine jN_ne (tgt := 81) (a := q) (b := 1) C (by omega) (by omega) dX10_way_69 (by decide) (fun c_69 => ?_) (fun c_69 => ?_)
              · skip
                refine lv_iload_n hx hb dX10_way_81 rfl (lv_at hl 2 rfl) ?_
                refine lv_iconst (v := nI (2)) hx hb dX10_way_82 (by decide) ?_
                refine jN_ne (tgt := 95) (a := q) (b := 2) C (by omega) (by omega) dX10_way_83 (by decide) (fun c_83 => ?_) (fun c_83 => ?_)
                · skip
                  refine lv_aload_n hx hb dX10_way_95 rfl (lv_at hl 0 rfl) ?_
                  refine rg_X10_22 C h dX10_way_96 ?_
                  refine lv_iload_n hx hb dX10_way_99 rfl (lv_at hl 1 rfl) ?_
                  refine ldA 32 rfl (j := j1) (show j1 < 40 by omega) (by decide) C h dX10_way_100 ?_
                  refine tI (y := nI (wt j1 4)) (hRW j1 hj1).2.2.2.2.1 ?_
                  exact rI C hr hlk h dX10_way_101 (Nat.le_of_ble_eq_true rfl) (Nat.le_of_ble_eq_true rfl) ((Or.inr ⟨j1, q, ⟨rfl, hj1⟩, ⟨rfl, qh⟩, rfl, by rw [if_neg c_33]; unfold trF; rw [if_pos c_49, (show q = 3 by omega)]⟩))
                · skip
                  refine lv_aload_n hx hb dX10_way_86 rfl (lv_at hl 0 rfl) ?_
                  refine rg_X10_19 C h dX10_way_87 ?_
                  refine lv_iload_n hx hb dX10_way_90 rfl (lv_at hl 1 rfl) ?_
                  refine ldA 31 rfl (j := j1) (show j1 < 40 by omega) (by decide) C h dX10_way_91 ?_
                  refine tI (y := nI (wt j1 3)) (hRW j1 hj1).2.2.2.1 ?_
                  refine lv_goto (tgt := 101) hx hb dX10_way_92 (by decide) ?_
                  exact rI C hr hlk h dX10_way_101 (Nat.le_of_ble_eq_true rfl) (Nat.le_of_ble_eq_true rfl) ((Or.inr ⟨j1, q, ⟨rfl, hj1⟩, ⟨rfl, qh⟩, rfl, by rw [if_neg c_33]; unfold trF; rw [if_pos c_49, c_83]⟩))
              · skip
                refine lv_aload_n hx hb dX10_way_72 rfl (lv_at hl 0 rfl) ?_
                refine rg_X10_16 C h dX10_way_73 ?_
                refine lv_iload_n hx hb dX10_way_76 rfl (lv_at hl 1 rfl) ?_
                refine ldA 30 rfl (j := j1) (show j1 < 40 by omega) (by decide) C h dX10_way_77 ?_
                refine tI (y := nI (wt j1 2)) (hRW j1 hj1).2.2.1 ?_
                refine lv_goto (tgt := 101) hx hb dX10_way_78 (by decide) ?_
                exact rI C hr hlk h dX10_way_101 (Nat.le_of_ble_eq_true rfl) (Nat.le_of_ble_eq_true rfl) ((Or.inr ⟨j1, q, ⟨rfl, hj1⟩, ⟨rfl, qh⟩, rfl, by rw [if_neg c_33]; unfold trF; rw [if_pos c_49, c_69]⟩))
            · skip
              refine lv_aload_n hx hb dX10_way_58 rfl (lv_at hl 0 rfl) ?_
              refine rg_X10_13 C h dX10_way_59 ?_
              refine lv_iload_n hx hb dX10_way_62 rfl (lv_at hl 1 rfl) ?_
              refine ldA 29 rfl (j := j1) (show j1 < 40 by omega) (by decide) C h dX10_way_63 ?_
              refine tI (y := nI (wt j1 1)) (hRW j1 hj1).2.1 ?_
              refine lv_goto (tgt := 101) hx hb dX10_way_64 (by decide) ?_
              exact rI C hr hlk h dX10_way_101 (Nat.le_of_ble_eq_true rfl) (Nat.le_of_ble_eq_true rfl) ((Or.inr ⟨j1, q, ⟨rfl, hj1⟩, ⟨rfl, qh⟩, rfl, by rw [if_neg c_33]; unfold trF; rw [if_pos c_49, c_55]⟩))
          · skip
            refine lv_iconst (v := (-1)) hx hb dX10_way_52 (by decide) ?_
            exact rI C hr hlk h dX10_way_53 (Nat.le_of_ble_eq_true rfl) (Nat.le_of_ble_eq_true rfl) ((Or.inr ⟨j1, q, ⟨rfl, hj1⟩, ⟨rfl, qh⟩, rfl, by rw [if_neg c_33]; unfold trF; rw [if_neg (by omega)]⟩))
        · skip
          refine lv_aload_n hx hb dX10_way_36 rfl (lv_at hl 0 rfl) ?_
          refine rg_X10_25 C h dX10_way_37 ?_
          refine lv_iload_n hx hb dX10_way_40 rfl (lv_at hl 1 rfl) ?_
          refine ldA 33 rfl (j := j1) (show j1 < 40 by omega) (by decide) C h dX10_way_41 ?_
          refine tI (y := nI (dp j1)) (hRW j1 hj1).2.2.2.2.2.1 ?_
          exact rI C hr hlk h dX10_way_42 (Nat.le_of_ble_eq_true rfl) (Nat.le_of_ble_eq_true rfl) ((Or.inr ⟨j1, q, ⟨rfl, hj1⟩, ⟨rfl, qh⟩, rfl, (if_pos c_33).symm⟩))
      · skip
        refine lv_iconst (v := nI (1)) hx hb dX10_way_18 (by decide) ?_
        refine lv_goto (tgt := 23) hx hb dX10_way_19 (by decide) ?_
        refine backI h (runV (As := [.int (nI (1))]) (rest := []) C h (r_refuses l z v sc ar 1 (by decide)) gv_X10_105 gv_X10_105_n ⟨rfl, rfl⟩ (r_Ref C h) rfl hl.1 rfl (Nat.le_of_ble_eq_true rfl) dX10_way_23 ⟨Nat.le_of_ble_eq_true rfl, Nat.le_of_ble_eq_true rfl⟩ ⟨Nat.le_of_ble_eq_true rfl, Nat.le_of_ble_eq_true rfl⟩) (fun r_23 v_23 sc_23 ar_23 H locs p_23 h => ?_)
        have h : hH z v (va_up sc 20 (nI (1))) ar s H locs := uEq p_23.2 h
        refine tI (y := nI (1)) p_23.1 ?_
        refine zN_eq (tgt := 31) (a := 1) C (by decide) dX10_way_26 (by decide) (fun q => absurd q (by decide)) (fun _ => ?_)
        refine lv_iconst (v := nI (0)) hx hb dX10_way_29 (by decide) ?_
        exact rI C hr hlk h dX10_way_30 (Nat.le_of_ble_eq_true rfl) (Nat.le_of_ble_eq_true rfl) (Or.inl ⟨fun g => rNo (lo := 0) (hi := 4) (by decide) (by decide) (Or.inr (Int32.not_le.mp c_15)) g.2, rfl⟩)
  · skip
    refine tI (y := nI 0) er_3 ?_
    refine zN_eq (tgt := 18) (a := 0) C (by decide) dX10_way_6 (by decide) (fun _ => ?_) (fun q => absurd q (by decide))
    refine lv_iconst (v := nI (1)) hx hb dX10_way_18 (by decide) ?_
    refine lv_goto (tgt := 23) hx hb dX10_way_19 (by decide) ?_
    refine backI h (runV (As := [.int (nI (1))]) (rest := []) C h (r_refuses l z v sc ar 1 (by decide)) gv_X10_105 gv_X10_105_n ⟨rfl, rfl⟩ (r_Ref C h) rfl hl.1 rfl (Nat.le_of_ble_eq_true rfl) dX10_way_23 ⟨Nat.le_of_ble_eq_true rfl, Nat.le_of_ble_eq_true rfl⟩ ⟨Nat.le_of_ble_eq_true rfl, Nat.le_of_ble_eq_true rfl⟩) (fun r_23 v_23 sc_23 ar_23 H locs p_23 h => ?_)
    have h : hH z v (va_up sc 20 (nI (1))) ar s H locs := uEq p_23.2 h
    refine tI (y := nI (1)) p_23.1 ?_
    refine zN_eq (tgt := 31) (a := 1) C (by decide) dX10_way_26 (by decide) (fun q => absurd q (by decide)) (fun _ => ?_)
    refine lv_iconst (v := nI (0)) hx hb dX10_way_29 (by decide) ?_
    exact rI C hr hlk h dX10_way_30 (Nat.le_of_ble_eq_true rfl) (Nat.le_of_ble_eq_true rfl) (Or.inl ⟨fun g => ew_3 g.1, rfl⟩)
theorem feedR {f : Nat → Int32} {n : Nat} {x : Int32} : ∀ i, i < 4 → upd (upd (upd (upd f n (nI (fB x 0))) (n + 1) (nI (fB x 1))) (n + 2) (nI (fB x 2))) (n + 3) (nI (fB x 3)) (n + i) = nI (fB x i) := by
  intro i hi
  have hi4 : i = 0 ∨ i = 1 ∨ i = 2 ∨ i = 3 := by omega
  rcases hi4 with rfl | rfl | rfl | rfl
  · rw [pk_un (by omega), pk_un (by omega), pk_un (by omega)]; exact pk_us
  · rw [pk_un (by omega), pk_un (by omega), pk_us]
  · rw [pk_un (by omega), pk_us]
  · rw [pk_us]
set_option maxHeartbeats 4000000 in
set_option maxRecDepth 100000 in
theorem r_feed (l : Launch) (z : bZ) (v : bV) (sc : Nat → Int32) (ar : Nat → Nat → Int32) (n : Nat) (x : Int32) (hn : sc 23 = nI n) (hn8 : n ≤ 8000) : Met l yX10_feed (Cond.code yX10_feed cX10_feed 3 (some .int) :: uW) { frames := 1, cells := 0, slots := 0, locals := 21 } (pC z v sc ar [.ref (zad z 27), .int (x)]) (qI z (fun r u => (8000 < n + 4 ∧ u = (v, va_up sc 20 (nI 1), ar)) ∨ (n + 4 ≤ 8000 ∧ r = nI (n + 4) ∧ ∃ g, u = (v, va_up (va_up sc 20 (nI 0)) 23 (nI (n + 4)), va_up ar 35 g) ∧ (∀ j, j < n → g j = ar 35 j) ∧ ∀ i, i < 4 → g (n + i) = nI (fB x i)))) 0 0 (zA z) := by
  refine eM (by decide) (Nat.le_of_ble_eq_true rfl) ?_
  intro pP eE s mM below meth cC ls C hr hlk h hl
  have hx := C.1.1
  have hb := C.1.2.1
  have hl : lv_has ls 3 [(0, .ref (zad z 27)), (1, .int (x))] := hl
  refine lv_aload_n hx hb dX10_feed_0 rfl (lv_at hl 0 rfl) ?_
  refine lv_aload_n hx hb dX10_feed_1 rfl (lv_at hl 0 rfl) ?_
  refine rg_X10_168 C h dX10_feed_2 ?_
  refine tI (y := nI (n)) hn ?_
  refine lv_iconst (v := nI (4)) hx hb dX10_feed_5 (by decide) ?_
  refine lv_iadd hx hb dX10_feed_6 ?_
  refine tI (nI_add _ _) ?_
  refine lv_sipush (v := nI (8000)) hx hb dX10_feed_7 (by decide) ?_
  refine jN_le (tgt := 17) (a := (n) + (4)) (b := 8000) C (by omega) (by omega) dX10_feed_10 (by decide) (fun c_10 => ?_) (fun c_10 => ?_)
  · skip
    refine lv_iconst (v := nI (0)) hx hb dX10_feed_17 (by decide) ?_
    refine backI h (runV (As := [.int (nI (0))]) (rest := []) C h (r_refuses l z v sc ar 0 (by decide)) gv_X10_105 gv_X10_105_n ⟨rfl, rfl⟩ (r_Ref C h) rfl hl.1 rfl (Nat.le_of_ble_eq_true rfl) dX10_feed_18 ⟨Nat.le_of_ble_eq_true rfl, Nat.le_of_ble_eq_true rfl⟩ ⟨Nat.le_of_ble_eq_true rfl, Nat.le_of_ble_eq_true rfl⟩) (fun r_18 v_18 sc_18 ar_18 H locs p_18 h => ?_)
    have h : hH z v (va_up sc 20 (nI (0))) ar s H locs := uEq p_18.2 h
    refine tI (y := nI (0)) p_18.1 ?_
    refine zN_eq (tgt := 26) (a := 0) C (by decide) dX10_feed_21 (by decide) (fun _ => ?_) (fun q => absurd q (by decide))
    refine lv_bipush (v := nI (24)) hx hb dX10_feed_26 (by decide) ?_
    refine lv_istore_n (lv' := [(2, .int (nI (24))), (0, .ref (zad z 27)), (1, .int (x))]) hx hb dX10_feed_28 rfl hl (by decide) rfl (fun ls hl => ?_)
    refine lv_iload_n hx hb dX10_feed_29 rfl (lv_at hl 0 rfl) ?_
    refine zN_lt (tgt := 65) (a := 24) C (by decide) dX10_feed_30 (by decide) ?_
    refine lv_aload_n hx hb dX10_feed_33 rfl (lv_at hl 1 rfl) ?_
    refine rg_X10_31 C h dX10_feed_34 ?_
    refine lv_aload_n hx hb dX10_feed_37 rfl (lv_at hl 1 rfl) ?_
    refine rg_X10_168 C h dX10_feed_38 ?_
    refine tI (y := nI (n)) hn ?_
    refine lv_iload_n hx hb dX10_feed_41 rfl (lv_at hl 2 rfl) ?_
    refine lv_iload_n hx hb dX10_feed_42 rfl (lv_at hl 0 rfl) ?_
    refine lv_ishr hx hb dX10_feed_43 ?_
    refine lv_sipush (v := nI (255)) hx hb dX10_feed_44 (by decide) ?_
    refine lv_iand hx hb dX10_feed_47 ?_
    refine tI (y := nI (fB x 0)) (sh8 x 24 (by decide) _ (by decide)) ?_
    refine stA 35 rfl (j := n) (x := nI (fB x 0)) (show n < 8000 by omega) (by decide) C h dX10_feed_48 (fun H locs h => ?_)
    have h : hH z v (va_up sc 20 (nI (0))) (va_up ar 35 (upd (ar 35) (n) (nI (fB x 0)))) s H locs := h
    refine lv_aload_n hx hb dX10_feed_49 rfl (lv_at hl 1 rfl) ?_
    refine lv_dup hx hb dX10_feed_50 rfl ?_
    refine rg_X10_168 C h dX10_feed_51 ?_
    refine tI (y := nI (n)) hn ?_
    refine lv_iconst (v := nI (1)) hx hb dX10_feed_54 (by decide) ?_
    refine lv_iadd hx hb dX10_feed_55 ?_
    refine tI (y := nI (n + 1)) (nI_add _ _) ?_
    refine rp_X10_168 C h dX10_feed_56 (fun H locs h => ?_)
    have h : hH z v (va_up (va_up sc 20 (nI 0)) 23 (nI (n + 1))) (va_up ar 35 (upd (ar 35) (n) (nI (fB x 0)))) s H locs := h
    refine lv_iinc (v := nI (16)) (lv' := [(2, .int (nI (16))), (0, .ref (zad z 27)), (1, .int (x))]) hx hb dX10_feed_59 hl (k := 0) rfl (by decide) (by decide) rfl (fun ls hl => ?_)
    refine lv_goto (tgt := 29) hx hb dX10_feed_62 (by decide) ?_
    refine lv_iload_n hx hb dX10_feed_29 rfl (lv_at hl 0 rfl) ?_
    refine zN_lt (tgt := 65) (a := 16) C (by decide) dX10_feed_30 (by decide) ?_
    refine lv_aload_n hx hb dX10_feed_33 rfl (lv_at hl 1 rfl) ?_
    refine rg_X10_31 C h dX10_feed_34 ?_
    refine lv_aload_n hx hb dX10_feed_37 rfl (lv_at hl 1 rfl) ?_
    refine rg_X10_168 C h dX10_feed_38 ?_
    refine tI (y := nI (n + 1)) rfl ?_
    refine lv_iload_n hx hb dX10_feed_41 rfl (lv_at hl 2 rfl) ?_
    refine lv_iload_n hx hb dX10_feed_42 rfl (lv_at hl 0 rfl) ?_
    refine lv_ishr hx hb dX10_feed_43 ?_
    refine lv_sipush (v := nI (255)) hx hb dX10_feed_44 (by decide) ?_
    refine lv_iand hx hb dX10_feed_47 ?_
    refine tI (y := nI (fB x 1)) (sh8 x 16 (by decide) _ (by decide)) ?_
    refine stA 35 rfl (j := n + 1) (x := nI (fB x 1)) (show n + 1 < 8000 by omega) (by decide) C h dX10_feed_48 (fun H locs h => ?_)
    rw [va_uu, va_up_self] at h
    have h : hH z v (va_up (va_up sc 20 (nI 0)) 23 (nI (n + 1))) (va_up ar 35 (upd (upd (ar 35) (n) (nI (fB x 0))) (n + 1) (nI (fB x 1)))) s H locs := h
    refine lv_aload_n hx hb dX10_feed_49 rfl (lv_at hl 1 rfl) ?_
    refine lv_dup hx hb dX10_feed_50 rfl ?_
    refine rg_X10_168 C h dX10_feed_51 ?_
    refine tI (y := nI (n + 1)) rfl ?_
    refine lv_iconst (v := nI (1)) hx hb dX10_feed_54 (by decide) ?_
    refine lv_iadd hx hb dX10_feed_55 ?_
    refine tI (y := nI (n + 2)) (nI_add _ _) ?_
    refine rp_X10_168 C h dX10_feed_56 (fun H locs h => ?_)
    rw [va_uu] at h
    have h : hH z v (va_up (va_up sc 20 (nI 0)) 23 (nI (n + 2))) (va_up ar 35 (upd (upd (ar 35) (n) (nI (fB x 0))) (n + 1) (nI (fB x 1)))) s H locs := h
    refine lv_iinc (v := nI (8)) (lv' := [(2, .int (nI (8))), (0, .ref (zad z 27)), (1, .int (x))]) hx hb dX10_feed_59 hl (k := 0) rfl (by decide) (by decide) rfl (fun ls hl => ?_)
    refine lv_goto (tgt := 29) hx hb dX10_feed_62 (by decide) ?_
    refine lv_iload_n hx hb dX10_feed_29 rfl (lv_at hl 0 rfl) ?_
    refine zN_lt (tgt := 65) (a := 8) C (by decide) dX10_feed_30 (by decide) ?_
    refine lv_aload_n hx hb dX10_feed_33 rfl (lv_at hl 1 rfl) ?_
    refine rg_X10_31 C h dX10_feed_34 ?_
    refine lv_aload_n hx hb dX10_feed_37 rfl (lv_at hl 1 rfl) ?_
    refine rg_X10_168 C h dX10_feed_38 ?_
    refine tI (y := nI (n + 2)) rfl ?_
    refine lv_iload_n hx hb dX10_feed_41 rfl (lv_at hl 2 rfl) ?_
    refine lv_iload_n hx hb dX10_feed_42 rfl (lv_at hl 0 rfl) ?_
    refine lv_ishr hx hb dX10_feed_43 ?_
    refine lv_sipush (v := nI (255)) hx hb dX10_feed_44 (by decide) ?_
    refine lv_iand hx hb dX10_feed_47 ?_
    refine tI (y := nI (fB x 2)) (sh8 x 8 (by decide) _ (by decide)) ?_
    refine stA 35 rfl (j := n + 2) (x := nI (fB x 2)) (show n + 2 < 8000 by omega) (by decide) C h dX10_feed_48 (fun H locs h => ?_)
    rw [va_uu, va_up_self] at h
    have h : hH z v (va_up (va_up sc 20 (nI 0)) 23 (nI (n + 2))) (va_up ar 35 (upd (upd (upd (ar 35) (n) (nI (fB x 0))) (n + 1) (nI (fB x 1))) (n + 2) (nI (fB x 2)))) s H locs := h
    refine lv_aload_n hx hb dX10_feed_49 rfl (lv_at hl 1 rfl) ?_
    refine lv_dup hx hb dX10_feed_50 rfl ?_
    refine rg_X10_168 C h dX10_feed_51 ?_
    refine tI (y := nI (n + 2)) rfl ?_
    refine lv_iconst (v := nI (1)) hx hb dX10_feed_54 (by decide) ?_
    refine lv_iadd hx hb dX10_feed_55 ?_
    refine tI (y := nI (n + 3)) (nI_add _ _) ?_
    refine rp_X10_168 C h dX10_feed_56 (fun H locs h => ?_)
    rw [va_uu] at h
    have h : hH z v (va_up (va_up sc 20 (nI 0)) 23 (nI (n + 3))) (va_up ar 35 (upd (upd (upd (ar 35) (n) (nI (fB x 0))) (n + 1) (nI (fB x 1))) (n + 2) (nI (fB x 2)))) s H locs := h
    refine lv_iinc (v := nI (0)) (lv' := [(2, .int (nI (0))), (0, .ref (zad z 27)), (1, .int (x))]) hx hb dX10_feed_59 hl (k := 0) rfl (by decide) (by decide) rfl (fun ls hl => ?_)
    refine lv_goto (tgt := 29) hx hb dX10_feed_62 (by decide) ?_
    refine lv_iload_n hx hb dX10_feed_29 rfl (lv_at hl 0 rfl) ?_
    refine zN_lt (tgt := 65) (a := 0) C (by decide) dX10_feed_30 (by decide) ?_
    refine lv_aload_n hx hb dX10_feed_33 rfl (lv_at hl 1 rfl) ?_
    refine rg_X10_31 C h dX10_feed_34 ?_
    refine lv_aload_n hx hb dX10_feed_37 rfl (lv_at hl 1 rfl) ?_
    refine rg_X10_168 C h dX10_feed_38 ?_
    refine tI (y := nI (n + 3)) rfl ?_
    refine lv_iload_n hx hb dX10_feed_41 rfl (lv_at hl 2 rfl) ?_
    refine lv_iload_n hx hb dX10_feed_42 rfl (lv_at hl 0 rfl) ?_
    refine lv_ishr hx hb dX10_feed_43 ?_
    refine lv_sipush (v := nI (255)) hx hb dX10_feed_44 (by decide) ?_
    refine lv_iand hx hb dX10_feed_47 ?_
    refine tI (y := nI (fB x 3)) (sh8 x 0 (by decide) _ (by decide)) ?_
    refine stA 35 rfl (j := n + 3) (x := nI (fB x 3)) (show n + 3 < 8000 by omega) (by decide) C h dX10_feed_48 (fun H locs h => ?_)
    rw [va_uu, va_up_self] at h
    have h : hH z v (va_up (va_up sc 20 (nI 0)) 23 (nI (n + 3))) (va_up ar 35 (upd (upd (upd (upd (ar 35) (n) (nI (fB x 0))) (n + 1) (nI (fB x 1))) (n + 2) (nI (fB x 2))) (n + 3) (nI (fB x 3)))) s H locs := h
    refine lv_aload_n hx hb dX10_feed_49 rfl (lv_at hl 1 rfl) ?_
    refine lv_dup hx hb dX10_feed_50 rfl ?_
    refine rg_X10_168 C h dX10_feed_51 ?_
    refine tI (y := nI (n + 3)) rfl ?_
    refine lv_iconst (v := nI (1)) hx hb dX10_feed_54 (by decide) ?_
    refine lv_iadd hx hb dX10_feed_55 ?_
    refine tI (y := nI (n + 4)) (nI_add _ _) ?_
    refine rp_X10_168 C h dX10_feed_56 (fun H locs h => ?_)
    rw [va_uu] at h
    have h : hH z v (va_up (va_up sc 20 (nI 0)) 23 (nI (n + 4))) (va_up ar 35 (upd (upd (upd (upd (ar 35) (n) (nI (fB x 0))) (n + 1) (nI (fB x 1))) (n + 2) (nI (fB x 2))) (n + 3) (nI (fB x 3)))) s H locs := h
    refine lv_iinc (v := (-8)) (lv' := [(2, .int ((-8))), (0, .ref (zad z 27)), (1, .int (x))]) hx hb dX10_feed_59 hl (k := 0) rfl (by decide) (by decide) rfl (fun ls hl => ?_)
    refine lv_goto (tgt := 29) hx hb dX10_feed_62 (by decide) ?_
    refine lv_iload_n hx hb dX10_feed_29 rfl (lv_at hl 0 rfl) ?_
    refine lv_if_lt (tgt := 65) hx hb dX10_feed_30 (by decide) (fun c_30 => ?_) (fun c_30 => ?_)
    · skip
      refine lv_aload_n hx hb dX10_feed_65 rfl (lv_at hl 1 rfl) ?_
      refine rg_X10_168 C h dX10_feed_66 ?_
      refine tI (y := nI (n + 4)) rfl ?_
      exact rI C hr hlk h dX10_feed_69 (Nat.le_of_ble_eq_true rfl) (Nat.le_of_ble_eq_true rfl) ((Or.inr ⟨c_10, rfl, _, rfl, fun j hj => (by rw [pk_un (by omega), pk_un (by omega), pk_un (by omega), pk_un (by omega)]), feedR⟩))
    · skip
      exact absurd (by decide) c_30
  · skip
    refine lv_iconst (v := nI (1)) hx hb dX10_feed_13 (by decide) ?_
    refine lv_goto (tgt := 18) hx hb dX10_feed_14 (by decide) ?_
    refine backI h (runV (As := [.int (nI (1))]) (rest := []) C h (r_refuses l z v sc ar 1 (by decide)) gv_X10_105 gv_X10_105_n ⟨rfl, rfl⟩ (r_Ref C h) rfl hl.1 rfl (Nat.le_of_ble_eq_true rfl) dX10_feed_18 ⟨Nat.le_of_ble_eq_true rfl, Nat.le_of_ble_eq_true rfl⟩ ⟨Nat.le_of_ble_eq_true rfl, Nat.le_of_ble_eq_true rfl⟩) (fun r_18 v_18 sc_18 ar_18 H locs p_18 h => ?_)
    have h : hH z v (va_up sc 20 (nI (1))) ar s H locs := uEq p_18.2 h
    refine tI (y := nI (1)) p_18.1 ?_
    refine zN_eq (tgt := 26) (a := 1) C (by decide) dX10_feed_21 (by decide) (fun q => absurd q (by decide)) (fun _ => ?_)
    refine lv_iconst (v := nI (0)) hx hb dX10_feed_24 (by decide) ?_
    exact rI C hr hlk h dX10_feed_25 (Nat.le_of_ble_eq_true rfl) (Nat.le_of_ble_eq_true rfl) (Or.inl ⟨by omega, rfl⟩)
