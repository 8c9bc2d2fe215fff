theorem cdO_pos {s k : Nat} {t : Int32} (h : t.toInt = k) : cdO s t = some (if s = 0 then k else k + k / (2 ^ s - 1)) := by
  unfold cdO
  rw [if_pos (by omega), h]
  rfl
theorem cdO_neg0 {k : Nat} {t : Int32} (h : t.toInt = -(k : Int)) (hk : 0 < k) : cdO 0 t = none := by
  unfold cdO
  rw [if_neg (by omega), if_pos rfl]
theorem cdO_neg {s k w : Nat} {t : Int32} (hs : s ≠ 0) (hw : 2 ^ s = w) (h : t.toInt = -(k : Int)) (hk : 0 < k) : cdO s t = if w * k - 1 < 4294967296 then some (w * k - 1) else none := by
  unfold cdO
  rw [if_neg (by omega), if_neg hs, hw, show (-t.toInt).toNat = k by omega]
theorem uk_X1_50 : Cond.constantLong RX1 50 (-1) ∈ uW := uW_of (by decide +kernel) rfl
theorem uk_X1_60 : Cond.constantLong RX1 60 (4294967296) ∈ uW := uW_of (by decide +kernel) rfl
set_option maxHeartbeats 4000000 in
set_option maxRecDepth 100000 in
/-- Coding.codeOf -/
theorem k_codeOf (l : Launch) (z : bZ) (v : bV) (sc : Nat → Int32) (ar : Nat → Nat → Int32) (a cb ch cs cd : Nat) (x y : Int32) (hw : cdW v a cb ch cs cd) : Met l yX1_codeOf (Cond.code yX1_codeOf cX1_codeOf 7 (some .long) :: uW) { frames := 0, cells := 0, slots := 0, locals := 0 } (pC z v sc ar [.ref (a), .int (x), .int (y)]) (qL z (fun r u => r = oL (cdO cs (toldI cd x y)) ∧ u = (v, sc, ar))) 0 0 (zA z) := by
  refine eM (by decide) (Nat.le_of_ble_eq_true rfl) ?_
  intro pP eE s mM below meth cC ls C hr hlk h hl
  have hx := C.1.1
  have hb := C.1.2.1
  have hl : lv_has ls 7 [(0, .ref (a)), (1, .int (x)), (2, .int (y))] := hl
  obtain ⟨-, -, ⟨hB1, hB5⟩, ⟨hH1, hH2⟩, hS, hD⟩ := id hw
  rcases (show cs = 0 ∨ cs = 1 ∨ cs = 2 by omega) with rfl | rfl | rfl
  · skip
    refine lv_aload_n hx hb dX1_codeOf_0 rfl (lv_at hl 0 rfl) ?_
    refine rw_X1_21 C h hw dX1_codeOf_1 ?_
    refine lv_iconst (v := nI (1)) hx hb dX1_codeOf_4 (by decide) ?_
    refine jN_ne (tgt := 15) (a := cd) (b := 1) C (by omega) (by omega) dX1_codeOf_5 (by decide) (fun c_5 => ?_) (fun c_5 => ?_)
    · skip
      refine lv_iload_n hx hb dX1_codeOf_15 rfl (lv_at hl 1 rfl) ?_
      refine lv_i2l (v := (toldI cd x y).toInt64) hx hb dX1_codeOf_16 (by rw [toldI, if_neg c_5]) ?_
      refine lv_lstore_n (lv' := [(3, .long ((toldI cd x y).toInt64)), (0, .ref (a)), (1, .int (x)), (2, .int (y))]) hx hb dX1_codeOf_17 rfl hl (by decide) rfl (fun ls hl => ?_)
      refine lv_lload_n hx hb dX1_codeOf_18 rfl (lv_at hl 0 rfl) ?_
      refine lv_lconst (v := lN 0) hx hb dX1_codeOf_19 (by decide) ?_
      refine W.lcmp hx hb dX1_codeOf_20 ?_
      refine lv_if_lt (tgt := 49) hx hb dX1_codeOf_21 (by decide) (fun c_21 => ?_) (fun c_21 => ?_)
      · skip
        have c_21 : ((toldI cd x y).toInt64) < (lN (0)) := (lg_cmp_lt _ _).mp c_21
        obtain ⟨k, hk0, hk, hti, hng⟩ := t_negL c_21
        refine lv_lload_n hx hb dX1_codeOf_49 rfl (lv_at hl 0 rfl) ?_
        refine lv_lneg hx hb dX1_codeOf_50 ?_
        refine tL (y := lN (k)) hng ?_
        refine lv_aload_n hx hb dX1_codeOf_51 rfl (lv_at hl 1 rfl) ?_
        refine rw_X1_18 C h hw dX1_codeOf_52 ?_
        refine lv_lshl (v := lN (k * 1)) hx hb dX1_codeOf_55 (lshN k (s := 0) (by decide)) ?_
        refine lv_lconst (v := lN 1) hx hb dX1_codeOf_56 (by decide) ?_
        refine lv_lsub hx hb dX1_codeOf_57 ?_
        refine tL (lN_sub (by omega)) ?_
        refine lv_lstore (lv' := [(5, .long (lN ((k * 1) - (1)))), (3, .long ((toldI cd x y).toInt64)), (0, .ref (a)), (1, .int (x)), (2, .int (y))]) hx hb dX1_codeOf_58 hl (by decide) rfl (fun ls hl => ?_)
        refine lv_aload_n hx hb dX1_codeOf_60 rfl (lv_at hl 2 rfl) ?_
        refine rw_X1_18 C h hw dX1_codeOf_61 ?_
        refine zN_eq (tgt := 81) (a := 0) C (by decide) dX1_codeOf_64 (by decide) (fun _ => ?_) (fun q => absurd q (by decide))
        refine lv_ldc2 (v := -1) hx hb C.1.2.2.2.1 (C.1.2.2.2.2 _ uk_X1_50) dX1_codeOf_81 ?_
        exact rL C hr hlk h dX1_codeOf_84 (Nat.le_of_ble_eq_true rfl) (Nat.le_of_ble_eq_true rfl) (⟨by rw [cdO_neg0 hti hk0]; rfl, rfl⟩)
      · skip
        have c_21 : ¬ ((toldI cd x y).toInt64) < (lN (0)) := fun q => c_21 ((lg_cmp_lt _ _).mpr q)
        obtain ⟨k, hk, ht, hti⟩ := t_posL c_21
        have e3 : (toldI cd x y).toInt64 = lN k := by rw [ht]; exact nI_l (by omega)
        have hl : lv_has ls 7 [(3, .long (lN (k))), (0, .ref (a)), (1, .int (x)), (2, .int (y))] := by rw [e3] at hl; exact hl
        refine lv_aload_n hx hb dX1_codeOf_24 rfl (lv_at hl 1 rfl) ?_
        refine rw_X1_18 C h hw dX1_codeOf_25 ?_
        refine zN_ne (tgt := 35) (a := 0) C (by decide) dX1_codeOf_28 (by decide) (fun q => absurd q (by decide)) (fun _ => ?_)
        refine lv_lload_n hx hb dX1_codeOf_31 rfl (lv_at hl 0 rfl) ?_
        refine lv_goto (tgt := 48) hx hb dX1_codeOf_32 (by decide) ?_
        exact rL C hr hlk h dX1_codeOf_48 (Nat.le_of_ble_eq_true rfl) (Nat.le_of_ble_eq_true rfl) (⟨by rw [cdO_pos hti]; rfl, rfl⟩)
    · skip
      refine lv_iload_n hx hb dX1_codeOf_8 rfl (lv_at hl 1 rfl) ?_
      refine lv_iload_n hx hb dX1_codeOf_9 rfl (lv_at hl 2 rfl) ?_
      refine lv_isub hx hb dX1_codeOf_10 ?_
      refine lv_i2l (v := (toldI cd x y).toInt64) hx hb dX1_codeOf_11 (by rw [toldI, if_pos c_5]) ?_
      refine lv_goto (tgt := 17) hx hb dX1_codeOf_12 (by decide) ?_
      refine lv_lstore_n (lv' := [(3, .long ((toldI cd x y).toInt64)), (0, .ref (a)), (1, .int (x)), (2, .int (y))]) hx hb dX1_codeOf_17 rfl hl (by decide) rfl (fun ls hl => ?_)
      refine lv_lload_n hx hb dX1_codeOf_18 rfl (lv_at hl 0 rfl) ?_
      refine lv_lconst (v := lN 0) hx hb dX1_codeOf_19 (by decide) ?_
      refine W.lcmp hx hb dX1_codeOf_20 ?_
      refine lv_if_lt (tgt := 49) hx hb dX1_codeOf_21 (by decide) (fun c_21 => ?_) (fun c_21 => ?_)
      · skip
        have c_21 : ((toldI cd x y).toInt64) < (lN (0)) := (lg_cmp_lt _ _).mp c_21
        obtain ⟨k, hk0, hk, hti, hng⟩ := t_negL c_21
        refine lv_lload_n hx hb dX1_codeOf_49 rfl (lv_at hl 0 rfl) ?_
        refine lv_lneg hx hb dX1_codeOf_50 ?_
        refine tL (y := lN (k)) hng ?_
        refine lv_aload_n hx hb dX1_codeOf_51 rfl (lv_at hl 1 rfl) ?_
        refine rw_X1_18 C h hw dX1_codeOf_52 ?_
        refine lv_lshl (v := lN (k * 1)) hx hb dX1_codeOf_55 (lshN k (s := 0) (by decide)) ?_
        refine lv_lconst (v := lN 1) hx hb dX1_codeOf_56 (by decide) ?_
        refine lv_lsub hx hb dX1_codeOf_57 ?_
        refine tL (lN_sub (by omega)) ?_
        refine lv_lstore (lv' := [(5, .long (lN ((k * 1) - (1)))), (3, .long ((toldI cd x y).toInt64)), (0, .ref (a)), (1, .int (x)), (2, .int (y))]) hx hb dX1_codeOf_58 hl (by decide) rfl (fun ls hl => ?_)
        refine lv_aload_n hx hb dX1_codeOf_60 rfl (lv_at hl 2 rfl) ?_
        refine rw_X1_18 C h hw dX1_codeOf_61 ?_
        refine zN_eq (tgt := 81) (a := 0) C (by decide) dX1_codeOf_64 (by decide) (fun _ => ?_) (fun q => absurd q (by decide))
        refine lv_ldc2 (v := -1) hx hb C.1.2.2.2.1 (C.1.2.2.2.2 _ uk_X1_50) dX1_codeOf_81 ?_
        exact rL C hr hlk h dX1_codeOf_84 (Nat.le_of_ble_eq_true rfl) (Nat.le_of_ble_eq_true rfl) (⟨by rw [cdO_neg0 hti hk0]; rfl, rfl⟩)
      · skip
        have c_21 : ¬ ((toldI cd x y).toInt64) < (lN (0)) := fun q => c_21 ((lg_cmp_lt _ _).mpr q)
        obtain ⟨k, hk, ht, hti⟩ := t_posL c_21
        have e3 : (toldI cd x y).toInt64 = lN k := by rw [ht]; exact nI_l (by omega)
        have hl : lv_has ls 7 [(3, .long (lN (k))), (0, .ref (a)), (1, .int (x)), (2, .int (y))] := by rw [e3] at hl; exact hl
        refine lv_aload_n hx hb dX1_codeOf_24 rfl (lv_at hl 1 rfl) ?_
        refine rw_X1_18 C h hw dX1_codeOf_25 ?_
        refine zN_ne (tgt := 35) (a := 0) C (by decide) dX1_codeOf_28 (by decide) (fun q => absurd q (by decide)) (fun _ => ?_)
        refine lv_lload_n hx hb dX1_codeOf_31 rfl (lv_at hl 0 rfl) ?_
        refine lv_goto (tgt := 48) hx hb dX1_codeOf_32 (by decide) ?_
        exact rL C hr hlk h dX1_codeOf_48 (Nat.le_of_ble_eq_true rfl) (Nat.le_of_ble_eq_true rfl) (⟨by rw [cdO_pos hti]; rfl, rfl⟩)
  · skip
    refine lv_aload_n hx hb dX1_codeOf_0 rfl (lv_at hl 0 rfl) ?_
    refine rw_X1_21 C h hw dX1_codeOf_1 ?_
    refine lv_iconst (v := nI (1)) hx hb dX1_codeOf_4 (by decide) ?_
    refine jN_ne (tgt := 15) (a := cd) (b := 1) C (by omega) (by omega) dX1_codeOf_5 (by decide) (fun c_5 => ?_) (fun c_5 => ?_)
    · skip
      refine lv_iload_n hx hb dX1_codeOf_15 rfl (lv_at hl 1 rfl) ?_
      refine lv_i2l (v := (toldI cd x y).toInt64) hx hb dX1_codeOf_16 (by rw [toldI, if_neg c_5]) ?_
      refine lv_lstore_n (lv' := [(3, .long ((toldI cd x y).toInt64)), (0, .ref (a)), (1, .int (x)), (2, .int (y))]) hx hb dX1_codeOf_17 rfl hl (by decide) rfl (fun ls hl => ?_)
      refine lv_lload_n hx hb dX1_codeOf_18 rfl (lv_at hl 0 rfl) ?_
      refine lv_lconst (v := lN 0) hx hb dX1_codeOf_19 (by decide) ?_
      refine W.lcmp hx hb dX1_codeOf_20 ?_
      refine lv_if_lt (tgt := 49) hx hb dX1_codeOf_21 (by decide) (fun c_21 => ?_) (fun c_21 => ?_)
      · skip
        have c_21 : ((toldI cd x y).toInt64) < (lN (0)) := (lg_cmp_lt _ _).mp c_21
        obtain ⟨k, hk0, hk, hti, hng⟩ := t_negL c_21
        refine lv_lload_n hx hb dX1_codeOf_49 rfl (lv_at hl 0 rfl) ?_
        refine lv_lneg hx hb dX1_codeOf_50 ?_
        refine tL (y := lN (k)) hng ?_
        refine lv_aload_n hx hb dX1_codeOf_51 rfl (lv_at hl 1 rfl) ?_
        refine rw_X1_18 C h hw dX1_codeOf_52 ?_
        refine lv_lshl (v := lN (k * 2)) hx hb dX1_codeOf_55 (lshN k (s := 1) (by decide)) ?_
        refine lv_lconst (v := lN 1) hx hb dX1_codeOf_56 (by decide) ?_
        refine lv_lsub hx hb dX1_codeOf_57 ?_
        refine tL (lN_sub (by omega)) ?_
        refine lv_lstore (lv' := [(5, .long (lN ((k * 2) - (1)))), (3, .long ((toldI cd x y).toInt64)), (0, .ref (a)), (1, .int (x)), (2, .int (y))]) hx hb dX1_codeOf_58 hl (by decide) rfl (fun ls hl => ?_)
        refine lv_aload_n hx hb dX1_codeOf_60 rfl (lv_at hl 2 rfl) ?_
        refine rw_X1_18 C h hw dX1_codeOf_61 ?_
        refine zN_eq (tgt := 81) (a := 1) C (by decide) dX1_codeOf_64 (by decide) (fun q => absurd q (by decide)) (fun _ => ?_)
        refine lv_lload hx hb dX1_codeOf_67 (lv_at hl 0 rfl) ?_
        refine lv_ldc2 (v := 4294967296) hx hb C.1.2.2.2.1 (C.1.2.2.2.2 _ uk_X1_60) dX1_codeOf_69 ?_
        refine tL (y := lN 4294967296) (by decide) ?_
        refine W.lcmp hx hb dX1_codeOf_72 ?_
        refine lv_if_ge (tgt := 81) hx hb dX1_codeOf_73 (by decide) (fun c_73 => ?_) (fun c_73 => ?_)
        · skip
          have c_73 : (4294967296) ≤ ((k * 2) - (1)) := (pk_lLE (by omega) (by omega)).mp ((lg_cmp_ge _ _).mp c_73)
          refine lv_ldc2 (v := -1) hx hb C.1.2.2.2.1 (C.1.2.2.2.2 _ uk_X1_50) dX1_codeOf_81 ?_
          exact rL C hr hlk h dX1_codeOf_84 (Nat.le_of_ble_eq_true rfl) (Nat.le_of_ble_eq_true rfl) (⟨by rw [cdO_neg (w := 2) (by decide) rfl hti hk0, if_neg (by omega)]; rfl, rfl⟩)
        · skip
          have c_73 : ((k * 2) - (1)) < (4294967296) := Nat.not_le.mp (fun q => c_73 ((lg_cmp_ge _ _).mpr ((pk_lLE (by omega) (by omega)).mpr q)))
          refine lv_lload hx hb dX1_codeOf_76 (lv_at hl 0 rfl) ?_
          refine lv_goto (tgt := 84) hx hb dX1_codeOf_78 (by decide) ?_
          exact rL C hr hlk h dX1_codeOf_84 (Nat.le_of_ble_eq_true rfl) (Nat.le_of_ble_eq_true rfl) (⟨by rw [cdO_neg (w := 2) (by decide) rfl hti hk0, if_pos (by omega)]; show lN _ = lN _; congr 1; omega, rfl⟩)
      · skip
        have c_21 : ¬ ((toldI cd x y).toInt64) < (lN (0)) := fun q => c_21 ((lg_cmp_lt _ _).mpr q)
        obtain ⟨k, hk, ht, hti⟩ := t_posL c_21
        have e3 : (toldI cd x y).toInt64 = lN k := by rw [ht]; exact nI_l (by omega)
        have hl : lv_has ls 7 [(3, .long (lN (k))), (0, .ref (a)), (1, .int (x)), (2, .int (y))] := by rw [e3] at hl; exact hl
        refine lv_aload_n hx hb dX1_codeOf_24 rfl (lv_at hl 1 rfl) ?_
        refine rw_X1_18 C h hw dX1_codeOf_25 ?_
        refine zN_ne (tgt := 35) (a := 1) C (by decide) dX1_codeOf_28 (by decide) (fun _ => ?_) (fun q => absurd q (by decide))
        refine lv_lload_n hx hb dX1_codeOf_35 rfl (lv_at hl 0 rfl) ?_
        refine lv_lload_n hx hb dX1_codeOf_36 rfl (lv_at hl 0 rfl) ?_
        refine lv_iconst (v := nI (1)) hx hb dX1_codeOf_37 (by decide) ?_
        refine lv_aload_n hx hb dX1_codeOf_38 rfl (lv_at hl 1 rfl) ?_
        refine rw_X1_18 C h hw dX1_codeOf_39 ?_
        refine lv_ishl hx hb dX1_codeOf_42 ?_
        refine tI (y := nI (2)) (by decide) ?_
        refine lv_iconst (v := nI (1)) hx hb dX1_codeOf_43 (by decide) ?_
        refine lv_isub hx hb dX1_codeOf_44 ?_
        refine tI (y := nI (1)) (by decide) ?_
        refine lv_i2l (v := lN (1)) hx hb dX1_codeOf_45 (nI_l (by omega)) ?_
        refine lv_ldiv hx hb dX1_codeOf_46 (lN_ne0 (by omega) (by omega)) ?_
        refine tL (pk_lDiv (by omega) (by omega) (by omega)) ?_
        refine lv_ladd hx hb dX1_codeOf_47 ?_
        refine tL (lN_add _ _) ?_
        exact rL C hr hlk h dX1_codeOf_48 (Nat.le_of_ble_eq_true rfl) (Nat.le_of_ble_eq_true rfl) (⟨by rw [cdO_pos hti]; rfl, rfl⟩)
    · skip
      refine lv_iload_n hx hb dX1_codeOf_8 rfl (lv_at hl 1 rfl) ?_
      refine lv_iload_n hx hb dX1_codeOf_9 rfl (lv_at hl 2 rfl) ?_
      refine lv_isub hx hb dX1_codeOf_10 ?_
      refine lv_i2l (v := (toldI cd x y).toInt64) hx hb dX1_codeOf_11 (by rw [toldI, if_pos c_5]) ?_
      refine lv_goto (tgt := 17) hx hb dX1_codeOf_12 (by decide) ?_
      refine lv_lstore_n (lv' := [(3, .long ((toldI cd x y).toInt64)), (0, .ref (a)), (1, .int (x)), (2, .int (y))]) hx hb dX1_codeOf_17 rfl hl (by decide) rfl (fun ls hl => ?_)
      refine lv_lload_n hx hb dX1_codeOf_18 rfl (lv_at hl 0 rfl) ?_
      refine lv_lconst (v := lN 0) hx hb dX1_codeOf_19 (by decide) ?_
      refine W.lcmp hx hb dX1_codeOf_20 ?_
      refine lv_if_lt (tgt := 49) hx hb dX1_codeOf_21 (by decide) (fun c_21 => ?_) (fun c_21 => ?_)
      · skip
        have c_21 : ((toldI cd x y).toInt64) < (lN (0)) := (lg_cmp_lt _ _).mp c_21
        obtain ⟨k, hk0, hk, hti, hng⟩ := t_negL c_21
        refine lv_lload_n hx hb dX1_codeOf_49 rfl (lv_at hl 0 rfl) ?_
        refine lv_lneg hx hb dX1_codeOf_50 ?_
        refine tL (y := lN (k)) hng ?_
        refine lv_aload_n hx hb dX1_codeOf_51 rfl (lv_at hl 1 rfl) ?_
        refine rw_X1_18 C h hw dX1_codeOf_52 ?_
        refine lv_lshl (v := lN (k * 2)) hx hb dX1_codeOf_55 (lshN k (s := 1) (by decide)) ?_
        refine lv_lconst (v := lN 1) hx hb dX1_codeOf_56 (by decide) ?_
        refine lv_lsub hx hb dX1_codeOf_57 ?_
        refine tL (lN_sub (by omega)) ?_
        refine lv_lstore (lv' := [(5, .long (lN ((k * 2) - (1)))), (3, .long ((toldI cd x y).toInt64)), (0, .ref (a)), (1, .int (x)), (2, .int (y))]) hx hb dX1_codeOf_58 hl (by decide) rfl (fun ls hl => ?_)
        refine lv_aload_n hx hb dX1_codeOf_60 rfl (lv_at hl 2 rfl) ?_
        refine rw_X1_18 C h hw dX1_codeOf_61 ?_
        refine zN_eq (tgt := 81) (a := 1) C (by decide) dX1_codeOf_64 (by decide) (fun q => absurd q (by decide)) (fun _ => ?_)
        refine lv_lload hx hb dX1_codeOf_67 (lv_at hl 0 rfl) ?_
        refine lv_ldc2 (v := 4294967296) hx hb C.1.2.2.2.1 (C.1.2.2.2.2 _ uk_X1_60) dX1_codeOf_69 ?_
        refine tL (y := lN 4294967296) (by decide) ?_
        refine W.lcmp hx hb dX1_codeOf_72 ?_
        refine lv_if_ge (tgt := 81) hx hb dX1_codeOf_73 (by decide) (fun c_73 => ?_) (fun c_73 => ?_)
        · skip
          have c_73 : (4294967296) ≤ ((k * 2) - (1)) := (pk_lLE (by omega) (by omega)).mp ((lg_cmp_ge _ _).mp c_73)
          refine lv_ldc2 (v := -1) hx hb C.1.2.2.2.1 (C.1.2.2.2.2 _ uk_X1_50) dX1_codeOf_81 ?_
          exact rL C hr hlk h dX1_codeOf_84 (Nat.le_of_ble_eq_true rfl) (Nat.le_of_ble_eq_true rfl) (⟨by rw [cdO_neg (w := 2) (by decide) rfl hti hk0, if_neg (by omega)]; rfl, rfl⟩)
        · skip
          have c_73 : ((k * 2) - (1)) < (4294967296) := Nat.not_le.mp (fun q => c_73 ((lg_cmp_ge _ _).mpr ((pk_lLE (by omega) (by omega)).mpr q)))
          refine lv_lload hx hb dX1_codeOf_76 (lv_at hl 0 rfl) ?_
          refine lv_goto (tgt := 84) hx hb dX1_codeOf_78 (by decide) ?_
          exact rL C hr hlk h dX1_codeOf_84 (Nat.le_of_ble_eq_true rfl) (Nat.le_of_ble_eq_true rfl) (⟨by rw [cdO_neg (w := 2) (by decide) rfl hti hk0, if_pos (by omega)]; show lN _ = lN _; congr 1; omega, rfl⟩)
      · skip
        have c_21 : ¬ ((toldI cd x y).toInt64) < (lN (0)) := fun q => c_21 ((lg_cmp_lt _ _).mpr q)
        obtain ⟨k, hk, ht, hti⟩ := t_posL c_21
        have e3 : (toldI cd x y).toInt64 = lN k := by rw [ht]; exact nI_l (by omega)
        have hl : lv_has ls 7 [(3, .long (lN (k))), (0, .ref (a)), (1, .int (x)), (2, .int (y))] := by rw [e3] at hl; exact hl
        refine lv_aload_n hx hb dX1_codeOf_24 rfl (lv_at hl 1 rfl) ?_
        refine rw_X1_18 C h hw dX1_codeOf_25 ?_
        refine zN_ne (tgt := 35) (a := 1) C (by decide) dX1_codeOf_28 (by decide) (fun _ => ?_) (fun q => absurd q (by decide))
        refine lv_lload_n hx hb dX1_codeOf_35 rfl (lv_at hl 0 rfl) ?_
        refine lv_lload_n hx hb dX1_codeOf_36 rfl (lv_at hl 0 rfl) ?_
        refine lv_iconst (v := nI (1)) hx hb dX1_codeOf_37 (by decide) ?_
        refine lv_aload_n hx hb dX1_codeOf_38 rfl (lv_at hl 1 rfl) ?_
        refine rw_X1_18 C h hw dX1_codeOf_39 ?_
        refine lv_ishl hx hb dX1_codeOf_42 ?_
        refine tI (y := nI (2)) (by decide) ?_
        refine lv_iconst (v := nI (1)) hx hb dX1_codeOf_43 (by decide) ?_
        refine lv_isub hx hb dX1_codeOf_44 ?_
        refine tI (y := nI (1)) (by decide) ?_
        refine lv_i2l (v := lN (1)) hx hb dX1_codeOf_45 (nI_l (by omega)) ?_
        refine lv_ldiv hx hb dX1_codeOf_46 (lN_ne0 (by omega) (by omega)) ?_
        refine tL (pk_lDiv (by omega) (by omega) (by omega)) ?_
        refine lv_ladd hx hb dX1_codeOf_47 ?_
        refine tL (lN_add _ _) ?_
        exact rL C hr hlk h dX1_codeOf_48 (Nat.le_of_ble_eq_true rfl) (Nat.le_of_ble_eq_true rfl) (⟨by rw [cdO_pos hti]; rfl, rfl⟩)
  · skip
    refine lv_aload_n hx hb dX1_codeOf_0 rfl (lv_at hl 0 rfl) ?_
    refine rw_X1_21 C h hw dX1_codeOf_1 ?_
    refine lv_iconst (v := nI (1)) hx hb dX1_codeOf_4 (by decide) ?_
    refine jN_ne (tgt := 15) (a := cd) (b := 1) C (by omega) (by omega) dX1_codeOf_5 (by decide) (fun c_5 => ?_) (fun c_5 => ?_)
    · skip
      refine lv_iload_n hx hb dX1_codeOf_15 rfl (lv_at hl 1 rfl) ?_
      refine lv_i2l (v := (toldI cd x y).toInt64) hx hb dX1_codeOf_16 (by rw [toldI, if_neg c_5]) ?_
      refine lv_lstore_n (lv' := [(3, .long ((toldI cd x y).toInt64)), (0, .ref (a)), (1, .int (x)), (2, .int (y))]) hx hb dX1_codeOf_17 rfl hl (by decide) rfl (fun ls hl => ?_)
      refine lv_lload_n hx hb dX1_codeOf_18 rfl (lv_at hl 0 rfl) ?_
      refine lv_lconst (v := lN 0) hx hb dX1_codeOf_19 (by decide) ?_
      refine W.lcmp hx hb dX1_codeOf_20 ?_
      refine lv_if_lt (tgt := 49) hx hb dX1_codeOf_21 (by decide) (fun c_21 => ?_) (fun c_21 => ?_)
      · skip
        have c_21 : ((toldI cd x y).toInt64) < (lN (0)) := (lg_cmp_lt _ _).mp c_21
        obtain ⟨k, hk0, hk, hti, hng⟩ := t_negL c_21
        refine lv_lload_n hx hb dX1_codeOf_49 rfl (lv_at hl 0 rfl) ?_
        refine lv_lneg hx hb dX1_codeOf_50 ?_
        refine tL (y := lN (k)) hng ?_
        refine lv_aload_n hx hb dX1_codeOf_51 rfl (lv_at hl 1 rfl) ?_
        refine rw_X1_18 C h hw dX1_codeOf_52 ?_
        refine lv_lshl (v := lN (k * 4)) hx hb dX1_codeOf_55 (lshN k (s := 2) (by decide)) ?_
        refine lv_lconst (v := lN 1) hx hb dX1_codeOf_56 (by decide) ?_
        refine lv_lsub hx hb dX1_codeOf_57 ?_
        refine tL (lN_sub (by omega)) ?_
        refine lv_lstore (lv' := [(5, .long (lN ((k * 4) - (1)))), (3, .long ((toldI cd x y).toInt64)), (0, .ref (a)), (1, .int (x)), (2, .int (y))]) hx hb dX1_codeOf_58 hl (by decide) rfl (fun ls hl => ?_)
        refine lv_aload_n hx hb dX1_codeOf_60 rfl (lv_at hl 2 rfl) ?_
        refine rw_X1_18 C h hw dX1_codeOf_61 ?_
        refine zN_eq (tgt := 81) (a := 2) C (by decide) dX1_codeOf_64 (by decide) (fun q => absurd q (by decide)) (fun _ => ?_)
        refine lv_lload hx hb dX1_codeOf_67 (lv_at hl 0 rfl) ?_
        refine lv_ldc2 (v := 4294967296) hx hb C.1.2.2.2.1 (C.1.2.2.2.2 _ uk_X1_60) dX1_codeOf_69 ?_
        refine tL (y := lN 4294967296) (by decide) ?_
        refine W.lcmp hx hb dX1_codeOf_72 ?_
        refine lv_if_ge (tgt := 81) hx hb dX1_codeOf_73 (by decide) (fun c_73 => ?_) (fun c_73 => ?_)
        · skip
          have c_73 : (4294967296) ≤ ((k * 4) - (1)) := (pk_lLE (by omega) (by omega)).mp ((lg_cmp_ge _ _).mp c_73)
          refine lv_ldc2 (v := -1) hx hb C.1.2.2.2.1 (C.1.2.2.2.2 _ uk_X1_50) dX1_codeOf_81 ?_
          exact rL C hr hlk h dX1_codeOf_84 (Nat.le_of_ble_eq_true rfl) (Nat.le_of_ble_eq_true rfl) (⟨by rw [cdO_neg (w := 4) (by decide) rfl hti hk0, if_neg (by omega)]; rfl, rfl⟩)
        · skip
          have c_73 : ((k * 4) - (1)) < (4294967296) := Nat.not_le.mp (fun q => c_73 ((lg_cmp_ge _ _).mpr ((pk_lLE (by omega) (by omega)).mpr q)))
          refine lv_lload hx hb dX1_codeOf_76 (lv_at hl 0 rfl) ?_
          refine lv_goto (tgt := 84) hx hb dX1_codeOf_78 (by decide) ?_
          exact rL C hr hlk h dX1_codeOf_84 (Nat.le_of_ble_eq_true rfl) (Nat.le_of_ble_eq_true rfl) (⟨by rw [cdO_neg (w := 4) (by decide) rfl hti hk0, if_pos (by omega)]; show lN _ = lN _; congr 1; omega, rfl⟩)
      · skip
        have c_21 : ¬ ((toldI cd x y).toInt64) < (lN (0)) := fun q => c_21 ((lg_cmp_lt _ _).mpr q)
        obtain ⟨k, hk, ht, hti⟩ := t_posL c_21
        have e3 : (toldI cd x y).toInt64 = lN k := by rw [ht]; exact nI_l (by omega)
        have hl : lv_has ls 7 [(3, .long (lN (k))), (0, .ref (a)), (1, .int (x)), (2, .int (y))] := by rw [e3] at hl; exact hl
        refine lv_aload_n hx hb dX1_codeOf_24 rfl (lv_at hl 1 rfl) ?_
        refine rw_X1_18 C h hw dX1_codeOf_25 ?_
        refine zN_ne (tgt := 35) (a := 2) C (by decide) dX1_codeOf_28 (by decide) (fun _ => ?_) (fun q => absurd q (by decide))
        refine lv_lload_n hx hb dX1_codeOf_35 rfl (lv_at hl 0 rfl) ?_
        refine lv_lload_n hx hb dX1_codeOf_36 rfl (lv_at hl 0 rfl) ?_
        refine lv_iconst (v := nI (1)) hx hb dX1_codeOf_37 (by decide) ?_
        refine lv_aload_n hx hb dX1_codeOf_38 rfl (lv_at hl 1 rfl) ?_
        refine rw_X1_18 C h hw dX1_codeOf_39 ?_
        refine lv_ishl hx hb dX1_codeOf_42 ?_
        refine tI (y := nI (4)) (by decide) ?_
        refine lv_iconst (v := nI (1)) hx hb dX1_codeOf_43 (by decide) ?_
        refine lv_isub hx hb dX1_codeOf_44 ?_
        refine tI (y := nI (3)) (by decide) ?_
        refine lv_i2l (v := lN (3)) hx hb dX1_codeOf_45 (nI_l (by omega)) ?_
        refine lv_ldiv hx hb dX1_codeOf_46 (lN_ne0 (by omega) (by omega)) ?_
        refine tL (pk_lDiv (by omega) (by omega) (by omega)) ?_
        refine lv_ladd hx hb dX1_codeOf_47 ?_
        refine tL (lN_add _ _) ?_
        exact rL C hr hlk h dX1_codeOf_48 (Nat.le_of_ble_eq_true rfl) (Nat.le_of_ble_eq_true rfl) (⟨by rw [cdO_pos hti]; rfl, rfl⟩)
    · skip
      refine lv_iload_n hx hb dX1_codeOf_8 rfl (lv_at hl 1 rfl) ?_
      refine lv_iload_n hx hb dX1_codeOf_9 rfl (lv_at hl 2 rfl) ?_
      refine lv_isub hx hb dX1_codeOf_10 ?_
      refine lv_i2l (v := (toldI cd x y).toInt64) hx hb dX1_codeOf_11 (by rw [toldI, if_pos c_5]) ?_
      refine lv_goto (tgt := 17) hx hb dX1_codeOf_12 (by decide) ?_
      refine lv_lstore_n (lv' := [(3, .long ((toldI cd x y).toInt64)), (0, .ref (a)), (1, .int (x)), (2, .int (y))]) hx hb dX1_codeOf_17 rfl hl (by decide) rfl (fun ls hl => ?_)
      refine lv_lload_n hx hb dX1_codeOf_18 rfl (lv_at hl 0 rfl) ?_
      refine lv_lconst (v := lN 0) hx hb dX1_codeOf_19 (by decide) ?_
      refine W.lcmp hx hb dX1_codeOf_20 ?_
      refine lv_if_lt (tgt := 49) hx hb dX1_codeOf_21 (by decide) (fun c_21 => ?_) (fun c_21 => ?_)
      · skip
        have c_21 : ((toldI cd x y).toInt64) < (lN (0)) := (lg_cmp_lt _ _).mp c_21
        obtain ⟨k, hk0, hk, hti, hng⟩ := t_negL c_21
        refine lv_lload_n hx hb dX1_codeOf_49 rfl (lv_at hl 0 rfl) ?_
        refine lv_lneg hx hb dX1_codeOf_50 ?_
        refine tL (y := lN (k)) hng ?_
        refine lv_aload_n hx hb dX1_codeOf_51 rfl (lv_at hl 1 rfl) ?_
        refine rw_X1_18 C h hw dX1_codeOf_52 ?_
        refine lv_lshl (v := lN (k * 4)) hx hb dX1_codeOf_55 (lshN k (s := 2) (by decide)) ?_
        refine lv_lconst (v := lN 1) hx hb dX1_codeOf_56 (by decide) ?_
        refine lv_lsub hx hb dX1_codeOf_57 ?_
        refine tL (lN_sub (by omega)) ?_
        refine lv_lstore (lv' := [(5, .long (lN ((k * 4) - (1)))), (3, .long ((toldI cd x y).toInt64)), (0, .ref (a)), (1, .int (x)), (2, .int (y))]) hx hb dX1_codeOf_58 hl (by decide) rfl (fun ls hl => ?_)
        refine lv_aload_n hx hb dX1_codeOf_60 rfl (lv_at hl 2 rfl) ?_
        refine rw_X1_18 C h hw dX1_codeOf_61 ?_
        refine zN_eq (tgt := 81) (a := 2) C (by decide) dX1_codeOf_64 (by decide) (fun q => absurd q (by decide)) (fun _ => ?_)
        refine lv_lload hx hb dX1_codeOf_67 (lv_at hl 0 rfl) ?_
        refine lv_ldc2 (v := 4294967296) hx hb C.1.2.2.2.1 (C.1.2.2.2.2 _ uk_X1_60) dX1_codeOf_69 ?_
        refine tL (y := lN 4294967296) (by decide) ?_
        refine W.lcmp hx hb dX1_codeOf_72 ?_
        refine lv_if_ge (tgt := 81) hx hb dX1_codeOf_73 (by decide) (fun c_73 => ?_) (fun c_73 => ?_)
        · skip
          have c_73 : (4294967296) ≤ ((k * 4) - (1)) := (pk_lLE (by omega) (by omega)).mp ((lg_cmp_ge _ _).mp c_73)
          refine lv_ldc2 (v := -1) hx hb C.1.2.2.2.1 (C.1.2.2.2.2 _ uk_X1_50) dX1_codeOf_81 ?_
          exact rL C hr hlk h dX1_codeOf_84 (Nat.le_of_ble_eq_true rfl) (Nat.le_of_ble_eq_true rfl) (⟨by rw [cdO_neg (w := 4) (by decide) rfl hti hk0, if_neg (by omega)]; rfl, rfl⟩)
        · skip
          have c_73 : ((k * 4) - (1)) < (4294967296) := Nat.not_le.mp (fun q => c_73 ((lg_cmp_ge _ _).mpr ((pk_lLE (by omega) (by omega)).mpr q)))
          refine lv_lload hx hb dX1_codeOf_76 (lv_at hl 0 rfl) ?_
          refine lv_goto (tgt := 84) hx hb dX1_codeOf_78 (by decide) ?_
          exact rL C hr hlk h dX1_codeOf_84 (Nat.le_of_ble_eq_true rfl) (Nat.le_of_ble_eq_true rfl) (⟨by rw [cdO_neg (w := 4) (by decide) rfl hti hk0, if_pos (by omega)]; show lN _ = lN _; congr 1; omega, rfl⟩)
      · skip
        have c_21 : ¬ ((toldI cd x y).toInt64) < (lN (0)) := fun q => c_21 ((lg_cmp_lt _ _).mpr q)
        obtain ⟨k, hk, ht, hti⟩ := t_posL c_21
        have e3 : (toldI cd x y).toInt64 = lN k := by rw [ht]; exact nI_l (by omega)
        have hl : lv_has ls 7 [(3, .long (lN (k))), (0, .ref (a)), (1, .int (x)), (2, .int (y))] := by rw [e3] at hl; exact hl
        refine lv_aload_n hx hb dX1_codeOf_24 rfl (lv_at hl 1 rfl) ?_
        refine rw_X1_18 C h hw dX1_codeOf_25 ?_
        refine zN_ne (tgt := 35) (a := 2) C (by decide) dX1_codeOf_28 (by decide) (fun _ => ?_) (fun q => absurd q (by decide))
        refine lv_lload_n hx hb dX1_codeOf_35 rfl (lv_at hl 0 rfl) ?_
        refine lv_lload_n hx hb dX1_codeOf_36 rfl (lv_at hl 0 rfl) ?_
        refine lv_iconst (v := nI (1)) hx hb dX1_codeOf_37 (by decide) ?_
        refine lv_aload_n hx hb dX1_codeOf_38 rfl (lv_at hl 1 rfl) ?_
        refine rw_X1_18 C h hw dX1_codeOf_39 ?_
        refine lv_ishl hx hb dX1_codeOf_42 ?_
        refine tI (y := nI (4)) (by decide) ?_
        refine lv_iconst (v := nI (1)) hx hb dX1_codeOf_43 (by decide) ?_
        refine lv_isub hx hb dX1_codeOf_44 ?_
        refine tI (y := nI (3)) (by decide) ?_
        refine lv_i2l (v := lN (3)) hx hb dX1_codeOf_45 (nI_l (by omega)) ?_
        refine lv_ldiv hx hb dX1_codeOf_46 (lN_ne0 (by omega) (by omega)) ?_
        refine tL (pk_lDiv (by omega) (by omega) (by omega)) ?_
        refine lv_ladd hx hb dX1_codeOf_47 ?_
        refine tL (lN_add _ _) ?_
        exact rL C hr hlk h dX1_codeOf_48 (Nat.le_of_ble_eq_true rfl) (Nat.le_of_ble_eq_true rfl) (⟨by rw [cdO_pos hti]; rfl, rfl⟩)
theorem nL_pos {n : Nat} (h : n < 2 ^ 63) : Int64.ofInt (n : Int) = lN n := by
  apply Int64.toInt_inj.mp
  rw [pk_lT h, Int64.toInt_ofInt, Int.bmod_def, show ((Int64.size : Nat) : Int) = 18446744073709551616 from rfl]
  omega
theorem nL_neg {k : Nat} (h : k < 2 ^ 62) : Int64.ofInt (-(k : Int)) = -(lN k) := by
  apply Int64.toInt_inj.mp
  rw [Int64.toInt_neg, pk_lT (by omega), Int64.toInt_ofInt]
theorem enc_one {h c : Nat} : enc 1 h c = if c < 256 then some [c] else none := rfl
theorem enc_last {m h c : Nat} (hm : 2 ≤ m) (hc : c < 256 - h) : enc m h c = some [c] := by
  obtain ⟨k, rfl⟩ : ∃ k, m = k + 2 := ⟨m - 2, by omega⟩
  unfold enc
  rw [if_pos hc]
theorem enc_step {m h c : Nat} (hm : 2 ≤ m) (hc : 256 - h ≤ c) : enc m h c = (enc (m - 1) h ((c - (256 - h)) / h)).map (fun t => (256 - h + (c - (256 - h)) % h) :: t) := by
  obtain ⟨k, rfl⟩ : ∃ k, m = k + 2 := ⟨m - 2, by omega⟩
  rw [show k + 2 - 1 = k + 1 by omega]
  conv => lhs; unfold enc
  rw [if_neg (by omega)]
theorem uk_X1_71 : Cond.constantLong RX1 71 (2147483648) ∈ uW := uW_of (by decide +kernel) rfl
set_option maxHeartbeats 4000000 in
set_option maxRecDepth 100000 in
/-- Coding.numberOf -/
theorem k_numberOf (l : Launch) (z : bZ) (v : bV) (sc : Nat → Int32) (ar : Nat → Nat → Int32) (a cb ch cs cd k : Nat) (hw : cdW v a cb ch cs cd) (hk : k < 2 ^ 60) : Met l yX1_numberOf (Cond.code yX1_numberOf cX1_numberOf 6 (some .long) :: uW) { frames := 0, cells := 0, slots := 0, locals := 0 } (pC z v sc ar [.ref (a), .long (lN (k))]) (qL z (fun r u => r = nL64 (nbO cs k) ∧ u = (v, sc, ar))) 0 0 (zA z) := by
  refine eM (by decide) (Nat.le_of_ble_eq_true rfl) ?_
  intro pP eE s mM below meth cC ls C hr hlk h hl
  have hx := C.1.1
  have hb := C.1.2.1
  have hl : lv_has ls 6 [(0, .ref (a)), (1, .long (lN (k)))] := hl
  obtain ⟨-, -, ⟨hB1, hB5⟩, ⟨hH1, hH2⟩, hS, hD⟩ := id hw
  rcases (show cs = 0 ∨ cs = 1 ∨ cs = 2 by omega) with rfl | rfl | rfl
  · skip
    refine lv_lload_n hx hb dX1_numberOf_0 rfl (lv_at hl 1 rfl) ?_
    refine lv_ldc2 (v := 4294967296) hx hb C.1.2.2.2.1 (C.1.2.2.2.2 _ uk_X1_60) dX1_numberOf_1 ?_
    refine tL (y := lN 4294967296) (by decide) ?_
    refine W.lcmp hx hb dX1_numberOf_4 ?_
    refine lv_if_lt (tgt := 12) hx hb dX1_numberOf_5 (by decide) (fun c_5 => ?_) (fun c_5 => ?_)
    · skip
      have c_5 : (k) < (4294967296) := (pk_lLT (by omega) (by omega)).mp ((lg_cmp_lt _ _).mp c_5)
      refine lv_aload_n hx hb dX1_numberOf_12 rfl (lv_at hl 0 rfl) ?_
      refine rw_X1_18 C h hw dX1_numberOf_13 ?_
      refine zN_eq (tgt := 39) (a := 0) C (by decide) dX1_numberOf_16 (by decide) (fun _ => ?_) (fun q => absurd q (by decide))
      refine lv_iconst (v := nI (0)) hx hb dX1_numberOf_39 (by decide) ?_
      refine lv_istore_n (lv' := [(3, .int (nI (0))), (0, .ref (a)), (1, .long (lN (k)))]) hx hb dX1_numberOf_40 rfl hl (by decide) rfl (fun ls hl => ?_)
      refine lv_iload_n hx hb dX1_numberOf_41 rfl (lv_at hl 0 rfl) ?_
      refine zN_eq (tgt := 55) (a := 0) C (by decide) dX1_numberOf_42 (by decide) (fun _ => ?_) (fun q => absurd q (by decide))
      refine lv_aload_n hx hb dX1_numberOf_55 rfl (lv_at hl 1 rfl) ?_
      refine rw_X1_18 C h hw dX1_numberOf_56 ?_
      refine zN_ne (tgt := 66) (a := 0) C (by decide) dX1_numberOf_59 (by decide) (fun q => absurd q (by decide)) (fun _ => ?_)
      refine lv_lload_n hx hb dX1_numberOf_62 rfl (lv_at hl 2 rfl) ?_
      refine lv_goto (tgt := 74) hx hb dX1_numberOf_63 (by decide) ?_
      refine lv_lstore (lv' := [(4, .long (lN (k))), (3, .int (nI (0))), (0, .ref (a)), (1, .long (lN (k)))]) hx hb dX1_numberOf_74 hl (by decide) rfl (fun ls hl => ?_)
      refine lv_lload hx hb dX1_numberOf_76 (lv_at hl 0 rfl) ?_
      refine lv_ldc2 (v := 2147483648) hx hb C.1.2.2.2.1 (C.1.2.2.2.2 _ uk_X1_71) dX1_numberOf_78 ?_
      refine tL (y := lN 2147483648) (by decide) ?_
      refine W.lcmp hx hb dX1_numberOf_81 ?_
      refine lv_if_ge (tgt := 90) hx hb dX1_numberOf_82 (by decide) (fun c_82 => ?_) (fun c_82 => ?_)
      · skip
        have c_82 : (2147483648) ≤ (k) := (pk_lLE (by omega) (by omega)).mp ((lg_cmp_ge _ _).mp c_82)
        refine lv_ldc2 (v := 4294967296) hx hb C.1.2.2.2.1 (C.1.2.2.2.2 _ uk_X1_60) dX1_numberOf_90 ?_
        refine tL (y := lN 4294967296) (by decide) ?_
        exact rL C hr hlk h dX1_numberOf_93 (Nat.le_of_ble_eq_true rfl) (Nat.le_of_ble_eq_true rfl) (⟨by unfold nbO; rw [if_neg (by omega), if_neg (fun q => q.1 rfl), if_pos (rfl : (0 : Nat) = 0), if_neg (by omega)]; rfl, rfl⟩)
      · skip
        have c_82 : (k) < (2147483648) := Nat.not_le.mp (fun q => c_82 ((lg_cmp_ge _ _).mpr ((pk_lLE (by omega) (by omega)).mpr q)))
        refine lv_lload hx hb dX1_numberOf_85 (lv_at hl 0 rfl) ?_
        refine lv_goto (tgt := 93) hx hb dX1_numberOf_87 (by decide) ?_
        exact rL C hr hlk h dX1_numberOf_93 (Nat.le_of_ble_eq_true rfl) (Nat.le_of_ble_eq_true rfl) (⟨by unfold nbO; rw [if_neg (by omega), if_neg (fun q => q.1 rfl), if_pos (rfl : (0 : Nat) = 0), if_pos (by omega)]; exact (nL_pos (by omega)).symm, rfl⟩)
    · skip
      have c_5 : (4294967296) ≤ (k) := Nat.not_lt.mp (fun q => c_5 ((lg_cmp_lt _ _).mpr ((pk_lLT (by omega) (by omega)).mpr q)))
      refine lv_ldc2 (v := 4294967296) hx hb C.1.2.2.2.1 (C.1.2.2.2.2 _ uk_X1_60) dX1_numberOf_8 ?_
      refine tL (y := lN 4294967296) (by decide) ?_
      exact rL C hr hlk h dX1_numberOf_11 (Nat.le_of_ble_eq_true rfl) (Nat.le_of_ble_eq_true rfl) (⟨by unfold nbO; rw [if_pos c_5]; rfl, rfl⟩)
  · skip
    refine lv_lload_n hx hb dX1_numberOf_0 rfl (lv_at hl 1 rfl) ?_
    refine lv_ldc2 (v := 4294967296) hx hb C.1.2.2.2.1 (C.1.2.2.2.2 _ uk_X1_60) dX1_numberOf_1 ?_
    refine tL (y := lN 4294967296) (by decide) ?_
    refine W.lcmp hx hb dX1_numberOf_4 ?_
    refine lv_if_lt (tgt := 12) hx hb dX1_numberOf_5 (by decide) (fun c_5 => ?_) (fun c_5 => ?_)
    · skip
      have c_5 : (k) < (4294967296) := (pk_lLT (by omega) (by omega)).mp ((lg_cmp_lt _ _).mp c_5)
      refine lv_aload_n hx hb dX1_numberOf_12 rfl (lv_at hl 0 rfl) ?_
      refine rw_X1_18 C h hw dX1_numberOf_13 ?_
      refine zN_eq (tgt := 39) (a := 1) C (by decide) dX1_numberOf_16 (by decide) (fun q => absurd q (by decide)) (fun _ => ?_)
      refine lv_lload_n hx hb dX1_numberOf_19 rfl (lv_at hl 1 rfl) ?_
      refine lv_lconst (v := lN 1) hx hb dX1_numberOf_20 (by decide) ?_
      refine lv_ladd hx hb dX1_numberOf_21 ?_
      refine tL (lN_add _ _) ?_
      refine lv_iconst (v := nI (1)) hx hb dX1_numberOf_22 (by decide) ?_
      refine lv_aload_n hx hb dX1_numberOf_23 rfl (lv_at hl 0 rfl) ?_
      refine rw_X1_18 C h hw dX1_numberOf_24 ?_
      refine lv_ishl hx hb dX1_numberOf_27 ?_
      refine tI (y := nI (2)) (by decide) ?_
      refine lv_i2l (v := lN (2)) hx hb dX1_numberOf_28 (nI_l (by omega)) ?_
      refine lv_lrem hx hb dX1_numberOf_29 (lN_ne0 (by omega) (by omega)) ?_
      refine tL (pk_lRem (by omega) (by omega) (by omega)) ?_
      refine lv_lconst (v := lN 0) hx hb dX1_numberOf_30 (by decide) ?_
      refine W.lcmp hx hb dX1_numberOf_31 ?_
      refine lv_if_ne (tgt := 39) hx hb dX1_numberOf_32 (by decide) (fun c_32 => ?_) (fun c_32 => ?_)
      · skip
        have c_32 : ¬ (((k) + (1)) % (2)) = (0) := fun q => c_32 ((lg_cmp_eq _ _).mpr ((pk_lEQ (by omega) (by omega)).mpr q))
        refine lv_iconst (v := nI (0)) hx hb dX1_numberOf_39 (by decide) ?_
        refine lv_istore_n (lv' := [(3, .int (nI (0))), (0, .ref (a)), (1, .long (lN (k)))]) hx hb dX1_numberOf_40 rfl hl (by decide) rfl (fun ls hl => ?_)
        refine lv_iload_n hx hb dX1_numberOf_41 rfl (lv_at hl 0 rfl) ?_
        refine zN_eq (tgt := 55) (a := 0) C (by decide) dX1_numberOf_42 (by decide) (fun _ => ?_) (fun q => absurd q (by decide))
        refine lv_aload_n hx hb dX1_numberOf_55 rfl (lv_at hl 1 rfl) ?_
        refine rw_X1_18 C h hw dX1_numberOf_56 ?_
        refine zN_ne (tgt := 66) (a := 1) C (by decide) dX1_numberOf_59 (by decide) (fun _ => ?_) (fun q => absurd q (by decide))
        refine lv_lload_n hx hb dX1_numberOf_66 rfl (lv_at hl 2 rfl) ?_
        refine lv_lload_n hx hb dX1_numberOf_67 rfl (lv_at hl 2 rfl) ?_
        refine lv_aload_n hx hb dX1_numberOf_68 rfl (lv_at hl 1 rfl) ?_
        refine rw_X1_18 C h hw dX1_numberOf_69 ?_
        refine lv_lshr (v := lN (k / 2)) hx hb dX1_numberOf_72 (lsrN (k := k) (by omega) (s := 1) (by decide)) ?_
        refine lv_lsub hx hb dX1_numberOf_73 ?_
        refine tL (lN_sub (by omega)) ?_
        refine lv_lstore (lv' := [(4, .long (lN ((k) - (k / 2)))), (3, .int (nI (0))), (0, .ref (a)), (1, .long (lN (k)))]) hx hb dX1_numberOf_74 hl (by decide) rfl (fun ls hl => ?_)
        refine lv_lload hx hb dX1_numberOf_76 (lv_at hl 0 rfl) ?_
        refine lv_ldc2 (v := 2147483648) hx hb C.1.2.2.2.1 (C.1.2.2.2.2 _ uk_X1_71) dX1_numberOf_78 ?_
        refine tL (y := lN 2147483648) (by decide) ?_
        refine W.lcmp hx hb dX1_numberOf_81 ?_
        refine lv_if_ge (tgt := 90) hx hb dX1_numberOf_82 (by decide) (fun c_82 => ?_) (fun c_82 => ?_)
        · skip
          have c_82 : (2147483648) ≤ ((k) - (k / 2)) := (pk_lLE (by omega) (by omega)).mp ((lg_cmp_ge _ _).mp c_82)
          refine lv_ldc2 (v := 4294967296) hx hb C.1.2.2.2.1 (C.1.2.2.2.2 _ uk_X1_60) dX1_numberOf_90 ?_
          refine tL (y := lN 4294967296) (by decide) ?_
          exact rL C hr hlk h dX1_numberOf_93 (Nat.le_of_ble_eq_true rfl) (Nat.le_of_ble_eq_true rfl) (⟨by unfold nbO; rw [if_neg (by omega), if_neg (fun q => c_32 q.2), if_neg (by decide : ¬ (1 : Nat) = 0), if_neg (by omega)]; rfl, rfl⟩)
        · skip
          have c_82 : ((k) - (k / 2)) < (2147483648) := Nat.not_le.mp (fun q => c_82 ((lg_cmp_ge _ _).mpr ((pk_lLE (by omega) (by omega)).mpr q)))
          refine lv_lload hx hb dX1_numberOf_85 (lv_at hl 0 rfl) ?_
          refine lv_goto (tgt := 93) hx hb dX1_numberOf_87 (by decide) ?_
          exact rL C hr hlk h dX1_numberOf_93 (Nat.le_of_ble_eq_true rfl) (Nat.le_of_ble_eq_true rfl) (⟨by unfold nbO; rw [if_neg (by omega), if_neg (fun q => c_32 q.2), if_neg (by decide : ¬ (1 : Nat) = 0), if_pos (by omega)]; exact (nL_pos (by omega)).symm, rfl⟩)
      · skip
        have c_32 : (((k) + (1)) % (2)) = (0) := (pk_lEQ (by omega) (by omega)).mp ((lg_cmp_eq _ _).mp c_32)
        refine lv_iconst (v := nI (1)) hx hb dX1_numberOf_35 (by decide) ?_
        refine lv_goto (tgt := 40) hx hb dX1_numberOf_36 (by decide) ?_
        refine lv_istore_n (lv' := [(3, .int (nI (1))), (0, .ref (a)), (1, .long (lN (k)))]) hx hb dX1_numberOf_40 rfl hl (by decide) rfl (fun ls hl => ?_)
        refine lv_iload_n hx hb dX1_numberOf_41 rfl (lv_at hl 0 rfl) ?_
        refine zN_eq (tgt := 55) (a := 1) C (by decide) dX1_numberOf_42 (by decide) (fun q => absurd q (by decide)) (fun _ => ?_)
        refine lv_lload_n hx hb dX1_numberOf_45 rfl (lv_at hl 2 rfl) ?_
        refine lv_lconst (v := lN 1) hx hb dX1_numberOf_46 (by decide) ?_
        refine lv_ladd hx hb dX1_numberOf_47 ?_
        refine tL (lN_add _ _) ?_
        refine lv_aload_n hx hb dX1_numberOf_48 rfl (lv_at hl 1 rfl) ?_
        refine rw_X1_18 C h hw dX1_numberOf_49 ?_
        refine lv_lshr (v := lN ((k + 1) / 2)) hx hb dX1_numberOf_52 (lsrN (k := k + 1) (by omega) (s := 1) (by decide)) ?_
        refine lv_lneg hx hb dX1_numberOf_53 ?_
        exact rL C hr hlk h dX1_numberOf_54 (Nat.le_of_ble_eq_true rfl) (Nat.le_of_ble_eq_true rfl) (⟨by unfold nbO; rw [if_neg (by omega), if_pos ⟨by decide, c_32⟩]; exact (nL_neg (by omega)).symm, rfl⟩)
    · skip
      have c_5 : (4294967296) ≤ (k) := Nat.not_lt.mp (fun q => c_5 ((lg_cmp_lt _ _).mpr ((pk_lLT (by omega) (by omega)).mpr q)))
      refine lv_ldc2 (v := 4294967296) hx hb C.1.2.2.2.1 (C.1.2.2.2.2 _ uk_X1_60) dX1_numberOf_8 ?_
      refine tL (y := lN 4294967296) (by decide) ?_
      exact rL C hr hlk h dX1_numberOf_11 (Nat.le_of_ble_eq_true rfl) (Nat.le_of_ble_eq_true rfl) (⟨by unfold nbO; rw [if_pos c_5]; rfl, rfl⟩)
  · skip
    refine lv_lload_n hx hb dX1_numberOf_0 rfl (lv_at hl 1 rfl) ?_
    refine lv_ldc2 (v := 4294967296) hx hb C.1.2.2.2.1 (C.1.2.2.2.2 _ uk_X1_60) dX1_numberOf_1 ?_
    refine tL (y := lN 4294967296) (by decide) ?_
    refine W.lcmp hx hb dX1_numberOf_4 ?_
    refine lv_if_lt (tgt := 12) hx hb dX1_numberOf_5 (by decide) (fun c_5 => ?_) (fun c_5 => ?_)
    · skip
      have c_5 : (k) < (4294967296) := (pk_lLT (by omega) (by omega)).mp ((lg_cmp_lt _ _).mp c_5)
      refine lv_aload_n hx hb dX1_numberOf_12 rfl (lv_at hl 0 rfl) ?_
      refine rw_X1_18 C h hw dX1_numberOf_13 ?_
      refine zN_eq (tgt := 39) (a := 2) C (by decide) dX1_numberOf_16 (by decide) (fun q => absurd q (by decide)) (fun _ => ?_)
      refine lv_lload_n hx hb dX1_numberOf_19 rfl (lv_at hl 1 rfl) ?_
      refine lv_lconst (v := lN 1) hx hb dX1_numberOf_20 (by decide) ?_
      refine lv_ladd hx hb dX1_numberOf_21 ?_
      refine tL (lN_add _ _) ?_
      refine lv_iconst (v := nI (1)) hx hb dX1_numberOf_22 (by decide) ?_
      refine lv_aload_n hx hb dX1_numberOf_23 rfl (lv_at hl 0 rfl) ?_
      refine rw_X1_18 C h hw dX1_numberOf_24 ?_
      refine lv_ishl hx hb dX1_numberOf_27 ?_
      refine tI (y := nI (4)) (by decide) ?_
      refine lv_i2l (v := lN (4)) hx hb dX1_numberOf_28 (nI_l (by omega)) ?_
      refine lv_lrem hx hb dX1_numberOf_29 (lN_ne0 (by omega) (by omega)) ?_
      refine tL (pk_lRem (by omega) (by omega) (by omega)) ?_
      refine lv_lconst (v := lN 0) hx hb dX1_numberOf_30 (by decide) ?_
      refine W.lcmp hx hb dX1_numberOf_31 ?_
      refine lv_if_ne (tgt := 39) hx hb dX1_numberOf_32 (by decide) (fun c_32 => ?_) (fun c_32 => ?_)
      · skip
        have c_32 : ¬ (((k) + (1)) % (4)) = (0) := fun q => c_32 ((lg_cmp_eq _ _).mpr ((pk_lEQ (by omega) (by omega)).mpr q))
        refine lv_iconst (v := nI (0)) hx hb dX1_numberOf_39 (by decide) ?_
        refine lv_istore_n (lv' := [(3, .int (nI (0))), (0, .ref (a)), (1, .long (lN (k)))]) hx hb dX1_numberOf_40 rfl hl (by decide) rfl (fun ls hl => ?_)
        refine lv_iload_n hx hb dX1_numberOf_41 rfl (lv_at hl 0 rfl) ?_
        refine zN_eq (tgt := 55) (a := 0) C (by decide) dX1_numberOf_42 (by decide) (fun _ => ?_) (fun q => absurd q (by decide))
        refine lv_aload_n hx hb dX1_numberOf_55 rfl (lv_at hl 1 rfl) ?_
        refine rw_X1_18 C h hw dX1_numberOf_56 ?_
        refine zN_ne (tgt := 66) (a := 2) C (by decide) dX1_numberOf_59 (by decide) (fun _ => ?_) (fun q => absurd q (by decide))
        refine lv_lload_n hx hb dX1_numberOf_66 rfl (lv_at hl 2 rfl) ?_
        refine lv_lload_n hx hb dX1_numberOf_67 rfl (lv_at hl 2 rfl) ?_
        refine lv_aload_n hx hb dX1_numberOf_68 rfl (lv_at hl 1 rfl) ?_
        refine rw_X1_18 C h hw dX1_numberOf_69 ?_
        refine lv_lshr (v := lN (k / 4)) hx hb dX1_numberOf_72 (lsrN (k := k) (by omega) (s := 2) (by decide)) ?_
        refine lv_lsub hx hb dX1_numberOf_73 ?_
        refine tL (lN_sub (by omega)) ?_
        refine lv_lstore (lv' := [(4, .long (lN ((k) - (k / 4)))), (3, .int (nI (0))), (0, .ref (a)), (1, .long (lN (k)))]) hx hb dX1_numberOf_74 hl (by decide) rfl (fun ls hl => ?_)
        refine lv_lload hx hb dX1_numberOf_76 (lv_at hl 0 rfl) ?_
        refine lv_ldc2 (v := 2147483648) hx hb C.1.2.2.2.1 (C.1.2.2.2.2 _ uk_X1_71) dX1_numberOf_78 ?_
        refine tL (y := lN 2147483648) (by decide) ?_
        refine W.lcmp hx hb dX1_numberOf_81 ?_
        refine lv_if_ge (tgt := 90) hx hb dX1_numberOf_82 (by decide) (fun c_82 => ?_) (fun c_82 => ?_)
        · skip
          have c_82 : (2147483648) ≤ ((k) - (k / 4)) := (pk_lLE (by omega) (by omega)).mp ((lg_cmp_ge _ _).mp c_82)
          refine lv_ldc2 (v := 4294967296) hx hb C.1.2.2.2.1 (C.1.2.2.2.2 _ uk_X1_60) dX1_numberOf_90 ?_
          refine tL (y := lN 4294967296) (by decide) ?_
          exact rL C hr hlk h dX1_numberOf_93 (Nat.le_of_ble_eq_true rfl) (Nat.le_of_ble_eq_true rfl) (⟨by unfold nbO; rw [if_neg (by omega), if_neg (fun q => c_32 q.2), if_neg (by decide : ¬ (2 : Nat) = 0), if_neg (by omega)]; rfl, rfl⟩)
        · skip
          have c_82 : ((k) - (k / 4)) < (2147483648) := Nat.not_le.mp (fun q => c_82 ((lg_cmp_ge _ _).mpr ((pk_lLE (by omega) (by omega)).mpr q)))
          refine lv_lload hx hb dX1_numberOf_85 (lv_at hl 0 rfl) ?_
          refine lv_goto (tgt := 93) hx hb dX1_numberOf_87 (by decide) ?_
          exact rL C hr hlk h dX1_numberOf_93 (Nat.le_of_ble_eq_true rfl) (Nat.le_of_ble_eq_true rfl) (⟨by unfold nbO; rw [if_neg (by omega), if_neg (fun q => c_32 q.2), if_neg (by decide : ¬ (2 : Nat) = 0), if_pos (by omega)]; exact (nL_pos (by omega)).symm, rfl⟩)
      · skip
        have c_32 : (((k) + (1)) % (4)) = (0) := (pk_lEQ (by omega) (by omega)).mp ((lg_cmp_eq _ _).mp c_32)
        refine lv_iconst (v := nI (1)) hx hb dX1_numberOf_35 (by decide) ?_
        refine lv_goto (tgt := 40) hx hb dX1_numberOf_36 (by decide) ?_
        refine lv_istore_n (lv' := [(3, .int (nI (1))), (0, .ref (a)), (1, .long (lN (k)))]) hx hb dX1_numberOf_40 rfl hl (by decide) rfl (fun ls hl => ?_)
        refine lv_iload_n hx hb dX1_numberOf_41 rfl (lv_at hl 0 rfl) ?_
        refine zN_eq (tgt := 55) (a := 1) C (by decide) dX1_numberOf_42 (by decide) (fun q => absurd q (by decide)) (fun _ => ?_)
        refine lv_lload_n hx hb dX1_numberOf_45 rfl (lv_at hl 2 rfl) ?_
        refine lv_lconst (v := lN 1) hx hb dX1_numberOf_46 (by decide) ?_
        refine lv_ladd hx hb dX1_numberOf_47 ?_
        refine tL (lN_add _ _) ?_
        refine lv_aload_n hx hb dX1_numberOf_48 rfl (lv_at hl 1 rfl) ?_
        refine rw_X1_18 C h hw dX1_numberOf_49 ?_
        refine lv_lshr (v := lN ((k + 1) / 4)) hx hb dX1_numberOf_52 (lsrN (k := k + 1) (by omega) (s := 2) (by decide)) ?_
        refine lv_lneg hx hb dX1_numberOf_53 ?_
        exact rL C hr hlk h dX1_numberOf_54 (Nat.le_of_ble_eq_true rfl) (Nat.le_of_ble_eq_true rfl) (⟨by unfold nbO; rw [if_neg (by omega), if_pos ⟨by decide, c_32⟩]; exact (nL_neg (by omega)).symm, rfl⟩)
    · skip
      have c_5 : (4294967296) ≤ (k) := Nat.not_lt.mp (fun q => c_5 ((lg_cmp_lt _ _).mpr ((pk_lLT (by omega) (by omega)).mpr q)))
      refine lv_ldc2 (v := 4294967296) hx hb C.1.2.2.2.1 (C.1.2.2.2.2 _ uk_X1_60) dX1_numberOf_8 ?_
      refine tL (y := lN 4294967296) (by decide) ?_
      exact rL C hr hlk h dX1_numberOf_11 (Nat.le_of_ble_eq_true rfl) (Nat.le_of_ble_eq_true rfl) (⟨by unfold nbO; rw [if_pos c_5]; rfl, rfl⟩)
theorem gv_X1_64 : GoodIn uW (wsV RX1 64 RX7 yX7_draft (Cond.code yX7_draft cX7_draft 3 none :: uW)) := gI_V (uW_of (by decide +kernel) rfl) (uW_of (by decide +kernel) rfl) (uW_of (by decide +kernel) rfl) (uW_of (by decide +kernel) rfl) (uW_of (by decide +kernel) rfl)
theorem gv_X1_64_n : okN yX7_draft 1 := by decide +kernel
theorem uk_X1_62 : Cond.constantLong RX1 62 (256) ∈ uW := uW_of (by decide +kernel) rfl
set_option maxHeartbeats 4000000 in
set_option maxRecDepth 100000 in
/-- Coding.writeCode -/
theorem k_writeCode (l : Launch) (z : bZ) (v : bV) (sc : Nat → Int32) (ar : Nat → Nat → Int32) (a cb ch cs cd n d : Nat) (o : Option Nat) (hw : cdW v a cb ch cs cd) (ho : ∀ c, o = some c → c < 4294967296) (hn : sc 3 = nI n) (hn8 : n ≤ 8000) (hd : sc 5 = nI d) (hd9 : d < 2 ^ 29) : Met l yX1_writeCode (Cond.code yX1_writeCode cX1_writeCode 7 (some .boolean) :: uW) { frames := 1, cells := 0, slots := 0, locals := 22 } (pC z v sc ar [.ref (a), .long (oL o), .ref (zad z 2)]) (qI z (fun r u => ∃ bs : List Nat, u = (v, va_up sc 5 (nI (d + bs.length)), va_up ar 11 (wrB (ar 11) (n + d) bs)) ∧ bs.length ≤ 5 ∧ ((r = 1 ∧ o.bind (enc cb ch) = some bs) ∨ (r = 0 ∧ o.bind (enc cb ch) = none)))) 0 0 (zA z) := by
  refine eM (by decide) (Nat.le_of_ble_eq_true rfl) ?_
  intro pP eE s mM below meth cC ls C hr hlk h hl
  have hx := C.1.1
  have hb := C.1.2.1
  have hl : lv_has ls 7 [(0, .ref (a)), (1, .long (oL o)), (3, .ref (zad z 2))] := hl
  obtain ⟨-, -, ⟨hB1, hB5⟩, ⟨hH1, hH2⟩, hS, hD⟩ := id hw
  rcases o with _ | k
  · skip
    have hl : lv_has ls 7 [(0, .ref (a)), (1, .long ((-1 : Int64))), (3, .ref (zad z 2))] := hl
    refine lv_lload_n hx hb dX1_writeCode_0 rfl (lv_at hl 1 rfl) ?_
    refine lv_ldc2 (v := -1) hx hb C.1.2.2.2.1 (C.1.2.2.2.2 _ uk_X1_50) dX1_writeCode_1 ?_
    refine W.lcmp hx hb dX1_writeCode_4 ?_
    refine lv_if_ne (tgt := 10) hx hb dX1_writeCode_5 (by decide) (fun c_5 => ?_) (fun c_5 => ?_)
    · skip
      have c_5 : ¬ ((-1 : Int64)) = ((-1 : Int64)) := fun q => c_5 ((lg_cmp_eq _ _).mpr q)
      exact absurd rfl c_5
    · skip
      have c_5 := (lg_cmp_eq _ _).mp c_5
      refine lv_iconst (v := nI (0)) hx hb dX1_writeCode_8 (by decide) ?_
      exact rZ C hr hlk h dX1_writeCode_9 rfl (Nat.le_of_ble_eq_true rfl) (Nat.le_of_ble_eq_true rfl) (⟨[], by have e := wr_start (sc := sc) (ar := ar) (n := n) hd; rw [e.1, e.2], by simp, Or.inr ⟨rfl, rfl⟩⟩)
  · skip
    have hl : lv_has ls 7 [(0, .ref (a)), (1, .long (lN (k))), (3, .ref (zad z 2))] := hl
    have hk := ho k rfl
    refine lv_lload_n hx hb dX1_writeCode_0 rfl (lv_at hl 1 rfl) ?_
    refine lv_ldc2 (v := -1) hx hb C.1.2.2.2.1 (C.1.2.2.2.2 _ uk_X1_50) dX1_writeCode_1 ?_
    refine W.lcmp hx hb dX1_writeCode_4 ?_
    refine lv_if_ne (tgt := 10) hx hb dX1_writeCode_5 (by decide) (fun c_5 => ?_) (fun c_5 => ?_)
    · skip
      have c_5 : ¬ (lN (k)) = ((-1 : Int64)) := fun q => c_5 ((lg_cmp_eq _ _).mpr q)
      refine lv_lload_n hx hb dX1_writeCode_10 rfl (lv_at hl 1 rfl) ?_
      refine lv_lstore (lv' := [(4, .long (lN (k))), (0, .ref (a)), (1, .long (lN (k))), (3, .ref (zad z 2))]) hx hb dX1_writeCode_11 hl (by decide) rfl (fun ls hl => ?_)
      refine lv_iconst (v := nI (1)) hx hb dX1_writeCode_13 (by decide) ?_
      refine lv_istore (lv' := [(6, .int (nI (1))), (4, .long (lN (k))), (0, .ref (a)), (1, .long (lN (k))), (3, .ref (zad z 2))]) hx hb dX1_writeCode_14 hl (by decide) rfl (fun ls hl => ?_)
      refine lpW3 (fun (i : Nat) (kk : Nat) (done : List Nat) (H : Heap) (locs : List Loc) (ls : Array Slot) => (1 ≤ i ∧ i ≤ cb) ∧ (kk < 4294967296) ∧ (enc cb ch k = (enc (cb + 1 - i) ch kk).map (fun t => done ++ t)) ∧ (done.length + 1 = i) ∧ hH z v (va_up sc 5 (nI (d + (done).length))) (va_up ar 11 (wrB (ar 11) (n + d) (done))) s H locs ∧ lv_has ls 7 [(0, .ref (a)), (3, .ref (zad z 2)), (4, .long (lN (kk))), (6, .int (nI (i)))]) (fun (i : Nat) (kk : Nat) (done : List Nat) => cb - i) (fun i kk done ih_16 H locs ls hI => ?_) (1) (k) ([]) ⟨⟨by omega, by omega⟩, hk, by simp, rfl, (by have e := wr_start (sc := sc) (ar := ar) (n := n) hd; rw [e.1, e.2]; exact h), lv_sub hl [2, 4, 1, 0] rfl⟩
      obtain ⟨h1, h2, h3, h4, h, hl⟩ := hI
      refine lv_iload hx hb dX1_writeCode_16 (lv_at hl 3 rfl) ?_
      refine lv_aload_n hx hb dX1_writeCode_18 rfl (lv_at hl 0 rfl) ?_
      refine rw_X1_9 C h hw dX1_writeCode_19 ?_
      refine jN_ge (tgt := 91) (a := i) (b := cb) C (by omega) (by omega) dX1_writeCode_22 (by decide) (fun c_22 => ?_) (fun c_22 => ?_)
      · skip
        refine lv_aload_n hx hb dX1_writeCode_91 rfl (lv_at hl 1 rfl) ?_
        refine lv_lload hx hb dX1_writeCode_92 (lv_at hl 2 rfl) ?_
        refine lv_l2i (v := nI (kk)) hx hb dX1_writeCode_94 (lN_i _) ?_
        refine backV h (runV (As := [.int (nI (kk))]) (rest := []) C h (k_drB l z v sc ar n d (done) (kk) hn hn8 (by omega)) gv_X1_64 gv_X1_64_n ⟨rfl, rfl⟩ (r_Tape C h) rfl hl.1 rfl (Nat.le_of_ble_eq_true rfl) dX1_writeCode_95 ⟨Nat.le_of_ble_eq_true rfl, Nat.le_of_ble_eq_true rfl⟩ ⟨Nat.le_of_ble_eq_true rfl, Nat.le_of_ble_eq_true rfl⟩) (fun v_95 sc_95 ar_95 H locs p_95 h => ?_)
        have h : hH z v (va_up sc 5 (nI (d + (done ++ [kk]).length))) (va_up ar 11 (wrB (ar 11) (n + d) (done ++ [kk]))) s H locs := uEq p_95 h
        refine lv_lload hx hb dX1_writeCode_98 (lv_at hl 2 rfl) ?_
        refine lv_ldc2 (v := 256) hx hb C.1.2.2.2.1 (C.1.2.2.2.2 _ uk_X1_62) dX1_writeCode_100 ?_
        refine tL (y := lN 256) (by decide) ?_
        refine W.lcmp hx hb dX1_writeCode_103 ?_
        refine lv_if_ge (tgt := 111) hx hb dX1_writeCode_104 (by decide) (fun c_104 => ?_) (fun c_104 => ?_)
        · skip
          have c_104 : (256) ≤ (kk) := (pk_lLE (by omega) (by omega)).mp ((lg_cmp_ge _ _).mp c_104)
          refine lv_iconst (v := nI (0)) hx hb dX1_writeCode_111 (by decide) ?_
          exact rZ C hr hlk h dX1_writeCode_112 rfl (Nat.le_of_ble_eq_true rfl) (Nat.le_of_ble_eq_true rfl) (⟨done ++ [kk], rfl, by simp; omega, Or.inr ⟨rfl, by show enc cb ch k = _; rw [h3, show cb + 1 - i = 1 by omega, enc_one, if_neg (by omega)]; rfl⟩⟩)
        · skip
          have c_104 : (kk) < (256) := Nat.not_le.mp (fun q => c_104 ((lg_cmp_ge _ _).mpr ((pk_lLE (by omega) (by omega)).mpr q)))
          refine lv_iconst (v := nI (1)) hx hb dX1_writeCode_107 (by decide) ?_
          refine lv_goto (tgt := 112) hx hb dX1_writeCode_108 (by decide) ?_
          exact rZ C hr hlk h dX1_writeCode_112 rfl (Nat.le_of_ble_eq_true rfl) (Nat.le_of_ble_eq_true rfl) (⟨done ++ [kk], rfl, by simp; omega, Or.inl ⟨rfl, by show enc cb ch k = _; rw [h3, show cb + 1 - i = 1 by omega, enc_one, if_pos c_104]; rfl⟩⟩)
      · skip
        refine lv_lload hx hb dX1_writeCode_25 (lv_at hl 2 rfl) ?_
        refine lv_aload_n hx hb dX1_writeCode_27 rfl (lv_at hl 0 rfl) ?_
        refine rw_X1_24 C h hw dX1_writeCode_28 ?_
        refine lv_i2l (v := lN (256 - ch)) hx hb dX1_writeCode_31 (nI_l (by omega)) ?_
        refine W.lcmp hx hb dX1_writeCode_32 ?_
        refine lv_if_ge (tgt := 45) hx hb dX1_writeCode_33 (by decide) (fun c_33 => ?_) (fun c_33 => ?_)
        · skip
          have c_33 : (256 - ch) ≤ (kk) := (pk_lLE (by omega) (by omega)).mp ((lg_cmp_ge _ _).mp c_33)
          refine lv_aload_n hx hb dX1_writeCode_45 rfl (lv_at hl 1 rfl) ?_
          refine lv_aload_n hx hb dX1_writeCode_46 rfl (lv_at hl 0 rfl) ?_
          refine rw_X1_24 C h hw dX1_writeCode_47 ?_
          refine lv_lload hx hb dX1_writeCode_50 (lv_at hl 2 rfl) ?_
          refine lv_aload_n hx hb dX1_writeCode_52 rfl (lv_at hl 0 rfl) ?_
          refine rw_X1_24 C h hw dX1_writeCode_53 ?_
          refine lv_i2l (v := lN (256 - ch)) hx hb dX1_writeCode_56 (nI_l (by omega)) ?_
          refine lv_lsub hx hb dX1_writeCode_57 ?_
          refine tL (lN_sub (by omega)) ?_
          refine lv_aload_n hx hb dX1_writeCode_58 rfl (lv_at hl 0 rfl) ?_
          refine rw_X1_15 C h hw dX1_writeCode_59 ?_
          refine lv_i2l (v := lN (ch)) hx hb dX1_writeCode_62 (nI_l (by omega)) ?_
          refine lv_lrem hx hb dX1_writeCode_63 (lN_ne0 (by omega) (by omega)) ?_
          refine tL (pk_lRem (by omega) (by omega) (by omega)) ?_
          refine lv_l2i (v := nI (((kk) - (256 - ch)) % (ch))) hx hb dX1_writeCode_64 (lN_i _) ?_
          refine lv_iadd hx hb dX1_writeCode_65 ?_
          refine tI (nI_add _ _) ?_
          refine backV h (runV (As := [.int (nI ((256 - ch) + (((kk) - (256 - ch)) % (ch))))]) (rest := []) C h (k_drB l z v sc ar n d (done) ((256 - ch) + (((kk) - (256 - ch)) % (ch))) hn hn8 (by omega)) gv_X1_64 gv_X1_64_n ⟨rfl, rfl⟩ (r_Tape C h) rfl hl.1 rfl (Nat.le_of_ble_eq_true rfl) dX1_writeCode_66 ⟨Nat.le_of_ble_eq_true rfl, Nat.le_of_ble_eq_true rfl⟩ ⟨Nat.le_of_ble_eq_true rfl, Nat.le_of_ble_eq_true rfl⟩) (fun v_66 sc_66 ar_66 H locs p_66 h => ?_)
          have h : hH z v (va_up sc 5 (nI (d + (done ++ [(256 - ch) + (((kk) - (256 - ch)) % (ch))]).length))) (va_up ar 11 (wrB (ar 11) (n + d) (done ++ [(256 - ch) + (((kk) - (256 - ch)) % (ch))]))) s H locs := uEq p_66 h
          refine lv_lload hx hb dX1_writeCode_69 (lv_at hl 2 rfl) ?_
          refine lv_aload_n hx hb dX1_writeCode_71 rfl (lv_at hl 0 rfl) ?_
          refine rw_X1_24 C h hw dX1_writeCode_72 ?_
          refine lv_i2l (v := lN (256 - ch)) hx hb dX1_writeCode_75 (nI_l (by omega)) ?_
          refine lv_lsub hx hb dX1_writeCode_76 ?_
          refine tL (lN_sub (by omega)) ?_
          refine lv_aload_n hx hb dX1_writeCode_77 rfl (lv_at hl 0 rfl) ?_
          refine rw_X1_15 C h hw dX1_writeCode_78 ?_
          refine lv_i2l (v := lN (ch)) hx hb dX1_writeCode_81 (nI_l (by omega)) ?_
          refine lv_ldiv hx hb dX1_writeCode_82 (lN_ne0 (by omega) (by omega)) ?_
          refine tL (pk_lDiv (by omega) (by omega) (by omega)) ?_
          refine lv_lstore (lv' := [(4, .long (lN (((kk) - (256 - ch)) / (ch)))), (0, .ref (a)), (3, .ref (zad z 2)), (6, .int (nI (i)))]) hx hb dX1_writeCode_83 hl (by decide) rfl (fun ls hl => ?_)
          refine lv_iinc (v := nI (i + 1)) (lv' := [(6, .int (nI (i + 1))), (4, .long (lN (((kk) - (256 - ch)) / (ch)))), (0, .ref (a)), (3, .ref (zad z 2))]) hx hb dX1_writeCode_85 hl (k := 3) rfl (nN_inc _) (by decide) rfl (fun ls hl => ?_)
          refine lv_goto (tgt := 16) hx hb dX1_writeCode_88 (by decide) ?_
          exact ih_16 (i + 1) ((kk - (256 - ch)) / ch) (done ++ [256 - ch + (kk - (256 - ch)) % ch]) (by omega) H locs ls ⟨⟨by omega, by omega⟩, Nat.lt_of_le_of_lt (Nat.div_le_self _ _) (by omega), by rw [h3, enc_step (by omega) c_33, Option.map_map, show cb + 1 - i - 1 = cb + 1 - (i + 1) by omega]; congr 1; funext t; simp, by simp; omega, h, lv_sub hl [2, 3, 1, 0] rfl⟩
        · skip
          have c_33 : (kk) < (256 - ch) := Nat.not_le.mp (fun q => c_33 ((lg_cmp_ge _ _).mpr ((pk_lLE (by omega) (by omega)).mpr q)))
          refine lv_aload_n hx hb dX1_writeCode_36 rfl (lv_at hl 1 rfl) ?_
          refine lv_lload hx hb dX1_writeCode_37 (lv_at hl 2 rfl) ?_
          refine lv_l2i (v := nI (kk)) hx hb dX1_writeCode_39 (lN_i _) ?_
          refine backV h (runV (As := [.int (nI (kk))]) (rest := []) C h (k_drB l z v sc ar n d (done) (kk) hn hn8 (by omega)) gv_X1_64 gv_X1_64_n ⟨rfl, rfl⟩ (r_Tape C h) rfl hl.1 rfl (Nat.le_of_ble_eq_true rfl) dX1_writeCode_40 ⟨Nat.le_of_ble_eq_true rfl, Nat.le_of_ble_eq_true rfl⟩ ⟨Nat.le_of_ble_eq_true rfl, Nat.le_of_ble_eq_true rfl⟩) (fun v_40 sc_40 ar_40 H locs p_40 h => ?_)
          have h : hH z v (va_up sc 5 (nI (d + (done ++ [kk]).length))) (va_up ar 11 (wrB (ar 11) (n + d) (done ++ [kk]))) s H locs := uEq p_40 h
          refine lv_iconst (v := nI (1)) hx hb dX1_writeCode_43 (by decide) ?_
          exact rZ C hr hlk h dX1_writeCode_44 rfl (Nat.le_of_ble_eq_true rfl) (Nat.le_of_ble_eq_true rfl) (⟨done ++ [kk], rfl, by simp; omega, Or.inl ⟨rfl, by show enc cb ch k = _; rw [h3, enc_last (by omega) c_33]; rfl⟩⟩)
    · skip
      have c_5 := (lg_cmp_eq _ _).mp c_5
      exact absurd c_5 (lN_neg1 (by omega))
