/-! The reference: the bytes of a number. -/
def wrO (b : Nat → Int32) (p : Nat) (bs : List Nat) : Nat → Int32 := fun j => if p ≤ j ∧ j < p + bs.length ∧ j < 8000 then nI (bs.getD (j - p) 0) else b j
theorem wrO_nil (b : Nat → Int32) (p : Nat) : wrO b p [] = b := by
  funext j
  unfold wrO
  rw [if_neg (by simp; omega)]
theorem wrO_app (b : Nat → Int32) (p : Nat) (xs ys : List Nat) : wrO (wrO b p xs) (p + xs.length) ys = wrO b p (xs ++ ys) := by
  funext j
  unfold wrO
  simp only [List.length_append]
  by_cases h1 : p + xs.length ≤ j ∧ j < p + xs.length + ys.length ∧ j < 8000
  · rw [if_pos h1, if_pos (by omega)]
    congr 1
    rw [List.getD_eq_getElem?_getD, List.getD_eq_getElem?_getD, List.getElem?_append_right (by omega)]
    congr 2
    omega
  · rw [if_neg h1]
    by_cases h2 : p ≤ j ∧ j < p + xs.length ∧ j < 8000
    · rw [if_pos h2, if_pos (by omega)]
      congr 1
      rw [List.getD_eq_getElem?_getD, List.getD_eq_getElem?_getD, List.getElem?_append_left (by omega)]
    · rw [if_neg h2, if_neg (by omega)]
theorem wrO_out {b : Nat → Int32} {p j : Nat} {bs : List Nat} (h : ¬ (p ≤ j ∧ j < p + bs.length ∧ j < 8000)) : wrO b p bs j = b j := if_neg h
theorem wrO_in {b : Nat → Int32} {p j : Nat} {bs : List Nat} (h : p ≤ j ∧ j < p + bs.length ∧ j < 8000) : wrO b p bs j = nI (bs.getD (j - p) 0) := if_pos h
theorem wrO_st {b : Nat → Int32} {p q x : Nat} {xs : List Nat} (hq : q = p + xs.length) (h : q < 8000) : upd (wrO b p xs) q (nI x) = wrO b p (xs ++ [x]) := by
  rw [← wrO_app, ← hq]
  funext j
  unfold upd
  by_cases hj : j = q
  · rw [if_pos hj, wrO_in (by simp; omega), hj]; simp
  · rw [if_neg hj, wrO_out (p := q) (by simp; omega)]
theorem wrO_no {b : Nat → Int32} {p x : Nat} {xs : List Nat} (h : 8000 ≤ p + xs.length) : wrO b p xs = wrO b p (xs ++ [x]) := by
  rw [← wrO_app]
  funext j
  rw [wrO_out (p := p + xs.length) (by simp; omega)]
def lenZ (o : Option (List Nat)) : Int32 := match o with
  | some bs => nI bs.length
  | none => nI 0
theorem enc_fin {m h c : Nat} (hm : 1 ≤ m) (hc : c < 256) (h2 : c < 256 - h ∨ m = 1) : enc m h c = some [c] := by
  by_cases e : m = 1
  · rw [e, enc_one, if_pos hc]
  · exact enc_last (by omega) (by omega)
theorem subB {kk lo ch : Nat} (h : lo ≤ kk) : lo + (kk - lo) % ch ≤ kk := by
  have := Nat.mod_le (kk - lo) ch
  omega
theorem divB {kk lo ch : Nat} (h : lo ≤ kk) (hc : 0 < ch) : (kk - (lo + (kk - lo) % ch)) / ch = (kk - lo) / ch := by
  have h1 : kk - (lo + (kk - lo) % ch) = ch * ((kk - lo) / ch) := by
    have := Nat.div_add_mod (kk - lo) ch
    omega
  rw [h1, Nat.mul_div_cancel_left _ hc]
theorem codOK {wt : Nat → Nat → Nat} {dp : Nat → Nat} {w : Nat} (h : wOK wt dp w) (h0 : wt w 0 = 0) : (1 ≤ wt w 1 ∧ wt w 1 ≤ 5) ∧ (1 ≤ wt w 2 ∧ wt w 2 ≤ 256) ∧ wt w 3 ≤ 2 ∧ wt w 4 ≤ 1 ∧ dp w = 0 := by
  rcases h with q | q | q
  · exact ⟨q.2.2.1, q.2.2.2.1, q.2.2.2.2.1, q.2.2.2.2.2, q.2.1⟩
  · omega
  · omega
theorem gv_X10_135 : GoodIn uW (va_wsS RX10 135 yX10_codeOf (Cond.code yX10_codeOf cX10_codeOf 5 (some .long) :: uW)) := gI_S (uW_of (by decide +kernel) rfl) (uW_of (by decide +kernel) rfl) (uW_of (by decide +kernel) rfl) (uW_of (by decide +kernel) rfl)
theorem gv_X10_135_n : okN yX10_codeOf 2 := by decide +kernel
theorem uk_X10_139 : Cond.constantLong RX10 139 (255) ∈ uW := uW_of (by decide +kernel) rfl
set_option maxHeartbeats 4000000 in
set_option maxRecDepth 100000 in
theorem r_bytesF (l : Launch) (z : bZ) (v : bV) (sc : Nat → Int32) (ar : Nat → Nat → Int32) (K w wr : Nat) (wt : Nat → Nat → Nat) (dp : Nat → Nat) (t : Int32) (hK4 : K ≤ 40) (hRW : RW wt dp K ar) (hw : w < K) (hw0 : wt w 0 = 0) : Met l yX10_bytes (Cond.code yX10_bytes cX10_bytes 11 (some .int) :: uW) { frames := 1, cells := 0, slots := 0, locals := 24 } (pC z v sc ar [.ref (zad z 27), .int (nI (w)), .int (t), .int (nI (0))]) (qI z (fun r u => r = lenZ ((cdO (wt w 3) t).bind (enc (wt w 1) (wt w 2))) ∧ ∃ ps : List Nat, u = (v, sc, ar) ∧ ps.length ≤ 5 ∧ ∀ bs, ((cdO (wt w 3) t).bind (enc (wt w 1) (wt w 2))) = some bs → ps = bs)) 0 0 (zA z) := by
  refine eM (by decide) (Nat.le_of_ble_eq_true rfl) ?_
  intro pP eE s mM below meth cC ls C hr hlk h hl
  have hx := C.1.1
  have hb := C.1.2.1
  have hl : lv_has ls 11 [(0, .ref (zad z 27)), (1, .int (nI (w))), (2, .int (t)), (3, .int (nI (0)))] := hl
  obtain ⟨⟨hB1, hB5⟩, ⟨hH1, hH2⟩, hS, -, -⟩ := codOK (hRW w hw).2.2.2.2.2.2 hw0
  refine lv_iload_n hx hb dX10_bytes_0 rfl (lv_at hl 2 rfl) ?_
  refine lv_i2l (v := (t).toInt64) hx hb dX10_bytes_1 rfl ?_
  refine lv_aload_n hx hb dX10_bytes_2 rfl (lv_at hl 0 rfl) ?_
  refine rg_X10_19 C h dX10_bytes_3 ?_
  refine lv_iload_n hx hb dX10_bytes_6 rfl (lv_at hl 1 rfl) ?_
  refine ldA 31 rfl (j := w) (show w < 40 by omega) (by decide) C h dX10_bytes_7 ?_
  refine tI (y := nI (wt w 3)) (hRW w hw).2.2.2.1 ?_
  refine backL h (runS (As := [.long ((t).toInt64), .int (nI (wt w 3))]) (rest := []) C h (r_codeOf l z v sc ar t (wt w 3) hS) gv_X10_135 gv_X10_135_n ⟨rfl, rfl⟩ rfl hl.1 rfl (Nat.le_of_ble_eq_true rfl) dX10_bytes_8 ⟨Nat.le_of_ble_eq_true rfl, Nat.le_of_ble_eq_true rfl⟩ ⟨Nat.le_of_ble_eq_true rfl, Nat.le_of_ble_eq_true rfl⟩) (fun r_8 v_8 sc_8 ar_8 H locs p_8 h => ?_)
  have h : hH z v sc ar s H locs := uEq p_8.2 h
  refine tL (y := oL (cdO (wt w 3) t)) p_8.1 ?_
  rcases ho : cdO (wt w 3) t with _ | k
  · skip
    refine tL (y := (-1 : Int64)) rfl ?_
    refine lv_lstore (lv' := [(4, .long ((-1 : Int64))), (0, .ref (zad z 27)), (1, .int (nI (w))), (2, .int (t)), (3, .int (nI (0)))]) hx hb dX10_bytes_11 hl (by decide) rfl (fun ls hl => ?_)
    refine lv_lload hx hb dX10_bytes_13 (lv_at hl 0 rfl) ?_
    refine lv_lconst (v := lN 0) hx hb dX10_bytes_15 (by decide) ?_
    refine W.lcmp hx hb dX10_bytes_16 ?_
    refine lv_if_ge (tgt := 22) hx hb dX10_bytes_17 (by decide) (fun c_17 => ?_) (fun c_17 => ?_)
    · skip
      have c_17 : (lN (0)) ≤ ((-1 : Int64)) := (lg_cmp_ge _ _).mp c_17
      exact absurd c_17 (by decide)
    · skip
      have c_17 : ¬ (lN (0)) ≤ ((-1 : Int64)) := fun q => c_17 ((lg_cmp_ge _ _).mpr q)
      refine lv_iconst (v := nI (0)) hx hb dX10_bytes_20 (by decide) ?_
      exact rI C hr hlk h dX10_bytes_21 (Nat.le_of_ble_eq_true rfl) (Nat.le_of_ble_eq_true rfl) (by have eo : ((none : Option Nat).bind (enc (wt w 1) (wt w 2))) = none := (rfl); exact ⟨(by rw [eo]; rfl), [], rfl, (by simp), fun bs e => (by rw [eo] at e; cases e)⟩)
  · skip
    refine tL (y := lN k) rfl ?_
    have hk := cdO_lt hS ho
    refine lv_lstore (lv' := [(4, .long (lN (k))), (0, .ref (zad z 27)), (1, .int (nI (w))), (2, .int (t)), (3, .int (nI (0)))]) hx hb dX10_bytes_11 hl (by decide) rfl (fun ls hl => ?_)
    refine lv_lload hx hb dX10_bytes_13 (lv_at hl 0 rfl) ?_
    refine lv_lconst (v := lN 0) hx hb dX10_bytes_15 (by decide) ?_
    refine W.lcmp hx hb dX10_bytes_16 ?_
    refine lv_if_ge (tgt := 22) hx hb dX10_bytes_17 (by decide) (fun c_17 => ?_) (fun c_17 => ?_)
    · skip
      have c_17 : (0) ≤ (k) := (pk_lLE (by omega) (by omega)).mp ((lg_cmp_ge _ _).mp c_17)
      refine lv_aload_n hx hb dX10_bytes_22 rfl (lv_at hl 1 rfl) ?_
      refine rg_X10_16 C h dX10_bytes_23 ?_
      refine lv_iload_n hx hb dX10_bytes_26 rfl (lv_at hl 2 rfl) ?_
      refine ldA 30 rfl (j := w) (show w < 40 by omega) (by decide) C h dX10_bytes_27 ?_
      refine tI (y := nI (wt w 2)) (hRW w hw).2.2.1 ?_
      refine lv_istore (lv' := [(6, .int (nI (wt w 2))), (4, .long (lN (k))), (0, .ref (zad z 27)), (1, .int (nI (w))), (2, .int (t)), (3, .int (nI (0)))]) hx hb dX10_bytes_28 hl (by decide) rfl (fun ls hl => ?_)
      refine lv_sipush (v := nI (256)) hx hb dX10_bytes_30 (by decide) ?_
      refine lv_iload hx hb dX10_bytes_33 (lv_at hl 0 rfl) ?_
      refine lv_isub hx hb dX10_bytes_35 ?_
      refine tI (y := nI (256 - wt w 2)) (pk_sub (by omega)) ?_
      refine lv_istore (lv' := [(7, .int (nI (256 - wt w 2))), (6, .int (nI (wt w 2))), (4, .long (lN (k))), (0, .ref (zad z 27)), (1, .int (nI (w))), (2, .int (t)), (3, .int (nI (0)))]) hx hb dX10_bytes_36 hl (by decide) rfl (fun ls hl => ?_)
      refine lv_iconst (v := nI (1)) hx hb dX10_bytes_38 (by decide) ?_
      refine lv_istore (lv' := [(8, .int (nI (1))), (7, .int (nI (256 - wt w 2))), (6, .int (nI (wt w 2))), (4, .long (lN (k))), (0, .ref (zad z 27)), (1, .int (nI (w))), (2, .int (t)), (3, .int (nI (0)))]) hx hb dX10_bytes_39 hl (by decide) rfl (fun ls hl => ?_)
      refine lpW3 (fun (i : Nat) (kk : Nat) (done : List Nat) (H : Heap) (locs : List Loc) (ls : Array Slot) => (1 ≤ i ∧ i ≤ wt w 1) ∧ (kk < 4294967296) ∧ (enc (wt w 1) (wt w 2) k = (enc (wt w 1 + 1 - i) (wt w 2) kk).map (fun t => done ++ t)) ∧ (done.length + 1 = i) ∧ hH z v sc ar s H locs ∧ lv_has ls 11 [(0, .ref (zad z 27)), (1, .int (nI (w))), (3, .int (nI (0))), (4, .long (lN (kk))), (6, .int (nI (wt w 2))), (7, .int (nI (256 - wt w 2))), (8, .int (nI (i)))]) (fun (i : Nat) (kk : Nat) (done : List Nat) => wt w 1 - i) (fun i kk done ih_41 H locs ls hI => ?_) (1) (k) ([]) ⟨⟨by omega, by omega⟩, hk, by simp, rfl, h, lv_sub hl [4, 5, 7, 3, 2, 1, 0] rfl⟩
      obtain ⟨h1, h2, h3, h4, h, hl⟩ := hI
      refine lv_iload hx hb dX10_bytes_41 (lv_at hl 6 rfl) ?_
      refine lv_aload_n hx hb dX10_bytes_43 rfl (lv_at hl 0 rfl) ?_
      refine rg_X10_13 C h dX10_bytes_44 ?_
      refine lv_iload_n hx hb dX10_bytes_47 rfl (lv_at hl 1 rfl) ?_
      refine ldA 29 rfl (j := w) (show w < 40 by omega) (by decide) C h dX10_bytes_48 ?_
      refine tI (y := nI (wt w 1)) (hRW w hw).2.1 ?_
      refine jN_gt (tgt := 181) (a := i) (b := wt w 1) C (by omega) (by omega) dX10_bytes_49 (by decide) (fun c_49 => ?_) (fun c_49 => ?_)
      · skip
        omega
      · skip
        refine lv_lload hx hb dX10_bytes_52 (lv_at hl 3 rfl) ?_
        refine lv_iload hx hb dX10_bytes_54 (lv_at hl 5 rfl) ?_
        refine lv_i2l (v := lN (256 - wt w 2)) hx hb dX10_bytes_56 (nI_l (by omega)) ?_
        refine W.lcmp hx hb dX10_bytes_57 ?_
        refine lv_if_lt (tgt := 72) hx hb dX10_bytes_58 (by decide) (fun c_58 => ?_) (fun c_58 => ?_)
        · skip
          have c_58 : (kk) < (256 - wt w 2) := (pk_lLT (by omega) (by omega)).mp ((lg_cmp_lt _ _).mp c_58)
          refine lv_iconst (v := nI (1)) hx hb dX10_bytes_72 (by decide) ?_
          refine lv_goto (tgt := 77) hx hb dX10_bytes_73 (by decide) ?_
          refine lv_istore (lv' := [(9, .int (nI (1))), (0, .ref (zad z 27)), (1, .int (nI (w))), (3, .int (nI (0))), (4, .long (lN (kk))), (6, .int (nI (wt w 2))), (7, .int (nI (256 - wt w 2))), (8, .int (nI (i)))]) hx hb dX10_bytes_77 hl (by decide) rfl (fun ls hl => ?_)
          refine lv_iload hx hb dX10_bytes_79 (lv_at hl 0 rfl) ?_
          refine zN_eq (tgt := 95) (a := 1) C (by decide) dX10_bytes_81 (by decide) (fun q => absurd q (by decide)) (fun _ => ?_)
          refine lv_lload hx hb dX10_bytes_84 (lv_at hl 4 rfl) ?_
          refine lv_ldc2 (v := 255) hx hb C.1.2.2.2.1 (C.1.2.2.2.2 _ uk_X10_139) dX10_bytes_86 ?_
          refine tL (y := lN 255) (by decide) ?_
          refine W.lcmp hx hb dX10_bytes_89 ?_
          refine lv_if_le (tgt := 95) hx hb dX10_bytes_90 (by decide) (fun c_90 => ?_) (fun c_90 => ?_)
          · skip
            have c_90 : (kk) ≤ (255) := (pk_lLE (by omega) (by omega)).mp ((lg_cmp_le _ _).mp c_90)
            refine lv_iload hx hb dX10_bytes_95 (lv_at hl 0 rfl) ?_
            refine zN_eq (tgt := 106) (a := 1) C (by decide) dX10_bytes_97 (by decide) (fun q => absurd q (by decide)) (fun _ => ?_)
            refine lv_lload hx hb dX10_bytes_100 (lv_at hl 4 rfl) ?_
            refine lv_l2i (v := nI (kk)) hx hb dX10_bytes_102 (lN_i _) ?_
            refine lv_goto (tgt := 120) hx hb dX10_bytes_103 (by decide) ?_
            refine lv_istore (lv' := [(10, .int (nI (kk))), (9, .int (nI (1))), (0, .ref (zad z 27)), (1, .int (nI (w))), (3, .int (nI (0))), (4, .long (lN (kk))), (6, .int (nI (wt w 2))), (7, .int (nI (256 - wt w 2))), (8, .int (nI (i)))]) hx hb dX10_bytes_120 hl (by decide) rfl (fun ls hl => ?_)
            refine lv_iload_n hx hb dX10_bytes_122 rfl (lv_at hl 4 rfl) ?_
            refine zN_eq (tgt := 155) (a := 0) C (by decide) dX10_bytes_123 (by decide) (fun _ => ?_) (fun q => absurd q (by decide))
            refine lv_iload hx hb dX10_bytes_155 (lv_at hl 1 rfl) ?_
            refine zN_eq (tgt := 163) (a := 1) C (by decide) dX10_bytes_157 (by decide) (fun q => absurd q (by decide)) (fun _ => ?_)
            refine lv_iload hx hb dX10_bytes_160 (lv_at hl 8 rfl) ?_
            exact rI C hr hlk h dX10_bytes_162 (Nat.le_of_ble_eq_true rfl) (Nat.le_of_ble_eq_true rfl) (by have eo : ((some k).bind (enc (wt w 1) (wt w 2))) = some (done ++ [kk]) := (by show enc (wt w 1) (wt w 2) k = _; rw [h3, enc_fin (by omega) (by omega) (by omega)]; rfl); exact ⟨(by rw [eo]; show nI i = nI (done ++ [kk]).length; rw [List.length_append]; congr 1; simp; omega), done ++ [kk], rfl, (by simp; omega), fun bs e => (by rw [eo] at e; cases e; rfl)⟩)
          · skip
            have c_90 : (255) < (kk) := Nat.not_le.mp (fun q => c_90 ((lg_cmp_le _ _).mpr ((pk_lLE (by omega) (by omega)).mpr q)))
            omega
        · skip
          have c_58 : (256 - wt w 2) ≤ (kk) := Nat.not_lt.mp (fun q => c_58 ((lg_cmp_lt _ _).mpr ((pk_lLT (by omega) (by omega)).mpr q)))
          refine lv_iload hx hb dX10_bytes_61 (lv_at hl 6 rfl) ?_
          refine lv_aload_n hx hb dX10_bytes_63 rfl (lv_at hl 0 rfl) ?_
          refine rg_X10_13 C h dX10_bytes_64 ?_
          refine lv_iload_n hx hb dX10_bytes_67 rfl (lv_at hl 1 rfl) ?_
          refine ldA 29 rfl (j := w) (show w < 40 by omega) (by decide) C h dX10_bytes_68 ?_
          refine tI (y := nI (wt w 1)) (hRW w hw).2.1 ?_
          refine jN_ne (tgt := 76) (a := i) (b := wt w 1) C (by omega) (by omega) dX10_bytes_69 (by decide) (fun c_69 => ?_) (fun c_69 => ?_)
          · skip
            refine lv_iconst (v := nI (0)) hx hb dX10_bytes_76 (by decide) ?_
            refine lv_istore (lv' := [(9, .int (nI (0))), (0, .ref (zad z 27)), (1, .int (nI (w))), (3, .int (nI (0))), (4, .long (lN (kk))), (6, .int (nI (wt w 2))), (7, .int (nI (256 - wt w 2))), (8, .int (nI (i)))]) hx hb dX10_bytes_77 hl (by decide) rfl (fun ls hl => ?_)
            refine lv_iload hx hb dX10_bytes_79 (lv_at hl 0 rfl) ?_
            refine zN_eq (tgt := 95) (a := 0) C (by decide) dX10_bytes_81 (by decide) (fun _ => ?_) (fun q => absurd q (by decide))
            refine lv_iload hx hb dX10_bytes_95 (lv_at hl 0 rfl) ?_
            refine zN_eq (tgt := 106) (a := 0) C (by decide) dX10_bytes_97 (by decide) (fun _ => ?_) (fun q => absurd q (by decide))
            refine lv_iload hx hb dX10_bytes_106 (lv_at hl 6 rfl) ?_
            refine lv_lload hx hb dX10_bytes_108 (lv_at hl 4 rfl) ?_
            refine lv_iload hx hb dX10_bytes_110 (lv_at hl 6 rfl) ?_
            refine lv_i2l (v := lN (256 - wt w 2)) hx hb dX10_bytes_112 (nI_l (by omega)) ?_
            refine lv_lsub hx hb dX10_bytes_113 ?_
            refine tL (lN_sub (by omega)) ?_
            refine lv_iload hx hb dX10_bytes_114 (lv_at hl 5 rfl) ?_
            refine lv_i2l (v := lN (wt w 2)) hx hb dX10_bytes_116 (nI_l (by omega)) ?_
            refine lv_lrem hx hb dX10_bytes_117 (lN_ne0 (by omega) (by omega)) ?_
            refine tL (pk_lRem (by omega) (by omega) (by omega)) ?_
            refine lv_l2i (v := nI (((kk) - (256 - wt w 2)) % (wt w 2))) hx hb dX10_bytes_118 (lN_i _) ?_
            refine lv_iadd hx hb dX10_bytes_119 ?_
            refine tI (nI_add _ _) ?_
            refine lv_istore (lv' := [(10, .int (nI ((256 - wt w 2) + (((kk) - (256 - wt w 2)) % (wt w 2))))), (9, .int (nI (0))), (0, .ref (zad z 27)), (1, .int (nI (w))), (3, .int (nI (0))), (4, .long (lN (kk))), (6, .int (nI (wt w 2))), (7, .int (nI (256 - wt w 2))), (8, .int (nI (i)))]) hx hb dX10_bytes_120 hl (by decide) rfl (fun ls hl => ?_)
            refine lv_iload_n hx hb dX10_bytes_122 rfl (lv_at hl 4 rfl) ?_
            refine zN_eq (tgt := 155) (a := 0) C (by decide) dX10_bytes_123 (by decide) (fun _ => ?_) (fun q => absurd q (by decide))
            refine lv_iload hx hb dX10_bytes_155 (lv_at hl 1 rfl) ?_
            refine zN_eq (tgt := 163) (a := 0) C (by decide) dX10_bytes_157 (by decide) (fun _ => ?_) (fun q => absurd q (by decide))
            have hmd : (kk - (256 - wt w 2)) % wt w 2 < wt w 2 := Nat.mod_lt _ (by omega)
            refine lv_lload hx hb dX10_bytes_163 (lv_at hl 5 rfl) ?_
            refine lv_iload hx hb dX10_bytes_165 (lv_at hl 0 rfl) ?_
            refine lv_i2l (v := lN ((256 - wt w 2) + (((kk) - (256 - wt w 2)) % (wt w 2)))) hx hb dX10_bytes_167 (nI_l (by omega)) ?_
            refine lv_lsub hx hb dX10_bytes_168 ?_
            refine tL (y := lN (kk - ((256 - wt w 2) + (((kk) - (256 - wt w 2)) % (wt w 2))))) (lN_sub (subB (by omega))) ?_
            refine lv_iload hx hb dX10_bytes_169 (lv_at hl 6 rfl) ?_
            refine lv_i2l (v := lN (wt w 2)) hx hb dX10_bytes_171 (nI_l (by omega)) ?_
            refine lv_ldiv hx hb dX10_bytes_172 (lN_ne0 (by omega) (by omega)) ?_
            refine tL (y := lN ((kk - (256 - wt w 2)) / wt w 2)) (by rw [pk_lDiv (by omega) (by omega) (by omega), divB (by omega) (by omega)]) ?_
            refine lv_lstore (lv' := [(4, .long (lN ((kk - (256 - wt w 2)) / wt w 2))), (10, .int (nI ((256 - wt w 2) + (((kk) - (256 - wt w 2)) % (wt w 2))))), (9, .int (nI (0))), (0, .ref (zad z 27)), (1, .int (nI (w))), (3, .int (nI (0))), (6, .int (nI (wt w 2))), (7, .int (nI (256 - wt w 2))), (8, .int (nI (i)))]) hx hb dX10_bytes_173 hl (by decide) rfl (fun ls hl => ?_)
            refine lv_iinc (v := nI (i + 1)) (lv' := [(8, .int (nI (i + 1))), (4, .long (lN ((kk - (256 - wt w 2)) / wt w 2))), (10, .int (nI ((256 - wt w 2) + (((kk) - (256 - wt w 2)) % (wt w 2))))), (9, .int (nI (0))), (0, .ref (zad z 27)), (1, .int (nI (w))), (3, .int (nI (0))), (6, .int (nI (wt w 2))), (7, .int (nI (256 - wt w 2)))]) hx hb dX10_bytes_175 hl (k := 8) rfl (nN_inc _) (by decide) rfl (fun ls hl => ?_)
            refine lv_goto (tgt := 41) hx hb dX10_bytes_178 (by decide) ?_
            exact ih_41 (i + 1) ((kk - (256 - wt w 2)) / wt w 2) (done ++ [(256 - wt w 2) + (((kk) - (256 - wt w 2)) % (wt w 2))]) (by omega) H locs ls ⟨⟨by omega, by omega⟩, Nat.lt_of_le_of_lt (Nat.div_le_self _ _) (by omega), by rw [h3, enc_step (by omega) (by omega), Option.map_map, show wt w 1 + 1 - i - 1 = wt w 1 + 1 - (i + 1) by omega]; congr 1; funext t; simp, by simp; omega, h, lv_sub hl [4, 5, 6, 1, 7, 8, 0] rfl⟩
          · skip
            refine lv_iconst (v := nI (1)) hx hb dX10_bytes_72 (by decide) ?_
            refine lv_goto (tgt := 77) hx hb dX10_bytes_73 (by decide) ?_
            refine lv_istore (lv' := [(9, .int (nI (1))), (0, .ref (zad z 27)), (1, .int (nI (w))), (3, .int (nI (0))), (4, .long (lN (kk))), (6, .int (nI (wt w 2))), (7, .int (nI (256 - wt w 2))), (8, .int (nI (i)))]) hx hb dX10_bytes_77 hl (by decide) rfl (fun ls hl => ?_)
            refine lv_iload hx hb dX10_bytes_79 (lv_at hl 0 rfl) ?_
            refine zN_eq (tgt := 95) (a := 1) C (by decide) dX10_bytes_81 (by decide) (fun q => absurd q (by decide)) (fun _ => ?_)
            refine lv_lload hx hb dX10_bytes_84 (lv_at hl 4 rfl) ?_
            refine lv_ldc2 (v := 255) hx hb C.1.2.2.2.1 (C.1.2.2.2.2 _ uk_X10_139) dX10_bytes_86 ?_
            refine tL (y := lN 255) (by decide) ?_
            refine W.lcmp hx hb dX10_bytes_89 ?_
            refine lv_if_le (tgt := 95) hx hb dX10_bytes_90 (by decide) (fun c_90 => ?_) (fun c_90 => ?_)
            · skip
              have c_90 : (kk) ≤ (255) := (pk_lLE (by omega) (by omega)).mp ((lg_cmp_le _ _).mp c_90)
              refine lv_iload hx hb dX10_bytes_95 (lv_at hl 0 rfl) ?_
              refine zN_eq (tgt := 106) (a := 1) C (by decide) dX10_bytes_97 (by decide) (fun q => absurd q (by decide)) (fun _ => ?_)
              refine lv_lload hx hb dX10_bytes_100 (lv_at hl 4 rfl) ?_
              refine lv_l2i (v := nI (kk)) hx hb dX10_bytes_102 (lN_i _) ?_
              refine lv_goto (tgt := 120) hx hb dX10_bytes_103 (by decide) ?_
              refine lv_istore (lv' := [(10, .int (nI (kk))), (9, .int (nI (1))), (0, .ref (zad z 27)), (1, .int (nI (w))), (3, .int (nI (0))), (4, .long (lN (kk))), (6, .int (nI (wt w 2))), (7, .int (nI (256 - wt w 2))), (8, .int (nI (i)))]) hx hb dX10_bytes_120 hl (by decide) rfl (fun ls hl => ?_)
              refine lv_iload_n hx hb dX10_bytes_122 rfl (lv_at hl 4 rfl) ?_
              refine zN_eq (tgt := 155) (a := 0) C (by decide) dX10_bytes_123 (by decide) (fun _ => ?_) (fun q => absurd q (by decide))
              refine lv_iload hx hb dX10_bytes_155 (lv_at hl 1 rfl) ?_
              refine zN_eq (tgt := 163) (a := 1) C (by decide) dX10_bytes_157 (by decide) (fun q => absurd q (by decide)) (fun _ => ?_)
              refine lv_iload hx hb dX10_bytes_160 (lv_at hl 8 rfl) ?_
              exact rI C hr hlk h dX10_bytes_162 (Nat.le_of_ble_eq_true rfl) (Nat.le_of_ble_eq_true rfl) (by have eo : ((some k).bind (enc (wt w 1) (wt w 2))) = some (done ++ [kk]) := (by show enc (wt w 1) (wt w 2) k = _; rw [h3, enc_fin (by omega) (by omega) (by omega)]; rfl); exact ⟨(by rw [eo]; show nI i = nI (done ++ [kk]).length; rw [List.length_append]; congr 1; simp; omega), done ++ [kk], rfl, (by simp; omega), fun bs e => (by rw [eo] at e; cases e; rfl)⟩)
            · skip
              have c_90 : (255) < (kk) := Nat.not_le.mp (fun q => c_90 ((lg_cmp_le _ _).mpr ((pk_lLE (by omega) (by omega)).mpr q)))
              refine lv_iconst (v := nI (0)) hx hb dX10_bytes_93 (by decide) ?_
              exact rI C hr hlk h dX10_bytes_94 (Nat.le_of_ble_eq_true rfl) (Nat.le_of_ble_eq_true rfl) (by have eo : ((some k).bind (enc (wt w 1) (wt w 2))) = none := (by show enc (wt w 1) (wt w 2) k = none; rw [h3, show wt w 1 + 1 - i = 1 by omega, enc_one, if_neg (by omega)]; rfl); exact ⟨(by rw [eo]; rfl), done, rfl, (by omega), fun bs e => (by rw [eo] at e; cases e)⟩)
    · skip
      have c_17 : (k) < (0) := Nat.not_le.mp (fun q => c_17 ((lg_cmp_ge _ _).mpr ((pk_lLE (by omega) (by omega)).mpr q)))
      exact absurd c_17 (Nat.not_lt_zero _)
set_option maxHeartbeats 4000000 in
set_option maxRecDepth 100000 in
theorem r_bytesT (l : Launch) (z : bZ) (v : bV) (sc : Nat → Int32) (ar : Nat → Nat → Int32) (K w wr : Nat) (wt : Nat → Nat → Nat) (dp : Nat → Nat) (t : Int32) (hK4 : K ≤ 40) (hRW : RW wt dp K ar) (hw : w < K) (hw0 : wt w 0 = 0) (hwr : sc 31 = nI wr) (hwr9 : wr < 2 ^ 30) : Met l yX10_bytes (Cond.code yX10_bytes cX10_bytes 11 (some .int) :: uW) { frames := 1, cells := 0, slots := 0, locals := 24 } (pC z v sc ar [.ref (zad z 27), .int (nI (w)), .int (t), .int (nI (1))]) (qI z (fun r u => r = lenZ ((cdO (wt w 3) t).bind (enc (wt w 1) (wt w 2))) ∧ ∃ ps : List Nat, u = (v, sc, va_up ar 41 (wrO (ar 41) wr (ps))) ∧ ps.length ≤ 5 ∧ ∀ bs, ((cdO (wt w 3) t).bind (enc (wt w 1) (wt w 2))) = some bs → ps = bs)) 0 0 (zA z) := by
  refine eM (by decide) (Nat.le_of_ble_eq_true rfl) ?_
  intro pP eE s mM below meth cC ls C hr hlk h hl
  have hx := C.1.1
  have hb := C.1.2.1
  have hl : lv_has ls 11 [(0, .ref (zad z 27)), (1, .int (nI (w))), (2, .int (t)), (3, .int (nI (1)))] := hl
  obtain ⟨⟨hB1, hB5⟩, ⟨hH1, hH2⟩, hS, -, -⟩ := codOK (hRW w hw).2.2.2.2.2.2 hw0
  refine lv_iload_n hx hb dX10_bytes_0 rfl (lv_at hl 2 rfl) ?_
  refine lv_i2l (v := (t).toInt64) hx hb dX10_bytes_1 rfl ?_
  refine lv_aload_n hx hb dX10_bytes_2 rfl (lv_at hl 0 rfl) ?_
  refine rg_X10_19 C h dX10_bytes_3 ?_
  refine lv_iload_n hx hb dX10_bytes_6 rfl (lv_at hl 1 rfl) ?_
  refine ldA 31 rfl (j := w) (show w < 40 by omega) (by decide) C h dX10_bytes_7 ?_
  refine tI (y := nI (wt w 3)) (hRW w hw).2.2.2.1 ?_
  refine backL h (runS (As := [.long ((t).toInt64), .int (nI (wt w 3))]) (rest := []) C h (r_codeOf l z v sc ar t (wt w 3) hS) gv_X10_135 gv_X10_135_n ⟨rfl, rfl⟩ rfl hl.1 rfl (Nat.le_of_ble_eq_true rfl) dX10_bytes_8 ⟨Nat.le_of_ble_eq_true rfl, Nat.le_of_ble_eq_true rfl⟩ ⟨Nat.le_of_ble_eq_true rfl, Nat.le_of_ble_eq_true rfl⟩) (fun r_8 v_8 sc_8 ar_8 H locs p_8 h => ?_)
  have h : hH z v sc ar s H locs := uEq p_8.2 h
  refine tL (y := oL (cdO (wt w 3) t)) p_8.1 ?_
  rcases ho : cdO (wt w 3) t with _ | k
  · skip
    refine tL (y := (-1 : Int64)) rfl ?_
    refine lv_lstore (lv' := [(4, .long ((-1 : Int64))), (0, .ref (zad z 27)), (1, .int (nI (w))), (2, .int (t)), (3, .int (nI (1)))]) hx hb dX10_bytes_11 hl (by decide) rfl (fun ls hl => ?_)
    refine lv_lload hx hb dX10_bytes_13 (lv_at hl 0 rfl) ?_
    refine lv_lconst (v := lN 0) hx hb dX10_bytes_15 (by decide) ?_
    refine W.lcmp hx hb dX10_bytes_16 ?_
    refine lv_if_ge (tgt := 22) hx hb dX10_bytes_17 (by decide) (fun c_17 => ?_) (fun c_17 => ?_)
    · skip
      have c_17 : (lN (0)) ≤ ((-1 : Int64)) := (lg_cmp_ge _ _).mp c_17
      exact absurd c_17 (by decide)
    · skip
      have c_17 : ¬ (lN (0)) ≤ ((-1 : Int64)) := fun q => c_17 ((lg_cmp_ge _ _).mpr q)
      refine lv_iconst (v := nI (0)) hx hb dX10_bytes_20 (by decide) ?_
      exact rI C hr hlk h dX10_bytes_21 (Nat.le_of_ble_eq_true rfl) (Nat.le_of_ble_eq_true rfl) (by have eo : ((none : Option Nat).bind (enc (wt w 1) (wt w 2))) = none := (rfl); exact ⟨(by rw [eo]; rfl), [], by rw [wrO_nil, va_us], (by simp), fun bs e => (by rw [eo] at e; cases e)⟩)
  · skip
    refine tL (y := lN k) rfl ?_
    have hk := cdO_lt hS ho
    refine lv_lstore (lv' := [(4, .long (lN (k))), (0, .ref (zad z 27)), (1, .int (nI (w))), (2, .int (t)), (3, .int (nI (1)))]) hx hb dX10_bytes_11 hl (by decide) rfl (fun ls hl => ?_)
    refine lv_lload hx hb dX10_bytes_13 (lv_at hl 0 rfl) ?_
    refine lv_lconst (v := lN 0) hx hb dX10_bytes_15 (by decide) ?_
    refine W.lcmp hx hb dX10_bytes_16 ?_
    refine lv_if_ge (tgt := 22) hx hb dX10_bytes_17 (by decide) (fun c_17 => ?_) (fun c_17 => ?_)
    · skip
      have c_17 : (0) ≤ (k) := (pk_lLE (by omega) (by omega)).mp ((lg_cmp_ge _ _).mp c_17)
      refine lv_aload_n hx hb dX10_bytes_22 rfl (lv_at hl 1 rfl) ?_
      refine rg_X10_16 C h dX10_bytes_23 ?_
      refine lv_iload_n hx hb dX10_bytes_26 rfl (lv_at hl 2 rfl) ?_
      refine ldA 30 rfl (j := w) (show w < 40 by omega) (by decide) C h dX10_bytes_27 ?_
      refine tI (y := nI (wt w 2)) (hRW w hw).2.2.1 ?_
      refine lv_istore (lv' := [(6, .int (nI (wt w 2))), (4, .long (lN (k))), (0, .ref (zad z 27)), (1, .int (nI (w))), (2, .int (t)), (3, .int (nI (1)))]) hx hb dX10_bytes_28 hl (by decide) rfl (fun ls hl => ?_)
      refine lv_sipush (v := nI (256)) hx hb dX10_bytes_30 (by decide) ?_
      refine lv_iload hx hb dX10_bytes_33 (lv_at hl 0 rfl) ?_
      refine lv_isub hx hb dX10_bytes_35 ?_
      refine tI (y := nI (256 - wt w 2)) (pk_sub (by omega)) ?_
      refine lv_istore (lv' := [(7, .int (nI (256 - wt w 2))), (6, .int (nI (wt w 2))), (4, .long (lN (k))), (0, .ref (zad z 27)), (1, .int (nI (w))), (2, .int (t)), (3, .int (nI (1)))]) hx hb dX10_bytes_36 hl (by decide) rfl (fun ls hl => ?_)
      refine lv_iconst (v := nI (1)) hx hb dX10_bytes_38 (by decide) ?_
      refine lv_istore (lv' := [(8, .int (nI (1))), (7, .int (nI (256 - wt w 2))), (6, .int (nI (wt w 2))), (4, .long (lN (k))), (0, .ref (zad z 27)), (1, .int (nI (w))), (2, .int (t)), (3, .int (nI (1)))]) hx hb dX10_bytes_39 hl (by decide) rfl (fun ls hl => ?_)
      refine lpW3 (fun (i : Nat) (kk : Nat) (done : List Nat) (H : Heap) (locs : List Loc) (ls : Array Slot) => (1 ≤ i ∧ i ≤ wt w 1) ∧ (kk < 4294967296) ∧ (enc (wt w 1) (wt w 2) k = (enc (wt w 1 + 1 - i) (wt w 2) kk).map (fun t => done ++ t)) ∧ (done.length + 1 = i) ∧ hH z v sc (va_up ar 41 (wrO (ar 41) wr done)) s H locs ∧ lv_has ls 11 [(0, .ref (zad z 27)), (1, .int (nI (w))), (3, .int (nI (1))), (4, .long (lN (kk))), (6, .int (nI (wt w 2))), (7, .int (nI (256 - wt w 2))), (8, .int (nI (i)))]) (fun (i : Nat) (kk : Nat) (done : List Nat) => wt w 1 - i) (fun i kk done ih_41 H locs ls hI => ?_) (1) (k) ([]) ⟨⟨by omega, by omega⟩, hk, by simp, rfl, (by rw [wrO_nil, va_us]; exact h), lv_sub hl [4, 5, 7, 3, 2, 1, 0] rfl⟩
      obtain ⟨h1, h2, h3, h4, h, hl⟩ := hI
      refine lv_iload hx hb dX10_bytes_41 (lv_at hl 6 rfl) ?_
      refine lv_aload_n hx hb dX10_bytes_43 rfl (lv_at hl 0 rfl) ?_
      refine rg_X10_13 C h dX10_bytes_44 ?_
      refine lv_iload_n hx hb dX10_bytes_47 rfl (lv_at hl 1 rfl) ?_
      refine ldA 29 rfl (j := w) (show w < 40 by omega) (by decide) C h dX10_bytes_48 ?_
      refine tI (y := nI (wt w 1)) (hRW w hw).2.1 ?_
      refine jN_gt (tgt := 181) (a := i) (b := wt w 1) C (by omega) (by omega) dX10_bytes_49 (by decide) (fun c_49 => ?_) (fun c_49 => ?_)
      · skip
        omega
      · skip
        refine lv_lload hx hb dX10_bytes_52 (lv_at hl 3 rfl) ?_
        refine lv_iload hx hb dX10_bytes_54 (lv_at hl 5 rfl) ?_
        refine lv_i2l (v := lN (256 - wt w 2)) hx hb dX10_bytes_56 (nI_l (by omega)) ?_
        refine W.lcmp hx hb dX10_bytes_57 ?_
        refine lv_if_lt (tgt := 72) hx hb dX10_bytes_58 (by decide) (fun c_58 => ?_) (fun c_58 => ?_)
        · skip
          have c_58 : (kk) < (256 - wt w 2) := (pk_lLT (by omega) (by omega)).mp ((lg_cmp_lt _ _).mp c_58)
          refine lv_iconst (v := nI (1)) hx hb dX10_bytes_72 (by decide) ?_
          refine lv_goto (tgt := 77) hx hb dX10_bytes_73 (by decide) ?_
          refine lv_istore (lv' := [(9, .int (nI (1))), (0, .ref (zad z 27)), (1, .int (nI (w))), (3, .int (nI (1))), (4, .long (lN (kk))), (6, .int (nI (wt w 2))), (7, .int (nI (256 - wt w 2))), (8, .int (nI (i)))]) hx hb dX10_bytes_77 hl (by decide) rfl (fun ls hl => ?_)
          refine lv_iload hx hb dX10_bytes_79 (lv_at hl 0 rfl) ?_
          refine zN_eq (tgt := 95) (a := 1) C (by decide) dX10_bytes_81 (by decide) (fun q => absurd q (by decide)) (fun _ => ?_)
          refine lv_lload hx hb dX10_bytes_84 (lv_at hl 4 rfl) ?_
          refine lv_ldc2 (v := 255) hx hb C.1.2.2.2.1 (C.1.2.2.2.2 _ uk_X10_139) dX10_bytes_86 ?_
          refine tL (y := lN 255) (by decide) ?_
          refine W.lcmp hx hb dX10_bytes_89 ?_
          refine lv_if_le (tgt := 95) hx hb dX10_bytes_90 (by decide) (fun c_90 => ?_) (fun c_90 => ?_)
          · skip
            have c_90 : (kk) ≤ (255) := (pk_lLE (by omega) (by omega)).mp ((lg_cmp_le _ _).mp c_90)
            refine lv_iload hx hb dX10_bytes_95 (lv_at hl 0 rfl) ?_
            refine zN_eq (tgt := 106) (a := 1) C (by decide) dX10_bytes_97 (by decide) (fun q => absurd q (by decide)) (fun _ => ?_)
            refine lv_lload hx hb dX10_bytes_100 (lv_at hl 4 rfl) ?_
            refine lv_l2i (v := nI (kk)) hx hb dX10_bytes_102 (lN_i _) ?_
            refine lv_goto (tgt := 120) hx hb dX10_bytes_103 (by decide) ?_
            refine lv_istore (lv' := [(10, .int (nI (kk))), (9, .int (nI (1))), (0, .ref (zad z 27)), (1, .int (nI (w))), (3, .int (nI (1))), (4, .long (lN (kk))), (6, .int (nI (wt w 2))), (7, .int (nI (256 - wt w 2))), (8, .int (nI (i)))]) hx hb dX10_bytes_120 hl (by decide) rfl (fun ls hl => ?_)
            refine lv_iload_n hx hb dX10_bytes_122 rfl (lv_at hl 4 rfl) ?_
            refine zN_eq (tgt := 155) (a := 1) C (by decide) dX10_bytes_123 (by decide) (fun q => absurd q (by decide)) (fun _ => ?_)
            refine lv_aload_n hx hb dX10_bytes_126 rfl (lv_at hl 2 rfl) ?_
            refine rg_X10_141 C h dX10_bytes_127 ?_
            refine tI (y := nI (wr)) hwr ?_
            refine lv_iload hx hb dX10_bytes_130 (lv_at hl 8 rfl) ?_
            refine lv_iadd hx hb dX10_bytes_132 ?_
            refine tI (nI_add _ _) ?_
            refine lv_sipush (v := nI (8000)) hx hb dX10_bytes_133 (by decide) ?_
            refine jN_gt (tgt := 155) (a := (wr) + (i)) (b := 8000) C (by omega) (by omega) dX10_bytes_136 (by decide) (fun c_136 => ?_) (fun c_136 => ?_)
            · skip
              rw [wrO_no (x := kk) (by omega)] at h
              have h : hH z v sc (va_up ar 41 (wrO (ar 41) wr (done ++ [kk]))) s H locs := h
              refine lv_iload hx hb dX10_bytes_155 (lv_at hl 1 rfl) ?_
              refine zN_eq (tgt := 163) (a := 1) C (by decide) dX10_bytes_157 (by decide) (fun q => absurd q (by decide)) (fun _ => ?_)
              refine lv_iload hx hb dX10_bytes_160 (lv_at hl 8 rfl) ?_
              exact rI C hr hlk h dX10_bytes_162 (Nat.le_of_ble_eq_true rfl) (Nat.le_of_ble_eq_true rfl) (by have eo : ((some k).bind (enc (wt w 1) (wt w 2))) = some (done ++ [kk]) := (by show enc (wt w 1) (wt w 2) k = _; rw [h3, enc_fin (by omega) (by omega) (by omega)]; rfl); exact ⟨(by rw [eo]; show nI i = nI (done ++ [kk]).length; rw [List.length_append]; congr 1; simp; omega), done ++ [kk], rfl, (by simp; omega), fun bs e => (by rw [eo] at e; cases e; rfl)⟩)
            · skip
              refine lv_aload_n hx hb dX10_bytes_139 rfl (lv_at hl 2 rfl) ?_
              refine rg_X10_63 C h dX10_bytes_140 ?_
              refine lv_aload_n hx hb dX10_bytes_143 rfl (lv_at hl 2 rfl) ?_
              refine rg_X10_141 C h dX10_bytes_144 ?_
              refine tI (y := nI (wr)) hwr ?_
              refine lv_iload hx hb dX10_bytes_147 (lv_at hl 8 rfl) ?_
              refine lv_iadd hx hb dX10_bytes_149 ?_
              refine tI (nI_add _ _) ?_
              refine lv_iconst (v := nI (1)) hx hb dX10_bytes_150 (by decide) ?_
              refine lv_isub hx hb dX10_bytes_151 ?_
              refine tI (pk_sub (by omega)) ?_
              refine lv_iload hx hb dX10_bytes_152 (lv_at hl 0 rfl) ?_
              refine stA 41 rfl (j := ((wr) + (i)) - (1)) (x := nI (kk)) (show ((wr) + (i)) - (1) < 8000 by omega) (by decide) C h dX10_bytes_154 (fun H locs h => ?_)
              rw [va_uu, va_up_self, wrO_st (by omega) (by omega)] at h
              have h : hH z v sc (va_up ar 41 (wrO (ar 41) wr (done ++ [kk]))) s H locs := h
              refine lv_iload hx hb dX10_bytes_155 (lv_at hl 1 rfl) ?_
              refine zN_eq (tgt := 163) (a := 1) C (by decide) dX10_bytes_157 (by decide) (fun q => absurd q (by decide)) (fun _ => ?_)
              refine lv_iload hx hb dX10_bytes_160 (lv_at hl 8 rfl) ?_
              exact rI C hr hlk h dX10_bytes_162 (Nat.le_of_ble_eq_true rfl) (Nat.le_of_ble_eq_true rfl) (by have eo : ((some k).bind (enc (wt w 1) (wt w 2))) = some (done ++ [kk]) := (by show enc (wt w 1) (wt w 2) k = _; rw [h3, enc_fin (by omega) (by omega) (by omega)]; rfl); exact ⟨(by rw [eo]; show nI i = nI (done ++ [kk]).length; rw [List.length_append]; congr 1; simp; omega), done ++ [kk], rfl, (by simp; omega), fun bs e => (by rw [eo] at e; cases e; rfl)⟩)
          · skip
            have c_90 : (255) < (kk) := Nat.not_le.mp (fun q => c_90 ((lg_cmp_le _ _).mpr ((pk_lLE (by omega) (by omega)).mpr q)))
            omega
        · skip
          have c_58 : (256 - wt w 2) ≤ (kk) := Nat.not_lt.mp (fun q => c_58 ((lg_cmp_lt _ _).mpr ((pk_lLT (by omega) (by omega)).mpr q)))
          refine lv_iload hx hb dX10_bytes_61 (lv_at hl 6 rfl) ?_
          refine lv_aload_n hx hb dX10_bytes_63 rfl (lv_at hl 0 rfl) ?_
          refine rg_X10_13 C h dX10_bytes_64 ?_
          refine lv_iload_n hx hb dX10_bytes_67 rfl (lv_at hl 1 rfl) ?_
          refine ldA 29 rfl (j := w) (show w < 40 by omega) (by decide) C h dX10_bytes_68 ?_
          refine tI (y := nI (wt w 1)) (hRW w hw).2.1 ?_
          refine jN_ne (tgt := 76) (a := i) (b := wt w 1) C (by omega) (by omega) dX10_bytes_69 (by decide) (fun c_69 => ?_) (fun c_69 => ?_)
          · skip
            refine lv_iconst (v := nI (0)) hx hb dX10_bytes_76 (by decide) ?_
            refine lv_istore (lv' := [(9, .int (nI (0))), (0, .ref (zad z 27)), (1, .int (nI (w))), (3, .int (nI (1))), (4, .long (lN (kk))), (6, .int (nI (wt w 2))), (7, .int (nI (256 - wt w 2))), (8, .int (nI (i)))]) hx hb dX10_bytes_77 hl (by decide) rfl (fun ls hl => ?_)
            refine lv_iload hx hb dX10_bytes_79 (lv_at hl 0 rfl) ?_
            refine zN_eq (tgt := 95) (a := 0) C (by decide) dX10_bytes_81 (by decide) (fun _ => ?_) (fun q => absurd q (by decide))
            refine lv_iload hx hb dX10_bytes_95 (lv_at hl 0 rfl) ?_
            refine zN_eq (tgt := 106) (a := 0) C (by decide) dX10_bytes_97 (by decide) (fun _ => ?_) (fun q => absurd q (by decide))
            refine lv_iload hx hb dX10_bytes_106 (lv_at hl 6 rfl) ?_
            refine lv_lload hx hb dX10_bytes_108 (lv_at hl 4 rfl) ?_
            refine lv_iload hx hb dX10_bytes_110 (lv_at hl 6 rfl) ?_
            refine lv_i2l (v := lN (256 - wt w 2)) hx hb dX10_bytes_112 (nI_l (by omega)) ?_
            refine lv_lsub hx hb dX10_bytes_113 ?_
            refine tL (lN_sub (by omega)) ?_
            refine lv_iload hx hb dX10_bytes_114 (lv_at hl 5 rfl) ?_
            refine lv_i2l (v := lN (wt w 2)) hx hb dX10_bytes_116 (nI_l (by omega)) ?_
            refine lv_lrem hx hb dX10_bytes_117 (lN_ne0 (by omega) (by omega)) ?_
            refine tL (pk_lRem (by omega) (by omega) (by omega)) ?_
            refine lv_l2i (v := nI (((kk) - (256 - wt w 2)) % (wt w 2))) hx hb dX10_bytes_118 (lN_i _) ?_
            refine lv_iadd hx hb dX10_bytes_119 ?_
            refine tI (nI_add _ _) ?_
            refine lv_istore (lv' := [(10, .int (nI ((256 - wt w 2) + (((kk) - (256 - wt w 2)) % (wt w 2))))), (9, .int (nI (0))), (0, .ref (zad z 27)), (1, .int (nI (w))), (3, .int (nI (1))), (4, .long (lN (kk))), (6, .int (nI (wt w 2))), (7, .int (nI (256 - wt w 2))), (8, .int (nI (i)))]) hx hb dX10_bytes_120 hl (by decide) rfl (fun ls hl => ?_)
            refine lv_iload_n hx hb dX10_bytes_122 rfl (lv_at hl 4 rfl) ?_
            refine zN_eq (tgt := 155) (a := 1) C (by decide) dX10_bytes_123 (by decide) (fun q => absurd q (by decide)) (fun _ => ?_)
            refine lv_aload_n hx hb dX10_bytes_126 rfl (lv_at hl 2 rfl) ?_
            refine rg_X10_141 C h dX10_bytes_127 ?_
            refine tI (y := nI (wr)) hwr ?_
            refine lv_iload hx hb dX10_bytes_130 (lv_at hl 8 rfl) ?_
            refine lv_iadd hx hb dX10_bytes_132 ?_
            refine tI (nI_add _ _) ?_
            refine lv_sipush (v := nI (8000)) hx hb dX10_bytes_133 (by decide) ?_
            refine jN_gt (tgt := 155) (a := (wr) + (i)) (b := 8000) C (by omega) (by omega) dX10_bytes_136 (by decide) (fun c_136 => ?_) (fun c_136 => ?_)
            · skip
              rw [wrO_no (x := (256 - wt w 2) + (((kk) - (256 - wt w 2)) % (wt w 2))) (by omega)] at h
              have h : hH z v sc (va_up ar 41 (wrO (ar 41) wr (done ++ [(256 - wt w 2) + (((kk) - (256 - wt w 2)) % (wt w 2))]))) s H locs := h
              refine lv_iload hx hb dX10_bytes_155 (lv_at hl 1 rfl) ?_
              refine zN_eq (tgt := 163) (a := 0) C (by decide) dX10_bytes_157 (by decide) (fun _ => ?_) (fun q => absurd q (by decide))
              have hmd : (kk - (256 - wt w 2)) % wt w 2 < wt w 2 := Nat.mod_lt _ (by omega)
              refine lv_lload hx hb dX10_bytes_163 (lv_at hl 5 rfl) ?_
              refine lv_iload hx hb dX10_bytes_165 (lv_at hl 0 rfl) ?_
              refine lv_i2l (v := lN ((256 - wt w 2) + (((kk) - (256 - wt w 2)) % (wt w 2)))) hx hb dX10_bytes_167 (nI_l (by omega)) ?_
              refine lv_lsub hx hb dX10_bytes_168 ?_
              refine tL (y := lN (kk - ((256 - wt w 2) + (((kk) - (256 - wt w 2)) % (wt w 2))))) (lN_sub (subB (by omega))) ?_
              refine lv_iload hx hb dX10_bytes_169 (lv_at hl 6 rfl) ?_
              refine lv_i2l (v := lN (wt w 2)) hx hb dX10_bytes_171 (nI_l (by omega)) ?_
              refine lv_ldiv hx hb dX10_bytes_172 (lN_ne0 (by omega) (by omega)) ?_
              refine tL (y := lN ((kk - (256 - wt w 2)) / wt w 2)) (by rw [pk_lDiv (by omega) (by omega) (by omega), divB (by omega) (by omega)]) ?_
              refine lv_lstore (lv' := [(4, .long (lN ((kk - (256 - wt w 2)) / wt w 2))), (10, .int (nI ((256 - wt w 2) + (((kk) - (256 - wt w 2)) % (wt w 2))))), (9, .int (nI (0))), (0, .ref (zad z 27)), (1, .int (nI (w))), (3, .int (nI (1))), (6, .int (nI (wt w 2))), (7, .int (nI (256 - wt w 2))), (8, .int (nI (i)))]) hx hb dX10_bytes_173 hl (by decide) rfl (fun ls hl => ?_)
              refine lv_iinc (v := nI (i + 1)) (lv' := [(8, .int (nI (i + 1))), (4, .long (lN ((kk - (256 - wt w 2)) / wt w 2))), (10, .int (nI ((256 - wt w 2) + (((kk) - (256 - wt w 2)) % (wt w 2))))), (9, .int (nI (0))), (0, .ref (zad z 27)), (1, .int (nI (w))), (3, .int (nI (1))), (6, .int (nI (wt w 2))), (7, .int (nI (256 - wt w 2)))]) hx hb dX10_bytes_175 hl (k := 8) rfl (nN_inc _) (by decide) rfl (fun ls hl => ?_)
              refine lv_goto (tgt := 41) hx hb dX10_bytes_178 (by decide) ?_
              exact ih_41 (i + 1) ((kk - (256 - wt w 2)) / wt w 2) (done ++ [(256 - wt w 2) + (((kk) - (256 - wt w 2)) % (wt w 2))]) (by omega) H locs ls ⟨⟨by omega, by omega⟩, Nat.lt_of_le_of_lt (Nat.div_le_self _ _) (by omega), by rw [h3, enc_step (by omega) (by omega), Option.map_map, show wt w 1 + 1 - i - 1 = wt w 1 + 1 - (i + 1) by omega]; congr 1; funext t; simp, by simp; omega, h, lv_sub hl [4, 5, 6, 1, 7, 8, 0] rfl⟩
            · skip
              refine lv_aload_n hx hb dX10_bytes_139 rfl (lv_at hl 2 rfl) ?_
              refine rg_X10_63 C h dX10_bytes_140 ?_
              refine lv_aload_n hx hb dX10_bytes_143 rfl (lv_at hl 2 rfl) ?_
              refine rg_X10_141 C h dX10_bytes_144 ?_
              refine tI (y := nI (wr)) hwr ?_
              refine lv_iload hx hb dX10_bytes_147 (lv_at hl 8 rfl) ?_
              refine lv_iadd hx hb dX10_bytes_149 ?_
              refine tI (nI_add _ _) ?_
              refine lv_iconst (v := nI (1)) hx hb dX10_bytes_150 (by decide) ?_
              refine lv_isub hx hb dX10_bytes_151 ?_
              refine tI (pk_sub (by omega)) ?_
              refine lv_iload hx hb dX10_bytes_152 (lv_at hl 0 rfl) ?_
              refine stA 41 rfl (j := ((wr) + (i)) - (1)) (x := nI ((256 - wt w 2) + (((kk) - (256 - wt w 2)) % (wt w 2)))) (show ((wr) + (i)) - (1) < 8000 by omega) (by decide) C h dX10_bytes_154 (fun H locs h => ?_)
              rw [va_uu, va_up_self, wrO_st (by omega) (by omega)] at h
              have h : hH z v sc (va_up ar 41 (wrO (ar 41) wr (done ++ [(256 - wt w 2) + (((kk) - (256 - wt w 2)) % (wt w 2))]))) s H locs := h
              refine lv_iload hx hb dX10_bytes_155 (lv_at hl 1 rfl) ?_
              refine zN_eq (tgt := 163) (a := 0) C (by decide) dX10_bytes_157 (by decide) (fun _ => ?_) (fun q => absurd q (by decide))
              have hmd : (kk - (256 - wt w 2)) % wt w 2 < wt w 2 := Nat.mod_lt _ (by omega)
              refine lv_lload hx hb dX10_bytes_163 (lv_at hl 5 rfl) ?_
              refine lv_iload hx hb dX10_bytes_165 (lv_at hl 0 rfl) ?_
              refine lv_i2l (v := lN ((256 - wt w 2) + (((kk) - (256 - wt w 2)) % (wt w 2)))) hx hb dX10_bytes_167 (nI_l (by omega)) ?_
              refine lv_lsub hx hb dX10_bytes_168 ?_
              refine tL (y := lN (kk - ((256 - wt w 2) + (((kk) - (256 - wt w 2)) % (wt w 2))))) (lN_sub (subB (by omega))) ?_
              refine lv_iload hx hb dX10_bytes_169 (lv_at hl 6 rfl) ?_
              refine lv_i2l (v := lN (wt w 2)) hx hb dX10_bytes_171 (nI_l (by omega)) ?_
              refine lv_ldiv hx hb dX10_bytes_172 (lN_ne0 (by omega) (by omega)) ?_
              refine tL (y := lN ((kk - (256 - wt w 2)) / wt w 2)) (by rw [pk_lDiv (by omega) (by omega) (by omega), divB (by omega) (by omega)]) ?_
              refine lv_lstore (lv' := [(4, .long (lN ((kk - (256 - wt w 2)) / wt w 2))), (10, .int (nI ((256 - wt w 2) + (((kk) - (256 - wt w 2)) % (wt w 2))))), (9, .int (nI (0))), (0, .ref (zad z 27)), (1, .int (nI (w))), (3, .int (nI (1))), (6, .int (nI (wt w 2))), (7, .int (nI (256 - wt w 2))), (8, .int (nI (i)))]) hx hb dX10_bytes_173 hl (by decide) rfl (fun ls hl => ?_)
              refine lv_iinc (v := nI (i + 1)) (lv' := [(8, .int (nI (i + 1))), (4, .long (lN ((kk - (256 - wt w 2)) / wt w 2))), (10, .int (nI ((256 - wt w 2) + (((kk) - (256 - wt w 2)) % (wt w 2))))), (9, .int (nI (0))), (0, .ref (zad z 27)), (1, .int (nI (w))), (3, .int (nI (1))), (6, .int (nI (wt w 2))), (7, .int (nI (256 - wt w 2)))]) hx hb dX10_bytes_175 hl (k := 8) rfl (nN_inc _) (by decide) rfl (fun ls hl => ?_)
              refine lv_goto (tgt := 41) hx hb dX10_bytes_178 (by decide) ?_
              exact ih_41 (i + 1) ((kk - (256 - wt w 2)) / wt w 2) (done ++ [(256 - wt w 2) + (((kk) - (256 - wt w 2)) % (wt w 2))]) (by omega) H locs ls ⟨⟨by omega, by omega⟩, Nat.lt_of_le_of_lt (Nat.div_le_self _ _) (by omega), by rw [h3, enc_step (by omega) (by omega), Option.map_map, show wt w 1 + 1 - i - 1 = wt w 1 + 1 - (i + 1) by omega]; congr 1; funext t; simp, by simp; omega, h, lv_sub hl [4, 5, 6, 1, 7, 8, 0] rfl⟩
          · skip
            refine lv_iconst (v := nI (1)) hx hb dX10_bytes_72 (by decide) ?_
            refine lv_goto (tgt := 77) hx hb dX10_bytes_73 (by decide) ?_
            refine lv_istore (lv' := [(9, .int (nI (1))), (0, .ref (zad z 27)), (1, .int (nI (w))), (3, .int (nI (1))), (4, .long (lN (kk))), (6, .int (nI (wt w 2))), (7, .int (nI (256 - wt w 2))), (8, .int (nI (i)))]) hx hb dX10_bytes_77 hl (by decide) rfl (fun ls hl => ?_)
            refine lv_iload hx hb dX10_bytes_79 (lv_at hl 0 rfl) ?_
            refine zN_eq (tgt := 95) (a := 1) C (by decide) dX10_bytes_81 (by decide) (fun q => absurd q (by decide)) (fun _ => ?_)
            refine lv_lload hx hb dX10_bytes_84 (lv_at hl 4 rfl) ?_
            refine lv_ldc2 (v := 255) hx hb C.1.2.2.2.1 (C.1.2.2.2.2 _ uk_X10_139) dX10_bytes_86 ?_
            refine tL (y := lN 255) (by decide) ?_
            refine W.lcmp hx hb dX10_bytes_89 ?_
            refine lv_if_le (tgt := 95) hx hb dX10_bytes_90 (by decide) (fun c_90 => ?_) (fun c_90 => ?_)
            · skip
              have c_90 : (kk) ≤ (255) := (pk_lLE (by omega) (by omega)).mp ((lg_cmp_le _ _).mp c_90)
              refine lv_iload hx hb dX10_bytes_95 (lv_at hl 0 rfl) ?_
              refine zN_eq (tgt := 106) (a := 1) C (by decide) dX10_bytes_97 (by decide) (fun q => absurd q (by decide)) (fun _ => ?_)
              refine lv_lload hx hb dX10_bytes_100 (lv_at hl 4 rfl) ?_
              refine lv_l2i (v := nI (kk)) hx hb dX10_bytes_102 (lN_i _) ?_
              refine lv_goto (tgt := 120) hx hb dX10_bytes_103 (by decide) ?_
              refine lv_istore (lv' := [(10, .int (nI (kk))), (9, .int (nI (1))), (0, .ref (zad z 27)), (1, .int (nI (w))), (3, .int (nI (1))), (4, .long (lN (kk))), (6, .int (nI (wt w 2))), (7, .int (nI (256 - wt w 2))), (8, .int (nI (i)))]) hx hb dX10_bytes_120 hl (by decide) rfl (fun ls hl => ?_)
              refine lv_iload_n hx hb dX10_bytes_122 rfl (lv_at hl 4 rfl) ?_
              refine zN_eq (tgt := 155) (a := 1) C (by decide) dX10_bytes_123 (by decide) (fun q => absurd q (by decide)) (fun _ => ?_)
              refine lv_aload_n hx hb dX10_bytes_126 rfl (lv_at hl 2 rfl) ?_
              refine rg_X10_141 C h dX10_bytes_127 ?_
              refine tI (y := nI (wr)) hwr ?_
              refine lv_iload hx hb dX10_bytes_130 (lv_at hl 8 rfl) ?_
              refine lv_iadd hx hb dX10_bytes_132 ?_
              refine tI (nI_add _ _) ?_
              refine lv_sipush (v := nI (8000)) hx hb dX10_bytes_133 (by decide) ?_
              refine jN_gt (tgt := 155) (a := (wr) + (i)) (b := 8000) C (by omega) (by omega) dX10_bytes_136 (by decide) (fun c_136 => ?_) (fun c_136 => ?_)
              · skip
                rw [wrO_no (x := kk) (by omega)] at h
                have h : hH z v sc (va_up ar 41 (wrO (ar 41) wr (done ++ [kk]))) s H locs := h
                refine lv_iload hx hb dX10_bytes_155 (lv_at hl 1 rfl) ?_
                refine zN_eq (tgt := 163) (a := 1) C (by decide) dX10_bytes_157 (by decide) (fun q => absurd q (by decide)) (fun _ => ?_)
                refine lv_iload hx hb dX10_bytes_160 (lv_at hl 8 rfl) ?_
                exact rI C hr hlk h dX10_bytes_162 (Nat.le_of_ble_eq_true rfl) (Nat.le_of_ble_eq_true rfl) (by have eo : ((some k).bind (enc (wt w 1) (wt w 2))) = some (done ++ [kk]) := (by show enc (wt w 1) (wt w 2) k = _; rw [h3, enc_fin (by omega) (by omega) (by omega)]; rfl); exact ⟨(by rw [eo]; show nI i = nI (done ++ [kk]).length; rw [List.length_append]; congr 1; simp; omega), done ++ [kk], rfl, (by simp; omega), fun bs e => (by rw [eo] at e; cases e; rfl)⟩)
              · skip
                refine lv_aload_n hx hb dX10_bytes_139 rfl (lv_at hl 2 rfl) ?_
                refine rg_X10_63 C h dX10_bytes_140 ?_
                refine lv_aload_n hx hb dX10_bytes_143 rfl (lv_at hl 2 rfl) ?_
                refine rg_X10_141 C h dX10_bytes_144 ?_
                refine tI (y := nI (wr)) hwr ?_
                refine lv_iload hx hb dX10_bytes_147 (lv_at hl 8 rfl) ?_
                refine lv_iadd hx hb dX10_bytes_149 ?_
                refine tI (nI_add _ _) ?_
                refine lv_iconst (v := nI (1)) hx hb dX10_bytes_150 (by decide) ?_
                refine lv_isub hx hb dX10_bytes_151 ?_
                refine tI (pk_sub (by omega)) ?_
                refine lv_iload hx hb dX10_bytes_152 (lv_at hl 0 rfl) ?_
                refine stA 41 rfl (j := ((wr) + (i)) - (1)) (x := nI (kk)) (show ((wr) + (i)) - (1) < 8000 by omega) (by decide) C h dX10_bytes_154 (fun H locs h => ?_)
                rw [va_uu, va_up_self, wrO_st (by omega) (by omega)] at h
                have h : hH z v sc (va_up ar 41 (wrO (ar 41) wr (done ++ [kk]))) s H locs := h
                refine lv_iload hx hb dX10_bytes_155 (lv_at hl 1 rfl) ?_
                refine zN_eq (tgt := 163) (a := 1) C (by decide) dX10_bytes_157 (by decide) (fun q => absurd q (by decide)) (fun _ => ?_)
                refine lv_iload hx hb dX10_bytes_160 (lv_at hl 8 rfl) ?_
                exact rI C hr hlk h dX10_bytes_162 (Nat.le_of_ble_eq_true rfl) (Nat.le_of_ble_eq_true rfl) (by have eo : ((some k).bind (enc (wt w 1) (wt w 2))) = some (done ++ [kk]) := (by show enc (wt w 1) (wt w 2) k = _; rw [h3, enc_fin (by omega) (by omega) (by omega)]; rfl); exact ⟨(by rw [eo]; show nI i = nI (done ++ [kk]).length; rw [List.length_append]; congr 1; simp; omega), done ++ [kk], rfl, (by simp; omega), fun bs e => (by rw [eo] at e; cases e; rfl)⟩)
            · skip
              have c_90 : (255) < (kk) := Nat.not_le.mp (fun q => c_90 ((lg_cmp_le _ _).mpr ((pk_lLE (by omega) (by omega)).mpr q)))
              refine lv_iconst (v := nI (0)) hx hb dX10_bytes_93 (by decide) ?_
              exact rI C hr hlk h dX10_bytes_94 (Nat.le_of_ble_eq_true rfl) (Nat.le_of_ble_eq_true rfl) (by have eo : ((some k).bind (enc (wt w 1) (wt w 2))) = none := (by show enc (wt w 1) (wt w 2) k = none; rw [h3, show wt w 1 + 1 - i = 1 by omega, enc_one, if_neg (by omega)]; rfl); exact ⟨(by rw [eo]; rfl), done, rfl, (by omega), fun bs e => (by rw [eo] at e; cases e)⟩)
    · skip
      have c_17 : (k) < (0) := Nat.not_le.mp (fun q => c_17 ((lg_cmp_ge _ _).mpr ((pk_lLE (by omega) (by omega)).mpr q)))
      exact absurd c_17 (Nat.not_lt_zero _)
