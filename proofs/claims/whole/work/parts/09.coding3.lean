theorem rdL_none {cb ch cs cd n k p : Nat} {t : Nat → Nat} {b : Int32} (hk : 0 < k) (h : rdc cb ch t n p = none) : rdL cb ch cs cd t n k b p = .inr (1, p) := by
  obtain ⟨j, rfl⟩ : ∃ j, k = j + 1 := ⟨k - 1, by omega⟩
  unfold rdL
  rw [h]
theorem rdL_bad {cb ch cs cd n k p c q : Nat} {t : Nat → Nat} {b : Int32} (hk : 0 < k) (h : rdc cb ch t n p = some (c, q)) (h2 : nbO cs c = none) : rdL cb ch cs cd t n k b p = .inr (2, p) := by
  obtain ⟨j, rfl⟩ : ∃ j, k = j + 1 := ⟨k - 1, by omega⟩
  unfold rdL
  rw [h]
  simp only
  rw [h2]
theorem rdL_ok {cb ch cs cd n k p c q : Nat} {t : Nat → Nat} {b : Int32} {i : Int} (hk : 0 < k) (h : rdc cb ch t n p = some (c, q)) (h2 : nbO cs c = some i) : rdL cb ch cs cd t n k b p = rdPre [if cd = 1 then b + Int32.ofInt i else Int32.ofInt i] (rdL cb ch cs cd t n (k - 1) (if cd = 1 then b + Int32.ofInt i else Int32.ofInt i) q) := by
  obtain ⟨j, rfl⟩ : ∃ j, k = j + 1 := ⟨k - 1, by omega⟩
  conv => lhs; unfold rdL
  rw [h]
  simp only
  rw [h2]
  simp only [Nat.add_sub_cancel]
  cases rdL cb ch cs cd t n j (if cd = 1 then b + Int32.ofInt i else Int32.ofInt i) q <;> rfl
theorem rdPre_app (xs ys : List Int32) (o : (List Int32 × Nat) ⊕ (Nat × Nat)) : rdPre xs (rdPre ys o) = rdPre (xs ++ ys) o := by
  rcases o with ⟨zs, e⟩ | f
  · simp [rdPre]
  · rfl
/-- what a coding's read leaves -/
def rdQ (v : bV) (sc : Nat → Int32) (ar : Nat → Nat → Int32) (k fr : Nat) (o : (List Int32 × Nat) ⊕ (Nat × Nat)) (r : Int32) (u : bS) : Prop := match o with
  | .inl (xs, e) => r = 1 ∧ u = (v, va_up sc 6 (nI e), va_up ar k (wrR (ar k) fr xs))
  | .inr (f, q) => r = 0 ∧ ∃ (x : Int32) (g : Nat → Int32), u = (v, va_up (va_up (va_up sc 6 x) 7 (nI f)) 8 (nI q), va_up ar k g)
theorem rr_put {z : bZ} {v : bV} {sc : Nat → Int32} {ar : Nat → Nat → Int32} {s : State} {H : Heap} {locs : List Loc} {k fr i : Nat} {xs : List Int32} {x : Int32} (hi : i = fr + xs.length) (h : hH z v sc (va_up (va_up ar k (wrR (ar k) fr xs)) k (upd (va_up ar k (wrR (ar k) fr xs) k) i x)) s H locs) : hH z v sc (va_up ar k (wrR (ar k) fr (xs ++ [x]))) s H locs := by
  rw [va_uu, va_up_self, hi, wrR_snoc] at h
  exact h
theorem p256 {c k : Nat} (hk : k ≤ 5) (h : c < 256 ^ k) : c < 2 ^ 60 := Nat.lt_of_lt_of_le h (Nat.le_trans (Nat.pow_le_pow_right (by decide) hk) (by decide))
theorem gv_X1_46 : GoodIn uW (wsV RX1 46 RX1 yX1_readCode (Cond.code yX1_readCode cX1_readCode 8 (some .long) :: uW)) := gI_V (uW_of (by decide +kernel) rfl) (uW_of (by decide +kernel) rfl) (uW_of (by decide +kernel) rfl) (uW_of (by decide +kernel) rfl) (uW_of (by decide +kernel) rfl)
theorem gv_X1_46_n : okN yX1_readCode 1 := by decide +kernel
theorem gv_X1_52 : GoodIn uW (wsV RX1 52 RX7 yX7_fail (Cond.code yX7_fail cX7_fail 3 (some .boolean) :: uW)) := gI_V (uW_of (by decide +kernel) rfl) (uW_of (by decide +kernel) rfl) (uW_of (by decide +kernel) rfl) (uW_of (by decide +kernel) rfl) (uW_of (by decide +kernel) rfl)
theorem gv_X1_52_n : okN yX7_fail 2 := by decide +kernel
theorem gv_X1_56 : GoodIn uW (wsV RX1 56 RX1 yX1_numberOf (Cond.code yX1_numberOf cX1_numberOf 6 (some .long) :: uW)) := gI_V (uW_of (by decide +kernel) rfl) (uW_of (by decide +kernel) rfl) (uW_of (by decide +kernel) rfl) (uW_of (by decide +kernel) rfl) (uW_of (by decide +kernel) rfl)
theorem gv_X1_56_n : okN yX1_numberOf 1 := by decide +kernel
set_option maxHeartbeats 4000000 in
set_option maxRecDepth 100000 in
/-- Coding.read -/
theorem k_cRead (l : Launch) (z : bZ) (v : bV) (sc : Nat → Int32) (ar : Nat → Nat → Int32) (a cb ch cs cd n cu k fr cnt : Nat) (hw : cdW v a cb ch cs cd) (hn : sc 3 = nI n) (hn8 : n ≤ 8000) (hc : sc 6 = nI cu) (hcu : cu ≤ n) (hk : isA k = true) (hk11 : k ≠ 11) (hkL : aL k < 2 ^ 31) (hfc : fr + cnt ≤ aL k) : Met l yX1_read (Cond.code yX1_read cX1_read 13 (some .boolean) :: uW) { frames := 3, cells := 0, slots := 0, locals := 69 } (pC z v sc ar [.ref (a), .ref (zad z 1), .ref (zad z k), .int (nI (fr)), .int (nI (cnt))]) (qI z (fun r u => rdQ v sc ar k fr (rdL cb ch cs cd (bN (ar 11)) n cnt 0 cu) r u)) 0 0 (zA z) := by
  refine eM (by decide) (Nat.le_of_ble_eq_true rfl) ?_
  intro pP eE s mM below meth cC ls C hr hlk h hl
  have hx := C.1.1
  have hb := C.1.2.1
  have hl : lv_has ls 13 [(0, .ref (a)), (1, .ref (zad z 1)), (2, .ref (zad z k)), (3, .int (nI (fr))), (4, .int (nI (cnt)))] := hl
  obtain ⟨-, -, ⟨hB1, hB5⟩, ⟨hH1, hH2⟩, hS, hD⟩ := id hw
  refine lv_aload_n hx hb dX1_read_0 rfl (lv_at hl 1 rfl) ?_
  refine rg_X1_31 C h dX1_read_1 ?_
  refine lv_astore (lv' := [(5, .ref (zad z 2)), (0, .ref (a)), (1, .ref (zad z 1)), (2, .ref (zad z k)), (3, .int (nI (fr))), (4, .int (nI (cnt)))]) hx hb dX1_read_4 hl (by decide) rfl (fun ls hl => ?_)
  refine lv_iconst (v := nI (0)) hx hb dX1_read_6 (by decide) ?_
  refine lv_istore (lv' := [(6, .int (nI (0))), (5, .ref (zad z 2)), (0, .ref (a)), (1, .ref (zad z 1)), (2, .ref (zad z k)), (3, .int (nI (fr))), (4, .int (nI (cnt)))]) hx hb dX1_read_7 hl (by decide) rfl (fun ls hl => ?_)
  refine lv_iload_n hx hb dX1_read_9 rfl (lv_at hl 5 rfl) ?_
  refine lv_istore (lv' := [(7, .int (nI (fr))), (6, .int (nI (0))), (5, .ref (zad z 2)), (0, .ref (a)), (1, .ref (zad z 1)), (2, .ref (zad z k)), (3, .int (nI (fr))), (4, .int (nI (cnt)))]) hx hb dX1_read_10 hl (by decide) rfl (fun ls hl => ?_)
  refine lpW4 (fun (i : Nat) (bef : Int32) (p : Nat) (xs : List Int32) (H : Heap) (locs : List Loc) (ls : Array Slot) => (fr ≤ i ∧ i ≤ fr + cnt) ∧ (p ≤ n) ∧ (i = fr + xs.length) ∧ (rdL cb ch cs cd (bN (ar 11)) n cnt 0 cu = rdPre xs (rdL cb ch cs cd (bN (ar 11)) n (fr + cnt - i) bef p)) ∧ hH z v (va_up sc 6 (nI (p))) (va_up ar k (wrR (ar k) fr (xs))) s H locs ∧ lv_has ls 13 [(0, .ref (a)), (2, .ref (zad z k)), (3, .int (nI (fr))), (4, .int (nI (cnt))), (5, .ref (zad z 2)), (6, .int (bef)), (7, .int (nI (i)))]) (fun (i : Nat) (bef : Int32) (p : Nat) (xs : List Int32) => fr + cnt - i) (fun i bef p xs ih_12 H locs ls hI => ?_) (fr) (nI 0) (cu) ([]) ⟨⟨Nat.le_refl _, by omega⟩, hcu, rfl, by rw [show fr + cnt - fr = cnt by omega]; show _ = rdPre [] (rdL cb ch cs cd (bN (ar 11)) n cnt 0 cu); cases rdL cb ch cs cd (bN (ar 11)) n cnt 0 cu <;> rfl, (by rw [va_ue hc, wrR_nil, va_us]; exact h), lv_sub hl [3, 5, 6, 7, 2, 1, 0] rfl⟩
  obtain ⟨h1, h2, h5, h3, h, hl⟩ := hI
  have e11 : (va_up ar k (wrR (ar k) fr xs)) 11 = ar 11 := va_up_ne _ _ (Ne.symm hk11)
  refine lv_iload hx hb dX1_read_12 (lv_at hl 6 rfl) ?_
  refine lv_iload_n hx hb dX1_read_14 rfl (lv_at hl 2 rfl) ?_
  refine lv_iload hx hb dX1_read_15 (lv_at hl 3 rfl) ?_
  refine lv_iadd hx hb dX1_read_17 ?_
  refine tI (nI_add _ _) ?_
  refine jN_ge (tgt := 116) (a := i) (b := (fr) + (cnt)) C (by omega) (by omega) dX1_read_18 (by decide) (fun c_18 => ?_) (fun c_18 => ?_)
  · skip
    refine lv_iconst (v := nI (1)) hx hb dX1_read_116 (by decide) ?_
    exact rZ C hr hlk h dX1_read_117 rfl (Nat.le_of_ble_eq_true rfl) (Nat.le_of_ble_eq_true rfl) (have e : rdL cb ch cs cd (bN (ar 11)) n cnt 0 cu = .inl (xs, p) := by rw [h3, show fr + cnt - i = 0 by omega]; simp [rdL, rdPre]
      by rw [e]; exact ⟨rfl, rfl⟩)
  · skip
    refine lv_aload hx hb dX1_read_21 (lv_at hl 4 rfl) ?_
    refine rg_X1_41 C h dX1_read_23 ?_
    refine tI (y := nI (p)) rfl ?_
    refine lv_istore (lv' := [(8, .int (nI (p))), (0, .ref (a)), (2, .ref (zad z k)), (3, .int (nI (fr))), (4, .int (nI (cnt))), (5, .ref (zad z 2)), (6, .int (bef)), (7, .int (nI (i)))]) hx hb dX1_read_26 hl (by decide) rfl (fun ls hl => ?_)
    refine lv_aload_n hx hb dX1_read_28 rfl (lv_at hl 1 rfl) ?_
    refine lv_aload hx hb dX1_read_29 (lv_at hl 5 rfl) ?_
    refine backL h (runV (As := [.ref (zad z 2)]) (rest := []) C h (k_readCode l z v (va_up sc 6 (nI (p))) (va_up ar k (wrR (ar k) fr (xs))) a cb ch cs cd n p hw hn hn8 rfl h2) gv_X1_46 gv_X1_46_n ⟨rfl, rfl⟩ (r_Cod C h hw) rfl hl.1 rfl (Nat.le_of_ble_eq_true rfl) dX1_read_31 ⟨Nat.le_of_ble_eq_true rfl, Nat.le_of_ble_eq_true rfl⟩ ⟨Nat.le_of_ble_eq_true rfl, Nat.le_of_ble_eq_true rfl⟩) (fun r_31 v_31 sc_31 ar_31 H locs p_31 h => ?_)
    rw [e11] at p_31
    rcases hrd : rdc cb ch (bN (ar 11)) n p with _ | ⟨c0, q0⟩
    · skip
      obtain ⟨e1, x6, e2⟩ := p_31.2 hrd
      rw [va_uu] at e2
      have h : hH z v (va_up sc 6 (x6)) (va_up ar k (wrR (ar k) fr (xs))) s H locs := uEq e2 h
      refine tL (y := (-1 : Int64)) e1 ?_
      refine lv_lstore (lv' := [(9, .long ((-1 : Int64))), (8, .int (nI (p))), (0, .ref (a)), (2, .ref (zad z k)), (3, .int (nI (fr))), (4, .int (nI (cnt))), (5, .ref (zad z 2)), (6, .int (bef)), (7, .int (nI (i)))]) hx hb dX1_read_34 hl (by decide) rfl (fun ls hl => ?_)
      refine lv_lload hx hb dX1_read_36 (lv_at hl 0 rfl) ?_
      refine lv_ldc2 (v := -1) hx hb C.1.2.2.2.1 (C.1.2.2.2.2 _ uk_X1_50) dX1_read_38 ?_
      refine W.lcmp hx hb dX1_read_41 ?_
      refine lv_if_ne (tgt := 54) hx hb dX1_read_42 (by decide) (fun c_42 => ?_) (fun c_42 => ?_)
      · skip
        have c_42 : ¬ ((-1 : Int64)) = ((-1 : Int64)) := fun q => c_42 ((lg_cmp_eq _ _).mpr q)
        exact absurd rfl c_42
      · skip
        have c_42 := (lg_cmp_eq _ _).mp c_42
        refine lv_aload hx hb dX1_read_45 (lv_at hl 6 rfl) ?_
        refine lv_iconst (v := nI (1)) hx hb dX1_read_47 (by decide) ?_
        refine lv_iload hx hb dX1_read_48 (lv_at hl 1 rfl) ?_
        refine backI h (runV (As := [.int (nI (1)), .int (nI (p))]) (rest := []) C h (k_fail l z v (va_up sc 6 (x6)) (va_up ar k (wrR (ar k) fr (xs))) (nI 1) (nI p)) gv_X1_52 gv_X1_52_n ⟨rfl, rfl⟩ (r_Tape C h) rfl hl.1 rfl (Nat.le_of_ble_eq_true rfl) dX1_read_50 ⟨Nat.le_of_ble_eq_true rfl, Nat.le_of_ble_eq_true rfl⟩ ⟨Nat.le_of_ble_eq_true rfl, Nat.le_of_ble_eq_true rfl⟩) (fun r_50 v_50 sc_50 ar_50 H locs p_50 h => ?_)
        have h : hH z v (va_up (va_up (va_up sc 6 (x6)) 7 (nI (1))) 8 (nI (p))) (va_up ar k (wrR (ar k) fr (xs))) s H locs := uEq p_50.2 h
        refine tI (y := nI (0)) p_50.1 ?_
        exact rZ C hr hlk h dX1_read_53 rfl (Nat.le_of_ble_eq_true rfl) (Nat.le_of_ble_eq_true rfl) (have e : rdL cb ch cs cd (bN (ar 11)) n cnt 0 cu = .inr (1, p) := by rw [h3, rdL_none (by omega) hrd]; rfl
          by rw [e]; exact ⟨rfl, _, _, rfl⟩)
    · skip
      obtain ⟨e1, e2⟩ := p_31.1 _ _ hrd
      rw [va_uu] at e2
      have h : hH z v (va_up sc 6 (nI (q0))) (va_up ar k (wrR (ar k) fr (xs))) s H locs := uEq e2 h
      obtain ⟨hb1, hb2, hb3, hb4⟩ := rdc_bd hH2 (bN_lt (ar 11)) _ _ _ hrd
      have hc0 := p256 hB5 hb1
      have hq0 : q0 ≤ n := hb3 h2
      refine tL (y := lN c0) e1 ?_
      refine lv_lstore (lv' := [(9, .long (lN (c0))), (8, .int (nI (p))), (0, .ref (a)), (2, .ref (zad z k)), (3, .int (nI (fr))), (4, .int (nI (cnt))), (5, .ref (zad z 2)), (6, .int (bef)), (7, .int (nI (i)))]) hx hb dX1_read_34 hl (by decide) rfl (fun ls hl => ?_)
      refine lv_lload hx hb dX1_read_36 (lv_at hl 0 rfl) ?_
      refine lv_ldc2 (v := -1) hx hb C.1.2.2.2.1 (C.1.2.2.2.2 _ uk_X1_50) dX1_read_38 ?_
      refine W.lcmp hx hb dX1_read_41 ?_
      refine lv_if_ne (tgt := 54) hx hb dX1_read_42 (by decide) (fun c_42 => ?_) (fun c_42 => ?_)
      · skip
        have c_42 : ¬ (lN (c0)) = ((-1 : Int64)) := fun q => c_42 ((lg_cmp_eq _ _).mpr q)
        refine lv_aload_n hx hb dX1_read_54 rfl (lv_at hl 2 rfl) ?_
        refine lv_lload hx hb dX1_read_55 (lv_at hl 0 rfl) ?_
        refine backL h (runV (As := [.long (lN (c0))]) (rest := []) C h (k_numberOf l z v (va_up sc 6 (nI (q0))) (va_up ar k (wrR (ar k) fr (xs))) a cb ch cs cd c0 hw hc0) gv_X1_56 gv_X1_56_n ⟨rfl, rfl⟩ (r_Cod C h hw) rfl hl.1 rfl (Nat.le_of_ble_eq_true rfl) dX1_read_57 ⟨Nat.le_of_ble_eq_true rfl, Nat.le_of_ble_eq_true rfl⟩ ⟨Nat.le_of_ble_eq_true rfl, Nat.le_of_ble_eq_true rfl⟩) (fun r_57 v_57 sc_57 ar_57 H locs p_57 h => ?_)
        have h : hH z v (va_up sc 6 (nI (q0))) (va_up ar k (wrR (ar k) fr (xs))) s H locs := uEq p_57.2 h
        rcases hnb : nbO cs c0 with _ | i0
        · skip
          refine tL (y := lN 4294967296) (by rw [p_57.1, hnb]; rfl) ?_
          refine lv_lstore (lv' := [(11, .long (lN (4294967296))), (9, .long (lN (c0))), (8, .int (nI (p))), (0, .ref (a)), (2, .ref (zad z k)), (3, .int (nI (fr))), (4, .int (nI (cnt))), (5, .ref (zad z 2)), (6, .int (bef)), (7, .int (nI (i)))]) hx hb dX1_read_60 hl (by decide) rfl (fun ls hl => ?_)
          refine lv_lload hx hb dX1_read_62 (lv_at hl 0 rfl) ?_
          refine lv_ldc2 (v := 4294967296) hx hb C.1.2.2.2.1 (C.1.2.2.2.2 _ uk_X1_60) dX1_read_64 ?_
          refine tL (y := lN 4294967296) (by decide) ?_
          refine W.lcmp hx hb dX1_read_67 ?_
          refine lv_if_ne (tgt := 80) hx hb dX1_read_68 (by decide) (fun c_68 => ?_) (fun c_68 => ?_)
          · skip
            have c_68 : ¬ (4294967296) = (4294967296) := fun q => c_68 ((lg_cmp_eq _ _).mpr ((pk_lEQ (by omega) (by omega)).mpr q))
            exact absurd rfl c_68
          · skip
            have c_68 : (4294967296) = (4294967296) := (pk_lEQ (by omega) (by omega)).mp ((lg_cmp_eq _ _).mp c_68)
            refine lv_aload hx hb dX1_read_71 (lv_at hl 7 rfl) ?_
            refine lv_iconst (v := nI (2)) hx hb dX1_read_73 (by decide) ?_
            refine lv_iload hx hb dX1_read_74 (lv_at hl 2 rfl) ?_
            refine backI h (runV (As := [.int (nI (2)), .int (nI (p))]) (rest := []) C h (k_fail l z v (va_up sc 6 (nI (q0))) (va_up ar k (wrR (ar k) fr (xs))) (nI 2) (nI p)) gv_X1_52 gv_X1_52_n ⟨rfl, rfl⟩ (r_Tape C h) rfl hl.1 rfl (Nat.le_of_ble_eq_true rfl) dX1_read_76 ⟨Nat.le_of_ble_eq_true rfl, Nat.le_of_ble_eq_true rfl⟩ ⟨Nat.le_of_ble_eq_true rfl, Nat.le_of_ble_eq_true rfl⟩) (fun r_76 v_76 sc_76 ar_76 H locs p_76 h => ?_)
            have h : hH z v (va_up (va_up (va_up sc 6 (nI (q0))) 7 (nI (2))) 8 (nI (p))) (va_up ar k (wrR (ar k) fr (xs))) s H locs := uEq p_76.2 h
            refine tI (y := nI (0)) p_76.1 ?_
            exact rZ C hr hlk h dX1_read_79 rfl (Nat.le_of_ble_eq_true rfl) (Nat.le_of_ble_eq_true rfl) (have e : rdL cb ch cs cd (bN (ar 11)) n cnt 0 cu = .inr (2, p) := by rw [h3, rdL_bad (by omega) hrd hnb]; rfl
              by rw [e]; exact ⟨rfl, _, _, rfl⟩)
        · skip
          refine tL (y := Int64.ofInt i0) (by rw [p_57.1, hnb]; rfl) ?_
          refine lv_lstore (lv' := [(11, .long (Int64.ofInt i0)), (9, .long (lN (c0))), (8, .int (nI (p))), (0, .ref (a)), (2, .ref (zad z k)), (3, .int (nI (fr))), (4, .int (nI (cnt))), (5, .ref (zad z 2)), (6, .int (bef)), (7, .int (nI (i)))]) hx hb dX1_read_60 hl (by decide) rfl (fun ls hl => ?_)
          refine lv_lload hx hb dX1_read_62 (lv_at hl 0 rfl) ?_
          refine lv_ldc2 (v := 4294967296) hx hb C.1.2.2.2.1 (C.1.2.2.2.2 _ uk_X1_60) dX1_read_64 ?_
          refine tL (y := lN 4294967296) (by decide) ?_
          refine W.lcmp hx hb dX1_read_67 ?_
          refine lv_if_ne (tgt := 80) hx hb dX1_read_68 (by decide) (fun c_68 => ?_) (fun c_68 => ?_)
          · skip
            have c_68 : ¬ (Int64.ofInt i0) = (lN (4294967296)) := fun q => c_68 ((lg_cmp_eq _ _).mpr q)
            refine lv_aload_n hx hb dX1_read_80 rfl (lv_at hl 4 rfl) ?_
            refine lv_iload hx hb dX1_read_81 (lv_at hl 9 rfl) ?_
            refine lv_aload_n hx hb dX1_read_83 rfl (lv_at hl 3 rfl) ?_
            refine rw_X1_21 C h hw dX1_read_84 ?_
            refine lv_iconst (v := nI (1)) hx hb dX1_read_87 (by decide) ?_
            refine jN_ne (tgt := 100) (a := cd) (b := 1) C (by omega) (by omega) dX1_read_88 (by decide) (fun c_88 => ?_) (fun c_88 => ?_)
            · skip
              refine lv_lload hx hb dX1_read_100 (lv_at hl 0 rfl) ?_
              refine lv_l2i (v := if cd = 1 then bef + Int32.ofInt i0 else Int32.ofInt i0) hx hb dX1_read_102 (by rw [if_neg c_88]; exact nL_i i0) ?_
              refine stA k hk (j := i) (x := if cd = 1 then bef + Int32.ofInt i0 else Int32.ofInt i0) (by omega) hkL C h dX1_read_103 (fun H locs h => ?_)
              have h := rr_put h5 h
              refine lv_aload_n hx hb dX1_read_104 rfl (lv_at hl 4 rfl) ?_
              refine lv_iload hx hb dX1_read_105 (lv_at hl 9 rfl) ?_
              refine ldA k hk (j := i) (by omega) hkL C h dX1_read_107 ?_
              refine tI (y := if cd = 1 then bef + Int32.ofInt i0 else Int32.ofInt i0) (by rw [va_up_self, h5, wrR_last]) ?_
              refine lv_istore (lv' := [(6, .int (if cd = 1 then bef + Int32.ofInt i0 else Int32.ofInt i0)), (11, .long (Int64.ofInt i0)), (9, .long (lN (c0))), (8, .int (nI (p))), (0, .ref (a)), (2, .ref (zad z k)), (3, .int (nI (fr))), (4, .int (nI (cnt))), (5, .ref (zad z 2)), (7, .int (nI (i)))]) hx hb dX1_read_108 hl (by decide) rfl (fun ls hl => ?_)
              refine lv_iinc (v := nI (i + 1)) (lv' := [(7, .int (nI (i + 1))), (6, .int (if cd = 1 then bef + Int32.ofInt i0 else Int32.ofInt i0)), (11, .long (Int64.ofInt i0)), (9, .long (lN (c0))), (8, .int (nI (p))), (0, .ref (a)), (2, .ref (zad z k)), (3, .int (nI (fr))), (4, .int (nI (cnt))), (5, .ref (zad z 2))]) hx hb dX1_read_110 hl (k := 9) rfl (nN_inc _) (by decide) rfl (fun ls hl => ?_)
              refine lv_goto (tgt := 12) hx hb dX1_read_113 (by decide) ?_
              exact ih_12 (i + 1) (if cd = 1 then bef + Int32.ofInt i0 else Int32.ofInt i0) (q0) (xs ++ [if cd = 1 then bef + Int32.ofInt i0 else Int32.ofInt i0]) (by omega) H locs ls ⟨⟨by omega, by omega⟩, hq0, by simp; omega, by rw [h3, rdL_ok (by omega) hrd hnb, rdPre_app, show fr + cnt - i - 1 = fr + cnt - (i + 1) by omega], h, lv_sub hl [5, 6, 7, 8, 9, 1, 0] rfl⟩
            · skip
              refine lv_iload hx hb dX1_read_91 (lv_at hl 8 rfl) ?_
              refine lv_lload hx hb dX1_read_93 (lv_at hl 0 rfl) ?_
              refine lv_l2i (v := Int32.ofInt i0) hx hb dX1_read_95 (nL_i i0) ?_
              refine lv_iadd hx hb dX1_read_96 ?_
              refine tI (y := if cd = 1 then bef + Int32.ofInt i0 else Int32.ofInt i0) (by rw [if_pos c_88]) ?_
              refine lv_goto (tgt := 103) hx hb dX1_read_97 (by decide) ?_
              refine stA k hk (j := i) (x := if cd = 1 then bef + Int32.ofInt i0 else Int32.ofInt i0) (by omega) hkL C h dX1_read_103 (fun H locs h => ?_)
              have h := rr_put h5 h
              refine lv_aload_n hx hb dX1_read_104 rfl (lv_at hl 4 rfl) ?_
              refine lv_iload hx hb dX1_read_105 (lv_at hl 9 rfl) ?_
              refine ldA k hk (j := i) (by omega) hkL C h dX1_read_107 ?_
              refine tI (y := if cd = 1 then bef + Int32.ofInt i0 else Int32.ofInt i0) (by rw [va_up_self, h5, wrR_last]) ?_
              refine lv_istore (lv' := [(6, .int (if cd = 1 then bef + Int32.ofInt i0 else Int32.ofInt i0)), (11, .long (Int64.ofInt i0)), (9, .long (lN (c0))), (8, .int (nI (p))), (0, .ref (a)), (2, .ref (zad z k)), (3, .int (nI (fr))), (4, .int (nI (cnt))), (5, .ref (zad z 2)), (7, .int (nI (i)))]) hx hb dX1_read_108 hl (by decide) rfl (fun ls hl => ?_)
              refine lv_iinc (v := nI (i + 1)) (lv' := [(7, .int (nI (i + 1))), (6, .int (if cd = 1 then bef + Int32.ofInt i0 else Int32.ofInt i0)), (11, .long (Int64.ofInt i0)), (9, .long (lN (c0))), (8, .int (nI (p))), (0, .ref (a)), (2, .ref (zad z k)), (3, .int (nI (fr))), (4, .int (nI (cnt))), (5, .ref (zad z 2))]) hx hb dX1_read_110 hl (k := 9) rfl (nN_inc _) (by decide) rfl (fun ls hl => ?_)
              refine lv_goto (tgt := 12) hx hb dX1_read_113 (by decide) ?_
              exact ih_12 (i + 1) (if cd = 1 then bef + Int32.ofInt i0 else Int32.ofInt i0) (q0) (xs ++ [if cd = 1 then bef + Int32.ofInt i0 else Int32.ofInt i0]) (by omega) H locs ls ⟨⟨by omega, by omega⟩, hq0, by simp; omega, by rw [h3, rdL_ok (by omega) hrd hnb, rdPre_app, show fr + cnt - i - 1 = fr + cnt - (i + 1) by omega], h, lv_sub hl [5, 6, 7, 8, 9, 1, 0] rfl⟩
          · skip
            have c_68 := (lg_cmp_eq _ _).mp c_68
            exact absurd c_68 (nL64_ne hS hnb)
      · skip
        have c_42 := (lg_cmp_eq _ _).mp c_42
        exact absurd c_42 (lN_neg1 (by omega))
