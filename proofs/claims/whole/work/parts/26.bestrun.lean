/-! BandMill: the best run. -/
def hdA (wt : Nat → Nat → Nat) (R : Nat → Int32) : Nat → Nat → Nat
  | 0, _ => 1073741824
  | i + 1, q => if wt i 0 = 0 then ofr (hdS (blC (wt i 1) (wt i 2) (wt i 3) (wt i 4)) R q) (hdA wt R i q) i else hdA wt R i q
def tlB (wt : Nat → Nat → Nat) (R : Nat → Int32) (N : Nat) : Nat → Nat → Nat
  | 0, _ => 1073741824
  | i + 1, q => if wt i 0 = 0 then ofr (tlS (blC (wt i 1) (wt i 2) (wt i 3) (wt i 4)) R N q) (tlB wt R N i q) i else tlB wt R N i q
theorem hdA_c {wt : Nat → Nat → Nat} {R : Nat → Int32} {i q : Nat} (h : wt i 0 = 0) : hdA wt R (i + 1) q = ofr (hdS (blC (wt i 1) (wt i 2) (wt i 3) (wt i 4)) R q) (hdA wt R i q) i := if_pos h
theorem hdA_n {wt : Nat → Nat → Nat} {R : Nat → Int32} {i q : Nat} (h : ¬ wt i 0 = 0) : hdA wt R (i + 1) q = hdA wt R i q := if_neg h
theorem tlB_c {wt : Nat → Nat → Nat} {R : Nat → Int32} {N i q : Nat} (h : wt i 0 = 0) : tlB wt R N (i + 1) q = ofr (tlS (blC (wt i 1) (wt i 2) (wt i 3) (wt i 4)) R N q) (tlB wt R N i q) i := if_pos h
theorem tlB_n {wt : Nat → Nat → Nat} {R : Nat → Int32} {N i q : Nat} (h : ¬ wt i 0 = 0) : tlB wt R N (i + 1) q = tlB wt R N i q := if_neg h
theorem ofr_le (o : Option Nat) (y w : Nat) : ofr o y w ≤ y := by
  unfold ofr
  split
  · exact Nat.le_refl _
  · exact Nat.min_le_left _ _
theorem hdA_le (wt : Nat → Nat → Nat) (R : Nat → Int32) : ∀ i q, hdA wt R i q ≤ 1073741824
  | 0, _ => Nat.le_refl _
  | i + 1, q => by
    unfold hdA
    split
    · exact Nat.le_trans (ofr_le _ _ _) (hdA_le wt R i q)
    · exact hdA_le wt R i q
theorem tlB_le (wt : Nat → Nat → Nat) (R : Nat → Int32) (N : Nat) : ∀ i q, tlB wt R N i q ≤ 1073741824
  | 0, _ => Nat.le_refl _
  | i + 1, q => by
    unfold tlB
    split
    · exact Nat.le_trans (ofr_le _ _ _) (tlB_le wt R N i q)
    · exact tlB_le wt R N i q
theorem up_c {ar : Nat → Nat → Int32} {f g t : Nat → Int32} : va_up (va_up (va_up ar 17 f) 18 t) 17 g = va_up (va_up ar 17 g) 18 t := by
  funext k
  by_cases h1 : k = 17
  · rw [h1, va_up_self, va_up_ne _ _ (by decide), va_up_self]
  · rw [va_up_ne _ _ h1]
    by_cases h2 : k = 18
    · rw [h2, va_up_self, va_up_self]
    · rw [va_up_ne _ _ h2, va_up_ne _ _ h1, va_up_ne _ _ h2, va_up_ne _ _ h1]
theorem gv_X9_129 : GoodIn uW (wsV RX9 129 RX6 yX6_startRow (Cond.code yX6_startRow cX6_startRow 3 none :: uW)) := gI_V (uW_of (by decide +kernel) rfl) (uW_of (by decide +kernel) rfl) (uW_of (by decide +kernel) rfl) (uW_of (by decide +kernel) rfl) (uW_of (by decide +kernel) rfl)
theorem gv_X9_129_n : okN yX6_startRow 1 := by decide +kernel
theorem gv_X9_139 : GoodIn uW (wsV RX9 139 RX6 yX6_choose (Cond.code yX6_choose cX6_choose 4 (some .int) :: uW)) := gI_V (uW_of (by decide +kernel) rfl) (uW_of (by decide +kernel) rfl) (uW_of (by decide +kernel) rfl) (uW_of (by decide +kernel) rfl) (uW_of (by decide +kernel) rfl)
theorem gv_X9_139_n : okN yX6_choose 0 := by decide +kernel
theorem gv_X9_132 : GoodIn uW (wsV RX9 132 RX6 yX6_weighHeads (Cond.code yX6_weighHeads cX6_weighHeads 7 none :: uW)) := gI_V (uW_of (by decide +kernel) rfl) (uW_of (by decide +kernel) rfl) (uW_of (by decide +kernel) rfl) (uW_of (by decide +kernel) rfl) (uW_of (by decide +kernel) rfl)
theorem gv_X9_132_n : okN yX6_weighHeads 3 := by decide +kernel
theorem gv_X9_136 : GoodIn uW (wsV RX9 136 RX6 yX6_weighTails (Cond.code yX6_weighTails cX6_weighTails 6 none :: uW)) := gI_V (uW_of (by decide +kernel) rfl) (uW_of (by decide +kernel) rfl) (uW_of (by decide +kernel) rfl) (uW_of (by decide +kernel) rfl) (uW_of (by decide +kernel) rfl)
theorem gv_X9_136_n : okN yX6_weighTails 3 := by decide +kernel
set_option maxHeartbeats 4000000 in
set_option maxRecDepth 100000 in
theorem k_bestRun (l : Launch) (z : bZ) (v : bV) (sc : Nat → Int32) (ar : Nat → Nat → Int32) (K N : Nat) (wt : Nat → Nat → Nat) (dp wa : Nat → Nat) (hK : sc 0 = nI K) (hK4 : K ≤ 40) (hw : ∀ j, j < K → v.1 j = some (wa j)) (hWT : WT v wt dp wa K) (hN : sc 1 = nI N) (hN4 : N ≤ 400) : Met l yX9_bestRun (Cond.code yX9_bestRun cX9_bestRun 4 (some .int) :: uW) { frames := 3, cells := 0, slots := 0, locals := 77 } (pC z v sc ar [.ref (zad z 0)]) (qI z (fun r u => r = oI ((chF (hdA wt (ar 12) K) (tlB wt (ar 12) N K) (N + 1)).map Prod.fst) ∧ ∃ hh tt, u = (v, chW (va_up (va_up (va_up (va_up sc 11 (nI N)) 12 (-1)) 13 (-1)) 14 (-1)) (hdA wt (ar 12) K) (tlB wt (ar 12) N K) (chF (hdA wt (ar 12) K) (tlB wt (ar 12) N K) (N + 1)), va_up (va_up ar 17 hh) 18 tt))) 0 0 (zA z) := by
  refine eM (by decide) (Nat.le_of_ble_eq_true rfl) ?_
  intro pP eE s mM below meth cC ls C hr hlk h hl
  have hx := C.1.1
  have hb := C.1.2.1
  have hl : lv_has ls 4 [(0, .ref (zad z 0))] := hl
  refine lv_aload_n hx hb dX9_bestRun_0 rfl (lv_at hl 0 rfl) ?_
  refine rg_X9_39 C h dX9_bestRun_1 ?_
  refine lv_aload_n hx hb dX9_bestRun_4 rfl (lv_at hl 0 rfl) ?_
  refine rg_X9_23 C h dX9_bestRun_5 ?_
  refine tI (y := nI (N)) hN ?_
  refine backV h (runV (As := [.int (nI (N))]) (rest := []) C h (k_startRow l z v sc ar N hN4) gv_X9_129 gv_X9_129_n ⟨rfl, rfl⟩ (r_Search C h) rfl hl.1 rfl (Nat.le_of_ble_eq_true rfl) dX9_bestRun_8 ⟨Nat.le_of_ble_eq_true rfl, Nat.le_of_ble_eq_true rfl⟩ ⟨Nat.le_of_ble_eq_true rfl, Nat.le_of_ble_eq_true rfl⟩) (fun v_8 sc_8 ar_8 H locs p_8 h => ?_)
  obtain ⟨hh0, tt0, eu, hht⟩ := p_8
  have h : hH z v (va_up (va_up (va_up (va_up sc 11 (nI N)) 12 (-1)) 13 (-1)) 14 (-1)) (va_up (va_up ar 17 (hh0)) 18 (tt0)) s H locs := uEq eu h
  refine lv_iconst (v := nI (0)) hx hb dX9_bestRun_11 (by decide) ?_
  refine lv_istore_n (lv' := [(1, .int (nI (0))), (0, .ref (zad z 0))]) hx hb dX9_bestRun_12 rfl hl (by decide) rfl (fun ls hl => ?_)
  refine lpW3 (fun (i : Nat) (hh : Nat → Int32) (tt : Nat → Int32) (H : Heap) (locs : List Loc) (ls : Array Slot) => (i ≤ K) ∧ (∀ q, q ≤ N → hh q = nI (hdA wt (ar 12) i q)) ∧ (∀ q, q ≤ N → tt q = nI (tlB wt (ar 12) N i q)) ∧ hH z v (va_up (va_up (va_up (va_up sc 11 (nI N)) 12 (-1)) 13 (-1)) 14 (-1)) (va_up (va_up ar 17 (hh)) 18 (tt)) s H locs ∧ lv_has ls 4 [(0, .ref (zad z 0)), (1, .int (nI (i)))]) (fun (i : Nat) (hh : Nat → Int32) (tt : Nat → Int32) => K - i) (fun i hh tt ih_13 H locs ls hI => ?_) (0) (hh0) (tt0) ⟨Nat.zero_le _, fun q hq => (hht q hq).1, fun q hq => (hht q hq).2, h, lv_sub hl [1, 0] rfl⟩
  obtain ⟨h1, h2, h3, h, hl⟩ := hI
  refine lv_iload_n hx hb dX9_bestRun_13 rfl (lv_at hl 1 rfl) ?_
  refine lv_aload_n hx hb dX9_bestRun_14 rfl (lv_at hl 0 rfl) ?_
  refine rg_X9_15 C h dX9_bestRun_15 ?_
  refine tI (y := nI (K)) hK ?_
  refine jN_ge (tgt := 72) (a := i) (b := K) C (by omega) (by omega) dX9_bestRun_18 (by decide) (fun c_18 => ?_) (fun c_18 => ?_)
  · skip
    have eK : i = K := by omega
    refine lv_aload_n hx hb dX9_bestRun_72 rfl (lv_at hl 0 rfl) ?_
    refine rg_X9_39 C h dX9_bestRun_73 ?_
    refine backI h (runV (As := []) (rest := []) C h (k_choose l z v (va_up (va_up (va_up (va_up sc 11 (nI N)) 12 (-1)) 13 (-1)) 14 (-1)) (va_up (va_up ar 17 (hh)) 18 (tt)) N (hdA wt (ar 12) K) (tlB wt (ar 12) N K) rfl hN4 (fun q hq => ⟨by rw [← eK]; exact h2 q hq, hdA_le _ _ _ _⟩) (fun q hq => ⟨by rw [← eK]; exact h3 q hq, tlB_le _ _ _ _ _⟩)) gv_X9_139 gv_X9_139_n ⟨rfl, rfl⟩ (r_Search C h) rfl hl.1 rfl (Nat.le_of_ble_eq_true rfl) dX9_bestRun_76 ⟨Nat.le_of_ble_eq_true rfl, Nat.le_of_ble_eq_true rfl⟩ ⟨Nat.le_of_ble_eq_true rfl, Nat.le_of_ble_eq_true rfl⟩) (fun r_76 v_76 sc_76 ar_76 H locs p_76 h => ?_)
    exact rI C hr hlk h dX9_bestRun_79 (Nat.le_of_ble_eq_true rfl) (Nat.le_of_ble_eq_true rfl) (⟨p_76.1, hh, tt, p_76.2⟩)
  · skip
    refine lv_aload_n hx hb dX9_bestRun_21 rfl (lv_at hl 0 rfl) ?_
    refine rg_X9_11 C h dX9_bestRun_22 ?_
    refine lv_iload_n hx hb dX9_bestRun_25 rfl (lv_at hl 1 rfl) ?_
    refine rLd (j := i) (a := wa i) C h (by omega) (hw i (by omega)) dX9_bestRun_26 ?_
    refine lv_astore_n (lv' := [(3, .ref (wa i)), (0, .ref (zad z 0)), (1, .int (nI (i)))]) hx hb dX9_bestRun_27 rfl hl (by decide) rfl (fun ls hl => ?_)
    refine lv_aload_n hx hb dX9_bestRun_28 rfl (lv_at hl 0 rfl) ?_
    have hi : i < K := by omega
    rcases (hWT i hi).2.2 with w | w | w
    · skip
      obtain ⟨hcd, -⟩ := WT_cod hWT hi w.1
      have w0 : wt i 0 = 0 := w.1
      refine va_instS hx hb C.1.2.2.2.1 (C.1.2.2.2.2 _ uk54) (C.2.1.1 1 _ rfl).2 (r_Cod C h hcd) dX9_bestRun_29 ?_
      refine tI (y := nI 1) rfl ?_
      refine zN_eq (tgt := 66) (a := 1) C (by decide) dX9_bestRun_32 (by decide) (fun q => absurd q (by decide)) (fun _ => ?_)
      refine lv_aload_n hx hb dX9_bestRun_35 rfl (lv_at hl 0 rfl) ?_
      refine va_castS hx hb C.1.2.2.2.1 (C.1.2.2.2.2 _ uk54) (C.2.1.1 1 _ rfl).2 (r_Cod C h hcd) dX9_bestRun_36 ?_
      refine lv_astore_n (lv' := [(2, .ref (wa i)), (3, .ref (wa i)), (0, .ref (zad z 0)), (1, .int (nI (i)))]) hx hb dX9_bestRun_39 rfl hl (by decide) rfl (fun ls hl => ?_)
      refine lv_aload_n hx hb dX9_bestRun_40 rfl (lv_at hl 2 rfl) ?_
      refine rg_X9_39 C h dX9_bestRun_41 ?_
      refine lv_aload_n hx hb dX9_bestRun_44 rfl (lv_at hl 0 rfl) ?_
      refine lv_iload_n hx hb dX9_bestRun_45 rfl (lv_at hl 3 rfl) ?_
      refine lv_aload_n hx hb dX9_bestRun_46 rfl (lv_at hl 2 rfl) ?_
      refine rg_X9_19 C h dX9_bestRun_47 ?_
      refine backV h (runV (As := [.ref (wa i), .int (nI (i)), .ref (zad z 12)]) (rest := []) C h (k_weighHeads l z v (va_up (va_up (va_up (va_up sc 11 (nI N)) 12 (-1)) 13 (-1)) 14 (-1)) (va_up (va_up ar 17 (hh)) 18 (tt)) (wa i) (wt i 1) (wt i 2) (wt i 3) (wt i 4) N i (hdA wt (ar 12) i) hcd rfl hN4 (by omega) (fun q hq => ⟨h2 q hq, hdA_le _ _ _ _⟩)) gv_X9_132 gv_X9_132_n ⟨rfl, rfl⟩ (r_Search C h) rfl hl.1 rfl (Nat.le_of_ble_eq_true rfl) dX9_bestRun_50 ⟨Nat.le_of_ble_eq_true rfl, Nat.le_of_ble_eq_true rfl⟩ ⟨Nat.le_of_ble_eq_true rfl, Nat.le_of_ble_eq_true rfl⟩) (fun v_50 sc_50 ar_50 H locs p_50 h => ?_)
      obtain ⟨g1, eu1, hg1⟩ := p_50
      rw [up_c] at eu1
      have h : hH z v (va_up (va_up (va_up (va_up sc 11 (nI N)) 12 (-1)) 13 (-1)) 14 (-1)) (va_up (va_up ar 17 (g1)) 18 (tt)) s H locs := uEq eu1 h
      refine lv_aload_n hx hb dX9_bestRun_53 rfl (lv_at hl 2 rfl) ?_
      refine rg_X9_39 C h dX9_bestRun_54 ?_
      refine lv_aload_n hx hb dX9_bestRun_57 rfl (lv_at hl 0 rfl) ?_
      refine lv_iload_n hx hb dX9_bestRun_58 rfl (lv_at hl 3 rfl) ?_
      refine lv_aload_n hx hb dX9_bestRun_59 rfl (lv_at hl 2 rfl) ?_
      refine rg_X9_19 C h dX9_bestRun_60 ?_
      refine backV h (runV (As := [.ref (wa i), .int (nI (i)), .ref (zad z 12)]) (rest := []) C h (k_weighTails l z v (va_up (va_up (va_up (va_up sc 11 (nI N)) 12 (-1)) 13 (-1)) 14 (-1)) (va_up (va_up ar 17 (g1)) 18 (tt)) (wa i) (wt i 1) (wt i 2) (wt i 3) (wt i 4) N i (tlB wt (ar 12) N i) hcd rfl hN4 (by omega) (fun q hq => ⟨h3 q hq, tlB_le _ _ _ _ _⟩)) gv_X9_136 gv_X9_136_n ⟨rfl, rfl⟩ (r_Search C h) rfl hl.1 rfl (Nat.le_of_ble_eq_true rfl) dX9_bestRun_63 ⟨Nat.le_of_ble_eq_true rfl, Nat.le_of_ble_eq_true rfl⟩ ⟨Nat.le_of_ble_eq_true rfl, Nat.le_of_ble_eq_true rfl⟩) (fun v_63 sc_63 ar_63 H locs p_63 h => ?_)
      obtain ⟨g2, eu2, hg2⟩ := p_63
      rw [va_uu] at eu2
      have h : hH z v (va_up (va_up (va_up (va_up sc 11 (nI N)) 12 (-1)) 13 (-1)) 14 (-1)) (va_up (va_up ar 17 (g1)) 18 (g2)) s H locs := uEq eu2 h
      refine lv_iinc (v := nI (i + 1)) (lv' := [(1, .int (nI (i + 1))), (2, .ref (wa i)), (3, .ref (wa i)), (0, .ref (zad z 0))]) hx hb dX9_bestRun_66 hl (k := 3) rfl (nN_inc _) (by decide) rfl (fun ls hl => ?_)
      refine lv_goto (tgt := 13) hx hb dX9_bestRun_69 (by decide) ?_
      exact ih_13 (i + 1) (g1) (g2) (by omega) H locs ls ⟨by omega, fun q hq => by rw [hg1 q hq, hdA_c w0]; rfl, fun q hq => by rw [hg2 q hq, tlB_c w0]; rfl, h, lv_sub hl [3, 0] rfl⟩
    · skip
      obtain ⟨hrn, -⟩ := WT_run hWT hi w.1
      have w0 : ¬ wt i 0 = 0 := by omega
      refine va_instNo hx hb C.1.2.2.2.1 (C.1.2.2.2.2 _ uk54) C.2.2.2.2.2.1.2.1 (rcvP C h hrn.1 hrn.2 rfl) dX9_bestRun_29 ?_
      refine tI (y := nI 0) rfl ?_
      refine zN_eq (tgt := 66) (a := 0) C (by decide) dX9_bestRun_32 (by decide) (fun _ => ?_) (fun q => absurd q (by decide))
      refine lv_iinc (v := nI (i + 1)) (lv' := [(1, .int (nI (i + 1))), (3, .ref (wa i)), (0, .ref (zad z 0))]) hx hb dX9_bestRun_66 hl (k := 2) rfl (nN_inc _) (by decide) rfl (fun ls hl => ?_)
      refine lv_goto (tgt := 13) hx hb dX9_bestRun_69 (by decide) ?_
      exact ih_13 (i + 1) (hh) (tt) (by omega) H locs ls ⟨by omega, fun q hq => by rw [hdA_n w0]; exact h2 q hq, fun q hq => by rw [tlB_n w0]; exact h3 q hq, h, lv_sub hl [2, 0] rfl⟩
    · skip
      obtain ⟨hrn, -⟩ := WT_pop hWT hi w.1
      have w0 : ¬ wt i 0 = 0 := by omega
      refine va_instNo hx hb C.1.2.2.2.1 (C.1.2.2.2.2 _ uk54) C.2.2.2.2.2.1.1 (rcvP C h hrn.1 hrn.2 rfl) dX9_bestRun_29 ?_
      refine tI (y := nI 0) rfl ?_
      refine zN_eq (tgt := 66) (a := 0) C (by decide) dX9_bestRun_32 (by decide) (fun _ => ?_) (fun q => absurd q (by decide))
      refine lv_iinc (v := nI (i + 1)) (lv' := [(1, .int (nI (i + 1))), (3, .ref (wa i)), (0, .ref (zad z 0))]) hx hb dX9_bestRun_66 hl (k := 2) rfl (nN_inc _) (by decide) rfl (fun ls hl => ?_)
      refine lv_goto (tgt := 13) hx hb dX9_bestRun_69 (by decide) ?_
      exact ih_13 (i + 1) (hh) (tt) (by omega) H locs ls ⟨by omega, fun q hq => by rw [hdA_n w0]; exact h2 q hq, fun q hq => by rw [tlB_n w0]; exact h3 q hq, h, lv_sub hl [2, 0] rfl⟩
