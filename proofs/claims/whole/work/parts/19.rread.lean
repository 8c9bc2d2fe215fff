theorem rb_l (xs : List Int32) (e : Nat) (k : List Int32 → Nat → RdR) : rb (.inl (xs, e)) k = k xs e := rfl
theorem rb_r (f : Nat × Nat) (k : List Int32 → Nat → RdR) : rb (.inr f) k = .inr f := rfl
theorem rS.trans {q k : Nat} {sc sc1 sc2 : Nat → Int32} {ar ar1 ar2 : Nat → Nat → Int32} (h : rS q k sc ar sc1 ar1) (h2 : rS q k sc1 ar1 sc2 ar2) : rS q k sc ar sc2 ar2 := ⟨fun j a1 a2 a3 => (h2.1 j a1 a2 a3).trans (h.1 j a1 a2 a3), fun j a1 a2 a3 => (h2.2 j a1 a2 a3).trans (h.2 j a1 a2 a3)⟩
theorem rS.fr {q q' k k' : Nat} {sc sc1 : Nat → Int32} {ar ar1 : Nat → Nat → Int32} (h : rS q' k' sc ar sc1 ar1) (hq : q' ≤ q) (hk : (19 ≤ k' ∧ k' < 19 + q) ∨ (23 ≤ k' ∧ k' < 23 + q)) : rS q k sc ar sc1 ar1 := ⟨h.1, fun j a1 a2 a3 => h.2 j (by omega) (by omega) (by omega)⟩
set_option maxHeartbeats 4000000 in
set_option maxRecDepth 100000 in
/-- Run.read -/
theorem k_rRead (l : Launch) (z : bZ) (v : bV) (sc : Nat → Int32) (ar : Nat → Nat → Int32) (wt : Nat → Nat → Nat) (dp wa : Nat → Nat) (K i n p k fr cnt : Nat) (hWT : WT v wt dp wa K) (hi : i < K) (hs : wt i 0 = 1) (IH : ∀ j, j < i → rIH l z wt dp wa v j) (hw : rH sc n p (dp i) k fr cnt) : Met l yX5_read (Cond.code yX5_read cX5_read 6 (some .boolean) :: uW) (rmW (dp i)) (pC z v sc ar [.ref (wa i), .ref (zad z 1), .ref (zad z k), .int (nI (fr)), .int (nI (cnt))]) (qI z (fun r u => rQ v sc ar (dp i) k fr (RD wt dp (bN (ar 11)) n i cnt p) r u)) 0 0 (zA z) := by
  refine eM (by decide) (Nat.le_of_ble_eq_true rfl) ?_
  intro pP eE s mM below meth cC ls C hr hlk h hl
  have hx := C.1.1
  have hb := C.1.2.1
  have hl : lv_has ls 6 [(0, .ref (wa i)), (1, .ref (zad z 1)), (2, .ref (zad z k)), (3, .int (nI (fr))), (4, .int (nI (cnt)))] := hl
  obtain ⟨hrn, hn4, hj2, hj3, hd2, hd3, hd4⟩ := WT_run hWT hi hs
  obtain ⟨w1, w2, w3, w4, w5, w6, w7⟩ := id hw
  obtain ⟨k1, k2, k3, k4, k5, k6, k7, k8⟩ := id w5
  refine lv_aload_n hx hb dX5_read_0 rfl (lv_at hl 0 rfl) ?_
  refine rw_X5_7 C h hrn dX5_read_1 ?_
  refine lv_iload hx hb dX5_read_4 (lv_at hl 4 rfl) ?_
  refine mmin C hl.1 um_X5_20 (by show 1 ≤ 4 * dp i + 8; omega) (by show 0 + 13 ≤ 60 * dp i + 100; omega) (Nat.zero_le _) (Nat.zero_le _) dX5_read_6 ?_
  refine tI (nN_min (by omega) (by omega)) ?_
  refine lv_istore (lv' := [(5, .int (nI (min (wt i 1) (cnt)))), (0, .ref (wa i)), (1, .ref (zad z 1)), (2, .ref (zad z k)), (3, .int (nI (fr))), (4, .int (nI (cnt)))]) hx hb dX5_read_9 hl (by decide) rfl (fun ls hl => ?_)
  obtain ⟨hh, ehh⟩ : ∃ q, q = min (wt i 1) cnt := ⟨_, rfl⟩
  have hl : lv_has ls 6 [(5, .int (nI (hh))), (0, .ref (wa i)), (1, .ref (zad z 1)), (2, .ref (zad z k)), (3, .int (nI (fr))), (4, .int (nI (cnt)))] := by rw [ehh]; exact hl
  have eRD := RD_run (t := bN (ar 11)) (n := n) (cnt := cnt) (p := p) (WT_ok hWT hi) hs
  rw [← ehh] at eRD
  refine lv_aload_n hx hb dX5_read_11 rfl (lv_at hl 1 rfl) ?_
  refine rw_X5_13 C h hrn dX5_read_12 ?_
  refine lv_aload_n hx hb dX5_read_15 rfl (lv_at hl 2 rfl) ?_
  refine lv_aload_n hx hb dX5_read_16 rfl (lv_at hl 3 rfl) ?_
  refine lv_iload_n hx hb dX5_read_17 rfl (lv_at hl 4 rfl) ?_
  refine lv_iload hx hb dX5_read_18 (lv_at hl 0 rfl) ?_
  refine vcR (i := wt i 2) (n := n) (p0 := p) (k := k) (fr := fr) (cnt := hh) C h gu_X5_30_X1 gu_X5_30_X5 gu_X5_30_X4 hWT (by omega) (IH _ hj2) ⟨w1, w2, w3, w4, w5.mono (by omega), by omega, by omega⟩ hl.1 (Nat.le_of_ble_eq_true rfl) dX5_read_20 ⟨by show _ ≤ 4 * dp i + 8; omega, by show _ ≤ 60 * dp i + 100; omega⟩ (Nat.le_of_ble_eq_true rfl) (Nat.le_of_ble_eq_true rfl) (fun r_20 sc1 ar1 H locs hS1 hO_20 h => ?_)
  rcases ho_20 : RD wt dp (bN (ar 11)) n (wt i 2) (hh) (p) with ⟨xs1, e1⟩ | ⟨f_20, q_20⟩
  · skip
    rw [ho_20] at hO_20
    obtain ⟨e1_20, e6_20, ek_20⟩ := hO_20
    obtain ⟨bl_20, bp_20, bn_20⟩ := RD_bd (bN_lt _) _ (fun q hq => WT_ok hWT hi q (by omega)) _ _ _ _ ho_20
    have bn_20 := bn_20 (by omega)
    have s3_20 := w1
    refine tI (y := nI 1) e1_20 ?_
    refine zN_eq (tgt := 51) (a := 1) C (by decide) dX5_read_23 (by decide) (fun q => absurd q (by decide)) (fun _ => ?_)
    refine lv_aload_n hx hb dX5_read_26 rfl (lv_at hl 1 rfl) ?_
    refine rw_X5_17 C h hrn dX5_read_27 ?_
    refine lv_aload_n hx hb dX5_read_30 rfl (lv_at hl 2 rfl) ?_
    refine lv_aload_n hx hb dX5_read_31 rfl (lv_at hl 3 rfl) ?_
    refine lv_iload_n hx hb dX5_read_32 rfl (lv_at hl 4 rfl) ?_
    refine lv_iload hx hb dX5_read_33 (lv_at hl 0 rfl) ?_
    refine lv_iadd hx hb dX5_read_35 ?_
    refine tI (nI_add _ _) ?_
    refine lv_iload hx hb dX5_read_36 (lv_at hl 5 rfl) ?_
    refine lv_iload hx hb dX5_read_38 (lv_at hl 0 rfl) ?_
    refine lv_isub hx hb dX5_read_40 ?_
    refine tI (pk_sub (by omega)) ?_
    refine vcR (i := wt i 3) (n := n) (p0 := e1) (k := k) (fr := fr + hh) (cnt := cnt - hh) C h gu_X5_30_X1 gu_X5_30_X5 gu_X5_30_X4 hWT (by omega) (IH _ hj3) ⟨(hS1.1 3 (by decide) (by decide) (by decide)).trans w1, w2, e6_20, bn_20, w5.mono (by omega), by omega, by omega⟩ hl.1 (Nat.le_of_ble_eq_true rfl) dX5_read_41 ⟨by show _ ≤ 4 * dp i + 8; omega, by show _ ≤ 60 * dp i + 100; omega⟩ (Nat.le_of_ble_eq_true rfl) (Nat.le_of_ble_eq_true rfl) (fun r_41 sc2 ar2 H locs hS2 hO_41 h => ?_)
    have e11_41 : ar1 11 = ar 11 := hS1.2 11 (Ne.symm k3) (by omega) (by omega)
    rw [e11_41] at hO_41
    rcases ho_41 : RD wt dp (bN (ar 11)) n (wt i 3) (cnt - hh) (e1) with ⟨xs2, e2⟩ | ⟨f_41, q_41⟩
    · skip
      rw [ho_41] at hO_41
      obtain ⟨e1_41, e6_41, ek_41⟩ := hO_41
      obtain ⟨bl_41, bp_41, bn_41⟩ := RD_bd (bN_lt _) _ (fun q hq => WT_ok hWT hi q (by omega)) _ _ _ _ ho_41
      have bn_41 := bn_41 (by omega)
      have s3_41 := w1
      refine tI (y := nI 1) e1_41 ?_
      refine zN_eq (tgt := 51) (a := 1) C (by decide) dX5_read_44 (by decide) (fun q => absurd q (by decide)) (fun _ => ?_)
      refine lv_iconst (v := nI (1)) hx hb dX5_read_47 (by decide) ?_
      refine lv_goto (tgt := 52) hx hb dX5_read_48 (by decide) ?_
      exact rZ C hr hlk h dX5_read_52 rfl (Nat.le_of_ble_eq_true rfl) (Nat.le_of_ble_eq_true rfl) (⟨sc2, ar2, rfl, (hS1.mono (by omega)).trans (hS2.mono (by omega)), by rw [eRD, ho_20, rb_l, ho_41, rb_l]; exact ⟨rfl, e6_41, by rw [ek_41, ek_20, ← wrR_app, bl_20]⟩⟩)
    · skip
      rw [ho_41] at hO_41
      obtain ⟨e1_41, e7_41, e8_41⟩ := hO_41
      refine tI (y := nI 0) e1_41 ?_
      refine zN_eq (tgt := 51) (a := 0) C (by decide) dX5_read_44 (by decide) (fun _ => ?_) (fun q => absurd q (by decide))
      refine lv_iconst (v := nI (0)) hx hb dX5_read_51 (by decide) ?_
      exact rZ C hr hlk h dX5_read_52 rfl (Nat.le_of_ble_eq_true rfl) (Nat.le_of_ble_eq_true rfl) (⟨sc2, ar2, rfl, (hS1.mono (by omega)).trans (hS2.mono (by omega)), by rw [eRD, ho_20, rb_l, ho_41, rb_r]; exact ⟨rfl, e7_41, e8_41⟩⟩)
  · skip
    rw [ho_20] at hO_20
    obtain ⟨e1_20, e7_20, e8_20⟩ := hO_20
    refine tI (y := nI 0) e1_20 ?_
    refine zN_eq (tgt := 51) (a := 0) C (by decide) dX5_read_23 (by decide) (fun _ => ?_) (fun q => absurd q (by decide))
    refine lv_iconst (v := nI (0)) hx hb dX5_read_51 (by decide) ?_
    exact rZ C hr hlk h dX5_read_52 rfl (Nat.le_of_ble_eq_true rfl) (Nat.le_of_ble_eq_true rfl) (⟨sc1, ar1, rfl, hS1.mono (by omega), by rw [eRD, ho_20, rb_r]; exact ⟨rfl, e7_20, e8_20⟩⟩)
theorem tok_of {kn q : Nat} {T : List Int32} (hk : kn ≤ 50) (h : ∀ x, x ∈ T → ¬ x < 0 ∧ x ≤ nI kn) (hq : q < T.length) : ∃ t : Nat, t ≤ 50 ∧ T.getD q 0 = nI t := by
  have hm : T.getD q 0 ∈ T := by
    rw [List.getD_eq_getElem?_getD, List.getElem?_eq_getElem hq]
    exact List.getElem_mem hq
  obtain ⟨a1, a2⟩ := h _ hm
  obtain ⟨w, hw, e⟩ := nI_of a1
  rw [e] at a2 ⊢
  exact ⟨w, by have := (nI_leI hw (by omega)).mp a2; omega, rfl⟩
theorem gv_X4_73 : GoodIn uW (wsV RX4 73 RX7 yX7_fail (Cond.code yX7_fail cX7_fail 3 (some .boolean) :: uW)) := gI_V (uW_of (by decide +kernel) rfl) (uW_of (by decide +kernel) rfl) (uW_of (by decide +kernel) rfl) (uW_of (by decide +kernel) rfl) (uW_of (by decide +kernel) rfl)
theorem gv_X4_73_n : okN yX7_fail 2 := by decide +kernel
theorem gv_X4_77 : GoodIn uW (va_wsS RX4 77 yX4_countOthers (Cond.code yX4_countOthers cX4_countOthers 6 (some .int) :: uW)) := gI_S (uW_of (by decide +kernel) rfl) (uW_of (by decide +kernel) rfl) (uW_of (by decide +kernel) rfl) (uW_of (by decide +kernel) rfl)
theorem gv_X4_77_n : okN yX4_countOthers 4 := by decide +kernel
theorem gv_X4_81 : GoodIn uW (va_wsS RX4 81 yX4_replaceTokens (Cond.code yX4_replaceTokens cX4_replaceTokens 6 none :: uW)) := gI_S (uW_of (by decide +kernel) rfl) (uW_of (by decide +kernel) rfl) (uW_of (by decide +kernel) rfl) (uW_of (by decide +kernel) rfl)
theorem gv_X4_81_n : okN yX4_replaceTokens 4 := by decide +kernel
set_option maxHeartbeats 4000000 in
set_option maxRecDepth 100000 in
/-- Popular.read -/
theorem k_pRead (l : Launch) (z : bZ) (v : bV) (sc : Nat → Int32) (ar : Nat → Nat → Int32) (wt : Nat → Nat → Nat) (dp wa : Nat → Nat) (K i n p k fr cnt : Nat) (hWT : WT v wt dp wa K) (hi : i < K) (hs : wt i 0 = 2) (IH : ∀ j, j < i → rIH l z wt dp wa v j) (hw : rH sc n p (dp i) k fr cnt) : Met l yX4_read (Cond.code yX4_read cX4_read 10 (some .boolean) :: uW) (rmW (dp i)) (pC z v sc ar [.ref (wa i), .ref (zad z 1), .ref (zad z k), .int (nI (fr)), .int (nI (cnt))]) (qI z (fun r u => rQ v sc ar (dp i) k fr (RD wt dp (bN (ar 11)) n i cnt p) r u)) 0 0 (zA z) := by
  refine eM (by decide) (Nat.le_of_ble_eq_true rfl) ?_
  intro pP eE s mM below meth cC ls C hr hlk h hl
  have hx := C.1.1
  have hb := C.1.2.1
  have hl : lv_has ls 10 [(0, .ref (wa i)), (1, .ref (zad z 1)), (2, .ref (zad z k)), (3, .int (nI (fr))), (4, .int (nI (cnt)))] := hl
  obtain ⟨hpo, hm1, hj2, hj3, hj4, hd2, hd3, hd4, hd5⟩ := WT_pop hWT hi hs
  obtain ⟨w1, w2, w3, w4, w5, w6, w7⟩ := id hw
  obtain ⟨f, ef⟩ : ∃ f, dp i = f + 1 := ⟨dp i - 1, by omega⟩
  have hf : f < 4 := by omega
  have hA4 := isA_fr hf
  obtain ⟨k1, k2, k3, k4, k5, k6, k7, k8⟩ := id w5
  have eRD := RD_pop (t := bN (ar 11)) (n := n) (cnt := cnt) (p := p) (WT_ok hWT hi) hs
  refine lv_aload_n hx hb dX4_read_0 rfl (lv_at hl 1 rfl) ?_
  refine rg_X4_61 C h dX4_read_1 ?_
  refine lv_astore (lv' := [(5, .ref (zad z 2)), (0, .ref (wa i)), (1, .ref (zad z 1)), (2, .ref (zad z k)), (3, .int (nI (fr))), (4, .int (nI (cnt)))]) hx hb dX4_read_4 hl (by decide) rfl (fun ls hl => ?_)
  refine lv_aload_n hx hb dX4_read_6 rfl (lv_at hl 2 rfl) ?_
  refine rg_X4_25 C h dX4_read_7 ?_
  refine lv_aload_n hx hb dX4_read_10 rfl (lv_at hl 1 rfl) ?_
  refine rw_X4_31 C h hpo dX4_read_11 ?_
  refine lv_iconst (v := nI (1)) hx hb dX4_read_14 (by decide) ?_
  refine lv_isub hx hb dX4_read_15 ?_
  refine tI (y := nI (f)) (by rw [ef]; exact nI_pred f) ?_
  refine ldF (j := f) hf C h dX4_read_16 ?_
  refine lv_astore (lv' := [(6, .ref (zad z (5 + f))), (5, .ref (zad z 2)), (0, .ref (wa i)), (1, .ref (zad z 1)), (2, .ref (zad z k)), (3, .int (nI (fr))), (4, .int (nI (cnt)))]) hx hb dX4_read_17 hl (by decide) rfl (fun ls hl => ?_)
  refine lv_aload hx hb dX4_read_19 (lv_at hl 1 rfl) ?_
  refine rg_X4_65 C h dX4_read_21 ?_
  refine tI (y := nI (p)) w3 ?_
  refine lv_istore (lv' := [(7, .int (nI (p))), (6, .ref (zad z (5 + f))), (5, .ref (zad z 2)), (0, .ref (wa i)), (1, .ref (zad z 1)), (2, .ref (zad z k)), (3, .int (nI (fr))), (4, .int (nI (cnt)))]) hx hb dX4_read_24 hl (by decide) rfl (fun ls hl => ?_)
  refine lv_aload_n hx hb dX4_read_26 rfl (lv_at hl 3 rfl) ?_
  refine rw_X4_15 C h hpo dX4_read_27 ?_
  refine lv_aload_n hx hb dX4_read_30 rfl (lv_at hl 4 rfl) ?_
  refine lv_aload hx hb dX4_read_31 (lv_at hl 1 rfl) ?_
  refine rf_X4_44 hf C h dX4_read_33 ?_
  refine lv_iconst (v := nI (0)) hx hb dX4_read_36 (by decide) ?_
  refine lv_iconst (v := nI (1)) hx hb dX4_read_37 (by decide) ?_
  refine vcR (i := wt i 2) (n := n) (p0 := p) (k := 19 + f) (fr := 0) (cnt := 1) C h gu_X4_70_X1 gu_X4_70_X5 gu_X4_70_X4 hWT (by omega) (IH _ hj2) ⟨w1, w2, w3, w4, ⟨hA4.1, by rw [hA4.2.1]; decide, by omega, by omega, by omega, by omega, by omega, by omega⟩, by rw [hA4.2.1]; omega, by omega⟩ hl.1 (Nat.le_of_ble_eq_true rfl) dX4_read_38 ⟨by show _ ≤ 4 * dp i + 8; omega, by show _ ≤ 60 * dp i + 100; omega⟩ (Nat.le_of_ble_eq_true rfl) (Nat.le_of_ble_eq_true rfl) (fun r_38 sc1 ar1 H locs hS1 hO_38 h => ?_)
  rcases ho_38 : RD wt dp (bN (ar 11)) n (wt i 2) (1) (p) with ⟨hd, e1⟩ | ⟨f_38, q_38⟩
  · skip
    rw [ho_38] at hO_38
    obtain ⟨e1_38, e6_38, ek_38⟩ := hO_38
    obtain ⟨bl_38, bp_38, bn_38⟩ := RD_bd (bN_lt _) _ (fun q hq => WT_ok hWT hi q (by omega)) _ _ _ _ ho_38
    have bn_38 := bn_38 (by omega)
    have s3_38 := w1
    refine tI (y := nI 1) e1_38 ?_
    refine zN_ne (tgt := 46) (a := 1) C (by decide) dX4_read_41 (by decide) (fun _ => ?_) (fun q => absurd q (by decide))
    refine lv_aload hx hb dX4_read_46 (lv_at hl 1 rfl) ?_
    refine rf_X4_44 hf C h dX4_read_48 ?_
    refine lv_iconst (v := nI (0)) hx hb dX4_read_51 (by decide) ?_
    refine ldA (19 + f) hA4.1 (j := 0) (by rw [hA4.2.1]; omega) (by rw [hA4.2.1]; decide) C h dX4_read_52 ?_
    refine tI (y := hd.getD 0 0) (by rw [ek_38]; unfold wrR; rw [if_pos (by omega)]) ?_
    refine lv_istore (lv' := [(8, .int (hd.getD 0 0)), (7, .int (nI (p))), (6, .ref (zad z (5 + f))), (5, .ref (zad z 2)), (0, .ref (wa i)), (1, .ref (zad z 1)), (2, .ref (zad z k)), (3, .int (nI (fr))), (4, .int (nI (cnt)))]) hx hb dX4_read_53 hl (by decide) rfl (fun ls hl => ?_)
    refine lv_iload hx hb dX4_read_55 (lv_at hl 0 rfl) ?_
    refine lv_if_lt (tgt := 69) hx hb dX4_read_57 (by decide) (fun c_57 => ?_) (fun c_57 => ?_)
    · skip
      refine lv_aload hx hb dX4_read_69 (lv_at hl 3 rfl) ?_
      refine lv_iconst (v := nI (3)) hx hb dX4_read_71 (by decide) ?_
      refine lv_iload hx hb dX4_read_72 (lv_at hl 1 rfl) ?_
      refine backI h (runV (As := [.int (nI (3)), .int (nI (p))]) (rest := []) C h (k_fail l z v sc1 ar1 (nI 3) (nI p)) gv_X4_73 gv_X4_73_n ⟨rfl, rfl⟩ (r_Tape C h) rfl hl.1 rfl (Nat.le_of_ble_eq_true rfl) dX4_read_74 ⟨by show 0 + 1 ≤ 4 * dp i + 8; omega, by show 8 + (3 + 11) + 0 ≤ 60 * dp i + 100; omega⟩ ⟨Nat.le_of_ble_eq_true rfl, Nat.le_of_ble_eq_true rfl⟩) (fun r_74 v_74 sc_74 ar_74 H locs p_74 h => ?_)
      have h : hH z v (va_up (va_up sc1 7 (nI (3))) 8 (nI (p))) ar1 s H locs := uEq p_74.2 h
      refine tI (y := nI (0)) p_74.1 ?_
      exact rZ C hr hlk h dX4_read_77 rfl (Nat.le_of_ble_eq_true rfl) (Nat.le_of_ble_eq_true rfl) (have eq : RD wt dp (bN (ar 11)) n i cnt p = .inr (3, p) := by rw [eRD]; simp only [ho_38, rb_l, if_pos (show hd.getD 0 0 < 0 ∨ nI (wt i 1) < hd.getD 0 0 from Or.inl c_57)]
        ⟨_, ar1, rfl, ⟨fun j a1 a2 a3 => by rw [va_up_ne _ _ a3, va_up_ne _ _ a2]; exact hS1.1 j a1 a2 a3, (hS1.fr (by omega) (by omega) : rS (dp i) k sc ar sc1 ar1).2⟩, by rw [eq]; exact ⟨rfl, (va_up_ne _ _ (by decide)).trans (va_up_self _ _ _), va_up_self _ _ _⟩⟩)
    · skip
      refine lv_iload hx hb dX4_read_60 (lv_at hl 0 rfl) ?_
      refine lv_aload_n hx hb dX4_read_62 rfl (lv_at hl 4 rfl) ?_
      refine rw_X4_9 C h hpo dX4_read_63 ?_
      refine lv_icmp_le (tgt := 78) hx hb dX4_read_66 (by decide) (fun c_66 => ?_) (fun c_66 => ?_)
      · skip
        obtain ⟨kn, hkn, ekn⟩ : ∃ kn : Nat, kn ≤ wt i 1 ∧ hd.getD 0 0 = nI kn := by
          obtain ⟨q, hq, e⟩ := nI_of c_57
          rw [e] at c_66
          exact ⟨q, (nI_leI hq (by omega)).mp c_66, e⟩
        have hcl : (hd.getD 0 0).toNatClampNeg = kn := by rw [ekn]; exact nI_clamp (by omega)
        have hng : ¬ (hd.getD 0 0 < 0 ∨ nI (wt i 1) < hd.getD 0 0) := fun q => q.elim c_57 (fun q => by rw [Int32.le_iff_toInt_le] at c_66; rw [Int32.lt_iff_toInt_lt] at q; omega)
        have hl : lv_has ls 10 [(8, .int (nI (kn))), (7, .int (nI (p))), (6, .ref (zad z (5 + f))), (5, .ref (zad z 2)), (0, .ref (wa i)), (1, .ref (zad z 1)), (2, .ref (zad z k)), (3, .int (nI (fr))), (4, .int (nI (cnt)))] := by rw [ekn] at hl; exact hl
        refine lv_aload_n hx hb dX4_read_78 rfl (lv_at hl 4 rfl) ?_
        refine rw_X4_15 C h hpo dX4_read_79 ?_
        refine lv_aload_n hx hb dX4_read_82 rfl (lv_at hl 5 rfl) ?_
        refine lv_aload hx hb dX4_read_83 (lv_at hl 2 rfl) ?_
        refine rf_X4_44 hf C h dX4_read_85 ?_
        refine lv_iconst (v := nI (1)) hx hb dX4_read_88 (by decide) ?_
        refine lv_iload hx hb dX4_read_89 (lv_at hl 0 rfl) ?_
        refine vcR (i := wt i 2) (n := n) (p0 := e1) (k := 19 + f) (fr := 1) (cnt := kn) C h gu_X4_70_X1 gu_X4_70_X5 gu_X4_70_X4 hWT (by omega) (IH _ hj2) ⟨(hS1.1 3 (by decide) (by decide) (by decide)).trans w1, w2, e6_38, bn_38, ⟨hA4.1, by rw [hA4.2.1]; decide, by omega, by omega, by omega, by omega, by omega, by omega⟩, by rw [hA4.2.1]; omega, by omega⟩ hl.1 (Nat.le_of_ble_eq_true rfl) dX4_read_91 ⟨by show _ ≤ 4 * dp i + 8; omega, by show _ ≤ 60 * dp i + 100; omega⟩ (Nat.le_of_ble_eq_true rfl) (Nat.le_of_ble_eq_true rfl) (fun r_91 sc2 ar2 H locs hS2 hO_91 h => ?_)
        have e11_91 : ar1 11 = ar 11 := hS1.2 11 (by omega) (by omega) (by omega)
        rw [e11_91] at hO_91
        rcases ho_91 : RD wt dp (bN (ar 11)) n (wt i 2) (kn) (e1) with ⟨F, e2⟩ | ⟨f_91, q_91⟩
        · skip
          rw [ho_91] at hO_91
          obtain ⟨e1_91, e6_91, ek_91⟩ := hO_91
          obtain ⟨bl_91, bp_91, bn_91⟩ := RD_bd (bN_lt _) _ (fun q hq => WT_ok hWT hi q (by omega)) _ _ _ _ ho_91
          have bn_91 := bn_91 (by omega)
          have s3_91 := (hS1.1 3 (by decide) (by decide) (by decide)).trans w1
          refine tI (y := nI 1) e1_91 ?_
          refine zN_ne (tgt := 99) (a := 1) C (by decide) dX4_read_94 (by decide) (fun _ => ?_) (fun q => absurd q (by decide))
          refine lv_aload hx hb dX4_read_99 (lv_at hl 3 rfl) ?_
          refine rg_X4_65 C h dX4_read_101 ?_
          refine tI (y := nI (e2)) e6_91 ?_
          refine lv_istore (lv' := [(7, .int (nI (e2))), (8, .int (nI (kn))), (6, .ref (zad z (5 + f))), (5, .ref (zad z 2)), (0, .ref (wa i)), (1, .ref (zad z 1)), (2, .ref (zad z k)), (3, .int (nI (fr))), (4, .int (nI (cnt)))]) hx hb dX4_read_104 hl (by decide) rfl (fun ls hl => ?_)
          refine lv_aload_n hx hb dX4_read_106 rfl (lv_at hl 4 rfl) ?_
          refine rw_X4_19 C h hpo dX4_read_107 ?_
          refine lv_aload_n hx hb dX4_read_110 rfl (lv_at hl 5 rfl) ?_
          refine lv_aload_n hx hb dX4_read_111 rfl (lv_at hl 6 rfl) ?_
          refine lv_iload_n hx hb dX4_read_112 rfl (lv_at hl 7 rfl) ?_
          refine lv_iload hx hb dX4_read_113 (lv_at hl 8 rfl) ?_
          refine vcR (i := wt i 3) (n := n) (p0 := e2) (k := k) (fr := fr) (cnt := cnt) C h gu_X4_70_X1 gu_X4_70_X5 gu_X4_70_X4 hWT (by omega) (IH _ hj3) ⟨(hS2.1 3 (by decide) (by decide) (by decide)).trans s3_91, w2, e6_91, bn_91, w5.mono (by omega), w6, w7⟩ hl.1 (Nat.le_of_ble_eq_true rfl) dX4_read_115 ⟨by show _ ≤ 4 * dp i + 8; omega, by show _ ≤ 60 * dp i + 100; omega⟩ (Nat.le_of_ble_eq_true rfl) (Nat.le_of_ble_eq_true rfl) (fun r_115 sc3 ar3 H locs hS3 hO_115 h => ?_)
          have e11_115 : ar2 11 = ar 11 := (hS2.2 11 (by omega) (by omega) (by omega)).trans e11_91
          have e2k : ar2 k = ar k := (hS2.2 k (by omega) (by omega) (by omega)).trans (hS1.2 k (by omega) (by omega) (by omega))
          rw [e11_115] at hO_115
          rcases ho_115 : RD wt dp (bN (ar 11)) n (wt i 3) (cnt) (e2) with ⟨T, e3⟩ | ⟨f_115, q_115⟩
          · skip
            rw [ho_115] at hO_115
            obtain ⟨e1_115, e6_115, ek_115⟩ := hO_115
            obtain ⟨bl_115, bp_115, bn_115⟩ := RD_bd (bN_lt _) _ (fun q hq => WT_ok hWT hi q (by omega)) _ _ _ _ ho_115
            have bn_115 := bn_115 (by omega)
            have s3_115 := (hS2.1 3 (by decide) (by decide) (by decide)).trans s3_91
            rw [e2k] at ek_115
            refine tI (y := nI 1) e1_115 ?_
            refine zN_ne (tgt := 123) (a := 1) C (by decide) dX4_read_118 (by decide) (fun _ => ?_) (fun q => absurd q (by decide))
            refine lv_aload_n hx hb dX4_read_123 rfl (lv_at hl 6 rfl) ?_
            refine lv_iload_n hx hb dX4_read_124 rfl (lv_at hl 7 rfl) ?_
            refine lv_iload hx hb dX4_read_125 (lv_at hl 8 rfl) ?_
            refine lv_iload hx hb dX4_read_127 (lv_at hl 1 rfl) ?_
            refine backI h (runS (As := [.ref (zad z k), .int (nI (fr)), .int (nI (cnt)), .int (nI (kn))]) (rest := []) C h (k_count l z v sc3 ar3 k fr cnt kn k1 k2 w6 w7 (by omega)) gv_X4_77 gv_X4_77_n ⟨rfl, rfl⟩ rfl hl.1 rfl (Nat.le_of_ble_eq_true rfl) dX4_read_129 ⟨by show 0 + 1 ≤ 4 * dp i + 8; omega, by show 8 + (6 + 11) + 0 ≤ 60 * dp i + 100; omega⟩ ⟨Nat.le_of_ble_eq_true rfl, Nat.le_of_ble_eq_true rfl⟩) (fun r_129 v_129 sc_129 ar_129 H locs p_129 h => ?_)
            rw [show rowL (ar3 k) fr cnt = T from by rw [ek_115, ← bl_115]; exact wrR_row _ _ _] at p_129
            have h : hH z v sc3 ar3 s H locs := uEq p_129.2 h
            rcases hco : cO kn T with _ | o0
            · skip
              refine tI (y := (-1)) (by rw [p_129.1, hco]; rfl) ?_
              refine lv_istore (lv' := [(9, .int ((-1))), (7, .int (nI (e2))), (8, .int (nI (kn))), (6, .ref (zad z (5 + f))), (5, .ref (zad z 2)), (0, .ref (wa i)), (1, .ref (zad z 1)), (2, .ref (zad z k)), (3, .int (nI (fr))), (4, .int (nI (cnt)))]) hx hb dX4_read_132 hl (by decide) rfl (fun ls hl => ?_)
              refine lv_iload hx hb dX4_read_134 (lv_at hl 0 rfl) ?_
              refine lv_iconst (v := (-1)) hx hb dX4_read_136 (by decide) ?_
              refine lv_icmp_ne (tgt := 149) hx hb dX4_read_137 (by decide) (fun c_137 => ?_) (fun c_137 => ?_)
              · skip
                exact absurd rfl c_137
              · skip
                refine lv_aload hx hb dX4_read_140 (lv_at hl 4 rfl) ?_
                refine lv_iconst (v := nI (3)) hx hb dX4_read_142 (by decide) ?_
                refine lv_iload hx hb dX4_read_143 (lv_at hl 1 rfl) ?_
                refine backI h (runV (As := [.int (nI (3)), .int (nI (e2))]) (rest := []) C h (k_fail l z v sc3 ar3 (nI 3) (nI e2)) gv_X4_73 gv_X4_73_n ⟨rfl, rfl⟩ (r_Tape C h) rfl hl.1 rfl (Nat.le_of_ble_eq_true rfl) dX4_read_145 ⟨by show 0 + 1 ≤ 4 * dp i + 8; omega, by show 8 + (3 + 11) + 0 ≤ 60 * dp i + 100; omega⟩ ⟨Nat.le_of_ble_eq_true rfl, Nat.le_of_ble_eq_true rfl⟩) (fun r_145 v_145 sc_145 ar_145 H locs p_145 h => ?_)
                have h : hH z v (va_up (va_up sc3 7 (nI (3))) 8 (nI (e2))) ar3 s H locs := uEq p_145.2 h
                refine tI (y := nI (0)) p_145.1 ?_
                exact rZ C hr hlk h dX4_read_148 rfl (Nat.le_of_ble_eq_true rfl) (Nat.le_of_ble_eq_true rfl) (have eq : RD wt dp (bN (ar 11)) n i cnt p = .inr (3, e2) := by rw [eRD]; simp only [ho_38, rb_l, if_neg hng, hcl, ho_91, ho_115, hco]
                  ⟨_, ar3, rfl, ⟨fun j a1 a2 a3 => by rw [va_up_ne _ _ a3, va_up_ne _ _ a2]; exact (((hS1.fr (k := k) (by omega) (by omega)).trans (hS2.fr (by omega) (by omega))).trans (hS3.mono (by omega)) : rS (dp i) k sc ar sc3 ar3).1 j a1 a2 a3, (((hS1.fr (k := k) (by omega) (by omega)).trans (hS2.fr (by omega) (by omega))).trans (hS3.mono (by omega)) : rS (dp i) k sc ar sc3 ar3).2⟩, by rw [eq]; exact ⟨rfl, (va_up_ne _ _ (by decide)).trans (va_up_self _ _ _), va_up_self _ _ _⟩⟩)
            · skip
              obtain ⟨hol, htk⟩ := cO_tok hco
              rw [bl_115] at hol
              refine tI (y := nI o0) (by rw [p_129.1, hco]; rfl) ?_
              refine lv_istore (lv' := [(9, .int (nI (o0))), (7, .int (nI (e2))), (8, .int (nI (kn))), (6, .ref (zad z (5 + f))), (5, .ref (zad z 2)), (0, .ref (wa i)), (1, .ref (zad z 1)), (2, .ref (zad z k)), (3, .int (nI (fr))), (4, .int (nI (cnt)))]) hx hb dX4_read_132 hl (by decide) rfl (fun ls hl => ?_)
              refine lv_iload hx hb dX4_read_134 (lv_at hl 0 rfl) ?_
              refine lv_iconst (v := (-1)) hx hb dX4_read_136 (by decide) ?_
              refine lv_icmp_ne (tgt := 149) hx hb dX4_read_137 (by decide) (fun c_137 => ?_) (fun c_137 => ?_)
              · skip
                refine lv_aload_n hx hb dX4_read_149 rfl (lv_at hl 5 rfl) ?_
                refine rw_X4_22 C h hpo dX4_read_150 ?_
                refine lv_aload_n hx hb dX4_read_153 rfl (lv_at hl 6 rfl) ?_
                refine lv_aload hx hb dX4_read_154 (lv_at hl 3 rfl) ?_
                refine rf_X4_54 hf C h dX4_read_156 ?_
                refine lv_iconst (v := nI (0)) hx hb dX4_read_159 (by decide) ?_
                refine lv_iload hx hb dX4_read_160 (lv_at hl 0 rfl) ?_
                refine vcR (i := wt i 4) (n := n) (p0 := e3) (k := 23 + f) (fr := 0) (cnt := o0) C h gu_X4_70_X1 gu_X4_70_X5 gu_X4_70_X4 hWT (by omega) (IH _ hj4) ⟨(hS3.1 3 (by decide) (by decide) (by decide)).trans s3_115, w2, e6_115, bn_115, ⟨hA4.2.2.1, by rw [hA4.2.2.2]; decide, by omega, by omega, by omega, by omega, by omega, by omega⟩, by rw [hA4.2.2.2]; omega, by omega⟩ hl.1 (Nat.le_of_ble_eq_true rfl) dX4_read_162 ⟨by show _ ≤ 4 * dp i + 8; omega, by show _ ≤ 60 * dp i + 100; omega⟩ (Nat.le_of_ble_eq_true rfl) (Nat.le_of_ble_eq_true rfl) (fun r_162 sc4 ar4 H locs hS4 hO_162 h => ?_)
                have e11_162 : ar3 11 = ar 11 := (hS3.2 11 (by omega) (by omega) (by omega)).trans e11_115
                rw [e11_162] at hO_162
                rcases ho_162 : RD wt dp (bN (ar 11)) n (wt i 4) (o0) (e3) with ⟨O, e4⟩ | ⟨f_162, q_162⟩
                · skip
                  rw [ho_162] at hO_162
                  obtain ⟨e1_162, e6_162, ek_162⟩ := hO_162
                  obtain ⟨bl_162, bp_162, bn_162⟩ := RD_bd (bN_lt _) _ (fun q hq => WT_ok hWT hi q (by omega)) _ _ _ _ ho_162
                  have bn_162 := bn_162 (by omega)
                  have s3_162 := (hS3.1 3 (by decide) (by decide) (by decide)).trans s3_115
                  have hkn50 : kn ≤ 50 := by omega
                  have e4k : ar4 k = wrR (ar k) fr T := (hS4.2 k (by omega) (by omega) (by omega)).trans ek_115
                  have e4f : ar4 (19 + f) = wrR (ar1 (19 + f)) 1 F := (hS4.2 _ (by omega) (by omega) (by omega)).trans ((hS3.2 _ (by omega) (by omega) (by omega)).trans ek_91)
                  have hFj : ∀ j, 1 ≤ j → j ≤ kn → ar4 (19 + f) j = (fun j => F.getD (j - 1) 0) j := fun j h1 h2 => by rw [e4f]; unfold wrR; rw [if_pos (by omega)]
                  have hOj : ∀ j, 0 ≤ j → j < 0 + o0 → ar4 (23 + f) j = (fun j => O.getD j 0) j := fun j h1 h2 => by rw [ek_162]; unfold wrR; rw [if_pos (by omega)]; rfl
                  have wrR_row' : rowL (wrR (ar k) fr T) fr cnt = T := by rw [← bl_115]; exact wrR_row _ _ _
                  refine tI (y := nI 1) e1_162 ?_
                  refine zN_ne (tgt := 170) (a := 1) C (by decide) dX4_read_165 (by decide) (fun _ => ?_) (fun q => absurd q (by decide))
                  refine lv_aload_n hx hb dX4_read_170 rfl (lv_at hl 7 rfl) ?_
                  refine lv_iload_n hx hb dX4_read_171 rfl (lv_at hl 8 rfl) ?_
                  refine lv_iload hx hb dX4_read_172 (lv_at hl 9 rfl) ?_
                  refine lv_aload hx hb dX4_read_174 (lv_at hl 3 rfl) ?_
                  refine backV h (runS (As := [.ref (zad z k), .int (nI (fr)), .int (nI (cnt)), .ref (zad z (5 + f))]) (rest := []) C h (k_replace l z v sc4 ar4 k fr cnt f k1 k2 w6 w7 hf (by omega) (by omega) (fun j hj1 hj2 => by rw [e4k]; unfold wrR; rw [if_pos (by omega)]; exact tok_of hkn50 htk (by omega))) gv_X4_81 gv_X4_81_n ⟨rfl, rfl⟩ rfl hl.1 rfl (Nat.le_of_ble_eq_true rfl) dX4_read_176 ⟨by show 0 + 1 ≤ 4 * dp i + 8; omega, by show 8 + (6 + 11) + 0 ≤ 60 * dp i + 100; omega⟩ ⟨Nat.le_of_ble_eq_true rfl, Nat.le_of_ble_eq_true rfl⟩) (fun v_176 sc_176 ar_176 H locs p_176 h => ?_)
                  have h := uEq p_176 h
                  refine lv_iconst (v := nI (1)) hx hb dX4_read_179 (by decide) ?_
                  exact rZ C hr hlk h dX4_read_180 rfl (Nat.le_of_ble_eq_true rfl) (Nat.le_of_ble_eq_true rfl) (have eq : RD wt dp (bN (ar 11)) n i cnt p = .inl (rpL (fun j => F.getD (j - 1) 0) (fun j => O.getD j 0) 0 T, e4) := by rw [eRD]; simp only [ho_38, rb_l, if_neg hng, hcl, ho_91, ho_115, hco, ho_162]
                    ⟨sc4, _, rfl, ⟨((((hS1.fr (k := k) (by omega) (by omega)).trans (hS2.fr (by omega) (by omega))).trans (hS3.mono (by omega))).trans (hS4.fr (by omega) (by omega)) : rS (dp i) k sc ar sc4 ar4).1, fun j a1 a2 a3 => by rw [va_up_ne _ _ a1]; exact ((((hS1.fr (k := k) (by omega) (by omega)).trans (hS2.fr (by omega) (by omega))).trans (hS3.mono (by omega))).trans (hS4.fr (by omega) (by omega)) : rS (dp i) k sc ar sc4 ar4).2 j a1 a2 a3⟩, by rw [eq]; exact ⟨rfl, e6_162, by rw [va_up_self, e4k, wrR_row', rpL_cg (kn := kn) (F' := fun j => F.getD (j - 1) 0) (Ln' := fun j => O.getD j 0) (by omega) hFj hco hOj, wrR_wrR _ _ (rpL_len _ _ _ _)]⟩⟩)
                · skip
                  rw [ho_162] at hO_162
                  obtain ⟨e1_162, e7_162, e8_162⟩ := hO_162
                  refine tI (y := nI 0) e1_162 ?_
                  refine zN_ne (tgt := 170) (a := 0) C (by decide) dX4_read_165 (by decide) (fun q => absurd q (by decide)) (fun _ => ?_)
                  refine lv_iconst (v := nI (0)) hx hb dX4_read_168 (by decide) ?_
                  exact rZ C hr hlk h dX4_read_169 rfl (Nat.le_of_ble_eq_true rfl) (Nat.le_of_ble_eq_true rfl) (have eq : RD wt dp (bN (ar 11)) n i cnt p = .inr (f_162, q_162) := by rw [eRD]; simp only [ho_38, rb_l, if_neg hng, hcl, ho_91, ho_115, hco, ho_162, rb_r]
                    ⟨sc4, ar4, rfl, (((hS1.fr (k := k) (by omega) (by omega)).trans (hS2.fr (by omega) (by omega))).trans (hS3.mono (by omega))).trans (hS4.fr (by omega) (by omega)), by rw [eq]; exact ⟨rfl, e7_162, e8_162⟩⟩)
              · skip
                exact absurd c_137 (nI_neg1 (by omega))
          · skip
            rw [ho_115] at hO_115
            obtain ⟨e1_115, e7_115, e8_115⟩ := hO_115
            refine tI (y := nI 0) e1_115 ?_
            refine zN_ne (tgt := 123) (a := 0) C (by decide) dX4_read_118 (by decide) (fun q => absurd q (by decide)) (fun _ => ?_)
            refine lv_iconst (v := nI (0)) hx hb dX4_read_121 (by decide) ?_
            exact rZ C hr hlk h dX4_read_122 rfl (Nat.le_of_ble_eq_true rfl) (Nat.le_of_ble_eq_true rfl) (have eq : RD wt dp (bN (ar 11)) n i cnt p = .inr (f_115, q_115) := by rw [eRD]; simp only [ho_38, rb_l, if_neg hng, hcl, ho_91, ho_115, rb_r]
              ⟨sc3, ar3, rfl, ((hS1.fr (k := k) (by omega) (by omega)).trans (hS2.fr (by omega) (by omega))).trans (hS3.mono (by omega)), by rw [eq]; exact ⟨rfl, e7_115, e8_115⟩⟩)
        · skip
          rw [ho_91] at hO_91
          obtain ⟨e1_91, e7_91, e8_91⟩ := hO_91
          refine tI (y := nI 0) e1_91 ?_
          refine zN_ne (tgt := 99) (a := 0) C (by decide) dX4_read_94 (by decide) (fun q => absurd q (by decide)) (fun _ => ?_)
          refine lv_iconst (v := nI (0)) hx hb dX4_read_97 (by decide) ?_
          exact rZ C hr hlk h dX4_read_98 rfl (Nat.le_of_ble_eq_true rfl) (Nat.le_of_ble_eq_true rfl) (have eq : RD wt dp (bN (ar 11)) n i cnt p = .inr (f_91, q_91) := by rw [eRD]; simp only [ho_38, rb_l, if_neg hng, hcl, ho_91, rb_r]
            ⟨sc2, ar2, rfl, (hS1.fr (k := k) (by omega) (by omega)).trans (hS2.fr (by omega) (by omega)), by rw [eq]; exact ⟨rfl, e7_91, e8_91⟩⟩)
      · skip
        refine lv_aload hx hb dX4_read_69 (lv_at hl 3 rfl) ?_
        refine lv_iconst (v := nI (3)) hx hb dX4_read_71 (by decide) ?_
        refine lv_iload hx hb dX4_read_72 (lv_at hl 1 rfl) ?_
        refine backI h (runV (As := [.int (nI (3)), .int (nI (p))]) (rest := []) C h (k_fail l z v sc1 ar1 (nI 3) (nI p)) gv_X4_73 gv_X4_73_n ⟨rfl, rfl⟩ (r_Tape C h) rfl hl.1 rfl (Nat.le_of_ble_eq_true rfl) dX4_read_74 ⟨by show 0 + 1 ≤ 4 * dp i + 8; omega, by show 8 + (3 + 11) + 0 ≤ 60 * dp i + 100; omega⟩ ⟨Nat.le_of_ble_eq_true rfl, Nat.le_of_ble_eq_true rfl⟩) (fun r_74 v_74 sc_74 ar_74 H locs p_74 h => ?_)
        have h : hH z v (va_up (va_up sc1 7 (nI (3))) 8 (nI (p))) ar1 s H locs := uEq p_74.2 h
        refine tI (y := nI (0)) p_74.1 ?_
        exact rZ C hr hlk h dX4_read_77 rfl (Nat.le_of_ble_eq_true rfl) (Nat.le_of_ble_eq_true rfl) (have eq : RD wt dp (bN (ar 11)) n i cnt p = .inr (3, p) := by rw [eRD]; simp only [ho_38, rb_l, if_pos (show hd.getD 0 0 < 0 ∨ nI (wt i 1) < hd.getD 0 0 from Or.inr (by rw [Int32.le_iff_toInt_le] at c_66; rw [Int32.lt_iff_toInt_lt]; omega))]
          ⟨_, ar1, rfl, ⟨fun j a1 a2 a3 => by rw [va_up_ne _ _ a3, va_up_ne _ _ a2]; exact hS1.1 j a1 a2 a3, (hS1.fr (by omega) (by omega) : rS (dp i) k sc ar sc1 ar1).2⟩, by rw [eq]; exact ⟨rfl, (va_up_ne _ _ (by decide)).trans (va_up_self _ _ _), va_up_self _ _ _⟩⟩)
  · skip
    rw [ho_38] at hO_38
    obtain ⟨e1_38, e7_38, e8_38⟩ := hO_38
    refine tI (y := nI 0) e1_38 ?_
    refine zN_ne (tgt := 46) (a := 0) C (by decide) dX4_read_41 (by decide) (fun q => absurd q (by decide)) (fun _ => ?_)
    refine lv_iconst (v := nI (0)) hx hb dX4_read_44 (by decide) ?_
    exact rZ C hr hlk h dX4_read_45 rfl (Nat.le_of_ble_eq_true rfl) (Nat.le_of_ble_eq_true rfl) (have eq : RD wt dp (bN (ar 11)) n i cnt p = .inr (f_38, q_38) := by rw [eRD, ho_38, rb_r]
      ⟨sc1, ar1, rfl, hS1.fr (by omega) (by omega), by rw [eq]; exact ⟨rfl, e7_38, e8_38⟩⟩)
/-- every way reads as RD says -/
theorem all_read (l : Launch) (z : bZ) (v : bV) (wt : Nat → Nat → Nat) (dp wa : Nat → Nat) (K : Nat) (hWT : WT v wt dp wa K) : ∀ i, i < K → rIH l z wt dp wa v i := by
  intro i
  induction i using Nat.strongRecOn with
  | ind i ih =>
    intro hi sc ar n p k fr cnt hw
    exact ⟨fun hs => k_rRead l z v sc ar wt dp wa K i n p k fr cnt hWT hi hs (fun j hj => ih j hj (by omega)) hw, fun hs => k_pRead l z v sc ar wt dp wa K i n p k fr cnt hWT hi hs (fun j hj => ih j hj (by omega)) hw⟩
