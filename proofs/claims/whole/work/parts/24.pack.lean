/-! BandMill: what a row costs, packing, the best way. -/
/-- what drafting leaves as it was -/
def dX (n : Nat) (sc : Nat → Int32) (ar : Nat → Nat → Int32) (sc1 : Nat → Int32) (ar1 : Nat → Nat → Int32) : Prop := (∀ i, i ≠ 5 → i ≠ 9 → i ≠ 10 → sc1 i = sc i) ∧ (∀ k, k ≠ 11 → k ≠ 14 → k ≠ 15 → k ≠ 16 → ¬ (19 ≤ k ∧ k < 27) → ar1 k = ar k) ∧ ∀ j, j < n → ar1 11 j = ar 11 j
theorem dX.refl {n : Nat} {sc : Nat → Int32} {ar : Nat → Nat → Int32} : dX n sc ar sc ar := ⟨fun _ _ _ _ => rfl, fun _ _ _ _ _ _ => rfl, fun _ _ => rfl⟩
theorem dX.trans {n : Nat} {sc sc1 sc2 : Nat → Int32} {ar ar1 ar2 : Nat → Nat → Int32} (h : dX n sc ar sc1 ar1) (h2 : dX n sc1 ar1 sc2 ar2) : dX n sc ar sc2 ar2 := ⟨fun i a b c => (h2.1 i a b c).trans (h.1 i a b c), fun k a b c d e => (h2.2.1 k a b c d e).trans (h.2.1 k a b c d e), fun j hj => (h2.2.2 j hj).trans (h.2.2 j hj)⟩
theorem dX.of {n q : Nat} {sc sc1 : Nat → Int32} {ar ar1 : Nat → Nat → Int32} {bs : List Nat} (hq : q ≤ 4) (h : wR q (va_up sc 5 (nI 0)) ar n 0 bs sc1 ar1) : dX n sc ar sc1 ar1 := ⟨fun i a b c => (h.1 i a b c).trans (va_up_ne _ _ a), fun k a b c d e => h.2.1 k a b c d (by omega) (by omega), fun j hj => by rw [h.2.2.2]; exact wrB_low (by omega)⟩
def wLen (wt : Nat → Nat → Nat) (dp : Nat → Nat) (xs : List Int32) (w : Nat) : Option Nat := (WR wt dp w xs).map List.length
def dR (n : Nat) (v : bV) (sc : Nat → Int32) (ar : Nat → Nat → Int32) (o : Option (List Nat)) (r : Int32) (u : bS) : Prop := ∃ (sc1 : Nat → Int32) (ar1 : Nat → Nat → Int32) (bs : List Nat), u = (v, sc1, ar1) ∧ dX n sc ar sc1 ar1 ∧ sc1 5 = nI bs.length ∧ ar1 11 = wrB (ar 11) n bs ∧ bs.length ≤ 1500000 ∧ ((r = nI bs.length ∧ o = some bs) ∨ (r = -1 ∧ o = none))
/-- the best of c ways from j1 on: way and bytes -/
def bst (wl : Nat → Option Nat) (j1 : Nat) : Nat → Option (Nat × Nat)
  | 0 => none
  | c + 1 => match wl (j1 + c) with
    | none => bst wl j1 c
    | some b => match bst wl j1 c with
      | none => some (j1 + c, b)
      | some x => if b < x.2 then some (j1 + c, b) else some x
theorem toIn {K j1 : Nat} {x : Int32} (hK : K ≤ 40) (hj : j1 < K) (h1 : ¬ x < nI j1) (h2 : ¬ nI K - 1 < x) : ∃ j2, j1 ≤ j2 ∧ j2 < K ∧ x = nI j2 := by
  have h0 : ¬ x < nI 0 := fun q => h1 (by rw [Int32.lt_iff_toInt_lt] at q ⊢; rw [nI_toInt (by omega)] at q ⊢; exact Int.lt_of_lt_of_le q (by omega))
  obtain ⟨j2, hj2, rfl⟩ := wayIn hK h0 h2
  rw [nI_ltI (by omega) (by omega)] at h1
  exact ⟨j2, by omega, hj2, rfl⟩
theorem toOut {K j1 : Nat} {x : Int32} (hK : K ≤ 40) (hj : j1 < K) (h : x < nI j1 ∨ nI K - 1 < x) : ¬ ∃ a b, nI j1 = nI a ∧ x = nI b ∧ a ≤ b ∧ b < K := by
  rintro ⟨a, b, ha, rfl, hab, hb⟩
  have := (nI_eq (by omega) (by omega)).mp ha
  subst this
  rcases h with h | h
  · rw [nI_ltI (by omega) (by omega)] at h; omega
  · exact wayOut hK (Or.inr h) ⟨b, hb, rfl⟩
theorem gv_X9_156 : GoodIn uW (wsV RX9 156 RX7 yX7_startDraft (Cond.code yX7_startDraft cX7_startDraft 1 none :: uW)) := gI_V (uW_of (by decide +kernel) rfl) (uW_of (by decide +kernel) rfl) (uW_of (by decide +kernel) rfl) (uW_of (by decide +kernel) rfl) (uW_of (by decide +kernel) rfl)
theorem gv_X9_156_n : okN yX7_startDraft 0 := by decide +kernel
set_option maxHeartbeats 4000000 in
set_option maxRecDepth 100000 in
theorem k_draftRow (l : Launch) (z : bZ) (v : bV) (sc : Nat → Int32) (ar : Nat → Nat → Int32) (K N n i : Nat) (wt : Nat → Nat → Nat) (dp wa : Nat → Nat) (hn : sc 3 = nI n) (hn8 : n ≤ 8000) (hN : sc 1 = nI N) (hN4 : N ≤ 400) (hWT : WT v wt dp wa K) (hi : i < K) : Met l yX9_draftRow (Cond.code yX9_draftRow cX9_draftRow 3 (some .int) :: uW) { frames := 25, cells := 0, slots := 0, locals := 366 } (pC z v sc ar [.ref (zad z 0), .ref (wa i)]) (qI z (fun r u => dR n v sc ar (WR wt dp i (rowL (ar 12) 0 N)) r u)) 0 0 (zA z) := by
  refine eM (by decide) (Nat.le_of_ble_eq_true rfl) ?_
  intro pP eE s mM below meth cC ls C hr hlk h hl
  have hx := C.1.1
  have hb := C.1.2.1
  have hl : lv_has ls 3 [(0, .ref (zad z 0)), (1, .ref (wa i))] := hl
  have hd4 := dpLe hWT hi
  refine lv_aload_n hx hb dX9_draftRow_0 rfl (lv_at hl 0 rfl) ?_
  refine rg_X9_32 C h dX9_draftRow_1 ?_
  refine rg_X9_99 C h dX9_draftRow_4 ?_
  refine lv_astore_n (lv' := [(2, .ref (zad z 2)), (0, .ref (zad z 0)), (1, .ref (wa i))]) hx hb dX9_draftRow_7 rfl hl (by decide) rfl (fun ls hl => ?_)
  refine lv_aload_n hx hb dX9_draftRow_8 rfl (lv_at hl 0 rfl) ?_
  refine backV h (runV (As := []) (rest := []) C h (k_startDraft l z v sc ar ) gv_X9_156 gv_X9_156_n ⟨rfl, rfl⟩ (r_Tape C h) rfl hl.1 rfl (Nat.le_of_ble_eq_true rfl) dX9_draftRow_9 ⟨Nat.le_of_ble_eq_true rfl, Nat.le_of_ble_eq_true rfl⟩ ⟨Nat.le_of_ble_eq_true rfl, Nat.le_of_ble_eq_true rfl⟩) (fun v_9 sc_9 ar_9 H locs p_9 h => ?_)
  have h : hH z v (va_up sc 5 (nI (0))) ar s H locs := uEq p_9 h
  refine lv_aload_n hx hb dX9_draftRow_12 rfl (lv_at hl 2 rfl) ?_
  refine lv_aload_n hx hb dX9_draftRow_13 rfl (lv_at hl 1 rfl) ?_
  refine rg_X9_32 C h dX9_draftRow_14 ?_
  refine lv_aload_n hx hb dX9_draftRow_17 rfl (lv_at hl 1 rfl) ?_
  refine rg_X9_19 C h dX9_draftRow_18 ?_
  refine lv_iconst (v := nI (0)) hx hb dX9_draftRow_21 (by decide) ?_
  refine lv_aload_n hx hb dX9_draftRow_22 rfl (lv_at hl 1 rfl) ?_
  refine rg_X9_23 C h dX9_draftRow_23 ?_
  refine tI (y := nI (N)) hN ?_
  refine vcW (i := i) (n := n) (d := 0) (k := 12) (fr := 0) (cnt := N) C h gu_X9_188_X1 gu_X9_188_X5 gu_X9_188_X4 hWT (by omega) (all_write l z v wt dp wa K hWT i hi) ⟨hn, hn8, rfl, by have := Bd_le (c := N) hd4 hN4; omega, ⟨rfl, by decide, by decide, by decide, by decide, by decide, by omega, by omega⟩, by show 0 + N ≤ 400; omega, hN4⟩ hl.1 (Nat.le_of_ble_eq_true rfl) dX9_draftRow_26 ⟨Nat.le_trans (show 4 * dp i + 9 ≤ 25 by omega) (Nat.le_of_ble_eq_true rfl), Nat.le_trans (show 60 * dp i + 126 ≤ 366 by omega) (Nat.le_of_ble_eq_true rfl)⟩ (Nat.le_of_ble_eq_true rfl) (Nat.le_of_ble_eq_true rfl) (fun r_26 bs1 sc1 ar1 H locs hR1 hB1 hr1 h => ?_)
  have hB1 := Nat.le_trans hB1 (Bd_le hd4 hN4)
  rcases hr1 with ⟨e1_26, e2_26⟩ | ⟨e1_26, e2_26⟩
  · skip
    refine tI (y := nI 1) e1_26 ?_
    refine zN_eq (tgt := 39) (a := 1) C (by decide) dX9_draftRow_29 (by decide) (fun q => absurd q (by decide)) (fun _ => ?_)
    refine lv_aload_n hx hb dX9_draftRow_32 rfl (lv_at hl 0 rfl) ?_
    refine rg_X9_191 C h dX9_draftRow_33 ?_
    refine tI (y := nI bs1.length) (by have e := hR1.2.2.1; rw [Nat.zero_add] at e; exact e) ?_
    refine lv_goto (tgt := 40) hx hb dX9_draftRow_36 (by decide) ?_
    exact rI C hr hlk h dX9_draftRow_40 (Nat.le_of_ble_eq_true rfl) (Nat.le_of_ble_eq_true rfl) (⟨sc1, ar1, bs1, rfl, dX.of hd4 hR1, by have e := hR1.2.2.1; rw [Nat.zero_add] at e; exact e, by have e := hR1.2.2.2; rw [Nat.add_zero] at e; exact e, hB1, Or.inl ⟨rfl, e2_26⟩⟩)
  · skip
    refine tI (y := nI 0) e1_26 ?_
    refine zN_eq (tgt := 39) (a := 0) C (by decide) dX9_draftRow_29 (by decide) (fun _ => ?_) (fun q => absurd q (by decide))
    refine lv_iconst (v := (-1)) hx hb dX9_draftRow_39 (by decide) ?_
    exact rI C hr hlk h dX9_draftRow_40 (Nat.le_of_ble_eq_true rfl) (Nat.le_of_ble_eq_true rfl) (⟨sc1, ar1, bs1, rfl, dX.of hd4 hR1, by have e := hR1.2.2.1; rw [Nat.zero_add] at e; exact e, by have e := hR1.2.2.2; rw [Nat.add_zero] at e; exact e, hB1, Or.inr ⟨rfl, e2_26⟩⟩)
theorem gv_X9_93 : GoodIn uW (wsV RX9 93 RX9 yX9_draftRow (Cond.code yX9_draftRow cX9_draftRow 3 (some .int) :: uW)) := gI_V (uW_of (by decide +kernel) rfl) (uW_of (by decide +kernel) rfl) (uW_of (by decide +kernel) rfl) (uW_of (by decide +kernel) rfl) (uW_of (by decide +kernel) rfl)
theorem gv_X9_93_n : okN yX9_draftRow 1 := by decide +kernel
set_option maxHeartbeats 4000000 in
set_option maxRecDepth 100000 in
theorem k_cost (l : Launch) (z : bZ) (v : bV) (sc : Nat → Int32) (ar : Nat → Nat → Int32) (hl0 : l.stackTraces = false) (K N n : Nat) (wt : Nat → Nat → Nat) (dp wa : Nat → Nat) (y : Int32) (hK : sc 0 = nI K) (hK4 : K ≤ 40) (hw : ∀ j, j < K → v.1 j = some (wa j)) (hWT : WT v wt dp wa K) (hn : sc 3 = nI n) (hn8 : n ≤ 8000) (hN : sc 1 = nI N) (hN4 : N ≤ 400) : vx_Met l yX9_cost (Cond.code yX9_cost cX9_cost 2 (some .int) :: uW) { frames := 26, cells := 1, slots := 6, locals := 388 } (pC z v sc ar [.ref (zad z 0), .int (y)]) (qI z (fun r u => ∃ j, j < K ∧ y = nI j ∧ dR n v sc ar (WR wt dp j (rowL (ar 12) 0 N)) r u)) (xX z (fun E u => E = xIA ∧ u = (v, sc, ar) ∧ ¬ isW K y)) 1 6 (zA z) := by
  refine eX (by decide) (Nat.le_of_ble_eq_true rfl) ?_
  intro pP eE s mM below meth cC ls C hr hlk hT h hl
  have hx := C.1.1
  have hb := C.1.2.1
  have hl : lv_has ls 2 [(0, .ref (zad z 0)), (1, .int (y))] := hl
  refine lv_aload_n hx hb dX9_cost_0 rfl (lv_at hl 0 rfl) ?_
  refine lv_aload_n hx hb dX9_cost_1 rfl (lv_at hl 0 rfl) ?_
  refine lv_iload_n hx hb dX9_cost_2 rfl (lv_at hl 1 rfl) ?_
  refine xbR h (xrV (As := [.int (y)]) (rest := [.ref (zad z 0)]) C h (k_wayAt l z v sc ar hl0 K wa y hK hK4 hw) gv_X9_63 gv_X9_63_n ⟨rfl, rfl⟩ (r_BM C h) rfl hl.1 rfl (Nat.le_of_ble_eq_true rfl) dX9_cost_3 ⟨Nat.le_of_ble_eq_true rfl, Nat.le_of_ble_eq_true rfl⟩ ⟨Nat.le_of_ble_eq_true rfl, Nat.le_of_ble_eq_true rfl⟩) (fun E' ce' q' v' sc' ar' H' locs' hp' h' c1' c2' c3' => xOut hT hlk h' c1' c2' c3' (Nat.le_of_ble_eq_true rfl) (Nat.le_of_ble_eq_true rfl) (hp')) (fun r_3 v_3 sc_3 ar_3 H locs p_3 h => ?_)
  have h : hH z v sc ar s H locs := uEq p_3.1 h
  obtain ⟨j, hj, rfl, rfl⟩ := p_3.2
  refine backI h (runV (As := [.ref (wa j)]) (rest := []) C h (k_draftRow l z v sc ar K N n j wt dp wa hn hn8 hN hN4 hWT hj) gv_X9_93 gv_X9_93_n ⟨rfl, rfl⟩ (r_BM C h) rfl hl.1 rfl (Nat.le_of_ble_eq_true rfl) dX9_cost_6 ⟨Nat.le_of_ble_eq_true rfl, Nat.le_of_ble_eq_true rfl⟩ ⟨Nat.le_of_ble_eq_true rfl, Nat.le_of_ble_eq_true rfl⟩) (fun r_6 v_6 sc_6 ar_6 H locs p_6 h => ?_)
  exact vx_ret (rI C hr hlk h dX9_cost_9 (Nat.le_of_ble_eq_true rfl) (Nat.le_of_ble_eq_true rfl) (⟨j, hj, rfl, p_6⟩))
theorem gv_X9_96 : GoodIn uW (wsV RX9 96 RX9 yX9_checkRoomOnTape (Cond.code yX9_checkRoomOnTape cX9_checkRoomOnTape 2 none :: uW)) := gI_V (uW_of (by decide +kernel) rfl) (uW_of (by decide +kernel) rfl) (uW_of (by decide +kernel) rfl) (uW_of (by decide +kernel) rfl) (uW_of (by decide +kernel) rfl)
theorem gv_X9_96_n : okN yX9_checkRoomOnTape 1 := by decide +kernel
theorem gv_X9_103 : GoodIn uW (wsV RX9 103 RX7 yX7_keepDraft (Cond.code yX7_keepDraft cX7_keepDraft 1 none :: uW)) := gI_V (uW_of (by decide +kernel) rfl) (uW_of (by decide +kernel) rfl) (uW_of (by decide +kernel) rfl) (uW_of (by decide +kernel) rfl) (uW_of (by decide +kernel) rfl)
theorem gv_X9_103_n : okN yX7_keepDraft 0 := by decide +kernel
set_option maxHeartbeats 4000000 in
set_option maxRecDepth 100000 in
theorem k_pack (l : Launch) (z : bZ) (v : bV) (sc : Nat → Int32) (ar : Nat → Nat → Int32) (hl0 : l.stackTraces = false) (K N n : Nat) (wt : Nat → Nat → Nat) (dp wa : Nat → Nat) (y : Int32) (hK : sc 0 = nI K) (hK4 : K ≤ 40) (hw : ∀ j, j < K → v.1 j = some (wa j)) (hWT : WT v wt dp wa K) (hn : sc 3 = nI n) (hn8 : n ≤ 8000) (hN : sc 1 = nI N) (hN4 : N ≤ 400) : vx_Met l yX9_pack (Cond.code yX9_pack cX9_pack 3 (some .int) :: uW) { frames := 26, cells := 2, slots := 12, locals := 388 } (pC z v sc ar [.ref (zad z 0), .int (y)]) (qI z (fun r u => ∃ j, j < K ∧ y = nI j ∧ ((∃ sc1 ar1, u = (v, sc1, ar1) ∧ dX n sc ar sc1 ar1 ∧ r = -1 ∧ WR wt dp j (rowL (ar 12) 0 N) = none) ∨ (∃ sc1 ar1 bs, u = (v, va_up (va_up sc1 3 (nI (n + bs.length))) 5 (nI 0), ar1) ∧ dX n sc ar sc1 ar1 ∧ ar1 11 = wrB (ar 11) n bs ∧ n + bs.length ≤ 8000 ∧ r = nI bs.length ∧ WR wt dp j (rowL (ar 12) 0 N) = some bs)))) (xX z (fun E u => (E = xIA ∧ u = (v, sc, ar) ∧ ¬ isW K y) ∨ (E = xIS ∧ ∃ j, j < K ∧ y = nI j ∧ ∃ sc1 ar1 bs, u = (v, sc1, ar1) ∧ dX n sc ar sc1 ar1 ∧ 8000 < n + bs.length ∧ WR wt dp j (rowL (ar 12) 0 N) = some bs))) 2 12 (zA z) := by
  refine eX (by decide) (Nat.le_of_ble_eq_true rfl) ?_
  intro pP eE s mM below meth cC ls C hr hlk hT h hl
  have hx := C.1.1
  have hb := C.1.2.1
  have hl : lv_has ls 3 [(0, .ref (zad z 0)), (1, .int (y))] := hl
  refine lv_aload_n hx hb dX9_pack_0 rfl (lv_at hl 0 rfl) ?_
  refine lv_aload_n hx hb dX9_pack_1 rfl (lv_at hl 0 rfl) ?_
  refine lv_iload_n hx hb dX9_pack_2 rfl (lv_at hl 1 rfl) ?_
  refine xbR h (xrV (As := [.int (y)]) (rest := [.ref (zad z 0)]) C h (k_wayAt l z v sc ar hl0 K wa y hK hK4 hw) gv_X9_63 gv_X9_63_n ⟨rfl, rfl⟩ (r_BM C h) rfl hl.1 rfl (Nat.le_of_ble_eq_true rfl) dX9_pack_3 ⟨Nat.le_of_ble_eq_true rfl, Nat.le_of_ble_eq_true rfl⟩ ⟨Nat.le_of_ble_eq_true rfl, Nat.le_of_ble_eq_true rfl⟩) (fun E' ce' q' v' sc' ar' H' locs' hp' h' c1' c2' c3' => xOut hT hlk h' c1' c2' c3' (Nat.le_of_ble_eq_true rfl) (Nat.le_of_ble_eq_true rfl) (Or.inl hp')) (fun r_3 v_3 sc_3 ar_3 H locs p_3 h => ?_)
  have h : hH z v sc ar s H locs := uEq p_3.1 h
  obtain ⟨j, hj, rfl, rfl⟩ := p_3.2
  refine backI h (runV (As := [.ref (wa j)]) (rest := []) C h (k_draftRow l z v sc ar K N n j wt dp wa hn hn8 hN hN4 hWT hj) gv_X9_93 gv_X9_93_n ⟨rfl, rfl⟩ (r_BM C h) rfl hl.1 rfl (Nat.le_of_ble_eq_true rfl) dX9_pack_6 ⟨Nat.le_of_ble_eq_true rfl, Nat.le_of_ble_eq_true rfl⟩ ⟨Nat.le_of_ble_eq_true rfl, Nat.le_of_ble_eq_true rfl⟩) (fun r_6 v_6 sc_6 ar_6 H locs p_6 h => ?_)
  obtain ⟨sc1, ar1, bs1, eu1, hx1, e51, e111, hb1, ho1⟩ := p_6
  have h := uEq eu1 h
  rcases ho1 with ⟨er1, eo1⟩ | ⟨er1, eo1⟩
  · skip
    refine tI (y := nI bs1.length) er1 ?_
    refine lv_istore_n (lv' := [(2, .int (nI (bs1.length))), (0, .ref (zad z 0)), (1, .int (nI (j)))]) hx hb dX9_pack_9 rfl hl (by decide) rfl (fun ls hl => ?_)
    refine lv_iload_n hx hb dX9_pack_10 rfl (lv_at hl 0 rfl) ?_
    refine lv_iconst (v := (-1)) hx hb dX9_pack_11 (by decide) ?_
    refine lv_icmp_ne (tgt := 17) hx hb dX9_pack_12 (by decide) (fun c_12 => ?_) (fun c_12 => ?_)
    · skip
      refine lv_aload_n hx hb dX9_pack_17 rfl (lv_at hl 1 rfl) ?_
      refine lv_iload_n hx hb dX9_pack_18 rfl (lv_at hl 0 rfl) ?_
      refine xbV h (xrV (As := [.int (nI (bs1.length))]) (rest := []) C h (k_checkRoomOnTape l z v sc1 ar1 hl0 n bs1.length ((hx1.1 3 (by decide) (by decide) (by decide)).trans hn) hn8 (by omega)) gv_X9_96 gv_X9_96_n ⟨rfl, rfl⟩ (r_BM C h) rfl hl.1 rfl (Nat.le_of_ble_eq_true rfl) dX9_pack_19 ⟨Nat.le_of_ble_eq_true rfl, Nat.le_of_ble_eq_true rfl⟩ ⟨Nat.le_of_ble_eq_true rfl, Nat.le_of_ble_eq_true rfl⟩) (fun E' ce' q' v' sc' ar' H' locs' hp' h' c1' c2' c3' => xOut hT hlk h' c1' c2' c3' (Nat.le_of_ble_eq_true rfl) (Nat.le_of_ble_eq_true rfl) (Or.inr ⟨hp'.1, j, hj, rfl, sc1, ar1, bs1, hp'.2.1, hx1, hp'.2.2, eo1⟩)) (fun v_19 sc_19 ar_19 H locs p_19 h => ?_)
      have h : hH z v sc1 ar1 s H locs := uEq p_19.1 h
      have hle := p_19.2
      refine lv_aload_n hx hb dX9_pack_22 rfl (lv_at hl 1 rfl) ?_
      refine rg_X9_32 C h dX9_pack_23 ?_
      refine rg_X9_99 C h dX9_pack_26 ?_
      refine backV h (runV (As := []) (rest := []) C h (k_keepDraft l z v sc1 ar1 n bs1.length ((hx1.1 3 (by decide) (by decide) (by decide)).trans hn) hn8 e51 (by omega)) gv_X9_103 gv_X9_103_n ⟨rfl, rfl⟩ (r_Tape C h) rfl hl.1 rfl (Nat.le_of_ble_eq_true rfl) dX9_pack_29 ⟨Nat.le_of_ble_eq_true rfl, Nat.le_of_ble_eq_true rfl⟩ ⟨Nat.le_of_ble_eq_true rfl, Nat.le_of_ble_eq_true rfl⟩) (fun v_29 sc_29 ar_29 H locs p_29 h => ?_)
      have h : hH z v (va_up (va_up sc1 3 (nI (min (n + bs1.length) 8000))) 5 (nI (0))) ar1 s H locs := uEq p_29 h
      refine lv_iload_n hx hb dX9_pack_32 rfl (lv_at hl 0 rfl) ?_
      exact vx_ret (rI C hr hlk h dX9_pack_33 (Nat.le_of_ble_eq_true rfl) (Nat.le_of_ble_eq_true rfl) (⟨j, hj, rfl, Or.inr ⟨sc1, ar1, bs1, by rw [Nat.min_eq_left hle], hx1, e111, hle, rfl, eo1⟩⟩))
    · skip
      exact absurd c_12 (nI_neg1 (by omega))
  · skip
    refine tI (y := (-1)) er1 ?_
    refine lv_istore_n (lv' := [(2, .int ((-1))), (0, .ref (zad z 0)), (1, .int (nI (j)))]) hx hb dX9_pack_9 rfl hl (by decide) rfl (fun ls hl => ?_)
    refine lv_iload_n hx hb dX9_pack_10 rfl (lv_at hl 0 rfl) ?_
    refine lv_iconst (v := (-1)) hx hb dX9_pack_11 (by decide) ?_
    refine lv_icmp_ne (tgt := 17) hx hb dX9_pack_12 (by decide) (fun c_12 => ?_) (fun c_12 => ?_)
    · skip
      exact absurd rfl c_12
    · skip
      refine lv_iconst (v := (-1)) hx hb dX9_pack_15 (by decide) ?_
      exact vx_ret (rI C hr hlk h dX9_pack_16 (Nat.le_of_ble_eq_true rfl) (Nat.le_of_ble_eq_true rfl) (⟨j, hj, rfl, Or.inl ⟨sc1, ar1, rfl, hx1, rfl, eo1⟩⟩))
set_option maxHeartbeats 4000000 in
set_option maxRecDepth 100000 in
theorem k_best (l : Launch) (z : bZ) (v : bV) (sc : Nat → Int32) (ar : Nat → Nat → Int32) (hl0 : l.stackTraces = false) (K N n : Nat) (wt : Nat → Nat → Nat) (dp wa : Nat → Nat) (y1 y2 : Int32) (hK : sc 0 = nI K) (hK4 : K ≤ 40) (hw : ∀ j, j < K → v.1 j = some (wa j)) (hWT : WT v wt dp wa K) (hn : sc 3 = nI n) (hn8 : n ≤ 8000) (hN : sc 1 = nI N) (hN4 : N ≤ 400) : vx_Met l yX9_best (Cond.code yX9_best cX9_best 7 (some .int) :: uW) { frames := 26, cells := 2, slots := 12, locals := 388 } (pC z v sc ar [.ref (zad z 0), .int (y1), .int (y2)]) (qI z (fun r u => ∃ j1 j2, y1 = nI j1 ∧ y2 = nI j2 ∧ j1 ≤ j2 ∧ j2 < K ∧ r = oI ((bst (wLen wt dp (rowL (ar 12) 0 N)) j1 (j2 + 1 - j1)).map Prod.fst) ∧ ∃ sc1 ar1, u = (v, sc1, ar1) ∧ dX n sc ar sc1 ar1)) (xX z (fun E u => E = xIA ∧ u = (v, sc, ar) ∧ ¬ ∃ a b, y1 = nI a ∧ y2 = nI b ∧ a ≤ b ∧ b < K)) 2 12 (zA z) := by
  refine eX (by decide) (Nat.le_of_ble_eq_true rfl) ?_
  intro pP eE s mM below meth cC ls C hr hlk hT h hl
  have hx := C.1.1
  have hb := C.1.2.1
  have hl : lv_has ls 7 [(0, .ref (zad z 0)), (1, .int (y1)), (2, .int (y2))] := hl
  refine lv_iload_n hx hb dX9_best_0 rfl (lv_at hl 1 rfl) ?_
  refine lv_iconst (v := nI (0)) hx hb dX9_best_1 (by decide) ?_
  refine lv_aload_n hx hb dX9_best_2 rfl (lv_at hl 0 rfl) ?_
  refine rg_X9_15 C h dX9_best_3 ?_
  refine tI (y := nI (K)) hK ?_
  refine lv_iconst (v := nI (1)) hx hb dX9_best_6 (by decide) ?_
  refine lv_isub hx hb dX9_best_7 ?_
  refine tI (y := nI (K) - 1) rfl ?_
  refine xbV h (xrS (As := [.int (y1), .int (nI (0)), .int (nI (K) - 1)]) (rest := []) C h (k_checkRange l z v sc ar hl0 y1 (nI 0) (nI (K) - 1)) gv_X9_46 gv_X9_46_n ⟨rfl, rfl⟩ rfl hl.1 rfl (Nat.le_of_ble_eq_true rfl) dX9_best_8 ⟨Nat.le_of_ble_eq_true rfl, Nat.le_of_ble_eq_true rfl⟩ ⟨Nat.le_of_ble_eq_true rfl, Nat.le_of_ble_eq_true rfl⟩) (fun E' ce' q' v' sc' ar' H' locs' hp' h' c1' c2' c3' => xOut hT hlk h' c1' c2' c3' (Nat.le_of_ble_eq_true rfl) (Nat.le_of_ble_eq_true rfl) (⟨hp'.1, hp'.2.1, fun ⟨a, b, e1, _, e3, e4⟩ => wayOut hK4 hp'.2.2 ⟨a, by omega, e1⟩⟩)) (fun v_8 sc_8 ar_8 H locs p_8 h => ?_)
  have h : hH z v sc ar s H locs := uEq p_8.1 h
  obtain ⟨j1, hj1, rfl⟩ := wayIn hK4 p_8.2.1 p_8.2.2
  refine lv_iload_n hx hb dX9_best_11 rfl (lv_at hl 2 rfl) ?_
  refine lv_iload_n hx hb dX9_best_12 rfl (lv_at hl 1 rfl) ?_
  refine lv_aload_n hx hb dX9_best_13 rfl (lv_at hl 0 rfl) ?_
  refine rg_X9_15 C h dX9_best_14 ?_
  refine tI (y := nI (K)) hK ?_
  refine lv_iconst (v := nI (1)) hx hb dX9_best_17 (by decide) ?_
  refine lv_isub hx hb dX9_best_18 ?_
  refine tI (y := nI (K) - 1) rfl ?_
  refine xbV h (xrS (As := [.int (y2), .int (nI (j1)), .int (nI (K) - 1)]) (rest := []) C h (k_checkRange l z v sc ar hl0 y2 (nI j1) (nI (K) - 1)) gv_X9_46 gv_X9_46_n ⟨rfl, rfl⟩ rfl hl.1 rfl (Nat.le_of_ble_eq_true rfl) dX9_best_19 ⟨Nat.le_of_ble_eq_true rfl, Nat.le_of_ble_eq_true rfl⟩ ⟨Nat.le_of_ble_eq_true rfl, Nat.le_of_ble_eq_true rfl⟩) (fun E' ce' q' v' sc' ar' H' locs' hp' h' c1' c2' c3' => xOut hT hlk h' c1' c2' c3' (Nat.le_of_ble_eq_true rfl) (Nat.le_of_ble_eq_true rfl) (⟨hp'.1, hp'.2.1, toOut hK4 hj1 hp'.2.2⟩)) (fun v_19 sc_19 ar_19 H locs p_19 h => ?_)
  have h : hH z v sc ar s H locs := uEq p_19.1 h
  obtain ⟨j2, hj12, hj2, rfl⟩ := toIn hK4 hj1 p_19.2.1 p_19.2.2
  refine lv_iconst (v := (-1)) hx hb dX9_best_22 (by decide) ?_
  refine lv_istore_n (lv' := [(3, .int ((-1))), (0, .ref (zad z 0)), (1, .int (nI (j1))), (2, .int (nI (j2)))]) hx hb dX9_best_23 rfl hl (by decide) rfl (fun ls hl => ?_)
  refine lv_iconst (v := (-1)) hx hb dX9_best_24 (by decide) ?_
  refine lv_istore (lv' := [(4, .int ((-1))), (3, .int ((-1))), (0, .ref (zad z 0)), (1, .int (nI (j1))), (2, .int (nI (j2)))]) hx hb dX9_best_25 hl (by decide) rfl (fun ls hl => ?_)
  refine lv_iload_n hx hb dX9_best_27 rfl (lv_at hl 3 rfl) ?_
  refine lv_istore (lv' := [(5, .int (nI (j1))), (4, .int ((-1))), (3, .int ((-1))), (0, .ref (zad z 0)), (1, .int (nI (j1))), (2, .int (nI (j2)))]) hx hb dX9_best_28 hl (by decide) rfl (fun ls hl => ?_)
  refine lpW4 (fun (i : Nat) (o : Option (Nat × Nat)) (sc1 : Nat → Int32) (ar1 : Nat → Nat → Int32) (H : Heap) (locs : List Loc) (ls : Array Slot) => (j1 ≤ i ∧ i ≤ j2 + 1) ∧ (o = bst (wLen wt dp (rowL (ar 12) 0 N)) j1 (i - j1)) ∧ (∀ x, o = some x → x.1 ≤ 40 ∧ x.2 ≤ 1500000) ∧ (dX n sc ar sc1 ar1) ∧ hH z v sc1 ar1 s H locs ∧ lv_has ls 7 [(0, .ref (zad z 0)), (2, .int (nI (j2))), (3, .int (oI (o.map Prod.fst))), (4, .int (oI (o.map Prod.snd))), (5, .int (nI (i)))]) (fun (i : Nat) (o : Option (Nat × Nat)) (sc1 : Nat → Int32) (ar1 : Nat → Nat → Int32) => j2 + 1 - i) (fun i o sc1 ar1 ih_30 H locs ls hI => ?_) (j1) (none) (sc) (ar) ⟨⟨Nat.le_refl _, by omega⟩, by rw [Nat.sub_self]; rfl, (fun x e => by cases e), dX.refl, h, lv_sub hl [3, 5, 2, 1, 0] rfl⟩
  obtain ⟨h1, h2, hob, hx1, h, hl⟩ := hI
  refine lv_iload hx hb dX9_best_30 (lv_at hl 4 rfl) ?_
  refine lv_iload_n hx hb dX9_best_32 rfl (lv_at hl 1 rfl) ?_
  refine jN_gt (tgt := 81) (a := i) (b := j2) C (by omega) (by omega) dX9_best_33 (by decide) (fun c_33 => ?_) (fun c_33 => ?_)
  · skip
    refine lv_iload_n hx hb dX9_best_81 rfl (lv_at hl 2 rfl) ?_
    exact vx_ret (rI C hr hlk h dX9_best_82 (Nat.le_of_ble_eq_true rfl) (Nat.le_of_ble_eq_true rfl) (⟨j1, j2, rfl, rfl, hj12, hj2, by rw [h2, show i - j1 = j2 + 1 - j1 by omega], sc1, ar1, rfl, hx1⟩))
  · skip
    refine lv_aload_n hx hb dX9_best_36 rfl (lv_at hl 0 rfl) ?_
    refine lv_aload_n hx hb dX9_best_37 rfl (lv_at hl 0 rfl) ?_
    refine rg_X9_11 C h dX9_best_38 ?_
    refine lv_iload hx hb dX9_best_41 (lv_at hl 4 rfl) ?_
    refine rLd (j := i) (a := wa i) C h (by omega) (hw i (by omega)) dX9_best_43 ?_
    refine backI h (runV (As := [.ref (wa i)]) (rest := []) C h (k_draftRow l z v sc1 ar1 K N n i wt dp wa ((hx1.1 3 (by decide) (by decide) (by decide)).trans hn) hn8 ((hx1.1 1 (by decide) (by decide) (by decide)).trans hN) hN4 hWT (by omega)) gv_X9_93 gv_X9_93_n ⟨rfl, rfl⟩ (r_BM C h) rfl hl.1 rfl (Nat.le_of_ble_eq_true rfl) dX9_best_44 ⟨Nat.le_of_ble_eq_true rfl, Nat.le_of_ble_eq_true rfl⟩ ⟨Nat.le_of_ble_eq_true rfl, Nat.le_of_ble_eq_true rfl⟩) (fun r_44 v_44 sc_44 ar_44 H locs p_44 h => ?_)
    rw [show ar1 12 = ar 12 from hx1.2.1 12 (by decide) (by decide) (by decide) (by decide) (by decide)] at p_44
    have hwl : (wLen wt dp (rowL (ar 12) 0 N)) i = (WR wt dp i (rowL (ar 12) 0 N)).map List.length := rfl
    obtain ⟨sc2, ar2, bs2, eu2, hx2, e52, e112, hb2, ho2⟩ := p_44
    have h := uEq eu2 h
    rcases ho2 with ⟨er2, eo2⟩ | ⟨er2, eo2⟩
    · skip
      refine tI (y := nI bs2.length) er2 ?_
      refine lv_istore (lv' := [(6, .int (nI (bs2.length))), (0, .ref (zad z 0)), (2, .int (nI (j2))), (3, .int (oI (o.map Prod.fst))), (4, .int (oI (o.map Prod.snd))), (5, .int (nI (i)))]) hx hb dX9_best_47 hl (by decide) rfl (fun ls hl => ?_)
      refine lv_iload hx hb dX9_best_49 (lv_at hl 0 rfl) ?_
      refine lv_iconst (v := (-1)) hx hb dX9_best_51 (by decide) ?_
      refine lv_icmp_eq (tgt := 75) hx hb dX9_best_52 (by decide) (fun c_52 => ?_) (fun c_52 => ?_)
      · skip
        exact absurd c_52 (nI_neg1 (by omega))
      · skip
        refine lv_iload hx hb dX9_best_55 (lv_at hl 4 rfl) ?_
        refine lv_iconst (v := (-1)) hx hb dX9_best_57 (by decide) ?_
        refine lv_icmp_eq (tgt := 68) hx hb dX9_best_58 (by decide) (fun c_58 => ?_) (fun c_58 => ?_)
        · skip
          have eo : o = none := by
            rcases o with _ | x
            · rfl
            · exact absurd c_58 (nI_neg1 (by have := hob x rfl; show x.2 < _; omega))
          refine lv_iload hx hb dX9_best_68 (lv_at hl 5 rfl) ?_
          refine lv_istore_n (lv' := [(3, .int (nI (i))), (6, .int (nI (bs2.length))), (0, .ref (zad z 0)), (2, .int (nI (j2))), (4, .int (oI (o.map Prod.snd))), (5, .int (nI (i)))]) hx hb dX9_best_70 rfl hl (by decide) rfl (fun ls hl => ?_)
          refine lv_iload hx hb dX9_best_71 (lv_at hl 1 rfl) ?_
          refine lv_istore (lv' := [(4, .int (nI (bs2.length))), (3, .int (nI (i))), (6, .int (nI (bs2.length))), (0, .ref (zad z 0)), (2, .int (nI (j2))), (5, .int (nI (i)))]) hx hb dX9_best_73 hl (by decide) rfl (fun ls hl => ?_)
          refine lv_iinc (v := nI (i + 1)) (lv' := [(5, .int (nI (i + 1))), (4, .int (nI (bs2.length))), (3, .int (nI (i))), (6, .int (nI (bs2.length))), (0, .ref (zad z 0)), (2, .int (nI (j2)))]) hx hb dX9_best_75 hl (k := 5) rfl (nN_inc _) (by decide) rfl (fun ls hl => ?_)
          refine lv_goto (tgt := 30) hx hb dX9_best_78 (by decide) ?_
          exact ih_30 (i + 1) (some (i, bs2.length)) (sc2) (ar2) (by omega) H locs ls ⟨⟨by omega, by omega⟩, by rw [show i + 1 - j1 = i - j1 + 1 by omega]; unfold bst; rw [show j1 + (i - j1) = i by omega, hwl, eo2, ← h2, eo]; rfl, (fun y e => by cases e; exact ⟨by omega, by show bs2.length ≤ _; omega⟩), hx1.trans hx2, h, lv_sub hl [4, 5, 2, 1, 0] rfl⟩
        · skip
          obtain ⟨x, eo⟩ : ∃ x, o = some x := by
            rcases o with _ | x
            · exact absurd rfl c_58
            · exact ⟨x, rfl⟩
          have hx1b := hob x eo
          have hl : lv_has ls 7 [(6, .int (nI (bs2.length))), (0, .ref (zad z 0)), (2, .int (nI (j2))), (3, .int (nI (x.1))), (4, .int (nI (x.2))), (5, .int (nI (i)))] := by rw [eo] at hl; exact hl
          refine lv_iload hx hb dX9_best_61 (lv_at hl 0 rfl) ?_
          refine lv_iload hx hb dX9_best_63 (lv_at hl 4 rfl) ?_
          refine jN_ge (tgt := 75) (a := bs2.length) (b := x.2) C (by omega) (by omega) dX9_best_65 (by decide) (fun c_65 => ?_) (fun c_65 => ?_)
          · skip
            refine lv_iinc (v := nI (i + 1)) (lv' := [(5, .int (nI (i + 1))), (6, .int (nI (bs2.length))), (0, .ref (zad z 0)), (2, .int (nI (j2))), (3, .int (nI (x.1))), (4, .int (nI (x.2)))]) hx hb dX9_best_75 hl (k := 5) rfl (nN_inc _) (by decide) rfl (fun ls hl => ?_)
            refine lv_goto (tgt := 30) hx hb dX9_best_78 (by decide) ?_
            exact ih_30 (i + 1) (some x) (sc2) (ar2) (by omega) H locs ls ⟨⟨by omega, by omega⟩, by rw [show i + 1 - j1 = i - j1 + 1 by omega]; unfold bst; rw [show j1 + (i - j1) = i by omega, hwl, eo2, ← h2, eo]; show some x = if bs2.length < x.2 then _ else some x; rw [if_neg (by omega)], fun y e => hob y (eo.trans e), hx1.trans hx2, h, lv_sub hl [2, 3, 4, 5, 0] rfl⟩
          · skip
            refine lv_iload hx hb dX9_best_68 (lv_at hl 5 rfl) ?_
            refine lv_istore_n (lv' := [(3, .int (nI (i))), (6, .int (nI (bs2.length))), (0, .ref (zad z 0)), (2, .int (nI (j2))), (4, .int (nI (x.2))), (5, .int (nI (i)))]) hx hb dX9_best_70 rfl hl (by decide) rfl (fun ls hl => ?_)
            refine lv_iload hx hb dX9_best_71 (lv_at hl 1 rfl) ?_
            refine lv_istore (lv' := [(4, .int (nI (bs2.length))), (3, .int (nI (i))), (6, .int (nI (bs2.length))), (0, .ref (zad z 0)), (2, .int (nI (j2))), (5, .int (nI (i)))]) hx hb dX9_best_73 hl (by decide) rfl (fun ls hl => ?_)
            refine lv_iinc (v := nI (i + 1)) (lv' := [(5, .int (nI (i + 1))), (4, .int (nI (bs2.length))), (3, .int (nI (i))), (6, .int (nI (bs2.length))), (0, .ref (zad z 0)), (2, .int (nI (j2)))]) hx hb dX9_best_75 hl (k := 5) rfl (nN_inc _) (by decide) rfl (fun ls hl => ?_)
            refine lv_goto (tgt := 30) hx hb dX9_best_78 (by decide) ?_
            exact ih_30 (i + 1) (some (i, bs2.length)) (sc2) (ar2) (by omega) H locs ls ⟨⟨by omega, by omega⟩, by rw [show i + 1 - j1 = i - j1 + 1 by omega]; unfold bst; rw [show j1 + (i - j1) = i by omega, hwl, eo2, ← h2, eo]; show _ = if bs2.length < x.2 then some (i, bs2.length) else some x; rw [if_pos c_65], (fun y e => by cases e; exact ⟨by omega, by show bs2.length ≤ _; omega⟩), hx1.trans hx2, h, lv_sub hl [4, 5, 2, 1, 0] rfl⟩
    · skip
      refine tI (y := (-1)) er2 ?_
      refine lv_istore (lv' := [(6, .int ((-1))), (0, .ref (zad z 0)), (2, .int (nI (j2))), (3, .int (oI (o.map Prod.fst))), (4, .int (oI (o.map Prod.snd))), (5, .int (nI (i)))]) hx hb dX9_best_47 hl (by decide) rfl (fun ls hl => ?_)
      refine lv_iload hx hb dX9_best_49 (lv_at hl 0 rfl) ?_
      refine lv_iconst (v := (-1)) hx hb dX9_best_51 (by decide) ?_
      refine lv_icmp_eq (tgt := 75) hx hb dX9_best_52 (by decide) (fun c_52 => ?_) (fun c_52 => ?_)
      · skip
        refine lv_iinc (v := nI (i + 1)) (lv' := [(5, .int (nI (i + 1))), (6, .int ((-1))), (0, .ref (zad z 0)), (2, .int (nI (j2))), (3, .int (oI (o.map Prod.fst))), (4, .int (oI (o.map Prod.snd)))]) hx hb dX9_best_75 hl (k := 5) rfl (nN_inc _) (by decide) rfl (fun ls hl => ?_)
        refine lv_goto (tgt := 30) hx hb dX9_best_78 (by decide) ?_
        exact ih_30 (i + 1) (o) (sc2) (ar2) (by omega) H locs ls ⟨⟨by omega, by omega⟩, by rw [show i + 1 - j1 = i - j1 + 1 by omega]; unfold bst; rw [show j1 + (i - j1) = i by omega, hwl, eo2, ← h2]; rfl, hob, hx1.trans hx2, h, lv_sub hl [2, 3, 4, 5, 0] rfl⟩
      · skip
        exact absurd rfl c_52
