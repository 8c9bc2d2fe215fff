theorem rowL_take (f : Nat → Int32) : ∀ (cnt n fr : Nat), (rowL f fr cnt).take n = rowL f fr (min n cnt)
  | 0, n, fr => by rw [Nat.min_zero]; simp [rowL]
  | cnt + 1, 0, fr => by rw [Nat.zero_min]; simp [rowL]
  | cnt + 1, n + 1, fr => by
    rw [show min (n + 1) (cnt + 1) = min n cnt + 1 by omega]
    unfold rowL
    rw [List.take_succ_cons, rowL_take f cnt n (fr + 1)]
theorem rowL_drop (f : Nat → Int32) : ∀ (cnt n fr : Nat), (rowL f fr cnt).drop n = rowL f (fr + min n cnt) (cnt - min n cnt)
  | 0, n, fr => by rw [Nat.min_zero]; simp [rowL]
  | cnt + 1, 0, fr => by rw [Nat.zero_min]; rfl
  | cnt + 1, n + 1, fr => by
    rw [show min (n + 1) (cnt + 1) = min n cnt + 1 by omega, show cnt + 1 - (min n cnt + 1) = cnt - min n cnt by omega]
    conv => lhs; unfold rowL
    rw [List.drop_succ_cons, rowL_drop f cnt n (fr + 1), show fr + 1 + min n cnt = fr + (min n cnt + 1) by omega]
theorem rowL_getD (f : Nat → Int32) : ∀ (cnt fr i : Nat), i < cnt → (rowL f fr cnt).getD i 0 = f (fr + i)
  | 0, _, _, h => absurd h (Nat.not_lt_zero _)
  | cnt + 1, fr, 0, _ => rfl
  | cnt + 1, fr, i + 1, h => by
    unfold rowL
    rw [List.getD_cons_succ, rowL_getD f cnt (fr + 1) i (by omega), show fr + 1 + i = fr + (i + 1) by omega]
theorem rowL_map {f g : Nat → Int32} (φ : Int32 → Int32) : ∀ (cnt a b : Nat), (∀ i, i < cnt → g (a + i) = φ (f (b + i))) → rowL g a cnt = (rowL f b cnt).map φ
  | 0, _, _, _ => rfl
  | cnt + 1, a, b, h => by
    unfold rowL
    rw [List.map_cons, rowL_map φ cnt (a + 1) (b + 1) (fun i hi => by have := h (i + 1) (by omega); rw [show a + (i + 1) = a + 1 + i by omega, show b + (i + 1) = b + 1 + i by omega] at this; exact this)]
    have := h 0 (by omega)
    rw [Nat.add_zero, Nat.add_zero] at this
    rw [this]
theorem rowL_list {g : Nat → Int32} : ∀ (xs : List Int32) (a : Nat), (∀ i, i < xs.length → g (a + i) = xs.getD i 0) → rowL g a xs.length = xs
  | [], _, _ => rfl
  | x :: xs, a, h => by
    rw [List.length_cons]
    unfold rowL
    rw [rowL_list xs (a + 1) (fun i hi => by have := h (i + 1) (by simp; omega); rw [show a + (i + 1) = a + 1 + i by omega, List.getD_cons_succ] at this; exact this)]
    have := h 0 (by simp)
    rw [Nat.add_zero, List.getD_cons_zero] at this
    rw [this]
theorem rowL_snoc (f : Nat → Int32) : ∀ (n fr : Nat), rowL f fr (n + 1) = rowL f fr n ++ [f (fr + n)]
  | 0, fr => rfl
  | n + 1, fr => by
    rw [show rowL f fr (n + 1 + 1) = f fr :: rowL f (fr + 1) (n + 1) from rfl, rowL_snoc f n (fr + 1), show fr + 1 + n = fr + (n + 1) by omega]
    rfl
theorem oth_row (f : Nat → Int32) (F : List Int32) (fr : Nat) : ∀ cnt, oth (fun i => f (fr + i)) (fun i => tok F (f (fr + i))) cnt = othL F (rowL f fr cnt)
  | 0 => rfl
  | cnt + 1 => by
    rw [rowL_snoc]
    unfold othL
    rw [List.filter_append, show oth (fun i => f (fr + i)) (fun i => tok F (f (fr + i))) (cnt + 1) = oth (fun i => f (fr + i)) (fun i => tok F (f (fr + i))) cnt ++ (if tok F (f (fr + cnt)) = 0 then [f (fr + cnt)] else []) from rfl, oth_row f F fr cnt]
    unfold othL
    congr 1
    by_cases h : tok F (f (fr + cnt)) = 0 <;> simp [h]
theorem cN_cg {R R' : Nat → Int32} {x : Int32} : ∀ n, (∀ i, i < n → R i = R' i) → cN R x n = cN R' x n
  | 0, _ => rfl
  | n + 1, h => by unfold cN; rw [cN_cg n (fun i hi => h i (by omega)), h n (by omega)]
theorem nw_cg {R R' : Nat → Int32} {x : Int32} : ∀ n, (∀ i, i < n → R i = R' i) → nw R x n = nw R' x n
  | 0, _ => rfl
  | n + 1, h => by unfold nw; rw [nw_cg n (fun i hi => h i (by omega)), h n (by omega)]
theorem mp_cg {c c' : Nat → Nat} : ∀ K, (∀ j, j < K → c j = c' j) → mp c K = mp c' K
  | 0, _ => rfl
  | K + 1, h => by unfold mp; rw [mp_cg K (fun j hj => h j (by omega)), h K (by omega)]
theorem fv_cg {K : Nat} : ∀ (m : Nat) (c c' : Nat → Nat), (∀ j, j < K → c j = c' j) → fv c K m = fv c' K m
  | 0, _, _, _ => rfl
  | m + 1, c, c', h => by
    unfold fv
    rw [mp_cg K h]
    cases (mp c' K).1 with
    | none => rfl
    | some q =>
      simp only
      rw [fv_cg m (va_up c q 0) (va_up c' q 0) (fun j hj => by unfold va_up; split; rfl; exact h j hj)]
theorem favs_cg {R R' : Nat → Int32} {n m : Nat} (h : ∀ i, i < n → R i = R' i) : favs R n m = favs R' n m := by
  unfold favs
  rw [fv_cg m (oft R n) (oft R' n) (fun j hj => by
    unfold oft
    rw [h j hj, nw_cg j (fun i hi => h i (by omega)), cN_cg n h])]
  exact List.map_congr_left (fun j hj => h j (fv_lt m _ j hj).1)
theorem favL_row {f : Nat → Int32} {fr cnt m : Nat} : favL m (rowL f fr cnt) = favs (fun i => f (fr + i)) cnt m := by
  unfold favL
  rw [rowL_len]
  exact favs_cg (fun i hi => rowL_getD f cnt fr i hi)
theorem favs_len {R : Nat → Int32} {n m : Nat} : (favs R n m).length ≤ m := by
  unfold favs; rw [List.length_map]; exact fv_len m _
theorem othL_le (F xs : List Int32) : (othL F xs).length ≤ xs.length := List.length_filter_le _ _
theorem um_X5_20 : Cond.methodLink RX5 20 Lib.Math.min.name ∈ uW := uW_of (by decide +kernel) rfl
set_option maxHeartbeats 4000000 in
set_option maxRecDepth 100000 in
/-- Run.write -/
theorem k_rWrite (l : Launch) (z : bZ) (v : bV) (sc : Nat → Int32) (ar : Nat → Nat → Int32) (wt : Nat → Nat → Nat) (dp wa : Nat → Nat) (K i n d k fr cnt : Nat) (hWT : WT v wt dp wa K) (hi : i < K) (hs : wt i 0 = 1) (IH : ∀ j, j < i → wIH l z wt dp wa v j) (hw : wH sc n d (dp i) k fr cnt) : Met l yX5_write (Cond.code yX5_write cX5_write 6 (some .boolean) :: uW) (rmW (dp i)) (pC z v sc ar [.ref (wa i), .ref (zad z 1), .ref (zad z k), .int (nI (fr)), .int (nI (cnt))]) (qI z (fun r u => wQ v sc ar n d (dp i) cnt (WR wt dp i (rowL (ar k) fr cnt)) r u)) 0 0 (zA z) := by
  refine eM (by decide) (Nat.le_of_ble_eq_true rfl) ?_
  intro pP eE s mM below meth cC ls C hr hlk h hl
  have hx := C.1.1
  have hb := C.1.2.1
  have hl : lv_has ls 6 [(0, .ref (wa i)), (1, .ref (zad z 1)), (2, .ref (zad z k)), (3, .int (nI (fr))), (4, .int (nI (cnt)))] := hl
  obtain ⟨hrn, hn4, hj2, hj3, hd2, hd3, hd4⟩ := WT_run hWT hi hs
  obtain ⟨w1, w2, w3, w4, w5, w6, w7⟩ := id hw
  refine lv_aload_n hx hb dX5_write_0 rfl (lv_at hl 0 rfl) ?_
  refine rw_X5_7 C h hrn dX5_write_1 ?_
  refine lv_iload hx hb dX5_write_4 (lv_at hl 4 rfl) ?_
  refine mmin C hl.1 um_X5_20 (by show 1 ≤ 4 * dp i + 8; omega) (by show 0 + 13 ≤ 60 * dp i + 100; omega) (Nat.zero_le _) (Nat.zero_le _) dX5_write_6 ?_
  refine tI (nN_min (by omega) (by omega)) ?_
  refine lv_istore (lv' := [(5, .int (nI (min (wt i 1) (cnt)))), (0, .ref (wa i)), (1, .ref (zad z 1)), (2, .ref (zad z k)), (3, .int (nI (fr))), (4, .int (nI (cnt)))]) hx hb dX5_write_9 hl (by decide) rfl (fun ls hl => ?_)
  obtain ⟨hh, ehh⟩ : ∃ q, q = min (wt i 1) cnt := ⟨_, rfl⟩
  have hl : lv_has ls 6 [(5, .int (nI (hh))), (0, .ref (wa i)), (1, .ref (zad z 1)), (2, .ref (zad z k)), (3, .int (nI (fr))), (4, .int (nI (cnt)))] := by rw [ehh]; exact hl
  have hBr := Bd_run (q := dp i - 1) (a := hh) (b := cnt - hh)
  rw [show dp i - 1 + 1 = dp i by omega, show hh + (cnt - hh) = cnt by omega] at hBr
  have hBa : Bd (dp (wt i 2)) hh ≤ Bd (dp i - 1) hh := Bd_mono (by omega) (Nat.le_refl _)
  have hBb : Bd (dp (wt i 3)) (cnt - hh) ≤ Bd (dp i - 1) (cnt - hh) := Bd_mono (by omega) (Nat.le_refl _)
  have eWR := WR_run (xs := rowL (ar k) fr cnt) (WT_ok hWT hi) hs
  rw [rowL_take, rowL_drop, ← ehh] at eWR
  refine lv_aload_n hx hb dX5_write_11 rfl (lv_at hl 1 rfl) ?_
  refine rw_X5_13 C h hrn dX5_write_12 ?_
  refine lv_aload_n hx hb dX5_write_15 rfl (lv_at hl 2 rfl) ?_
  refine lv_aload_n hx hb dX5_write_16 rfl (lv_at hl 3 rfl) ?_
  refine lv_iload_n hx hb dX5_write_17 rfl (lv_at hl 4 rfl) ?_
  refine lv_iload hx hb dX5_write_18 (lv_at hl 0 rfl) ?_
  refine vcW (i := wt i 2) (n := n) (d := d) (k := k) (fr := fr) (cnt := hh) C h gu_X5_26_X1 gu_X5_26_X5 gu_X5_26_X4 hWT (by omega) (IH _ hj2) ⟨w1, w2, w3, by omega, w5.mono (by omega), by omega, by omega⟩ hl.1 (Nat.le_of_ble_eq_true rfl) dX5_write_20 ⟨by show _ ≤ 4 * dp i + 8; omega, by show _ ≤ 60 * dp i + 100; omega⟩ (Nat.le_of_ble_eq_true rfl) (Nat.le_of_ble_eq_true rfl) (fun r_20 bs1 sc1 ar1 H locs hR1 hB1 hr1 h => ?_)
  rcases hr1 with ⟨e1_20, e2_20⟩ | ⟨e1_20, e2_20⟩
  · skip
    refine tI (y := nI 1) e1_20 ?_
    refine zN_eq (tgt := 51) (a := 1) C (by decide) dX5_write_23 (by decide) (fun q => absurd q (by decide)) (fun _ => ?_)
    refine lv_aload_n hx hb dX5_write_26 rfl (lv_at hl 1 rfl) ?_
    refine rw_X5_17 C h hrn dX5_write_27 ?_
    refine lv_aload_n hx hb dX5_write_30 rfl (lv_at hl 2 rfl) ?_
    refine lv_aload_n hx hb dX5_write_31 rfl (lv_at hl 3 rfl) ?_
    refine lv_iload_n hx hb dX5_write_32 rfl (lv_at hl 4 rfl) ?_
    refine lv_iload hx hb dX5_write_33 (lv_at hl 0 rfl) ?_
    refine lv_iadd hx hb dX5_write_35 ?_
    refine tI (nI_add _ _) ?_
    refine lv_iload hx hb dX5_write_36 (lv_at hl 5 rfl) ?_
    refine lv_iload hx hb dX5_write_38 (lv_at hl 0 rfl) ?_
    refine lv_isub hx hb dX5_write_40 ?_
    refine tI (pk_sub (by omega)) ?_
    refine vcW (i := wt i 3) (n := n) (d := d + bs1.length) (k := k) (fr := fr + hh) (cnt := cnt - hh) C h gu_X5_26_X1 gu_X5_26_X5 gu_X5_26_X4 hWT (by omega) (IH _ hj3) ⟨(hR1.1 3 (by decide) (by decide) (by decide)).trans w1, w2, hR1.2.2.1, by omega, w5.mono (by omega), by omega, by omega⟩ hl.1 (Nat.le_of_ble_eq_true rfl) dX5_write_41 ⟨by show _ ≤ 4 * dp i + 8; omega, by show _ ≤ 60 * dp i + 100; omega⟩ (Nat.le_of_ble_eq_true rfl) (Nat.le_of_ble_eq_true rfl) (fun r_41 bs2 sc2 ar2 H locs hR2 hB2 hr2 h => ?_)
    have ek : ar1 k = ar k := hR1.2.1 k w5.2.2.1 w5.2.2.2.1 w5.2.2.2.2.1 w5.2.2.2.2.2.1 (by have := w5.2.2.2.2.2.2.1; omega) (by have := w5.2.2.2.2.2.2.2; omega)
    rw [ek] at hr2
    rcases hr2 with ⟨e1_41, e2_41⟩ | ⟨e1_41, e2_41⟩
    · skip
      refine tI (y := nI 1) e1_41 ?_
      refine zN_eq (tgt := 51) (a := 1) C (by decide) dX5_write_44 (by decide) (fun q => absurd q (by decide)) (fun _ => ?_)
      refine lv_iconst (v := nI (1)) hx hb dX5_write_47 (by decide) ?_
      refine lv_goto (tgt := 52) hx hb dX5_write_48 (by decide) ?_
      exact rZ C hr hlk h dX5_write_52 rfl (Nat.le_of_ble_eq_true rfl) (Nat.le_of_ble_eq_true rfl) (⟨bs1 ++ bs2, sc2, ar2, rfl, (hR1.mono (by omega)).trans (hR2.mono (by omega)), by rw [List.length_append]; omega, Or.inl ⟨rfl, by rw [eWR, e2_20, e2_41]; rfl⟩⟩)
    · skip
      refine tI (y := nI 0) e1_41 ?_
      refine zN_eq (tgt := 51) (a := 0) C (by decide) dX5_write_44 (by decide) (fun _ => ?_) (fun q => absurd q (by decide))
      refine lv_iconst (v := nI (0)) hx hb dX5_write_51 (by decide) ?_
      exact rZ C hr hlk h dX5_write_52 rfl (Nat.le_of_ble_eq_true rfl) (Nat.le_of_ble_eq_true rfl) (⟨bs1 ++ bs2, sc2, ar2, rfl, (hR1.mono (by omega)).trans (hR2.mono (by omega)), by rw [List.length_append]; omega, Or.inr ⟨rfl, by rw [eWR, e2_20, e2_41]; rfl⟩⟩)
  · skip
    refine tI (y := nI 0) e1_20 ?_
    refine zN_eq (tgt := 51) (a := 0) C (by decide) dX5_write_23 (by decide) (fun _ => ?_) (fun q => absurd q (by decide))
    refine lv_iconst (v := nI (0)) hx hb dX5_write_51 (by decide) ?_
    exact rZ C hr hlk h dX5_write_52 rfl (Nat.le_of_ble_eq_true rfl) (Nat.le_of_ble_eq_true rfl) (⟨bs1, sc1, ar1, rfl, hR1.mono (by omega), by omega, Or.inr ⟨rfl, by rw [eWR, e2_20]; rfl⟩⟩)
theorem wrR_at0 (f : Nat → Int32) (x : Int32) (xs : List Int32) : wrR f 0 (x :: xs) 0 = x := by
  unfold wrR
  rw [if_pos (by simp)]
  rfl
theorem tk_le (F : List Int32) (x : Int32) : ∀ n, tk F x n ≤ n
  | 0 => Nat.le_refl _
  | n + 1 => by have := tk_le F x n; unfold tk; split <;> omega
theorem tok_le (F : List Int32) (x : Int32) : tok F x ≤ F.length := tk_le F x _
theorem gv_X4_38 : GoodIn uW (wsV RX4 38 RX0 yX0_take (Cond.code yX0_take cX0_take 8 none :: uW)) := gI_V (uW_of (by decide +kernel) rfl) (uW_of (by decide +kernel) rfl) (uW_of (by decide +kernel) rfl) (uW_of (by decide +kernel) rfl) (uW_of (by decide +kernel) rfl)
theorem gv_X4_38_n : okN yX0_take 5 := by decide +kernel
theorem gv_X4_57 : GoodIn uW (va_wsS RX4 57 yX4_gatherOthers (Cond.code yX4_gatherOthers cX4_gatherOthers 6 (some .int) :: uW)) := gI_S (uW_of (by decide +kernel) rfl) (uW_of (by decide +kernel) rfl) (uW_of (by decide +kernel) rfl) (uW_of (by decide +kernel) rfl)
theorem gv_X4_57_n : okN yX4_gatherOthers 4 := by decide +kernel
set_option maxHeartbeats 4000000 in
set_option maxRecDepth 100000 in
/-- Popular.write -/
theorem k_pWrite (l : Launch) (z : bZ) (v : bV) (sc : Nat → Int32) (ar : Nat → Nat → Int32) (wt : Nat → Nat → Nat) (dp wa : Nat → Nat) (K i n d k fr cnt : Nat) (hWT : WT v wt dp wa K) (hi : i < K) (hs : wt i 0 = 2) (IH : ∀ j, j < i → wIH l z wt dp wa v j) (hw : wH sc n d (dp i) k fr cnt) : Met l yX4_write (Cond.code yX4_write cX4_write 7 (some .boolean) :: uW) (rmW (dp i)) (pC z v sc ar [.ref (wa i), .ref (zad z 1), .ref (zad z k), .int (nI (fr)), .int (nI (cnt))]) (qI z (fun r u => wQ v sc ar n d (dp i) cnt (WR wt dp i (rowL (ar k) fr cnt)) r u)) 0 0 (zA z) := by
  refine eM (by decide) (Nat.le_of_ble_eq_true rfl) ?_
  intro pP eE s mM below meth cC ls C hr hlk h hl
  have hx := C.1.1
  have hb := C.1.2.1
  have hl : lv_has ls 7 [(0, .ref (wa i)), (1, .ref (zad z 1)), (2, .ref (zad z k)), (3, .int (nI (fr))), (4, .int (nI (cnt)))] := hl
  obtain ⟨hpo, hm1, hj2, hj3, hj4, hd2, hd3, hd4, hd5⟩ := WT_pop hWT hi hs
  obtain ⟨w1, w2, w3, w4, w5, w6, w7⟩ := id hw
  obtain ⟨f, ef⟩ : ∃ f, dp i = f + 1 := ⟨dp i - 1, by omega⟩
  have hf : f < 4 := by omega
  have hA4 := isA_fr hf
  obtain ⟨k1, k2, k3, k4, k5, k6, k7, k8⟩ := id w5
  refine lv_aload_n hx hb dX4_write_0 rfl (lv_at hl 1 rfl) ?_
  refine rg_X4_25 C h dX4_write_1 ?_
  refine lv_aload_n hx hb dX4_write_4 rfl (lv_at hl 0 rfl) ?_
  refine rw_X4_31 C h hpo dX4_write_5 ?_
  refine lv_iconst (v := nI (1)) hx hb dX4_write_8 (by decide) ?_
  refine lv_isub hx hb dX4_write_9 ?_
  refine tI (y := nI (f)) (by rw [ef]; exact nI_pred f) ?_
  refine ldF (j := f) hf C h dX4_write_10 ?_
  refine lv_astore (lv' := [(5, .ref (zad z (5 + f))), (0, .ref (wa i)), (1, .ref (zad z 1)), (2, .ref (zad z k)), (3, .int (nI (fr))), (4, .int (nI (cnt)))]) hx hb dX4_write_11 hl (by decide) rfl (fun ls hl => ?_)
  refine lv_aload_n hx hb dX4_write_13 rfl (lv_at hl 2 rfl) ?_
  refine rg_X4_34 C h dX4_write_14 ?_
  refine lv_aload_n hx hb dX4_write_17 rfl (lv_at hl 3 rfl) ?_
  refine lv_iload_n hx hb dX4_write_18 rfl (lv_at hl 4 rfl) ?_
  refine lv_iload hx hb dX4_write_19 (lv_at hl 5 rfl) ?_
  refine lv_aload_n hx hb dX4_write_21 rfl (lv_at hl 1 rfl) ?_
  refine rw_X4_9 C h hpo dX4_write_22 ?_
  refine lv_aload hx hb dX4_write_25 (lv_at hl 0 rfl) ?_
  refine backV h (runV (As := [.ref (zad z k), .int (nI (fr)), .int (nI (cnt)), .int (nI (wt i 1)), .ref (zad z (5 + f))]) (rest := []) C h (k_take l z v sc ar k fr cnt (wt i 1) f k1 k2 w6 w7 hm1.2 hf k4 k5 k6 (by omega)) gv_X4_38 gv_X4_38_n ⟨rfl, rfl⟩ (r_Census C h) rfl hl.1 rfl (Nat.le_of_ble_eq_true rfl) dX4_write_27 ⟨by show 2 + 1 ≤ 4 * dp i + 8; omega, by show 8 + (8 + 11) + 47 ≤ 60 * dp i + 100; omega⟩ ⟨Nat.le_of_ble_eq_true rfl, Nat.le_of_ble_eq_true rfl⟩) (fun v_27 sc_27 ar_27 H locs p_27 h => ?_)
  obtain ⟨sc0, ar0, eu, hsc0, har0, hfa0, htk0⟩ := p_27
  have h := uEq eu h
  obtain ⟨F, eF⟩ : ∃ F, F = favs (fun i => ar k (fr + i)) cnt (wt i 1) := ⟨_, rfl⟩
  rw [← eF] at hfa0 htk0
  have hF50 : F.length ≤ 50 := by rw [eF]; exact Nat.le_trans favs_len hm1.2
  have exs : favL (wt i 1) (rowL (ar k) fr cnt) = F := by rw [favL_row, eF]
  have eWR := WR_pop (xs := rowL (ar k) fr cnt) (WT_ok hWT hi) hs
  rw [exs] at eWR
  have hR0 : wR (dp i) sc ar n d [] sc0 ar0 := ⟨fun i _ a2 a3 => hsc0 i a2 a3, fun q _ a2 a3 a4 a5 a6 => har0 q a2 a3 a4 (by omega) (by omega), by rw [hsc0 5 (by decide) (by decide), w3]; rfl, by rw [har0 11 (by decide) (by decide) (by decide) (by omega) (by omega), wrB_nil]⟩
  have hole := othL_le F (rowL (ar k) fr cnt)
  rw [rowL_len] at hole
  have hBp := Bd_pop (q := f) (c := cnt) (o := (othL F (rowL (ar k) fr cnt)).length) (k := F.length) hF50 hole
  rw [← ef] at hBp
  have hB1 : Bd (dp (wt i 2)) 1 ≤ Bd f 1 := Bd_mono (by omega) (Nat.le_refl _)
  have hB2 : Bd (dp (wt i 2)) F.length ≤ Bd f F.length := Bd_mono (by omega) (Nat.le_refl _)
  have hB3 : Bd (dp (wt i 3)) cnt ≤ Bd f cnt := Bd_mono (by omega) (Nat.le_refl _)
  have hB4 : Bd (dp (wt i 4)) (othL F (rowL (ar k) fr cnt)).length ≤ Bd f (othL F (rowL (ar k) fr cnt)).length := Bd_mono (by omega) (Nat.le_refl _)
  refine lv_aload_n hx hb dX4_write_30 rfl (lv_at hl 1 rfl) ?_
  refine rw_X4_15 C h hpo dX4_write_31 ?_
  refine lv_aload_n hx hb dX4_write_34 rfl (lv_at hl 2 rfl) ?_
  refine lv_aload hx hb dX4_write_35 (lv_at hl 0 rfl) ?_
  refine rf_X4_44 hf C h dX4_write_37 ?_
  refine lv_iconst (v := nI (0)) hx hb dX4_write_40 (by decide) ?_
  refine lv_iconst (v := nI (1)) hx hb dX4_write_41 (by decide) ?_
  refine vcW (i := wt i 2) (n := n) (d := d) (k := 19 + f) (fr := 0) (cnt := 1) C h gu_X4_50_X1 gu_X4_50_X5 gu_X4_50_X4 hWT (by omega) (IH _ hj2) ⟨(hsc0 3 (by decide) (by decide)).trans w1, w2, (hsc0 5 (by decide) (by decide)).trans w3, by omega, ⟨hA4.1, by rw [hA4.2.1]; decide, by omega, by omega, by omega, by omega, by omega, by omega⟩, by rw [hA4.2.1]; omega, by omega⟩ hl.1 (Nat.le_of_ble_eq_true rfl) dX4_write_42 ⟨by show _ ≤ 4 * dp i + 8; omega, by show _ ≤ 60 * dp i + 100; omega⟩ (Nat.le_of_ble_eq_true rfl) (Nat.le_of_ble_eq_true rfl) (fun r_42 bs1 sc1 ar1 H locs hR1a hL1 hr1 h => ?_)
  have e19 : ar1 (19 + f) = ar0 (19 + f) := hR1a.2.1 _ (by omega) (by omega) (by omega) (by omega) (by omega) (by omega)
  have hR1 : wR (dp i) sc ar n d bs1 sc1 ar1 := hR0.trans (by exact hR1a.mono (by omega))
  rw [show rowL (ar0 (19 + f)) 0 1 = [nI F.length] from by show [ar0 (19 + f) 0] = _; rw [hfa0, wrR_at0]] at hr1
  have e19b : ar1 (19 + f) = wrR (ar (19 + f)) 0 (nI F.length :: F) := e19.trans hfa0
  rcases hr1 with ⟨e1_42, e2_42⟩ | ⟨e1_42, e2_42⟩
  · skip
    refine tI (y := nI 1) e1_42 ?_
    refine zN_eq (tgt := 91) (a := 1) C (by decide) dX4_write_45 (by decide) (fun q => absurd q (by decide)) (fun _ => ?_)
    refine lv_aload_n hx hb dX4_write_48 rfl (lv_at hl 1 rfl) ?_
    refine rw_X4_15 C h hpo dX4_write_49 ?_
    refine lv_aload_n hx hb dX4_write_52 rfl (lv_at hl 2 rfl) ?_
    refine lv_aload hx hb dX4_write_53 (lv_at hl 0 rfl) ?_
    refine rf_X4_44 hf C h dX4_write_55 ?_
    refine lv_iconst (v := nI (1)) hx hb dX4_write_58 (by decide) ?_
    refine lv_aload hx hb dX4_write_59 (lv_at hl 0 rfl) ?_
    refine rf_X4_44 hf C h dX4_write_61 ?_
    refine lv_iconst (v := nI (0)) hx hb dX4_write_64 (by decide) ?_
    refine ldA (19 + f) hA4.1 (j := 0) (by rw [hA4.2.1]; omega) (by rw [hA4.2.1]; decide) C h dX4_write_65 ?_
    refine tI (y := nI (F.length)) (by rw [e19b, wrR_at0]) ?_
    refine vcW (i := wt i 2) (n := n) (d := d + bs1.length) (k := 19 + f) (fr := 1) (cnt := F.length) C h gu_X4_50_X1 gu_X4_50_X5 gu_X4_50_X4 hWT (by omega) (IH _ hj2) ⟨(hR1.1 3 (by decide) (by decide) (by decide)).trans w1, w2, hR1.2.2.1, by omega, ⟨hA4.1, by rw [hA4.2.1]; decide, by omega, by omega, by omega, by omega, by omega, by omega⟩, by rw [hA4.2.1]; omega, by omega⟩ hl.1 (Nat.le_of_ble_eq_true rfl) dX4_write_66 ⟨by show _ ≤ 4 * dp i + 8; omega, by show _ ≤ 60 * dp i + 100; omega⟩ (Nat.le_of_ble_eq_true rfl) (Nat.le_of_ble_eq_true rfl) (fun r_66 bs2 sc2 ar2 H locs hR2a hL2 hr2 h => ?_)
    have hR2 : wR (dp i) sc ar n d (bs1 ++ bs2) sc2 ar2 := hR1.trans (hR2a.mono (by omega))
    rw [show rowL (ar1 (19 + f)) 1 F.length = F from rowL_list F 1 (fun q hq => by rw [e19b]; unfold wrR; rw [if_pos (by simp; omega), Nat.sub_zero, Nat.add_comm 1 q, List.getD_cons_succ])] at hr2
    rcases hr2 with ⟨e1_66, e2_66⟩ | ⟨e1_66, e2_66⟩
    · skip
      refine tI (y := nI 1) e1_66 ?_
      refine zN_eq (tgt := 91) (a := 1) C (by decide) dX4_write_69 (by decide) (fun q => absurd q (by decide)) (fun _ => ?_)
      refine lv_aload_n hx hb dX4_write_72 rfl (lv_at hl 1 rfl) ?_
      refine rw_X4_19 C h hpo dX4_write_73 ?_
      refine lv_aload_n hx hb dX4_write_76 rfl (lv_at hl 2 rfl) ?_
      refine lv_aload hx hb dX4_write_77 (lv_at hl 0 rfl) ?_
      refine rf_X4_54 hf C h dX4_write_79 ?_
      refine lv_iconst (v := nI (0)) hx hb dX4_write_82 (by decide) ?_
      refine lv_iload hx hb dX4_write_83 (lv_at hl 5 rfl) ?_
      refine vcW (i := wt i 3) (n := n) (d := d + (bs1 ++ bs2).length) (k := 23 + f) (fr := 0) (cnt := cnt) C h gu_X4_50_X1 gu_X4_50_X5 gu_X4_50_X4 hWT (by omega) (IH _ hj3) ⟨(hR2.1 3 (by decide) (by decide) (by decide)).trans w1, w2, hR2.2.2.1, by rw [List.length_append]; omega, ⟨hA4.2.2.1, by rw [hA4.2.2.2]; decide, by omega, by omega, by omega, by omega, by omega, by omega⟩, by rw [hA4.2.2.2]; omega, w7⟩ hl.1 (Nat.le_of_ble_eq_true rfl) dX4_write_85 ⟨by show _ ≤ 4 * dp i + 8; omega, by show _ ≤ 60 * dp i + 100; omega⟩ (Nat.le_of_ble_eq_true rfl) (Nat.le_of_ble_eq_true rfl) (fun r_85 bs3 sc3 ar3 H locs hR3a hL3 hr3 h => ?_)
      have hR3 : wR (dp i) sc ar n d (bs1 ++ bs2 ++ bs3) sc3 ar3 := hR2.trans (hR3a.mono (by omega))
      have e23a : ar2 (23 + f) = ar0 (23 + f) := (hR2a.2.1 _ (by omega) (by omega) (by omega) (by omega) (by omega) (by omega)).trans (hR1a.2.1 _ (by omega) (by omega) (by omega) (by omega) (by omega) (by omega))
      have e23 : ar3 (23 + f) = ar0 (23 + f) := (hR3a.2.1 _ (by omega) (by omega) (by omega) (by omega) (by omega) (by omega)).trans e23a
      rw [show rowL (ar2 (23 + f)) 0 cnt = tokL F (rowL (ar k) fr cnt) from rowL_map (fun x => nI (tok F x)) cnt 0 fr (fun q hq => by rw [e23a, Nat.zero_add]; exact htk0 q hq)] at hr3
      rcases hr3 with ⟨e1_85, e2_85⟩ | ⟨e1_85, e2_85⟩
      · skip
        refine tI (y := nI 1) e1_85 ?_
        refine zN_ne (tgt := 93) (a := 1) C (by decide) dX4_write_88 (by decide) (fun _ => ?_) (fun q => absurd q (by decide))
        refine lv_aload_n hx hb dX4_write_93 rfl (lv_at hl 3 rfl) ?_
        refine lv_iload_n hx hb dX4_write_94 rfl (lv_at hl 4 rfl) ?_
        refine lv_iload hx hb dX4_write_95 (lv_at hl 5 rfl) ?_
        refine lv_aload hx hb dX4_write_97 (lv_at hl 0 rfl) ?_
        refine rf_X4_54 hf C h dX4_write_99 ?_
        refine backI h (runS (As := [.ref (zad z k), .int (nI (fr)), .int (nI (cnt)), .ref (zad z (23 + f))]) (rest := []) C h (k_gather l z v sc3 ar3 k fr cnt f (fun i => ar k (fr + i)) (fun i => tok F (ar k (fr + i))) k1 k2 w6 w7 hf (by omega) (fun i hi2 => by rw [hR3.2.1 k k3 k4 k5 k6 k7 k8]) (fun i hi2 => ⟨by rw [e23]; exact htk0 i hi2, Nat.lt_of_le_of_lt (tok_le F _) (by omega)⟩)) gv_X4_57 gv_X4_57_n ⟨rfl, rfl⟩ rfl hl.1 rfl (Nat.le_of_ble_eq_true rfl) dX4_write_102 ⟨by show 0 + 1 ≤ 4 * dp i + 8; omega, by show 8 + (6 + 11) + 0 ≤ 60 * dp i + 100; omega⟩ ⟨Nat.le_of_ble_eq_true rfl, Nat.le_of_ble_eq_true rfl⟩) (fun r_102 v_102 sc_102 ar_102 H locs p_102 h => ?_)
        rw [oth_row] at p_102
        have h := uEq p_102.2 h
        refine tI (y := nI (othL F (rowL (ar k) fr cnt)).length) p_102.1 ?_
        have hR3g : wR (dp i) sc ar n d (bs1 ++ bs2 ++ bs3) sc3 (va_up ar3 (23 + f) (wrR (ar3 (23 + f)) 0 (othL F (rowL (ar k) fr cnt)))) := ⟨hR3.1, fun q a1 a2 a3 a4 a5 a6 => by rw [va_up_ne _ _ (by omega)]; exact hR3.2.1 q a1 a2 a3 a4 a5 a6, hR3.2.2.1, by rw [va_up_ne _ _ (by omega)]; exact hR3.2.2.2⟩
        refine lv_istore (lv' := [(6, .int (nI ((othL F (rowL (ar k) fr cnt)).length))), (5, .ref (zad z (5 + f))), (0, .ref (wa i)), (1, .ref (zad z 1)), (2, .ref (zad z k)), (3, .int (nI (fr))), (4, .int (nI (cnt)))]) hx hb dX4_write_105 hl (by decide) rfl (fun ls hl => ?_)
        refine lv_aload_n hx hb dX4_write_107 rfl (lv_at hl 2 rfl) ?_
        refine rw_X4_22 C h hpo dX4_write_108 ?_
        refine lv_aload_n hx hb dX4_write_111 rfl (lv_at hl 3 rfl) ?_
        refine lv_aload hx hb dX4_write_112 (lv_at hl 1 rfl) ?_
        refine rf_X4_54 hf C h dX4_write_114 ?_
        refine lv_iconst (v := nI (0)) hx hb dX4_write_117 (by decide) ?_
        refine lv_iload hx hb dX4_write_118 (lv_at hl 0 rfl) ?_
        refine vcW (i := wt i 4) (n := n) (d := d + (bs1 ++ bs2 ++ bs3).length) (k := 23 + f) (fr := 0) (cnt := (othL F (rowL (ar k) fr cnt)).length) C h gu_X4_50_X1 gu_X4_50_X5 gu_X4_50_X4 hWT (by omega) (IH _ hj4) ⟨(hR3.1 3 (by decide) (by decide) (by decide)).trans w1, w2, hR3.2.2.1, by simp only [List.length_append]; omega, ⟨hA4.2.2.1, by rw [hA4.2.2.2]; decide, by omega, by omega, by omega, by omega, by omega, by omega⟩, by rw [hA4.2.2.2]; omega, by omega⟩ hl.1 (Nat.le_of_ble_eq_true rfl) dX4_write_120 ⟨by show _ ≤ 4 * dp i + 8; omega, by show _ ≤ 60 * dp i + 100; omega⟩ (Nat.le_of_ble_eq_true rfl) (Nat.le_of_ble_eq_true rfl) (fun r_120 bs4 sc4 ar4 H locs hR4 hL4 hr4 h => ?_)
        rw [va_up_self, show rowL (wrR (ar3 (23 + f)) 0 (othL F (rowL (ar k) fr cnt))) 0 (othL F (rowL (ar k) fr cnt)).length = othL F (rowL (ar k) fr cnt) from rowL_list _ 0 (fun q hq => by unfold wrR; rw [if_pos (by omega), Nat.zero_add, Nat.sub_zero])] at hr4
        rcases hr4 with ⟨e1_120, e2_120⟩ | ⟨e1_120, e2_120⟩
        · skip
          refine tI (y := nI 1) e1_120 ?_
          exact rZ C hr hlk h dX4_write_123 rfl (Nat.le_of_ble_eq_true rfl) (Nat.le_of_ble_eq_true rfl) (⟨bs1 ++ bs2 ++ bs3 ++ bs4, sc4, ar4, rfl, hR3g.trans (hR4.mono (by omega)), by simp only [List.length_append]; omega, Or.inl ⟨rfl, by rw [eWR, e2_42, e2_66, e2_85, e2_120]; simp [cat2]⟩⟩)
        · skip
          refine tI (y := nI 0) e1_120 ?_
          exact rZ C hr hlk h dX4_write_123 rfl (Nat.le_of_ble_eq_true rfl) (Nat.le_of_ble_eq_true rfl) (⟨bs1 ++ bs2 ++ bs3 ++ bs4, sc4, ar4, rfl, hR3g.trans (hR4.mono (by omega)), by simp only [List.length_append]; omega, Or.inr ⟨rfl, by rw [eWR, e2_42, e2_66, e2_85, e2_120]; rfl⟩⟩)
      · skip
        refine tI (y := nI 0) e1_85 ?_
        refine zN_ne (tgt := 93) (a := 0) C (by decide) dX4_write_88 (by decide) (fun q => absurd q (by decide)) (fun _ => ?_)
        refine lv_iconst (v := nI (0)) hx hb dX4_write_91 (by decide) ?_
        exact rZ C hr hlk h dX4_write_92 rfl (Nat.le_of_ble_eq_true rfl) (Nat.le_of_ble_eq_true rfl) (⟨bs1 ++ bs2 ++ bs3, sc3, ar3, rfl, hR3, by simp only [List.length_append]; omega, Or.inr ⟨rfl, by rw [eWR, e2_42, e2_66, e2_85]; rfl⟩⟩)
    · skip
      refine tI (y := nI 0) e1_66 ?_
      refine zN_eq (tgt := 91) (a := 0) C (by decide) dX4_write_69 (by decide) (fun _ => ?_) (fun q => absurd q (by decide))
      refine lv_iconst (v := nI (0)) hx hb dX4_write_91 (by decide) ?_
      exact rZ C hr hlk h dX4_write_92 rfl (Nat.le_of_ble_eq_true rfl) (Nat.le_of_ble_eq_true rfl) (⟨bs1 ++ bs2, sc2, ar2, rfl, hR2, by rw [List.length_append]; omega, Or.inr ⟨rfl, by rw [eWR, e2_42, e2_66]; rfl⟩⟩)
  · skip
    refine tI (y := nI 0) e1_42 ?_
    refine zN_eq (tgt := 91) (a := 0) C (by decide) dX4_write_45 (by decide) (fun _ => ?_) (fun q => absurd q (by decide))
    refine lv_iconst (v := nI (0)) hx hb dX4_write_91 (by decide) ?_
    exact rZ C hr hlk h dX4_write_92 rfl (Nat.le_of_ble_eq_true rfl) (Nat.le_of_ble_eq_true rfl) (⟨bs1, sc1, ar1, rfl, hR1, by omega, Or.inr ⟨rfl, by rw [eWR, e2_42]; rfl⟩⟩)
/-- every way writes as WR says -/
theorem all_write (l : Launch) (z : bZ) (v : bV) (wt : Nat → Nat → Nat) (dp wa : Nat → Nat) (K : Nat) (hWT : WT v wt dp wa K) : ∀ i, i < K → wIH l z wt dp wa v i := by
  intro i
  induction i using Nat.strongRecOn with
  | ind i ih =>
    intro hi sc ar n d k fr cnt hw
    exact ⟨fun hs => k_rWrite l z v sc ar wt dp wa K i n d k fr cnt hWT hi hs (fun j hj => ih j hj (by omega)) hw, fun hs => k_pWrite l z v sc ar wt dp wa K i n d k fr cnt hWT hi hs (fun j hj => ih j hj (by omega)) hw⟩
