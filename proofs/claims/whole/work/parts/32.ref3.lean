/-! The reference: favourites. -/
theorem oftNew {R : Nat → Int32} {i q : Nat} (hn : ∀ q, q < i → ¬ R q = R i) (hq : q ≤ i) : oft R (i + 1) q = if q = i then 1 else oft R i q := by
  unfold oft
  by_cases e : q = i
  · rw [if_pos e, e, if_pos ((nw_iff i).mpr hn)]
    show cN R (R i) i + (if R i = R i then 1 else 0) = 1
    rw [cN_0 i hn, if_pos rfl]
  · have e3 : cN R (R q) (i + 1) = cN R (R q) i := by
      show cN R (R q) i + (if R i = R q then 1 else 0) = _
      rw [if_neg (fun x => hn q (by omega) x.symm), Nat.add_zero]
    rw [if_neg e, e3]
theorem oftHit {R : Nat → Int32} {i j q : Nat} (hj : j < i) (he : R j = R i) (hn : ∀ q, q < j → ¬ R q = R i) (hq : q ≤ i) : oft R (i + 1) q = if q = i then 0 else if q = j then oft R i j + 1 else oft R i q := by
  unfold oft
  by_cases e : q = i
  · rw [if_pos e, e, if_neg (fun x => (nw_iff i).mp x j hj he)]
  · rw [if_neg e]
    by_cases e2 : q = j
    · rw [if_pos e2, e2]
      have hw : nw R (R j) j = true := (nw_iff j).mpr (fun q hq => by rw [he]; exact hn q hq)
      rw [if_pos hw, if_pos hw, show cN R (R j) (i + 1) = cN R (R j) i + (if R i = R j then 1 else 0) from rfl, if_pos he.symm]
    · rw [if_neg e2]
      by_cases hw : nw R (R q) q = true
      · rw [if_pos hw, if_pos hw, show cN R (R q) (i + 1) = cN R (R q) i + (if R i = R q then 1 else 0) from rfl, if_neg (fun x => ?_), Nat.add_zero]
        rcases Nat.lt_trichotomy q j with q1 | q1 | q1
        · exact hn q q1 x.symm
        · exact e2 q1
        · exact (nw_iff q).mp hw j q1 (he.trans x)
      · rw [if_neg hw, if_neg hw]
theorem oft_le (R : Nat → Int32) (n q : Nat) : oft R n q ≤ n := by
  unfold oft
  split
  · exact cN_le _ _ _
  · exact Nat.zero_le _
theorem mp_1 (c : Nat → Nat) : mp c 1 = if 1 < c 0 then (some 0, c 0) else (none, 1) := rfl
theorem mp_st {c : Nat → Nat} {i b : Nat} (h : mp c i = if 1 < c b then (some b, c b) else (none, 1)) : (c b < c i → mp c (i + 1) = if 1 < c i then (some i, c i) else (none, 1)) ∧ (c i ≤ c b → mp c (i + 1) = if 1 < c b then (some b, c b) else (none, 1)) := by
  have e : mp c (i + 1) = if (mp c i).2 < c i then (some i, c i) else mp c i := rfl
  rw [e, h]
  by_cases h1 : 1 < c b
  · rw [if_pos h1]
    refine ⟨fun q => ?_, fun q => ?_⟩
    · rw [if_pos (show c b < c i from q), if_pos (by omega)]
    · rw [if_neg (show ¬ c b < c i by omega)]
  · rw [if_neg h1]
    refine ⟨fun q => ?_, fun q => ?_⟩
    · by_cases h2 : 1 < c i
      · rw [if_pos (show 1 < c i from h2)]
      · rw [if_neg (show ¬ 1 < c i from h2)]
    · rw [if_neg (show ¬ 1 < c i by omega)]
theorem popOK {wt : Nat → Nat → Nat} {dp : Nat → Nat} {w : Nat} (h : wOK wt dp w) (h0 : wt w 0 = 2) : (1 ≤ wt w 1 ∧ wt w 1 ≤ 50) ∧ wt w 2 < w ∧ wt w 3 < w ∧ wt w 4 < w ∧ dp (wt w 2) < dp w ∧ dp (wt w 3) < dp w ∧ dp (wt w 4) < dp w ∧ dp w ≤ 4 := by
  rcases h with q | q | q
  · omega
  · omega
  · exact q.2
theorem runOK {wt : Nat → Nat → Nat} {dp : Nat → Nat} {w : Nat} (h : wOK wt dp w) (h0 : wt w 0 = 1) : wt w 1 ≤ 400 ∧ wt w 2 < w ∧ wt w 3 < w ∧ dp (wt w 2) < dp w ∧ dp (wt w 3) < dp w ∧ dp w ≤ 4 := by
  rcases h with q | q | q
  · omega
  · exact q.2
  · omega
theorem getD_snoc {l : List Nat} {x q : Nat} : (l ++ [x]).getD q 0 = if q = l.length then x else l.getD q 0 := by
  rw [List.getD_eq_getElem?_getD, List.getD_eq_getElem?_getD]
  by_cases e : q = l.length
  · rw [if_pos e, e, List.getElem?_append_right (Nat.le_refl _)]; simp
  · rw [if_neg e]
    by_cases h : q < l.length
    · rw [List.getElem?_append_left h]
    · rw [List.getElem?_eq_none (by simp; omega), List.getElem?_eq_none (by omega)]
theorem getI_snoc {l : List Int32} {x : Int32} {q : Nat} : (l ++ [x]).getD q 0 = if q = l.length then x else l.getD q 0 := by
  rw [List.getD_eq_getElem?_getD, List.getD_eq_getElem?_getD]
  by_cases e : q = l.length
  · rw [if_pos e, e, List.getElem?_append_right (Nat.le_refl _)]; simp
  · rw [if_neg e]
    by_cases h : q < l.length
    · rw [List.getElem?_append_left h]
    · rw [List.getElem?_eq_none (by simp; omega), List.getElem?_eq_none (by omega)]
theorem getD_map {l : List Nat} {R : Nat → Int32} {q : Nat} (h : q < l.length) : (l.map R).getD q 0 = R (l.getD q 0) := by
  rw [List.getD_eq_getElem?_getD, List.getD_eq_getElem?_getD, List.getElem?_map, List.getElem?_eq_getElem h]
  rfl
def fQ (wt : Nat → Nat → Nat) (v : bV) (sc : Nat → Int32) (ar : Nat → Nat → Int32) (w f cnt st T : Nat) (u : bS) : Prop := ∃ (P O : Nat → Int32) (F ol : List Int32), F = favL (wt w 1) (rowL (ar 36) f cnt) ∧ F.length ≤ 50 ∧ ol = othL F (rowL (ar 36) f cnt) ∧ (∀ q, q < st → P q = ar 36 q) ∧ P st = nI F.length ∧ (∀ q, q < F.length → P (st + 1 + q) = F.getD q 0) ∧ (∀ q, q < cnt → P (st + 1 + F.length + q) = nI (tok F (ar 36 (f + q)))) ∧ (∀ q, q < ol.length → P (st + 1 + F.length + cnt + q) = ol.getD q 0) ∧
  u = (v, va_up (va_up sc 29 (nI (st + 1 + F.length + cnt + ol.length))) 30 (nI (T + 3 + 1)), tkA (tkA (tkA (tkA (va_up (va_up ar 36 P) 40 O) T (wt w 4) (st + 1 + F.length + cnt) ol.length) (T + 1) (wt w 3) (st + 1 + F.length) cnt) (T + 2) (wt w 2) (st + 1) F.length) (T + 3) (wt w 2) st 1)
theorem gv_X10_150 : GoodIn uW (wsV RX10 150 RX10 yX10_task (Cond.code yX10_task cX10_task 4 none :: uW)) := gI_V (uW_of (by decide +kernel) rfl) (uW_of (by decide +kernel) rfl) (uW_of (by decide +kernel) rfl) (uW_of (by decide +kernel) rfl) (uW_of (by decide +kernel) rfl)
theorem gv_X10_150_n : okN yX10_task 3 := by decide +kernel
set_option maxHeartbeats 4000000 in
set_option maxRecDepth 100000 in
theorem r_favours (l : Launch) (z : bZ) (v : bV) (sc : Nat → Int32) (ar : Nat → Nat → Int32) (K w f cnt st T : Nat) (wt : Nat → Nat → Nat) (dp : Nat → Nat) (hK4 : K ≤ 40) (hRW : RW wt dp K ar) (hw : w < K) (hw2 : wt w 0 = 2) (hst : sc 29 = nI st) (hfc : f + cnt ≤ st) (hc4 : cnt ≤ 400) (hroom : st + 51 + 2 * cnt ≤ 40000) (hT0 : sc 30 = nI T) (hT8 : T + 4 ≤ 80) : Met l yX10_favours (Cond.code yX10_favours cX10_favours 12 none :: uW) { frames := 1, cells := 0, slots := 0, locals := 23 } (pC z v sc ar [.ref (zad z 27), .int (nI (w)), .int (nI (f)), .int (nI (cnt))]) (qV z (fun u => fQ wt v sc ar w f cnt st T u)) 0 0 (zA z) := by
  refine eM (by decide) (Nat.le_of_ble_eq_true rfl) ?_
  intro pP eE s mM below meth cC ls C hr hlk h hl
  have hx := C.1.1
  have hb := C.1.2.1
  have hl : lv_has ls 12 [(0, .ref (zad z 27)), (1, .int (nI (w))), (2, .int (nI (f))), (3, .int (nI (cnt)))] := hl
  obtain ⟨⟨hm1, hm5⟩, -⟩ := popOK (hRW w hw).2.2.2.2.2.2 hw2
  refine lv_aload_n hx hb dX10_favours_0 rfl (lv_at hl 0 rfl) ?_
  refine rg_X10_147 C h dX10_favours_1 ?_
  refine tI (y := nI (st)) hst ?_
  refine lv_istore (lv' := [(4, .int (nI (st))), (0, .ref (zad z 27)), (1, .int (nI (w))), (2, .int (nI (f))), (3, .int (nI (cnt)))]) hx hb dX10_favours_4 hl (by decide) rfl (fun ls hl => ?_)
  refine lv_iconst (v := nI (0)) hx hb dX10_favours_6 (by decide) ?_
  refine lv_istore (lv' := [(5, .int (nI (0))), (4, .int (nI (st))), (0, .ref (zad z 27)), (1, .int (nI (w))), (2, .int (nI (f))), (3, .int (nI (cnt)))]) hx hb dX10_favours_7 hl (by decide) rfl (fun ls hl => ?_)
  refine lv_aload_n hx hb dX10_favours_9 rfl (lv_at hl 2 rfl) ?_
  refine lv_iload hx hb dX10_favours_10 (lv_at hl 1 rfl) ?_
  refine lv_iconst (v := nI (1)) hx hb dX10_favours_12 (by decide) ?_
  refine lv_iadd hx hb dX10_favours_13 ?_
  refine tI (y := nI (st + 1)) (nI_add _ _) ?_
  refine rp_X10_147 C h dX10_favours_14 (fun H locs h => ?_)
  refine lv_iconst (v := nI (0)) hx hb dX10_favours_17 (by decide) ?_
  refine lv_istore (lv' := [(6, .int (nI (0))), (5, .int (nI (0))), (4, .int (nI (st))), (0, .ref (zad z 27)), (1, .int (nI (w))), (2, .int (nI (f))), (3, .int (nI (cnt)))]) hx hb dX10_favours_18 hl (by decide) rfl (fun ls hl => ?_)
  refine lpW2 (fun (i : Nat) (O : Nat → Int32) (H : Heap) (locs : List Loc) (ls : Array Slot) => (i ≤ cnt) ∧ (∀ q, q < i → O q = nI (oft (fun i => ar 36 (f + i)) i q)) ∧ hH z v (va_up sc 29 (nI (st + 1))) (va_up (va_up ar 36 (ar 36)) 40 (O)) s H locs ∧ lv_has ls 12 [(0, .ref (zad z 27)), (1, .int (nI (w))), (2, .int (nI (f))), (3, .int (nI (cnt))), (4, .int (nI (st))), (5, .int (nI (0))), (6, .int (nI (i)))]) (fun (i : Nat) (O : Nat → Int32) => cnt - i) (fun i O ih_20 H locs ls hI => ?_) (0) (ar 40) ⟨Nat.zero_le _, fun q hq => absurd hq (Nat.not_lt_zero _), (by rw [va_us, va_us]; exact h), lv_sub hl [3, 4, 5, 6, 2, 1, 0] rfl⟩
  obtain ⟨h1, hO, h, hl⟩ := hI
  refine lv_iload hx hb dX10_favours_20 (lv_at hl 6 rfl) ?_
  refine lv_iload_n hx hb dX10_favours_22 rfl (lv_at hl 3 rfl) ?_
  refine jN_ge (tgt := 106) (a := i) (b := cnt) C (by omega) (by omega) dX10_favours_23 (by decide) (fun c_23 => ?_) (fun c_23 => ?_)
  · skip
    have hcn : i = cnt := by omega
    refine lv_iconst (v := nI (1)) hx hb dX10_favours_106 (by decide) ?_
    refine lv_istore (lv' := [(6, .int (nI (1))), (0, .ref (zad z 27)), (1, .int (nI (w))), (2, .int (nI (f))), (3, .int (nI (cnt))), (4, .int (nI (st))), (5, .int (nI (0)))]) hx hb dX10_favours_107 hl (by decide) rfl (fun ls hl => ?_)
    refine lpW6 (fun (k : Nat) (js : List Nat) (c : Nat → Nat) (O2 : Nat → Int32) (P : Nat → Int32) (mo : Nat) (H : Heap) (locs : List Loc) (ls : Array Slot) => (js.length = k ∧ k ≤ wt w 1) ∧ (∀ q, q < cnt → O2 q = nI (c q)) ∧ (∀ q, c q ≤ 400) ∧ (fv (oft (fun i => ar 36 (f + i)) cnt) cnt (wt w 1) = js ++ fv c cnt (wt w 1 - k)) ∧ (mo ≤ 1 ∧ (mo = 0 → fv c cnt (wt w 1 - k) = [])) ∧ (∀ q, q < st → P q = ar 36 q) ∧ (∀ q, q < k → P (st + 1 + q) = (fun i => ar 36 (f + i)) (js.getD q 0)) ∧ hH z v (va_up sc 29 (nI (st + 1 + k))) (va_up (va_up ar 36 (P)) 40 (O2)) s H locs ∧ lv_has ls 12 [(0, .ref (zad z 27)), (1, .int (nI (w))), (2, .int (nI (f))), (3, .int (nI (cnt))), (4, .int (nI (st))), (5, .int (nI (k))), (6, .int (nI (mo)))]) (fun (k : Nat) (js : List Nat) (c : Nat → Nat) (O2 : Nat → Int32) (P : Nat → Int32) (mo : Nat) => 2 * (wt w 1 - k) + mo) (fun k js c O2 P mo ih_109 H locs ls hI => ?_) (0) ([]) (oft (fun i => ar 36 (f + i)) cnt) (O) (ar 36) (1) ⟨⟨rfl, Nat.zero_le _⟩, fun q hq => (by rw [← hcn]; exact hO q (by omega)), fun q => Nat.le_trans (oft_le _ _ _) hc4, rfl, ⟨Nat.le_refl _, fun e => by cases e⟩, fun _ _ => rfl, fun q hq => absurd hq (Nat.not_lt_zero _), h, lv_sub hl [1, 2, 3, 4, 5, 6, 0] rfl⟩
    obtain ⟨c1, c2, c2b, c3, c4, c5, c6, h, hl⟩ := hI
    refine lv_iload hx hb dX10_favours_109 (lv_at hl 6 rfl) ?_
    refine zN_eq (tgt := 238) (a := mo) C (by omega) dX10_favours_111 (by decide) (fun c_111 => ?_) (fun c_111 => ?_)
    · skip
      have hjs : fv (oft (fun i => ar 36 (f + i)) cnt) cnt (wt w 1) = js := by rw [c3, c4.2 c_111, List.append_nil]
      have hF0 : favL (wt w 1) (rowL (ar 36) f cnt) = js.map (fun i => ar 36 (f + i)) := by rw [favL_row]; unfold favs; rw [hjs]
      obtain ⟨F, hF⟩ : ∃ F, F = js.map (fun i => ar 36 (f + i)) := ⟨_, rfl⟩
      have hFk : F.length = k := by rw [hF, List.length_map]; exact c1.1
      have c7 : ∀ q, q < k → P (st + 1 + q) = F.getD q 0 := fun q hq => by rw [hF, getD_map (by rw [c1.1]; exact hq)]; exact c6 q hq
      refine lv_aload_n hx hb dX10_favours_238 rfl (lv_at hl 0 rfl) ?_
      refine rg_X10_48 C h dX10_favours_239 ?_
      refine lv_iload hx hb dX10_favours_242 (lv_at hl 4 rfl) ?_
      refine lv_iload hx hb dX10_favours_244 (lv_at hl 5 rfl) ?_
      refine stA 36 rfl (j := st) (x := nI (k)) (show st < 40000 by omega) (by decide) C h dX10_favours_246 (fun H locs h => ?_)
      rw [put_k (k := 36) (q := 40) (by decide)] at h
      have h : hH z v (va_up sc 29 (nI (st + 1 + k))) (va_up (va_up ar 36 (upd (P) (st) (nI (k)))) 40 (O2)) s H locs := h
      refine lv_aload_n hx hb dX10_favours_247 rfl (lv_at hl 0 rfl) ?_
      refine rg_X10_147 C h dX10_favours_248 ?_
      refine tI (y := nI (st + 1 + k)) rfl ?_
      refine lv_istore (lv' := [(7, .int (nI (st + 1 + k))), (0, .ref (zad z 27)), (1, .int (nI (w))), (2, .int (nI (f))), (3, .int (nI (cnt))), (4, .int (nI (st))), (5, .int (nI (k))), (6, .int (nI (mo)))]) hx hb dX10_favours_251 hl (by decide) rfl (fun ls hl => ?_)
      refine lv_aload_n hx hb dX10_favours_253 rfl (lv_at hl 1 rfl) ?_
      refine lv_dup hx hb dX10_favours_254 rfl ?_
      refine rg_X10_147 C h dX10_favours_255 ?_
      refine tI (y := nI (st + 1 + k)) rfl ?_
      refine lv_iload_n hx hb dX10_favours_258 rfl (lv_at hl 4 rfl) ?_
      refine lv_iadd hx hb dX10_favours_259 ?_
      refine tI (y := nI (st + 1 + k + cnt)) (nI_add _ _) ?_
      refine rp_X10_147 C h dX10_favours_260 (fun H locs h => ?_)
      rw [va_uu] at h
      have h : hH z v (va_up sc 29 (nI (st + 1 + k + cnt))) (va_up (va_up ar 36 (upd (P) (st) (nI (k)))) 40 (O2)) s H locs := h
      refine lv_aload_n hx hb dX10_favours_263 rfl (lv_at hl 1 rfl) ?_
      refine rg_X10_147 C h dX10_favours_264 ?_
      refine tI (y := nI (st + 1 + k + cnt)) rfl ?_
      refine lv_istore (lv' := [(8, .int (nI (st + 1 + k + cnt))), (7, .int (nI (st + 1 + k))), (0, .ref (zad z 27)), (1, .int (nI (w))), (2, .int (nI (f))), (3, .int (nI (cnt))), (4, .int (nI (st))), (5, .int (nI (k))), (6, .int (nI (mo)))]) hx hb dX10_favours_267 hl (by decide) rfl (fun ls hl => ?_)
      refine lv_iconst (v := nI (0)) hx hb dX10_favours_269 (by decide) ?_
      refine lv_istore (lv' := [(9, .int (nI (0))), (8, .int (nI (st + 1 + k + cnt))), (7, .int (nI (st + 1 + k))), (0, .ref (zad z 27)), (1, .int (nI (w))), (2, .int (nI (f))), (3, .int (nI (cnt))), (4, .int (nI (st))), (5, .int (nI (k))), (6, .int (nI (mo)))]) hx hb dX10_favours_270 hl (by decide) rfl (fun ls hl => ?_)
      refine lpW3 (fun (i : Nat) (P2 : Nat → Int32) (ol : List Int32) (H : Heap) (locs : List Loc) (ls : Array Slot) => (i ≤ cnt) ∧ (ol = oth (fun i => ar 36 (f + i)) (fun q => tok F (ar 36 (f + q))) i) ∧ (∀ q, q < st → P2 q = ar 36 q) ∧ (P2 st = nI k) ∧ (∀ q, q < k → P2 (st + 1 + q) = F.getD q 0) ∧ (∀ q, q < i → P2 (st + 1 + k + q) = nI (tok F (ar 36 (f + q)))) ∧ (∀ q, q < ol.length → P2 (st + 1 + k + cnt + q) = ol.getD q 0) ∧ hH z v (va_up sc 29 (nI (st + 1 + k + cnt + ol.length))) (va_up (va_up ar 36 (P2)) 40 (O2)) s H locs ∧ lv_has ls 12 [(0, .ref (zad z 27)), (1, .int (nI (w))), (2, .int (nI (f))), (3, .int (nI (cnt))), (4, .int (nI (st))), (5, .int (nI (k))), (7, .int (nI (st + 1 + k))), (8, .int (nI (st + 1 + k + cnt))), (9, .int (nI (i)))]) (fun (i : Nat) (P2 : Nat → Int32) (ol : List Int32) => cnt - i) (fun i P2 ol ih_272 H locs ls hI => ?_) (0) (upd (P) (st) (nI (k))) ([]) ⟨Nat.zero_le _, rfl, fun q hq => (by rw [pk_un (by omega)]; exact c5 q hq), pk_us, fun q hq => (by rw [pk_un (by omega)]; exact c7 q hq), fun q hq => absurd hq (Nat.not_lt_zero _), fun q hq => absurd hq (Nat.not_lt_zero _), h, lv_sub hl [3, 4, 5, 6, 7, 8, 2, 1, 0] rfl⟩
      obtain ⟨e1, e2, e3, e4, e5, e6, e7, h, hl⟩ := hI
      have hol := oth_le (fun i => ar 36 (f + i)) (fun q => tok F (ar 36 (f + q))) i
      rw [← e2] at hol
      refine lv_iload hx hb dX10_favours_272 (lv_at hl 8 rfl) ?_
      refine lv_iload_n hx hb dX10_favours_274 rfl (lv_at hl 3 rfl) ?_
      refine jN_ge (tgt := 383) (a := i) (b := cnt) C (by omega) (by omega) dX10_favours_275 (by decide) (fun c_275 => ?_) (fun c_275 => ?_)
      · skip
        have hic : i = cnt := by omega
        refine lv_aload_n hx hb dX10_favours_383 rfl (lv_at hl 0 rfl) ?_
        refine lv_aload_n hx hb dX10_favours_384 rfl (lv_at hl 0 rfl) ?_
        refine rg_X10_22 C h dX10_favours_385 ?_
        refine lv_iload_n hx hb dX10_favours_388 rfl (lv_at hl 1 rfl) ?_
        refine ldA 32 rfl (j := w) (show w < 40 by omega) (by decide) C h dX10_favours_389 ?_
        refine tI (y := nI (wt w 4)) (hRW w hw).2.2.2.2.1 ?_
        refine lv_iload hx hb dX10_favours_390 (lv_at hl 7 rfl) ?_
        refine lv_aload_n hx hb dX10_favours_392 rfl (lv_at hl 0 rfl) ?_
        refine rg_X10_147 C h dX10_favours_393 ?_
        refine tI (y := nI (st + 1 + k + cnt + ol.length)) rfl ?_
        refine lv_iload hx hb dX10_favours_396 (lv_at hl 7 rfl) ?_
        refine lv_isub hx hb dX10_favours_398 ?_
        refine tI (y := nI (ol.length)) (by rw [pk_sub (by omega)]; congr 1; omega) ?_
        refine backV h (runV (As := [.int (nI (wt w 4)), .int (nI (st + 1 + k + cnt)), .int (nI (ol.length))]) (rest := []) C h (r_task l z v (va_up sc 29 (nI (st + 1 + k + cnt + ol.length))) (va_up (va_up ar 36 (P2)) 40 (O2)) (T) (wt w 4) (st + 1 + k + cnt) (ol.length) hT0 (by omega)) gv_X10_150 gv_X10_150_n ⟨rfl, rfl⟩ (r_Ref C h) rfl hl.1 rfl (Nat.le_of_ble_eq_true rfl) dX10_favours_399 ⟨Nat.le_of_ble_eq_true rfl, Nat.le_of_ble_eq_true rfl⟩ ⟨Nat.le_of_ble_eq_true rfl, Nat.le_of_ble_eq_true rfl⟩) (fun v_399 sc_399 ar_399 H locs p_399 h => ?_)
        have h : hH z v (va_up (va_up sc 29 (nI (st + 1 + k + cnt + ol.length))) 30 (nI (T + 1))) (tkA (va_up (va_up ar 36 (P2)) 40 (O2)) (T) (wt w 4) (st + 1 + k + cnt) (ol.length)) s H locs := uEq p_399 h
        refine lv_aload_n hx hb dX10_favours_402 rfl (lv_at hl 0 rfl) ?_
        refine lv_aload_n hx hb dX10_favours_403 rfl (lv_at hl 0 rfl) ?_
        refine rg_X10_19 C h dX10_favours_404 ?_
        refine lv_iload_n hx hb dX10_favours_407 rfl (lv_at hl 1 rfl) ?_
        refine ldA 31 rfl (j := w) (show w < 40 by omega) (by decide) C h dX10_favours_408 ?_
        refine tI (y := nI (wt w 3)) (hRW w hw).2.2.2.1 ?_
        refine lv_iload hx hb dX10_favours_409 (lv_at hl 6 rfl) ?_
        refine lv_iload_n hx hb dX10_favours_411 rfl (lv_at hl 3 rfl) ?_
        refine backV h (runV (As := [.int (nI (wt w 3)), .int (nI (st + 1 + k)), .int (nI (cnt))]) (rest := []) C h (r_task l z v (va_up (va_up sc 29 (nI (st + 1 + k + cnt + ol.length))) 30 (nI (T + 1))) (tkA (va_up (va_up ar 36 (P2)) 40 (O2)) (T) (wt w 4) (st + 1 + k + cnt) (ol.length)) (T + 1) (wt w 3) (st + 1 + k) (cnt) rfl (by omega)) gv_X10_150 gv_X10_150_n ⟨rfl, rfl⟩ (r_Ref C h) rfl hl.1 rfl (Nat.le_of_ble_eq_true rfl) dX10_favours_412 ⟨Nat.le_of_ble_eq_true rfl, Nat.le_of_ble_eq_true rfl⟩ ⟨Nat.le_of_ble_eq_true rfl, Nat.le_of_ble_eq_true rfl⟩) (fun v_412 sc_412 ar_412 H locs p_412 h => ?_)
        rw [va_uu] at p_412
        have h : hH z v (va_up (va_up sc 29 (nI (st + 1 + k + cnt + ol.length))) 30 (nI (T + 1 + 1))) (tkA (tkA (va_up (va_up ar 36 (P2)) 40 (O2)) (T) (wt w 4) (st + 1 + k + cnt) (ol.length)) (T + 1) (wt w 3) (st + 1 + k) (cnt)) s H locs := uEq p_412 h
        refine lv_aload_n hx hb dX10_favours_415 rfl (lv_at hl 0 rfl) ?_
        refine lv_aload_n hx hb dX10_favours_416 rfl (lv_at hl 0 rfl) ?_
        refine rg_X10_16 C h dX10_favours_417 ?_
        refine lv_iload_n hx hb dX10_favours_420 rfl (lv_at hl 1 rfl) ?_
        refine ldA 30 rfl (j := w) (show w < 40 by omega) (by decide) C h dX10_favours_421 ?_
        refine tI (y := nI (wt w 2)) (hRW w hw).2.2.1 ?_
        refine lv_iload hx hb dX10_favours_422 (lv_at hl 4 rfl) ?_
        refine lv_iconst (v := nI (1)) hx hb dX10_favours_424 (by decide) ?_
        refine lv_iadd hx hb dX10_favours_425 ?_
        refine tI (y := nI (st + 1)) (nI_add _ _) ?_
        refine lv_iload hx hb dX10_favours_426 (lv_at hl 5 rfl) ?_
        refine backV h (runV (As := [.int (nI (wt w 2)), .int (nI (st + 1)), .int (nI (k))]) (rest := []) C h (r_task l z v (va_up (va_up sc 29 (nI (st + 1 + k + cnt + ol.length))) 30 (nI (T + 1 + 1))) (tkA (tkA (va_up (va_up ar 36 (P2)) 40 (O2)) (T) (wt w 4) (st + 1 + k + cnt) (ol.length)) (T + 1) (wt w 3) (st + 1 + k) (cnt)) (T + 2) (wt w 2) (st + 1) (k) rfl (by omega)) gv_X10_150 gv_X10_150_n ⟨rfl, rfl⟩ (r_Ref C h) rfl hl.1 rfl (Nat.le_of_ble_eq_true rfl) dX10_favours_428 ⟨Nat.le_of_ble_eq_true rfl, Nat.le_of_ble_eq_true rfl⟩ ⟨Nat.le_of_ble_eq_true rfl, Nat.le_of_ble_eq_true rfl⟩) (fun v_428 sc_428 ar_428 H locs p_428 h => ?_)
        rw [va_uu] at p_428
        have h : hH z v (va_up (va_up sc 29 (nI (st + 1 + k + cnt + ol.length))) 30 (nI (T + 2 + 1))) (tkA (tkA (tkA (va_up (va_up ar 36 (P2)) 40 (O2)) (T) (wt w 4) (st + 1 + k + cnt) (ol.length)) (T + 1) (wt w 3) (st + 1 + k) (cnt)) (T + 2) (wt w 2) (st + 1) (k)) s H locs := uEq p_428 h
        refine lv_aload_n hx hb dX10_favours_431 rfl (lv_at hl 0 rfl) ?_
        refine lv_aload_n hx hb dX10_favours_432 rfl (lv_at hl 0 rfl) ?_
        refine rg_X10_16 C h dX10_favours_433 ?_
        refine lv_iload_n hx hb dX10_favours_436 rfl (lv_at hl 1 rfl) ?_
        refine ldA 30 rfl (j := w) (show w < 40 by omega) (by decide) C h dX10_favours_437 ?_
        refine tI (y := nI (wt w 2)) (hRW w hw).2.2.1 ?_
        refine lv_iload hx hb dX10_favours_438 (lv_at hl 4 rfl) ?_
        refine lv_iconst (v := nI (1)) hx hb dX10_favours_440 (by decide) ?_
        refine backV h (runV (As := [.int (nI (wt w 2)), .int (nI (st)), .int (nI (1))]) (rest := []) C h (r_task l z v (va_up (va_up sc 29 (nI (st + 1 + k + cnt + ol.length))) 30 (nI (T + 2 + 1))) (tkA (tkA (tkA (va_up (va_up ar 36 (P2)) 40 (O2)) (T) (wt w 4) (st + 1 + k + cnt) (ol.length)) (T + 1) (wt w 3) (st + 1 + k) (cnt)) (T + 2) (wt w 2) (st + 1) (k)) (T + 3) (wt w 2) (st) (1) rfl (by omega)) gv_X10_150 gv_X10_150_n ⟨rfl, rfl⟩ (r_Ref C h) rfl hl.1 rfl (Nat.le_of_ble_eq_true rfl) dX10_favours_441 ⟨Nat.le_of_ble_eq_true rfl, Nat.le_of_ble_eq_true rfl⟩ ⟨Nat.le_of_ble_eq_true rfl, Nat.le_of_ble_eq_true rfl⟩) (fun v_441 sc_441 ar_441 H locs p_441 h => ?_)
        rw [va_uu] at p_441
        have h : hH z v (va_up (va_up sc 29 (nI (st + 1 + k + cnt + ol.length))) 30 (nI (T + 3 + 1))) (tkA (tkA (tkA (tkA (va_up (va_up ar 36 (P2)) 40 (O2)) (T) (wt w 4) (st + 1 + k + cnt) (ol.length)) (T + 1) (wt w 3) (st + 1 + k) (cnt)) (T + 2) (wt w 2) (st + 1) (k)) (T + 3) (wt w 2) (st) (1)) s H locs := uEq p_441 h
        exact rV C hr hlk h dX10_favours_444 (Nat.le_of_ble_eq_true rfl) (Nat.le_of_ble_eq_true rfl) ((by subst hFk; exact ⟨P2, O2, F, ol, by rw [hF0, hF], by omega, by rw [e2, hic]; exact oth_row (ar 36) F f cnt, e3, e4, e5, fun q hq => e6 q (by omega), e7, rfl⟩))
      · skip
        refine lv_iconst (v := nI (0)) hx hb dX10_favours_278 (by decide) ?_
        refine lv_istore (lv' := [(10, .int (nI (0))), (0, .ref (zad z 27)), (1, .int (nI (w))), (2, .int (nI (f))), (3, .int (nI (cnt))), (4, .int (nI (st))), (5, .int (nI (k))), (7, .int (nI (st + 1 + k))), (8, .int (nI (st + 1 + k + cnt))), (9, .int (nI (i)))]) hx hb dX10_favours_279 hl (by decide) rfl (fun ls hl => ?_)
        refine lv_iconst (v := nI (0)) hx hb dX10_favours_281 (by decide) ?_
        refine lv_istore (lv' := [(11, .int (nI (0))), (10, .int (nI (0))), (0, .ref (zad z 27)), (1, .int (nI (w))), (2, .int (nI (f))), (3, .int (nI (cnt))), (4, .int (nI (st))), (5, .int (nI (k))), (7, .int (nI (st + 1 + k))), (8, .int (nI (st + 1 + k + cnt))), (9, .int (nI (i)))]) hx hb dX10_favours_282 hl (by decide) rfl (fun ls hl => ?_)
        refine lpW2 (fun (j : Nat) (tv : Nat) (H : Heap) (locs : List Loc) (ls : Array Slot) => (j ≤ k) ∧ (tv = tk F (ar 36 (f + i)) j) ∧ (tv ≤ j) ∧ hH z v (va_up sc 29 (nI (st + 1 + k + cnt + ol.length))) (va_up (va_up ar 36 (P2)) 40 (O2)) s H locs ∧ lv_has ls 12 [(0, .ref (zad z 27)), (1, .int (nI (w))), (2, .int (nI (f))), (3, .int (nI (cnt))), (4, .int (nI (st))), (5, .int (nI (k))), (7, .int (nI (st + 1 + k))), (8, .int (nI (st + 1 + k + cnt))), (9, .int (nI (i))), (10, .int (nI (tv))), (11, .int (nI (j)))]) (fun (j : Nat) (tv : Nat) => k - j) (fun j tv ih_284 H locs ls hI => ?_) (0) (0) ⟨Nat.zero_le _, rfl, Nat.le_refl _, h, lv_sub hl [2, 3, 4, 5, 6, 7, 8, 9, 10, 1, 0] rfl⟩
        obtain ⟨g1, g2, g3, h, hl⟩ := hI
        refine lv_iload hx hb dX10_favours_284 (lv_at hl 10 rfl) ?_
        refine lv_iload hx hb dX10_favours_286 (lv_at hl 5 rfl) ?_
        refine jN_ge (tgt := 332) (a := j) (b := k) C (by omega) (by omega) dX10_favours_288 (by decide) (fun c_288 => ?_) (fun c_288 => ?_)
        · skip
          have htv : tv = tok F (ar 36 (f + i)) := by rw [g2, show j = k by omega, ← hFk]; rfl
          refine lv_aload_n hx hb dX10_favours_332 rfl (lv_at hl 0 rfl) ?_
          refine rg_X10_48 C h dX10_favours_333 ?_
          refine lv_iload hx hb dX10_favours_336 (lv_at hl 6 rfl) ?_
          refine lv_iload hx hb dX10_favours_338 (lv_at hl 8 rfl) ?_
          refine lv_iadd hx hb dX10_favours_340 ?_
          refine tI (y := nI (st + 1 + k + i)) (nI_add _ _) ?_
          refine lv_iload hx hb dX10_favours_341 (lv_at hl 9 rfl) ?_
          refine stA 36 rfl (j := st + 1 + k + i) (x := nI (tv)) (show st + 1 + k + i < 40000 by omega) (by decide) C h dX10_favours_343 (fun H locs h => ?_)
          rw [put_k (k := 36) (q := 40) (by decide)] at h
          have h : hH z v (va_up sc 29 (nI (st + 1 + k + cnt + ol.length))) (va_up (va_up ar 36 (upd (P2) (st + 1 + k + i) (nI (tv)))) 40 (O2)) s H locs := h
          refine lv_iload hx hb dX10_favours_344 (lv_at hl 9 rfl) ?_
          refine zN_ne (tgt := 377) (a := tv) C (by omega) dX10_favours_346 (by decide) (fun c_346 => ?_) (fun c_346 => ?_)
          · skip
            refine lv_iinc (v := nI (i + 1)) (lv' := [(9, .int (nI (i + 1))), (0, .ref (zad z 27)), (1, .int (nI (w))), (2, .int (nI (f))), (3, .int (nI (cnt))), (4, .int (nI (st))), (5, .int (nI (k))), (7, .int (nI (st + 1 + k))), (8, .int (nI (st + 1 + k + cnt))), (10, .int (nI (tv))), (11, .int (nI (j)))]) hx hb dX10_favours_377 hl (k := 8) rfl (nN_inc _) (by decide) rfl (fun ls hl => ?_)
            refine lv_goto (tgt := 272) hx hb dX10_favours_380 (by decide) ?_
            exact ih_272 (i + 1) (upd P2 (st + 1 + k + i) (nI tv)) (ol) (by omega) H locs ls ⟨by omega, (by rw [oth_1 (by show 0 < tok F (ar 36 (f + i)); rw [← htv]; exact c_346), ← e2]), fun q hq => (by rw [pk_un (by omega)]; exact e3 q hq), (by rw [pk_un (by omega)]; exact e4), fun q hq => (by rw [pk_un (by omega)]; exact e5 q hq), fun q hq => (by by_cases e : q = i; rw [e, pk_us, htv]; rw [pk_un (by omega)]; exact e6 q (by omega)), fun q hq => (by rw [pk_un (by omega)]; exact e7 q hq), h, lv_sub hl [1, 2, 3, 4, 5, 6, 7, 8, 0] rfl⟩
          · skip
            refine lv_aload_n hx hb dX10_favours_349 rfl (lv_at hl 0 rfl) ?_
            refine rg_X10_48 C h dX10_favours_350 ?_
            refine lv_aload_n hx hb dX10_favours_353 rfl (lv_at hl 0 rfl) ?_
            refine rg_X10_147 C h dX10_favours_354 ?_
            refine tI (y := nI (st + 1 + k + cnt + ol.length)) rfl ?_
            refine lv_aload_n hx hb dX10_favours_357 rfl (lv_at hl 0 rfl) ?_
            refine rg_X10_48 C h dX10_favours_358 ?_
            refine lv_iload_n hx hb dX10_favours_361 rfl (lv_at hl 2 rfl) ?_
            refine lv_iload hx hb dX10_favours_362 (lv_at hl 8 rfl) ?_
            refine lv_iadd hx hb dX10_favours_364 ?_
            refine tI (nI_add _ _) ?_
            refine ldA 36 rfl (j := (f) + (i)) (show (f) + (i) < 40000 by omega) (by decide) C h dX10_favours_365 ?_
            refine tI (y := ar 36 (f + i)) (by show upd P2 (st + 1 + k + i) (nI tv) (f + i) = _; rw [pk_un (by omega)]; exact e3 _ (by omega)) ?_
            refine stA 36 rfl (j := st + 1 + k + cnt + ol.length) (x := ar 36 (f + i)) (show st + 1 + k + cnt + ol.length < 40000 by omega) (by decide) C h dX10_favours_366 (fun H locs h => ?_)
            rw [put_k (k := 36) (q := 40) (by decide)] at h
            have h : hH z v (va_up sc 29 (nI (st + 1 + k + cnt + ol.length))) (va_up (va_up ar 36 (upd (upd (P2) (st + 1 + k + i) (nI (tv))) (st + 1 + k + cnt + ol.length) (ar 36 (f + i)))) 40 (O2)) s H locs := h
            refine lv_aload_n hx hb dX10_favours_367 rfl (lv_at hl 0 rfl) ?_
            refine lv_dup hx hb dX10_favours_368 rfl ?_
            refine rg_X10_147 C h dX10_favours_369 ?_
            refine tI (y := nI (st + 1 + k + cnt + ol.length)) rfl ?_
            refine lv_iconst (v := nI (1)) hx hb dX10_favours_372 (by decide) ?_
            refine lv_iadd hx hb dX10_favours_373 ?_
            refine tI (y := nI (st + 1 + k + cnt + (ol.length + 1))) (by rw [nI_add, Nat.add_assoc]) ?_
            refine rp_X10_147 C h dX10_favours_374 (fun H locs h => ?_)
            rw [va_uu] at h
            have h : hH z v (va_up sc 29 (nI (st + 1 + k + cnt + (ol.length + 1)))) (va_up (va_up ar 36 (upd (upd (P2) (st + 1 + k + i) (nI (tv))) (st + 1 + k + cnt + ol.length) (ar 36 (f + i)))) 40 (O2)) s H locs := h
            refine lv_iinc (v := nI (i + 1)) (lv' := [(9, .int (nI (i + 1))), (0, .ref (zad z 27)), (1, .int (nI (w))), (2, .int (nI (f))), (3, .int (nI (cnt))), (4, .int (nI (st))), (5, .int (nI (k))), (7, .int (nI (st + 1 + k))), (8, .int (nI (st + 1 + k + cnt))), (10, .int (nI (tv))), (11, .int (nI (j)))]) hx hb dX10_favours_377 hl (k := 8) rfl (nN_inc _) (by decide) rfl (fun ls hl => ?_)
            refine lv_goto (tgt := 272) hx hb dX10_favours_380 (by decide) ?_
            exact ih_272 (i + 1) (upd (upd P2 (st + 1 + k + i) (nI tv)) (st + 1 + k + cnt + ol.length) (ar 36 (f + i))) (ol ++ [ar 36 (f + i)]) (by omega) H locs ls ⟨by omega, (by rw [oth_0 (by show tok F (ar 36 (f + i)) = 0; rw [← htv, c_346]), ← e2]), fun q hq => (by rw [pk_un (by omega), pk_un (by omega)]; exact e3 q hq), (by rw [pk_un (by omega), pk_un (by omega)]; exact e4), fun q hq => (by rw [pk_un (by omega), pk_un (by omega)]; exact e5 q hq), fun q hq => (by rw [pk_un (by omega)]; by_cases e : q = i; rw [e, pk_us, htv]; rw [pk_un (by omega)]; exact e6 q (by omega)), fun q hq => (by rw [List.length_append] at hq; rw [getI_snoc]; by_cases e : q = ol.length; rw [if_pos e, e, pk_us]; rw [if_neg e, pk_un (by omega), pk_un (by omega)]; exact e7 q (by simp at hq; omega)), (by rw [List.length_append]; exact h), lv_sub hl [1, 2, 3, 4, 5, 6, 7, 8, 0] rfl⟩
        · skip
          refine lv_aload_n hx hb dX10_favours_291 rfl (lv_at hl 0 rfl) ?_
          refine rg_X10_48 C h dX10_favours_292 ?_
          refine lv_iload hx hb dX10_favours_295 (lv_at hl 4 rfl) ?_
          refine lv_iconst (v := nI (1)) hx hb dX10_favours_297 (by decide) ?_
          refine lv_iadd hx hb dX10_favours_298 ?_
          refine tI (y := nI (st + 1)) (nI_add _ _) ?_
          refine lv_iload hx hb dX10_favours_299 (lv_at hl 10 rfl) ?_
          refine lv_iadd hx hb dX10_favours_301 ?_
          refine tI (y := nI (st + 1 + j)) (nI_add _ _) ?_
          refine ldA 36 rfl (j := st + 1 + j) (show st + 1 + j < 40000 by omega) (by decide) C h dX10_favours_302 ?_
          refine tI (y := F.getD j 0) (e5 j (by omega)) ?_
          refine lv_aload_n hx hb dX10_favours_303 rfl (lv_at hl 0 rfl) ?_
          refine rg_X10_48 C h dX10_favours_304 ?_
          refine lv_iload_n hx hb dX10_favours_307 rfl (lv_at hl 2 rfl) ?_
          refine lv_iload hx hb dX10_favours_308 (lv_at hl 8 rfl) ?_
          refine lv_iadd hx hb dX10_favours_310 ?_
          refine tI (nI_add _ _) ?_
          refine ldA 36 rfl (j := (f) + (i)) (show (f) + (i) < 40000 by omega) (by decide) C h dX10_favours_311 ?_
          refine tI (y := ar 36 (f + i)) (e3 _ (by omega)) ?_
          refine lv_icmp_ne (tgt := 322) hx hb dX10_favours_312 (by decide) (fun c_312 => ?_) (fun c_312 => ?_)
          · skip
            refine lv_iload hx hb dX10_favours_322 (lv_at hl 9 rfl) ?_
            refine lv_istore (lv' := [(10, .int (nI (tv))), (0, .ref (zad z 27)), (1, .int (nI (w))), (2, .int (nI (f))), (3, .int (nI (cnt))), (4, .int (nI (st))), (5, .int (nI (k))), (7, .int (nI (st + 1 + k))), (8, .int (nI (st + 1 + k + cnt))), (9, .int (nI (i))), (11, .int (nI (j)))]) hx hb dX10_favours_324 hl (by decide) rfl (fun ls hl => ?_)
            refine lv_iinc (v := nI (j + 1)) (lv' := [(11, .int (nI (j + 1))), (10, .int (nI (tv))), (0, .ref (zad z 27)), (1, .int (nI (w))), (2, .int (nI (f))), (3, .int (nI (cnt))), (4, .int (nI (st))), (5, .int (nI (k))), (7, .int (nI (st + 1 + k))), (8, .int (nI (st + 1 + k + cnt))), (9, .int (nI (i)))]) hx hb dX10_favours_326 hl (k := 10) rfl (nN_inc _) (by decide) rfl (fun ls hl => ?_)
            refine lv_goto (tgt := 284) hx hb dX10_favours_329 (by decide) ?_
            exact ih_284 (j + 1) (tv) (by omega) H locs ls ⟨by omega, (by unfold tk; rw [if_neg c_312]; exact g2), by omega, h, lv_sub hl [2, 3, 4, 5, 6, 7, 8, 9, 10, 1, 0] rfl⟩
          · skip
            refine lv_iload hx hb dX10_favours_315 (lv_at hl 10 rfl) ?_
            refine lv_iconst (v := nI (1)) hx hb dX10_favours_317 (by decide) ?_
            refine lv_iadd hx hb dX10_favours_318 ?_
            refine tI (y := nI (j + 1)) (nI_add _ _) ?_
            refine lv_goto (tgt := 324) hx hb dX10_favours_319 (by decide) ?_
            refine lv_istore (lv' := [(10, .int (nI (j + 1))), (0, .ref (zad z 27)), (1, .int (nI (w))), (2, .int (nI (f))), (3, .int (nI (cnt))), (4, .int (nI (st))), (5, .int (nI (k))), (7, .int (nI (st + 1 + k))), (8, .int (nI (st + 1 + k + cnt))), (9, .int (nI (i))), (11, .int (nI (j)))]) hx hb dX10_favours_324 hl (by decide) rfl (fun ls hl => ?_)
            refine lv_iinc (v := nI (j + 1)) (lv' := [(11, .int (nI (j + 1))), (10, .int (nI (j + 1))), (0, .ref (zad z 27)), (1, .int (nI (w))), (2, .int (nI (f))), (3, .int (nI (cnt))), (4, .int (nI (st))), (5, .int (nI (k))), (7, .int (nI (st + 1 + k))), (8, .int (nI (st + 1 + k + cnt))), (9, .int (nI (i)))]) hx hb dX10_favours_326 hl (k := 10) rfl (nN_inc _) (by decide) rfl (fun ls hl => ?_)
            refine lv_goto (tgt := 284) hx hb dX10_favours_329 (by decide) ?_
            exact ih_284 (j + 1) (j + 1) (by omega) H locs ls ⟨by omega, (by unfold tk; rw [if_pos c_312]), by omega, h, lv_sub hl [2, 3, 4, 5, 6, 7, 8, 9, 10, 1, 0] rfl⟩
    · skip
      refine lv_iload hx hb dX10_favours_114 (lv_at hl 5 rfl) ?_
      refine lv_aload_n hx hb dX10_favours_116 rfl (lv_at hl 0 rfl) ?_
      refine rg_X10_13 C h dX10_favours_117 ?_
      refine lv_iload_n hx hb dX10_favours_120 rfl (lv_at hl 1 rfl) ?_
      refine ldA 29 rfl (j := w) (show w < 40 by omega) (by decide) C h dX10_favours_121 ?_
      refine tI (y := nI (wt w 1)) (hRW w hw).2.1 ?_
      refine jN_ge (tgt := 238) (a := k) (b := wt w 1) C (by omega) (by omega) dX10_favours_122 (by decide) (fun c_122 => ?_) (fun c_122 => ?_)
      · skip
        have hjs : fv (oft (fun i => ar 36 (f + i)) cnt) cnt (wt w 1) = js := by rw [c3, show wt w 1 - k = 0 by omega, fv_0, List.append_nil]
        have hF0 : favL (wt w 1) (rowL (ar 36) f cnt) = js.map (fun i => ar 36 (f + i)) := by rw [favL_row]; unfold favs; rw [hjs]
        obtain ⟨F, hF⟩ : ∃ F, F = js.map (fun i => ar 36 (f + i)) := ⟨_, rfl⟩
        have hFk : F.length = k := by rw [hF, List.length_map]; exact c1.1
        have c7 : ∀ q, q < k → P (st + 1 + q) = F.getD q 0 := fun q hq => by rw [hF, getD_map (by rw [c1.1]; exact hq)]; exact c6 q hq
        refine lv_aload_n hx hb dX10_favours_238 rfl (lv_at hl 0 rfl) ?_
        refine rg_X10_48 C h dX10_favours_239 ?_
        refine lv_iload hx hb dX10_favours_242 (lv_at hl 4 rfl) ?_
        refine lv_iload hx hb dX10_favours_244 (lv_at hl 5 rfl) ?_
        refine stA 36 rfl (j := st) (x := nI (k)) (show st < 40000 by omega) (by decide) C h dX10_favours_246 (fun H locs h => ?_)
        rw [put_k (k := 36) (q := 40) (by decide)] at h
        have h : hH z v (va_up sc 29 (nI (st + 1 + k))) (va_up (va_up ar 36 (upd (P) (st) (nI (k)))) 40 (O2)) s H locs := h
        refine lv_aload_n hx hb dX10_favours_247 rfl (lv_at hl 0 rfl) ?_
        refine rg_X10_147 C h dX10_favours_248 ?_
        refine tI (y := nI (st + 1 + k)) rfl ?_
        refine lv_istore (lv' := [(7, .int (nI (st + 1 + k))), (0, .ref (zad z 27)), (1, .int (nI (w))), (2, .int (nI (f))), (3, .int (nI (cnt))), (4, .int (nI (st))), (5, .int (nI (k))), (6, .int (nI (mo)))]) hx hb dX10_favours_251 hl (by decide) rfl (fun ls hl => ?_)
        refine lv_aload_n hx hb dX10_favours_253 rfl (lv_at hl 1 rfl) ?_
        refine lv_dup hx hb dX10_favours_254 rfl ?_
        refine rg_X10_147 C h dX10_favours_255 ?_
        refine tI (y := nI (st + 1 + k)) rfl ?_
        refine lv_iload_n hx hb dX10_favours_258 rfl (lv_at hl 4 rfl) ?_
        refine lv_iadd hx hb dX10_favours_259 ?_
        refine tI (y := nI (st + 1 + k + cnt)) (nI_add _ _) ?_
        refine rp_X10_147 C h dX10_favours_260 (fun H locs h => ?_)
        rw [va_uu] at h
        have h : hH z v (va_up sc 29 (nI (st + 1 + k + cnt))) (va_up (va_up ar 36 (upd (P) (st) (nI (k)))) 40 (O2)) s H locs := h
        refine lv_aload_n hx hb dX10_favours_263 rfl (lv_at hl 1 rfl) ?_
        refine rg_X10_147 C h dX10_favours_264 ?_
        refine tI (y := nI (st + 1 + k + cnt)) rfl ?_
        refine lv_istore (lv' := [(8, .int (nI (st + 1 + k + cnt))), (7, .int (nI (st + 1 + k))), (0, .ref (zad z 27)), (1, .int (nI (w))), (2, .int (nI (f))), (3, .int (nI (cnt))), (4, .int (nI (st))), (5, .int (nI (k))), (6, .int (nI (mo)))]) hx hb dX10_favours_267 hl (by decide) rfl (fun ls hl => ?_)
        refine lv_iconst (v := nI (0)) hx hb dX10_favours_269 (by decide) ?_
        refine lv_istore (lv' := [(9, .int (nI (0))), (8, .int (nI (st + 1 + k + cnt))), (7, .int (nI (st + 1 + k))), (0, .ref (zad z 27)), (1, .int (nI (w))), (2, .int (nI (f))), (3, .int (nI (cnt))), (4, .int (nI (st))), (5, .int (nI (k))), (6, .int (nI (mo)))]) hx hb dX10_favours_270 hl (by decide) rfl (fun ls hl => ?_)
        refine lpW3 (fun (i : Nat) (P2 : Nat → Int32) (ol : List Int32) (H : Heap) (locs : List Loc) (ls : Array Slot) => (i ≤ cnt) ∧ (ol = oth (fun i => ar 36 (f + i)) (fun q => tok F (ar 36 (f + q))) i) ∧ (∀ q, q < st → P2 q = ar 36 q) ∧ (P2 st = nI k) ∧ (∀ q, q < k → P2 (st + 1 + q) = F.getD q 0) ∧ (∀ q, q < i → P2 (st + 1 + k + q) = nI (tok F (ar 36 (f + q)))) ∧ (∀ q, q < ol.length → P2 (st + 1 + k + cnt + q) = ol.getD q 0) ∧ hH z v (va_up sc 29 (nI (st + 1 + k + cnt + ol.length))) (va_up (va_up ar 36 (P2)) 40 (O2)) s H locs ∧ lv_has ls 12 [(0, .ref (zad z 27)), (1, .int (nI (w))), (2, .int (nI (f))), (3, .int (nI (cnt))), (4, .int (nI (st))), (5, .int (nI (k))), (7, .int (nI (st + 1 + k))), (8, .int (nI (st + 1 + k + cnt))), (9, .int (nI (i)))]) (fun (i : Nat) (P2 : Nat → Int32) (ol : List Int32) => cnt - i) (fun i P2 ol ih_272 H locs ls hI => ?_) (0) (upd (P) (st) (nI (k))) ([]) ⟨Nat.zero_le _, rfl, fun q hq => (by rw [pk_un (by omega)]; exact c5 q hq), pk_us, fun q hq => (by rw [pk_un (by omega)]; exact c7 q hq), fun q hq => absurd hq (Nat.not_lt_zero _), fun q hq => absurd hq (Nat.not_lt_zero _), h, lv_sub hl [3, 4, 5, 6, 7, 8, 2, 1, 0] rfl⟩
        obtain ⟨e1, e2, e3, e4, e5, e6, e7, h, hl⟩ := hI
        have hol := oth_le (fun i => ar 36 (f + i)) (fun q => tok F (ar 36 (f + q))) i
        rw [← e2] at hol
        refine lv_iload hx hb dX10_favours_272 (lv_at hl 8 rfl) ?_
        refine lv_iload_n hx hb dX10_favours_274 rfl (lv_at hl 3 rfl) ?_
        refine jN_ge (tgt := 383) (a := i) (b := cnt) C (by omega) (by omega) dX10_favours_275 (by decide) (fun c_275 => ?_) (fun c_275 => ?_)
        · skip
          have hic : i = cnt := by omega
          refine lv_aload_n hx hb dX10_favours_383 rfl (lv_at hl 0 rfl) ?_
          refine lv_aload_n hx hb dX10_favours_384 rfl (lv_at hl 0 rfl) ?_
          refine rg_X10_22 C h dX10_favours_385 ?_
          refine lv_iload_n hx hb dX10_favours_388 rfl (lv_at hl 1 rfl) ?_
          refine ldA 32 rfl (j := w) (show w < 40 by omega) (by decide) C h dX10_favours_389 ?_
          refine tI (y := nI (wt w 4)) (hRW w hw).2.2.2.2.1 ?_
          refine lv_iload hx hb dX10_favours_390 (lv_at hl 7 rfl) ?_
          refine lv_aload_n hx hb dX10_favours_392 rfl (lv_at hl 0 rfl) ?_
          refine rg_X10_147 C h dX10_favours_393 ?_
          refine tI (y := nI (st + 1 + k + cnt + ol.length)) rfl ?_
          refine lv_iload hx hb dX10_favours_396 (lv_at hl 7 rfl) ?_
          refine lv_isub hx hb dX10_favours_398 ?_
          refine tI (y := nI (ol.length)) (by rw [pk_sub (by omega)]; congr 1; omega) ?_
          refine backV h (runV (As := [.int (nI (wt w 4)), .int (nI (st + 1 + k + cnt)), .int (nI (ol.length))]) (rest := []) C h (r_task l z v (va_up sc 29 (nI (st + 1 + k + cnt + ol.length))) (va_up (va_up ar 36 (P2)) 40 (O2)) (T) (wt w 4) (st + 1 + k + cnt) (ol.length) hT0 (by omega)) gv_X10_150 gv_X10_150_n ⟨rfl, rfl⟩ (r_Ref C h) rfl hl.1 rfl (Nat.le_of_ble_eq_true rfl) dX10_favours_399 ⟨Nat.le_of_ble_eq_true rfl, Nat.le_of_ble_eq_true rfl⟩ ⟨Nat.le_of_ble_eq_true rfl, Nat.le_of_ble_eq_true rfl⟩) (fun v_399 sc_399 ar_399 H locs p_399 h => ?_)
          have h : hH z v (va_up (va_up sc 29 (nI (st + 1 + k + cnt + ol.length))) 30 (nI (T + 1))) (tkA (va_up (va_up ar 36 (P2)) 40 (O2)) (T) (wt w 4) (st + 1 + k + cnt) (ol.length)) s H locs := uEq p_399 h
          refine lv_aload_n hx hb dX10_favours_402 rfl (lv_at hl 0 rfl) ?_
          refine lv_aload_n hx hb dX10_favours_403 rfl (lv_at hl 0 rfl) ?_
          refine rg_X10_19 C h dX10_favours_404 ?_
          refine lv_iload_n hx hb dX10_favours_407 rfl (lv_at hl 1 rfl) ?_
          refine ldA 31 rfl (j := w) (show w < 40 by omega) (by decide) C h dX10_favours_408 ?_
          refine tI (y := nI (wt w 3)) (hRW w hw).2.2.2.1 ?_
          refine lv_iload hx hb dX10_favours_409 (lv_at hl 6 rfl) ?_
          refine lv_iload_n hx hb dX10_favours_411 rfl (lv_at hl 3 rfl) ?_
          refine backV h (runV (As := [.int (nI (wt w 3)), .int (nI (st + 1 + k)), .int (nI (cnt))]) (rest := []) C h (r_task l z v (va_up (va_up sc 29 (nI (st + 1 + k + cnt + ol.length))) 30 (nI (T + 1))) (tkA (va_up (va_up ar 36 (P2)) 40 (O2)) (T) (wt w 4) (st + 1 + k + cnt) (ol.length)) (T + 1) (wt w 3) (st + 1 + k) (cnt) rfl (by omega)) gv_X10_150 gv_X10_150_n ⟨rfl, rfl⟩ (r_Ref C h) rfl hl.1 rfl (Nat.le_of_ble_eq_true rfl) dX10_favours_412 ⟨Nat.le_of_ble_eq_true rfl, Nat.le_of_ble_eq_true rfl⟩ ⟨Nat.le_of_ble_eq_true rfl, Nat.le_of_ble_eq_true rfl⟩) (fun v_412 sc_412 ar_412 H locs p_412 h => ?_)
          rw [va_uu] at p_412
          have h : hH z v (va_up (va_up sc 29 (nI (st + 1 + k + cnt + ol.length))) 30 (nI (T + 1 + 1))) (tkA (tkA (va_up (va_up ar 36 (P2)) 40 (O2)) (T) (wt w 4) (st + 1 + k + cnt) (ol.length)) (T + 1) (wt w 3) (st + 1 + k) (cnt)) s H locs := uEq p_412 h
          refine lv_aload_n hx hb dX10_favours_415 rfl (lv_at hl 0 rfl) ?_
          refine lv_aload_n hx hb dX10_favours_416 rfl (lv_at hl 0 rfl) ?_
          refine rg_X10_16 C h dX10_favours_417 ?_
          refine lv_iload_n hx hb dX10_favours_420 rfl (lv_at hl 1 rfl) ?_
          refine ldA 30 rfl (j := w) (show w < 40 by omega) (by decide) C h dX10_favours_421 ?_
          refine tI (y := nI (wt w 2)) (hRW w hw).2.2.1 ?_
          refine lv_iload hx hb dX10_favours_422 (lv_at hl 4 rfl) ?_
          refine lv_iconst (v := nI (1)) hx hb dX10_favours_424 (by decide) ?_
          refine lv_iadd hx hb dX10_favours_425 ?_
          refine tI (y := nI (st + 1)) (nI_add _ _) ?_
          refine lv_iload hx hb dX10_favours_426 (lv_at hl 5 rfl) ?_
          refine backV h (runV (As := [.int (nI (wt w 2)), .int (nI (st + 1)), .int (nI (k))]) (rest := []) C h (r_task l z v (va_up (va_up sc 29 (nI (st + 1 + k + cnt + ol.length))) 30 (nI (T + 1 + 1))) (tkA (tkA (va_up (va_up ar 36 (P2)) 40 (O2)) (T) (wt w 4) (st + 1 + k + cnt) (ol.length)) (T + 1) (wt w 3) (st + 1 + k) (cnt)) (T + 2) (wt w 2) (st + 1) (k) rfl (by omega)) gv_X10_150 gv_X10_150_n ⟨rfl, rfl⟩ (r_Ref C h) rfl hl.1 rfl (Nat.le_of_ble_eq_true rfl) dX10_favours_428 ⟨Nat.le_of_ble_eq_true rfl, Nat.le_of_ble_eq_true rfl⟩ ⟨Nat.le_of_ble_eq_true rfl, Nat.le_of_ble_eq_true rfl⟩) (fun v_428 sc_428 ar_428 H locs p_428 h => ?_)
          rw [va_uu] at p_428
          have h : hH z v (va_up (va_up sc 29 (nI (st + 1 + k + cnt + ol.length))) 30 (nI (T + 2 + 1))) (tkA (tkA (tkA (va_up (va_up ar 36 (P2)) 40 (O2)) (T) (wt w 4) (st + 1 + k + cnt) (ol.length)) (T + 1) (wt w 3) (st + 1 + k) (cnt)) (T + 2) (wt w 2) (st + 1) (k)) s H locs := uEq p_428 h
          refine lv_aload_n hx hb dX10_favours_431 rfl (lv_at hl 0 rfl) ?_
          refine lv_aload_n hx hb dX10_favours_432 rfl (lv_at hl 0 rfl) ?_
          refine rg_X10_16 C h dX10_favours_433 ?_
          refine lv_iload_n hx hb dX10_favours_436 rfl (lv_at hl 1 rfl) ?_
          refine ldA 30 rfl (j := w) (show w < 40 by omega) (by decide) C h dX10_favours_437 ?_
          refine tI (y := nI (wt w 2)) (hRW w hw).2.2.1 ?_
          refine lv_iload hx hb dX10_favours_438 (lv_at hl 4 rfl) ?_
          refine lv_iconst (v := nI (1)) hx hb dX10_favours_440 (by decide) ?_
          refine backV h (runV (As := [.int (nI (wt w 2)), .int (nI (st)), .int (nI (1))]) (rest := []) C h (r_task l z v (va_up (va_up sc 29 (nI (st + 1 + k + cnt + ol.length))) 30 (nI (T + 2 + 1))) (tkA (tkA (tkA (va_up (va_up ar 36 (P2)) 40 (O2)) (T) (wt w 4) (st + 1 + k + cnt) (ol.length)) (T + 1) (wt w 3) (st + 1 + k) (cnt)) (T + 2) (wt w 2) (st + 1) (k)) (T + 3) (wt w 2) (st) (1) rfl (by omega)) gv_X10_150 gv_X10_150_n ⟨rfl, rfl⟩ (r_Ref C h) rfl hl.1 rfl (Nat.le_of_ble_eq_true rfl) dX10_favours_441 ⟨Nat.le_of_ble_eq_true rfl, Nat.le_of_ble_eq_true rfl⟩ ⟨Nat.le_of_ble_eq_true rfl, Nat.le_of_ble_eq_true rfl⟩) (fun v_441 sc_441 ar_441 H locs p_441 h => ?_)
          rw [va_uu] at p_441
          have h : hH z v (va_up (va_up sc 29 (nI (st + 1 + k + cnt + ol.length))) 30 (nI (T + 3 + 1))) (tkA (tkA (tkA (tkA (va_up (va_up ar 36 (P2)) 40 (O2)) (T) (wt w 4) (st + 1 + k + cnt) (ol.length)) (T + 1) (wt w 3) (st + 1 + k) (cnt)) (T + 2) (wt w 2) (st + 1) (k)) (T + 3) (wt w 2) (st) (1)) s H locs := uEq p_441 h
          exact rV C hr hlk h dX10_favours_444 (Nat.le_of_ble_eq_true rfl) (Nat.le_of_ble_eq_true rfl) ((by subst hFk; exact ⟨P2, O2, F, ol, by rw [hF0, hF], by omega, by rw [e2, hic]; exact oth_row (ar 36) F f cnt, e3, e4, e5, fun q hq => e6 q (by omega), e7, rfl⟩))
        · skip
          refine lv_iconst (v := nI (0)) hx hb dX10_favours_278 (by decide) ?_
          refine lv_istore (lv' := [(10, .int (nI (0))), (0, .ref (zad z 27)), (1, .int (nI (w))), (2, .int (nI (f))), (3, .int (nI (cnt))), (4, .int (nI (st))), (5, .int (nI (k))), (7, .int (nI (st + 1 + k))), (8, .int (nI (st + 1 + k + cnt))), (9, .int (nI (i)))]) hx hb dX10_favours_279 hl (by decide) rfl (fun ls hl => ?_)
          refine lv_iconst (v := nI (0)) hx hb dX10_favours_281 (by decide) ?_
          refine lv_istore (lv' := [(11, .int (nI (0))), (10, .int (nI (0))), (0, .ref (zad z 27)), (1, .int (nI (w))), (2, .int (nI (f))), (3, .int (nI (cnt))), (4, .int (nI (st))), (5, .int (nI (k))), (7, .int (nI (st + 1 + k))), (8, .int (nI (st + 1 + k + cnt))), (9, .int (nI (i)))]) hx hb dX10_favours_282 hl (by decide) rfl (fun ls hl => ?_)
          refine lpW2 (fun (j : Nat) (tv : Nat) (H : Heap) (locs : List Loc) (ls : Array Slot) => (j ≤ k) ∧ (tv = tk F (ar 36 (f + i)) j) ∧ (tv ≤ j) ∧ hH z v (va_up sc 29 (nI (st + 1 + k + cnt + ol.length))) (va_up (va_up ar 36 (P2)) 40 (O2)) s H locs ∧ lv_has ls 12 [(0, .ref (zad z 27)), (1, .int (nI (w))), (2, .int (nI (f))), (3, .int (nI (cnt))), (4, .int (nI (st))), (5, .int (nI (k))), (7, .int (nI (st + 1 + k))), (8, .int (nI (st + 1 + k + cnt))), (9, .int (nI (i))), (10, .int (nI (tv))), (11, .int (nI (j)))]) (fun (j : Nat) (tv : Nat) => k - j) (fun j tv ih_284 H locs ls hI => ?_) (0) (0) ⟨Nat.zero_le _, rfl, Nat.le_refl _, h, lv_sub hl [2, 3, 4, 5, 6, 7, 8, 9, 10, 1, 0] rfl⟩
          obtain ⟨g1, g2, g3, h, hl⟩ := hI
          refine lv_iload hx hb dX10_favours_284 (lv_at hl 10 rfl) ?_
          refine lv_iload hx hb dX10_favours_286 (lv_at hl 5 rfl) ?_
          refine jN_ge (tgt := 332) (a := j) (b := k) C (by omega) (by omega) dX10_favours_288 (by decide) (fun c_288 => ?_) (fun c_288 => ?_)
          · skip
            have htv : tv = tok F (ar 36 (f + i)) := by rw [g2, show j = k by omega, ← hFk]; rfl
            refine lv_aload_n hx hb dX10_favours_332 rfl (lv_at hl 0 rfl) ?_
            refine rg_X10_48 C h dX10_favours_333 ?_
            refine lv_iload hx hb dX10_favours_336 (lv_at hl 6 rfl) ?_
            refine lv_iload hx hb dX10_favours_338 (lv_at hl 8 rfl) ?_
            refine lv_iadd hx hb dX10_favours_340 ?_
            refine tI (y := nI (st + 1 + k + i)) (nI_add _ _) ?_
            refine lv_iload hx hb dX10_favours_341 (lv_at hl 9 rfl) ?_
            refine stA 36 rfl (j := st + 1 + k + i) (x := nI (tv)) (show st + 1 + k + i < 40000 by omega) (by decide) C h dX10_favours_343 (fun H locs h => ?_)
            rw [put_k (k := 36) (q := 40) (by decide)] at h
            have h : hH z v (va_up sc 29 (nI (st + 1 + k + cnt + ol.length))) (va_up (va_up ar 36 (upd (P2) (st + 1 + k + i) (nI (tv)))) 40 (O2)) s H locs := h
            refine lv_iload hx hb dX10_favours_344 (lv_at hl 9 rfl) ?_
            refine zN_ne (tgt := 377) (a := tv) C (by omega) dX10_favours_346 (by decide) (fun c_346 => ?_) (fun c_346 => ?_)
            · skip
              refine lv_iinc (v := nI (i + 1)) (lv' := [(9, .int (nI (i + 1))), (0, .ref (zad z 27)), (1, .int (nI (w))), (2, .int (nI (f))), (3, .int (nI (cnt))), (4, .int (nI (st))), (5, .int (nI (k))), (7, .int (nI (st + 1 + k))), (8, .int (nI (st + 1 + k + cnt))), (10, .int (nI (tv))), (11, .int (nI (j)))]) hx hb dX10_favours_377 hl (k := 8) rfl (nN_inc _) (by decide) rfl (fun ls hl => ?_)
              refine lv_goto (tgt := 272) hx hb dX10_favours_380 (by decide) ?_
              exact ih_272 (i + 1) (upd P2 (st + 1 + k + i) (nI tv)) (ol) (by omega) H locs ls ⟨by omega, (by rw [oth_1 (by show 0 < tok F (ar 36 (f + i)); rw [← htv]; exact c_346), ← e2]), fun q hq => (by rw [pk_un (by omega)]; exact e3 q hq), (by rw [pk_un (by omega)]; exact e4), fun q hq => (by rw [pk_un (by omega)]; exact e5 q hq), fun q hq => (by by_cases e : q = i; rw [e, pk_us, htv]; rw [pk_un (by omega)]; exact e6 q (by omega)), fun q hq => (by rw [pk_un (by omega)]; exact e7 q hq), h, lv_sub hl [1, 2, 3, 4, 5, 6, 7, 8, 0] rfl⟩
            · skip
              refine lv_aload_n hx hb dX10_favours_349 rfl (lv_at hl 0 rfl) ?_
              refine rg_X10_48 C h dX10_favours_350 ?_
              refine lv_aload_n hx hb dX10_favours_353 rfl (lv_at hl 0 rfl) ?_
              refine rg_X10_147 C h dX10_favours_354 ?_
              refine tI (y := nI (st + 1 + k + cnt + ol.length)) rfl ?_
              refine lv_aload_n hx hb dX10_favours_357 rfl (lv_at hl 0 rfl) ?_
              refine rg_X10_48 C h dX10_favours_358 ?_
              refine lv_iload_n hx hb dX10_favours_361 rfl (lv_at hl 2 rfl) ?_
              refine lv_iload hx hb dX10_favours_362 (lv_at hl 8 rfl) ?_
              refine lv_iadd hx hb dX10_favours_364 ?_
              refine tI (nI_add _ _) ?_
              refine ldA 36 rfl (j := (f) + (i)) (show (f) + (i) < 40000 by omega) (by decide) C h dX10_favours_365 ?_
              refine tI (y := ar 36 (f + i)) (by show upd P2 (st + 1 + k + i) (nI tv) (f + i) = _; rw [pk_un (by omega)]; exact e3 _ (by omega)) ?_
              refine stA 36 rfl (j := st + 1 + k + cnt + ol.length) (x := ar 36 (f + i)) (show st + 1 + k + cnt + ol.length < 40000 by omega) (by decide) C h dX10_favours_366 (fun H locs h => ?_)
              rw [put_k (k := 36) (q := 40) (by decide)] at h
              have h : hH z v (va_up sc 29 (nI (st + 1 + k + cnt + ol.length))) (va_up (va_up ar 36 (upd (upd (P2) (st + 1 + k + i) (nI (tv))) (st + 1 + k + cnt + ol.length) (ar 36 (f + i)))) 40 (O2)) s H locs := h
              refine lv_aload_n hx hb dX10_favours_367 rfl (lv_at hl 0 rfl) ?_
              refine lv_dup hx hb dX10_favours_368 rfl ?_
              refine rg_X10_147 C h dX10_favours_369 ?_
              refine tI (y := nI (st + 1 + k + cnt + ol.length)) rfl ?_
              refine lv_iconst (v := nI (1)) hx hb dX10_favours_372 (by decide) ?_
              refine lv_iadd hx hb dX10_favours_373 ?_
              refine tI (y := nI (st + 1 + k + cnt + (ol.length + 1))) (by rw [nI_add, Nat.add_assoc]) ?_
              refine rp_X10_147 C h dX10_favours_374 (fun H locs h => ?_)
              rw [va_uu] at h
              have h : hH z v (va_up sc 29 (nI (st + 1 + k + cnt + (ol.length + 1)))) (va_up (va_up ar 36 (upd (upd (P2) (st + 1 + k + i) (nI (tv))) (st + 1 + k + cnt + ol.length) (ar 36 (f + i)))) 40 (O2)) s H locs := h
              refine lv_iinc (v := nI (i + 1)) (lv' := [(9, .int (nI (i + 1))), (0, .ref (zad z 27)), (1, .int (nI (w))), (2, .int (nI (f))), (3, .int (nI (cnt))), (4, .int (nI (st))), (5, .int (nI (k))), (7, .int (nI (st + 1 + k))), (8, .int (nI (st + 1 + k + cnt))), (10, .int (nI (tv))), (11, .int (nI (j)))]) hx hb dX10_favours_377 hl (k := 8) rfl (nN_inc _) (by decide) rfl (fun ls hl => ?_)
              refine lv_goto (tgt := 272) hx hb dX10_favours_380 (by decide) ?_
              exact ih_272 (i + 1) (upd (upd P2 (st + 1 + k + i) (nI tv)) (st + 1 + k + cnt + ol.length) (ar 36 (f + i))) (ol ++ [ar 36 (f + i)]) (by omega) H locs ls ⟨by omega, (by rw [oth_0 (by show tok F (ar 36 (f + i)) = 0; rw [← htv, c_346]), ← e2]), fun q hq => (by rw [pk_un (by omega), pk_un (by omega)]; exact e3 q hq), (by rw [pk_un (by omega), pk_un (by omega)]; exact e4), fun q hq => (by rw [pk_un (by omega), pk_un (by omega)]; exact e5 q hq), fun q hq => (by rw [pk_un (by omega)]; by_cases e : q = i; rw [e, pk_us, htv]; rw [pk_un (by omega)]; exact e6 q (by omega)), fun q hq => (by rw [List.length_append] at hq; rw [getI_snoc]; by_cases e : q = ol.length; rw [if_pos e, e, pk_us]; rw [if_neg e, pk_un (by omega), pk_un (by omega)]; exact e7 q (by simp at hq; omega)), (by rw [List.length_append]; exact h), lv_sub hl [1, 2, 3, 4, 5, 6, 7, 8, 0] rfl⟩
          · skip
            refine lv_aload_n hx hb dX10_favours_291 rfl (lv_at hl 0 rfl) ?_
            refine rg_X10_48 C h dX10_favours_292 ?_
            refine lv_iload hx hb dX10_favours_295 (lv_at hl 4 rfl) ?_
            refine lv_iconst (v := nI (1)) hx hb dX10_favours_297 (by decide) ?_
            refine lv_iadd hx hb dX10_favours_298 ?_
            refine tI (y := nI (st + 1)) (nI_add _ _) ?_
            refine lv_iload hx hb dX10_favours_299 (lv_at hl 10 rfl) ?_
            refine lv_iadd hx hb dX10_favours_301 ?_
            refine tI (y := nI (st + 1 + j)) (nI_add _ _) ?_
            refine ldA 36 rfl (j := st + 1 + j) (show st + 1 + j < 40000 by omega) (by decide) C h dX10_favours_302 ?_
            refine tI (y := F.getD j 0) (e5 j (by omega)) ?_
            refine lv_aload_n hx hb dX10_favours_303 rfl (lv_at hl 0 rfl) ?_
            refine rg_X10_48 C h dX10_favours_304 ?_
            refine lv_iload_n hx hb dX10_favours_307 rfl (lv_at hl 2 rfl) ?_
            refine lv_iload hx hb dX10_favours_308 (lv_at hl 8 rfl) ?_
            refine lv_iadd hx hb dX10_favours_310 ?_
            refine tI (nI_add _ _) ?_
            refine ldA 36 rfl (j := (f) + (i)) (show (f) + (i) < 40000 by omega) (by decide) C h dX10_favours_311 ?_
            refine tI (y := ar 36 (f + i)) (e3 _ (by omega)) ?_
            refine lv_icmp_ne (tgt := 322) hx hb dX10_favours_312 (by decide) (fun c_312 => ?_) (fun c_312 => ?_)
            · skip
              refine lv_iload hx hb dX10_favours_322 (lv_at hl 9 rfl) ?_
              refine lv_istore (lv' := [(10, .int (nI (tv))), (0, .ref (zad z 27)), (1, .int (nI (w))), (2, .int (nI (f))), (3, .int (nI (cnt))), (4, .int (nI (st))), (5, .int (nI (k))), (7, .int (nI (st + 1 + k))), (8, .int (nI (st + 1 + k + cnt))), (9, .int (nI (i))), (11, .int (nI (j)))]) hx hb dX10_favours_324 hl (by decide) rfl (fun ls hl => ?_)
              refine lv_iinc (v := nI (j + 1)) (lv' := [(11, .int (nI (j + 1))), (10, .int (nI (tv))), (0, .ref (zad z 27)), (1, .int (nI (w))), (2, .int (nI (f))), (3, .int (nI (cnt))), (4, .int (nI (st))), (5, .int (nI (k))), (7, .int (nI (st + 1 + k))), (8, .int (nI (st + 1 + k + cnt))), (9, .int (nI (i)))]) hx hb dX10_favours_326 hl (k := 10) rfl (nN_inc _) (by decide) rfl (fun ls hl => ?_)
              refine lv_goto (tgt := 284) hx hb dX10_favours_329 (by decide) ?_
              exact ih_284 (j + 1) (tv) (by omega) H locs ls ⟨by omega, (by unfold tk; rw [if_neg c_312]; exact g2), by omega, h, lv_sub hl [2, 3, 4, 5, 6, 7, 8, 9, 10, 1, 0] rfl⟩
            · skip
              refine lv_iload hx hb dX10_favours_315 (lv_at hl 10 rfl) ?_
              refine lv_iconst (v := nI (1)) hx hb dX10_favours_317 (by decide) ?_
              refine lv_iadd hx hb dX10_favours_318 ?_
              refine tI (y := nI (j + 1)) (nI_add _ _) ?_
              refine lv_goto (tgt := 324) hx hb dX10_favours_319 (by decide) ?_
              refine lv_istore (lv' := [(10, .int (nI (j + 1))), (0, .ref (zad z 27)), (1, .int (nI (w))), (2, .int (nI (f))), (3, .int (nI (cnt))), (4, .int (nI (st))), (5, .int (nI (k))), (7, .int (nI (st + 1 + k))), (8, .int (nI (st + 1 + k + cnt))), (9, .int (nI (i))), (11, .int (nI (j)))]) hx hb dX10_favours_324 hl (by decide) rfl (fun ls hl => ?_)
              refine lv_iinc (v := nI (j + 1)) (lv' := [(11, .int (nI (j + 1))), (10, .int (nI (j + 1))), (0, .ref (zad z 27)), (1, .int (nI (w))), (2, .int (nI (f))), (3, .int (nI (cnt))), (4, .int (nI (st))), (5, .int (nI (k))), (7, .int (nI (st + 1 + k))), (8, .int (nI (st + 1 + k + cnt))), (9, .int (nI (i)))]) hx hb dX10_favours_326 hl (k := 10) rfl (nN_inc _) (by decide) rfl (fun ls hl => ?_)
              refine lv_goto (tgt := 284) hx hb dX10_favours_329 (by decide) ?_
              exact ih_284 (j + 1) (j + 1) (by omega) H locs ls ⟨by omega, (by unfold tk; rw [if_pos c_312]), by omega, h, lv_sub hl [2, 3, 4, 5, 6, 7, 8, 9, 10, 1, 0] rfl⟩
      · skip
        refine lv_iconst (v := nI (0)) hx hb dX10_favours_125 (by decide) ?_
        refine lv_istore (lv' := [(7, .int (nI (0))), (0, .ref (zad z 27)), (1, .int (nI (w))), (2, .int (nI (f))), (3, .int (nI (cnt))), (4, .int (nI (st))), (5, .int (nI (k))), (6, .int (nI (mo)))]) hx hb dX10_favours_126 hl (by decide) rfl (fun ls hl => ?_)
        refine lv_iconst (v := nI (1)) hx hb dX10_favours_128 (by decide) ?_
        refine lv_istore (lv' := [(8, .int (nI (1))), (7, .int (nI (0))), (0, .ref (zad z 27)), (1, .int (nI (w))), (2, .int (nI (f))), (3, .int (nI (cnt))), (4, .int (nI (st))), (5, .int (nI (k))), (6, .int (nI (mo)))]) hx hb dX10_favours_129 hl (by decide) rfl (fun ls hl => ?_)
        refine lpW2 (fun (i : Nat) (b : Nat) (H : Heap) (locs : List Loc) (ls : Array Slot) => (1 ≤ i ∧ (i ≤ cnt ∨ i = 1)) ∧ (b < i) ∧ (0 < cnt → mp c i = if 1 < c b then (some b, c b) else (none, 1)) ∧ hH z v (va_up sc 29 (nI (st + 1 + k))) (va_up (va_up ar 36 (P)) 40 (O2)) s H locs ∧ lv_has ls 12 [(0, .ref (zad z 27)), (1, .int (nI (w))), (2, .int (nI (f))), (3, .int (nI (cnt))), (4, .int (nI (st))), (5, .int (nI (k))), (7, .int (nI (b))), (8, .int (nI (i)))]) (fun (i : Nat) (b : Nat) => cnt - i) (fun i b ih_131 H locs ls hI => ?_) (1) (0) ⟨⟨Nat.le_refl _, Or.inr rfl⟩, Nat.zero_lt_one, fun _ => mp_1 c, h, lv_sub hl [2, 3, 4, 5, 6, 7, 1, 0] rfl⟩
        obtain ⟨d1, d2, d3, h, hl⟩ := hI
        have hcb := c2b b
        have hci := c2b i
        refine lv_iload hx hb dX10_favours_131 (lv_at hl 7 rfl) ?_
        refine lv_iload_n hx hb dX10_favours_133 rfl (lv_at hl 3 rfl) ?_
        refine jN_ge (tgt := 169) (a := i) (b := cnt) C (by omega) (by omega) dX10_favours_134 (by decide) (fun c_134 => ?_) (fun c_134 => ?_)
        · skip
          refine lv_iload_n hx hb dX10_favours_169 rfl (lv_at hl 3 rfl) ?_
          refine zN_le (tgt := 188) (a := cnt) C (by omega) dX10_favours_170 (by decide) (fun c_170 => ?_) (fun c_170 => ?_)
          · skip
            refine lv_iconst (v := nI (0)) hx hb dX10_favours_188 (by decide) ?_
            refine lv_istore (lv' := [(6, .int (nI (0))), (0, .ref (zad z 27)), (1, .int (nI (w))), (2, .int (nI (f))), (3, .int (nI (cnt))), (4, .int (nI (st))), (5, .int (nI (k))), (7, .int (nI (b))), (8, .int (nI (i)))]) hx hb dX10_favours_189 hl (by decide) rfl (fun ls hl => ?_)
            refine lv_iload hx hb dX10_favours_191 (lv_at hl 0 rfl) ?_
            refine zN_eq (tgt := 235) (a := 0) C (by decide) dX10_favours_193 (by decide) (fun _ => ?_) (fun q => absurd q (by decide))
            refine lv_goto (tgt := 109) hx hb dX10_favours_235 (by decide) ?_
            exact ih_109 (k) (js) (c) (O2) (P) (0) (by omega) H locs ls ⟨c1, c2, c2b, c3, ⟨by omega, fun _ => fv_none (by rw [show cnt = 0 by omega]; rfl) _⟩, c5, c6, h, lv_sub hl [1, 2, 3, 4, 5, 6, 0] rfl⟩
          · skip
            refine lv_aload_n hx hb dX10_favours_173 rfl (lv_at hl 0 rfl) ?_
            refine rg_X10_60 C h dX10_favours_174 ?_
            refine lv_iload hx hb dX10_favours_177 (lv_at hl 6 rfl) ?_
            refine ldA 40 rfl (j := b) (show b < 400 by omega) (by decide) C h dX10_favours_179 ?_
            refine tI (y := nI (c b)) (c2 b (by omega)) ?_
            refine lv_iconst (v := nI (1)) hx hb dX10_favours_180 (by decide) ?_
            refine jN_le (tgt := 188) (a := c b) (b := 1) C (by omega) (by omega) dX10_favours_181 (by decide) (fun c_181 => ?_) (fun c_181 => ?_)
            · skip
              refine lv_iconst (v := nI (0)) hx hb dX10_favours_188 (by decide) ?_
              refine lv_istore (lv' := [(6, .int (nI (0))), (0, .ref (zad z 27)), (1, .int (nI (w))), (2, .int (nI (f))), (3, .int (nI (cnt))), (4, .int (nI (st))), (5, .int (nI (k))), (7, .int (nI (b))), (8, .int (nI (i)))]) hx hb dX10_favours_189 hl (by decide) rfl (fun ls hl => ?_)
              refine lv_iload hx hb dX10_favours_191 (lv_at hl 0 rfl) ?_
              refine zN_eq (tgt := 235) (a := 0) C (by decide) dX10_favours_193 (by decide) (fun _ => ?_) (fun q => absurd q (by decide))
              refine lv_goto (tgt := 109) hx hb dX10_favours_235 (by decide) ?_
              exact ih_109 (k) (js) (c) (O2) (P) (0) (by omega) H locs ls ⟨c1, c2, c2b, c3, ⟨by omega, fun _ => fv_none (by have e := d3 (by omega); rw [show i = cnt by omega, if_neg (by omega)] at e; rw [e]) _⟩, c5, c6, h, lv_sub hl [1, 2, 3, 4, 5, 6, 0] rfl⟩
            · skip
              refine lv_iconst (v := nI (1)) hx hb dX10_favours_184 (by decide) ?_
              refine lv_goto (tgt := 189) hx hb dX10_favours_185 (by decide) ?_
              refine lv_istore (lv' := [(6, .int (nI (1))), (0, .ref (zad z 27)), (1, .int (nI (w))), (2, .int (nI (f))), (3, .int (nI (cnt))), (4, .int (nI (st))), (5, .int (nI (k))), (7, .int (nI (b))), (8, .int (nI (i)))]) hx hb dX10_favours_189 hl (by decide) rfl (fun ls hl => ?_)
              refine lv_iload hx hb dX10_favours_191 (lv_at hl 0 rfl) ?_
              refine zN_eq (tgt := 235) (a := 1) C (by decide) dX10_favours_193 (by decide) (fun q => absurd q (by decide)) (fun _ => ?_)
              refine lv_aload_n hx hb dX10_favours_196 rfl (lv_at hl 1 rfl) ?_
              refine rg_X10_48 C h dX10_favours_197 ?_
              refine lv_aload_n hx hb dX10_favours_200 rfl (lv_at hl 1 rfl) ?_
              refine rg_X10_147 C h dX10_favours_201 ?_
              refine tI (y := nI (st + 1 + k)) rfl ?_
              refine lv_aload_n hx hb dX10_favours_204 rfl (lv_at hl 1 rfl) ?_
              refine rg_X10_48 C h dX10_favours_205 ?_
              refine lv_iload_n hx hb dX10_favours_208 rfl (lv_at hl 3 rfl) ?_
              refine lv_iload hx hb dX10_favours_209 (lv_at hl 7 rfl) ?_
              refine lv_iadd hx hb dX10_favours_211 ?_
              refine tI (nI_add _ _) ?_
              refine ldA 36 rfl (j := (f) + (b)) (show (f) + (b) < 40000 by omega) (by decide) C h dX10_favours_212 ?_
              refine tI (y := (P) ((f) + (b))) rfl ?_
              refine stA 36 rfl (j := st + 1 + k) (x := (P) ((f) + (b))) (show st + 1 + k < 40000 by omega) (by decide) C h dX10_favours_213 (fun H locs h => ?_)
              rw [put_k (k := 36) (q := 40) (by decide)] at h
              have h : hH z v (va_up sc 29 (nI (st + 1 + k))) (va_up (va_up ar 36 (upd (P) (st + 1 + k) ((P) ((f) + (b))))) 40 (O2)) s H locs := h
              refine lv_aload_n hx hb dX10_favours_214 rfl (lv_at hl 1 rfl) ?_
              refine rg_X10_60 C h dX10_favours_215 ?_
              refine lv_iload hx hb dX10_favours_218 (lv_at hl 7 rfl) ?_
              refine lv_iconst (v := nI (0)) hx hb dX10_favours_220 (by decide) ?_
              refine stA 40 rfl (j := b) (x := nI (0)) (show b < 400 by omega) (by decide) C h dX10_favours_221 (fun H locs h => ?_)
              rw [put_q (k := 36) (q := 40)] at h
              have h : hH z v (va_up sc 29 (nI (st + 1 + k))) (va_up (va_up ar 36 (upd (P) (st + 1 + k) ((P) ((f) + (b))))) 40 (upd (O2) (b) (nI (0)))) s H locs := h
              refine lv_aload_n hx hb dX10_favours_222 rfl (lv_at hl 1 rfl) ?_
              refine lv_dup hx hb dX10_favours_223 rfl ?_
              refine rg_X10_147 C h dX10_favours_224 ?_
              refine tI (y := nI (st + 1 + k)) rfl ?_
              refine lv_iconst (v := nI (1)) hx hb dX10_favours_227 (by decide) ?_
              refine lv_iadd hx hb dX10_favours_228 ?_
              refine tI (y := nI (st + 1 + (k + 1))) (by rw [nI_add, Nat.add_assoc]) ?_
              refine rp_X10_147 C h dX10_favours_229 (fun H locs h => ?_)
              rw [va_uu] at h
              have h : hH z v (va_up sc 29 (nI (st + 1 + (k + 1)))) (va_up (va_up ar 36 (upd (P) (st + 1 + k) ((P) ((f) + (b))))) 40 (upd (O2) (b) (nI (0)))) s H locs := h
              refine lv_iinc (v := nI (k + 1)) (lv' := [(5, .int (nI (k + 1))), (6, .int (nI (1))), (0, .ref (zad z 27)), (1, .int (nI (w))), (2, .int (nI (f))), (3, .int (nI (cnt))), (4, .int (nI (st))), (7, .int (nI (b))), (8, .int (nI (i)))]) hx hb dX10_favours_232 hl (k := 6) rfl (nN_inc _) (by decide) rfl (fun ls hl => ?_)
              refine lv_goto (tgt := 109) hx hb dX10_favours_235 (by decide) ?_
              exact ih_109 (k + 1) (js ++ [b]) (va_up c b 0) (upd O2 b (nI 0)) (upd P (st + 1 + k) ((P) ((f) + (b)))) (1) (by omega) H locs ls ⟨⟨by rw [List.length_append, c1.1]; rfl, by omega⟩, fun q hq => (by by_cases e : q = b; rw [e, pk_us, va_up_self]; rw [pk_un e, va_up_ne _ _ e]; exact c2 q hq), fun q => (by by_cases e : q = b; rw [e, va_up_self]; omega; rw [va_up_ne _ _ e]; exact c2b q), (by have e := d3 (by omega); rw [show i = cnt by omega, if_pos c_181] at e; rw [c3, fv_some (j := b) (by omega) (by rw [e]), List.append_assoc, show wt w 1 - k - 1 = wt w 1 - (k + 1) by omega]; rfl), ⟨by omega, fun e => by omega⟩, fun q hq => (by rw [pk_un (by omega)]; exact c5 q hq), fun q hq => (by rw [getD_snoc, c1.1]; by_cases e : q = k; rw [if_pos e, e, pk_us]; exact c5 _ (by omega); rw [if_neg e, pk_un (by omega)]; exact c6 q (by omega)), h, lv_sub hl [2, 3, 4, 5, 6, 0, 1] rfl⟩
        · skip
          refine lv_aload_n hx hb dX10_favours_137 rfl (lv_at hl 0 rfl) ?_
          refine rg_X10_60 C h dX10_favours_138 ?_
          refine lv_iload hx hb dX10_favours_141 (lv_at hl 7 rfl) ?_
          refine ldA 40 rfl (j := i) (show i < 400 by omega) (by decide) C h dX10_favours_143 ?_
          refine tI (y := nI (c i)) (c2 i (by omega)) ?_
          refine lv_aload_n hx hb dX10_favours_144 rfl (lv_at hl 0 rfl) ?_
          refine rg_X10_60 C h dX10_favours_145 ?_
          refine lv_iload hx hb dX10_favours_148 (lv_at hl 6 rfl) ?_
          refine ldA 40 rfl (j := b) (show b < 400 by omega) (by decide) C h dX10_favours_150 ?_
          refine tI (y := nI (c b)) (c2 b (by omega)) ?_
          refine jN_le (tgt := 159) (a := c i) (b := c b) C (by omega) (by omega) dX10_favours_151 (by decide) (fun c_151 => ?_) (fun c_151 => ?_)
          · skip
            refine lv_iload hx hb dX10_favours_159 (lv_at hl 6 rfl) ?_
            refine lv_istore (lv' := [(7, .int (nI (b))), (0, .ref (zad z 27)), (1, .int (nI (w))), (2, .int (nI (f))), (3, .int (nI (cnt))), (4, .int (nI (st))), (5, .int (nI (k))), (8, .int (nI (i)))]) hx hb dX10_favours_161 hl (by decide) rfl (fun ls hl => ?_)
            refine lv_iinc (v := nI (i + 1)) (lv' := [(8, .int (nI (i + 1))), (7, .int (nI (b))), (0, .ref (zad z 27)), (1, .int (nI (w))), (2, .int (nI (f))), (3, .int (nI (cnt))), (4, .int (nI (st))), (5, .int (nI (k)))]) hx hb dX10_favours_163 hl (k := 7) rfl (nN_inc _) (by decide) rfl (fun ls hl => ?_)
            refine lv_goto (tgt := 131) hx hb dX10_favours_166 (by decide) ?_
            exact ih_131 (i + 1) (b) (by omega) H locs ls ⟨⟨by omega, by omega⟩, by omega, fun q => (mp_st (d3 q)).2 c_151, h, lv_sub hl [2, 3, 4, 5, 6, 7, 1, 0] rfl⟩
          · skip
            refine lv_iload hx hb dX10_favours_154 (lv_at hl 7 rfl) ?_
            refine lv_goto (tgt := 161) hx hb dX10_favours_156 (by decide) ?_
            refine lv_istore (lv' := [(7, .int (nI (i))), (0, .ref (zad z 27)), (1, .int (nI (w))), (2, .int (nI (f))), (3, .int (nI (cnt))), (4, .int (nI (st))), (5, .int (nI (k))), (8, .int (nI (i)))]) hx hb dX10_favours_161 hl (by decide) rfl (fun ls hl => ?_)
            refine lv_iinc (v := nI (i + 1)) (lv' := [(8, .int (nI (i + 1))), (7, .int (nI (i))), (0, .ref (zad z 27)), (1, .int (nI (w))), (2, .int (nI (f))), (3, .int (nI (cnt))), (4, .int (nI (st))), (5, .int (nI (k)))]) hx hb dX10_favours_163 hl (k := 7) rfl (nN_inc _) (by decide) rfl (fun ls hl => ?_)
            refine lv_goto (tgt := 131) hx hb dX10_favours_166 (by decide) ?_
            exact ih_131 (i + 1) (i) (by omega) H locs ls ⟨⟨by omega, by omega⟩, by omega, fun q => (mp_st (d3 q)).1 c_151, h, lv_sub hl [2, 3, 4, 5, 6, 7, 1, 0] rfl⟩
  · skip
    refine lv_aload_n hx hb dX10_favours_26 rfl (lv_at hl 0 rfl) ?_
    refine rg_X10_60 C h dX10_favours_27 ?_
    refine lv_iload hx hb dX10_favours_30 (lv_at hl 6 rfl) ?_
    refine lv_iconst (v := nI (1)) hx hb dX10_favours_32 (by decide) ?_
    refine stA 40 rfl (j := i) (x := nI (1)) (show i < 400 by omega) (by decide) C h dX10_favours_33 (fun H locs h => ?_)
    rw [put_q (k := 36) (q := 40)] at h
    have h : hH z v (va_up sc 29 (nI (st + 1))) (va_up (va_up ar 36 (ar 36)) 40 (upd (O) (i) (nI (1)))) s H locs := h
    refine lv_iconst (v := nI (0)) hx hb dX10_favours_34 (by decide) ?_
    refine lv_istore (lv' := [(7, .int (nI (0))), (0, .ref (zad z 27)), (1, .int (nI (w))), (2, .int (nI (f))), (3, .int (nI (cnt))), (4, .int (nI (st))), (5, .int (nI (0))), (6, .int (nI (i)))]) hx hb dX10_favours_35 hl (by decide) rfl (fun ls hl => ?_)
    refine lpW3 (fun (j : Nat) (O2 : Nat → Int32) (mt : Bool) (H : Heap) (locs : List Loc) (ls : Array Slot) => (j ≤ i) ∧ (mt = false → (∀ q, q < i → O2 q = nI (oft (fun i => ar 36 (f + i)) i q)) ∧ O2 i = nI 1 ∧ ∀ q, q < j → ¬ ar 36 (f + q) = ar 36 (f + i)) ∧ (mt = true → (∀ q, q ≤ i → O2 q = nI (oft (fun i => ar 36 (f + i)) (i + 1) q)) ∧ O2 i = nI 0) ∧ hH z v (va_up sc 29 (nI (st + 1))) (va_up (va_up ar 36 (ar 36)) 40 (O2)) s H locs ∧ lv_has ls 12 [(0, .ref (zad z 27)), (1, .int (nI (w))), (2, .int (nI (f))), (3, .int (nI (cnt))), (4, .int (nI (st))), (5, .int (nI (0))), (6, .int (nI (i))), (7, .int (nI (j)))]) (fun (j : Nat) (O2 : Nat → Int32) (mt : Bool) => i - j) (fun j O2 mt ih_37 H locs ls hI => ?_) (0) (upd (O) (i) (nI (1))) (false) ⟨Nat.zero_le _, fun _ => ⟨fun q hq => (by rw [pk_un (by omega)]; exact hO q hq), pk_us, fun q hq => absurd hq (Nat.not_lt_zero _)⟩, (fun e => by cases e), h, lv_sub hl [1, 2, 3, 4, 5, 6, 7, 0] rfl⟩
    obtain ⟨b1, b2, b3, h, hl⟩ := hI
    refine lv_iload hx hb dX10_favours_37 (lv_at hl 7 rfl) ?_
    refine lv_iload hx hb dX10_favours_39 (lv_at hl 6 rfl) ?_
    refine jN_ge (tgt := 100) (a := j) (b := i) C (by omega) (by omega) dX10_favours_41 (by decide) (fun c_41 => ?_) (fun c_41 => ?_)
    · skip
      have hO2 : ∀ q, q < i + 1 → O2 q = nI (oft (fun i => ar 36 (f + i)) (i + 1) q) := by
        intro q hq
        cases mt with
        | true => exact (b3 rfl).1 q (by omega)
        | false =>
          rw [oftNew (fun r hr2 => (b2 rfl).2.2 r (by omega)) (by omega)]
          by_cases e : q = i
          · rw [e, if_pos rfl]; exact (b2 rfl).2.1
          · rw [if_neg e]; exact (b2 rfl).1 q (by omega)
      refine lv_iinc (v := nI (i + 1)) (lv' := [(6, .int (nI (i + 1))), (0, .ref (zad z 27)), (1, .int (nI (w))), (2, .int (nI (f))), (3, .int (nI (cnt))), (4, .int (nI (st))), (5, .int (nI (0))), (7, .int (nI (j)))]) hx hb dX10_favours_100 hl (k := 6) rfl (nN_inc _) (by decide) rfl (fun ls hl => ?_)
      refine lv_goto (tgt := 20) hx hb dX10_favours_103 (by decide) ?_
      exact ih_20 (i + 1) (O2) (by omega) H locs ls ⟨by omega, hO2, h, lv_sub hl [1, 2, 3, 4, 5, 6, 0] rfl⟩
    · skip
      refine lv_aload_n hx hb dX10_favours_44 rfl (lv_at hl 0 rfl) ?_
      refine rg_X10_60 C h dX10_favours_45 ?_
      refine lv_iload hx hb dX10_favours_48 (lv_at hl 6 rfl) ?_
      refine ldA 40 rfl (j := i) (show i < 400 by omega) (by decide) C h dX10_favours_50 ?_
      refine tI (y := (O2) (i)) rfl ?_
      refine lv_if_le (tgt := 100) hx hb dX10_favours_51 (by decide) (fun c_51 => ?_) (fun c_51 => ?_)
      · skip
        have hmt : mt = true := by
          cases mt with
          | true => rfl
          | false => exact absurd c_51 (by rw [(b2 rfl).2.1]; decide)
        have hO2 : ∀ q, q < i + 1 → O2 q = nI (oft (fun i => ar 36 (f + i)) (i + 1) q) := fun q hq => (b3 hmt).1 q (by omega)
        refine lv_iinc (v := nI (i + 1)) (lv' := [(6, .int (nI (i + 1))), (0, .ref (zad z 27)), (1, .int (nI (w))), (2, .int (nI (f))), (3, .int (nI (cnt))), (4, .int (nI (st))), (5, .int (nI (0))), (7, .int (nI (j)))]) hx hb dX10_favours_100 hl (k := 6) rfl (nN_inc _) (by decide) rfl (fun ls hl => ?_)
        refine lv_goto (tgt := 20) hx hb dX10_favours_103 (by decide) ?_
        exact ih_20 (i + 1) (O2) (by omega) H locs ls ⟨by omega, hO2, h, lv_sub hl [1, 2, 3, 4, 5, 6, 0] rfl⟩
      · skip
        have hmt : mt = false := by
          cases mt with
          | false => rfl
          | true => exact absurd (by rw [(b3 rfl).2]; decide) c_51
        refine lv_aload_n hx hb dX10_favours_54 rfl (lv_at hl 0 rfl) ?_
        refine rg_X10_48 C h dX10_favours_55 ?_
        refine lv_iload_n hx hb dX10_favours_58 rfl (lv_at hl 2 rfl) ?_
        refine lv_iload hx hb dX10_favours_59 (lv_at hl 7 rfl) ?_
        refine lv_iadd hx hb dX10_favours_61 ?_
        refine tI (nI_add _ _) ?_
        refine ldA 36 rfl (j := (f) + (j)) (show (f) + (j) < 40000 by omega) (by decide) C h dX10_favours_62 ?_
        refine tI (y := ar 36 (f + j)) rfl ?_
        refine lv_aload_n hx hb dX10_favours_63 rfl (lv_at hl 0 rfl) ?_
        refine rg_X10_48 C h dX10_favours_64 ?_
        refine lv_iload_n hx hb dX10_favours_67 rfl (lv_at hl 2 rfl) ?_
        refine lv_iload hx hb dX10_favours_68 (lv_at hl 6 rfl) ?_
        refine lv_iadd hx hb dX10_favours_70 ?_
        refine tI (nI_add _ _) ?_
        refine ldA 36 rfl (j := (f) + (i)) (show (f) + (i) < 40000 by omega) (by decide) C h dX10_favours_71 ?_
        refine tI (y := ar 36 (f + i)) rfl ?_
        refine lv_icmp_ne (tgt := 94) hx hb dX10_favours_72 (by decide) (fun c_72 => ?_) (fun c_72 => ?_)
        · skip
          refine lv_iinc (v := nI (j + 1)) (lv' := [(7, .int (nI (j + 1))), (0, .ref (zad z 27)), (1, .int (nI (w))), (2, .int (nI (f))), (3, .int (nI (cnt))), (4, .int (nI (st))), (5, .int (nI (0))), (6, .int (nI (i)))]) hx hb dX10_favours_94 hl (k := 7) rfl (nN_inc _) (by decide) rfl (fun ls hl => ?_)
          refine lv_goto (tgt := 37) hx hb dX10_favours_97 (by decide) ?_
          exact ih_37 (j + 1) (O2) (false) (by omega) H locs ls ⟨by omega, fun _ => ⟨(b2 hmt).1, (b2 hmt).2.1, fun q hq => (by by_cases e : q = j; rw [e]; exact c_72; exact (b2 hmt).2.2 q (by omega))⟩, (fun e => by cases e), h, lv_sub hl [1, 2, 3, 4, 5, 6, 7, 0] rfl⟩
        · skip
          refine lv_aload_n hx hb dX10_favours_75 rfl (lv_at hl 0 rfl) ?_
          refine rg_X10_60 C h dX10_favours_76 ?_
          refine lv_iload hx hb dX10_favours_79 (lv_at hl 7 rfl) ?_
          refine lv_dup2_11 hx hb dX10_favours_81 rfl rfl ?_
          refine ldA 40 rfl (j := j) (show j < 400 by omega) (by decide) C h dX10_favours_82 ?_
          refine tI (y := nI (oft (fun i => ar 36 (f + i)) i j)) ((b2 hmt).1 j (by omega)) ?_
          refine lv_iconst (v := nI (1)) hx hb dX10_favours_83 (by decide) ?_
          refine lv_iadd hx hb dX10_favours_84 ?_
          refine tI (y := nI (oft (fun i => ar 36 (f + i)) i j + 1)) (nI_add _ _) ?_
          refine stA 40 rfl (j := j) (x := nI (oft (fun i => ar 36 (f + i)) i j + 1)) (show j < 400 by omega) (by decide) C h dX10_favours_85 (fun H locs h => ?_)
          rw [put_q (k := 36) (q := 40)] at h
          have h : hH z v (va_up sc 29 (nI (st + 1))) (va_up (va_up ar 36 (ar 36)) 40 (upd (O2) (j) (nI (oft (fun i => ar 36 (f + i)) i j + 1)))) s H locs := h
          refine lv_aload_n hx hb dX10_favours_86 rfl (lv_at hl 0 rfl) ?_
          refine rg_X10_60 C h dX10_favours_87 ?_
          refine lv_iload hx hb dX10_favours_90 (lv_at hl 6 rfl) ?_
          refine lv_iconst (v := nI (0)) hx hb dX10_favours_92 (by decide) ?_
          refine stA 40 rfl (j := i) (x := nI (0)) (show i < 400 by omega) (by decide) C h dX10_favours_93 (fun H locs h => ?_)
          rw [put_q (k := 36) (q := 40)] at h
          have h : hH z v (va_up sc 29 (nI (st + 1))) (va_up (va_up ar 36 (ar 36)) 40 (upd (upd (O2) (j) (nI (oft (fun i => ar 36 (f + i)) i j + 1))) (i) (nI (0)))) s H locs := h
          refine lv_iinc (v := nI (j + 1)) (lv' := [(7, .int (nI (j + 1))), (0, .ref (zad z 27)), (1, .int (nI (w))), (2, .int (nI (f))), (3, .int (nI (cnt))), (4, .int (nI (st))), (5, .int (nI (0))), (6, .int (nI (i)))]) hx hb dX10_favours_94 hl (k := 7) rfl (nN_inc _) (by decide) rfl (fun ls hl => ?_)
          refine lv_goto (tgt := 37) hx hb dX10_favours_97 (by decide) ?_
          exact ih_37 (j + 1) (upd (upd O2 j (nI (oft (fun i => ar 36 (f + i)) i j + 1))) i (nI 0)) (true) (by omega) H locs ls ⟨by omega, (fun e => by cases e), fun _ => ⟨fun q hq => (by rw [oftHit c_41 c_72 (b2 hmt).2.2 hq]; by_cases e : q = i; rw [e, pk_us, if_pos rfl]; rw [pk_un e, if_neg e]; by_cases e2 : q = j; rw [e2, pk_us, if_pos rfl]; rw [pk_un e2, if_neg e2]; exact (b2 hmt).1 q (by omega)), pk_us⟩, h, lv_sub hl [1, 2, 3, 4, 5, 6, 7, 0] rfl⟩
