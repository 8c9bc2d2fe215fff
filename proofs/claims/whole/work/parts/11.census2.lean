/-- the favourites, as places: the most frequent first -/
def fv (c : Nat → Nat) (K : Nat) : Nat → List Nat
  | 0 => []
  | m + 1 => match (mp c K).1 with
    | none => []
    | some j => j :: fv (va_up c j 0) K m
theorem fv_0 (c : Nat → Nat) (K : Nat) : fv c K 0 = [] := rfl
theorem fv_none {c : Nat → Nat} {K : Nat} (h : (mp c K).1 = none) : ∀ m, fv c K m = []
  | 0 => rfl
  | m + 1 => by unfold fv; rw [h]
theorem fv_some {c : Nat → Nat} {K m j : Nat} (hm : 0 < m) (h : (mp c K).1 = some j) : fv c K m = j :: fv (va_up c j 0) K (m - 1) := by
  obtain ⟨q, rfl⟩ : ∃ q, m = q + 1 := ⟨m - 1, by omega⟩
  conv => lhs; unfold fv
  rw [h]
  rfl
theorem idx_cons (a b : Nat) (l : List Nat) : (a :: l).idxOf b = if a = b then 0 else l.idxOf b + 1 := by
  by_cases h : a = b
  · rw [if_pos h]; simp [List.idxOf, List.findIdx_cons, h]
  · rw [if_neg h]; simp [List.idxOf, List.findIdx_cons, beq_eq_false_iff_ne.mpr h]
theorem idx_new {j : Nat} : ∀ {js : List Nat}, j ∉ js → (js ++ [j]).idxOf j = js.length
  | [], _ => by simp [idx_cons]
  | a :: l, h => by
    rw [List.cons_append, idx_cons, if_neg (fun q => h (by simp [q])), idx_new (fun q => h (by simp [q]))]
    simp
theorem idx_old {j x : Nat} : ∀ {js : List Nat}, j ∈ js → (js ++ [x]).idxOf j = js.idxOf j
  | [], h => absurd h List.not_mem_nil
  | a :: l, h => by
    rw [List.cons_append, idx_cons, idx_cons]
    by_cases q : a = j
    · rw [if_pos q, if_pos q]
    · rw [if_neg q, if_neg q, idx_old ((List.mem_cons.mp h).elim (fun e => absurd e.symm q) (fun e => e))]
def tlA (T : Nat → Int32) (js : List Nat) : Nat → Int32 := fun j => if j ∈ js then -(nI (js.idxOf j + 1)) else T j
theorem tlA_nil (T : Nat → Int32) : tlA T [] = T := by funext j; simp [tlA]
theorem tlA_snoc {T : Nat → Int32} {js : List Nat} {j0 : Nat} (h : j0 ∉ js) : upd (tlA T js) j0 (-(nI (js.length + 1))) = tlA T (js ++ [j0]) := by
  funext j
  unfold upd tlA
  by_cases hj : j = j0
  · subst hj
    rw [if_pos rfl, if_pos (by simp), idx_new h]
  · rw [if_neg hj]
    by_cases hm : j ∈ js
    · rw [if_pos hm, if_pos (by simp [hm]), idx_old hm]
    · rw [if_neg hm, if_neg (by simp [hm, hj])]
theorem wrR_0 (f : Nat → Int32) (xs : List Int32) (x : Int32) : upd (wrR f 1 xs) 0 x = wrR f 0 (x :: xs) := by
  funext j
  unfold upd wrR
  by_cases hj : j = 0
  · subst hj
    rw [if_pos rfl, if_pos (by simp)]
    simp
  · rw [if_neg hj]
    obtain ⟨i, rfl⟩ : ∃ i, j = i + 1 := ⟨j - 1, by omega⟩
    by_cases h : i + 1 < 1 + xs.length
    · rw [if_pos (by omega), if_pos (by simp; omega)]
      simp
    · rw [if_neg (by omega), if_neg (by simp; omega)]
theorem nneg {q : Nat} (h0 : 0 < q) (h : q < 2 ^ 31) : -(nI q) < (0 : Int32) := by
  rw [Int32.lt_iff_toInt_lt, sb_negT h]
  show -(q : Int) < 0
  omega
theorem tOK_up {T : Nat → Int32} {c : Nat → Nat} {j0 q j : Nat} (h : tOK T c j) (h0 : 0 < q) (hq : q < 2 ^ 31) : tOK (upd T j0 (-(nI q))) (va_up c j0 0) j := by
  by_cases hj : j = j0
  · subst hj
    exact Or.inr ⟨va_up_self _ _ _, by rw [pk_us]; exact nneg h0 hq⟩
  · unfold tOK
    rw [va_up_ne _ _ hj, pk_un hj]
    exact h
theorem put_k {ar : Nat → Nat → Int32} {k q a : Nat} {g T : Nat → Int32} {x : Int32} (hkq : k ≠ q) : va_up (va_up (va_up ar k g) q T) k (upd (va_up (va_up ar k g) q T k) a x) = va_up (va_up ar k (upd g a x)) q T := by
  rw [va_up_ne _ _ hkq, va_up_self]
  funext j
  unfold va_up
  by_cases h1 : j = k
  · rw [if_pos h1, if_neg (by omega), if_pos h1]
  · rw [if_neg h1]
    by_cases h2 : j = q
    · rw [if_pos h2, if_pos h2]
    · rw [if_neg h2, if_neg h2, if_neg h1, if_neg h1]
theorem put_q {ar : Nat → Nat → Int32} {k q a : Nat} {g T : Nat → Int32} {x : Int32} : va_up (va_up (va_up ar k g) q T) q (upd (va_up (va_up ar k g) q T q) a x) = va_up (va_up ar k g) q (upd T a x) := by
  rw [va_uu, va_up_self]
theorem gv_X0_55 : GoodIn uW (wsV RX0 55 RX0 yX0_mostFrequent (Cond.code yX0_mostFrequent cX0_mostFrequent 4 (some .int) :: uW)) := gI_V (uW_of (by decide +kernel) rfl) (uW_of (by decide +kernel) rfl) (uW_of (by decide +kernel) rfl) (uW_of (by decide +kernel) rfl) (uW_of (by decide +kernel) rfl)
theorem gv_X0_55_n : okN yX0_mostFrequent 0 := by decide +kernel
set_option maxHeartbeats 4000000 in
set_option maxRecDepth 100000 in
/-- Census.chooseFavourites -/
theorem k_chooseFav (l : Launch) (z : bZ) (v : bV) (sc : Nat → Int32) (ar : Nat → Nat → Int32) (c0 : Nat → Nat) (K m k : Nat) (hK : sc 10 = nI K) (hK4 : K ≤ 400) (ht : ∀ j, j < K → tOK (ar 16) c0 j) (hm : m ≤ 50) (hk : isA k = true) (hkl : aL k = 51) (hk15 : k ≠ 15) (hk16 : k ≠ 16) : Met l yX0_chooseFavourites (Cond.code yX0_chooseFavourites cX0_chooseFavourites 5 none :: uW) { frames := 1, cells := 0, slots := 0, locals := 23 } (pC z v sc ar [.ref (zad z 3), .int (nI (m)), .ref (zad z k)]) (qV z (fun u => u = (v, sc, va_up (va_up ar k (wrR (ar k) 0 (nI (fv c0 K m).length :: (fv c0 K m).map (ar 15)))) 16 (tlA (ar 16) (fv c0 K m))))) 0 0 (zA z) := by
  refine eM (by decide) (Nat.le_of_ble_eq_true rfl) ?_
  intro pP eE s mM below meth cC ls C hr hlk h hl
  have hx := C.1.1
  have hb := C.1.2.1
  have hl : lv_has ls 5 [(0, .ref (zad z 3)), (1, .int (nI (m))), (2, .ref (zad z k))] := hl
  refine lv_iconst (v := nI (0)) hx hb dX0_chooseFavourites_0 (by decide) ?_
  refine lv_istore_n (lv' := [(3, .int (nI (0))), (0, .ref (zad z 3)), (1, .int (nI (m))), (2, .ref (zad z k))]) hx hb dX0_chooseFavourites_1 rfl hl (by decide) rfl (fun ls hl => ?_)
  refine lv_aload_n hx hb dX0_chooseFavourites_2 rfl (lv_at hl 1 rfl) ?_
  refine backI h (runV (As := []) (rest := []) C h (k_mostFrequent l z v sc ar c0 K hK hK4 ht) gv_X0_55 gv_X0_55_n ⟨rfl, rfl⟩ (r_Census C h) rfl hl.1 rfl (Nat.le_of_ble_eq_true rfl) dX0_chooseFavourites_3 ⟨Nat.le_of_ble_eq_true rfl, Nat.le_of_ble_eq_true rfl⟩ ⟨Nat.le_of_ble_eq_true rfl, Nat.le_of_ble_eq_true rfl⟩) (fun r_3 v_3 sc_3 ar_3 H locs p_3 h => ?_)
  have h : hH z v sc ar s H locs := uEq p_3.2 h
  refine tI (y := oI (mp c0 K).1) p_3.1 ?_
  refine lv_istore (lv' := [(4, .int (oI (mp c0 K).1)), (3, .int (nI (0))), (0, .ref (zad z 3)), (1, .int (nI (m))), (2, .ref (zad z k))]) hx hb dX0_chooseFavourites_6 hl (by decide) rfl (fun ls hl => ?_)
  refine lpW6 (fun (kn : Nat) (cc : Nat → Nat) (js : List Nat) (g : Nat → Int32) (T : Nat → Int32) (o : Option Nat) (H : Heap) (locs : List Loc) (ls : Array Slot) => (kn ≤ m ∧ kn = js.length) ∧ (∀ j, j < K → tOK T cc j) ∧ (o = (mp cc K).1) ∧ (fv c0 K m = js ++ fv cc K (m - kn)) ∧ (g = wrR (ar k) 1 (js.map (ar 15))) ∧ (T = tlA (ar 16) js) ∧ (∀ j, j ∈ js → cc j = 0) ∧ hH z v sc (va_up (va_up ar k (g)) 16 (T)) s H locs ∧ lv_has ls 5 [(0, .ref (zad z 3)), (1, .int (nI (m))), (2, .ref (zad z k)), (3, .int (nI (kn))), (4, .int (oI o))]) (fun (kn : Nat) (cc : Nat → Nat) (js : List Nat) (g : Nat → Int32) (T : Nat → Int32) (o : Option Nat) => m - kn) (fun kn cc js g T o ih_8 H locs ls hI => ?_) (0) (c0) ([]) (ar k) (ar 16) ((mp c0 K).1) ⟨⟨Nat.zero_le _, rfl⟩, ht, rfl, rfl, by rw [List.map_nil, wrR_nil], (tlA_nil _).symm, fun _ q => absurd q List.not_mem_nil, (by rw [va_us ar k, va_us ar 16]; exact h), lv_sub hl [2, 3, 4, 1, 0] rfl⟩
  obtain ⟨h1, h2, ho, h3, h4, h5, h6, h, hl⟩ := hI
  refine lv_iload_n hx hb dX0_chooseFavourites_8 rfl (lv_at hl 3 rfl) ?_
  refine lv_iload_n hx hb dX0_chooseFavourites_9 rfl (lv_at hl 1 rfl) ?_
  refine jN_ge (tgt := 50) (a := kn) (b := m) C (by omega) (by omega) dX0_chooseFavourites_10 (by decide) (fun c_10 => ?_) (fun c_10 => ?_)
  · skip
    have hfin : fv cc K (m - kn) = [] := by rw [show m - kn = 0 by omega]; rfl
    refine lv_aload_n hx hb dX0_chooseFavourites_50 rfl (lv_at hl 2 rfl) ?_
    refine lv_iconst (v := nI (0)) hx hb dX0_chooseFavourites_51 (by decide) ?_
    refine lv_iload_n hx hb dX0_chooseFavourites_52 rfl (lv_at hl 3 rfl) ?_
    refine stA k hk (j := 0) (x := nI (kn)) (by rw [hkl]; omega) (by rw [hkl]; decide) C h dX0_chooseFavourites_53 (fun H locs h => ?_)
    rw [put_k hk16, h4, wrR_0, h5] at h
    have hjs : fv c0 K m = js := by rw [h3, hfin, List.append_nil]
    rw [← hjs] at h
    rw [h1.2, ← hjs] at h
    exact rV C hr hlk h dX0_chooseFavourites_54 (Nat.le_of_ble_eq_true rfl) (Nat.le_of_ble_eq_true rfl) (rfl)
  · skip
    refine lv_iload hx hb dX0_chooseFavourites_13 (lv_at hl 4 rfl) ?_
    refine lv_iconst (v := (-1)) hx hb dX0_chooseFavourites_15 (by decide) ?_
    refine lv_icmp_eq (tgt := 50) hx hb dX0_chooseFavourites_16 (by decide) (fun c_16 => ?_) (fun c_16 => ?_)
    · skip
      have hfin : fv cc K (m - kn) = [] := by
        apply fv_none
        rw [← ho]
        rcases o with _ | j
        · rfl
        · have := mp_in K j ho.symm
          exact absurd c_16 (nI_neg1 (by omega))
      refine lv_aload_n hx hb dX0_chooseFavourites_50 rfl (lv_at hl 2 rfl) ?_
      refine lv_iconst (v := nI (0)) hx hb dX0_chooseFavourites_51 (by decide) ?_
      refine lv_iload_n hx hb dX0_chooseFavourites_52 rfl (lv_at hl 3 rfl) ?_
      refine stA k hk (j := 0) (x := nI (kn)) (by rw [hkl]; omega) (by rw [hkl]; decide) C h dX0_chooseFavourites_53 (fun H locs h => ?_)
      rw [put_k hk16, h4, wrR_0, h5] at h
      have hjs : fv c0 K m = js := by rw [h3, hfin, List.append_nil]
      rw [← hjs] at h
      rw [h1.2, ← hjs] at h
      exact rV C hr hlk h dX0_chooseFavourites_54 (Nat.le_of_ble_eq_true rfl) (Nat.le_of_ble_eq_true rfl) (rfl)
    · skip
      obtain ⟨j0, rfl⟩ : ∃ j0, o = some j0 := by
        rcases o with _ | j
        · exact absurd rfl c_16
        · exact ⟨j, rfl⟩
      have hj0 := mp_in K j0 ho.symm
      have hnj : j0 ∉ js := fun q => by have := h6 j0 q; omega
      have hl : lv_has ls 5 [(0, .ref (zad z 3)), (1, .int (nI (m))), (2, .ref (zad z k)), (3, .int (nI (kn))), (4, .int (nI (j0)))] := hl
      refine lv_iinc (v := nI (kn + 1)) (lv' := [(3, .int (nI (kn + 1))), (0, .ref (zad z 3)), (1, .int (nI (m))), (2, .ref (zad z k)), (4, .int (nI (j0)))]) hx hb dX0_chooseFavourites_19 hl (k := 3) rfl (nN_inc _) (by decide) rfl (fun ls hl => ?_)
      refine lv_aload_n hx hb dX0_chooseFavourites_22 rfl (lv_at hl 3 rfl) ?_
      refine lv_iload_n hx hb dX0_chooseFavourites_23 rfl (lv_at hl 0 rfl) ?_
      refine lv_aload_n hx hb dX0_chooseFavourites_24 rfl (lv_at hl 1 rfl) ?_
      refine rg_X0_19 C h dX0_chooseFavourites_25 ?_
      refine lv_iload hx hb dX0_chooseFavourites_28 (lv_at hl 4 rfl) ?_
      refine ldA 15 rfl (j := j0) (show j0 < 400 by omega) (by decide) C h dX0_chooseFavourites_30 ?_
      refine tI (y := ar 15 j0) (by rw [va_up_ne _ _ (by decide), va_up_ne _ _ (Ne.symm hk15)]) ?_
      refine stA k hk (j := kn + 1) (x := ar 15 j0) (by rw [hkl]; omega) (by rw [hkl]; decide) C h dX0_chooseFavourites_31 (fun H locs h => ?_)
      rw [put_k hk16] at h
      have h : hH z v sc (va_up (va_up ar k (upd g (kn + 1) (ar 15 j0))) 16 (T)) s H locs := h
      refine lv_aload_n hx hb dX0_chooseFavourites_32 rfl (lv_at hl 1 rfl) ?_
      refine rg_X0_22 C h dX0_chooseFavourites_33 ?_
      refine lv_iload hx hb dX0_chooseFavourites_36 (lv_at hl 4 rfl) ?_
      refine lv_iload_n hx hb dX0_chooseFavourites_38 rfl (lv_at hl 0 rfl) ?_
      refine lv_ineg hx hb dX0_chooseFavourites_39 ?_
      refine stA 16 rfl (j := j0) (x := -(nI (kn + 1))) (show j0 < 400 by omega) (by decide) C h dX0_chooseFavourites_40 (fun H locs h => ?_)
      rw [put_q] at h
      have h : hH z v sc (va_up (va_up ar k (upd g (kn + 1) (ar 15 j0))) 16 (upd T j0 (-(nI (kn + 1))))) s H locs := h
      refine lv_aload_n hx hb dX0_chooseFavourites_41 rfl (lv_at hl 1 rfl) ?_
      refine backI h (runV (As := []) (rest := []) C h (k_mostFrequent l z v sc (va_up (va_up ar k (upd g (kn + 1) (ar 15 j0))) 16 (upd T j0 (-(nI (kn + 1))))) (va_up cc j0 0) K hK hK4 (fun j hj => tOK_up (h2 j hj) (by omega) (by omega))) gv_X0_55 gv_X0_55_n ⟨rfl, rfl⟩ (r_Census C h) rfl hl.1 rfl (Nat.le_of_ble_eq_true rfl) dX0_chooseFavourites_42 ⟨Nat.le_of_ble_eq_true rfl, Nat.le_of_ble_eq_true rfl⟩ ⟨Nat.le_of_ble_eq_true rfl, Nat.le_of_ble_eq_true rfl⟩) (fun r_42 v_42 sc_42 ar_42 H locs p_42 h => ?_)
      have h : hH z v sc (va_up (va_up ar k (upd g (kn + 1) (ar 15 j0))) 16 (upd T j0 (-(nI (kn + 1))))) s H locs := uEq p_42.2 h
      refine tI (y := oI (mp (va_up cc j0 0) K).1) p_42.1 ?_
      refine lv_istore (lv' := [(4, .int (oI (mp (va_up cc j0 0) K).1)), (3, .int (nI (kn + 1))), (0, .ref (zad z 3)), (1, .int (nI (m))), (2, .ref (zad z k))]) hx hb dX0_chooseFavourites_45 hl (by decide) rfl (fun ls hl => ?_)
      refine lv_goto (tgt := 8) hx hb dX0_chooseFavourites_47 (by decide) ?_
      exact ih_8 (kn + 1) (va_up cc j0 0) (js ++ [j0]) (upd g (kn + 1) (ar 15 j0)) (upd T j0 (-(nI (kn + 1)))) ((mp (va_up cc j0 0) K).1) (by omega) H locs ls ⟨⟨by omega, by simp; omega⟩, fun j hj => tOK_up (h2 j hj) (by omega) (by omega), rfl, by rw [h3, fv_some (by omega) ho.symm, show m - kn - 1 = m - (kn + 1) by omega]; simp, by rw [h4, List.map_append, List.map_cons, List.map_nil, ← wrR_snoc, List.length_map, h1.2, Nat.add_comm], by rw [h5, h1.2]; exact tlA_snoc hnj, fun j hj => by by_cases q : j = j0; rw [q, va_up_self]; rw [va_up_ne _ _ q]; exact h6 j ((List.mem_append.mp hj).elim (fun q => q) (fun q2 => absurd (List.mem_singleton.mp q2) q)), h, lv_sub hl [2, 3, 4, 1, 0] rfl⟩
