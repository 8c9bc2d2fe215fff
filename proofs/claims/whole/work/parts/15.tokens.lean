/-- the numbers whose token is 0 -/
def oth (R : Nat → Int32) (t : Nat → Nat) : Nat → List Int32
  | 0 => []
  | n + 1 => oth R t n ++ (if t n = 0 then [R n] else [])
theorem oth_le (R : Nat → Int32) (t : Nat → Nat) : ∀ n, (oth R t n).length ≤ n
  | 0 => Nat.le_refl _
  | n + 1 => by have := oth_le R t n; unfold oth; split <;> simp <;> omega
theorem oth_0 {R : Nat → Int32} {t : Nat → Nat} {n : Nat} (h : t n = 0) : oth R t (n + 1) = oth R t n ++ [R n] := by
  rw [show oth R t (n + 1) = oth R t n ++ (if t n = 0 then [R n] else []) from rfl, if_pos h]
theorem oth_1 {R : Nat → Int32} {t : Nat → Nat} {n : Nat} (h : 0 < t n) : oth R t (n + 1) = oth R t n := by
  rw [show oth R t (n + 1) = oth R t n ++ (if t n = 0 then [R n] else []) from rfl, if_neg (by omega), List.append_nil]
theorem wrR_hi {f : Nat → Int32} {p : Nat} {xs : List Int32} {j : Nat} (h : p + xs.length ≤ j) : wrR f p xs j = f j := by
  unfold wrR; rw [if_neg (by omega)]
theorem wrR_lo {f : Nat → Int32} {p : Nat} {xs : List Int32} {j : Nat} (h : j < p) : wrR f p xs j = f j := by
  unfold wrR; rw [if_neg (by omega)]
/-- how many tokens are 0, if all are tokens -/
def cO (kn : Nat) : List Int32 → Option Nat
  | [] => some 0
  | x :: xs => if x < 0 ∨ nI kn < x then none else (cO kn xs).map (fun q => q + if x = 0 then 1 else 0)
theorem cO_bad {kn : Nat} {x : Int32} {xs : List Int32} (h : x < 0 ∨ nI kn < x) : cO kn (x :: xs) = none := if_pos h
theorem cO_ok {kn : Nat} {x : Int32} {xs : List Int32} (h : ¬ x < 0) (h2 : x ≤ nI kn) : cO kn (x :: xs) = (cO kn xs).map (fun q => q + if x = 0 then 1 else 0) := if_neg (fun q => q.elim h (fun q => by
  rw [Int32.le_iff_toInt_le] at h2
  rw [Int32.lt_iff_toInt_lt] at q
  omega))
/-- tokens replaced -/
def rpL (F Ln : Nat → Int32) : Nat → List Int32 → List Int32
  | _, [] => []
  | o, x :: xs => if x = 0 then Ln o :: rpL F Ln (o + 1) xs else F x.toNatClampNeg :: rpL F Ln o xs
theorem rpL_len (F Ln : Nat → Int32) : ∀ (xs : List Int32) (o : Nat), (rpL F Ln o xs).length = xs.length
  | [], _ => rfl
  | x :: xs, o => by unfold rpL; split <;> simp [rpL_len F Ln xs]
theorem one_put {z : bZ} {v : bV} {sc : Nat → Int32} {ar : Nat → Nat → Int32} {s : State} {H : Heap} {locs : List Loc} {k p i : Nat} {xs : List Int32} {x : Int32} (hi : i = p + xs.length) (h : hH z v sc (va_up (va_up ar k (wrR (ar k) p xs)) k (upd (va_up ar k (wrR (ar k) p xs) k) i x)) s H locs) : hH z v sc (va_up ar k (wrR (ar k) p (xs ++ [x]))) s H locs := rr_put hi h
set_option maxHeartbeats 4000000 in
set_option maxRecDepth 100000 in
/-- Popular.gatherOthers -/
theorem k_gather (l : Launch) (z : bZ) (v : bV) (sc : Nat → Int32) (ar : Nat → Nat → Int32) (k fr cnt f : Nat) (R : Nat → Int32) (t : Nat → Nat) (hk : isA k = true) (hkL : aL k < 2 ^ 31) (hfc : fr + cnt ≤ aL k) (hc4 : cnt ≤ 400) (hf : f < 4) (hkf : k ≠ 23 + f) (hR : ∀ i, i < cnt → ar k (fr + i) = R i) (ht : ∀ i, i < cnt → ar (23 + f) i = nI (t i) ∧ t i < 2 ^ 31) : Met l yX4_gatherOthers (Cond.code yX4_gatherOthers cX4_gatherOthers 6 (some .int) :: uW) { frames := 0, cells := 0, slots := 0, locals := 0 } (pC z v sc ar [.ref (zad z k), .int (nI (fr)), .int (nI (cnt)), .ref (zad z (23 + f))]) (qI z (fun r u => r = nI (oth R t cnt).length ∧ u = (v, sc, va_up ar (23 + f) (wrR (ar (23 + f)) 0 (oth R t cnt))))) 0 0 (zA z) := by
  refine eM (by decide) (Nat.le_of_ble_eq_true rfl) ?_
  intro pP eE s mM below meth cC ls C hr hlk h hl
  have hx := C.1.1
  have hb := C.1.2.1
  have hl : lv_has ls 6 [(0, .ref (zad z k)), (1, .int (nI (fr))), (2, .int (nI (cnt))), (3, .ref (zad z (23 + f)))] := hl
  have hA4 := isA_fr hf
  refine lv_iconst (v := nI (0)) hx hb dX4_gatherOthers_0 (by decide) ?_
  refine lv_istore (lv' := [(4, .int (nI (0))), (0, .ref (zad z k)), (1, .int (nI (fr))), (2, .int (nI (cnt))), (3, .ref (zad z (23 + f)))]) hx hb dX4_gatherOthers_1 hl (by decide) rfl (fun ls hl => ?_)
  refine lv_iconst (v := nI (0)) hx hb dX4_gatherOthers_3 (by decide) ?_
  refine lv_istore (lv' := [(5, .int (nI (0))), (4, .int (nI (0))), (0, .ref (zad z k)), (1, .int (nI (fr))), (2, .int (nI (cnt))), (3, .ref (zad z (23 + f)))]) hx hb dX4_gatherOthers_4 hl (by decide) rfl (fun ls hl => ?_)
  refine lpW2 (fun (i : Nat) (ot : Nat) (H : Heap) (locs : List Loc) (ls : Array Slot) => (i ≤ cnt) ∧ (ot = (oth R t i).length) ∧ hH z v sc (va_up ar (23 + f) (wrR (ar (23 + f)) 0 (oth R t i))) s H locs ∧ lv_has ls 6 [(0, .ref (zad z k)), (1, .int (nI (fr))), (2, .int (nI (cnt))), (3, .ref (zad z (23 + f))), (4, .int (nI (ot))), (5, .int (nI (i)))]) (fun (i : Nat) (ot : Nat) => cnt - i) (fun i ot ih_6 H locs ls hI => ?_) (0) (0) ⟨Nat.zero_le _, rfl, (by rw [show oth R t 0 = [] from rfl, wrR_nil, va_us]; exact h), lv_sub hl [2, 3, 4, 5, 1, 0] rfl⟩
  obtain ⟨h1, h2, h, hl⟩ := hI
  have hle := oth_le R t i
  refine lv_iload hx hb dX4_gatherOthers_6 (lv_at hl 5 rfl) ?_
  refine lv_iload_n hx hb dX4_gatherOthers_8 rfl (lv_at hl 2 rfl) ?_
  refine jN_ge (tgt := 38) (a := i) (b := cnt) C (by omega) (by omega) dX4_gatherOthers_9 (by decide) (fun c_9 => ?_) (fun c_9 => ?_)
  · skip
    refine lv_iload hx hb dX4_gatherOthers_38 (lv_at hl 4 rfl) ?_
    exact rI C hr hlk h dX4_gatherOthers_40 (Nat.le_of_ble_eq_true rfl) (Nat.le_of_ble_eq_true rfl) (⟨by rw [h2, show i = cnt by omega], by rw [show i = cnt by omega]⟩)
  · skip
    have hti := ht i (by omega)
    have hti2 := hti.2
    refine lv_aload_n hx hb dX4_gatherOthers_12 rfl (lv_at hl 3 rfl) ?_
    refine lv_iload hx hb dX4_gatherOthers_13 (lv_at hl 5 rfl) ?_
    refine ldA (23 + f) hA4.2.2.1 (j := i) (by rw [hA4.2.2.2]; omega) (by rw [hA4.2.2.2]; decide) C h dX4_gatherOthers_15 ?_
    refine tI (y := nI (t i)) (by rw [va_up_self, wrR_hi (by omega)]; exact hti.1) ?_
    refine zN_ne (tgt := 32) (a := t i) C (by omega) dX4_gatherOthers_16 (by decide) (fun c_16 => ?_) (fun c_16 => ?_)
    · skip
      refine lv_iinc (v := nI (i + 1)) (lv' := [(5, .int (nI (i + 1))), (0, .ref (zad z k)), (1, .int (nI (fr))), (2, .int (nI (cnt))), (3, .ref (zad z (23 + f))), (4, .int (nI (ot)))]) hx hb dX4_gatherOthers_32 hl (k := 5) rfl (nN_inc _) (by decide) rfl (fun ls hl => ?_)
      refine lv_goto (tgt := 6) hx hb dX4_gatherOthers_35 (by decide) ?_
      exact ih_6 (i + 1) (ot) (by omega) H locs ls ⟨by omega, by rw [oth_1 c_16]; exact h2, (by rw [oth_1 c_16]; exact h), lv_sub hl [1, 2, 3, 4, 5, 0] rfl⟩
    · skip
      refine lv_aload_n hx hb dX4_gatherOthers_19 rfl (lv_at hl 3 rfl) ?_
      refine lv_iload hx hb dX4_gatherOthers_20 (lv_at hl 4 rfl) ?_
      refine lv_aload_n hx hb dX4_gatherOthers_22 rfl (lv_at hl 0 rfl) ?_
      refine lv_iload_n hx hb dX4_gatherOthers_23 rfl (lv_at hl 1 rfl) ?_
      refine lv_iload hx hb dX4_gatherOthers_24 (lv_at hl 5 rfl) ?_
      refine lv_iadd hx hb dX4_gatherOthers_26 ?_
      refine tI (nI_add _ _) ?_
      refine ldA k hk (j := (fr) + (i)) (by omega) hkL C h dX4_gatherOthers_27 ?_
      refine tI (y := R i) (by rw [va_up_ne _ _ hkf]; exact hR i (by omega)) ?_
      refine stA (23 + f) hA4.2.2.1 (j := ot) (x := R i) (by rw [hA4.2.2.2]; omega) (by rw [hA4.2.2.2]; decide) C h dX4_gatherOthers_28 (fun H locs h => ?_)
      rw [h2] at h
      have h := one_put (p := 0) (Nat.zero_add _).symm h
      refine lv_iinc (v := nI (ot + 1)) (lv' := [(4, .int (nI (ot + 1))), (0, .ref (zad z k)), (1, .int (nI (fr))), (2, .int (nI (cnt))), (3, .ref (zad z (23 + f))), (5, .int (nI (i)))]) hx hb dX4_gatherOthers_29 hl (k := 4) rfl (nN_inc _) (by decide) rfl (fun ls hl => ?_)
      refine lv_iinc (v := nI (i + 1)) (lv' := [(5, .int (nI (i + 1))), (4, .int (nI (ot + 1))), (0, .ref (zad z k)), (1, .int (nI (fr))), (2, .int (nI (cnt))), (3, .ref (zad z (23 + f)))]) hx hb dX4_gatherOthers_32 hl (k := 5) rfl (nN_inc _) (by decide) rfl (fun ls hl => ?_)
      refine lv_goto (tgt := 6) hx hb dX4_gatherOthers_35 (by decide) ?_
      exact ih_6 (i + 1) (ot + 1) (by omega) H locs ls ⟨by omega, by rw [oth_0 c_16]; simp [h2], (by rw [oth_0 c_16]; exact h), lv_sub hl [2, 3, 4, 5, 1, 0] rfl⟩
set_option maxHeartbeats 4000000 in
set_option maxRecDepth 100000 in
/-- Popular.countOthers -/
theorem k_count (l : Launch) (z : bZ) (v : bV) (sc : Nat → Int32) (ar : Nat → Nat → Int32) (k fr cnt kn : Nat) (hk : isA k = true) (hkL : aL k < 2 ^ 31) (hfc : fr + cnt ≤ aL k) (hc4 : cnt ≤ 400) (hkn : kn < 2 ^ 31) : Met l yX4_countOthers (Cond.code yX4_countOthers cX4_countOthers 6 (some .int) :: uW) { frames := 0, cells := 0, slots := 0, locals := 0 } (pC z v sc ar [.ref (zad z k), .int (nI (fr)), .int (nI (cnt)), .int (nI (kn))]) (qI z (fun r u => r = oI (cO kn (rowL (ar k) fr cnt)) ∧ u = (v, sc, ar))) 0 0 (zA z) := by
  refine eM (by decide) (Nat.le_of_ble_eq_true rfl) ?_
  intro pP eE s mM below meth cC ls C hr hlk h hl
  have hx := C.1.1
  have hb := C.1.2.1
  have hl : lv_has ls 6 [(0, .ref (zad z k)), (1, .int (nI (fr))), (2, .int (nI (cnt))), (3, .int (nI (kn)))] := hl
  refine lv_iconst (v := nI (0)) hx hb dX4_countOthers_0 (by decide) ?_
  refine lv_istore (lv' := [(4, .int (nI (0))), (0, .ref (zad z k)), (1, .int (nI (fr))), (2, .int (nI (cnt))), (3, .int (nI (kn)))]) hx hb dX4_countOthers_1 hl (by decide) rfl (fun ls hl => ?_)
  refine lv_iload_n hx hb dX4_countOthers_3 rfl (lv_at hl 2 rfl) ?_
  refine lv_istore (lv' := [(5, .int (nI (fr))), (4, .int (nI (0))), (0, .ref (zad z k)), (1, .int (nI (fr))), (2, .int (nI (cnt))), (3, .int (nI (kn)))]) hx hb dX4_countOthers_4 hl (by decide) rfl (fun ls hl => ?_)
  refine lpW2 (fun (i : Nat) (ot : Nat) (H : Heap) (locs : List Loc) (ls : Array Slot) => (fr ≤ i ∧ i ≤ fr + cnt) ∧ (cO kn (rowL (ar k) fr cnt) = (cO kn (rowL (ar k) i (fr + cnt - i))).map (fun q => q + ot)) ∧ hH z v sc ar s H locs ∧ lv_has ls 6 [(0, .ref (zad z k)), (1, .int (nI (fr))), (2, .int (nI (cnt))), (3, .int (nI (kn))), (4, .int (nI (ot))), (5, .int (nI (i)))]) (fun (i : Nat) (ot : Nat) => fr + cnt - i) (fun i ot ih_6 H locs ls hI => ?_) (fr) (0) ⟨⟨Nat.le_refl _, by omega⟩, by rw [show fr + cnt - fr = cnt by omega]; simp, h, lv_sub hl [2, 3, 4, 5, 1, 0] rfl⟩
  obtain ⟨h1, h3, h, hl⟩ := hI
  refine lv_iload hx hb dX4_countOthers_6 (lv_at hl 5 rfl) ?_
  refine lv_iload_n hx hb dX4_countOthers_8 rfl (lv_at hl 1 rfl) ?_
  refine lv_iload_n hx hb dX4_countOthers_9 rfl (lv_at hl 2 rfl) ?_
  refine lv_iadd hx hb dX4_countOthers_10 ?_
  refine tI (nI_add _ _) ?_
  refine jN_ge (tgt := 47) (a := i) (b := (fr) + (cnt)) C (by omega) (by omega) dX4_countOthers_11 (by decide) (fun c_11 => ?_) (fun c_11 => ?_)
  · skip
    refine lv_iload hx hb dX4_countOthers_47 (lv_at hl 4 rfl) ?_
    exact rI C hr hlk h dX4_countOthers_49 (Nat.le_of_ble_eq_true rfl) (Nat.le_of_ble_eq_true rfl) (⟨by rw [h3, show fr + cnt - i = 0 by omega]; simp [rowL, cO, oI], rfl⟩)
  · skip
    refine lv_aload_n hx hb dX4_countOthers_14 rfl (lv_at hl 0 rfl) ?_
    refine lv_iload hx hb dX4_countOthers_15 (lv_at hl 5 rfl) ?_
    refine ldA k hk (j := i) (by omega) hkL C h dX4_countOthers_17 ?_
    refine tI (y := (ar k) (i)) rfl ?_
    refine lv_if_lt (tgt := 29) hx hb dX4_countOthers_18 (by decide) (fun c_18 => ?_) (fun c_18 => ?_)
    · skip
      refine lv_iconst (v := (-1)) hx hb dX4_countOthers_29 (by decide) ?_
      exact rI C hr hlk h dX4_countOthers_30 (Nat.le_of_ble_eq_true rfl) (Nat.le_of_ble_eq_true rfl) (⟨by rw [h3, rowL_step (by omega), cO_bad (Or.inl c_18)]; rfl, rfl⟩)
    · skip
      refine lv_aload_n hx hb dX4_countOthers_21 rfl (lv_at hl 0 rfl) ?_
      refine lv_iload hx hb dX4_countOthers_22 (lv_at hl 5 rfl) ?_
      refine ldA k hk (j := i) (by omega) hkL C h dX4_countOthers_24 ?_
      refine tI (y := (ar k) (i)) rfl ?_
      refine lv_iload_n hx hb dX4_countOthers_25 rfl (lv_at hl 3 rfl) ?_
      refine lv_icmp_le (tgt := 31) hx hb dX4_countOthers_26 (by decide) (fun c_26 => ?_) (fun c_26 => ?_)
      · skip
        refine lv_aload_n hx hb dX4_countOthers_31 rfl (lv_at hl 0 rfl) ?_
        refine lv_iload hx hb dX4_countOthers_32 (lv_at hl 5 rfl) ?_
        refine ldA k hk (j := i) (by omega) hkL C h dX4_countOthers_34 ?_
        refine tI (y := (ar k) (i)) rfl ?_
        refine lv_if_ne (tgt := 41) hx hb dX4_countOthers_35 (by decide) (fun c_35 => ?_) (fun c_35 => ?_)
        · skip
          refine lv_iinc (v := nI (i + 1)) (lv' := [(5, .int (nI (i + 1))), (0, .ref (zad z k)), (1, .int (nI (fr))), (2, .int (nI (cnt))), (3, .int (nI (kn))), (4, .int (nI (ot)))]) hx hb dX4_countOthers_41 hl (k := 5) rfl (nN_inc _) (by decide) rfl (fun ls hl => ?_)
          refine lv_goto (tgt := 6) hx hb dX4_countOthers_44 (by decide) ?_
          exact ih_6 (i + 1) (ot) (by omega) H locs ls ⟨⟨by omega, by omega⟩, by rw [h3, rowL_step (by omega), cO_ok c_18 c_26, Option.map_map, if_neg c_35, show fr + cnt - i - 1 = fr + cnt - (i + 1) by omega]; first | rfl | (congr 1; funext q; simp only [Function.comp]; omega), h, lv_sub hl [1, 2, 3, 4, 5, 0] rfl⟩
        · skip
          refine lv_iinc (v := nI (ot + 1)) (lv' := [(4, .int (nI (ot + 1))), (0, .ref (zad z k)), (1, .int (nI (fr))), (2, .int (nI (cnt))), (3, .int (nI (kn))), (5, .int (nI (i)))]) hx hb dX4_countOthers_38 hl (k := 4) rfl (nN_inc _) (by decide) rfl (fun ls hl => ?_)
          refine lv_iinc (v := nI (i + 1)) (lv' := [(5, .int (nI (i + 1))), (4, .int (nI (ot + 1))), (0, .ref (zad z k)), (1, .int (nI (fr))), (2, .int (nI (cnt))), (3, .int (nI (kn)))]) hx hb dX4_countOthers_41 hl (k := 5) rfl (nN_inc _) (by decide) rfl (fun ls hl => ?_)
          refine lv_goto (tgt := 6) hx hb dX4_countOthers_44 (by decide) ?_
          exact ih_6 (i + 1) (ot + 1) (by omega) H locs ls ⟨⟨by omega, by omega⟩, by rw [h3, rowL_step (by omega), cO_ok c_18 c_26, Option.map_map, if_pos c_35, show fr + cnt - i - 1 = fr + cnt - (i + 1) by omega]; first | rfl | (congr 1; funext q; simp only [Function.comp]; omega), h, lv_sub hl [2, 3, 4, 5, 1, 0] rfl⟩
      · skip
        refine lv_iconst (v := (-1)) hx hb dX4_countOthers_29 (by decide) ?_
        exact rI C hr hlk h dX4_countOthers_30 (Nat.le_of_ble_eq_true rfl) (Nat.le_of_ble_eq_true rfl) (⟨by rw [h3, rowL_step (by omega), cO_bad (Or.inr (by rw [Int32.le_iff_toInt_le] at c_26; rw [Int32.lt_iff_toInt_lt]; omega))]; rfl, rfl⟩)
set_option maxHeartbeats 4000000 in
set_option maxRecDepth 100000 in
/-- Popular.replaceTokens -/
theorem k_replace (l : Launch) (z : bZ) (v : bV) (sc : Nat → Int32) (ar : Nat → Nat → Int32) (k fr cnt f : Nat) (hk : isA k = true) (hkL : aL k < 2 ^ 31) (hfc : fr + cnt ≤ aL k) (hc4 : cnt ≤ 400) (hf : f < 4) (hk1 : k ≠ 19 + f) (hk2 : k ≠ 23 + f) (ht : ∀ i, fr ≤ i → i < fr + cnt → ∃ t : Nat, t ≤ 50 ∧ ar k i = nI t) : Met l yX4_replaceTokens (Cond.code yX4_replaceTokens cX4_replaceTokens 6 none :: uW) { frames := 0, cells := 0, slots := 0, locals := 0 } (pC z v sc ar [.ref (zad z k), .int (nI (fr)), .int (nI (cnt)), .ref (zad z (5 + f))]) (qV z (fun u => u = (v, sc, va_up ar k (wrR (ar k) fr (rpL (ar (19 + f)) (ar (23 + f)) 0 (rowL (ar k) fr cnt)))))) 0 0 (zA z) := by
  refine eM (by decide) (Nat.le_of_ble_eq_true rfl) ?_
  intro pP eE s mM below meth cC ls C hr hlk h hl
  have hx := C.1.1
  have hb := C.1.2.1
  have hl : lv_has ls 6 [(0, .ref (zad z k)), (1, .int (nI (fr))), (2, .int (nI (cnt))), (3, .ref (zad z (5 + f)))] := hl
  have hA4 := isA_fr hf
  refine lv_iconst (v := nI (0)) hx hb dX4_replaceTokens_0 (by decide) ?_
  refine lv_istore (lv' := [(4, .int (nI (0))), (0, .ref (zad z k)), (1, .int (nI (fr))), (2, .int (nI (cnt))), (3, .ref (zad z (5 + f)))]) hx hb dX4_replaceTokens_1 hl (by decide) rfl (fun ls hl => ?_)
  refine lv_iload_n hx hb dX4_replaceTokens_3 rfl (lv_at hl 2 rfl) ?_
  refine lv_istore (lv' := [(5, .int (nI (fr))), (4, .int (nI (0))), (0, .ref (zad z k)), (1, .int (nI (fr))), (2, .int (nI (cnt))), (3, .ref (zad z (5 + f)))]) hx hb dX4_replaceTokens_4 hl (by decide) rfl (fun ls hl => ?_)
  refine lpW3 (fun (i : Nat) (ot : Nat) (done : List Int32) (H : Heap) (locs : List Loc) (ls : Array Slot) => (fr ≤ i ∧ i ≤ fr + cnt) ∧ (i = fr + done.length) ∧ (rpL (ar (19 + f)) (ar (23 + f)) 0 (rowL (ar k) fr cnt) = done ++ rpL (ar (19 + f)) (ar (23 + f)) ot (rowL (ar k) i (fr + cnt - i))) ∧ (ot ≤ i - fr) ∧ hH z v sc (va_up ar k (wrR (ar k) fr (done))) s H locs ∧ lv_has ls 6 [(0, .ref (zad z k)), (1, .int (nI (fr))), (2, .int (nI (cnt))), (3, .ref (zad z (5 + f))), (4, .int (nI (ot))), (5, .int (nI (i)))]) (fun (i : Nat) (ot : Nat) (done : List Int32) => fr + cnt - i) (fun i ot done ih_6 H locs ls hI => ?_) (fr) (0) ([]) ⟨⟨Nat.le_refl _, by omega⟩, rfl, by rw [show fr + cnt - fr = cnt by omega]; rfl, Nat.zero_le _, (by rw [wrR_nil, va_us]; exact h), lv_sub hl [2, 3, 4, 5, 1, 0] rfl⟩
  obtain ⟨h1, h2, h3, h4, h, hl⟩ := hI
  refine lv_iload hx hb dX4_replaceTokens_6 (lv_at hl 5 rfl) ?_
  refine lv_iload_n hx hb dX4_replaceTokens_8 rfl (lv_at hl 1 rfl) ?_
  refine lv_iload_n hx hb dX4_replaceTokens_9 rfl (lv_at hl 2 rfl) ?_
  refine lv_iadd hx hb dX4_replaceTokens_10 ?_
  refine tI (nI_add _ _) ?_
  refine jN_ge (tgt := 57) (a := i) (b := (fr) + (cnt)) C (by omega) (by omega) dX4_replaceTokens_11 (by decide) (fun c_11 => ?_) (fun c_11 => ?_)
  · skip
    exact rV C hr hlk h dX4_replaceTokens_57 (Nat.le_of_ble_eq_true rfl) (Nat.le_of_ble_eq_true rfl) (by rw [h3, show fr + cnt - i = 0 by omega]; simp [rowL, rpL])
  · skip
    obtain ⟨ti, hti⟩ := ht i (by omega) (by omega)
    have hti1 := hti.1
    refine lv_aload_n hx hb dX4_replaceTokens_14 rfl (lv_at hl 0 rfl) ?_
    refine lv_iload hx hb dX4_replaceTokens_15 (lv_at hl 5 rfl) ?_
    refine ldA k hk (j := i) (by omega) hkL C h dX4_replaceTokens_17 ?_
    refine tI (y := nI (ti)) (by rw [va_up_self, wrR_hi (by omega)]; exact hti.2) ?_
    refine zN_ne (tgt := 38) (a := ti) C (by omega) dX4_replaceTokens_18 (by decide) (fun c_18 => ?_) (fun c_18 => ?_)
    · skip
      refine lv_aload_n hx hb dX4_replaceTokens_38 rfl (lv_at hl 0 rfl) ?_
      refine lv_iload hx hb dX4_replaceTokens_39 (lv_at hl 5 rfl) ?_
      refine lv_aload_n hx hb dX4_replaceTokens_41 rfl (lv_at hl 3 rfl) ?_
      refine rf_X4_44 hf C h dX4_replaceTokens_42 ?_
      refine lv_aload_n hx hb dX4_replaceTokens_45 rfl (lv_at hl 0 rfl) ?_
      refine lv_iload hx hb dX4_replaceTokens_46 (lv_at hl 5 rfl) ?_
      refine ldA k hk (j := i) (by omega) hkL C h dX4_replaceTokens_48 ?_
      refine tI (y := nI (ti)) (by rw [va_up_self, wrR_hi (by omega)]; exact hti.2) ?_
      refine ldA (19 + f) hA4.1 (j := ti) (by rw [hA4.2.1]; omega) (by rw [hA4.2.1]; decide) C h dX4_replaceTokens_49 ?_
      refine tI (y := ar (19 + f) ti) (by rw [va_up_ne _ _ (Ne.symm hk1)]) ?_
      refine stA k hk (j := i) (x := ar (19 + f) ti) (by omega) hkL C h dX4_replaceTokens_50 (fun H locs h => ?_)
      have h := one_put h2 h
      refine lv_iinc (v := nI (i + 1)) (lv' := [(5, .int (nI (i + 1))), (0, .ref (zad z k)), (1, .int (nI (fr))), (2, .int (nI (cnt))), (3, .ref (zad z (5 + f))), (4, .int (nI (ot)))]) hx hb dX4_replaceTokens_51 hl (k := 5) rfl (nN_inc _) (by decide) rfl (fun ls hl => ?_)
      refine lv_goto (tgt := 6) hx hb dX4_replaceTokens_54 (by decide) ?_
      exact ih_6 (i + 1) (ot) (done ++ [ar (19 + f) ti]) (by omega) H locs ls ⟨⟨by omega, by omega⟩, by simp; omega, by rw [h3, rowL_step (by omega), rpL, if_neg (by rw [hti.2]; exact nI_ne0 c_18 (by omega)), hti.2, nI_clamp (by omega), show fr + cnt - i - 1 = fr + cnt - (i + 1) by omega]; simp, by omega, h, lv_sub hl [1, 2, 3, 4, 5, 0] rfl⟩
    · skip
      refine lv_aload_n hx hb dX4_replaceTokens_21 rfl (lv_at hl 0 rfl) ?_
      refine lv_iload hx hb dX4_replaceTokens_22 (lv_at hl 5 rfl) ?_
      refine lv_aload_n hx hb dX4_replaceTokens_24 rfl (lv_at hl 3 rfl) ?_
      refine rf_X4_54 hf C h dX4_replaceTokens_25 ?_
      refine lv_iload hx hb dX4_replaceTokens_28 (lv_at hl 4 rfl) ?_
      refine ldA (23 + f) hA4.2.2.1 (j := ot) (by rw [hA4.2.2.2]; omega) (by rw [hA4.2.2.2]; decide) C h dX4_replaceTokens_30 ?_
      refine tI (y := ar (23 + f) ot) (by rw [va_up_ne _ _ (Ne.symm hk2)]) ?_
      refine stA k hk (j := i) (x := ar (23 + f) ot) (by omega) hkL C h dX4_replaceTokens_31 (fun H locs h => ?_)
      have h := one_put h2 h
      refine lv_iinc (v := nI (ot + 1)) (lv' := [(4, .int (nI (ot + 1))), (0, .ref (zad z k)), (1, .int (nI (fr))), (2, .int (nI (cnt))), (3, .ref (zad z (5 + f))), (5, .int (nI (i)))]) hx hb dX4_replaceTokens_32 hl (k := 4) rfl (nN_inc _) (by decide) rfl (fun ls hl => ?_)
      refine lv_goto (tgt := 51) hx hb dX4_replaceTokens_35 (by decide) ?_
      refine lv_iinc (v := nI (i + 1)) (lv' := [(5, .int (nI (i + 1))), (4, .int (nI (ot + 1))), (0, .ref (zad z k)), (1, .int (nI (fr))), (2, .int (nI (cnt))), (3, .ref (zad z (5 + f)))]) hx hb dX4_replaceTokens_51 hl (k := 5) rfl (nN_inc _) (by decide) rfl (fun ls hl => ?_)
      refine lv_goto (tgt := 6) hx hb dX4_replaceTokens_54 (by decide) ?_
      exact ih_6 (i + 1) (ot + 1) (done ++ [ar (23 + f) ot]) (by omega) H locs ls ⟨⟨by omega, by omega⟩, by simp; omega, by rw [h3, rowL_step (by omega), rpL, if_pos (by rw [hti.2, c_18]; rfl), show fr + cnt - i - 1 = fr + cnt - (i + 1) by omega]; simp, by omega, h, lv_sub hl [2, 3, 4, 5, 1, 0] rfl⟩
