/-! The reference: reading codes. -/
def inA (ar : Nat → Nat → Int32) (L w c t : Nat) : Nat → Nat → Int32 := va_up (va_up (va_up (va_up ar 42 (upd (ar 42) L (nI w))) 43 (upd (ar 43) L (nI c))) 44 (upd (ar 44) L (nI t))) 45 (upd (ar 45) L (nI 0))
def rcQ (v : bV) (sc : Nat → Int32) (ar : Nat → Nat → Int32) (t0 : Nat) (o : RdR) (u : bS) : Prop := match o with
  | .inl (xs, e) => u = (v, va_up sc 32 (nI e), va_up ar 36 (wrR (ar 36) t0 xs))
  | .inr (f, q) => ∃ (x : Int32) (g : Nat → Int32), u = (v, va_up (va_up (va_up sc 32 x) 33 (nI f)) 34 (nI q), va_up ar 36 g)
theorem neg_ltL {X : Nat} (h : X < 2 ^ 60) : -(lN X) < lN 2147483648 := by
  rw [Int64.lt_iff_toInt_lt, Int64.toInt_neg, pk_lT (by omega), pk_lT (by omega), Int.bmod_def]
  omega
theorem i2n {X : Nat} (h : X < 2 ^ 31) : Int32.ofInt (X : Int) = nI X := by
  apply Int32.toInt_inj.mp
  rw [nI_toInt h, Int32.toInt_ofInt, Int.bmod_def, show ((Int32.size : Nat) : Int) = 4294967296 from rfl]
  omega
theorem i2neg {X : Nat} (h : X < 2 ^ 62) : (-(lN X)).toInt32 = Int32.ofInt (-(X : Int)) := by rw [← nL_neg h, nL_i]
theorem pw1 {a b w i : Nat} (ha : a < 256 ^ i) (hb : b < 256) (hw : w ≤ 256 ^ i) : a + b * w < 256 ^ (i + 1) := by
  have h1 : b * w ≤ 255 * 256 ^ i := Nat.mul_le_mul (by omega) hw
  rw [Nat.pow_succ]; omega
theorem pw2 {w h i : Nat} (hw : w ≤ 256 ^ i) (hh : h ≤ 256) : w * h ≤ 256 ^ (i + 1) := by
  rw [Nat.pow_succ]; exact Nat.mul_le_mul hw hh
theorem pw3 {a i : Nat} (hi : i ≤ 5) (h : a < 256 ^ i) : a < 2 ^ 40 := Nat.lt_of_lt_of_le h (Nat.le_trans (Nat.pow_le_pow_right (by decide) hi) (by decide))
theorem nb_hi {s c : Nat} (h : 4294967296 ≤ c) : nbO s c = none := by unfold nbO; rw [if_pos h]
theorem nb_neg {s c : Nat} (h : c < 4294967296) (hs : s ≠ 0) (hm : (c + 1) % 2 ^ s = 0) : nbO s c = some (-(((c + 1) / 2 ^ s : Nat) : Int)) := by unfold nbO; rw [if_neg (by omega), if_pos ⟨hs, hm⟩]
theorem nb_0 {c : Nat} (h : c < 4294967296) : nbO 0 c = if c < 2147483648 then some (c : Int) else none := by unfold nbO; rw [if_neg (by omega), if_neg (fun q => q.1 rfl)]; rfl
theorem nb_pos {s c : Nat} (h : c < 4294967296) (hs : s ≠ 0) (hm : ¬ (c + 1) % 2 ^ s = 0) : nbO s c = if c - c / 2 ^ s < 2147483648 then some ((c - c / 2 ^ s : Nat) : Int) else none := by unfold nbO; rw [if_neg (by omega), if_neg (fun q => hm q.2), if_neg hs]
set_option maxHeartbeats 4000000 in
set_option maxRecDepth 100000 in
theorem r_into (l : Launch) (z : bZ) (v : bV) (sc : Nat → Int32) (ar : Nat → Nat → Int32) (L w c0 t0 : Nat) (hL : L < 8) : Met l yX10_into (Cond.code yX10_into cX10_into 5 none :: uW) { frames := 0, cells := 0, slots := 0, locals := 0 } (pC z v sc ar [.ref (zad z 27), .int (nI (L)), .int (nI (w)), .int (nI (c0)), .int (nI (t0))]) (qV z (fun u => u = (v, sc, inA ar L w c0 t0))) 0 0 (zA z) := by
  refine eM (by decide) (Nat.le_of_ble_eq_true rfl) ?_
  intro pP eE s mM below meth cC ls C hr hlk h hl
  have hx := C.1.1
  have hb := C.1.2.1
  have hl : lv_has ls 5 [(0, .ref (zad z 27)), (1, .int (nI (L))), (2, .int (nI (w))), (3, .int (nI (c0))), (4, .int (nI (t0)))] := hl
  refine lv_aload_n hx hb dX10_into_0 rfl (lv_at hl 0 rfl) ?_
  refine rg_X10_66 C h dX10_into_1 ?_
  refine lv_iload_n hx hb dX10_into_4 rfl (lv_at hl 1 rfl) ?_
  refine lv_iload_n hx hb dX10_into_5 rfl (lv_at hl 2 rfl) ?_
  refine stA 42 rfl (j := L) (x := nI (w)) (show L < 8 by omega) (by decide) C h dX10_into_6 (fun H locs h => ?_)
  refine lv_aload_n hx hb dX10_into_7 rfl (lv_at hl 0 rfl) ?_
  refine rg_X10_69 C h dX10_into_8 ?_
  refine lv_iload_n hx hb dX10_into_11 rfl (lv_at hl 1 rfl) ?_
  refine lv_iload_n hx hb dX10_into_12 rfl (lv_at hl 3 rfl) ?_
  refine stA 43 rfl (j := L) (x := nI (c0)) (show L < 8 by omega) (by decide) C h dX10_into_13 (fun H locs h => ?_)
  refine lv_aload_n hx hb dX10_into_14 rfl (lv_at hl 0 rfl) ?_
  refine rg_X10_72 C h dX10_into_15 ?_
  refine lv_iload_n hx hb dX10_into_18 rfl (lv_at hl 1 rfl) ?_
  refine lv_iload hx hb dX10_into_19 (lv_at hl 4 rfl) ?_
  refine stA 44 rfl (j := L) (x := nI (t0)) (show L < 8 by omega) (by decide) C h dX10_into_21 (fun H locs h => ?_)
  refine lv_aload_n hx hb dX10_into_22 rfl (lv_at hl 0 rfl) ?_
  refine rg_X10_75 C h dX10_into_23 ?_
  refine lv_iload_n hx hb dX10_into_26 rfl (lv_at hl 1 rfl) ?_
  refine lv_iconst (v := nI (0)) hx hb dX10_into_27 (by decide) ?_
  refine stA 45 rfl (j := L) (x := nI (0)) (show L < 8 by omega) (by decide) C h dX10_into_28 (fun H locs h => ?_)
  exact rV C hr hlk h dX10_into_29 (Nat.le_of_ble_eq_true rfl) (Nat.le_of_ble_eq_true rfl) (rfl)
set_option maxHeartbeats 4000000 in
set_option maxRecDepth 100000 in
theorem r_room (l : Launch) (z : bZ) (v : bV) (sc : Nat → Int32) (ar : Nat → Nat → Int32) (us c0 : Nat) (hus : sc 29 = nI us) : Met l yX10_room (Cond.code yX10_room cX10_room 2 (some .int) :: uW) { frames := 0, cells := 0, slots := 0, locals := 0 } (pC z v sc ar [.ref (zad z 27), .int (nI (c0))]) (qI z (fun r u => r = nI us ∧ u = (v, va_up sc 29 (nI (us + c0)), ar))) 0 0 (zA z) := by
  refine eM (by decide) (Nat.le_of_ble_eq_true rfl) ?_
  intro pP eE s mM below meth cC ls C hr hlk h hl
  have hx := C.1.1
  have hb := C.1.2.1
  have hl : lv_has ls 2 [(0, .ref (zad z 27)), (1, .int (nI (c0)))] := hl
  refine lv_aload_n hx hb dX10_room_0 rfl (lv_at hl 0 rfl) ?_
  refine lv_dup hx hb dX10_room_1 rfl ?_
  refine rg_X10_147 C h dX10_room_2 ?_
  refine tI (y := nI (us)) hus ?_
  refine lv_iload_n hx hb dX10_room_5 rfl (lv_at hl 1 rfl) ?_
  refine lv_iadd hx hb dX10_room_6 ?_
  refine tI (y := nI (us + c0)) (nI_add _ _) ?_
  refine rp_X10_147 C h dX10_room_7 (fun H locs h => ?_)
  refine lv_aload_n hx hb dX10_room_10 rfl (lv_at hl 0 rfl) ?_
  refine rg_X10_147 C h dX10_room_11 ?_
  refine tI (y := nI (us + c0)) rfl ?_
  refine lv_iload_n hx hb dX10_room_14 rfl (lv_at hl 1 rfl) ?_
  refine lv_isub hx hb dX10_room_15 ?_
  refine tI (pk_sub (by omega)) ?_
  exact rI C hr hlk h dX10_room_16 (Nat.le_of_ble_eq_true rfl) (Nat.le_of_ble_eq_true rfl) (⟨by rw [Nat.add_sub_cancel], rfl⟩)
set_option maxHeartbeats 4000000 in
set_option maxRecDepth 100000 in
theorem r_fails (l : Launch) (z : bZ) (v : bV) (sc : Nat → Int32) (ar : Nat → Nat → Int32) (x y : Int32)  : Met l yX10_fails (Cond.code yX10_fails cX10_fails 3 none :: uW) { frames := 0, cells := 0, slots := 0, locals := 0 } (pC z v sc ar [.ref (zad z 27), .int (x), .int (y)]) (qV z (fun u => u = (v, va_up (va_up sc 33 x) 34 y, ar))) 0 0 (zA z) := by
  refine eM (by decide) (Nat.le_of_ble_eq_true rfl) ?_
  intro pP eE s mM below meth cC ls C hr hlk h hl
  have hx := C.1.1
  have hb := C.1.2.1
  have hl : lv_has ls 3 [(0, .ref (zad z 27)), (1, .int (x)), (2, .int (y))] := hl
  refine lv_aload_n hx hb dX10_fails_0 rfl (lv_at hl 0 rfl) ?_
  refine lv_iload_n hx hb dX10_fails_1 rfl (lv_at hl 1 rfl) ?_
  refine rp_X10_171 C h dX10_fails_2 (fun H locs h => ?_)
  refine lv_aload_n hx hb dX10_fails_5 rfl (lv_at hl 0 rfl) ?_
  refine lv_iload_n hx hb dX10_fails_6 rfl (lv_at hl 2 rfl) ?_
  refine rp_X10_174 C h dX10_fails_7 (fun H locs h => ?_)
  exact rV C hr hlk h dX10_fails_10 (Nat.le_of_ble_eq_true rfl) (Nat.le_of_ble_eq_true rfl) (rfl)
theorem gv_X10_180 : GoodIn uW (wsV RX10 180 RX10 yX10_fails (Cond.code yX10_fails cX10_fails 3 none :: uW)) := gI_V (uW_of (by decide +kernel) rfl) (uW_of (by decide +kernel) rfl) (uW_of (by decide +kernel) rfl) (uW_of (by decide +kernel) rfl) (uW_of (by decide +kernel) rfl)
theorem gv_X10_180_n : okN yX10_fails 2 := by decide +kernel
theorem uk_X10_184 : Cond.constantLong RX10 184 (2147483648) ∈ uW := uW_of (by decide +kernel) rfl
set_option maxHeartbeats 4000000 in
set_option maxRecDepth 100000 in
theorem r_readsCodes (l : Launch) (z : bZ) (v : bV) (sc : Nat → Int32) (ar : Nat → Nat → Int32) (K w cnt t0 n p0 : Nat) (wt : Nat → Nat → Nat) (dp : Nat → Nat) (t : Nat → Nat) (hK4 : K ≤ 40) (hRW : RW wt dp K ar) (hw : w < K) (hw0 : wt w 0 = 0) (hn : sc 23 = nI n) (hn8 : n ≤ 8000) (hp : sc 32 = nI p0) (hpn : p0 ≤ n) (hf0 : sc 33 = nI 0) (ht : ∀ j, t j < 256) (hT : ∀ j, j < n → ar 35 j = nI (t j)) (hto : t0 + cnt ≤ 40000) : Met l yX10_readsCodes (Cond.code yX10_readsCodes cX10_readsCodes 16 none :: uW) { frames := 1, cells := 0, slots := 0, locals := 22 } (pC z v sc ar [.ref (zad z 27), .int (nI (w)), .int (nI (cnt)), .int (nI (t0))]) (qV z (fun u => rcQ v sc ar t0 (rdL (wt w 1) (wt w 2) (wt w 3) (wt w 4) t n (cnt) (nI 0) (p0)) u)) 0 0 (zA z) := by
  refine eM (by decide) (Nat.le_of_ble_eq_true rfl) ?_
  intro pP eE s mM below meth cC ls C hr hlk h hl
  have hx := C.1.1
  have hb := C.1.2.1
  have hl : lv_has ls 16 [(0, .ref (zad z 27)), (1, .int (nI (w))), (2, .int (nI (cnt))), (3, .int (nI (t0)))] := hl
  obtain ⟨⟨hB1, hB5⟩, ⟨hH1, hH2⟩, hS, hD, -⟩ := codOK (hRW w hw).2.2.2.2.2.2 hw0
  rcases (show wt w 3 = 0 ∨ wt w 3 = 1 ∨ wt w 3 = 2 by omega) with hs3 | hs3 | hs3
  · skip
    refine lv_iconst (v := nI (0)) hx hb dX10_readsCodes_0 (by decide) ?_
    refine lv_istore (lv' := [(4, .int (nI (0))), (0, .ref (zad z 27)), (1, .int (nI (w))), (2, .int (nI (cnt))), (3, .int (nI (t0)))]) hx hb dX10_readsCodes_1 hl (by decide) rfl (fun ls hl => ?_)
    refine lv_iconst (v := nI (0)) hx hb dX10_readsCodes_3 (by decide) ?_
    refine lv_istore (lv' := [(5, .int (nI (0))), (4, .int (nI (0))), (0, .ref (zad z 27)), (1, .int (nI (w))), (2, .int (nI (cnt))), (3, .int (nI (t0)))]) hx hb dX10_readsCodes_4 hl (by decide) rfl (fun ls hl => ?_)
    refine lpW4 (fun (k : Nat) (bef : Int32) (p : Nat) (xs : List Int32) (H : Heap) (locs : List Loc) (ls : Array Slot) => (k ≤ cnt) ∧ (xs.length = k) ∧ (p ≤ n) ∧ (rdL (wt w 1) (wt w 2) (wt w 3) (wt w 4) t n (cnt) (nI 0) (p0) = rdPre xs (rdL (wt w 1) (wt w 2) (wt w 3) (wt w 4) t n (cnt - k) (bef) (p))) ∧ hH z v (va_up sc 32 (nI (p))) (va_up ar 36 (wrR (ar 36) t0 (xs))) s H locs ∧ lv_has ls 16 [(0, .ref (zad z 27)), (1, .int (nI (w))), (2, .int (nI (cnt))), (3, .int (nI (t0))), (4, .int (bef)), (5, .int (nI (k)))]) (fun (k : Nat) (bef : Int32) (p : Nat) (xs : List Int32) => cnt - k) (fun k bef p xs ih_6 H locs ls hI => ?_) (0) (nI 0) (p0) ([]) ⟨Nat.zero_le _, rfl, hpn, by cases rdL (wt w 1) (wt w 2) (wt w 3) (wt w 4) t n (cnt - 0) (nI 0) p0 <;> simp [rdPre], (by rw [← hp, va_us, wrR_nil, va_us]; exact h), lv_sub hl [2, 3, 4, 5, 1, 0] rfl⟩
    obtain ⟨h1, h1b, h2, h3, h, hl⟩ := hI
    refine lv_iload hx hb dX10_readsCodes_6 (lv_at hl 5 rfl) ?_
    refine lv_iload_n hx hb dX10_readsCodes_8 rfl (lv_at hl 2 rfl) ?_
    refine jN_ge (tgt := 287) (a := k) (b := cnt) C (by omega) (by omega) dX10_readsCodes_9 (by decide) (fun c_9 => ?_) (fun c_9 => ?_)
    · skip
      exact rV C hr hlk h dX10_readsCodes_287 (Nat.le_of_ble_eq_true rfl) (Nat.le_of_ble_eq_true rfl) (by have e : rdL (wt w 1) (wt w 2) (wt w 3) (wt w 4) t n (cnt) (nI 0) (p0) = .inl (xs, p) := (by rw [h3, show cnt - k = 0 by omega]; simp [rdL, rdPre]); show rcQ v sc ar t0 (rdL (wt w 1) (wt w 2) (wt w 3) (wt w 4) t n (cnt) (nI 0) (p0)) _; rw [e]; rfl)
    · skip
      refine lv_aload_n hx hb dX10_readsCodes_12 rfl (lv_at hl 0 rfl) ?_
      refine rg_X10_171 C h dX10_readsCodes_13 ?_
      refine tI (y := nI (0)) hf0 ?_
      refine zN_ne (tgt := 287) (a := 0) C (by decide) dX10_readsCodes_16 (by decide) (fun q => absurd q (by decide)) (fun _ => ?_)
      refine lv_aload_n hx hb dX10_readsCodes_19 rfl (lv_at hl 0 rfl) ?_
      refine rg_X10_177 C h dX10_readsCodes_20 ?_
      refine tI (y := nI (p)) rfl ?_
      refine lv_istore (lv' := [(6, .int (nI (p))), (0, .ref (zad z 27)), (1, .int (nI (w))), (2, .int (nI (cnt))), (3, .int (nI (t0))), (4, .int (bef)), (5, .int (nI (k)))]) hx hb dX10_readsCodes_23 hl (by decide) rfl (fun ls hl => ?_)
      refine lv_lconst (v := lN 0) hx hb dX10_readsCodes_25 (by decide) ?_
      refine lv_lstore (lv' := [(7, .long (lN (0))), (6, .int (nI (p))), (0, .ref (zad z 27)), (1, .int (nI (w))), (2, .int (nI (cnt))), (3, .int (nI (t0))), (4, .int (bef)), (5, .int (nI (k)))]) hx hb dX10_readsCodes_26 hl (by decide) rfl (fun ls hl => ?_)
      refine lv_lconst (v := lN 1) hx hb dX10_readsCodes_28 (by decide) ?_
      refine lv_lstore (lv' := [(9, .long (lN (1))), (7, .long (lN (0))), (6, .int (nI (p))), (0, .ref (zad z 27)), (1, .int (nI (w))), (2, .int (nI (cnt))), (3, .int (nI (t0))), (4, .int (bef)), (5, .int (nI (k)))]) hx hb dX10_readsCodes_29 hl (by decide) rfl (fun ls hl => ?_)
      refine lv_aload_n hx hb dX10_readsCodes_31 rfl (lv_at hl 3 rfl) ?_
      refine rg_X10_13 C h dX10_readsCodes_32 ?_
      refine lv_iload_n hx hb dX10_readsCodes_35 rfl (lv_at hl 4 rfl) ?_
      refine ldA 29 rfl (j := w) (show w < 40 by omega) (by decide) C h dX10_readsCodes_36 ?_
      refine tI (y := nI (wt w 1)) (hRW w hw).2.1 ?_
      refine lv_istore (lv' := [(11, .int (nI (wt w 1))), (9, .long (lN (1))), (7, .long (lN (0))), (6, .int (nI (p))), (0, .ref (zad z 27)), (1, .int (nI (w))), (2, .int (nI (cnt))), (3, .int (nI (t0))), (4, .int (bef)), (5, .int (nI (k)))]) hx hb dX10_readsCodes_37 hl (by decide) rfl (fun ls hl => ?_)
      refine lpW5 (fun (i : Nat) (lf : Nat) (acc : Nat) (wq : Nat) (p2 : Nat) (H : Heap) (locs : List Loc) (ls : Array Slot) => (i ≤ 5 ∧ i + lf ≤ 5) ∧ (acc < 256 ^ i ∧ wq ≤ 256 ^ i) ∧ (p2 ≤ n) ∧ (rdc (wt w 1) (wt w 2) t n p = (rdc lf (wt w 2) t n p2).map (fun q => (acc + wq * q.1, q.2))) ∧ hH z v (va_up sc 32 (nI (p2))) (va_up ar 36 (wrR (ar 36) t0 (xs))) s H locs ∧ lv_has ls 16 [(0, .ref (zad z 27)), (1, .int (nI (w))), (2, .int (nI (cnt))), (3, .int (nI (t0))), (4, .int (bef)), (5, .int (nI (k))), (6, .int (nI (p))), (7, .long (lN (acc))), (9, .long (lN (wq))), (11, .int (nI (lf)))]) (fun (i : Nat) (lf : Nat) (acc : Nat) (wq : Nat) (p2 : Nat) => lf) (fun i lf acc wq p2 ih_39 H locs ls hI => ?_) (0) (wt w 1) (0) (1) (p) ⟨⟨by omega, by omega⟩, ⟨Nat.one_pos, Nat.le_refl _⟩, h2, by simp, h, lv_sub hl [4, 5, 6, 7, 8, 9, 3, 2, 1, 0] rfl⟩
      obtain ⟨i1, i2, i3, i4, h, hl⟩ := hI
      have hac := pw3 i1.1 i2.1
      have htp := ht p2
      refine lv_iload hx hb dX10_readsCodes_39 (lv_at hl 9 rfl) ?_
      refine zN_le (tgt := 144) (a := lf) C (by omega) dX10_readsCodes_41 (by decide) (fun c_41 => ?_) (fun c_41 => ?_)
      · skip
        have hrd : rdc (wt w 1) (wt w 2) t n p = some (acc, p2) := by rw [i4, c_41]; simp [rdc]
        refine lv_aload_n hx hb dX10_readsCodes_144 rfl (lv_at hl 0 rfl) ?_
        refine rg_X10_19 C h dX10_readsCodes_145 ?_
        refine lv_iload_n hx hb dX10_readsCodes_148 rfl (lv_at hl 1 rfl) ?_
        refine ldA 31 rfl (j := w) (show w < 40 by omega) (by decide) C h dX10_readsCodes_149 ?_
        refine tI (y := nI (0)) ((hRW w hw).2.2.2.1.trans (by rw [hs3])) ?_
        refine lv_istore (lv' := [(12, .int (nI (0))), (0, .ref (zad z 27)), (1, .int (nI (w))), (2, .int (nI (cnt))), (3, .int (nI (t0))), (4, .int (bef)), (5, .int (nI (k))), (6, .int (nI (p))), (7, .long (lN (acc))), (9, .long (lN (wq))), (11, .int (nI (lf)))]) hx hb dX10_readsCodes_150 hl (by decide) rfl (fun ls hl => ?_)
        refine lv_iload hx hb dX10_readsCodes_152 (lv_at hl 0 rfl) ?_
        refine zN_le (tgt := 175) (a := 0) C (by decide) dX10_readsCodes_154 (by decide) (fun _ => ?_) (fun q => absurd q (by decide))
        refine lv_iconst (v := nI (0)) hx hb dX10_readsCodes_175 (by decide) ?_
        refine lv_istore (lv' := [(13, .int (nI (0))), (12, .int (nI (0))), (0, .ref (zad z 27)), (1, .int (nI (w))), (2, .int (nI (cnt))), (3, .int (nI (t0))), (4, .int (bef)), (5, .int (nI (k))), (6, .int (nI (p))), (7, .long (lN (acc))), (9, .long (lN (wq))), (11, .int (nI (lf)))]) hx hb dX10_readsCodes_176 hl (by decide) rfl (fun ls hl => ?_)
        refine lv_iload hx hb dX10_readsCodes_178 (lv_at hl 0 rfl) ?_
        refine zN_eq (tgt := 194) (a := 0) C (by decide) dX10_readsCodes_180 (by decide) (fun _ => ?_) (fun q => absurd q (by decide))
        refine lv_iload hx hb dX10_readsCodes_194 (lv_at hl 1 rfl) ?_
        refine zN_ne (tgt := 204) (a := 0) C (by decide) dX10_readsCodes_196 (by decide) (fun q => absurd q (by decide)) (fun _ => ?_)
        refine lv_lload hx hb dX10_readsCodes_199 (lv_at hl 9 rfl) ?_
        refine lv_goto (tgt := 212) hx hb dX10_readsCodes_201 (by decide) ?_
        refine lv_lstore (lv' := [(14, .long (lN (acc))), (13, .int (nI (0))), (12, .int (nI (0))), (0, .ref (zad z 27)), (1, .int (nI (w))), (2, .int (nI (cnt))), (3, .int (nI (t0))), (4, .int (bef)), (5, .int (nI (k))), (6, .int (nI (p))), (7, .long (lN (acc))), (9, .long (lN (wq))), (11, .int (nI (lf)))]) hx hb dX10_readsCodes_212 hl (by decide) rfl (fun ls hl => ?_)
        refine lv_aload_n hx hb dX10_readsCodes_214 rfl (lv_at hl 3 rfl) ?_
        refine rg_X10_171 C h dX10_readsCodes_215 ?_
        refine tI (y := nI (0)) hf0 ?_
        refine zN_ne (tgt := 246) (a := 0) C (by decide) dX10_readsCodes_218 (by decide) (fun q => absurd q (by decide)) (fun _ => ?_)
        refine lv_lload hx hb dX10_readsCodes_221 (lv_at hl 10 rfl) ?_
        refine lv_ldc2 (v := 4294967296) hx hb C.1.2.2.2.1 (C.1.2.2.2.2 _ uk_X10_133) dX10_readsCodes_223 ?_
        refine tL (y := lN 4294967296) (by decide) ?_
        refine W.lcmp hx hb dX10_readsCodes_226 ?_
        refine lv_if_ge (tgt := 239) hx hb dX10_readsCodes_227 (by decide) (fun c_227 => ?_) (fun c_227 => ?_)
        · skip
          have c_227 : (4294967296) ≤ (acc) := (pk_lLE (by omega) (by omega)).mp ((lg_cmp_ge _ _).mp c_227)
          refine lv_aload_n hx hb dX10_readsCodes_239 rfl (lv_at hl 3 rfl) ?_
          refine lv_iconst (v := nI (2)) hx hb dX10_readsCodes_240 (by decide) ?_
          refine lv_iload hx hb dX10_readsCodes_241 (lv_at hl 9 rfl) ?_
          refine backV h (runV (As := [.int (nI (2)), .int (nI (p))]) (rest := []) C h (r_fails l z v (va_up sc 32 (nI (p2))) (va_up ar 36 (wrR (ar 36) t0 (xs))) (nI 2) (nI p)) gv_X10_180 gv_X10_180_n ⟨rfl, rfl⟩ (r_Ref C h) rfl hl.1 rfl (Nat.le_of_ble_eq_true rfl) dX10_readsCodes_243 ⟨Nat.le_of_ble_eq_true rfl, Nat.le_of_ble_eq_true rfl⟩ ⟨Nat.le_of_ble_eq_true rfl, Nat.le_of_ble_eq_true rfl⟩) (fun v_243 sc_243 ar_243 H locs p_243 h => ?_)
          have h : hH z v (va_up (va_up (va_up sc 32 (nI (p2))) 33 (nI 2)) 34 (nI p)) (va_up ar 36 (wrR (ar 36) t0 (xs))) s H locs := uEq p_243 h
          refine lv_aload_n hx hb dX10_readsCodes_246 rfl (lv_at hl 3 rfl) ?_
          refine rg_X10_22 C h dX10_readsCodes_247 ?_
          refine lv_iload_n hx hb dX10_readsCodes_250 rfl (lv_at hl 4 rfl) ?_
          refine ldA 32 rfl (j := w) (show w < 40 by omega) (by decide) C h dX10_readsCodes_251 ?_
          refine tI (y := nI (wt w 4)) (hRW w hw).2.2.2.2.1 ?_
          refine lv_iconst (v := nI (1)) hx hb dX10_readsCodes_252 (by decide) ?_
          refine jN_ne (tgt := 265) (a := wt w 4) (b := 1) C (by omega) (by omega) dX10_readsCodes_253 (by decide) (fun c_253 => ?_) (fun c_253 => ?_)
          · skip
            refine lv_lload hx hb dX10_readsCodes_265 (lv_at hl 0 rfl) ?_
            refine lv_l2i (v := nI (acc)) hx hb dX10_readsCodes_267 (lN_i _) ?_
            refine lv_istore (lv' := [(4, .int (nI (acc))), (14, .long (lN (acc))), (13, .int (nI (0))), (12, .int (nI (0))), (0, .ref (zad z 27)), (1, .int (nI (w))), (2, .int (nI (cnt))), (3, .int (nI (t0))), (5, .int (nI (k))), (6, .int (nI (p))), (7, .long (lN (acc))), (9, .long (lN (wq))), (11, .int (nI (lf)))]) hx hb dX10_readsCodes_268 hl (by decide) rfl (fun ls hl => ?_)
            refine lv_aload_n hx hb dX10_readsCodes_270 rfl (lv_at hl 4 rfl) ?_
            refine rg_X10_48 C h dX10_readsCodes_271 ?_
            refine lv_iload_n hx hb dX10_readsCodes_274 rfl (lv_at hl 7 rfl) ?_
            refine lv_iload hx hb dX10_readsCodes_275 (lv_at hl 8 rfl) ?_
            refine lv_iadd hx hb dX10_readsCodes_277 ?_
            refine tI (y := nI (t0 + k)) (nI_add _ _) ?_
            refine lv_iload hx hb dX10_readsCodes_278 (lv_at hl 0 rfl) ?_
            refine stA 36 rfl (j := t0 + k) (x := nI (acc)) (show t0 + k < 40000 by omega) (by decide) C h dX10_readsCodes_280 (fun H locs h => ?_)
            refine lv_iinc (v := nI (k + 1)) (lv' := [(5, .int (nI (k + 1))), (4, .int (nI (acc))), (14, .long (lN (acc))), (13, .int (nI (0))), (12, .int (nI (0))), (0, .ref (zad z 27)), (1, .int (nI (w))), (2, .int (nI (cnt))), (3, .int (nI (t0))), (6, .int (nI (p))), (7, .long (lN (acc))), (9, .long (lN (wq))), (11, .int (nI (lf)))]) hx hb dX10_readsCodes_281 hl (k := 8) rfl (nN_inc _) (by decide) rfl (fun ls hl => ?_)
            refine lv_goto (tgt := 6) hx hb dX10_readsCodes_284 (by decide) ?_
            refine lv_iload hx hb dX10_readsCodes_6 (lv_at hl 0 rfl) ?_
            refine lv_iload_n hx hb dX10_readsCodes_8 rfl (lv_at hl 7 rfl) ?_
            refine jN_ge (tgt := 287) (a := k + 1) (b := cnt) C (by omega) (by omega) dX10_readsCodes_9 (by decide) (fun c_9 => ?_) (fun c_9 => ?_)
            · skip
              exact rV C hr hlk h dX10_readsCodes_287 (Nat.le_of_ble_eq_true rfl) (Nat.le_of_ble_eq_true rfl) (by have e : rdL (wt w 1) (wt w 2) (wt w 3) (wt w 4) t n (cnt) (nI 0) (p0) = .inr (2, p) := (by rw [h3, rdL_bad (by omega) hrd (by rw [hs3]; exact nb_hi c_227)]; rfl); show rcQ v sc ar t0 (rdL (wt w 1) (wt w 2) (wt w 3) (wt w 4) t n (cnt) (nI 0) (p0)) _; rw [e]; exact ⟨_, _, by rw [va_uu]⟩)
            · skip
              refine lv_aload_n hx hb dX10_readsCodes_12 rfl (lv_at hl 5 rfl) ?_
              refine rg_X10_171 C h dX10_readsCodes_13 ?_
              refine tI (y := nI (2)) rfl ?_
              refine zN_ne (tgt := 287) (a := 2) C (by decide) dX10_readsCodes_16 (by decide) (fun _ => ?_) (fun q => absurd q (by decide))
              exact rV C hr hlk h dX10_readsCodes_287 (Nat.le_of_ble_eq_true rfl) (Nat.le_of_ble_eq_true rfl) (by have e : rdL (wt w 1) (wt w 2) (wt w 3) (wt w 4) t n (cnt) (nI 0) (p0) = .inr (2, p) := (by rw [h3, rdL_bad (by omega) hrd (by rw [hs3]; exact nb_hi c_227)]; rfl); show rcQ v sc ar t0 (rdL (wt w 1) (wt w 2) (wt w 3) (wt w 4) t n (cnt) (nI 0) (p0)) _; rw [e]; exact ⟨_, _, by rw [va_uu]⟩)
          · skip
            refine lv_iload hx hb dX10_readsCodes_256 (lv_at hl 7 rfl) ?_
            refine lv_lload hx hb dX10_readsCodes_258 (lv_at hl 0 rfl) ?_
            refine lv_l2i (v := nI (acc)) hx hb dX10_readsCodes_260 (lN_i _) ?_
            refine lv_iadd hx hb dX10_readsCodes_261 ?_
            refine lv_goto (tgt := 268) hx hb dX10_readsCodes_262 (by decide) ?_
            refine lv_istore (lv' := [(4, .int (bef + nI (acc))), (14, .long (lN (acc))), (13, .int (nI (0))), (12, .int (nI (0))), (0, .ref (zad z 27)), (1, .int (nI (w))), (2, .int (nI (cnt))), (3, .int (nI (t0))), (5, .int (nI (k))), (6, .int (nI (p))), (7, .long (lN (acc))), (9, .long (lN (wq))), (11, .int (nI (lf)))]) hx hb dX10_readsCodes_268 hl (by decide) rfl (fun ls hl => ?_)
            refine lv_aload_n hx hb dX10_readsCodes_270 rfl (lv_at hl 4 rfl) ?_
            refine rg_X10_48 C h dX10_readsCodes_271 ?_
            refine lv_iload_n hx hb dX10_readsCodes_274 rfl (lv_at hl 7 rfl) ?_
            refine lv_iload hx hb dX10_readsCodes_275 (lv_at hl 8 rfl) ?_
            refine lv_iadd hx hb dX10_readsCodes_277 ?_
            refine tI (y := nI (t0 + k)) (nI_add _ _) ?_
            refine lv_iload hx hb dX10_readsCodes_278 (lv_at hl 0 rfl) ?_
            refine stA 36 rfl (j := t0 + k) (x := bef + nI (acc)) (show t0 + k < 40000 by omega) (by decide) C h dX10_readsCodes_280 (fun H locs h => ?_)
            refine lv_iinc (v := nI (k + 1)) (lv' := [(5, .int (nI (k + 1))), (4, .int (bef + nI (acc))), (14, .long (lN (acc))), (13, .int (nI (0))), (12, .int (nI (0))), (0, .ref (zad z 27)), (1, .int (nI (w))), (2, .int (nI (cnt))), (3, .int (nI (t0))), (6, .int (nI (p))), (7, .long (lN (acc))), (9, .long (lN (wq))), (11, .int (nI (lf)))]) hx hb dX10_readsCodes_281 hl (k := 8) rfl (nN_inc _) (by decide) rfl (fun ls hl => ?_)
            refine lv_goto (tgt := 6) hx hb dX10_readsCodes_284 (by decide) ?_
            refine lv_iload hx hb dX10_readsCodes_6 (lv_at hl 0 rfl) ?_
            refine lv_iload_n hx hb dX10_readsCodes_8 rfl (lv_at hl 7 rfl) ?_
            refine jN_ge (tgt := 287) (a := k + 1) (b := cnt) C (by omega) (by omega) dX10_readsCodes_9 (by decide) (fun c_9 => ?_) (fun c_9 => ?_)
            · skip
              exact rV C hr hlk h dX10_readsCodes_287 (Nat.le_of_ble_eq_true rfl) (Nat.le_of_ble_eq_true rfl) (by have e : rdL (wt w 1) (wt w 2) (wt w 3) (wt w 4) t n (cnt) (nI 0) (p0) = .inr (2, p) := (by rw [h3, rdL_bad (by omega) hrd (by rw [hs3]; exact nb_hi c_227)]; rfl); show rcQ v sc ar t0 (rdL (wt w 1) (wt w 2) (wt w 3) (wt w 4) t n (cnt) (nI 0) (p0)) _; rw [e]; exact ⟨_, _, by rw [va_uu]⟩)
            · skip
              refine lv_aload_n hx hb dX10_readsCodes_12 rfl (lv_at hl 5 rfl) ?_
              refine rg_X10_171 C h dX10_readsCodes_13 ?_
              refine tI (y := nI (2)) rfl ?_
              refine zN_ne (tgt := 287) (a := 2) C (by decide) dX10_readsCodes_16 (by decide) (fun _ => ?_) (fun q => absurd q (by decide))
              exact rV C hr hlk h dX10_readsCodes_287 (Nat.le_of_ble_eq_true rfl) (Nat.le_of_ble_eq_true rfl) (by have e : rdL (wt w 1) (wt w 2) (wt w 3) (wt w 4) t n (cnt) (nI 0) (p0) = .inr (2, p) := (by rw [h3, rdL_bad (by omega) hrd (by rw [hs3]; exact nb_hi c_227)]; rfl); show rcQ v sc ar t0 (rdL (wt w 1) (wt w 2) (wt w 3) (wt w 4) t n (cnt) (nI 0) (p0)) _; rw [e]; exact ⟨_, _, by rw [va_uu]⟩)
        · skip
          have c_227 : (acc) < (4294967296) := Nat.not_le.mp (fun q => c_227 ((lg_cmp_ge _ _).mpr ((pk_lLE (by omega) (by omega)).mpr q)))
          refine lv_lload hx hb dX10_readsCodes_230 (lv_at hl 0 rfl) ?_
          refine lv_ldc2 (v := 2147483648) hx hb C.1.2.2.2.1 (C.1.2.2.2.2 _ uk_X10_184) dX10_readsCodes_232 ?_
          refine tL (y := lN 2147483648) (by decide) ?_
          refine W.lcmp hx hb dX10_readsCodes_235 ?_
          refine lv_if_lt (tgt := 246) hx hb dX10_readsCodes_236 (by decide) (fun c_236 => ?_) (fun c_236 => ?_)
          · skip
            have c_236 : (acc) < (2147483648) := (pk_lLT (by omega) (by omega)).mp ((lg_cmp_lt _ _).mp c_236)
            refine lv_aload_n hx hb dX10_readsCodes_246 rfl (lv_at hl 3 rfl) ?_
            refine rg_X10_22 C h dX10_readsCodes_247 ?_
            refine lv_iload_n hx hb dX10_readsCodes_250 rfl (lv_at hl 4 rfl) ?_
            refine ldA 32 rfl (j := w) (show w < 40 by omega) (by decide) C h dX10_readsCodes_251 ?_
            refine tI (y := nI (wt w 4)) (hRW w hw).2.2.2.2.1 ?_
            refine lv_iconst (v := nI (1)) hx hb dX10_readsCodes_252 (by decide) ?_
            refine jN_ne (tgt := 265) (a := wt w 4) (b := 1) C (by omega) (by omega) dX10_readsCodes_253 (by decide) (fun c_253 => ?_) (fun c_253 => ?_)
            · skip
              refine lv_lload hx hb dX10_readsCodes_265 (lv_at hl 0 rfl) ?_
              refine lv_l2i (v := nI (acc)) hx hb dX10_readsCodes_267 (lN_i _) ?_
              refine lv_istore (lv' := [(4, .int (nI (acc))), (14, .long (lN (acc))), (13, .int (nI (0))), (12, .int (nI (0))), (0, .ref (zad z 27)), (1, .int (nI (w))), (2, .int (nI (cnt))), (3, .int (nI (t0))), (5, .int (nI (k))), (6, .int (nI (p))), (7, .long (lN (acc))), (9, .long (lN (wq))), (11, .int (nI (lf)))]) hx hb dX10_readsCodes_268 hl (by decide) rfl (fun ls hl => ?_)
              refine lv_aload_n hx hb dX10_readsCodes_270 rfl (lv_at hl 4 rfl) ?_
              refine rg_X10_48 C h dX10_readsCodes_271 ?_
              refine lv_iload_n hx hb dX10_readsCodes_274 rfl (lv_at hl 7 rfl) ?_
              refine lv_iload hx hb dX10_readsCodes_275 (lv_at hl 8 rfl) ?_
              refine lv_iadd hx hb dX10_readsCodes_277 ?_
              refine tI (y := nI (t0 + k)) (nI_add _ _) ?_
              refine lv_iload hx hb dX10_readsCodes_278 (lv_at hl 0 rfl) ?_
              refine stA 36 rfl (j := t0 + k) (x := nI (acc)) (show t0 + k < 40000 by omega) (by decide) C h dX10_readsCodes_280 (fun H locs h => ?_)
              have h := rr_put (by omega) h
              have h : hH z v (va_up sc 32 (nI (p2))) (va_up ar 36 (wrR (ar 36) t0 (xs ++ [nI (acc)]))) s H locs := h
              refine lv_iinc (v := nI (k + 1)) (lv' := [(5, .int (nI (k + 1))), (4, .int (nI (acc))), (14, .long (lN (acc))), (13, .int (nI (0))), (12, .int (nI (0))), (0, .ref (zad z 27)), (1, .int (nI (w))), (2, .int (nI (cnt))), (3, .int (nI (t0))), (6, .int (nI (p))), (7, .long (lN (acc))), (9, .long (lN (wq))), (11, .int (nI (lf)))]) hx hb dX10_readsCodes_281 hl (k := 8) rfl (nN_inc _) (by decide) rfl (fun ls hl => ?_)
              refine lv_goto (tgt := 6) hx hb dX10_readsCodes_284 (by decide) ?_
              exact ih_6 (k + 1) (nI (acc)) (p2) (xs ++ [nI (acc)]) (by omega) H locs ls ⟨by omega, by simp; omega, by omega, by rw [h3, rdL_ok (i := (acc : Int)) (by omega) hrd (by rw [hs3]; exact (nb_0 c_227).trans (if_pos c_236)), ← (show nI (acc) = if (wt w 4) = 1 then bef + Int32.ofInt (acc : Int) else Int32.ofInt (acc : Int) by rw [if_neg c_253, ← (i2n (X := acc) (by omega)).symm]), rdPre_app, show cnt - k - 1 = cnt - (k + 1) by omega], h, lv_sub hl [5, 6, 7, 8, 1, 0] rfl⟩
            · skip
              refine lv_iload hx hb dX10_readsCodes_256 (lv_at hl 7 rfl) ?_
              refine lv_lload hx hb dX10_readsCodes_258 (lv_at hl 0 rfl) ?_
              refine lv_l2i (v := nI (acc)) hx hb dX10_readsCodes_260 (lN_i _) ?_
              refine lv_iadd hx hb dX10_readsCodes_261 ?_
              refine lv_goto (tgt := 268) hx hb dX10_readsCodes_262 (by decide) ?_
              refine lv_istore (lv' := [(4, .int (bef + nI (acc))), (14, .long (lN (acc))), (13, .int (nI (0))), (12, .int (nI (0))), (0, .ref (zad z 27)), (1, .int (nI (w))), (2, .int (nI (cnt))), (3, .int (nI (t0))), (5, .int (nI (k))), (6, .int (nI (p))), (7, .long (lN (acc))), (9, .long (lN (wq))), (11, .int (nI (lf)))]) hx hb dX10_readsCodes_268 hl (by decide) rfl (fun ls hl => ?_)
              refine lv_aload_n hx hb dX10_readsCodes_270 rfl (lv_at hl 4 rfl) ?_
              refine rg_X10_48 C h dX10_readsCodes_271 ?_
              refine lv_iload_n hx hb dX10_readsCodes_274 rfl (lv_at hl 7 rfl) ?_
              refine lv_iload hx hb dX10_readsCodes_275 (lv_at hl 8 rfl) ?_
              refine lv_iadd hx hb dX10_readsCodes_277 ?_
              refine tI (y := nI (t0 + k)) (nI_add _ _) ?_
              refine lv_iload hx hb dX10_readsCodes_278 (lv_at hl 0 rfl) ?_
              refine stA 36 rfl (j := t0 + k) (x := bef + nI (acc)) (show t0 + k < 40000 by omega) (by decide) C h dX10_readsCodes_280 (fun H locs h => ?_)
              have h := rr_put (by omega) h
              have h : hH z v (va_up sc 32 (nI (p2))) (va_up ar 36 (wrR (ar 36) t0 (xs ++ [bef + nI (acc)]))) s H locs := h
              refine lv_iinc (v := nI (k + 1)) (lv' := [(5, .int (nI (k + 1))), (4, .int (bef + nI (acc))), (14, .long (lN (acc))), (13, .int (nI (0))), (12, .int (nI (0))), (0, .ref (zad z 27)), (1, .int (nI (w))), (2, .int (nI (cnt))), (3, .int (nI (t0))), (6, .int (nI (p))), (7, .long (lN (acc))), (9, .long (lN (wq))), (11, .int (nI (lf)))]) hx hb dX10_readsCodes_281 hl (k := 8) rfl (nN_inc _) (by decide) rfl (fun ls hl => ?_)
              refine lv_goto (tgt := 6) hx hb dX10_readsCodes_284 (by decide) ?_
              exact ih_6 (k + 1) (bef + nI (acc)) (p2) (xs ++ [bef + nI (acc)]) (by omega) H locs ls ⟨by omega, by simp; omega, by omega, by rw [h3, rdL_ok (i := (acc : Int)) (by omega) hrd (by rw [hs3]; exact (nb_0 c_227).trans (if_pos c_236)), ← (show bef + nI (acc) = if (wt w 4) = 1 then bef + Int32.ofInt (acc : Int) else Int32.ofInt (acc : Int) by rw [if_pos c_253, ← (i2n (X := acc) (by omega)).symm]), rdPre_app, show cnt - k - 1 = cnt - (k + 1) by omega], h, lv_sub hl [5, 6, 7, 8, 1, 0] rfl⟩
          · skip
            have c_236 : (2147483648) ≤ (acc) := Nat.not_lt.mp (fun q => c_236 ((lg_cmp_lt _ _).mpr ((pk_lLT (by omega) (by omega)).mpr q)))
            refine lv_aload_n hx hb dX10_readsCodes_239 rfl (lv_at hl 3 rfl) ?_
            refine lv_iconst (v := nI (2)) hx hb dX10_readsCodes_240 (by decide) ?_
            refine lv_iload hx hb dX10_readsCodes_241 (lv_at hl 9 rfl) ?_
            refine backV h (runV (As := [.int (nI (2)), .int (nI (p))]) (rest := []) C h (r_fails l z v (va_up sc 32 (nI (p2))) (va_up ar 36 (wrR (ar 36) t0 (xs))) (nI 2) (nI p)) gv_X10_180 gv_X10_180_n ⟨rfl, rfl⟩ (r_Ref C h) rfl hl.1 rfl (Nat.le_of_ble_eq_true rfl) dX10_readsCodes_243 ⟨Nat.le_of_ble_eq_true rfl, Nat.le_of_ble_eq_true rfl⟩ ⟨Nat.le_of_ble_eq_true rfl, Nat.le_of_ble_eq_true rfl⟩) (fun v_243 sc_243 ar_243 H locs p_243 h => ?_)
            have h : hH z v (va_up (va_up (va_up sc 32 (nI (p2))) 33 (nI 2)) 34 (nI p)) (va_up ar 36 (wrR (ar 36) t0 (xs))) s H locs := uEq p_243 h
            refine lv_aload_n hx hb dX10_readsCodes_246 rfl (lv_at hl 3 rfl) ?_
            refine rg_X10_22 C h dX10_readsCodes_247 ?_
            refine lv_iload_n hx hb dX10_readsCodes_250 rfl (lv_at hl 4 rfl) ?_
            refine ldA 32 rfl (j := w) (show w < 40 by omega) (by decide) C h dX10_readsCodes_251 ?_
            refine tI (y := nI (wt w 4)) (hRW w hw).2.2.2.2.1 ?_
            refine lv_iconst (v := nI (1)) hx hb dX10_readsCodes_252 (by decide) ?_
            refine jN_ne (tgt := 265) (a := wt w 4) (b := 1) C (by omega) (by omega) dX10_readsCodes_253 (by decide) (fun c_253 => ?_) (fun c_253 => ?_)
            · skip
              refine lv_lload hx hb dX10_readsCodes_265 (lv_at hl 0 rfl) ?_
              refine lv_l2i (v := nI (acc)) hx hb dX10_readsCodes_267 (lN_i _) ?_
              refine lv_istore (lv' := [(4, .int (nI (acc))), (14, .long (lN (acc))), (13, .int (nI (0))), (12, .int (nI (0))), (0, .ref (zad z 27)), (1, .int (nI (w))), (2, .int (nI (cnt))), (3, .int (nI (t0))), (5, .int (nI (k))), (6, .int (nI (p))), (7, .long (lN (acc))), (9, .long (lN (wq))), (11, .int (nI (lf)))]) hx hb dX10_readsCodes_268 hl (by decide) rfl (fun ls hl => ?_)
              refine lv_aload_n hx hb dX10_readsCodes_270 rfl (lv_at hl 4 rfl) ?_
              refine rg_X10_48 C h dX10_readsCodes_271 ?_
              refine lv_iload_n hx hb dX10_readsCodes_274 rfl (lv_at hl 7 rfl) ?_
              refine lv_iload hx hb dX10_readsCodes_275 (lv_at hl 8 rfl) ?_
              refine lv_iadd hx hb dX10_readsCodes_277 ?_
              refine tI (y := nI (t0 + k)) (nI_add _ _) ?_
              refine lv_iload hx hb dX10_readsCodes_278 (lv_at hl 0 rfl) ?_
              refine stA 36 rfl (j := t0 + k) (x := nI (acc)) (show t0 + k < 40000 by omega) (by decide) C h dX10_readsCodes_280 (fun H locs h => ?_)
              refine lv_iinc (v := nI (k + 1)) (lv' := [(5, .int (nI (k + 1))), (4, .int (nI (acc))), (14, .long (lN (acc))), (13, .int (nI (0))), (12, .int (nI (0))), (0, .ref (zad z 27)), (1, .int (nI (w))), (2, .int (nI (cnt))), (3, .int (nI (t0))), (6, .int (nI (p))), (7, .long (lN (acc))), (9, .long (lN (wq))), (11, .int (nI (lf)))]) hx hb dX10_readsCodes_281 hl (k := 8) rfl (nN_inc _) (by decide) rfl (fun ls hl => ?_)
              refine lv_goto (tgt := 6) hx hb dX10_readsCodes_284 (by decide) ?_
              refine lv_iload hx hb dX10_readsCodes_6 (lv_at hl 0 rfl) ?_
              refine lv_iload_n hx hb dX10_readsCodes_8 rfl (lv_at hl 7 rfl) ?_
              refine jN_ge (tgt := 287) (a := k + 1) (b := cnt) C (by omega) (by omega) dX10_readsCodes_9 (by decide) (fun c_9 => ?_) (fun c_9 => ?_)
              · skip
                exact rV C hr hlk h dX10_readsCodes_287 (Nat.le_of_ble_eq_true rfl) (Nat.le_of_ble_eq_true rfl) (by have e : rdL (wt w 1) (wt w 2) (wt w 3) (wt w 4) t n (cnt) (nI 0) (p0) = .inr (2, p) := (by rw [h3, rdL_bad (by omega) hrd (by rw [hs3]; exact (nb_0 c_227).trans (if_neg (by omega)))]; rfl); show rcQ v sc ar t0 (rdL (wt w 1) (wt w 2) (wt w 3) (wt w 4) t n (cnt) (nI 0) (p0)) _; rw [e]; exact ⟨_, _, by rw [va_uu]⟩)
              · skip
                refine lv_aload_n hx hb dX10_readsCodes_12 rfl (lv_at hl 5 rfl) ?_
                refine rg_X10_171 C h dX10_readsCodes_13 ?_
                refine tI (y := nI (2)) rfl ?_
                refine zN_ne (tgt := 287) (a := 2) C (by decide) dX10_readsCodes_16 (by decide) (fun _ => ?_) (fun q => absurd q (by decide))
                exact rV C hr hlk h dX10_readsCodes_287 (Nat.le_of_ble_eq_true rfl) (Nat.le_of_ble_eq_true rfl) (by have e : rdL (wt w 1) (wt w 2) (wt w 3) (wt w 4) t n (cnt) (nI 0) (p0) = .inr (2, p) := (by rw [h3, rdL_bad (by omega) hrd (by rw [hs3]; exact (nb_0 c_227).trans (if_neg (by omega)))]; rfl); show rcQ v sc ar t0 (rdL (wt w 1) (wt w 2) (wt w 3) (wt w 4) t n (cnt) (nI 0) (p0)) _; rw [e]; exact ⟨_, _, by rw [va_uu]⟩)
            · skip
              refine lv_iload hx hb dX10_readsCodes_256 (lv_at hl 7 rfl) ?_
              refine lv_lload hx hb dX10_readsCodes_258 (lv_at hl 0 rfl) ?_
              refine lv_l2i (v := nI (acc)) hx hb dX10_readsCodes_260 (lN_i _) ?_
              refine lv_iadd hx hb dX10_readsCodes_261 ?_
              refine lv_goto (tgt := 268) hx hb dX10_readsCodes_262 (by decide) ?_
              refine lv_istore (lv' := [(4, .int (bef + nI (acc))), (14, .long (lN (acc))), (13, .int (nI (0))), (12, .int (nI (0))), (0, .ref (zad z 27)), (1, .int (nI (w))), (2, .int (nI (cnt))), (3, .int (nI (t0))), (5, .int (nI (k))), (6, .int (nI (p))), (7, .long (lN (acc))), (9, .long (lN (wq))), (11, .int (nI (lf)))]) hx hb dX10_readsCodes_268 hl (by decide) rfl (fun ls hl => ?_)
              refine lv_aload_n hx hb dX10_readsCodes_270 rfl (lv_at hl 4 rfl) ?_
              refine rg_X10_48 C h dX10_readsCodes_271 ?_
              refine lv_iload_n hx hb dX10_readsCodes_274 rfl (lv_at hl 7 rfl) ?_
              refine lv_iload hx hb dX10_readsCodes_275 (lv_at hl 8 rfl) ?_
              refine lv_iadd hx hb dX10_readsCodes_277 ?_
              refine tI (y := nI (t0 + k)) (nI_add _ _) ?_
              refine lv_iload hx hb dX10_readsCodes_278 (lv_at hl 0 rfl) ?_
              refine stA 36 rfl (j := t0 + k) (x := bef + nI (acc)) (show t0 + k < 40000 by omega) (by decide) C h dX10_readsCodes_280 (fun H locs h => ?_)
              refine lv_iinc (v := nI (k + 1)) (lv' := [(5, .int (nI (k + 1))), (4, .int (bef + nI (acc))), (14, .long (lN (acc))), (13, .int (nI (0))), (12, .int (nI (0))), (0, .ref (zad z 27)), (1, .int (nI (w))), (2, .int (nI (cnt))), (3, .int (nI (t0))), (6, .int (nI (p))), (7, .long (lN (acc))), (9, .long (lN (wq))), (11, .int (nI (lf)))]) hx hb dX10_readsCodes_281 hl (k := 8) rfl (nN_inc _) (by decide) rfl (fun ls hl => ?_)
              refine lv_goto (tgt := 6) hx hb dX10_readsCodes_284 (by decide) ?_
              refine lv_iload hx hb dX10_readsCodes_6 (lv_at hl 0 rfl) ?_
              refine lv_iload_n hx hb dX10_readsCodes_8 rfl (lv_at hl 7 rfl) ?_
              refine jN_ge (tgt := 287) (a := k + 1) (b := cnt) C (by omega) (by omega) dX10_readsCodes_9 (by decide) (fun c_9 => ?_) (fun c_9 => ?_)
              · skip
                exact rV C hr hlk h dX10_readsCodes_287 (Nat.le_of_ble_eq_true rfl) (Nat.le_of_ble_eq_true rfl) (by have e : rdL (wt w 1) (wt w 2) (wt w 3) (wt w 4) t n (cnt) (nI 0) (p0) = .inr (2, p) := (by rw [h3, rdL_bad (by omega) hrd (by rw [hs3]; exact (nb_0 c_227).trans (if_neg (by omega)))]; rfl); show rcQ v sc ar t0 (rdL (wt w 1) (wt w 2) (wt w 3) (wt w 4) t n (cnt) (nI 0) (p0)) _; rw [e]; exact ⟨_, _, by rw [va_uu]⟩)
              · skip
                refine lv_aload_n hx hb dX10_readsCodes_12 rfl (lv_at hl 5 rfl) ?_
                refine rg_X10_171 C h dX10_readsCodes_13 ?_
                refine tI (y := nI (2)) rfl ?_
                refine zN_ne (tgt := 287) (a := 2) C (by decide) dX10_readsCodes_16 (by decide) (fun _ => ?_) (fun q => absurd q (by decide))
                exact rV C hr hlk h dX10_readsCodes_287 (Nat.le_of_ble_eq_true rfl) (Nat.le_of_ble_eq_true rfl) (by have e : rdL (wt w 1) (wt w 2) (wt w 3) (wt w 4) t n (cnt) (nI 0) (p0) = .inr (2, p) := (by rw [h3, rdL_bad (by omega) hrd (by rw [hs3]; exact (nb_0 c_227).trans (if_neg (by omega)))]; rfl); show rcQ v sc ar t0 (rdL (wt w 1) (wt w 2) (wt w 3) (wt w 4) t n (cnt) (nI 0) (p0)) _; rw [e]; exact ⟨_, _, by rw [va_uu]⟩)
      · skip
        refine lv_aload_n hx hb dX10_readsCodes_44 rfl (lv_at hl 0 rfl) ?_
        refine rg_X10_171 C h dX10_readsCodes_45 ?_
        refine tI (y := nI (0)) hf0 ?_
        refine zN_ne (tgt := 144) (a := 0) C (by decide) dX10_readsCodes_48 (by decide) (fun q => absurd q (by decide)) (fun _ => ?_)
        refine lv_aload_n hx hb dX10_readsCodes_51 rfl (lv_at hl 0 rfl) ?_
        refine rg_X10_177 C h dX10_readsCodes_52 ?_
        refine tI (y := nI (p2)) rfl ?_
        refine lv_aload_n hx hb dX10_readsCodes_55 rfl (lv_at hl 0 rfl) ?_
        refine rg_X10_168 C h dX10_readsCodes_56 ?_
        refine tI (y := nI (n)) hn ?_
        refine jN_ne (tgt := 72) (a := p2) (b := n) C (by omega) (by omega) dX10_readsCodes_59 (by decide) (fun c_59 => ?_) (fun c_59 => ?_)
        · skip
          refine lv_aload_n hx hb dX10_readsCodes_72 rfl (lv_at hl 0 rfl) ?_
          refine rg_X10_31 C h dX10_readsCodes_73 ?_
          refine lv_aload_n hx hb dX10_readsCodes_76 rfl (lv_at hl 0 rfl) ?_
          refine rg_X10_177 C h dX10_readsCodes_77 ?_
          refine tI (y := nI (p2)) rfl ?_
          refine ldA 35 rfl (j := p2) (show p2 < 8000 by omega) (by decide) C h dX10_readsCodes_80 ?_
          refine tI (y := nI (t p2)) (hT p2 (by omega)) ?_
          refine lv_istore (lv' := [(12, .int (nI (t p2))), (0, .ref (zad z 27)), (1, .int (nI (w))), (2, .int (nI (cnt))), (3, .int (nI (t0))), (4, .int (bef)), (5, .int (nI (k))), (6, .int (nI (p))), (7, .long (lN (acc))), (9, .long (lN (wq))), (11, .int (nI (lf)))]) hx hb dX10_readsCodes_81 hl (by decide) rfl (fun ls hl => ?_)
          refine lv_aload_n hx hb dX10_readsCodes_83 rfl (lv_at hl 1 rfl) ?_
          refine lv_dup hx hb dX10_readsCodes_84 rfl ?_
          refine rg_X10_177 C h dX10_readsCodes_85 ?_
          refine tI (y := nI (p2)) rfl ?_
          refine lv_iconst (v := nI (1)) hx hb dX10_readsCodes_88 (by decide) ?_
          refine lv_iadd hx hb dX10_readsCodes_89 ?_
          refine tI (y := nI (p2 + 1)) (nI_add _ _) ?_
          refine rp_X10_177 C h dX10_readsCodes_90 (fun H locs h => ?_)
          rw [va_uu] at h
          have h : hH z v (va_up sc 32 (nI (p2 + 1))) (va_up ar 36 (wrR (ar 36) t0 (xs))) s H locs := h
          refine lv_lload hx hb dX10_readsCodes_93 (lv_at hl 8 rfl) ?_
          refine lv_iload hx hb dX10_readsCodes_95 (lv_at hl 0 rfl) ?_
          refine lv_i2l (v := lN (t p2)) hx hb dX10_readsCodes_97 (nI_l (by omega)) ?_
          refine lv_lload hx hb dX10_readsCodes_98 (lv_at hl 9 rfl) ?_
          refine lv_lmul hx hb dX10_readsCodes_100 ?_
          refine tL (y := lN (t p2 * wq)) (lN_mul _ _) ?_
          refine lv_ladd hx hb dX10_readsCodes_101 ?_
          refine tL (y := lN (acc + t p2 * wq)) (lN_add _ _) ?_
          refine lv_lstore (lv' := [(7, .long (lN (acc + t p2 * wq))), (12, .int (nI (t p2))), (0, .ref (zad z 27)), (1, .int (nI (w))), (2, .int (nI (cnt))), (3, .int (nI (t0))), (4, .int (bef)), (5, .int (nI (k))), (6, .int (nI (p))), (9, .long (lN (wq))), (11, .int (nI (lf)))]) hx hb dX10_readsCodes_102 hl (by decide) rfl (fun ls hl => ?_)
          refine lv_lload hx hb dX10_readsCodes_104 (lv_at hl 9 rfl) ?_
          refine lv_aload_n hx hb dX10_readsCodes_106 rfl (lv_at hl 2 rfl) ?_
          refine rg_X10_16 C h dX10_readsCodes_107 ?_
          refine lv_iload_n hx hb dX10_readsCodes_110 rfl (lv_at hl 3 rfl) ?_
          refine ldA 30 rfl (j := w) (show w < 40 by omega) (by decide) C h dX10_readsCodes_111 ?_
          refine tI (y := nI (wt w 2)) (hRW w hw).2.2.1 ?_
          refine lv_i2l (v := lN (wt w 2)) hx hb dX10_readsCodes_112 (nI_l (by omega)) ?_
          refine lv_lmul hx hb dX10_readsCodes_113 ?_
          refine tL (y := lN (wq * wt w 2)) (lN_mul _ _) ?_
          refine lv_lstore (lv' := [(9, .long (lN (wq * wt w 2))), (7, .long (lN (acc + t p2 * wq))), (12, .int (nI (t p2))), (0, .ref (zad z 27)), (1, .int (nI (w))), (2, .int (nI (cnt))), (3, .int (nI (t0))), (4, .int (bef)), (5, .int (nI (k))), (6, .int (nI (p))), (11, .int (nI (lf)))]) hx hb dX10_readsCodes_114 hl (by decide) rfl (fun ls hl => ?_)
          refine lv_iload hx hb dX10_readsCodes_116 (lv_at hl 2 rfl) ?_
          refine lv_sipush (v := nI (256)) hx hb dX10_readsCodes_118 (by decide) ?_
          refine lv_aload_n hx hb dX10_readsCodes_121 rfl (lv_at hl 3 rfl) ?_
          refine rg_X10_16 C h dX10_readsCodes_122 ?_
          refine lv_iload_n hx hb dX10_readsCodes_125 rfl (lv_at hl 4 rfl) ?_
          refine ldA 30 rfl (j := w) (show w < 40 by omega) (by decide) C h dX10_readsCodes_126 ?_
          refine tI (y := nI (wt w 2)) (hRW w hw).2.2.1 ?_
          refine lv_isub hx hb dX10_readsCodes_127 ?_
          refine tI (y := nI (256 - wt w 2)) (pk_sub (by omega)) ?_
          refine jN_ge (tgt := 135) (a := t p2) (b := 256 - wt w 2) C (by omega) (by omega) dX10_readsCodes_128 (by decide) (fun c_128 => ?_) (fun c_128 => ?_)
          · skip
            refine lv_iload hx hb dX10_readsCodes_135 (lv_at hl 10 rfl) ?_
            refine lv_iconst (v := nI (1)) hx hb dX10_readsCodes_137 (by decide) ?_
            refine lv_isub hx hb dX10_readsCodes_138 ?_
            refine tI (y := nI (lf - 1)) (pk_sub (by omega)) ?_
            refine lv_istore (lv' := [(11, .int (nI (lf - 1))), (9, .long (lN (wq * wt w 2))), (7, .long (lN (acc + t p2 * wq))), (12, .int (nI (t p2))), (0, .ref (zad z 27)), (1, .int (nI (w))), (2, .int (nI (cnt))), (3, .int (nI (t0))), (4, .int (bef)), (5, .int (nI (k))), (6, .int (nI (p)))]) hx hb dX10_readsCodes_139 hl (by decide) rfl (fun ls hl => ?_)
            refine lv_goto (tgt := 39) hx hb dX10_readsCodes_141 (by decide) ?_
            exact ih_39 (i + 1) (lf - 1) (acc + t p2 * wq) (wq * wt w 2) (p2 + 1) (by omega) H locs ls ⟨⟨by omega, by omega⟩, ⟨pw1 i2.1 (ht p2) i2.2, pw2 i2.2 hH2⟩, by omega, by rw [i4, rdc_hi (by omega) (by omega) c_128, Option.map_map]; congr 1; funext q; simp only [Function.comp, Nat.mul_add, Nat.mul_comm, Nat.mul_left_comm, Nat.add_assoc], h, lv_sub hl [4, 5, 6, 7, 8, 9, 10, 2, 1, 0] rfl⟩
          · skip
            refine lv_iconst (v := nI (0)) hx hb dX10_readsCodes_131 (by decide) ?_
            refine lv_goto (tgt := 139) hx hb dX10_readsCodes_132 (by decide) ?_
            refine lv_istore (lv' := [(11, .int (nI (0))), (9, .long (lN (wq * wt w 2))), (7, .long (lN (acc + t p2 * wq))), (12, .int (nI (t p2))), (0, .ref (zad z 27)), (1, .int (nI (w))), (2, .int (nI (cnt))), (3, .int (nI (t0))), (4, .int (bef)), (5, .int (nI (k))), (6, .int (nI (p)))]) hx hb dX10_readsCodes_139 hl (by decide) rfl (fun ls hl => ?_)
            refine lv_goto (tgt := 39) hx hb dX10_readsCodes_141 (by decide) ?_
            exact ih_39 (i + 1) (0) (acc + t p2 * wq) (wq * wt w 2) (p2 + 1) (by omega) H locs ls ⟨⟨by omega, by omega⟩, ⟨pw1 i2.1 (ht p2) i2.2, pw2 i2.2 hH2⟩, by omega, by rw [i4, rdc_lo (by omega) (by omega) c_128]; simp [rdc, Nat.mul_comm], h, lv_sub hl [4, 5, 6, 7, 8, 9, 10, 2, 1, 0] rfl⟩
        · skip
          have hrd : rdc (wt w 1) (wt w 2) t n p = none := by rw [i4, rdc_end (by omega) (by omega)]; rfl
          refine lv_aload_n hx hb dX10_readsCodes_62 rfl (lv_at hl 0 rfl) ?_
          refine lv_iconst (v := nI (1)) hx hb dX10_readsCodes_63 (by decide) ?_
          refine lv_iload hx hb dX10_readsCodes_64 (lv_at hl 6 rfl) ?_
          refine backV h (runV (As := [.int (nI (1)), .int (nI (p))]) (rest := []) C h (r_fails l z v (va_up sc 32 (nI (p2))) (va_up ar 36 (wrR (ar 36) t0 (xs))) (nI 1) (nI p)) gv_X10_180 gv_X10_180_n ⟨rfl, rfl⟩ (r_Ref C h) rfl hl.1 rfl (Nat.le_of_ble_eq_true rfl) dX10_readsCodes_66 ⟨Nat.le_of_ble_eq_true rfl, Nat.le_of_ble_eq_true rfl⟩ ⟨Nat.le_of_ble_eq_true rfl, Nat.le_of_ble_eq_true rfl⟩) (fun v_66 sc_66 ar_66 H locs p_66 h => ?_)
          have h : hH z v (va_up (va_up (va_up sc 32 (nI (p2))) 33 (nI 1)) 34 (nI p)) (va_up ar 36 (wrR (ar 36) t0 (xs))) s H locs := uEq p_66 h
          refine lv_goto (tgt := 39) hx hb dX10_readsCodes_69 (by decide) ?_
          refine lv_iload hx hb dX10_readsCodes_39 (lv_at hl 9 rfl) ?_
          refine zN_le (tgt := 144) (a := lf) C (by omega) dX10_readsCodes_41 (by decide) (fun c_41 => ?_) (fun c_41 => ?_)
          · skip
            omega
          · skip
            refine lv_aload_n hx hb dX10_readsCodes_44 rfl (lv_at hl 0 rfl) ?_
            refine rg_X10_171 C h dX10_readsCodes_45 ?_
            refine tI (y := nI (1)) rfl ?_
            refine zN_ne (tgt := 144) (a := 1) C (by decide) dX10_readsCodes_48 (by decide) (fun _ => ?_) (fun q => absurd q (by decide))
            refine lv_aload_n hx hb dX10_readsCodes_144 rfl (lv_at hl 0 rfl) ?_
            refine rg_X10_19 C h dX10_readsCodes_145 ?_
            refine lv_iload_n hx hb dX10_readsCodes_148 rfl (lv_at hl 1 rfl) ?_
            refine ldA 31 rfl (j := w) (show w < 40 by omega) (by decide) C h dX10_readsCodes_149 ?_
            refine tI (y := nI (0)) ((hRW w hw).2.2.2.1.trans (by rw [hs3])) ?_
            refine lv_istore (lv' := [(12, .int (nI (0))), (0, .ref (zad z 27)), (1, .int (nI (w))), (2, .int (nI (cnt))), (3, .int (nI (t0))), (4, .int (bef)), (5, .int (nI (k))), (6, .int (nI (p))), (7, .long (lN (acc))), (9, .long (lN (wq))), (11, .int (nI (lf)))]) hx hb dX10_readsCodes_150 hl (by decide) rfl (fun ls hl => ?_)
            refine lv_iload hx hb dX10_readsCodes_152 (lv_at hl 0 rfl) ?_
            refine zN_le (tgt := 175) (a := 0) C (by decide) dX10_readsCodes_154 (by decide) (fun _ => ?_) (fun q => absurd q (by decide))
            refine lv_iconst (v := nI (0)) hx hb dX10_readsCodes_175 (by decide) ?_
            refine lv_istore (lv' := [(13, .int (nI (0))), (12, .int (nI (0))), (0, .ref (zad z 27)), (1, .int (nI (w))), (2, .int (nI (cnt))), (3, .int (nI (t0))), (4, .int (bef)), (5, .int (nI (k))), (6, .int (nI (p))), (7, .long (lN (acc))), (9, .long (lN (wq))), (11, .int (nI (lf)))]) hx hb dX10_readsCodes_176 hl (by decide) rfl (fun ls hl => ?_)
            refine lv_iload hx hb dX10_readsCodes_178 (lv_at hl 0 rfl) ?_
            refine zN_eq (tgt := 194) (a := 0) C (by decide) dX10_readsCodes_180 (by decide) (fun _ => ?_) (fun q => absurd q (by decide))
            refine lv_iload hx hb dX10_readsCodes_194 (lv_at hl 1 rfl) ?_
            refine zN_ne (tgt := 204) (a := 0) C (by decide) dX10_readsCodes_196 (by decide) (fun q => absurd q (by decide)) (fun _ => ?_)
            refine lv_lload hx hb dX10_readsCodes_199 (lv_at hl 9 rfl) ?_
            refine lv_goto (tgt := 212) hx hb dX10_readsCodes_201 (by decide) ?_
            refine lv_lstore (lv' := [(14, .long (lN (acc))), (13, .int (nI (0))), (12, .int (nI (0))), (0, .ref (zad z 27)), (1, .int (nI (w))), (2, .int (nI (cnt))), (3, .int (nI (t0))), (4, .int (bef)), (5, .int (nI (k))), (6, .int (nI (p))), (7, .long (lN (acc))), (9, .long (lN (wq))), (11, .int (nI (lf)))]) hx hb dX10_readsCodes_212 hl (by decide) rfl (fun ls hl => ?_)
            refine lv_aload_n hx hb dX10_readsCodes_214 rfl (lv_at hl 3 rfl) ?_
            refine rg_X10_171 C h dX10_readsCodes_215 ?_
            refine tI (y := nI (1)) rfl ?_
            refine zN_ne (tgt := 246) (a := 1) C (by decide) dX10_readsCodes_218 (by decide) (fun _ => ?_) (fun q => absurd q (by decide))
            refine lv_aload_n hx hb dX10_readsCodes_246 rfl (lv_at hl 3 rfl) ?_
            refine rg_X10_22 C h dX10_readsCodes_247 ?_
            refine lv_iload_n hx hb dX10_readsCodes_250 rfl (lv_at hl 4 rfl) ?_
            refine ldA 32 rfl (j := w) (show w < 40 by omega) (by decide) C h dX10_readsCodes_251 ?_
            refine tI (y := nI (wt w 4)) (hRW w hw).2.2.2.2.1 ?_
            refine lv_iconst (v := nI (1)) hx hb dX10_readsCodes_252 (by decide) ?_
            refine jN_ne (tgt := 265) (a := wt w 4) (b := 1) C (by omega) (by omega) dX10_readsCodes_253 (by decide) (fun c_253 => ?_) (fun c_253 => ?_)
            · skip
              refine lv_lload hx hb dX10_readsCodes_265 (lv_at hl 0 rfl) ?_
              refine lv_l2i (v := nI (acc)) hx hb dX10_readsCodes_267 (lN_i _) ?_
              refine lv_istore (lv' := [(4, .int (nI (acc))), (14, .long (lN (acc))), (13, .int (nI (0))), (12, .int (nI (0))), (0, .ref (zad z 27)), (1, .int (nI (w))), (2, .int (nI (cnt))), (3, .int (nI (t0))), (5, .int (nI (k))), (6, .int (nI (p))), (7, .long (lN (acc))), (9, .long (lN (wq))), (11, .int (nI (lf)))]) hx hb dX10_readsCodes_268 hl (by decide) rfl (fun ls hl => ?_)
              refine lv_aload_n hx hb dX10_readsCodes_270 rfl (lv_at hl 4 rfl) ?_
              refine rg_X10_48 C h dX10_readsCodes_271 ?_
              refine lv_iload_n hx hb dX10_readsCodes_274 rfl (lv_at hl 7 rfl) ?_
              refine lv_iload hx hb dX10_readsCodes_275 (lv_at hl 8 rfl) ?_
              refine lv_iadd hx hb dX10_readsCodes_277 ?_
              refine tI (y := nI (t0 + k)) (nI_add _ _) ?_
              refine lv_iload hx hb dX10_readsCodes_278 (lv_at hl 0 rfl) ?_
              refine stA 36 rfl (j := t0 + k) (x := nI (acc)) (show t0 + k < 40000 by omega) (by decide) C h dX10_readsCodes_280 (fun H locs h => ?_)
              refine lv_iinc (v := nI (k + 1)) (lv' := [(5, .int (nI (k + 1))), (4, .int (nI (acc))), (14, .long (lN (acc))), (13, .int (nI (0))), (12, .int (nI (0))), (0, .ref (zad z 27)), (1, .int (nI (w))), (2, .int (nI (cnt))), (3, .int (nI (t0))), (6, .int (nI (p))), (7, .long (lN (acc))), (9, .long (lN (wq))), (11, .int (nI (lf)))]) hx hb dX10_readsCodes_281 hl (k := 8) rfl (nN_inc _) (by decide) rfl (fun ls hl => ?_)
              refine lv_goto (tgt := 6) hx hb dX10_readsCodes_284 (by decide) ?_
              refine lv_iload hx hb dX10_readsCodes_6 (lv_at hl 0 rfl) ?_
              refine lv_iload_n hx hb dX10_readsCodes_8 rfl (lv_at hl 7 rfl) ?_
              refine jN_ge (tgt := 287) (a := k + 1) (b := cnt) C (by omega) (by omega) dX10_readsCodes_9 (by decide) (fun c_9 => ?_) (fun c_9 => ?_)
              · skip
                exact rV C hr hlk h dX10_readsCodes_287 (Nat.le_of_ble_eq_true rfl) (Nat.le_of_ble_eq_true rfl) (by have e : rdL (wt w 1) (wt w 2) (wt w 3) (wt w 4) t n (cnt) (nI 0) (p0) = .inr (1, p) := (by rw [h3, rdL_none (by omega) hrd]; rfl); show rcQ v sc ar t0 (rdL (wt w 1) (wt w 2) (wt w 3) (wt w 4) t n (cnt) (nI 0) (p0)) _; rw [e]; exact ⟨_, _, by rw [va_uu]⟩)
              · skip
                refine lv_aload_n hx hb dX10_readsCodes_12 rfl (lv_at hl 5 rfl) ?_
                refine rg_X10_171 C h dX10_readsCodes_13 ?_
                refine tI (y := nI (1)) rfl ?_
                refine zN_ne (tgt := 287) (a := 1) C (by decide) dX10_readsCodes_16 (by decide) (fun _ => ?_) (fun q => absurd q (by decide))
                exact rV C hr hlk h dX10_readsCodes_287 (Nat.le_of_ble_eq_true rfl) (Nat.le_of_ble_eq_true rfl) (by have e : rdL (wt w 1) (wt w 2) (wt w 3) (wt w 4) t n (cnt) (nI 0) (p0) = .inr (1, p) := (by rw [h3, rdL_none (by omega) hrd]; rfl); show rcQ v sc ar t0 (rdL (wt w 1) (wt w 2) (wt w 3) (wt w 4) t n (cnt) (nI 0) (p0)) _; rw [e]; exact ⟨_, _, by rw [va_uu]⟩)
            · skip
              refine lv_iload hx hb dX10_readsCodes_256 (lv_at hl 7 rfl) ?_
              refine lv_lload hx hb dX10_readsCodes_258 (lv_at hl 0 rfl) ?_
              refine lv_l2i (v := nI (acc)) hx hb dX10_readsCodes_260 (lN_i _) ?_
              refine lv_iadd hx hb dX10_readsCodes_261 ?_
              refine lv_goto (tgt := 268) hx hb dX10_readsCodes_262 (by decide) ?_
              refine lv_istore (lv' := [(4, .int (bef + nI (acc))), (14, .long (lN (acc))), (13, .int (nI (0))), (12, .int (nI (0))), (0, .ref (zad z 27)), (1, .int (nI (w))), (2, .int (nI (cnt))), (3, .int (nI (t0))), (5, .int (nI (k))), (6, .int (nI (p))), (7, .long (lN (acc))), (9, .long (lN (wq))), (11, .int (nI (lf)))]) hx hb dX10_readsCodes_268 hl (by decide) rfl (fun ls hl => ?_)
              refine lv_aload_n hx hb dX10_readsCodes_270 rfl (lv_at hl 4 rfl) ?_
              refine rg_X10_48 C h dX10_readsCodes_271 ?_
              refine lv_iload_n hx hb dX10_readsCodes_274 rfl (lv_at hl 7 rfl) ?_
              refine lv_iload hx hb dX10_readsCodes_275 (lv_at hl 8 rfl) ?_
              refine lv_iadd hx hb dX10_readsCodes_277 ?_
              refine tI (y := nI (t0 + k)) (nI_add _ _) ?_
              refine lv_iload hx hb dX10_readsCodes_278 (lv_at hl 0 rfl) ?_
              refine stA 36 rfl (j := t0 + k) (x := bef + nI (acc)) (show t0 + k < 40000 by omega) (by decide) C h dX10_readsCodes_280 (fun H locs h => ?_)
              refine lv_iinc (v := nI (k + 1)) (lv' := [(5, .int (nI (k + 1))), (4, .int (bef + nI (acc))), (14, .long (lN (acc))), (13, .int (nI (0))), (12, .int (nI (0))), (0, .ref (zad z 27)), (1, .int (nI (w))), (2, .int (nI (cnt))), (3, .int (nI (t0))), (6, .int (nI (p))), (7, .long (lN (acc))), (9, .long (lN (wq))), (11, .int (nI (lf)))]) hx hb dX10_readsCodes_281 hl (k := 8) rfl (nN_inc _) (by decide) rfl (fun ls hl => ?_)
              refine lv_goto (tgt := 6) hx hb dX10_readsCodes_284 (by decide) ?_
              refine lv_iload hx hb dX10_readsCodes_6 (lv_at hl 0 rfl) ?_
              refine lv_iload_n hx hb dX10_readsCodes_8 rfl (lv_at hl 7 rfl) ?_
              refine jN_ge (tgt := 287) (a := k + 1) (b := cnt) C (by omega) (by omega) dX10_readsCodes_9 (by decide) (fun c_9 => ?_) (fun c_9 => ?_)
              · skip
                exact rV C hr hlk h dX10_readsCodes_287 (Nat.le_of_ble_eq_true rfl) (Nat.le_of_ble_eq_true rfl) (by have e : rdL (wt w 1) (wt w 2) (wt w 3) (wt w 4) t n (cnt) (nI 0) (p0) = .inr (1, p) := (by rw [h3, rdL_none (by omega) hrd]; rfl); show rcQ v sc ar t0 (rdL (wt w 1) (wt w 2) (wt w 3) (wt w 4) t n (cnt) (nI 0) (p0)) _; rw [e]; exact ⟨_, _, by rw [va_uu]⟩)
              · skip
                refine lv_aload_n hx hb dX10_readsCodes_12 rfl (lv_at hl 5 rfl) ?_
                refine rg_X10_171 C h dX10_readsCodes_13 ?_
                refine tI (y := nI (1)) rfl ?_
                refine zN_ne (tgt := 287) (a := 1) C (by decide) dX10_readsCodes_16 (by decide) (fun _ => ?_) (fun q => absurd q (by decide))
                exact rV C hr hlk h dX10_readsCodes_287 (Nat.le_of_ble_eq_true rfl) (Nat.le_of_ble_eq_true rfl) (by have e : rdL (wt w 1) (wt w 2) (wt w 3) (wt w 4) t n (cnt) (nI 0) (p0) = .inr (1, p) := (by rw [h3, rdL_none (by omega) hrd]; rfl); show rcQ v sc ar t0 (rdL (wt w 1) (wt w 2) (wt w 3) (wt w 4) t n (cnt) (nI 0) (p0)) _; rw [e]; exact ⟨_, _, by rw [va_uu]⟩)
  · skip
    refine lv_iconst (v := nI (0)) hx hb dX10_readsCodes_0 (by decide) ?_
    refine lv_istore (lv' := [(4, .int (nI (0))), (0, .ref (zad z 27)), (1, .int (nI (w))), (2, .int (nI (cnt))), (3, .int (nI (t0)))]) hx hb dX10_readsCodes_1 hl (by decide) rfl (fun ls hl => ?_)
    refine lv_iconst (v := nI (0)) hx hb dX10_readsCodes_3 (by decide) ?_
    refine lv_istore (lv' := [(5, .int (nI (0))), (4, .int (nI (0))), (0, .ref (zad z 27)), (1, .int (nI (w))), (2, .int (nI (cnt))), (3, .int (nI (t0)))]) hx hb dX10_readsCodes_4 hl (by decide) rfl (fun ls hl => ?_)
    refine lpW4 (fun (k : Nat) (bef : Int32) (p : Nat) (xs : List Int32) (H : Heap) (locs : List Loc) (ls : Array Slot) => (k ≤ cnt) ∧ (xs.length = k) ∧ (p ≤ n) ∧ (rdL (wt w 1) (wt w 2) (wt w 3) (wt w 4) t n (cnt) (nI 0) (p0) = rdPre xs (rdL (wt w 1) (wt w 2) (wt w 3) (wt w 4) t n (cnt - k) (bef) (p))) ∧ hH z v (va_up sc 32 (nI (p))) (va_up ar 36 (wrR (ar 36) t0 (xs))) s H locs ∧ lv_has ls 16 [(0, .ref (zad z 27)), (1, .int (nI (w))), (2, .int (nI (cnt))), (3, .int (nI (t0))), (4, .int (bef)), (5, .int (nI (k)))]) (fun (k : Nat) (bef : Int32) (p : Nat) (xs : List Int32) => cnt - k) (fun k bef p xs ih_6 H locs ls hI => ?_) (0) (nI 0) (p0) ([]) ⟨Nat.zero_le _, rfl, hpn, by cases rdL (wt w 1) (wt w 2) (wt w 3) (wt w 4) t n (cnt - 0) (nI 0) p0 <;> simp [rdPre], (by rw [← hp, va_us, wrR_nil, va_us]; exact h), lv_sub hl [2, 3, 4, 5, 1, 0] rfl⟩
    obtain ⟨h1, h1b, h2, h3, h, hl⟩ := hI
    refine lv_iload hx hb dX10_readsCodes_6 (lv_at hl 5 rfl) ?_
    refine lv_iload_n hx hb dX10_readsCodes_8 rfl (lv_at hl 2 rfl) ?_
    refine jN_ge (tgt := 287) (a := k) (b := cnt) C (by omega) (by omega) dX10_readsCodes_9 (by decide) (fun c_9 => ?_) (fun c_9 => ?_)
    · skip
      exact rV C hr hlk h dX10_readsCodes_287 (Nat.le_of_ble_eq_true rfl) (Nat.le_of_ble_eq_true rfl) (by have e : rdL (wt w 1) (wt w 2) (wt w 3) (wt w 4) t n (cnt) (nI 0) (p0) = .inl (xs, p) := (by rw [h3, show cnt - k = 0 by omega]; simp [rdL, rdPre]); show rcQ v sc ar t0 (rdL (wt w 1) (wt w 2) (wt w 3) (wt w 4) t n (cnt) (nI 0) (p0)) _; rw [e]; rfl)
    · skip
      refine lv_aload_n hx hb dX10_readsCodes_12 rfl (lv_at hl 0 rfl) ?_
      refine rg_X10_171 C h dX10_readsCodes_13 ?_
      refine tI (y := nI (0)) hf0 ?_
      refine zN_ne (tgt := 287) (a := 0) C (by decide) dX10_readsCodes_16 (by decide) (fun q => absurd q (by decide)) (fun _ => ?_)
      refine lv_aload_n hx hb dX10_readsCodes_19 rfl (lv_at hl 0 rfl) ?_
      refine rg_X10_177 C h dX10_readsCodes_20 ?_
      refine tI (y := nI (p)) rfl ?_
      refine lv_istore (lv' := [(6, .int (nI (p))), (0, .ref (zad z 27)), (1, .int (nI (w))), (2, .int (nI (cnt))), (3, .int (nI (t0))), (4, .int (bef)), (5, .int (nI (k)))]) hx hb dX10_readsCodes_23 hl (by decide) rfl (fun ls hl => ?_)
      refine lv_lconst (v := lN 0) hx hb dX10_readsCodes_25 (by decide) ?_
      refine lv_lstore (lv' := [(7, .long (lN (0))), (6, .int (nI (p))), (0, .ref (zad z 27)), (1, .int (nI (w))), (2, .int (nI (cnt))), (3, .int (nI (t0))), (4, .int (bef)), (5, .int (nI (k)))]) hx hb dX10_readsCodes_26 hl (by decide) rfl (fun ls hl => ?_)
      refine lv_lconst (v := lN 1) hx hb dX10_readsCodes_28 (by decide) ?_
      refine lv_lstore (lv' := [(9, .long (lN (1))), (7, .long (lN (0))), (6, .int (nI (p))), (0, .ref (zad z 27)), (1, .int (nI (w))), (2, .int (nI (cnt))), (3, .int (nI (t0))), (4, .int (bef)), (5, .int (nI (k)))]) hx hb dX10_readsCodes_29 hl (by decide) rfl (fun ls hl => ?_)
      refine lv_aload_n hx hb dX10_readsCodes_31 rfl (lv_at hl 3 rfl) ?_
      refine rg_X10_13 C h dX10_readsCodes_32 ?_
      refine lv_iload_n hx hb dX10_readsCodes_35 rfl (lv_at hl 4 rfl) ?_
      refine ldA 29 rfl (j := w) (show w < 40 by omega) (by decide) C h dX10_readsCodes_36 ?_
      refine tI (y := nI (wt w 1)) (hRW w hw).2.1 ?_
      refine lv_istore (lv' := [(11, .int (nI (wt w 1))), (9, .long (lN (1))), (7, .long (lN (0))), (6, .int (nI (p))), (0, .ref (zad z 27)), (1, .int (nI (w))), (2, .int (nI (cnt))), (3, .int (nI (t0))), (4, .int (bef)), (5, .int (nI (k)))]) hx hb dX10_readsCodes_37 hl (by decide) rfl (fun ls hl => ?_)
      refine lpW5 (fun (i : Nat) (lf : Nat) (acc : Nat) (wq : Nat) (p2 : Nat) (H : Heap) (locs : List Loc) (ls : Array Slot) => (i ≤ 5 ∧ i + lf ≤ 5) ∧ (acc < 256 ^ i ∧ wq ≤ 256 ^ i) ∧ (p2 ≤ n) ∧ (rdc (wt w 1) (wt w 2) t n p = (rdc lf (wt w 2) t n p2).map (fun q => (acc + wq * q.1, q.2))) ∧ hH z v (va_up sc 32 (nI (p2))) (va_up ar 36 (wrR (ar 36) t0 (xs))) s H locs ∧ lv_has ls 16 [(0, .ref (zad z 27)), (1, .int (nI (w))), (2, .int (nI (cnt))), (3, .int (nI (t0))), (4, .int (bef)), (5, .int (nI (k))), (6, .int (nI (p))), (7, .long (lN (acc))), (9, .long (lN (wq))), (11, .int (nI (lf)))]) (fun (i : Nat) (lf : Nat) (acc : Nat) (wq : Nat) (p2 : Nat) => lf) (fun i lf acc wq p2 ih_39 H locs ls hI => ?_) (0) (wt w 1) (0) (1) (p) ⟨⟨by omega, by omega⟩, ⟨Nat.one_pos, Nat.le_refl _⟩, h2, by simp, h, lv_sub hl [4, 5, 6, 7, 8, 9, 3, 2, 1, 0] rfl⟩
      obtain ⟨i1, i2, i3, i4, h, hl⟩ := hI
      have hac := pw3 i1.1 i2.1
      have htp := ht p2
      refine lv_iload hx hb dX10_readsCodes_39 (lv_at hl 9 rfl) ?_
      refine zN_le (tgt := 144) (a := lf) C (by omega) dX10_readsCodes_41 (by decide) (fun c_41 => ?_) (fun c_41 => ?_)
      · skip
        have hrd : rdc (wt w 1) (wt w 2) t n p = some (acc, p2) := by rw [i4, c_41]; simp [rdc]
        refine lv_aload_n hx hb dX10_readsCodes_144 rfl (lv_at hl 0 rfl) ?_
        refine rg_X10_19 C h dX10_readsCodes_145 ?_
        refine lv_iload_n hx hb dX10_readsCodes_148 rfl (lv_at hl 1 rfl) ?_
        refine ldA 31 rfl (j := w) (show w < 40 by omega) (by decide) C h dX10_readsCodes_149 ?_
        refine tI (y := nI (1)) ((hRW w hw).2.2.2.1.trans (by rw [hs3])) ?_
        refine lv_istore (lv' := [(12, .int (nI (1))), (0, .ref (zad z 27)), (1, .int (nI (w))), (2, .int (nI (cnt))), (3, .int (nI (t0))), (4, .int (bef)), (5, .int (nI (k))), (6, .int (nI (p))), (7, .long (lN (acc))), (9, .long (lN (wq))), (11, .int (nI (lf)))]) hx hb dX10_readsCodes_150 hl (by decide) rfl (fun ls hl => ?_)
        refine lv_iload hx hb dX10_readsCodes_152 (lv_at hl 0 rfl) ?_
        refine zN_le (tgt := 175) (a := 1) C (by decide) dX10_readsCodes_154 (by decide) (fun q => absurd q (by decide)) (fun _ => ?_)
        refine lv_lload hx hb dX10_readsCodes_157 (lv_at hl 8 rfl) ?_
        refine lv_lconst (v := lN 1) hx hb dX10_readsCodes_159 (by decide) ?_
        refine lv_ladd hx hb dX10_readsCodes_160 ?_
        refine tL (y := lN ((acc) + (1))) (lN_add _ _) ?_
        refine lv_lconst (v := lN 1) hx hb dX10_readsCodes_161 (by decide) ?_
        refine lv_iload hx hb dX10_readsCodes_162 (lv_at hl 0 rfl) ?_
        refine lv_lshl (v := lN (2)) hx hb dX10_readsCodes_164 (by decide) ?_
        refine lv_lrem hx hb dX10_readsCodes_165 (lN_ne0 (by omega) (by omega)) ?_
        refine tL (pk_lRem (by omega) (by omega) (by omega)) ?_
        refine lv_lconst (v := lN 0) hx hb dX10_readsCodes_166 (by decide) ?_
        refine W.lcmp hx hb dX10_readsCodes_167 ?_
        refine lv_if_ne (tgt := 175) hx hb dX10_readsCodes_168 (by decide) (fun c_168 => ?_) (fun c_168 => ?_)
        · skip
          have c_168 : ¬ (((acc) + (1)) % (2)) = (0) := fun q => c_168 ((lg_cmp_eq _ _).mpr ((pk_lEQ (by omega) (by omega)).mpr q))
          refine lv_iconst (v := nI (0)) hx hb dX10_readsCodes_175 (by decide) ?_
          refine lv_istore (lv' := [(13, .int (nI (0))), (12, .int (nI (1))), (0, .ref (zad z 27)), (1, .int (nI (w))), (2, .int (nI (cnt))), (3, .int (nI (t0))), (4, .int (bef)), (5, .int (nI (k))), (6, .int (nI (p))), (7, .long (lN (acc))), (9, .long (lN (wq))), (11, .int (nI (lf)))]) hx hb dX10_readsCodes_176 hl (by decide) rfl (fun ls hl => ?_)
          refine lv_iload hx hb dX10_readsCodes_178 (lv_at hl 0 rfl) ?_
          refine zN_eq (tgt := 194) (a := 0) C (by decide) dX10_readsCodes_180 (by decide) (fun _ => ?_) (fun q => absurd q (by decide))
          refine lv_iload hx hb dX10_readsCodes_194 (lv_at hl 1 rfl) ?_
          refine zN_ne (tgt := 204) (a := 1) C (by decide) dX10_readsCodes_196 (by decide) (fun _ => ?_) (fun q => absurd q (by decide))
          refine lv_lload hx hb dX10_readsCodes_204 (lv_at hl 9 rfl) ?_
          refine lv_lload hx hb dX10_readsCodes_206 (lv_at hl 9 rfl) ?_
          refine lv_iload hx hb dX10_readsCodes_208 (lv_at hl 1 rfl) ?_
          refine lv_lshr (v := lN (acc / 2)) hx hb dX10_readsCodes_210 (lsrN (k := acc) (by omega) (s := 1) (by decide)) ?_
          refine lv_lsub hx hb dX10_readsCodes_211 ?_
          refine tL (y := lN (acc - acc / 2)) (lN_sub (by omega)) ?_
          refine lv_lstore (lv' := [(14, .long (lN (acc - acc / 2))), (13, .int (nI (0))), (12, .int (nI (1))), (0, .ref (zad z 27)), (1, .int (nI (w))), (2, .int (nI (cnt))), (3, .int (nI (t0))), (4, .int (bef)), (5, .int (nI (k))), (6, .int (nI (p))), (7, .long (lN (acc))), (9, .long (lN (wq))), (11, .int (nI (lf)))]) hx hb dX10_readsCodes_212 hl (by decide) rfl (fun ls hl => ?_)
          refine lv_aload_n hx hb dX10_readsCodes_214 rfl (lv_at hl 3 rfl) ?_
          refine rg_X10_171 C h dX10_readsCodes_215 ?_
          refine tI (y := nI (0)) hf0 ?_
          refine zN_ne (tgt := 246) (a := 0) C (by decide) dX10_readsCodes_218 (by decide) (fun q => absurd q (by decide)) (fun _ => ?_)
          refine lv_lload hx hb dX10_readsCodes_221 (lv_at hl 10 rfl) ?_
          refine lv_ldc2 (v := 4294967296) hx hb C.1.2.2.2.1 (C.1.2.2.2.2 _ uk_X10_133) dX10_readsCodes_223 ?_
          refine tL (y := lN 4294967296) (by decide) ?_
          refine W.lcmp hx hb dX10_readsCodes_226 ?_
          refine lv_if_ge (tgt := 239) hx hb dX10_readsCodes_227 (by decide) (fun c_227 => ?_) (fun c_227 => ?_)
          · skip
            have c_227 : (4294967296) ≤ (acc) := (pk_lLE (by omega) (by omega)).mp ((lg_cmp_ge _ _).mp c_227)
            refine lv_aload_n hx hb dX10_readsCodes_239 rfl (lv_at hl 3 rfl) ?_
            refine lv_iconst (v := nI (2)) hx hb dX10_readsCodes_240 (by decide) ?_
            refine lv_iload hx hb dX10_readsCodes_241 (lv_at hl 9 rfl) ?_
            refine backV h (runV (As := [.int (nI (2)), .int (nI (p))]) (rest := []) C h (r_fails l z v (va_up sc 32 (nI (p2))) (va_up ar 36 (wrR (ar 36) t0 (xs))) (nI 2) (nI p)) gv_X10_180 gv_X10_180_n ⟨rfl, rfl⟩ (r_Ref C h) rfl hl.1 rfl (Nat.le_of_ble_eq_true rfl) dX10_readsCodes_243 ⟨Nat.le_of_ble_eq_true rfl, Nat.le_of_ble_eq_true rfl⟩ ⟨Nat.le_of_ble_eq_true rfl, Nat.le_of_ble_eq_true rfl⟩) (fun v_243 sc_243 ar_243 H locs p_243 h => ?_)
            have h : hH z v (va_up (va_up (va_up sc 32 (nI (p2))) 33 (nI 2)) 34 (nI p)) (va_up ar 36 (wrR (ar 36) t0 (xs))) s H locs := uEq p_243 h
            refine lv_aload_n hx hb dX10_readsCodes_246 rfl (lv_at hl 3 rfl) ?_
            refine rg_X10_22 C h dX10_readsCodes_247 ?_
            refine lv_iload_n hx hb dX10_readsCodes_250 rfl (lv_at hl 4 rfl) ?_
            refine ldA 32 rfl (j := w) (show w < 40 by omega) (by decide) C h dX10_readsCodes_251 ?_
            refine tI (y := nI (wt w 4)) (hRW w hw).2.2.2.2.1 ?_
            refine lv_iconst (v := nI (1)) hx hb dX10_readsCodes_252 (by decide) ?_
            refine jN_ne (tgt := 265) (a := wt w 4) (b := 1) C (by omega) (by omega) dX10_readsCodes_253 (by decide) (fun c_253 => ?_) (fun c_253 => ?_)
            · skip
              refine lv_lload hx hb dX10_readsCodes_265 (lv_at hl 0 rfl) ?_
              refine lv_l2i (v := nI (acc - acc / 2)) hx hb dX10_readsCodes_267 (lN_i _) ?_
              refine lv_istore (lv' := [(4, .int (nI (acc - acc / 2))), (14, .long (lN (acc - acc / 2))), (13, .int (nI (0))), (12, .int (nI (1))), (0, .ref (zad z 27)), (1, .int (nI (w))), (2, .int (nI (cnt))), (3, .int (nI (t0))), (5, .int (nI (k))), (6, .int (nI (p))), (7, .long (lN (acc))), (9, .long (lN (wq))), (11, .int (nI (lf)))]) hx hb dX10_readsCodes_268 hl (by decide) rfl (fun ls hl => ?_)
              refine lv_aload_n hx hb dX10_readsCodes_270 rfl (lv_at hl 4 rfl) ?_
              refine rg_X10_48 C h dX10_readsCodes_271 ?_
              refine lv_iload_n hx hb dX10_readsCodes_274 rfl (lv_at hl 7 rfl) ?_
              refine lv_iload hx hb dX10_readsCodes_275 (lv_at hl 8 rfl) ?_
              refine lv_iadd hx hb dX10_readsCodes_277 ?_
              refine tI (y := nI (t0 + k)) (nI_add _ _) ?_
              refine lv_iload hx hb dX10_readsCodes_278 (lv_at hl 0 rfl) ?_
              refine stA 36 rfl (j := t0 + k) (x := nI (acc - acc / 2)) (show t0 + k < 40000 by omega) (by decide) C h dX10_readsCodes_280 (fun H locs h => ?_)
              refine lv_iinc (v := nI (k + 1)) (lv' := [(5, .int (nI (k + 1))), (4, .int (nI (acc - acc / 2))), (14, .long (lN (acc - acc / 2))), (13, .int (nI (0))), (12, .int (nI (1))), (0, .ref (zad z 27)), (1, .int (nI (w))), (2, .int (nI (cnt))), (3, .int (nI (t0))), (6, .int (nI (p))), (7, .long (lN (acc))), (9, .long (lN (wq))), (11, .int (nI (lf)))]) hx hb dX10_readsCodes_281 hl (k := 8) rfl (nN_inc _) (by decide) rfl (fun ls hl => ?_)
              refine lv_goto (tgt := 6) hx hb dX10_readsCodes_284 (by decide) ?_
              refine lv_iload hx hb dX10_readsCodes_6 (lv_at hl 0 rfl) ?_
              refine lv_iload_n hx hb dX10_readsCodes_8 rfl (lv_at hl 7 rfl) ?_
              refine jN_ge (tgt := 287) (a := k + 1) (b := cnt) C (by omega) (by omega) dX10_readsCodes_9 (by decide) (fun c_9 => ?_) (fun c_9 => ?_)
              · skip
                exact rV C hr hlk h dX10_readsCodes_287 (Nat.le_of_ble_eq_true rfl) (Nat.le_of_ble_eq_true rfl) (by have e : rdL (wt w 1) (wt w 2) (wt w 3) (wt w 4) t n (cnt) (nI 0) (p0) = .inr (2, p) := (by rw [h3, rdL_bad (by omega) hrd (by rw [hs3]; exact nb_hi c_227)]; rfl); show rcQ v sc ar t0 (rdL (wt w 1) (wt w 2) (wt w 3) (wt w 4) t n (cnt) (nI 0) (p0)) _; rw [e]; exact ⟨_, _, by rw [va_uu]⟩)
              · skip
                refine lv_aload_n hx hb dX10_readsCodes_12 rfl (lv_at hl 5 rfl) ?_
                refine rg_X10_171 C h dX10_readsCodes_13 ?_
                refine tI (y := nI (2)) rfl ?_
                refine zN_ne (tgt := 287) (a := 2) C (by decide) dX10_readsCodes_16 (by decide) (fun _ => ?_) (fun q => absurd q (by decide))
                exact rV C hr hlk h dX10_readsCodes_287 (Nat.le_of_ble_eq_true rfl) (Nat.le_of_ble_eq_true rfl) (by have e : rdL (wt w 1) (wt w 2) (wt w 3) (wt w 4) t n (cnt) (nI 0) (p0) = .inr (2, p) := (by rw [h3, rdL_bad (by omega) hrd (by rw [hs3]; exact nb_hi c_227)]; rfl); show rcQ v sc ar t0 (rdL (wt w 1) (wt w 2) (wt w 3) (wt w 4) t n (cnt) (nI 0) (p0)) _; rw [e]; exact ⟨_, _, by rw [va_uu]⟩)
            · skip
              refine lv_iload hx hb dX10_readsCodes_256 (lv_at hl 7 rfl) ?_
              refine lv_lload hx hb dX10_readsCodes_258 (lv_at hl 0 rfl) ?_
              refine lv_l2i (v := nI (acc - acc / 2)) hx hb dX10_readsCodes_260 (lN_i _) ?_
              refine lv_iadd hx hb dX10_readsCodes_261 ?_
              refine lv_goto (tgt := 268) hx hb dX10_readsCodes_262 (by decide) ?_
              refine lv_istore (lv' := [(4, .int (bef + nI (acc - acc / 2))), (14, .long (lN (acc - acc / 2))), (13, .int (nI (0))), (12, .int (nI (1))), (0, .ref (zad z 27)), (1, .int (nI (w))), (2, .int (nI (cnt))), (3, .int (nI (t0))), (5, .int (nI (k))), (6, .int (nI (p))), (7, .long (lN (acc))), (9, .long (lN (wq))), (11, .int (nI (lf)))]) hx hb dX10_readsCodes_268 hl (by decide) rfl (fun ls hl => ?_)
              refine lv_aload_n hx hb dX10_readsCodes_270 rfl (lv_at hl 4 rfl) ?_
              refine rg_X10_48 C h dX10_readsCodes_271 ?_
              refine lv_iload_n hx hb dX10_readsCodes_274 rfl (lv_at hl 7 rfl) ?_
              refine lv_iload hx hb dX10_readsCodes_275 (lv_at hl 8 rfl) ?_
              refine lv_iadd hx hb dX10_readsCodes_277 ?_
              refine tI (y := nI (t0 + k)) (nI_add _ _) ?_
              refine lv_iload hx hb dX10_readsCodes_278 (lv_at hl 0 rfl) ?_
              refine stA 36 rfl (j := t0 + k) (x := bef + nI (acc - acc / 2)) (show t0 + k < 40000 by omega) (by decide) C h dX10_readsCodes_280 (fun H locs h => ?_)
              refine lv_iinc (v := nI (k + 1)) (lv' := [(5, .int (nI (k + 1))), (4, .int (bef + nI (acc - acc / 2))), (14, .long (lN (acc - acc / 2))), (13, .int (nI (0))), (12, .int (nI (1))), (0, .ref (zad z 27)), (1, .int (nI (w))), (2, .int (nI (cnt))), (3, .int (nI (t0))), (6, .int (nI (p))), (7, .long (lN (acc))), (9, .long (lN (wq))), (11, .int (nI (lf)))]) hx hb dX10_readsCodes_281 hl (k := 8) rfl (nN_inc _) (by decide) rfl (fun ls hl => ?_)
              refine lv_goto (tgt := 6) hx hb dX10_readsCodes_284 (by decide) ?_
              refine lv_iload hx hb dX10_readsCodes_6 (lv_at hl 0 rfl) ?_
              refine lv_iload_n hx hb dX10_readsCodes_8 rfl (lv_at hl 7 rfl) ?_
              refine jN_ge (tgt := 287) (a := k + 1) (b := cnt) C (by omega) (by omega) dX10_readsCodes_9 (by decide) (fun c_9 => ?_) (fun c_9 => ?_)
              · skip
                exact rV C hr hlk h dX10_readsCodes_287 (Nat.le_of_ble_eq_true rfl) (Nat.le_of_ble_eq_true rfl) (by have e : rdL (wt w 1) (wt w 2) (wt w 3) (wt w 4) t n (cnt) (nI 0) (p0) = .inr (2, p) := (by rw [h3, rdL_bad (by omega) hrd (by rw [hs3]; exact nb_hi c_227)]; rfl); show rcQ v sc ar t0 (rdL (wt w 1) (wt w 2) (wt w 3) (wt w 4) t n (cnt) (nI 0) (p0)) _; rw [e]; exact ⟨_, _, by rw [va_uu]⟩)
              · skip
                refine lv_aload_n hx hb dX10_readsCodes_12 rfl (lv_at hl 5 rfl) ?_
                refine rg_X10_171 C h dX10_readsCodes_13 ?_
                refine tI (y := nI (2)) rfl ?_
                refine zN_ne (tgt := 287) (a := 2) C (by decide) dX10_readsCodes_16 (by decide) (fun _ => ?_) (fun q => absurd q (by decide))
                exact rV C hr hlk h dX10_readsCodes_287 (Nat.le_of_ble_eq_true rfl) (Nat.le_of_ble_eq_true rfl) (by have e : rdL (wt w 1) (wt w 2) (wt w 3) (wt w 4) t n (cnt) (nI 0) (p0) = .inr (2, p) := (by rw [h3, rdL_bad (by omega) hrd (by rw [hs3]; exact nb_hi c_227)]; rfl); show rcQ v sc ar t0 (rdL (wt w 1) (wt w 2) (wt w 3) (wt w 4) t n (cnt) (nI 0) (p0)) _; rw [e]; exact ⟨_, _, by rw [va_uu]⟩)
          · skip
            have c_227 : (acc) < (4294967296) := Nat.not_le.mp (fun q => c_227 ((lg_cmp_ge _ _).mpr ((pk_lLE (by omega) (by omega)).mpr q)))
            refine lv_lload hx hb dX10_readsCodes_230 (lv_at hl 0 rfl) ?_
            refine lv_ldc2 (v := 2147483648) hx hb C.1.2.2.2.1 (C.1.2.2.2.2 _ uk_X10_184) dX10_readsCodes_232 ?_
            refine tL (y := lN 2147483648) (by decide) ?_
            refine W.lcmp hx hb dX10_readsCodes_235 ?_
            refine lv_if_lt (tgt := 246) hx hb dX10_readsCodes_236 (by decide) (fun c_236 => ?_) (fun c_236 => ?_)
            · skip
              have c_236 : (acc - acc / 2) < (2147483648) := (pk_lLT (by omega) (by omega)).mp ((lg_cmp_lt _ _).mp c_236)
              refine lv_aload_n hx hb dX10_readsCodes_246 rfl (lv_at hl 3 rfl) ?_
              refine rg_X10_22 C h dX10_readsCodes_247 ?_
              refine lv_iload_n hx hb dX10_readsCodes_250 rfl (lv_at hl 4 rfl) ?_
              refine ldA 32 rfl (j := w) (show w < 40 by omega) (by decide) C h dX10_readsCodes_251 ?_
              refine tI (y := nI (wt w 4)) (hRW w hw).2.2.2.2.1 ?_
              refine lv_iconst (v := nI (1)) hx hb dX10_readsCodes_252 (by decide) ?_
              refine jN_ne (tgt := 265) (a := wt w 4) (b := 1) C (by omega) (by omega) dX10_readsCodes_253 (by decide) (fun c_253 => ?_) (fun c_253 => ?_)
              · skip
                refine lv_lload hx hb dX10_readsCodes_265 (lv_at hl 0 rfl) ?_
                refine lv_l2i (v := nI (acc - acc / 2)) hx hb dX10_readsCodes_267 (lN_i _) ?_
                refine lv_istore (lv' := [(4, .int (nI (acc - acc / 2))), (14, .long (lN (acc - acc / 2))), (13, .int (nI (0))), (12, .int (nI (1))), (0, .ref (zad z 27)), (1, .int (nI (w))), (2, .int (nI (cnt))), (3, .int (nI (t0))), (5, .int (nI (k))), (6, .int (nI (p))), (7, .long (lN (acc))), (9, .long (lN (wq))), (11, .int (nI (lf)))]) hx hb dX10_readsCodes_268 hl (by decide) rfl (fun ls hl => ?_)
                refine lv_aload_n hx hb dX10_readsCodes_270 rfl (lv_at hl 4 rfl) ?_
                refine rg_X10_48 C h dX10_readsCodes_271 ?_
                refine lv_iload_n hx hb dX10_readsCodes_274 rfl (lv_at hl 7 rfl) ?_
                refine lv_iload hx hb dX10_readsCodes_275 (lv_at hl 8 rfl) ?_
                refine lv_iadd hx hb dX10_readsCodes_277 ?_
                refine tI (y := nI (t0 + k)) (nI_add _ _) ?_
                refine lv_iload hx hb dX10_readsCodes_278 (lv_at hl 0 rfl) ?_
                refine stA 36 rfl (j := t0 + k) (x := nI (acc - acc / 2)) (show t0 + k < 40000 by omega) (by decide) C h dX10_readsCodes_280 (fun H locs h => ?_)
                have h := rr_put (by omega) h
                have h : hH z v (va_up sc 32 (nI (p2))) (va_up ar 36 (wrR (ar 36) t0 (xs ++ [nI (acc - acc / 2)]))) s H locs := h
                refine lv_iinc (v := nI (k + 1)) (lv' := [(5, .int (nI (k + 1))), (4, .int (nI (acc - acc / 2))), (14, .long (lN (acc - acc / 2))), (13, .int (nI (0))), (12, .int (nI (1))), (0, .ref (zad z 27)), (1, .int (nI (w))), (2, .int (nI (cnt))), (3, .int (nI (t0))), (6, .int (nI (p))), (7, .long (lN (acc))), (9, .long (lN (wq))), (11, .int (nI (lf)))]) hx hb dX10_readsCodes_281 hl (k := 8) rfl (nN_inc _) (by decide) rfl (fun ls hl => ?_)
                refine lv_goto (tgt := 6) hx hb dX10_readsCodes_284 (by decide) ?_
                exact ih_6 (k + 1) (nI (acc - acc / 2)) (p2) (xs ++ [nI (acc - acc / 2)]) (by omega) H locs ls ⟨by omega, by simp; omega, by omega, by rw [h3, rdL_ok (i := ((acc - acc / 2 : Nat) : Int)) (by omega) hrd (by rw [hs3]; exact (nb_pos (s := 1) c_227 (by decide) c_168).trans (if_pos c_236)), ← (show nI (acc - acc / 2) = if (wt w 4) = 1 then bef + Int32.ofInt ((acc - acc / 2 : Nat) : Int) else Int32.ofInt ((acc - acc / 2 : Nat) : Int) by rw [if_neg c_253, ← (i2n (X := acc - acc / 2) (by omega)).symm]), rdPre_app, show cnt - k - 1 = cnt - (k + 1) by omega], h, lv_sub hl [5, 6, 7, 8, 1, 0] rfl⟩
              · skip
                refine lv_iload hx hb dX10_readsCodes_256 (lv_at hl 7 rfl) ?_
                refine lv_lload hx hb dX10_readsCodes_258 (lv_at hl 0 rfl) ?_
                refine lv_l2i (v := nI (acc - acc / 2)) hx hb dX10_readsCodes_260 (lN_i _) ?_
                refine lv_iadd hx hb dX10_readsCodes_261 ?_
                refine lv_goto (tgt := 268) hx hb dX10_readsCodes_262 (by decide) ?_
                refine lv_istore (lv' := [(4, .int (bef + nI (acc - acc / 2))), (14, .long (lN (acc - acc / 2))), (13, .int (nI (0))), (12, .int (nI (1))), (0, .ref (zad z 27)), (1, .int (nI (w))), (2, .int (nI (cnt))), (3, .int (nI (t0))), (5, .int (nI (k))), (6, .int (nI (p))), (7, .long (lN (acc))), (9, .long (lN (wq))), (11, .int (nI (lf)))]) hx hb dX10_readsCodes_268 hl (by decide) rfl (fun ls hl => ?_)
                refine lv_aload_n hx hb dX10_readsCodes_270 rfl (lv_at hl 4 rfl) ?_
                refine rg_X10_48 C h dX10_readsCodes_271 ?_
                refine lv_iload_n hx hb dX10_readsCodes_274 rfl (lv_at hl 7 rfl) ?_
                refine lv_iload hx hb dX10_readsCodes_275 (lv_at hl 8 rfl) ?_
                refine lv_iadd hx hb dX10_readsCodes_277 ?_
                refine tI (y := nI (t0 + k)) (nI_add _ _) ?_
                refine lv_iload hx hb dX10_readsCodes_278 (lv_at hl 0 rfl) ?_
                refine stA 36 rfl (j := t0 + k) (x := bef + nI (acc - acc / 2)) (show t0 + k < 40000 by omega) (by decide) C h dX10_readsCodes_280 (fun H locs h => ?_)
                have h := rr_put (by omega) h
                have h : hH z v (va_up sc 32 (nI (p2))) (va_up ar 36 (wrR (ar 36) t0 (xs ++ [bef + nI (acc - acc / 2)]))) s H locs := h
                refine lv_iinc (v := nI (k + 1)) (lv' := [(5, .int (nI (k + 1))), (4, .int (bef + nI (acc - acc / 2))), (14, .long (lN (acc - acc / 2))), (13, .int (nI (0))), (12, .int (nI (1))), (0, .ref (zad z 27)), (1, .int (nI (w))), (2, .int (nI (cnt))), (3, .int (nI (t0))), (6, .int (nI (p))), (7, .long (lN (acc))), (9, .long (lN (wq))), (11, .int (nI (lf)))]) hx hb dX10_readsCodes_281 hl (k := 8) rfl (nN_inc _) (by decide) rfl (fun ls hl => ?_)
                refine lv_goto (tgt := 6) hx hb dX10_readsCodes_284 (by decide) ?_
                exact ih_6 (k + 1) (bef + nI (acc - acc / 2)) (p2) (xs ++ [bef + nI (acc - acc / 2)]) (by omega) H locs ls ⟨by omega, by simp; omega, by omega, by rw [h3, rdL_ok (i := ((acc - acc / 2 : Nat) : Int)) (by omega) hrd (by rw [hs3]; exact (nb_pos (s := 1) c_227 (by decide) c_168).trans (if_pos c_236)), ← (show bef + nI (acc - acc / 2) = if (wt w 4) = 1 then bef + Int32.ofInt ((acc - acc / 2 : Nat) : Int) else Int32.ofInt ((acc - acc / 2 : Nat) : Int) by rw [if_pos c_253, ← (i2n (X := acc - acc / 2) (by omega)).symm]), rdPre_app, show cnt - k - 1 = cnt - (k + 1) by omega], h, lv_sub hl [5, 6, 7, 8, 1, 0] rfl⟩
            · skip
              have c_236 : (2147483648) ≤ (acc - acc / 2) := Nat.not_lt.mp (fun q => c_236 ((lg_cmp_lt _ _).mpr ((pk_lLT (by omega) (by omega)).mpr q)))
              refine lv_aload_n hx hb dX10_readsCodes_239 rfl (lv_at hl 3 rfl) ?_
              refine lv_iconst (v := nI (2)) hx hb dX10_readsCodes_240 (by decide) ?_
              refine lv_iload hx hb dX10_readsCodes_241 (lv_at hl 9 rfl) ?_
              refine backV h (runV (As := [.int (nI (2)), .int (nI (p))]) (rest := []) C h (r_fails l z v (va_up sc 32 (nI (p2))) (va_up ar 36 (wrR (ar 36) t0 (xs))) (nI 2) (nI p)) gv_X10_180 gv_X10_180_n ⟨rfl, rfl⟩ (r_Ref C h) rfl hl.1 rfl (Nat.le_of_ble_eq_true rfl) dX10_readsCodes_243 ⟨Nat.le_of_ble_eq_true rfl, Nat.le_of_ble_eq_true rfl⟩ ⟨Nat.le_of_ble_eq_true rfl, Nat.le_of_ble_eq_true rfl⟩) (fun v_243 sc_243 ar_243 H locs p_243 h => ?_)
              have h : hH z v (va_up (va_up (va_up sc 32 (nI (p2))) 33 (nI 2)) 34 (nI p)) (va_up ar 36 (wrR (ar 36) t0 (xs))) s H locs := uEq p_243 h
              refine lv_aload_n hx hb dX10_readsCodes_246 rfl (lv_at hl 3 rfl) ?_
              refine rg_X10_22 C h dX10_readsCodes_247 ?_
              refine lv_iload_n hx hb dX10_readsCodes_250 rfl (lv_at hl 4 rfl) ?_
              refine ldA 32 rfl (j := w) (show w < 40 by omega) (by decide) C h dX10_readsCodes_251 ?_
              refine tI (y := nI (wt w 4)) (hRW w hw).2.2.2.2.1 ?_
              refine lv_iconst (v := nI (1)) hx hb dX10_readsCodes_252 (by decide) ?_
              refine jN_ne (tgt := 265) (a := wt w 4) (b := 1) C (by omega) (by omega) dX10_readsCodes_253 (by decide) (fun c_253 => ?_) (fun c_253 => ?_)
              · skip
                refine lv_lload hx hb dX10_readsCodes_265 (lv_at hl 0 rfl) ?_
                refine lv_l2i (v := nI (acc - acc / 2)) hx hb dX10_readsCodes_267 (lN_i _) ?_
                refine lv_istore (lv' := [(4, .int (nI (acc - acc / 2))), (14, .long (lN (acc - acc / 2))), (13, .int (nI (0))), (12, .int (nI (1))), (0, .ref (zad z 27)), (1, .int (nI (w))), (2, .int (nI (cnt))), (3, .int (nI (t0))), (5, .int (nI (k))), (6, .int (nI (p))), (7, .long (lN (acc))), (9, .long (lN (wq))), (11, .int (nI (lf)))]) hx hb dX10_readsCodes_268 hl (by decide) rfl (fun ls hl => ?_)
                refine lv_aload_n hx hb dX10_readsCodes_270 rfl (lv_at hl 4 rfl) ?_
                refine rg_X10_48 C h dX10_readsCodes_271 ?_
                refine lv_iload_n hx hb dX10_readsCodes_274 rfl (lv_at hl 7 rfl) ?_
                refine lv_iload hx hb dX10_readsCodes_275 (lv_at hl 8 rfl) ?_
                refine lv_iadd hx hb dX10_readsCodes_277 ?_
                refine tI (y := nI (t0 + k)) (nI_add _ _) ?_
                refine lv_iload hx hb dX10_readsCodes_278 (lv_at hl 0 rfl) ?_
                refine stA 36 rfl (j := t0 + k) (x := nI (acc - acc / 2)) (show t0 + k < 40000 by omega) (by decide) C h dX10_readsCodes_280 (fun H locs h => ?_)
                refine lv_iinc (v := nI (k + 1)) (lv' := [(5, .int (nI (k + 1))), (4, .int (nI (acc - acc / 2))), (14, .long (lN (acc - acc / 2))), (13, .int (nI (0))), (12, .int (nI (1))), (0, .ref (zad z 27)), (1, .int (nI (w))), (2, .int (nI (cnt))), (3, .int (nI (t0))), (6, .int (nI (p))), (7, .long (lN (acc))), (9, .long (lN (wq))), (11, .int (nI (lf)))]) hx hb dX10_readsCodes_281 hl (k := 8) rfl (nN_inc _) (by decide) rfl (fun ls hl => ?_)
                refine lv_goto (tgt := 6) hx hb dX10_readsCodes_284 (by decide) ?_
                refine lv_iload hx hb dX10_readsCodes_6 (lv_at hl 0 rfl) ?_
                refine lv_iload_n hx hb dX10_readsCodes_8 rfl (lv_at hl 7 rfl) ?_
                refine jN_ge (tgt := 287) (a := k + 1) (b := cnt) C (by omega) (by omega) dX10_readsCodes_9 (by decide) (fun c_9 => ?_) (fun c_9 => ?_)
                · skip
                  exact rV C hr hlk h dX10_readsCodes_287 (Nat.le_of_ble_eq_true rfl) (Nat.le_of_ble_eq_true rfl) (by have e : rdL (wt w 1) (wt w 2) (wt w 3) (wt w 4) t n (cnt) (nI 0) (p0) = .inr (2, p) := (by rw [h3, rdL_bad (by omega) hrd (by rw [hs3]; exact (nb_pos (s := 1) c_227 (by decide) c_168).trans (if_neg (by omega)))]; rfl); show rcQ v sc ar t0 (rdL (wt w 1) (wt w 2) (wt w 3) (wt w 4) t n (cnt) (nI 0) (p0)) _; rw [e]; exact ⟨_, _, by rw [va_uu]⟩)
                · skip
                  refine lv_aload_n hx hb dX10_readsCodes_12 rfl (lv_at hl 5 rfl) ?_
                  refine rg_X10_171 C h dX10_readsCodes_13 ?_
                  refine tI (y := nI (2)) rfl ?_
                  refine zN_ne (tgt := 287) (a := 2) C (by decide) dX10_readsCodes_16 (by decide) (fun _ => ?_) (fun q => absurd q (by decide))
                  exact rV C hr hlk h dX10_readsCodes_287 (Nat.le_of_ble_eq_true rfl) (Nat.le_of_ble_eq_true rfl) (by have e : rdL (wt w 1) (wt w 2) (wt w 3) (wt w 4) t n (cnt) (nI 0) (p0) = .inr (2, p) := (by rw [h3, rdL_bad (by omega) hrd (by rw [hs3]; exact (nb_pos (s := 1) c_227 (by decide) c_168).trans (if_neg (by omega)))]; rfl); show rcQ v sc ar t0 (rdL (wt w 1) (wt w 2) (wt w 3) (wt w 4) t n (cnt) (nI 0) (p0)) _; rw [e]; exact ⟨_, _, by rw [va_uu]⟩)
              · skip
                refine lv_iload hx hb dX10_readsCodes_256 (lv_at hl 7 rfl) ?_
                refine lv_lload hx hb dX10_readsCodes_258 (lv_at hl 0 rfl) ?_
                refine lv_l2i (v := nI (acc - acc / 2)) hx hb dX10_readsCodes_260 (lN_i _) ?_
                refine lv_iadd hx hb dX10_readsCodes_261 ?_
                refine lv_goto (tgt := 268) hx hb dX10_readsCodes_262 (by decide) ?_
                refine lv_istore (lv' := [(4, .int (bef + nI (acc - acc / 2))), (14, .long (lN (acc - acc / 2))), (13, .int (nI (0))), (12, .int (nI (1))), (0, .ref (zad z 27)), (1, .int (nI (w))), (2, .int (nI (cnt))), (3, .int (nI (t0))), (5, .int (nI (k))), (6, .int (nI (p))), (7, .long (lN (acc))), (9, .long (lN (wq))), (11, .int (nI (lf)))]) hx hb dX10_readsCodes_268 hl (by decide) rfl (fun ls hl => ?_)
                refine lv_aload_n hx hb dX10_readsCodes_270 rfl (lv_at hl 4 rfl) ?_
                refine rg_X10_48 C h dX10_readsCodes_271 ?_
                refine lv_iload_n hx hb dX10_readsCodes_274 rfl (lv_at hl 7 rfl) ?_
                refine lv_iload hx hb dX10_readsCodes_275 (lv_at hl 8 rfl) ?_
                refine lv_iadd hx hb dX10_readsCodes_277 ?_
                refine tI (y := nI (t0 + k)) (nI_add _ _) ?_
                refine lv_iload hx hb dX10_readsCodes_278 (lv_at hl 0 rfl) ?_
                refine stA 36 rfl (j := t0 + k) (x := bef + nI (acc - acc / 2)) (show t0 + k < 40000 by omega) (by decide) C h dX10_readsCodes_280 (fun H locs h => ?_)
                refine lv_iinc (v := nI (k + 1)) (lv' := [(5, .int (nI (k + 1))), (4, .int (bef + nI (acc - acc / 2))), (14, .long (lN (acc - acc / 2))), (13, .int (nI (0))), (12, .int (nI (1))), (0, .ref (zad z 27)), (1, .int (nI (w))), (2, .int (nI (cnt))), (3, .int (nI (t0))), (6, .int (nI (p))), (7, .long (lN (acc))), (9, .long (lN (wq))), (11, .int (nI (lf)))]) hx hb dX10_readsCodes_281 hl (k := 8) rfl (nN_inc _) (by decide) rfl (fun ls hl => ?_)
                refine lv_goto (tgt := 6) hx hb dX10_readsCodes_284 (by decide) ?_
                refine lv_iload hx hb dX10_readsCodes_6 (lv_at hl 0 rfl) ?_
                refine lv_iload_n hx hb dX10_readsCodes_8 rfl (lv_at hl 7 rfl) ?_
                refine jN_ge (tgt := 287) (a := k + 1) (b := cnt) C (by omega) (by omega) dX10_readsCodes_9 (by decide) (fun c_9 => ?_) (fun c_9 => ?_)
                · skip
                  exact rV C hr hlk h dX10_readsCodes_287 (Nat.le_of_ble_eq_true rfl) (Nat.le_of_ble_eq_true rfl) (by have e : rdL (wt w 1) (wt w 2) (wt w 3) (wt w 4) t n (cnt) (nI 0) (p0) = .inr (2, p) := (by rw [h3, rdL_bad (by omega) hrd (by rw [hs3]; exact (nb_pos (s := 1) c_227 (by decide) c_168).trans (if_neg (by omega)))]; rfl); show rcQ v sc ar t0 (rdL (wt w 1) (wt w 2) (wt w 3) (wt w 4) t n (cnt) (nI 0) (p0)) _; rw [e]; exact ⟨_, _, by rw [va_uu]⟩)
                · skip
                  refine lv_aload_n hx hb dX10_readsCodes_12 rfl (lv_at hl 5 rfl) ?_
                  refine rg_X10_171 C h dX10_readsCodes_13 ?_
                  refine tI (y := nI (2)) rfl ?_
                  refine zN_ne (tgt := 287) (a := 2) C (by decide) dX10_readsCodes_16 (by decide) (fun _ => ?_) (fun q => absurd q (by decide))
                  exact rV C hr hlk h dX10_readsCodes_287 (Nat.le_of_ble_eq_true rfl) (Nat.le_of_ble_eq_true rfl) (by have e : rdL (wt w 1) (wt w 2) (wt w 3) (wt w 4) t n (cnt) (nI 0) (p0) = .inr (2, p) := (by rw [h3, rdL_bad (by omega) hrd (by rw [hs3]; exact (nb_pos (s := 1) c_227 (by decide) c_168).trans (if_neg (by omega)))]; rfl); show rcQ v sc ar t0 (rdL (wt w 1) (wt w 2) (wt w 3) (wt w 4) t n (cnt) (nI 0) (p0)) _; rw [e]; exact ⟨_, _, by rw [va_uu]⟩)
        · skip
          have c_168 : (((acc) + (1)) % (2)) = (0) := (pk_lEQ (by omega) (by omega)).mp ((lg_cmp_eq _ _).mp c_168)
          refine lv_iconst (v := nI (1)) hx hb dX10_readsCodes_171 (by decide) ?_
          refine lv_goto (tgt := 176) hx hb dX10_readsCodes_172 (by decide) ?_
          refine lv_istore (lv' := [(13, .int (nI (1))), (12, .int (nI (1))), (0, .ref (zad z 27)), (1, .int (nI (w))), (2, .int (nI (cnt))), (3, .int (nI (t0))), (4, .int (bef)), (5, .int (nI (k))), (6, .int (nI (p))), (7, .long (lN (acc))), (9, .long (lN (wq))), (11, .int (nI (lf)))]) hx hb dX10_readsCodes_176 hl (by decide) rfl (fun ls hl => ?_)
          refine lv_iload hx hb dX10_readsCodes_178 (lv_at hl 0 rfl) ?_
          refine zN_eq (tgt := 194) (a := 1) C (by decide) dX10_readsCodes_180 (by decide) (fun q => absurd q (by decide)) (fun _ => ?_)
          refine lv_lload hx hb dX10_readsCodes_183 (lv_at hl 9 rfl) ?_
          refine lv_lconst (v := lN 1) hx hb dX10_readsCodes_185 (by decide) ?_
          refine lv_ladd hx hb dX10_readsCodes_186 ?_
          refine tL (y := lN ((acc) + (1))) (lN_add _ _) ?_
          refine lv_iload hx hb dX10_readsCodes_187 (lv_at hl 1 rfl) ?_
          refine lv_lshr (v := lN (((acc) + (1)) / 2)) hx hb dX10_readsCodes_189 (lsrN (k := (acc) + (1)) (by omega) (s := 1) (by decide)) ?_
          refine lv_lneg hx hb dX10_readsCodes_190 ?_
          refine lv_goto (tgt := 212) hx hb dX10_readsCodes_191 (by decide) ?_
          refine lv_lstore (lv' := [(14, .long (-(lN (((acc) + (1)) / 2)))), (13, .int (nI (1))), (12, .int (nI (1))), (0, .ref (zad z 27)), (1, .int (nI (w))), (2, .int (nI (cnt))), (3, .int (nI (t0))), (4, .int (bef)), (5, .int (nI (k))), (6, .int (nI (p))), (7, .long (lN (acc))), (9, .long (lN (wq))), (11, .int (nI (lf)))]) hx hb dX10_readsCodes_212 hl (by decide) rfl (fun ls hl => ?_)
          refine lv_aload_n hx hb dX10_readsCodes_214 rfl (lv_at hl 3 rfl) ?_
          refine rg_X10_171 C h dX10_readsCodes_215 ?_
          refine tI (y := nI (0)) hf0 ?_
          refine zN_ne (tgt := 246) (a := 0) C (by decide) dX10_readsCodes_218 (by decide) (fun q => absurd q (by decide)) (fun _ => ?_)
          refine lv_lload hx hb dX10_readsCodes_221 (lv_at hl 10 rfl) ?_
          refine lv_ldc2 (v := 4294967296) hx hb C.1.2.2.2.1 (C.1.2.2.2.2 _ uk_X10_133) dX10_readsCodes_223 ?_
          refine tL (y := lN 4294967296) (by decide) ?_
          refine W.lcmp hx hb dX10_readsCodes_226 ?_
          refine lv_if_ge (tgt := 239) hx hb dX10_readsCodes_227 (by decide) (fun c_227 => ?_) (fun c_227 => ?_)
          · skip
            have c_227 : (4294967296) ≤ (acc) := (pk_lLE (by omega) (by omega)).mp ((lg_cmp_ge _ _).mp c_227)
            refine lv_aload_n hx hb dX10_readsCodes_239 rfl (lv_at hl 3 rfl) ?_
            refine lv_iconst (v := nI (2)) hx hb dX10_readsCodes_240 (by decide) ?_
            refine lv_iload hx hb dX10_readsCodes_241 (lv_at hl 9 rfl) ?_
            refine backV h (runV (As := [.int (nI (2)), .int (nI (p))]) (rest := []) C h (r_fails l z v (va_up sc 32 (nI (p2))) (va_up ar 36 (wrR (ar 36) t0 (xs))) (nI 2) (nI p)) gv_X10_180 gv_X10_180_n ⟨rfl, rfl⟩ (r_Ref C h) rfl hl.1 rfl (Nat.le_of_ble_eq_true rfl) dX10_readsCodes_243 ⟨Nat.le_of_ble_eq_true rfl, Nat.le_of_ble_eq_true rfl⟩ ⟨Nat.le_of_ble_eq_true rfl, Nat.le_of_ble_eq_true rfl⟩) (fun v_243 sc_243 ar_243 H locs p_243 h => ?_)
            have h : hH z v (va_up (va_up (va_up sc 32 (nI (p2))) 33 (nI 2)) 34 (nI p)) (va_up ar 36 (wrR (ar 36) t0 (xs))) s H locs := uEq p_243 h
            refine lv_aload_n hx hb dX10_readsCodes_246 rfl (lv_at hl 3 rfl) ?_
            refine rg_X10_22 C h dX10_readsCodes_247 ?_
            refine lv_iload_n hx hb dX10_readsCodes_250 rfl (lv_at hl 4 rfl) ?_
            refine ldA 32 rfl (j := w) (show w < 40 by omega) (by decide) C h dX10_readsCodes_251 ?_
            refine tI (y := nI (wt w 4)) (hRW w hw).2.2.2.2.1 ?_
            refine lv_iconst (v := nI (1)) hx hb dX10_readsCodes_252 (by decide) ?_
            refine jN_ne (tgt := 265) (a := wt w 4) (b := 1) C (by omega) (by omega) dX10_readsCodes_253 (by decide) (fun c_253 => ?_) (fun c_253 => ?_)
            · skip
              refine lv_lload hx hb dX10_readsCodes_265 (lv_at hl 0 rfl) ?_
              refine lv_l2i (v := (-(lN (((acc) + (1)) / 2))).toInt32) hx hb dX10_readsCodes_267 rfl ?_
              refine lv_istore (lv' := [(4, .int ((-(lN (((acc) + (1)) / 2))).toInt32)), (14, .long (-(lN (((acc) + (1)) / 2)))), (13, .int (nI (1))), (12, .int (nI (1))), (0, .ref (zad z 27)), (1, .int (nI (w))), (2, .int (nI (cnt))), (3, .int (nI (t0))), (5, .int (nI (k))), (6, .int (nI (p))), (7, .long (lN (acc))), (9, .long (lN (wq))), (11, .int (nI (lf)))]) hx hb dX10_readsCodes_268 hl (by decide) rfl (fun ls hl => ?_)
              refine lv_aload_n hx hb dX10_readsCodes_270 rfl (lv_at hl 4 rfl) ?_
              refine rg_X10_48 C h dX10_readsCodes_271 ?_
              refine lv_iload_n hx hb dX10_readsCodes_274 rfl (lv_at hl 7 rfl) ?_
              refine lv_iload hx hb dX10_readsCodes_275 (lv_at hl 8 rfl) ?_
              refine lv_iadd hx hb dX10_readsCodes_277 ?_
              refine tI (y := nI (t0 + k)) (nI_add _ _) ?_
              refine lv_iload hx hb dX10_readsCodes_278 (lv_at hl 0 rfl) ?_
              refine stA 36 rfl (j := t0 + k) (x := (-(lN (((acc) + (1)) / 2))).toInt32) (show t0 + k < 40000 by omega) (by decide) C h dX10_readsCodes_280 (fun H locs h => ?_)
              refine lv_iinc (v := nI (k + 1)) (lv' := [(5, .int (nI (k + 1))), (4, .int ((-(lN (((acc) + (1)) / 2))).toInt32)), (14, .long (-(lN (((acc) + (1)) / 2)))), (13, .int (nI (1))), (12, .int (nI (1))), (0, .ref (zad z 27)), (1, .int (nI (w))), (2, .int (nI (cnt))), (3, .int (nI (t0))), (6, .int (nI (p))), (7, .long (lN (acc))), (9, .long (lN (wq))), (11, .int (nI (lf)))]) hx hb dX10_readsCodes_281 hl (k := 8) rfl (nN_inc _) (by decide) rfl (fun ls hl => ?_)
              refine lv_goto (tgt := 6) hx hb dX10_readsCodes_284 (by decide) ?_
              refine lv_iload hx hb dX10_readsCodes_6 (lv_at hl 0 rfl) ?_
              refine lv_iload_n hx hb dX10_readsCodes_8 rfl (lv_at hl 7 rfl) ?_
              refine jN_ge (tgt := 287) (a := k + 1) (b := cnt) C (by omega) (by omega) dX10_readsCodes_9 (by decide) (fun c_9 => ?_) (fun c_9 => ?_)
              · skip
                exact rV C hr hlk h dX10_readsCodes_287 (Nat.le_of_ble_eq_true rfl) (Nat.le_of_ble_eq_true rfl) (by have e : rdL (wt w 1) (wt w 2) (wt w 3) (wt w 4) t n (cnt) (nI 0) (p0) = .inr (2, p) := (by rw [h3, rdL_bad (by omega) hrd (by rw [hs3]; exact nb_hi c_227)]; rfl); show rcQ v sc ar t0 (rdL (wt w 1) (wt w 2) (wt w 3) (wt w 4) t n (cnt) (nI 0) (p0)) _; rw [e]; exact ⟨_, _, by rw [va_uu]⟩)
              · skip
                refine lv_aload_n hx hb dX10_readsCodes_12 rfl (lv_at hl 5 rfl) ?_
                refine rg_X10_171 C h dX10_readsCodes_13 ?_
                refine tI (y := nI (2)) rfl ?_
                refine zN_ne (tgt := 287) (a := 2) C (by decide) dX10_readsCodes_16 (by decide) (fun _ => ?_) (fun q => absurd q (by decide))
                exact rV C hr hlk h dX10_readsCodes_287 (Nat.le_of_ble_eq_true rfl) (Nat.le_of_ble_eq_true rfl) (by have e : rdL (wt w 1) (wt w 2) (wt w 3) (wt w 4) t n (cnt) (nI 0) (p0) = .inr (2, p) := (by rw [h3, rdL_bad (by omega) hrd (by rw [hs3]; exact nb_hi c_227)]; rfl); show rcQ v sc ar t0 (rdL (wt w 1) (wt w 2) (wt w 3) (wt w 4) t n (cnt) (nI 0) (p0)) _; rw [e]; exact ⟨_, _, by rw [va_uu]⟩)
            · skip
              refine lv_iload hx hb dX10_readsCodes_256 (lv_at hl 7 rfl) ?_
              refine lv_lload hx hb dX10_readsCodes_258 (lv_at hl 0 rfl) ?_
              refine lv_l2i (v := (-(lN (((acc) + (1)) / 2))).toInt32) hx hb dX10_readsCodes_260 rfl ?_
              refine lv_iadd hx hb dX10_readsCodes_261 ?_
              refine lv_goto (tgt := 268) hx hb dX10_readsCodes_262 (by decide) ?_
              refine lv_istore (lv' := [(4, .int (bef + (-(lN (((acc) + (1)) / 2))).toInt32)), (14, .long (-(lN (((acc) + (1)) / 2)))), (13, .int (nI (1))), (12, .int (nI (1))), (0, .ref (zad z 27)), (1, .int (nI (w))), (2, .int (nI (cnt))), (3, .int (nI (t0))), (5, .int (nI (k))), (6, .int (nI (p))), (7, .long (lN (acc))), (9, .long (lN (wq))), (11, .int (nI (lf)))]) hx hb dX10_readsCodes_268 hl (by decide) rfl (fun ls hl => ?_)
              refine lv_aload_n hx hb dX10_readsCodes_270 rfl (lv_at hl 4 rfl) ?_
              refine rg_X10_48 C h dX10_readsCodes_271 ?_
              refine lv_iload_n hx hb dX10_readsCodes_274 rfl (lv_at hl 7 rfl) ?_
              refine lv_iload hx hb dX10_readsCodes_275 (lv_at hl 8 rfl) ?_
              refine lv_iadd hx hb dX10_readsCodes_277 ?_
              refine tI (y := nI (t0 + k)) (nI_add _ _) ?_
              refine lv_iload hx hb dX10_readsCodes_278 (lv_at hl 0 rfl) ?_
              refine stA 36 rfl (j := t0 + k) (x := bef + (-(lN (((acc) + (1)) / 2))).toInt32) (show t0 + k < 40000 by omega) (by decide) C h dX10_readsCodes_280 (fun H locs h => ?_)
              refine lv_iinc (v := nI (k + 1)) (lv' := [(5, .int (nI (k + 1))), (4, .int (bef + (-(lN (((acc) + (1)) / 2))).toInt32)), (14, .long (-(lN (((acc) + (1)) / 2)))), (13, .int (nI (1))), (12, .int (nI (1))), (0, .ref (zad z 27)), (1, .int (nI (w))), (2, .int (nI (cnt))), (3, .int (nI (t0))), (6, .int (nI (p))), (7, .long (lN (acc))), (9, .long (lN (wq))), (11, .int (nI (lf)))]) hx hb dX10_readsCodes_281 hl (k := 8) rfl (nN_inc _) (by decide) rfl (fun ls hl => ?_)
              refine lv_goto (tgt := 6) hx hb dX10_readsCodes_284 (by decide) ?_
              refine lv_iload hx hb dX10_readsCodes_6 (lv_at hl 0 rfl) ?_
              refine lv_iload_n hx hb dX10_readsCodes_8 rfl (lv_at hl 7 rfl) ?_
              refine jN_ge (tgt := 287) (a := k + 1) (b := cnt) C (by omega) (by omega) dX10_readsCodes_9 (by decide) (fun c_9 => ?_) (fun c_9 => ?_)
              · skip
                exact rV C hr hlk h dX10_readsCodes_287 (Nat.le_of_ble_eq_true rfl) (Nat.le_of_ble_eq_true rfl) (by have e : rdL (wt w 1) (wt w 2) (wt w 3) (wt w 4) t n (cnt) (nI 0) (p0) = .inr (2, p) := (by rw [h3, rdL_bad (by omega) hrd (by rw [hs3]; exact nb_hi c_227)]; rfl); show rcQ v sc ar t0 (rdL (wt w 1) (wt w 2) (wt w 3) (wt w 4) t n (cnt) (nI 0) (p0)) _; rw [e]; exact ⟨_, _, by rw [va_uu]⟩)
              · skip
                refine lv_aload_n hx hb dX10_readsCodes_12 rfl (lv_at hl 5 rfl) ?_
                refine rg_X10_171 C h dX10_readsCodes_13 ?_
                refine tI (y := nI (2)) rfl ?_
                refine zN_ne (tgt := 287) (a := 2) C (by decide) dX10_readsCodes_16 (by decide) (fun _ => ?_) (fun q => absurd q (by decide))
                exact rV C hr hlk h dX10_readsCodes_287 (Nat.le_of_ble_eq_true rfl) (Nat.le_of_ble_eq_true rfl) (by have e : rdL (wt w 1) (wt w 2) (wt w 3) (wt w 4) t n (cnt) (nI 0) (p0) = .inr (2, p) := (by rw [h3, rdL_bad (by omega) hrd (by rw [hs3]; exact nb_hi c_227)]; rfl); show rcQ v sc ar t0 (rdL (wt w 1) (wt w 2) (wt w 3) (wt w 4) t n (cnt) (nI 0) (p0)) _; rw [e]; exact ⟨_, _, by rw [va_uu]⟩)
          · skip
            have c_227 : (acc) < (4294967296) := Nat.not_le.mp (fun q => c_227 ((lg_cmp_ge _ _).mpr ((pk_lLE (by omega) (by omega)).mpr q)))
            refine lv_lload hx hb dX10_readsCodes_230 (lv_at hl 0 rfl) ?_
            refine lv_ldc2 (v := 2147483648) hx hb C.1.2.2.2.1 (C.1.2.2.2.2 _ uk_X10_184) dX10_readsCodes_232 ?_
            refine tL (y := lN 2147483648) (by decide) ?_
            refine W.lcmp hx hb dX10_readsCodes_235 ?_
            refine lv_if_lt (tgt := 246) hx hb dX10_readsCodes_236 (by decide) (fun c_236 => ?_) (fun c_236 => ?_)
            · skip
              have c_236 : (-(lN (((acc) + (1)) / 2))) < (lN (2147483648)) := (lg_cmp_lt _ _).mp c_236
              refine lv_aload_n hx hb dX10_readsCodes_246 rfl (lv_at hl 3 rfl) ?_
              refine rg_X10_22 C h dX10_readsCodes_247 ?_
              refine lv_iload_n hx hb dX10_readsCodes_250 rfl (lv_at hl 4 rfl) ?_
              refine ldA 32 rfl (j := w) (show w < 40 by omega) (by decide) C h dX10_readsCodes_251 ?_
              refine tI (y := nI (wt w 4)) (hRW w hw).2.2.2.2.1 ?_
              refine lv_iconst (v := nI (1)) hx hb dX10_readsCodes_252 (by decide) ?_
              refine jN_ne (tgt := 265) (a := wt w 4) (b := 1) C (by omega) (by omega) dX10_readsCodes_253 (by decide) (fun c_253 => ?_) (fun c_253 => ?_)
              · skip
                refine lv_lload hx hb dX10_readsCodes_265 (lv_at hl 0 rfl) ?_
                refine lv_l2i (v := (-(lN (((acc) + (1)) / 2))).toInt32) hx hb dX10_readsCodes_267 rfl ?_
                refine lv_istore (lv' := [(4, .int ((-(lN (((acc) + (1)) / 2))).toInt32)), (14, .long (-(lN (((acc) + (1)) / 2)))), (13, .int (nI (1))), (12, .int (nI (1))), (0, .ref (zad z 27)), (1, .int (nI (w))), (2, .int (nI (cnt))), (3, .int (nI (t0))), (5, .int (nI (k))), (6, .int (nI (p))), (7, .long (lN (acc))), (9, .long (lN (wq))), (11, .int (nI (lf)))]) hx hb dX10_readsCodes_268 hl (by decide) rfl (fun ls hl => ?_)
                refine lv_aload_n hx hb dX10_readsCodes_270 rfl (lv_at hl 4 rfl) ?_
                refine rg_X10_48 C h dX10_readsCodes_271 ?_
                refine lv_iload_n hx hb dX10_readsCodes_274 rfl (lv_at hl 7 rfl) ?_
                refine lv_iload hx hb dX10_readsCodes_275 (lv_at hl 8 rfl) ?_
                refine lv_iadd hx hb dX10_readsCodes_277 ?_
                refine tI (y := nI (t0 + k)) (nI_add _ _) ?_
                refine lv_iload hx hb dX10_readsCodes_278 (lv_at hl 0 rfl) ?_
                refine stA 36 rfl (j := t0 + k) (x := (-(lN (((acc) + (1)) / 2))).toInt32) (show t0 + k < 40000 by omega) (by decide) C h dX10_readsCodes_280 (fun H locs h => ?_)
                have h := rr_put (by omega) h
                have h : hH z v (va_up sc 32 (nI (p2))) (va_up ar 36 (wrR (ar 36) t0 (xs ++ [(-(lN (((acc) + (1)) / 2))).toInt32]))) s H locs := h
                refine lv_iinc (v := nI (k + 1)) (lv' := [(5, .int (nI (k + 1))), (4, .int ((-(lN (((acc) + (1)) / 2))).toInt32)), (14, .long (-(lN (((acc) + (1)) / 2)))), (13, .int (nI (1))), (12, .int (nI (1))), (0, .ref (zad z 27)), (1, .int (nI (w))), (2, .int (nI (cnt))), (3, .int (nI (t0))), (6, .int (nI (p))), (7, .long (lN (acc))), (9, .long (lN (wq))), (11, .int (nI (lf)))]) hx hb dX10_readsCodes_281 hl (k := 8) rfl (nN_inc _) (by decide) rfl (fun ls hl => ?_)
                refine lv_goto (tgt := 6) hx hb dX10_readsCodes_284 (by decide) ?_
                exact ih_6 (k + 1) ((-(lN (((acc) + (1)) / 2))).toInt32) (p2) (xs ++ [(-(lN (((acc) + (1)) / 2))).toInt32]) (by omega) H locs ls ⟨by omega, by simp; omega, by omega, by rw [h3, rdL_ok (i := (-(((acc + 1) / 2 : Nat) : Int))) (by omega) hrd (by rw [hs3]; exact nb_neg (s := 1) c_227 (by decide) c_168), ← (show (-(lN (((acc) + (1)) / 2))).toInt32 = if (wt w 4) = 1 then bef + Int32.ofInt (-(((acc + 1) / 2 : Nat) : Int)) else Int32.ofInt (-(((acc + 1) / 2 : Nat) : Int)) by rw [if_neg c_253, ← (i2neg (X := (acc + 1) / 2) (by omega))]), rdPre_app, show cnt - k - 1 = cnt - (k + 1) by omega], h, lv_sub hl [5, 6, 7, 8, 1, 0] rfl⟩
              · skip
                refine lv_iload hx hb dX10_readsCodes_256 (lv_at hl 7 rfl) ?_
                refine lv_lload hx hb dX10_readsCodes_258 (lv_at hl 0 rfl) ?_
                refine lv_l2i (v := (-(lN (((acc) + (1)) / 2))).toInt32) hx hb dX10_readsCodes_260 rfl ?_
                refine lv_iadd hx hb dX10_readsCodes_261 ?_
                refine lv_goto (tgt := 268) hx hb dX10_readsCodes_262 (by decide) ?_
                refine lv_istore (lv' := [(4, .int (bef + (-(lN (((acc) + (1)) / 2))).toInt32)), (14, .long (-(lN (((acc) + (1)) / 2)))), (13, .int (nI (1))), (12, .int (nI (1))), (0, .ref (zad z 27)), (1, .int (nI (w))), (2, .int (nI (cnt))), (3, .int (nI (t0))), (5, .int (nI (k))), (6, .int (nI (p))), (7, .long (lN (acc))), (9, .long (lN (wq))), (11, .int (nI (lf)))]) hx hb dX10_readsCodes_268 hl (by decide) rfl (fun ls hl => ?_)
                refine lv_aload_n hx hb dX10_readsCodes_270 rfl (lv_at hl 4 rfl) ?_
                refine rg_X10_48 C h dX10_readsCodes_271 ?_
                refine lv_iload_n hx hb dX10_readsCodes_274 rfl (lv_at hl 7 rfl) ?_
                refine lv_iload hx hb dX10_readsCodes_275 (lv_at hl 8 rfl) ?_
                refine lv_iadd hx hb dX10_readsCodes_277 ?_
                refine tI (y := nI (t0 + k)) (nI_add _ _) ?_
                refine lv_iload hx hb dX10_readsCodes_278 (lv_at hl 0 rfl) ?_
                refine stA 36 rfl (j := t0 + k) (x := bef + (-(lN (((acc) + (1)) / 2))).toInt32) (show t0 + k < 40000 by omega) (by decide) C h dX10_readsCodes_280 (fun H locs h => ?_)
                have h := rr_put (by omega) h
                have h : hH z v (va_up sc 32 (nI (p2))) (va_up ar 36 (wrR (ar 36) t0 (xs ++ [bef + (-(lN (((acc) + (1)) / 2))).toInt32]))) s H locs := h
                refine lv_iinc (v := nI (k + 1)) (lv' := [(5, .int (nI (k + 1))), (4, .int (bef + (-(lN (((acc) + (1)) / 2))).toInt32)), (14, .long (-(lN (((acc) + (1)) / 2)))), (13, .int (nI (1))), (12, .int (nI (1))), (0, .ref (zad z 27)), (1, .int (nI (w))), (2, .int (nI (cnt))), (3, .int (nI (t0))), (6, .int (nI (p))), (7, .long (lN (acc))), (9, .long (lN (wq))), (11, .int (nI (lf)))]) hx hb dX10_readsCodes_281 hl (k := 8) rfl (nN_inc _) (by decide) rfl (fun ls hl => ?_)
                refine lv_goto (tgt := 6) hx hb dX10_readsCodes_284 (by decide) ?_
                exact ih_6 (k + 1) (bef + (-(lN (((acc) + (1)) / 2))).toInt32) (p2) (xs ++ [bef + (-(lN (((acc) + (1)) / 2))).toInt32]) (by omega) H locs ls ⟨by omega, by simp; omega, by omega, by rw [h3, rdL_ok (i := (-(((acc + 1) / 2 : Nat) : Int))) (by omega) hrd (by rw [hs3]; exact nb_neg (s := 1) c_227 (by decide) c_168), ← (show bef + (-(lN (((acc) + (1)) / 2))).toInt32 = if (wt w 4) = 1 then bef + Int32.ofInt (-(((acc + 1) / 2 : Nat) : Int)) else Int32.ofInt (-(((acc + 1) / 2 : Nat) : Int)) by rw [if_pos c_253, ← (i2neg (X := (acc + 1) / 2) (by omega))]), rdPre_app, show cnt - k - 1 = cnt - (k + 1) by omega], h, lv_sub hl [5, 6, 7, 8, 1, 0] rfl⟩
            · skip
              have c_236 : ¬ (-(lN (((acc) + (1)) / 2))) < (lN (2147483648)) := fun q => c_236 ((lg_cmp_lt _ _).mpr q)
              exact absurd (neg_ltL (by omega)) c_236
      · skip
        refine lv_aload_n hx hb dX10_readsCodes_44 rfl (lv_at hl 0 rfl) ?_
        refine rg_X10_171 C h dX10_readsCodes_45 ?_
        refine tI (y := nI (0)) hf0 ?_
        refine zN_ne (tgt := 144) (a := 0) C (by decide) dX10_readsCodes_48 (by decide) (fun q => absurd q (by decide)) (fun _ => ?_)
        refine lv_aload_n hx hb dX10_readsCodes_51 rfl (lv_at hl 0 rfl) ?_
        refine rg_X10_177 C h dX10_readsCodes_52 ?_
        refine tI (y := nI (p2)) rfl ?_
        refine lv_aload_n hx hb dX10_readsCodes_55 rfl (lv_at hl 0 rfl) ?_
        refine rg_X10_168 C h dX10_readsCodes_56 ?_
        refine tI (y := nI (n)) hn ?_
        refine jN_ne (tgt := 72) (a := p2) (b := n) C (by omega) (by omega) dX10_readsCodes_59 (by decide) (fun c_59 => ?_) (fun c_59 => ?_)
        · skip
          refine lv_aload_n hx hb dX10_readsCodes_72 rfl (lv_at hl 0 rfl) ?_
          refine rg_X10_31 C h dX10_readsCodes_73 ?_
          refine lv_aload_n hx hb dX10_readsCodes_76 rfl (lv_at hl 0 rfl) ?_
          refine rg_X10_177 C h dX10_readsCodes_77 ?_
          refine tI (y := nI (p2)) rfl ?_
          refine ldA 35 rfl (j := p2) (show p2 < 8000 by omega) (by decide) C h dX10_readsCodes_80 ?_
          refine tI (y := nI (t p2)) (hT p2 (by omega)) ?_
          refine lv_istore (lv' := [(12, .int (nI (t p2))), (0, .ref (zad z 27)), (1, .int (nI (w))), (2, .int (nI (cnt))), (3, .int (nI (t0))), (4, .int (bef)), (5, .int (nI (k))), (6, .int (nI (p))), (7, .long (lN (acc))), (9, .long (lN (wq))), (11, .int (nI (lf)))]) hx hb dX10_readsCodes_81 hl (by decide) rfl (fun ls hl => ?_)
          refine lv_aload_n hx hb dX10_readsCodes_83 rfl (lv_at hl 1 rfl) ?_
          refine lv_dup hx hb dX10_readsCodes_84 rfl ?_
          refine rg_X10_177 C h dX10_readsCodes_85 ?_
          refine tI (y := nI (p2)) rfl ?_
          refine lv_iconst (v := nI (1)) hx hb dX10_readsCodes_88 (by decide) ?_
          refine lv_iadd hx hb dX10_readsCodes_89 ?_
          refine tI (y := nI (p2 + 1)) (nI_add _ _) ?_
          refine rp_X10_177 C h dX10_readsCodes_90 (fun H locs h => ?_)
          rw [va_uu] at h
          have h : hH z v (va_up sc 32 (nI (p2 + 1))) (va_up ar 36 (wrR (ar 36) t0 (xs))) s H locs := h
          refine lv_lload hx hb dX10_readsCodes_93 (lv_at hl 8 rfl) ?_
          refine lv_iload hx hb dX10_readsCodes_95 (lv_at hl 0 rfl) ?_
          refine lv_i2l (v := lN (t p2)) hx hb dX10_readsCodes_97 (nI_l (by omega)) ?_
          refine lv_lload hx hb dX10_readsCodes_98 (lv_at hl 9 rfl) ?_
          refine lv_lmul hx hb dX10_readsCodes_100 ?_
          refine tL (y := lN (t p2 * wq)) (lN_mul _ _) ?_
          refine lv_ladd hx hb dX10_readsCodes_101 ?_
          refine tL (y := lN (acc + t p2 * wq)) (lN_add _ _) ?_
          refine lv_lstore (lv' := [(7, .long (lN (acc + t p2 * wq))), (12, .int (nI (t p2))), (0, .ref (zad z 27)), (1, .int (nI (w))), (2, .int (nI (cnt))), (3, .int (nI (t0))), (4, .int (bef)), (5, .int (nI (k))), (6, .int (nI (p))), (9, .long (lN (wq))), (11, .int (nI (lf)))]) hx hb dX10_readsCodes_102 hl (by decide) rfl (fun ls hl => ?_)
          refine lv_lload hx hb dX10_readsCodes_104 (lv_at hl 9 rfl) ?_
          refine lv_aload_n hx hb dX10_readsCodes_106 rfl (lv_at hl 2 rfl) ?_
          refine rg_X10_16 C h dX10_readsCodes_107 ?_
          refine lv_iload_n hx hb dX10_readsCodes_110 rfl (lv_at hl 3 rfl) ?_
          refine ldA 30 rfl (j := w) (show w < 40 by omega) (by decide) C h dX10_readsCodes_111 ?_
          refine tI (y := nI (wt w 2)) (hRW w hw).2.2.1 ?_
          refine lv_i2l (v := lN (wt w 2)) hx hb dX10_readsCodes_112 (nI_l (by omega)) ?_
          refine lv_lmul hx hb dX10_readsCodes_113 ?_
          refine tL (y := lN (wq * wt w 2)) (lN_mul _ _) ?_
          refine lv_lstore (lv' := [(9, .long (lN (wq * wt w 2))), (7, .long (lN (acc + t p2 * wq))), (12, .int (nI (t p2))), (0, .ref (zad z 27)), (1, .int (nI (w))), (2, .int (nI (cnt))), (3, .int (nI (t0))), (4, .int (bef)), (5, .int (nI (k))), (6, .int (nI (p))), (11, .int (nI (lf)))]) hx hb dX10_readsCodes_114 hl (by decide) rfl (fun ls hl => ?_)
          refine lv_iload hx hb dX10_readsCodes_116 (lv_at hl 2 rfl) ?_
          refine lv_sipush (v := nI (256)) hx hb dX10_readsCodes_118 (by decide) ?_
          refine lv_aload_n hx hb dX10_readsCodes_121 rfl (lv_at hl 3 rfl) ?_
          refine rg_X10_16 C h dX10_readsCodes_122 ?_
          refine lv_iload_n hx hb dX10_readsCodes_125 rfl (lv_at hl 4 rfl) ?_
          refine ldA 30 rfl (j := w) (show w < 40 by omega) (by decide) C h dX10_readsCodes_126 ?_
          refine tI (y := nI (wt w 2)) (hRW w hw).2.2.1 ?_
          refine lv_isub hx hb dX10_readsCodes_127 ?_
          refine tI (y := nI (256 - wt w 2)) (pk_sub (by omega)) ?_
          refine jN_ge (tgt := 135) (a := t p2) (b := 256 - wt w 2) C (by omega) (by omega) dX10_readsCodes_128 (by decide) (fun c_128 => ?_) (fun c_128 => ?_)
          · skip
            refine lv_iload hx hb dX10_readsCodes_135 (lv_at hl 10 rfl) ?_
            refine lv_iconst (v := nI (1)) hx hb dX10_readsCodes_137 (by decide) ?_
            refine lv_isub hx hb dX10_readsCodes_138 ?_
            refine tI (y := nI (lf - 1)) (pk_sub (by omega)) ?_
            refine lv_istore (lv' := [(11, .int (nI (lf - 1))), (9, .long (lN (wq * wt w 2))), (7, .long (lN (acc + t p2 * wq))), (12, .int (nI (t p2))), (0, .ref (zad z 27)), (1, .int (nI (w))), (2, .int (nI (cnt))), (3, .int (nI (t0))), (4, .int (bef)), (5, .int (nI (k))), (6, .int (nI (p)))]) hx hb dX10_readsCodes_139 hl (by decide) rfl (fun ls hl => ?_)
            refine lv_goto (tgt := 39) hx hb dX10_readsCodes_141 (by decide) ?_
            exact ih_39 (i + 1) (lf - 1) (acc + t p2 * wq) (wq * wt w 2) (p2 + 1) (by omega) H locs ls ⟨⟨by omega, by omega⟩, ⟨pw1 i2.1 (ht p2) i2.2, pw2 i2.2 hH2⟩, by omega, by rw [i4, rdc_hi (by omega) (by omega) c_128, Option.map_map]; congr 1; funext q; simp only [Function.comp, Nat.mul_add, Nat.mul_comm, Nat.mul_left_comm, Nat.add_assoc], h, lv_sub hl [4, 5, 6, 7, 8, 9, 10, 2, 1, 0] rfl⟩
          · skip
            refine lv_iconst (v := nI (0)) hx hb dX10_readsCodes_131 (by decide) ?_
            refine lv_goto (tgt := 139) hx hb dX10_readsCodes_132 (by decide) ?_
            refine lv_istore (lv' := [(11, .int (nI (0))), (9, .long (lN (wq * wt w 2))), (7, .long (lN (acc + t p2 * wq))), (12, .int (nI (t p2))), (0, .ref (zad z 27)), (1, .int (nI (w))), (2, .int (nI (cnt))), (3, .int (nI (t0))), (4, .int (bef)), (5, .int (nI (k))), (6, .int (nI (p)))]) hx hb dX10_readsCodes_139 hl (by decide) rfl (fun ls hl => ?_)
            refine lv_goto (tgt := 39) hx hb dX10_readsCodes_141 (by decide) ?_
            exact ih_39 (i + 1) (0) (acc + t p2 * wq) (wq * wt w 2) (p2 + 1) (by omega) H locs ls ⟨⟨by omega, by omega⟩, ⟨pw1 i2.1 (ht p2) i2.2, pw2 i2.2 hH2⟩, by omega, by rw [i4, rdc_lo (by omega) (by omega) c_128]; simp [rdc, Nat.mul_comm], h, lv_sub hl [4, 5, 6, 7, 8, 9, 10, 2, 1, 0] rfl⟩
        · skip
          have hrd : rdc (wt w 1) (wt w 2) t n p = none := by rw [i4, rdc_end (by omega) (by omega)]; rfl
          refine lv_aload_n hx hb dX10_readsCodes_62 rfl (lv_at hl 0 rfl) ?_
          refine lv_iconst (v := nI (1)) hx hb dX10_readsCodes_63 (by decide) ?_
          refine lv_iload hx hb dX10_readsCodes_64 (lv_at hl 6 rfl) ?_
          refine backV h (runV (As := [.int (nI (1)), .int (nI (p))]) (rest := []) C h (r_fails l z v (va_up sc 32 (nI (p2))) (va_up ar 36 (wrR (ar 36) t0 (xs))) (nI 1) (nI p)) gv_X10_180 gv_X10_180_n ⟨rfl, rfl⟩ (r_Ref C h) rfl hl.1 rfl (Nat.le_of_ble_eq_true rfl) dX10_readsCodes_66 ⟨Nat.le_of_ble_eq_true rfl, Nat.le_of_ble_eq_true rfl⟩ ⟨Nat.le_of_ble_eq_true rfl, Nat.le_of_ble_eq_true rfl⟩) (fun v_66 sc_66 ar_66 H locs p_66 h => ?_)
          have h : hH z v (va_up (va_up (va_up sc 32 (nI (p2))) 33 (nI 1)) 34 (nI p)) (va_up ar 36 (wrR (ar 36) t0 (xs))) s H locs := uEq p_66 h
          refine lv_goto (tgt := 39) hx hb dX10_readsCodes_69 (by decide) ?_
          refine lv_iload hx hb dX10_readsCodes_39 (lv_at hl 9 rfl) ?_
          refine zN_le (tgt := 144) (a := lf) C (by omega) dX10_readsCodes_41 (by decide) (fun c_41 => ?_) (fun c_41 => ?_)
          · skip
            omega
          · skip
            refine lv_aload_n hx hb dX10_readsCodes_44 rfl (lv_at hl 0 rfl) ?_
            refine rg_X10_171 C h dX10_readsCodes_45 ?_
            refine tI (y := nI (1)) rfl ?_
            refine zN_ne (tgt := 144) (a := 1) C (by decide) dX10_readsCodes_48 (by decide) (fun _ => ?_) (fun q => absurd q (by decide))
            refine lv_aload_n hx hb dX10_readsCodes_144 rfl (lv_at hl 0 rfl) ?_
            refine rg_X10_19 C h dX10_readsCodes_145 ?_
            refine lv_iload_n hx hb dX10_readsCodes_148 rfl (lv_at hl 1 rfl) ?_
            refine ldA 31 rfl (j := w) (show w < 40 by omega) (by decide) C h dX10_readsCodes_149 ?_
            refine tI (y := nI (1)) ((hRW w hw).2.2.2.1.trans (by rw [hs3])) ?_
            refine lv_istore (lv' := [(12, .int (nI (1))), (0, .ref (zad z 27)), (1, .int (nI (w))), (2, .int (nI (cnt))), (3, .int (nI (t0))), (4, .int (bef)), (5, .int (nI (k))), (6, .int (nI (p))), (7, .long (lN (acc))), (9, .long (lN (wq))), (11, .int (nI (lf)))]) hx hb dX10_readsCodes_150 hl (by decide) rfl (fun ls hl => ?_)
            refine lv_iload hx hb dX10_readsCodes_152 (lv_at hl 0 rfl) ?_
            refine zN_le (tgt := 175) (a := 1) C (by decide) dX10_readsCodes_154 (by decide) (fun q => absurd q (by decide)) (fun _ => ?_)
            refine lv_lload hx hb dX10_readsCodes_157 (lv_at hl 8 rfl) ?_
            refine lv_lconst (v := lN 1) hx hb dX10_readsCodes_159 (by decide) ?_
            refine lv_ladd hx hb dX10_readsCodes_160 ?_
            refine tL (y := lN ((acc) + (1))) (lN_add _ _) ?_
            refine lv_lconst (v := lN 1) hx hb dX10_readsCodes_161 (by decide) ?_
            refine lv_iload hx hb dX10_readsCodes_162 (lv_at hl 0 rfl) ?_
            refine lv_lshl (v := lN (2)) hx hb dX10_readsCodes_164 (by decide) ?_
            refine lv_lrem hx hb dX10_readsCodes_165 (lN_ne0 (by omega) (by omega)) ?_
            refine tL (pk_lRem (by omega) (by omega) (by omega)) ?_
            refine lv_lconst (v := lN 0) hx hb dX10_readsCodes_166 (by decide) ?_
            refine W.lcmp hx hb dX10_readsCodes_167 ?_
            refine lv_if_ne (tgt := 175) hx hb dX10_readsCodes_168 (by decide) (fun c_168 => ?_) (fun c_168 => ?_)
            · skip
              have c_168 : ¬ (((acc) + (1)) % (2)) = (0) := fun q => c_168 ((lg_cmp_eq _ _).mpr ((pk_lEQ (by omega) (by omega)).mpr q))
              refine lv_iconst (v := nI (0)) hx hb dX10_readsCodes_175 (by decide) ?_
              refine lv_istore (lv' := [(13, .int (nI (0))), (12, .int (nI (1))), (0, .ref (zad z 27)), (1, .int (nI (w))), (2, .int (nI (cnt))), (3, .int (nI (t0))), (4, .int (bef)), (5, .int (nI (k))), (6, .int (nI (p))), (7, .long (lN (acc))), (9, .long (lN (wq))), (11, .int (nI (lf)))]) hx hb dX10_readsCodes_176 hl (by decide) rfl (fun ls hl => ?_)
              refine lv_iload hx hb dX10_readsCodes_178 (lv_at hl 0 rfl) ?_
              refine zN_eq (tgt := 194) (a := 0) C (by decide) dX10_readsCodes_180 (by decide) (fun _ => ?_) (fun q => absurd q (by decide))
              refine lv_iload hx hb dX10_readsCodes_194 (lv_at hl 1 rfl) ?_
              refine zN_ne (tgt := 204) (a := 1) C (by decide) dX10_readsCodes_196 (by decide) (fun _ => ?_) (fun q => absurd q (by decide))
              refine lv_lload hx hb dX10_readsCodes_204 (lv_at hl 9 rfl) ?_
              refine lv_lload hx hb dX10_readsCodes_206 (lv_at hl 9 rfl) ?_
              refine lv_iload hx hb dX10_readsCodes_208 (lv_at hl 1 rfl) ?_
              refine lv_lshr (v := lN (acc / 2)) hx hb dX10_readsCodes_210 (lsrN (k := acc) (by omega) (s := 1) (by decide)) ?_
              refine lv_lsub hx hb dX10_readsCodes_211 ?_
              refine tL (y := lN (acc - acc / 2)) (lN_sub (by omega)) ?_
              refine lv_lstore (lv' := [(14, .long (lN (acc - acc / 2))), (13, .int (nI (0))), (12, .int (nI (1))), (0, .ref (zad z 27)), (1, .int (nI (w))), (2, .int (nI (cnt))), (3, .int (nI (t0))), (4, .int (bef)), (5, .int (nI (k))), (6, .int (nI (p))), (7, .long (lN (acc))), (9, .long (lN (wq))), (11, .int (nI (lf)))]) hx hb dX10_readsCodes_212 hl (by decide) rfl (fun ls hl => ?_)
              refine lv_aload_n hx hb dX10_readsCodes_214 rfl (lv_at hl 3 rfl) ?_
              refine rg_X10_171 C h dX10_readsCodes_215 ?_
              refine tI (y := nI (1)) rfl ?_
              refine zN_ne (tgt := 246) (a := 1) C (by decide) dX10_readsCodes_218 (by decide) (fun _ => ?_) (fun q => absurd q (by decide))
              refine lv_aload_n hx hb dX10_readsCodes_246 rfl (lv_at hl 3 rfl) ?_
              refine rg_X10_22 C h dX10_readsCodes_247 ?_
              refine lv_iload_n hx hb dX10_readsCodes_250 rfl (lv_at hl 4 rfl) ?_
              refine ldA 32 rfl (j := w) (show w < 40 by omega) (by decide) C h dX10_readsCodes_251 ?_
              refine tI (y := nI (wt w 4)) (hRW w hw).2.2.2.2.1 ?_
              refine lv_iconst (v := nI (1)) hx hb dX10_readsCodes_252 (by decide) ?_
              refine jN_ne (tgt := 265) (a := wt w 4) (b := 1) C (by omega) (by omega) dX10_readsCodes_253 (by decide) (fun c_253 => ?_) (fun c_253 => ?_)
              · skip
                refine lv_lload hx hb dX10_readsCodes_265 (lv_at hl 0 rfl) ?_
                refine lv_l2i (v := nI (acc - acc / 2)) hx hb dX10_readsCodes_267 (lN_i _) ?_
                refine lv_istore (lv' := [(4, .int (nI (acc - acc / 2))), (14, .long (lN (acc - acc / 2))), (13, .int (nI (0))), (12, .int (nI (1))), (0, .ref (zad z 27)), (1, .int (nI (w))), (2, .int (nI (cnt))), (3, .int (nI (t0))), (5, .int (nI (k))), (6, .int (nI (p))), (7, .long (lN (acc))), (9, .long (lN (wq))), (11, .int (nI (lf)))]) hx hb dX10_readsCodes_268 hl (by decide) rfl (fun ls hl => ?_)
                refine lv_aload_n hx hb dX10_readsCodes_270 rfl (lv_at hl 4 rfl) ?_
                refine rg_X10_48 C h dX10_readsCodes_271 ?_
                refine lv_iload_n hx hb dX10_readsCodes_274 rfl (lv_at hl 7 rfl) ?_
                refine lv_iload hx hb dX10_readsCodes_275 (lv_at hl 8 rfl) ?_
                refine lv_iadd hx hb dX10_readsCodes_277 ?_
                refine tI (y := nI (t0 + k)) (nI_add _ _) ?_
                refine lv_iload hx hb dX10_readsCodes_278 (lv_at hl 0 rfl) ?_
                refine stA 36 rfl (j := t0 + k) (x := nI (acc - acc / 2)) (show t0 + k < 40000 by omega) (by decide) C h dX10_readsCodes_280 (fun H locs h => ?_)
                refine lv_iinc (v := nI (k + 1)) (lv' := [(5, .int (nI (k + 1))), (4, .int (nI (acc - acc / 2))), (14, .long (lN (acc - acc / 2))), (13, .int (nI (0))), (12, .int (nI (1))), (0, .ref (zad z 27)), (1, .int (nI (w))), (2, .int (nI (cnt))), (3, .int (nI (t0))), (6, .int (nI (p))), (7, .long (lN (acc))), (9, .long (lN (wq))), (11, .int (nI (lf)))]) hx hb dX10_readsCodes_281 hl (k := 8) rfl (nN_inc _) (by decide) rfl (fun ls hl => ?_)
                refine lv_goto (tgt := 6) hx hb dX10_readsCodes_284 (by decide) ?_
                refine lv_iload hx hb dX10_readsCodes_6 (lv_at hl 0 rfl) ?_
                refine lv_iload_n hx hb dX10_readsCodes_8 rfl (lv_at hl 7 rfl) ?_
                refine jN_ge (tgt := 287) (a := k + 1) (b := cnt) C (by omega) (by omega) dX10_readsCodes_9 (by decide) (fun c_9 => ?_) (fun c_9 => ?_)
                · skip
                  exact rV C hr hlk h dX10_readsCodes_287 (Nat.le_of_ble_eq_true rfl) (Nat.le_of_ble_eq_true rfl) (by have e : rdL (wt w 1) (wt w 2) (wt w 3) (wt w 4) t n (cnt) (nI 0) (p0) = .inr (1, p) := (by rw [h3, rdL_none (by omega) hrd]; rfl); show rcQ v sc ar t0 (rdL (wt w 1) (wt w 2) (wt w 3) (wt w 4) t n (cnt) (nI 0) (p0)) _; rw [e]; exact ⟨_, _, by rw [va_uu]⟩)
                · skip
                  refine lv_aload_n hx hb dX10_readsCodes_12 rfl (lv_at hl 5 rfl) ?_
                  refine rg_X10_171 C h dX10_readsCodes_13 ?_
                  refine tI (y := nI (1)) rfl ?_
                  refine zN_ne (tgt := 287) (a := 1) C (by decide) dX10_readsCodes_16 (by decide) (fun _ => ?_) (fun q => absurd q (by decide))
                  exact rV C hr hlk h dX10_readsCodes_287 (Nat.le_of_ble_eq_true rfl) (Nat.le_of_ble_eq_true rfl) (by have e : rdL (wt w 1) (wt w 2) (wt w 3) (wt w 4) t n (cnt) (nI 0) (p0) = .inr (1, p) := (by rw [h3, rdL_none (by omega) hrd]; rfl); show rcQ v sc ar t0 (rdL (wt w 1) (wt w 2) (wt w 3) (wt w 4) t n (cnt) (nI 0) (p0)) _; rw [e]; exact ⟨_, _, by rw [va_uu]⟩)
              · skip
                refine lv_iload hx hb dX10_readsCodes_256 (lv_at hl 7 rfl) ?_
                refine lv_lload hx hb dX10_readsCodes_258 (lv_at hl 0 rfl) ?_
                refine lv_l2i (v := nI (acc - acc / 2)) hx hb dX10_readsCodes_260 (lN_i _) ?_
                refine lv_iadd hx hb dX10_readsCodes_261 ?_
                refine lv_goto (tgt := 268) hx hb dX10_readsCodes_262 (by decide) ?_
                refine lv_istore (lv' := [(4, .int (bef + nI (acc - acc / 2))), (14, .long (lN (acc - acc / 2))), (13, .int (nI (0))), (12, .int (nI (1))), (0, .ref (zad z 27)), (1, .int (nI (w))), (2, .int (nI (cnt))), (3, .int (nI (t0))), (5, .int (nI (k))), (6, .int (nI (p))), (7, .long (lN (acc))), (9, .long (lN (wq))), (11, .int (nI (lf)))]) hx hb dX10_readsCodes_268 hl (by decide) rfl (fun ls hl => ?_)
                refine lv_aload_n hx hb dX10_readsCodes_270 rfl (lv_at hl 4 rfl) ?_
                refine rg_X10_48 C h dX10_readsCodes_271 ?_
                refine lv_iload_n hx hb dX10_readsCodes_274 rfl (lv_at hl 7 rfl) ?_
                refine lv_iload hx hb dX10_readsCodes_275 (lv_at hl 8 rfl) ?_
                refine lv_iadd hx hb dX10_readsCodes_277 ?_
                refine tI (y := nI (t0 + k)) (nI_add _ _) ?_
                refine lv_iload hx hb dX10_readsCodes_278 (lv_at hl 0 rfl) ?_
                refine stA 36 rfl (j := t0 + k) (x := bef + nI (acc - acc / 2)) (show t0 + k < 40000 by omega) (by decide) C h dX10_readsCodes_280 (fun H locs h => ?_)
                refine lv_iinc (v := nI (k + 1)) (lv' := [(5, .int (nI (k + 1))), (4, .int (bef + nI (acc - acc / 2))), (14, .long (lN (acc - acc / 2))), (13, .int (nI (0))), (12, .int (nI (1))), (0, .ref (zad z 27)), (1, .int (nI (w))), (2, .int (nI (cnt))), (3, .int (nI (t0))), (6, .int (nI (p))), (7, .long (lN (acc))), (9, .long (lN (wq))), (11, .int (nI (lf)))]) hx hb dX10_readsCodes_281 hl (k := 8) rfl (nN_inc _) (by decide) rfl (fun ls hl => ?_)
                refine lv_goto (tgt := 6) hx hb dX10_readsCodes_284 (by decide) ?_
                refine lv_iload hx hb dX10_readsCodes_6 (lv_at hl 0 rfl) ?_
                refine lv_iload_n hx hb dX10_readsCodes_8 rfl (lv_at hl 7 rfl) ?_
                refine jN_ge (tgt := 287) (a := k + 1) (b := cnt) C (by omega) (by omega) dX10_readsCodes_9 (by decide) (fun c_9 => ?_) (fun c_9 => ?_)
                · skip
                  exact rV C hr hlk h dX10_readsCodes_287 (Nat.le_of_ble_eq_true rfl) (Nat.le_of_ble_eq_true rfl) (by have e : rdL (wt w 1) (wt w 2) (wt w 3) (wt w 4) t n (cnt) (nI 0) (p0) = .inr (1, p) := (by rw [h3, rdL_none (by omega) hrd]; rfl); show rcQ v sc ar t0 (rdL (wt w 1) (wt w 2) (wt w 3) (wt w 4) t n (cnt) (nI 0) (p0)) _; rw [e]; exact ⟨_, _, by rw [va_uu]⟩)
                · skip
                  refine lv_aload_n hx hb dX10_readsCodes_12 rfl (lv_at hl 5 rfl) ?_
                  refine rg_X10_171 C h dX10_readsCodes_13 ?_
                  refine tI (y := nI (1)) rfl ?_
                  refine zN_ne (tgt := 287) (a := 1) C (by decide) dX10_readsCodes_16 (by decide) (fun _ => ?_) (fun q => absurd q (by decide))
                  exact rV C hr hlk h dX10_readsCodes_287 (Nat.le_of_ble_eq_true rfl) (Nat.le_of_ble_eq_true rfl) (by have e : rdL (wt w 1) (wt w 2) (wt w 3) (wt w 4) t n (cnt) (nI 0) (p0) = .inr (1, p) := (by rw [h3, rdL_none (by omega) hrd]; rfl); show rcQ v sc ar t0 (rdL (wt w 1) (wt w 2) (wt w 3) (wt w 4) t n (cnt) (nI 0) (p0)) _; rw [e]; exact ⟨_, _, by rw [va_uu]⟩)
            · skip
              have c_168 : (((acc) + (1)) % (2)) = (0) := (pk_lEQ (by omega) (by omega)).mp ((lg_cmp_eq _ _).mp c_168)
              refine lv_iconst (v := nI (1)) hx hb dX10_readsCodes_171 (by decide) ?_
              refine lv_goto (tgt := 176) hx hb dX10_readsCodes_172 (by decide) ?_
              refine lv_istore (lv' := [(13, .int (nI (1))), (12, .int (nI (1))), (0, .ref (zad z 27)), (1, .int (nI (w))), (2, .int (nI (cnt))), (3, .int (nI (t0))), (4, .int (bef)), (5, .int (nI (k))), (6, .int (nI (p))), (7, .long (lN (acc))), (9, .long (lN (wq))), (11, .int (nI (lf)))]) hx hb dX10_readsCodes_176 hl (by decide) rfl (fun ls hl => ?_)
              refine lv_iload hx hb dX10_readsCodes_178 (lv_at hl 0 rfl) ?_
              refine zN_eq (tgt := 194) (a := 1) C (by decide) dX10_readsCodes_180 (by decide) (fun q => absurd q (by decide)) (fun _ => ?_)
              refine lv_lload hx hb dX10_readsCodes_183 (lv_at hl 9 rfl) ?_
              refine lv_lconst (v := lN 1) hx hb dX10_readsCodes_185 (by decide) ?_
              refine lv_ladd hx hb dX10_readsCodes_186 ?_
              refine tL (y := lN ((acc) + (1))) (lN_add _ _) ?_
              refine lv_iload hx hb dX10_readsCodes_187 (lv_at hl 1 rfl) ?_
              refine lv_lshr (v := lN (((acc) + (1)) / 2)) hx hb dX10_readsCodes_189 (lsrN (k := (acc) + (1)) (by omega) (s := 1) (by decide)) ?_
              refine lv_lneg hx hb dX10_readsCodes_190 ?_
              refine lv_goto (tgt := 212) hx hb dX10_readsCodes_191 (by decide) ?_
              refine lv_lstore (lv' := [(14, .long (-(lN (((acc) + (1)) / 2)))), (13, .int (nI (1))), (12, .int (nI (1))), (0, .ref (zad z 27)), (1, .int (nI (w))), (2, .int (nI (cnt))), (3, .int (nI (t0))), (4, .int (bef)), (5, .int (nI (k))), (6, .int (nI (p))), (7, .long (lN (acc))), (9, .long (lN (wq))), (11, .int (nI (lf)))]) hx hb dX10_readsCodes_212 hl (by decide) rfl (fun ls hl => ?_)
              refine lv_aload_n hx hb dX10_readsCodes_214 rfl (lv_at hl 3 rfl) ?_
              refine rg_X10_171 C h dX10_readsCodes_215 ?_
              refine tI (y := nI (1)) rfl ?_
              refine zN_ne (tgt := 246) (a := 1) C (by decide) dX10_readsCodes_218 (by decide) (fun _ => ?_) (fun q => absurd q (by decide))
              refine lv_aload_n hx hb dX10_readsCodes_246 rfl (lv_at hl 3 rfl) ?_
              refine rg_X10_22 C h dX10_readsCodes_247 ?_
              refine lv_iload_n hx hb dX10_readsCodes_250 rfl (lv_at hl 4 rfl) ?_
              refine ldA 32 rfl (j := w) (show w < 40 by omega) (by decide) C h dX10_readsCodes_251 ?_
              refine tI (y := nI (wt w 4)) (hRW w hw).2.2.2.2.1 ?_
              refine lv_iconst (v := nI (1)) hx hb dX10_readsCodes_252 (by decide) ?_
              refine jN_ne (tgt := 265) (a := wt w 4) (b := 1) C (by omega) (by omega) dX10_readsCodes_253 (by decide) (fun c_253 => ?_) (fun c_253 => ?_)
              · skip
                refine lv_lload hx hb dX10_readsCodes_265 (lv_at hl 0 rfl) ?_
                refine lv_l2i (v := (-(lN (((acc) + (1)) / 2))).toInt32) hx hb dX10_readsCodes_267 rfl ?_
                refine lv_istore (lv' := [(4, .int ((-(lN (((acc) + (1)) / 2))).toInt32)), (14, .long (-(lN (((acc) + (1)) / 2)))), (13, .int (nI (1))), (12, .int (nI (1))), (0, .ref (zad z 27)), (1, .int (nI (w))), (2, .int (nI (cnt))), (3, .int (nI (t0))), (5, .int (nI (k))), (6, .int (nI (p))), (7, .long (lN (acc))), (9, .long (lN (wq))), (11, .int (nI (lf)))]) hx hb dX10_readsCodes_268 hl (by decide) rfl (fun ls hl => ?_)
                refine lv_aload_n hx hb dX10_readsCodes_270 rfl (lv_at hl 4 rfl) ?_
                refine rg_X10_48 C h dX10_readsCodes_271 ?_
                refine lv_iload_n hx hb dX10_readsCodes_274 rfl (lv_at hl 7 rfl) ?_
                refine lv_iload hx hb dX10_readsCodes_275 (lv_at hl 8 rfl) ?_
                refine lv_iadd hx hb dX10_readsCodes_277 ?_
                refine tI (y := nI (t0 + k)) (nI_add _ _) ?_
                refine lv_iload hx hb dX10_readsCodes_278 (lv_at hl 0 rfl) ?_
                refine stA 36 rfl (j := t0 + k) (x := (-(lN (((acc) + (1)) / 2))).toInt32) (show t0 + k < 40000 by omega) (by decide) C h dX10_readsCodes_280 (fun H locs h => ?_)
                refine lv_iinc (v := nI (k + 1)) (lv' := [(5, .int (nI (k + 1))), (4, .int ((-(lN (((acc) + (1)) / 2))).toInt32)), (14, .long (-(lN (((acc) + (1)) / 2)))), (13, .int (nI (1))), (12, .int (nI (1))), (0, .ref (zad z 27)), (1, .int (nI (w))), (2, .int (nI (cnt))), (3, .int (nI (t0))), (6, .int (nI (p))), (7, .long (lN (acc))), (9, .long (lN (wq))), (11, .int (nI (lf)))]) hx hb dX10_readsCodes_281 hl (k := 8) rfl (nN_inc _) (by decide) rfl (fun ls hl => ?_)
                refine lv_goto (tgt := 6) hx hb dX10_readsCodes_284 (by decide) ?_
                refine lv_iload hx hb dX10_readsCodes_6 (lv_at hl 0 rfl) ?_
                refine lv_iload_n hx hb dX10_readsCodes_8 rfl (lv_at hl 7 rfl) ?_
                refine jN_ge (tgt := 287) (a := k + 1) (b := cnt) C (by omega) (by omega) dX10_readsCodes_9 (by decide) (fun c_9 => ?_) (fun c_9 => ?_)
                · skip
                  exact rV C hr hlk h dX10_readsCodes_287 (Nat.le_of_ble_eq_true rfl) (Nat.le_of_ble_eq_true rfl) (by have e : rdL (wt w 1) (wt w 2) (wt w 3) (wt w 4) t n (cnt) (nI 0) (p0) = .inr (1, p) := (by rw [h3, rdL_none (by omega) hrd]; rfl); show rcQ v sc ar t0 (rdL (wt w 1) (wt w 2) (wt w 3) (wt w 4) t n (cnt) (nI 0) (p0)) _; rw [e]; exact ⟨_, _, by rw [va_uu]⟩)
                · skip
                  refine lv_aload_n hx hb dX10_readsCodes_12 rfl (lv_at hl 5 rfl) ?_
                  refine rg_X10_171 C h dX10_readsCodes_13 ?_
                  refine tI (y := nI (1)) rfl ?_
                  refine zN_ne (tgt := 287) (a := 1) C (by decide) dX10_readsCodes_16 (by decide) (fun _ => ?_) (fun q => absurd q (by decide))
                  exact rV C hr hlk h dX10_readsCodes_287 (Nat.le_of_ble_eq_true rfl) (Nat.le_of_ble_eq_true rfl) (by have e : rdL (wt w 1) (wt w 2) (wt w 3) (wt w 4) t n (cnt) (nI 0) (p0) = .inr (1, p) := (by rw [h3, rdL_none (by omega) hrd]; rfl); show rcQ v sc ar t0 (rdL (wt w 1) (wt w 2) (wt w 3) (wt w 4) t n (cnt) (nI 0) (p0)) _; rw [e]; exact ⟨_, _, by rw [va_uu]⟩)
              · skip
                refine lv_iload hx hb dX10_readsCodes_256 (lv_at hl 7 rfl) ?_
                refine lv_lload hx hb dX10_readsCodes_258 (lv_at hl 0 rfl) ?_
                refine lv_l2i (v := (-(lN (((acc) + (1)) / 2))).toInt32) hx hb dX10_readsCodes_260 rfl ?_
                refine lv_iadd hx hb dX10_readsCodes_261 ?_
                refine lv_goto (tgt := 268) hx hb dX10_readsCodes_262 (by decide) ?_
                refine lv_istore (lv' := [(4, .int (bef + (-(lN (((acc) + (1)) / 2))).toInt32)), (14, .long (-(lN (((acc) + (1)) / 2)))), (13, .int (nI (1))), (12, .int (nI (1))), (0, .ref (zad z 27)), (1, .int (nI (w))), (2, .int (nI (cnt))), (3, .int (nI (t0))), (5, .int (nI (k))), (6, .int (nI (p))), (7, .long (lN (acc))), (9, .long (lN (wq))), (11, .int (nI (lf)))]) hx hb dX10_readsCodes_268 hl (by decide) rfl (fun ls hl => ?_)
                refine lv_aload_n hx hb dX10_readsCodes_270 rfl (lv_at hl 4 rfl) ?_
                refine rg_X10_48 C h dX10_readsCodes_271 ?_
                refine lv_iload_n hx hb dX10_readsCodes_274 rfl (lv_at hl 7 rfl) ?_
                refine lv_iload hx hb dX10_readsCodes_275 (lv_at hl 8 rfl) ?_
                refine lv_iadd hx hb dX10_readsCodes_277 ?_
                refine tI (y := nI (t0 + k)) (nI_add _ _) ?_
                refine lv_iload hx hb dX10_readsCodes_278 (lv_at hl 0 rfl) ?_
                refine stA 36 rfl (j := t0 + k) (x := bef + (-(lN (((acc) + (1)) / 2))).toInt32) (show t0 + k < 40000 by omega) (by decide) C h dX10_readsCodes_280 (fun H locs h => ?_)
                refine lv_iinc (v := nI (k + 1)) (lv' := [(5, .int (nI (k + 1))), (4, .int (bef + (-(lN (((acc) + (1)) / 2))).toInt32)), (14, .long (-(lN (((acc) + (1)) / 2)))), (13, .int (nI (1))), (12, .int (nI (1))), (0, .ref (zad z 27)), (1, .int (nI (w))), (2, .int (nI (cnt))), (3, .int (nI (t0))), (6, .int (nI (p))), (7, .long (lN (acc))), (9, .long (lN (wq))), (11, .int (nI (lf)))]) hx hb dX10_readsCodes_281 hl (k := 8) rfl (nN_inc _) (by decide) rfl (fun ls hl => ?_)
                refine lv_goto (tgt := 6) hx hb dX10_readsCodes_284 (by decide) ?_
                refine lv_iload hx hb dX10_readsCodes_6 (lv_at hl 0 rfl) ?_
                refine lv_iload_n hx hb dX10_readsCodes_8 rfl (lv_at hl 7 rfl) ?_
                refine jN_ge (tgt := 287) (a := k + 1) (b := cnt) C (by omega) (by omega) dX10_readsCodes_9 (by decide) (fun c_9 => ?_) (fun c_9 => ?_)
                · skip
                  exact rV C hr hlk h dX10_readsCodes_287 (Nat.le_of_ble_eq_true rfl) (Nat.le_of_ble_eq_true rfl) (by have e : rdL (wt w 1) (wt w 2) (wt w 3) (wt w 4) t n (cnt) (nI 0) (p0) = .inr (1, p) := (by rw [h3, rdL_none (by omega) hrd]; rfl); show rcQ v sc ar t0 (rdL (wt w 1) (wt w 2) (wt w 3) (wt w 4) t n (cnt) (nI 0) (p0)) _; rw [e]; exact ⟨_, _, by rw [va_uu]⟩)
                · skip
                  refine lv_aload_n hx hb dX10_readsCodes_12 rfl (lv_at hl 5 rfl) ?_
                  refine rg_X10_171 C h dX10_readsCodes_13 ?_
                  refine tI (y := nI (1)) rfl ?_
                  refine zN_ne (tgt := 287) (a := 1) C (by decide) dX10_readsCodes_16 (by decide) (fun _ => ?_) (fun q => absurd q (by decide))
                  exact rV C hr hlk h dX10_readsCodes_287 (Nat.le_of_ble_eq_true rfl) (Nat.le_of_ble_eq_true rfl) (by have e : rdL (wt w 1) (wt w 2) (wt w 3) (wt w 4) t n (cnt) (nI 0) (p0) = .inr (1, p) := (by rw [h3, rdL_none (by omega) hrd]; rfl); show rcQ v sc ar t0 (rdL (wt w 1) (wt w 2) (wt w 3) (wt w 4) t n (cnt) (nI 0) (p0)) _; rw [e]; exact ⟨_, _, by rw [va_uu]⟩)
  · skip
    refine lv_iconst (v := nI (0)) hx hb dX10_readsCodes_0 (by decide) ?_
    refine lv_istore (lv' := [(4, .int (nI (0))), (0, .ref (zad z 27)), (1, .int (nI (w))), (2, .int (nI (cnt))), (3, .int (nI (t0)))]) hx hb dX10_readsCodes_1 hl (by decide) rfl (fun ls hl => ?_)
    refine lv_iconst (v := nI (0)) hx hb dX10_readsCodes_3 (by decide) ?_
    refine lv_istore (lv' := [(5, .int (nI (0))), (4, .int (nI (0))), (0, .ref (zad z 27)), (1, .int (nI (w))), (2, .int (nI (cnt))), (3, .int (nI (t0)))]) hx hb dX10_readsCodes_4 hl (by decide) rfl (fun ls hl => ?_)
    refine lpW4 (fun (k : Nat) (bef : Int32) (p : Nat) (xs : List Int32) (H : Heap) (locs : List Loc) (ls : Array Slot) => (k ≤ cnt) ∧ (xs.length = k) ∧ (p ≤ n) ∧ (rdL (wt w 1) (wt w 2) (wt w 3) (wt w 4) t n (cnt) (nI 0) (p0) = rdPre xs (rdL (wt w 1) (wt w 2) (wt w 3) (wt w 4) t n (cnt - k) (bef) (p))) ∧ hH z v (va_up sc 32 (nI (p))) (va_up ar 36 (wrR (ar 36) t0 (xs))) s H locs ∧ lv_has ls 16 [(0, .ref (zad z 27)), (1, .int (nI (w))), (2, .int (nI (cnt))), (3, .int (nI (t0))), (4, .int (bef)), (5, .int (nI (k)))]) (fun (k : Nat) (bef : Int32) (p : Nat) (xs : List Int32) => cnt - k) (fun k bef p xs ih_6 H locs ls hI => ?_) (0) (nI 0) (p0) ([]) ⟨Nat.zero_le _, rfl, hpn, by cases rdL (wt w 1) (wt w 2) (wt w 3) (wt w 4) t n (cnt - 0) (nI 0) p0 <;> simp [rdPre], (by rw [← hp, va_us, wrR_nil, va_us]; exact h), lv_sub hl [2, 3, 4, 5, 1, 0] rfl⟩
    obtain ⟨h1, h1b, h2, h3, h, hl⟩ := hI
    refine lv_iload hx hb dX10_readsCodes_6 (lv_at hl 5 rfl) ?_
    refine lv_iload_n hx hb dX10_readsCodes_8 rfl (lv_at hl 2 rfl) ?_
    refine jN_ge (tgt := 287) (a := k) (b := cnt) C (by omega) (by omega) dX10_readsCodes_9 (by decide) (fun c_9 => ?_) (fun c_9 => ?_)
    · skip
      exact rV C hr hlk h dX10_readsCodes_287 (Nat.le_of_ble_eq_true rfl) (Nat.le_of_ble_eq_true rfl) (by have e : rdL (wt w 1) (wt w 2) (wt w 3) (wt w 4) t n (cnt) (nI 0) (p0) = .inl (xs, p) := (by rw [h3, show cnt - k = 0 by omega]; simp [rdL, rdPre]); show rcQ v sc ar t0 (rdL (wt w 1) (wt w 2) (wt w 3) (wt w 4) t n (cnt) (nI 0) (p0)) _; rw [e]; rfl)
    · skip
      refine lv_aload_n hx hb dX10_readsCodes_12 rfl (lv_at hl 0 rfl) ?_
      refine rg_X10_171 C h dX10_readsCodes_13 ?_
      refine tI (y := nI (0)) hf0 ?_
      refine zN_ne (tgt := 287) (a := 0) C (by decide) dX10_readsCodes_16 (by decide) (fun q => absurd q (by decide)) (fun _ => ?_)
      refine lv_aload_n hx hb dX10_readsCodes_19 rfl (lv_at hl 0 rfl) ?_
      refine rg_X10_177 C h dX10_readsCodes_20 ?_
      refine tI (y := nI (p)) rfl ?_
      refine lv_istore (lv' := [(6, .int (nI (p))), (0, .ref (zad z 27)), (1, .int (nI (w))), (2, .int (nI (cnt))), (3, .int (nI (t0))), (4, .int (bef)), (5, .int (nI (k)))]) hx hb dX10_readsCodes_23 hl (by decide) rfl (fun ls hl => ?_)
      refine lv_lconst (v := lN 0) hx hb dX10_readsCodes_25 (by decide) ?_
      refine lv_lstore (lv' := [(7, .long (lN (0))), (6, .int (nI (p))), (0, .ref (zad z 27)), (1, .int (nI (w))), (2, .int (nI (cnt))), (3, .int (nI (t0))), (4, .int (bef)), (5, .int (nI (k)))]) hx hb dX10_readsCodes_26 hl (by decide) rfl (fun ls hl => ?_)
      refine lv_lconst (v := lN 1) hx hb dX10_readsCodes_28 (by decide) ?_
      refine lv_lstore (lv' := [(9, .long (lN (1))), (7, .long (lN (0))), (6, .int (nI (p))), (0, .ref (zad z 27)), (1, .int (nI (w))), (2, .int (nI (cnt))), (3, .int (nI (t0))), (4, .int (bef)), (5, .int (nI (k)))]) hx hb dX10_readsCodes_29 hl (by decide) rfl (fun ls hl => ?_)
      refine lv_aload_n hx hb dX10_readsCodes_31 rfl (lv_at hl 3 rfl) ?_
      refine rg_X10_13 C h dX10_readsCodes_32 ?_
      refine lv_iload_n hx hb dX10_readsCodes_35 rfl (lv_at hl 4 rfl) ?_
      refine ldA 29 rfl (j := w) (show w < 40 by omega) (by decide) C h dX10_readsCodes_36 ?_
      refine tI (y := nI (wt w 1)) (hRW w hw).2.1 ?_
      refine lv_istore (lv' := [(11, .int (nI (wt w 1))), (9, .long (lN (1))), (7, .long (lN (0))), (6, .int (nI (p))), (0, .ref (zad z 27)), (1, .int (nI (w))), (2, .int (nI (cnt))), (3, .int (nI (t0))), (4, .int (bef)), (5, .int (nI (k)))]) hx hb dX10_readsCodes_37 hl (by decide) rfl (fun ls hl => ?_)
      refine lpW5 (fun (i : Nat) (lf : Nat) (acc : Nat) (wq : Nat) (p2 : Nat) (H : Heap) (locs : List Loc) (ls : Array Slot) => (i ≤ 5 ∧ i + lf ≤ 5) ∧ (acc < 256 ^ i ∧ wq ≤ 256 ^ i) ∧ (p2 ≤ n) ∧ (rdc (wt w 1) (wt w 2) t n p = (rdc lf (wt w 2) t n p2).map (fun q => (acc + wq * q.1, q.2))) ∧ hH z v (va_up sc 32 (nI (p2))) (va_up ar 36 (wrR (ar 36) t0 (xs))) s H locs ∧ lv_has ls 16 [(0, .ref (zad z 27)), (1, .int (nI (w))), (2, .int (nI (cnt))), (3, .int (nI (t0))), (4, .int (bef)), (5, .int (nI (k))), (6, .int (nI (p))), (7, .long (lN (acc))), (9, .long (lN (wq))), (11, .int (nI (lf)))]) (fun (i : Nat) (lf : Nat) (acc : Nat) (wq : Nat) (p2 : Nat) => lf) (fun i lf acc wq p2 ih_39 H locs ls hI => ?_) (0) (wt w 1) (0) (1) (p) ⟨⟨by omega, by omega⟩, ⟨Nat.one_pos, Nat.le_refl _⟩, h2, by simp, h, lv_sub hl [4, 5, 6, 7, 8, 9, 3, 2, 1, 0] rfl⟩
      obtain ⟨i1, i2, i3, i4, h, hl⟩ := hI
      have hac := pw3 i1.1 i2.1
      have htp := ht p2
      refine lv_iload hx hb dX10_readsCodes_39 (lv_at hl 9 rfl) ?_
      refine zN_le (tgt := 144) (a := lf) C (by omega) dX10_readsCodes_41 (by decide) (fun c_41 => ?_) (fun c_41 => ?_)
      · skip
        have hrd : rdc (wt w 1) (wt w 2) t n p = some (acc, p2) := by rw [i4, c_41]; simp [rdc]
        refine lv_aload_n hx hb dX10_readsCodes_144 rfl (lv_at hl 0 rfl) ?_
        refine rg_X10_19 C h dX10_readsCodes_145 ?_
        refine lv_iload_n hx hb dX10_readsCodes_148 rfl (lv_at hl 1 rfl) ?_
        refine ldA 31 rfl (j := w) (show w < 40 by omega) (by decide) C h dX10_readsCodes_149 ?_
        refine tI (y := nI (2)) ((hRW w hw).2.2.2.1.trans (by rw [hs3])) ?_
        refine lv_istore (lv' := [(12, .int (nI (2))), (0, .ref (zad z 27)), (1, .int (nI (w))), (2, .int (nI (cnt))), (3, .int (nI (t0))), (4, .int (bef)), (5, .int (nI (k))), (6, .int (nI (p))), (7, .long (lN (acc))), (9, .long (lN (wq))), (11, .int (nI (lf)))]) hx hb dX10_readsCodes_150 hl (by decide) rfl (fun ls hl => ?_)
        refine lv_iload hx hb dX10_readsCodes_152 (lv_at hl 0 rfl) ?_
        refine zN_le (tgt := 175) (a := 2) C (by decide) dX10_readsCodes_154 (by decide) (fun q => absurd q (by decide)) (fun _ => ?_)
        refine lv_lload hx hb dX10_readsCodes_157 (lv_at hl 8 rfl) ?_
        refine lv_lconst (v := lN 1) hx hb dX10_readsCodes_159 (by decide) ?_
        refine lv_ladd hx hb dX10_readsCodes_160 ?_
        refine tL (y := lN ((acc) + (1))) (lN_add _ _) ?_
        refine lv_lconst (v := lN 1) hx hb dX10_readsCodes_161 (by decide) ?_
        refine lv_iload hx hb dX10_readsCodes_162 (lv_at hl 0 rfl) ?_
        refine lv_lshl (v := lN (4)) hx hb dX10_readsCodes_164 (by decide) ?_
        refine lv_lrem hx hb dX10_readsCodes_165 (lN_ne0 (by omega) (by omega)) ?_
        refine tL (pk_lRem (by omega) (by omega) (by omega)) ?_
        refine lv_lconst (v := lN 0) hx hb dX10_readsCodes_166 (by decide) ?_
        refine W.lcmp hx hb dX10_readsCodes_167 ?_
        refine lv_if_ne (tgt := 175) hx hb dX10_readsCodes_168 (by decide) (fun c_168 => ?_) (fun c_168 => ?_)
        · skip
          have c_168 : ¬ (((acc) + (1)) % (4)) = (0) := fun q => c_168 ((lg_cmp_eq _ _).mpr ((pk_lEQ (by omega) (by omega)).mpr q))
          refine lv_iconst (v := nI (0)) hx hb dX10_readsCodes_175 (by decide) ?_
          refine lv_istore (lv' := [(13, .int (nI (0))), (12, .int (nI (2))), (0, .ref (zad z 27)), (1, .int (nI (w))), (2, .int (nI (cnt))), (3, .int (nI (t0))), (4, .int (bef)), (5, .int (nI (k))), (6, .int (nI (p))), (7, .long (lN (acc))), (9, .long (lN (wq))), (11, .int (nI (lf)))]) hx hb dX10_readsCodes_176 hl (by decide) rfl (fun ls hl => ?_)
          refine lv_iload hx hb dX10_readsCodes_178 (lv_at hl 0 rfl) ?_
          refine zN_eq (tgt := 194) (a := 0) C (by decide) dX10_readsCodes_180 (by decide) (fun _ => ?_) (fun q => absurd q (by decide))
          refine lv_iload hx hb dX10_readsCodes_194 (lv_at hl 1 rfl) ?_
          refine zN_ne (tgt := 204) (a := 2) C (by decide) dX10_readsCodes_196 (by decide) (fun _ => ?_) (fun q => absurd q (by decide))
          refine lv_lload hx hb dX10_readsCodes_204 (lv_at hl 9 rfl) ?_
          refine lv_lload hx hb dX10_readsCodes_206 (lv_at hl 9 rfl) ?_
          refine lv_iload hx hb dX10_readsCodes_208 (lv_at hl 1 rfl) ?_
          refine lv_lshr (v := lN (acc / 4)) hx hb dX10_readsCodes_210 (lsrN (k := acc) (by omega) (s := 2) (by decide)) ?_
          refine lv_lsub hx hb dX10_readsCodes_211 ?_
          refine tL (y := lN (acc - acc / 4)) (lN_sub (by omega)) ?_
          refine lv_lstore (lv' := [(14, .long (lN (acc - acc / 4))), (13, .int (nI (0))), (12, .int (nI (2))), (0, .ref (zad z 27)), (1, .int (nI (w))), (2, .int (nI (cnt))), (3, .int (nI (t0))), (4, .int (bef)), (5, .int (nI (k))), (6, .int (nI (p))), (7, .long (lN (acc))), (9, .long (lN (wq))), (11, .int (nI (lf)))]) hx hb dX10_readsCodes_212 hl (by decide) rfl (fun ls hl => ?_)
          refine lv_aload_n hx hb dX10_readsCodes_214 rfl (lv_at hl 3 rfl) ?_
          refine rg_X10_171 C h dX10_readsCodes_215 ?_
          refine tI (y := nI (0)) hf0 ?_
          refine zN_ne (tgt := 246) (a := 0) C (by decide) dX10_readsCodes_218 (by decide) (fun q => absurd q (by decide)) (fun _ => ?_)
          refine lv_lload hx hb dX10_readsCodes_221 (lv_at hl 10 rfl) ?_
          refine lv_ldc2 (v := 4294967296) hx hb C.1.2.2.2.1 (C.1.2.2.2.2 _ uk_X10_133) dX10_readsCodes_223 ?_
          refine tL (y := lN 4294967296) (by decide) ?_
          refine W.lcmp hx hb dX10_readsCodes_226 ?_
          refine lv_if_ge (tgt := 239) hx hb dX10_readsCodes_227 (by decide) (fun c_227 => ?_) (fun c_227 => ?_)
          · skip
            have c_227 : (4294967296) ≤ (acc) := (pk_lLE (by omega) (by omega)).mp ((lg_cmp_ge _ _).mp c_227)
            refine lv_aload_n hx hb dX10_readsCodes_239 rfl (lv_at hl 3 rfl) ?_
            refine lv_iconst (v := nI (2)) hx hb dX10_readsCodes_240 (by decide) ?_
            refine lv_iload hx hb dX10_readsCodes_241 (lv_at hl 9 rfl) ?_
            refine backV h (runV (As := [.int (nI (2)), .int (nI (p))]) (rest := []) C h (r_fails l z v (va_up sc 32 (nI (p2))) (va_up ar 36 (wrR (ar 36) t0 (xs))) (nI 2) (nI p)) gv_X10_180 gv_X10_180_n ⟨rfl, rfl⟩ (r_Ref C h) rfl hl.1 rfl (Nat.le_of_ble_eq_true rfl) dX10_readsCodes_243 ⟨Nat.le_of_ble_eq_true rfl, Nat.le_of_ble_eq_true rfl⟩ ⟨Nat.le_of_ble_eq_true rfl, Nat.le_of_ble_eq_true rfl⟩) (fun v_243 sc_243 ar_243 H locs p_243 h => ?_)
            have h : hH z v (va_up (va_up (va_up sc 32 (nI (p2))) 33 (nI 2)) 34 (nI p)) (va_up ar 36 (wrR (ar 36) t0 (xs))) s H locs := uEq p_243 h
            refine lv_aload_n hx hb dX10_readsCodes_246 rfl (lv_at hl 3 rfl) ?_
            refine rg_X10_22 C h dX10_readsCodes_247 ?_
            refine lv_iload_n hx hb dX10_readsCodes_250 rfl (lv_at hl 4 rfl) ?_
            refine ldA 32 rfl (j := w) (show w < 40 by omega) (by decide) C h dX10_readsCodes_251 ?_
            refine tI (y := nI (wt w 4)) (hRW w hw).2.2.2.2.1 ?_
            refine lv_iconst (v := nI (1)) hx hb dX10_readsCodes_252 (by decide) ?_
            refine jN_ne (tgt := 265) (a := wt w 4) (b := 1) C (by omega) (by omega) dX10_readsCodes_253 (by decide) (fun c_253 => ?_) (fun c_253 => ?_)
            · skip
              refine lv_lload hx hb dX10_readsCodes_265 (lv_at hl 0 rfl) ?_
              refine lv_l2i (v := nI (acc - acc / 4)) hx hb dX10_readsCodes_267 (lN_i _) ?_
              refine lv_istore (lv' := [(4, .int (nI (acc - acc / 4))), (14, .long (lN (acc - acc / 4))), (13, .int (nI (0))), (12, .int (nI (2))), (0, .ref (zad z 27)), (1, .int (nI (w))), (2, .int (nI (cnt))), (3, .int (nI (t0))), (5, .int (nI (k))), (6, .int (nI (p))), (7, .long (lN (acc))), (9, .long (lN (wq))), (11, .int (nI (lf)))]) hx hb dX10_readsCodes_268 hl (by decide) rfl (fun ls hl => ?_)
              refine lv_aload_n hx hb dX10_readsCodes_270 rfl (lv_at hl 4 rfl) ?_
              refine rg_X10_48 C h dX10_readsCodes_271 ?_
              refine lv_iload_n hx hb dX10_readsCodes_274 rfl (lv_at hl 7 rfl) ?_
              refine lv_iload hx hb dX10_readsCodes_275 (lv_at hl 8 rfl) ?_
              refine lv_iadd hx hb dX10_readsCodes_277 ?_
              refine tI (y := nI (t0 + k)) (nI_add _ _) ?_
              refine lv_iload hx hb dX10_readsCodes_278 (lv_at hl 0 rfl) ?_
              refine stA 36 rfl (j := t0 + k) (x := nI (acc - acc / 4)) (show t0 + k < 40000 by omega) (by decide) C h dX10_readsCodes_280 (fun H locs h => ?_)
              refine lv_iinc (v := nI (k + 1)) (lv' := [(5, .int (nI (k + 1))), (4, .int (nI (acc - acc / 4))), (14, .long (lN (acc - acc / 4))), (13, .int (nI (0))), (12, .int (nI (2))), (0, .ref (zad z 27)), (1, .int (nI (w))), (2, .int (nI (cnt))), (3, .int (nI (t0))), (6, .int (nI (p))), (7, .long (lN (acc))), (9, .long (lN (wq))), (11, .int (nI (lf)))]) hx hb dX10_readsCodes_281 hl (k := 8) rfl (nN_inc _) (by decide) rfl (fun ls hl => ?_)
              refine lv_goto (tgt := 6) hx hb dX10_readsCodes_284 (by decide) ?_
              refine lv_iload hx hb dX10_readsCodes_6 (lv_at hl 0 rfl) ?_
              refine lv_iload_n hx hb dX10_readsCodes_8 rfl (lv_at hl 7 rfl) ?_
              refine jN_ge (tgt := 287) (a := k + 1) (b := cnt) C (by omega) (by omega) dX10_readsCodes_9 (by decide) (fun c_9 => ?_) (fun c_9 => ?_)
              · skip
                exact rV C hr hlk h dX10_readsCodes_287 (Nat.le_of_ble_eq_true rfl) (Nat.le_of_ble_eq_true rfl) (by have e : rdL (wt w 1) (wt w 2) (wt w 3) (wt w 4) t n (cnt) (nI 0) (p0) = .inr (2, p) := (by rw [h3, rdL_bad (by omega) hrd (by rw [hs3]; exact nb_hi c_227)]; rfl); show rcQ v sc ar t0 (rdL (wt w 1) (wt w 2) (wt w 3) (wt w 4) t n (cnt) (nI 0) (p0)) _; rw [e]; exact ⟨_, _, by rw [va_uu]⟩)
              · skip
                refine lv_aload_n hx hb dX10_readsCodes_12 rfl (lv_at hl 5 rfl) ?_
                refine rg_X10_171 C h dX10_readsCodes_13 ?_
                refine tI (y := nI (2)) rfl ?_
                refine zN_ne (tgt := 287) (a := 2) C (by decide) dX10_readsCodes_16 (by decide) (fun _ => ?_) (fun q => absurd q (by decide))
                exact rV C hr hlk h dX10_readsCodes_287 (Nat.le_of_ble_eq_true rfl) (Nat.le_of_ble_eq_true rfl) (by have e : rdL (wt w 1) (wt w 2) (wt w 3) (wt w 4) t n (cnt) (nI 0) (p0) = .inr (2, p) := (by rw [h3, rdL_bad (by omega) hrd (by rw [hs3]; exact nb_hi c_227)]; rfl); show rcQ v sc ar t0 (rdL (wt w 1) (wt w 2) (wt w 3) (wt w 4) t n (cnt) (nI 0) (p0)) _; rw [e]; exact ⟨_, _, by rw [va_uu]⟩)
            · skip
              refine lv_iload hx hb dX10_readsCodes_256 (lv_at hl 7 rfl) ?_
              refine lv_lload hx hb dX10_readsCodes_258 (lv_at hl 0 rfl) ?_
              refine lv_l2i (v := nI (acc - acc / 4)) hx hb dX10_readsCodes_260 (lN_i _) ?_
              refine lv_iadd hx hb dX10_readsCodes_261 ?_
              refine lv_goto (tgt := 268) hx hb dX10_readsCodes_262 (by decide) ?_
              refine lv_istore (lv' := [(4, .int (bef + nI (acc - acc / 4))), (14, .long (lN (acc - acc / 4))), (13, .int (nI (0))), (12, .int (nI (2))), (0, .ref (zad z 27)), (1, .int (nI (w))), (2, .int (nI (cnt))), (3, .int (nI (t0))), (5, .int (nI (k))), (6, .int (nI (p))), (7, .long (lN (acc))), (9, .long (lN (wq))), (11, .int (nI (lf)))]) hx hb dX10_readsCodes_268 hl (by decide) rfl (fun ls hl => ?_)
              refine lv_aload_n hx hb dX10_readsCodes_270 rfl (lv_at hl 4 rfl) ?_
              refine rg_X10_48 C h dX10_readsCodes_271 ?_
              refine lv_iload_n hx hb dX10_readsCodes_274 rfl (lv_at hl 7 rfl) ?_
              refine lv_iload hx hb dX10_readsCodes_275 (lv_at hl 8 rfl) ?_
              refine lv_iadd hx hb dX10_readsCodes_277 ?_
              refine tI (y := nI (t0 + k)) (nI_add _ _) ?_
              refine lv_iload hx hb dX10_readsCodes_278 (lv_at hl 0 rfl) ?_
              refine stA 36 rfl (j := t0 + k) (x := bef + nI (acc - acc / 4)) (show t0 + k < 40000 by omega) (by decide) C h dX10_readsCodes_280 (fun H locs h => ?_)
              refine lv_iinc (v := nI (k + 1)) (lv' := [(5, .int (nI (k + 1))), (4, .int (bef + nI (acc - acc / 4))), (14, .long (lN (acc - acc / 4))), (13, .int (nI (0))), (12, .int (nI (2))), (0, .ref (zad z 27)), (1, .int (nI (w))), (2, .int (nI (cnt))), (3, .int (nI (t0))), (6, .int (nI (p))), (7, .long (lN (acc))), (9, .long (lN (wq))), (11, .int (nI (lf)))]) hx hb dX10_readsCodes_281 hl (k := 8) rfl (nN_inc _) (by decide) rfl (fun ls hl => ?_)
              refine lv_goto (tgt := 6) hx hb dX10_readsCodes_284 (by decide) ?_
              refine lv_iload hx hb dX10_readsCodes_6 (lv_at hl 0 rfl) ?_
              refine lv_iload_n hx hb dX10_readsCodes_8 rfl (lv_at hl 7 rfl) ?_
              refine jN_ge (tgt := 287) (a := k + 1) (b := cnt) C (by omega) (by omega) dX10_readsCodes_9 (by decide) (fun c_9 => ?_) (fun c_9 => ?_)
              · skip
                exact rV C hr hlk h dX10_readsCodes_287 (Nat.le_of_ble_eq_true rfl) (Nat.le_of_ble_eq_true rfl) (by have e : rdL (wt w 1) (wt w 2) (wt w 3) (wt w 4) t n (cnt) (nI 0) (p0) = .inr (2, p) := (by rw [h3, rdL_bad (by omega) hrd (by rw [hs3]; exact nb_hi c_227)]; rfl); show rcQ v sc ar t0 (rdL (wt w 1) (wt w 2) (wt w 3) (wt w 4) t n (cnt) (nI 0) (p0)) _; rw [e]; exact ⟨_, _, by rw [va_uu]⟩)
              · skip
                refine lv_aload_n hx hb dX10_readsCodes_12 rfl (lv_at hl 5 rfl) ?_
                refine rg_X10_171 C h dX10_readsCodes_13 ?_
                refine tI (y := nI (2)) rfl ?_
                refine zN_ne (tgt := 287) (a := 2) C (by decide) dX10_readsCodes_16 (by decide) (fun _ => ?_) (fun q => absurd q (by decide))
                exact rV C hr hlk h dX10_readsCodes_287 (Nat.le_of_ble_eq_true rfl) (Nat.le_of_ble_eq_true rfl) (by have e : rdL (wt w 1) (wt w 2) (wt w 3) (wt w 4) t n (cnt) (nI 0) (p0) = .inr (2, p) := (by rw [h3, rdL_bad (by omega) hrd (by rw [hs3]; exact nb_hi c_227)]; rfl); show rcQ v sc ar t0 (rdL (wt w 1) (wt w 2) (wt w 3) (wt w 4) t n (cnt) (nI 0) (p0)) _; rw [e]; exact ⟨_, _, by rw [va_uu]⟩)
          · skip
            have c_227 : (acc) < (4294967296) := Nat.not_le.mp (fun q => c_227 ((lg_cmp_ge _ _).mpr ((pk_lLE (by omega) (by omega)).mpr q)))
            refine lv_lload hx hb dX10_readsCodes_230 (lv_at hl 0 rfl) ?_
            refine lv_ldc2 (v := 2147483648) hx hb C.1.2.2.2.1 (C.1.2.2.2.2 _ uk_X10_184) dX10_readsCodes_232 ?_
            refine tL (y := lN 2147483648) (by decide) ?_
            refine W.lcmp hx hb dX10_readsCodes_235 ?_
            refine lv_if_lt (tgt := 246) hx hb dX10_readsCodes_236 (by decide) (fun c_236 => ?_) (fun c_236 => ?_)
            · skip
              have c_236 : (acc - acc / 4) < (2147483648) := (pk_lLT (by omega) (by omega)).mp ((lg_cmp_lt _ _).mp c_236)
              refine lv_aload_n hx hb dX10_readsCodes_246 rfl (lv_at hl 3 rfl) ?_
              refine rg_X10_22 C h dX10_readsCodes_247 ?_
              refine lv_iload_n hx hb dX10_readsCodes_250 rfl (lv_at hl 4 rfl) ?_
              refine ldA 32 rfl (j := w) (show w < 40 by omega) (by decide) C h dX10_readsCodes_251 ?_
              refine tI (y := nI (wt w 4)) (hRW w hw).2.2.2.2.1 ?_
              refine lv_iconst (v := nI (1)) hx hb dX10_readsCodes_252 (by decide) ?_
              refine jN_ne (tgt := 265) (a := wt w 4) (b := 1) C (by omega) (by omega) dX10_readsCodes_253 (by decide) (fun c_253 => ?_) (fun c_253 => ?_)
              · skip
                refine lv_lload hx hb dX10_readsCodes_265 (lv_at hl 0 rfl) ?_
                refine lv_l2i (v := nI (acc - acc / 4)) hx hb dX10_readsCodes_267 (lN_i _) ?_
                refine lv_istore (lv' := [(4, .int (nI (acc - acc / 4))), (14, .long (lN (acc - acc / 4))), (13, .int (nI (0))), (12, .int (nI (2))), (0, .ref (zad z 27)), (1, .int (nI (w))), (2, .int (nI (cnt))), (3, .int (nI (t0))), (5, .int (nI (k))), (6, .int (nI (p))), (7, .long (lN (acc))), (9, .long (lN (wq))), (11, .int (nI (lf)))]) hx hb dX10_readsCodes_268 hl (by decide) rfl (fun ls hl => ?_)
                refine lv_aload_n hx hb dX10_readsCodes_270 rfl (lv_at hl 4 rfl) ?_
                refine rg_X10_48 C h dX10_readsCodes_271 ?_
                refine lv_iload_n hx hb dX10_readsCodes_274 rfl (lv_at hl 7 rfl) ?_
                refine lv_iload hx hb dX10_readsCodes_275 (lv_at hl 8 rfl) ?_
                refine lv_iadd hx hb dX10_readsCodes_277 ?_
                refine tI (y := nI (t0 + k)) (nI_add _ _) ?_
                refine lv_iload hx hb dX10_readsCodes_278 (lv_at hl 0 rfl) ?_
                refine stA 36 rfl (j := t0 + k) (x := nI (acc - acc / 4)) (show t0 + k < 40000 by omega) (by decide) C h dX10_readsCodes_280 (fun H locs h => ?_)
                have h := rr_put (by omega) h
                have h : hH z v (va_up sc 32 (nI (p2))) (va_up ar 36 (wrR (ar 36) t0 (xs ++ [nI (acc - acc / 4)]))) s H locs := h
                refine lv_iinc (v := nI (k + 1)) (lv' := [(5, .int (nI (k + 1))), (4, .int (nI (acc - acc / 4))), (14, .long (lN (acc - acc / 4))), (13, .int (nI (0))), (12, .int (nI (2))), (0, .ref (zad z 27)), (1, .int (nI (w))), (2, .int (nI (cnt))), (3, .int (nI (t0))), (6, .int (nI (p))), (7, .long (lN (acc))), (9, .long (lN (wq))), (11, .int (nI (lf)))]) hx hb dX10_readsCodes_281 hl (k := 8) rfl (nN_inc _) (by decide) rfl (fun ls hl => ?_)
                refine lv_goto (tgt := 6) hx hb dX10_readsCodes_284 (by decide) ?_
                exact ih_6 (k + 1) (nI (acc - acc / 4)) (p2) (xs ++ [nI (acc - acc / 4)]) (by omega) H locs ls ⟨by omega, by simp; omega, by omega, by rw [h3, rdL_ok (i := ((acc - acc / 4 : Nat) : Int)) (by omega) hrd (by rw [hs3]; exact (nb_pos (s := 2) c_227 (by decide) c_168).trans (if_pos c_236)), ← (show nI (acc - acc / 4) = if (wt w 4) = 1 then bef + Int32.ofInt ((acc - acc / 4 : Nat) : Int) else Int32.ofInt ((acc - acc / 4 : Nat) : Int) by rw [if_neg c_253, ← (i2n (X := acc - acc / 4) (by omega)).symm]), rdPre_app, show cnt - k - 1 = cnt - (k + 1) by omega], h, lv_sub hl [5, 6, 7, 8, 1, 0] rfl⟩
              · skip
                refine lv_iload hx hb dX10_readsCodes_256 (lv_at hl 7 rfl) ?_
                refine lv_lload hx hb dX10_readsCodes_258 (lv_at hl 0 rfl) ?_
                refine lv_l2i (v := nI (acc - acc / 4)) hx hb dX10_readsCodes_260 (lN_i _) ?_
                refine lv_iadd hx hb dX10_readsCodes_261 ?_
                refine lv_goto (tgt := 268) hx hb dX10_readsCodes_262 (by decide) ?_
                refine lv_istore (lv' := [(4, .int (bef + nI (acc - acc / 4))), (14, .long (lN (acc - acc / 4))), (13, .int (nI (0))), (12, .int (nI (2))), (0, .ref (zad z 27)), (1, .int (nI (w))), (2, .int (nI (cnt))), (3, .int (nI (t0))), (5, .int (nI (k))), (6, .int (nI (p))), (7, .long (lN (acc))), (9, .long (lN (wq))), (11, .int (nI (lf)))]) hx hb dX10_readsCodes_268 hl (by decide) rfl (fun ls hl => ?_)
                refine lv_aload_n hx hb dX10_readsCodes_270 rfl (lv_at hl 4 rfl) ?_
                refine rg_X10_48 C h dX10_readsCodes_271 ?_
                refine lv_iload_n hx hb dX10_readsCodes_274 rfl (lv_at hl 7 rfl) ?_
                refine lv_iload hx hb dX10_readsCodes_275 (lv_at hl 8 rfl) ?_
                refine lv_iadd hx hb dX10_readsCodes_277 ?_
                refine tI (y := nI (t0 + k)) (nI_add _ _) ?_
                refine lv_iload hx hb dX10_readsCodes_278 (lv_at hl 0 rfl) ?_
                refine stA 36 rfl (j := t0 + k) (x := bef + nI (acc - acc / 4)) (show t0 + k < 40000 by omega) (by decide) C h dX10_readsCodes_280 (fun H locs h => ?_)
                have h := rr_put (by omega) h
                have h : hH z v (va_up sc 32 (nI (p2))) (va_up ar 36 (wrR (ar 36) t0 (xs ++ [bef + nI (acc - acc / 4)]))) s H locs := h
                refine lv_iinc (v := nI (k + 1)) (lv' := [(5, .int (nI (k + 1))), (4, .int (bef + nI (acc - acc / 4))), (14, .long (lN (acc - acc / 4))), (13, .int (nI (0))), (12, .int (nI (2))), (0, .ref (zad z 27)), (1, .int (nI (w))), (2, .int (nI (cnt))), (3, .int (nI (t0))), (6, .int (nI (p))), (7, .long (lN (acc))), (9, .long (lN (wq))), (11, .int (nI (lf)))]) hx hb dX10_readsCodes_281 hl (k := 8) rfl (nN_inc _) (by decide) rfl (fun ls hl => ?_)
                refine lv_goto (tgt := 6) hx hb dX10_readsCodes_284 (by decide) ?_
                exact ih_6 (k + 1) (bef + nI (acc - acc / 4)) (p2) (xs ++ [bef + nI (acc - acc / 4)]) (by omega) H locs ls ⟨by omega, by simp; omega, by omega, by rw [h3, rdL_ok (i := ((acc - acc / 4 : Nat) : Int)) (by omega) hrd (by rw [hs3]; exact (nb_pos (s := 2) c_227 (by decide) c_168).trans (if_pos c_236)), ← (show bef + nI (acc - acc / 4) = if (wt w 4) = 1 then bef + Int32.ofInt ((acc - acc / 4 : Nat) : Int) else Int32.ofInt ((acc - acc / 4 : Nat) : Int) by rw [if_pos c_253, ← (i2n (X := acc - acc / 4) (by omega)).symm]), rdPre_app, show cnt - k - 1 = cnt - (k + 1) by omega], h, lv_sub hl [5, 6, 7, 8, 1, 0] rfl⟩
            · skip
              have c_236 : (2147483648) ≤ (acc - acc / 4) := Nat.not_lt.mp (fun q => c_236 ((lg_cmp_lt _ _).mpr ((pk_lLT (by omega) (by omega)).mpr q)))
              refine lv_aload_n hx hb dX10_readsCodes_239 rfl (lv_at hl 3 rfl) ?_
              refine lv_iconst (v := nI (2)) hx hb dX10_readsCodes_240 (by decide) ?_
              refine lv_iload hx hb dX10_readsCodes_241 (lv_at hl 9 rfl) ?_
              refine backV h (runV (As := [.int (nI (2)), .int (nI (p))]) (rest := []) C h (r_fails l z v (va_up sc 32 (nI (p2))) (va_up ar 36 (wrR (ar 36) t0 (xs))) (nI 2) (nI p)) gv_X10_180 gv_X10_180_n ⟨rfl, rfl⟩ (r_Ref C h) rfl hl.1 rfl (Nat.le_of_ble_eq_true rfl) dX10_readsCodes_243 ⟨Nat.le_of_ble_eq_true rfl, Nat.le_of_ble_eq_true rfl⟩ ⟨Nat.le_of_ble_eq_true rfl, Nat.le_of_ble_eq_true rfl⟩) (fun v_243 sc_243 ar_243 H locs p_243 h => ?_)
              have h : hH z v (va_up (va_up (va_up sc 32 (nI (p2))) 33 (nI 2)) 34 (nI p)) (va_up ar 36 (wrR (ar 36) t0 (xs))) s H locs := uEq p_243 h
              refine lv_aload_n hx hb dX10_readsCodes_246 rfl (lv_at hl 3 rfl) ?_
              refine rg_X10_22 C h dX10_readsCodes_247 ?_
              refine lv_iload_n hx hb dX10_readsCodes_250 rfl (lv_at hl 4 rfl) ?_
              refine ldA 32 rfl (j := w) (show w < 40 by omega) (by decide) C h dX10_readsCodes_251 ?_
              refine tI (y := nI (wt w 4)) (hRW w hw).2.2.2.2.1 ?_
              refine lv_iconst (v := nI (1)) hx hb dX10_readsCodes_252 (by decide) ?_
              refine jN_ne (tgt := 265) (a := wt w 4) (b := 1) C (by omega) (by omega) dX10_readsCodes_253 (by decide) (fun c_253 => ?_) (fun c_253 => ?_)
              · skip
                refine lv_lload hx hb dX10_readsCodes_265 (lv_at hl 0 rfl) ?_
                refine lv_l2i (v := nI (acc - acc / 4)) hx hb dX10_readsCodes_267 (lN_i _) ?_
                refine lv_istore (lv' := [(4, .int (nI (acc - acc / 4))), (14, .long (lN (acc - acc / 4))), (13, .int (nI (0))), (12, .int (nI (2))), (0, .ref (zad z 27)), (1, .int (nI (w))), (2, .int (nI (cnt))), (3, .int (nI (t0))), (5, .int (nI (k))), (6, .int (nI (p))), (7, .long (lN (acc))), (9, .long (lN (wq))), (11, .int (nI (lf)))]) hx hb dX10_readsCodes_268 hl (by decide) rfl (fun ls hl => ?_)
                refine lv_aload_n hx hb dX10_readsCodes_270 rfl (lv_at hl 4 rfl) ?_
                refine rg_X10_48 C h dX10_readsCodes_271 ?_
                refine lv_iload_n hx hb dX10_readsCodes_274 rfl (lv_at hl 7 rfl) ?_
                refine lv_iload hx hb dX10_readsCodes_275 (lv_at hl 8 rfl) ?_
                refine lv_iadd hx hb dX10_readsCodes_277 ?_
                refine tI (y := nI (t0 + k)) (nI_add _ _) ?_
                refine lv_iload hx hb dX10_readsCodes_278 (lv_at hl 0 rfl) ?_
                refine stA 36 rfl (j := t0 + k) (x := nI (acc - acc / 4)) (show t0 + k < 40000 by omega) (by decide) C h dX10_readsCodes_280 (fun H locs h => ?_)
                refine lv_iinc (v := nI (k + 1)) (lv' := [(5, .int (nI (k + 1))), (4, .int (nI (acc - acc / 4))), (14, .long (lN (acc - acc / 4))), (13, .int (nI (0))), (12, .int (nI (2))), (0, .ref (zad z 27)), (1, .int (nI (w))), (2, .int (nI (cnt))), (3, .int (nI (t0))), (6, .int (nI (p))), (7, .long (lN (acc))), (9, .long (lN (wq))), (11, .int (nI (lf)))]) hx hb dX10_readsCodes_281 hl (k := 8) rfl (nN_inc _) (by decide) rfl (fun ls hl => ?_)
                refine lv_goto (tgt := 6) hx hb dX10_readsCodes_284 (by decide) ?_
                refine lv_iload hx hb dX10_readsCodes_6 (lv_at hl 0 rfl) ?_
                refine lv_iload_n hx hb dX10_readsCodes_8 rfl (lv_at hl 7 rfl) ?_
                refine jN_ge (tgt := 287) (a := k + 1) (b := cnt) C (by omega) (by omega) dX10_readsCodes_9 (by decide) (fun c_9 => ?_) (fun c_9 => ?_)
                · skip
                  exact rV C hr hlk h dX10_readsCodes_287 (Nat.le_of_ble_eq_true rfl) (Nat.le_of_ble_eq_true rfl) (by have e : rdL (wt w 1) (wt w 2) (wt w 3) (wt w 4) t n (cnt) (nI 0) (p0) = .inr (2, p) := (by rw [h3, rdL_bad (by omega) hrd (by rw [hs3]; exact (nb_pos (s := 2) c_227 (by decide) c_168).trans (if_neg (by omega)))]; rfl); show rcQ v sc ar t0 (rdL (wt w 1) (wt w 2) (wt w 3) (wt w 4) t n (cnt) (nI 0) (p0)) _; rw [e]; exact ⟨_, _, by rw [va_uu]⟩)
                · skip
                  refine lv_aload_n hx hb dX10_readsCodes_12 rfl (lv_at hl 5 rfl) ?_
                  refine rg_X10_171 C h dX10_readsCodes_13 ?_
                  refine tI (y := nI (2)) rfl ?_
                  refine zN_ne (tgt := 287) (a := 2) C (by decide) dX10_readsCodes_16 (by decide) (fun _ => ?_) (fun q => absurd q (by decide))
                  exact rV C hr hlk h dX10_readsCodes_287 (Nat.le_of_ble_eq_true rfl) (Nat.le_of_ble_eq_true rfl) (by have e : rdL (wt w 1) (wt w 2) (wt w 3) (wt w 4) t n (cnt) (nI 0) (p0) = .inr (2, p) := (by rw [h3, rdL_bad (by omega) hrd (by rw [hs3]; exact (nb_pos (s := 2) c_227 (by decide) c_168).trans (if_neg (by omega)))]; rfl); show rcQ v sc ar t0 (rdL (wt w 1) (wt w 2) (wt w 3) (wt w 4) t n (cnt) (nI 0) (p0)) _; rw [e]; exact ⟨_, _, by rw [va_uu]⟩)
              · skip
                refine lv_iload hx hb dX10_readsCodes_256 (lv_at hl 7 rfl) ?_
                refine lv_lload hx hb dX10_readsCodes_258 (lv_at hl 0 rfl) ?_
                refine lv_l2i (v := nI (acc - acc / 4)) hx hb dX10_readsCodes_260 (lN_i _) ?_
                refine lv_iadd hx hb dX10_readsCodes_261 ?_
                refine lv_goto (tgt := 268) hx hb dX10_readsCodes_262 (by decide) ?_
                refine lv_istore (lv' := [(4, .int (bef + nI (acc - acc / 4))), (14, .long (lN (acc - acc / 4))), (13, .int (nI (0))), (12, .int (nI (2))), (0, .ref (zad z 27)), (1, .int (nI (w))), (2, .int (nI (cnt))), (3, .int (nI (t0))), (5, .int (nI (k))), (6, .int (nI (p))), (7, .long (lN (acc))), (9, .long (lN (wq))), (11, .int (nI (lf)))]) hx hb dX10_readsCodes_268 hl (by decide) rfl (fun ls hl => ?_)
                refine lv_aload_n hx hb dX10_readsCodes_270 rfl (lv_at hl 4 rfl) ?_
                refine rg_X10_48 C h dX10_readsCodes_271 ?_
                refine lv_iload_n hx hb dX10_readsCodes_274 rfl (lv_at hl 7 rfl) ?_
                refine lv_iload hx hb dX10_readsCodes_275 (lv_at hl 8 rfl) ?_
                refine lv_iadd hx hb dX10_readsCodes_277 ?_
                refine tI (y := nI (t0 + k)) (nI_add _ _) ?_
                refine lv_iload hx hb dX10_readsCodes_278 (lv_at hl 0 rfl) ?_
                refine stA 36 rfl (j := t0 + k) (x := bef + nI (acc - acc / 4)) (show t0 + k < 40000 by omega) (by decide) C h dX10_readsCodes_280 (fun H locs h => ?_)
                refine lv_iinc (v := nI (k + 1)) (lv' := [(5, .int (nI (k + 1))), (4, .int (bef + nI (acc - acc / 4))), (14, .long (lN (acc - acc / 4))), (13, .int (nI (0))), (12, .int (nI (2))), (0, .ref (zad z 27)), (1, .int (nI (w))), (2, .int (nI (cnt))), (3, .int (nI (t0))), (6, .int (nI (p))), (7, .long (lN (acc))), (9, .long (lN (wq))), (11, .int (nI (lf)))]) hx hb dX10_readsCodes_281 hl (k := 8) rfl (nN_inc _) (by decide) rfl (fun ls hl => ?_)
                refine lv_goto (tgt := 6) hx hb dX10_readsCodes_284 (by decide) ?_
                refine lv_iload hx hb dX10_readsCodes_6 (lv_at hl 0 rfl) ?_
                refine lv_iload_n hx hb dX10_readsCodes_8 rfl (lv_at hl 7 rfl) ?_
                refine jN_ge (tgt := 287) (a := k + 1) (b := cnt) C (by omega) (by omega) dX10_readsCodes_9 (by decide) (fun c_9 => ?_) (fun c_9 => ?_)
                · skip
                  exact rV C hr hlk h dX10_readsCodes_287 (Nat.le_of_ble_eq_true rfl) (Nat.le_of_ble_eq_true rfl) (by have e : rdL (wt w 1) (wt w 2) (wt w 3) (wt w 4) t n (cnt) (nI 0) (p0) = .inr (2, p) := (by rw [h3, rdL_bad (by omega) hrd (by rw [hs3]; exact (nb_pos (s := 2) c_227 (by decide) c_168).trans (if_neg (by omega)))]; rfl); show rcQ v sc ar t0 (rdL (wt w 1) (wt w 2) (wt w 3) (wt w 4) t n (cnt) (nI 0) (p0)) _; rw [e]; exact ⟨_, _, by rw [va_uu]⟩)
                · skip
                  refine lv_aload_n hx hb dX10_readsCodes_12 rfl (lv_at hl 5 rfl) ?_
                  refine rg_X10_171 C h dX10_readsCodes_13 ?_
                  refine tI (y := nI (2)) rfl ?_
                  refine zN_ne (tgt := 287) (a := 2) C (by decide) dX10_readsCodes_16 (by decide) (fun _ => ?_) (fun q => absurd q (by decide))
                  exact rV C hr hlk h dX10_readsCodes_287 (Nat.le_of_ble_eq_true rfl) (Nat.le_of_ble_eq_true rfl) (by have e : rdL (wt w 1) (wt w 2) (wt w 3) (wt w 4) t n (cnt) (nI 0) (p0) = .inr (2, p) := (by rw [h3, rdL_bad (by omega) hrd (by rw [hs3]; exact (nb_pos (s := 2) c_227 (by decide) c_168).trans (if_neg (by omega)))]; rfl); show rcQ v sc ar t0 (rdL (wt w 1) (wt w 2) (wt w 3) (wt w 4) t n (cnt) (nI 0) (p0)) _; rw [e]; exact ⟨_, _, by rw [va_uu]⟩)
        · skip
          have c_168 : (((acc) + (1)) % (4)) = (0) := (pk_lEQ (by omega) (by omega)).mp ((lg_cmp_eq _ _).mp c_168)
          refine lv_iconst (v := nI (1)) hx hb dX10_readsCodes_171 (by decide) ?_
          refine lv_goto (tgt := 176) hx hb dX10_readsCodes_172 (by decide) ?_
          refine lv_istore (lv' := [(13, .int (nI (1))), (12, .int (nI (2))), (0, .ref (zad z 27)), (1, .int (nI (w))), (2, .int (nI (cnt))), (3, .int (nI (t0))), (4, .int (bef)), (5, .int (nI (k))), (6, .int (nI (p))), (7, .long (lN (acc))), (9, .long (lN (wq))), (11, .int (nI (lf)))]) hx hb dX10_readsCodes_176 hl (by decide) rfl (fun ls hl => ?_)
          refine lv_iload hx hb dX10_readsCodes_178 (lv_at hl 0 rfl) ?_
          refine zN_eq (tgt := 194) (a := 1) C (by decide) dX10_readsCodes_180 (by decide) (fun q => absurd q (by decide)) (fun _ => ?_)
          refine lv_lload hx hb dX10_readsCodes_183 (lv_at hl 9 rfl) ?_
          refine lv_lconst (v := lN 1) hx hb dX10_readsCodes_185 (by decide) ?_
          refine lv_ladd hx hb dX10_readsCodes_186 ?_
          refine tL (y := lN ((acc) + (1))) (lN_add _ _) ?_
          refine lv_iload hx hb dX10_readsCodes_187 (lv_at hl 1 rfl) ?_
          refine lv_lshr (v := lN (((acc) + (1)) / 4)) hx hb dX10_readsCodes_189 (lsrN (k := (acc) + (1)) (by omega) (s := 2) (by decide)) ?_
          refine lv_lneg hx hb dX10_readsCodes_190 ?_
          refine lv_goto (tgt := 212) hx hb dX10_readsCodes_191 (by decide) ?_
          refine lv_lstore (lv' := [(14, .long (-(lN (((acc) + (1)) / 4)))), (13, .int (nI (1))), (12, .int (nI (2))), (0, .ref (zad z 27)), (1, .int (nI (w))), (2, .int (nI (cnt))), (3, .int (nI (t0))), (4, .int (bef)), (5, .int (nI (k))), (6, .int (nI (p))), (7, .long (lN (acc))), (9, .long (lN (wq))), (11, .int (nI (lf)))]) hx hb dX10_readsCodes_212 hl (by decide) rfl (fun ls hl => ?_)
          refine lv_aload_n hx hb dX10_readsCodes_214 rfl (lv_at hl 3 rfl) ?_
          refine rg_X10_171 C h dX10_readsCodes_215 ?_
          refine tI (y := nI (0)) hf0 ?_
          refine zN_ne (tgt := 246) (a := 0) C (by decide) dX10_readsCodes_218 (by decide) (fun q => absurd q (by decide)) (fun _ => ?_)
          refine lv_lload hx hb dX10_readsCodes_221 (lv_at hl 10 rfl) ?_
          refine lv_ldc2 (v := 4294967296) hx hb C.1.2.2.2.1 (C.1.2.2.2.2 _ uk_X10_133) dX10_readsCodes_223 ?_
          refine tL (y := lN 4294967296) (by decide) ?_
          refine W.lcmp hx hb dX10_readsCodes_226 ?_
          refine lv_if_ge (tgt := 239) hx hb dX10_readsCodes_227 (by decide) (fun c_227 => ?_) (fun c_227 => ?_)
          · skip
            have c_227 : (4294967296) ≤ (acc) := (pk_lLE (by omega) (by omega)).mp ((lg_cmp_ge _ _).mp c_227)
            refine lv_aload_n hx hb dX10_readsCodes_239 rfl (lv_at hl 3 rfl) ?_
            refine lv_iconst (v := nI (2)) hx hb dX10_readsCodes_240 (by decide) ?_
            refine lv_iload hx hb dX10_readsCodes_241 (lv_at hl 9 rfl) ?_
            refine backV h (runV (As := [.int (nI (2)), .int (nI (p))]) (rest := []) C h (r_fails l z v (va_up sc 32 (nI (p2))) (va_up ar 36 (wrR (ar 36) t0 (xs))) (nI 2) (nI p)) gv_X10_180 gv_X10_180_n ⟨rfl, rfl⟩ (r_Ref C h) rfl hl.1 rfl (Nat.le_of_ble_eq_true rfl) dX10_readsCodes_243 ⟨Nat.le_of_ble_eq_true rfl, Nat.le_of_ble_eq_true rfl⟩ ⟨Nat.le_of_ble_eq_true rfl, Nat.le_of_ble_eq_true rfl⟩) (fun v_243 sc_243 ar_243 H locs p_243 h => ?_)
            have h : hH z v (va_up (va_up (va_up sc 32 (nI (p2))) 33 (nI 2)) 34 (nI p)) (va_up ar 36 (wrR (ar 36) t0 (xs))) s H locs := uEq p_243 h
            refine lv_aload_n hx hb dX10_readsCodes_246 rfl (lv_at hl 3 rfl) ?_
            refine rg_X10_22 C h dX10_readsCodes_247 ?_
            refine lv_iload_n hx hb dX10_readsCodes_250 rfl (lv_at hl 4 rfl) ?_
            refine ldA 32 rfl (j := w) (show w < 40 by omega) (by decide) C h dX10_readsCodes_251 ?_
            refine tI (y := nI (wt w 4)) (hRW w hw).2.2.2.2.1 ?_
            refine lv_iconst (v := nI (1)) hx hb dX10_readsCodes_252 (by decide) ?_
            refine jN_ne (tgt := 265) (a := wt w 4) (b := 1) C (by omega) (by omega) dX10_readsCodes_253 (by decide) (fun c_253 => ?_) (fun c_253 => ?_)
            · skip
              refine lv_lload hx hb dX10_readsCodes_265 (lv_at hl 0 rfl) ?_
              refine lv_l2i (v := (-(lN (((acc) + (1)) / 4))).toInt32) hx hb dX10_readsCodes_267 rfl ?_
              refine lv_istore (lv' := [(4, .int ((-(lN (((acc) + (1)) / 4))).toInt32)), (14, .long (-(lN (((acc) + (1)) / 4)))), (13, .int (nI (1))), (12, .int (nI (2))), (0, .ref (zad z 27)), (1, .int (nI (w))), (2, .int (nI (cnt))), (3, .int (nI (t0))), (5, .int (nI (k))), (6, .int (nI (p))), (7, .long (lN (acc))), (9, .long (lN (wq))), (11, .int (nI (lf)))]) hx hb dX10_readsCodes_268 hl (by decide) rfl (fun ls hl => ?_)
              refine lv_aload_n hx hb dX10_readsCodes_270 rfl (lv_at hl 4 rfl) ?_
              refine rg_X10_48 C h dX10_readsCodes_271 ?_
              refine lv_iload_n hx hb dX10_readsCodes_274 rfl (lv_at hl 7 rfl) ?_
              refine lv_iload hx hb dX10_readsCodes_275 (lv_at hl 8 rfl) ?_
              refine lv_iadd hx hb dX10_readsCodes_277 ?_
              refine tI (y := nI (t0 + k)) (nI_add _ _) ?_
              refine lv_iload hx hb dX10_readsCodes_278 (lv_at hl 0 rfl) ?_
              refine stA 36 rfl (j := t0 + k) (x := (-(lN (((acc) + (1)) / 4))).toInt32) (show t0 + k < 40000 by omega) (by decide) C h dX10_readsCodes_280 (fun H locs h => ?_)
              refine lv_iinc (v := nI (k + 1)) (lv' := [(5, .int (nI (k + 1))), (4, .int ((-(lN (((acc) + (1)) / 4))).toInt32)), (14, .long (-(lN (((acc) + (1)) / 4)))), (13, .int (nI (1))), (12, .int (nI (2))), (0, .ref (zad z 27)), (1, .int (nI (w))), (2, .int (nI (cnt))), (3, .int (nI (t0))), (6, .int (nI (p))), (7, .long (lN (acc))), (9, .long (lN (wq))), (11, .int (nI (lf)))]) hx hb dX10_readsCodes_281 hl (k := 8) rfl (nN_inc _) (by decide) rfl (fun ls hl => ?_)
              refine lv_goto (tgt := 6) hx hb dX10_readsCodes_284 (by decide) ?_
              refine lv_iload hx hb dX10_readsCodes_6 (lv_at hl 0 rfl) ?_
              refine lv_iload_n hx hb dX10_readsCodes_8 rfl (lv_at hl 7 rfl) ?_
              refine jN_ge (tgt := 287) (a := k + 1) (b := cnt) C (by omega) (by omega) dX10_readsCodes_9 (by decide) (fun c_9 => ?_) (fun c_9 => ?_)
              · skip
                exact rV C hr hlk h dX10_readsCodes_287 (Nat.le_of_ble_eq_true rfl) (Nat.le_of_ble_eq_true rfl) (by have e : rdL (wt w 1) (wt w 2) (wt w 3) (wt w 4) t n (cnt) (nI 0) (p0) = .inr (2, p) := (by rw [h3, rdL_bad (by omega) hrd (by rw [hs3]; exact nb_hi c_227)]; rfl); show rcQ v sc ar t0 (rdL (wt w 1) (wt w 2) (wt w 3) (wt w 4) t n (cnt) (nI 0) (p0)) _; rw [e]; exact ⟨_, _, by rw [va_uu]⟩)
              · skip
                refine lv_aload_n hx hb dX10_readsCodes_12 rfl (lv_at hl 5 rfl) ?_
                refine rg_X10_171 C h dX10_readsCodes_13 ?_
                refine tI (y := nI (2)) rfl ?_
                refine zN_ne (tgt := 287) (a := 2) C (by decide) dX10_readsCodes_16 (by decide) (fun _ => ?_) (fun q => absurd q (by decide))
                exact rV C hr hlk h dX10_readsCodes_287 (Nat.le_of_ble_eq_true rfl) (Nat.le_of_ble_eq_true rfl) (by have e : rdL (wt w 1) (wt w 2) (wt w 3) (wt w 4) t n (cnt) (nI 0) (p0) = .inr (2, p) := (by rw [h3, rdL_bad (by omega) hrd (by rw [hs3]; exact nb_hi c_227)]; rfl); show rcQ v sc ar t0 (rdL (wt w 1) (wt w 2) (wt w 3) (wt w 4) t n (cnt) (nI 0) (p0)) _; rw [e]; exact ⟨_, _, by rw [va_uu]⟩)
            · skip
              refine lv_iload hx hb dX10_readsCodes_256 (lv_at hl 7 rfl) ?_
              refine lv_lload hx hb dX10_readsCodes_258 (lv_at hl 0 rfl) ?_
              refine lv_l2i (v := (-(lN (((acc) + (1)) / 4))).toInt32) hx hb dX10_readsCodes_260 rfl ?_
              refine lv_iadd hx hb dX10_readsCodes_261 ?_
              refine lv_goto (tgt := 268) hx hb dX10_readsCodes_262 (by decide) ?_
              refine lv_istore (lv' := [(4, .int (bef + (-(lN (((acc) + (1)) / 4))).toInt32)), (14, .long (-(lN (((acc) + (1)) / 4)))), (13, .int (nI (1))), (12, .int (nI (2))), (0, .ref (zad z 27)), (1, .int (nI (w))), (2, .int (nI (cnt))), (3, .int (nI (t0))), (5, .int (nI (k))), (6, .int (nI (p))), (7, .long (lN (acc))), (9, .long (lN (wq))), (11, .int (nI (lf)))]) hx hb dX10_readsCodes_268 hl (by decide) rfl (fun ls hl => ?_)
              refine lv_aload_n hx hb dX10_readsCodes_270 rfl (lv_at hl 4 rfl) ?_
              refine rg_X10_48 C h dX10_readsCodes_271 ?_
              refine lv_iload_n hx hb dX10_readsCodes_274 rfl (lv_at hl 7 rfl) ?_
              refine lv_iload hx hb dX10_readsCodes_275 (lv_at hl 8 rfl) ?_
              refine lv_iadd hx hb dX10_readsCodes_277 ?_
              refine tI (y := nI (t0 + k)) (nI_add _ _) ?_
              refine lv_iload hx hb dX10_readsCodes_278 (lv_at hl 0 rfl) ?_
              refine stA 36 rfl (j := t0 + k) (x := bef + (-(lN (((acc) + (1)) / 4))).toInt32) (show t0 + k < 40000 by omega) (by decide) C h dX10_readsCodes_280 (fun H locs h => ?_)
              refine lv_iinc (v := nI (k + 1)) (lv' := [(5, .int (nI (k + 1))), (4, .int (bef + (-(lN (((acc) + (1)) / 4))).toInt32)), (14, .long (-(lN (((acc) + (1)) / 4)))), (13, .int (nI (1))), (12, .int (nI (2))), (0, .ref (zad z 27)), (1, .int (nI (w))), (2, .int (nI (cnt))), (3, .int (nI (t0))), (6, .int (nI (p))), (7, .long (lN (acc))), (9, .long (lN (wq))), (11, .int (nI (lf)))]) hx hb dX10_readsCodes_281 hl (k := 8) rfl (nN_inc _) (by decide) rfl (fun ls hl => ?_)
              refine lv_goto (tgt := 6) hx hb dX10_readsCodes_284 (by decide) ?_
              refine lv_iload hx hb dX10_readsCodes_6 (lv_at hl 0 rfl) ?_
              refine lv_iload_n hx hb dX10_readsCodes_8 rfl (lv_at hl 7 rfl) ?_
              refine jN_ge (tgt := 287) (a := k + 1) (b := cnt) C (by omega) (by omega) dX10_readsCodes_9 (by decide) (fun c_9 => ?_) (fun c_9 => ?_)
              · skip
                exact rV C hr hlk h dX10_readsCodes_287 (Nat.le_of_ble_eq_true rfl) (Nat.le_of_ble_eq_true rfl) (by have e : rdL (wt w 1) (wt w 2) (wt w 3) (wt w 4) t n (cnt) (nI 0) (p0) = .inr (2, p) := (by rw [h3, rdL_bad (by omega) hrd (by rw [hs3]; exact nb_hi c_227)]; rfl); show rcQ v sc ar t0 (rdL (wt w 1) (wt w 2) (wt w 3) (wt w 4) t n (cnt) (nI 0) (p0)) _; rw [e]; exact ⟨_, _, by rw [va_uu]⟩)
              · skip
                refine lv_aload_n hx hb dX10_readsCodes_12 rfl (lv_at hl 5 rfl) ?_
                refine rg_X10_171 C h dX10_readsCodes_13 ?_
                refine tI (y := nI (2)) rfl ?_
                refine zN_ne (tgt := 287) (a := 2) C (by decide) dX10_readsCodes_16 (by decide) (fun _ => ?_) (fun q => absurd q (by decide))
                exact rV C hr hlk h dX10_readsCodes_287 (Nat.le_of_ble_eq_true rfl) (Nat.le_of_ble_eq_true rfl) (by have e : rdL (wt w 1) (wt w 2) (wt w 3) (wt w 4) t n (cnt) (nI 0) (p0) = .inr (2, p) := (by rw [h3, rdL_bad (by omega) hrd (by rw [hs3]; exact nb_hi c_227)]; rfl); show rcQ v sc ar t0 (rdL (wt w 1) (wt w 2) (wt w 3) (wt w 4) t n (cnt) (nI 0) (p0)) _; rw [e]; exact ⟨_, _, by rw [va_uu]⟩)
          · skip
            have c_227 : (acc) < (4294967296) := Nat.not_le.mp (fun q => c_227 ((lg_cmp_ge _ _).mpr ((pk_lLE (by omega) (by omega)).mpr q)))
            refine lv_lload hx hb dX10_readsCodes_230 (lv_at hl 0 rfl) ?_
            refine lv_ldc2 (v := 2147483648) hx hb C.1.2.2.2.1 (C.1.2.2.2.2 _ uk_X10_184) dX10_readsCodes_232 ?_
            refine tL (y := lN 2147483648) (by decide) ?_
            refine W.lcmp hx hb dX10_readsCodes_235 ?_
            refine lv_if_lt (tgt := 246) hx hb dX10_readsCodes_236 (by decide) (fun c_236 => ?_) (fun c_236 => ?_)
            · skip
              have c_236 : (-(lN (((acc) + (1)) / 4))) < (lN (2147483648)) := (lg_cmp_lt _ _).mp c_236
              refine lv_aload_n hx hb dX10_readsCodes_246 rfl (lv_at hl 3 rfl) ?_
              refine rg_X10_22 C h dX10_readsCodes_247 ?_
              refine lv_iload_n hx hb dX10_readsCodes_250 rfl (lv_at hl 4 rfl) ?_
              refine ldA 32 rfl (j := w) (show w < 40 by omega) (by decide) C h dX10_readsCodes_251 ?_
              refine tI (y := nI (wt w 4)) (hRW w hw).2.2.2.2.1 ?_
              refine lv_iconst (v := nI (1)) hx hb dX10_readsCodes_252 (by decide) ?_
              refine jN_ne (tgt := 265) (a := wt w 4) (b := 1) C (by omega) (by omega) dX10_readsCodes_253 (by decide) (fun c_253 => ?_) (fun c_253 => ?_)
              · skip
                refine lv_lload hx hb dX10_readsCodes_265 (lv_at hl 0 rfl) ?_
                refine lv_l2i (v := (-(lN (((acc) + (1)) / 4))).toInt32) hx hb dX10_readsCodes_267 rfl ?_
                refine lv_istore (lv' := [(4, .int ((-(lN (((acc) + (1)) / 4))).toInt32)), (14, .long (-(lN (((acc) + (1)) / 4)))), (13, .int (nI (1))), (12, .int (nI (2))), (0, .ref (zad z 27)), (1, .int (nI (w))), (2, .int (nI (cnt))), (3, .int (nI (t0))), (5, .int (nI (k))), (6, .int (nI (p))), (7, .long (lN (acc))), (9, .long (lN (wq))), (11, .int (nI (lf)))]) hx hb dX10_readsCodes_268 hl (by decide) rfl (fun ls hl => ?_)
                refine lv_aload_n hx hb dX10_readsCodes_270 rfl (lv_at hl 4 rfl) ?_
                refine rg_X10_48 C h dX10_readsCodes_271 ?_
                refine lv_iload_n hx hb dX10_readsCodes_274 rfl (lv_at hl 7 rfl) ?_
                refine lv_iload hx hb dX10_readsCodes_275 (lv_at hl 8 rfl) ?_
                refine lv_iadd hx hb dX10_readsCodes_277 ?_
                refine tI (y := nI (t0 + k)) (nI_add _ _) ?_
                refine lv_iload hx hb dX10_readsCodes_278 (lv_at hl 0 rfl) ?_
                refine stA 36 rfl (j := t0 + k) (x := (-(lN (((acc) + (1)) / 4))).toInt32) (show t0 + k < 40000 by omega) (by decide) C h dX10_readsCodes_280 (fun H locs h => ?_)
                have h := rr_put (by omega) h
                have h : hH z v (va_up sc 32 (nI (p2))) (va_up ar 36 (wrR (ar 36) t0 (xs ++ [(-(lN (((acc) + (1)) / 4))).toInt32]))) s H locs := h
                refine lv_iinc (v := nI (k + 1)) (lv' := [(5, .int (nI (k + 1))), (4, .int ((-(lN (((acc) + (1)) / 4))).toInt32)), (14, .long (-(lN (((acc) + (1)) / 4)))), (13, .int (nI (1))), (12, .int (nI (2))), (0, .ref (zad z 27)), (1, .int (nI (w))), (2, .int (nI (cnt))), (3, .int (nI (t0))), (6, .int (nI (p))), (7, .long (lN (acc))), (9, .long (lN (wq))), (11, .int (nI (lf)))]) hx hb dX10_readsCodes_281 hl (k := 8) rfl (nN_inc _) (by decide) rfl (fun ls hl => ?_)
                refine lv_goto (tgt := 6) hx hb dX10_readsCodes_284 (by decide) ?_
                exact ih_6 (k + 1) ((-(lN (((acc) + (1)) / 4))).toInt32) (p2) (xs ++ [(-(lN (((acc) + (1)) / 4))).toInt32]) (by omega) H locs ls ⟨by omega, by simp; omega, by omega, by rw [h3, rdL_ok (i := (-(((acc + 1) / 4 : Nat) : Int))) (by omega) hrd (by rw [hs3]; exact nb_neg (s := 2) c_227 (by decide) c_168), ← (show (-(lN (((acc) + (1)) / 4))).toInt32 = if (wt w 4) = 1 then bef + Int32.ofInt (-(((acc + 1) / 4 : Nat) : Int)) else Int32.ofInt (-(((acc + 1) / 4 : Nat) : Int)) by rw [if_neg c_253, ← (i2neg (X := (acc + 1) / 4) (by omega))]), rdPre_app, show cnt - k - 1 = cnt - (k + 1) by omega], h, lv_sub hl [5, 6, 7, 8, 1, 0] rfl⟩
              · skip
                refine lv_iload hx hb dX10_readsCodes_256 (lv_at hl 7 rfl) ?_
                refine lv_lload hx hb dX10_readsCodes_258 (lv_at hl 0 rfl) ?_
                refine lv_l2i (v := (-(lN (((acc) + (1)) / 4))).toInt32) hx hb dX10_readsCodes_260 rfl ?_
                refine lv_iadd hx hb dX10_readsCodes_261 ?_
                refine lv_goto (tgt := 268) hx hb dX10_readsCodes_262 (by decide) ?_
                refine lv_istore (lv' := [(4, .int (bef + (-(lN (((acc) + (1)) / 4))).toInt32)), (14, .long (-(lN (((acc) + (1)) / 4)))), (13, .int (nI (1))), (12, .int (nI (2))), (0, .ref (zad z 27)), (1, .int (nI (w))), (2, .int (nI (cnt))), (3, .int (nI (t0))), (5, .int (nI (k))), (6, .int (nI (p))), (7, .long (lN (acc))), (9, .long (lN (wq))), (11, .int (nI (lf)))]) hx hb dX10_readsCodes_268 hl (by decide) rfl (fun ls hl => ?_)
                refine lv_aload_n hx hb dX10_readsCodes_270 rfl (lv_at hl 4 rfl) ?_
                refine rg_X10_48 C h dX10_readsCodes_271 ?_
                refine lv_iload_n hx hb dX10_readsCodes_274 rfl (lv_at hl 7 rfl) ?_
                refine lv_iload hx hb dX10_readsCodes_275 (lv_at hl 8 rfl) ?_
                refine lv_iadd hx hb dX10_readsCodes_277 ?_
                refine tI (y := nI (t0 + k)) (nI_add _ _) ?_
                refine lv_iload hx hb dX10_readsCodes_278 (lv_at hl 0 rfl) ?_
                refine stA 36 rfl (j := t0 + k) (x := bef + (-(lN (((acc) + (1)) / 4))).toInt32) (show t0 + k < 40000 by omega) (by decide) C h dX10_readsCodes_280 (fun H locs h => ?_)
                have h := rr_put (by omega) h
                have h : hH z v (va_up sc 32 (nI (p2))) (va_up ar 36 (wrR (ar 36) t0 (xs ++ [bef + (-(lN (((acc) + (1)) / 4))).toInt32]))) s H locs := h
                refine lv_iinc (v := nI (k + 1)) (lv' := [(5, .int (nI (k + 1))), (4, .int (bef + (-(lN (((acc) + (1)) / 4))).toInt32)), (14, .long (-(lN (((acc) + (1)) / 4)))), (13, .int (nI (1))), (12, .int (nI (2))), (0, .ref (zad z 27)), (1, .int (nI (w))), (2, .int (nI (cnt))), (3, .int (nI (t0))), (6, .int (nI (p))), (7, .long (lN (acc))), (9, .long (lN (wq))), (11, .int (nI (lf)))]) hx hb dX10_readsCodes_281 hl (k := 8) rfl (nN_inc _) (by decide) rfl (fun ls hl => ?_)
                refine lv_goto (tgt := 6) hx hb dX10_readsCodes_284 (by decide) ?_
                exact ih_6 (k + 1) (bef + (-(lN (((acc) + (1)) / 4))).toInt32) (p2) (xs ++ [bef + (-(lN (((acc) + (1)) / 4))).toInt32]) (by omega) H locs ls ⟨by omega, by simp; omega, by omega, by rw [h3, rdL_ok (i := (-(((acc + 1) / 4 : Nat) : Int))) (by omega) hrd (by rw [hs3]; exact nb_neg (s := 2) c_227 (by decide) c_168), ← (show bef + (-(lN (((acc) + (1)) / 4))).toInt32 = if (wt w 4) = 1 then bef + Int32.ofInt (-(((acc + 1) / 4 : Nat) : Int)) else Int32.ofInt (-(((acc + 1) / 4 : Nat) : Int)) by rw [if_pos c_253, ← (i2neg (X := (acc + 1) / 4) (by omega))]), rdPre_app, show cnt - k - 1 = cnt - (k + 1) by omega], h, lv_sub hl [5, 6, 7, 8, 1, 0] rfl⟩
            · skip
              have c_236 : ¬ (-(lN (((acc) + (1)) / 4))) < (lN (2147483648)) := fun q => c_236 ((lg_cmp_lt _ _).mpr q)
              exact absurd (neg_ltL (by omega)) c_236
      · skip
        refine lv_aload_n hx hb dX10_readsCodes_44 rfl (lv_at hl 0 rfl) ?_
        refine rg_X10_171 C h dX10_readsCodes_45 ?_
        refine tI (y := nI (0)) hf0 ?_
        refine zN_ne (tgt := 144) (a := 0) C (by decide) dX10_readsCodes_48 (by decide) (fun q => absurd q (by decide)) (fun _ => ?_)
        refine lv_aload_n hx hb dX10_readsCodes_51 rfl (lv_at hl 0 rfl) ?_
        refine rg_X10_177 C h dX10_readsCodes_52 ?_
        refine tI (y := nI (p2)) rfl ?_
        refine lv_aload_n hx hb dX10_readsCodes_55 rfl (lv_at hl 0 rfl) ?_
        refine rg_X10_168 C h dX10_readsCodes_56 ?_
        refine tI (y := nI (n)) hn ?_
        refine jN_ne (tgt := 72) (a := p2) (b := n) C (by omega) (by omega) dX10_readsCodes_59 (by decide) (fun c_59 => ?_) (fun c_59 => ?_)
        · skip
          refine lv_aload_n hx hb dX10_readsCodes_72 rfl (lv_at hl 0 rfl) ?_
          refine rg_X10_31 C h dX10_readsCodes_73 ?_
          refine lv_aload_n hx hb dX10_readsCodes_76 rfl (lv_at hl 0 rfl) ?_
          refine rg_X10_177 C h dX10_readsCodes_77 ?_
          refine tI (y := nI (p2)) rfl ?_
          refine ldA 35 rfl (j := p2) (show p2 < 8000 by omega) (by decide) C h dX10_readsCodes_80 ?_
          refine tI (y := nI (t p2)) (hT p2 (by omega)) ?_
          refine lv_istore (lv' := [(12, .int (nI (t p2))), (0, .ref (zad z 27)), (1, .int (nI (w))), (2, .int (nI (cnt))), (3, .int (nI (t0))), (4, .int (bef)), (5, .int (nI (k))), (6, .int (nI (p))), (7, .long (lN (acc))), (9, .long (lN (wq))), (11, .int (nI (lf)))]) hx hb dX10_readsCodes_81 hl (by decide) rfl (fun ls hl => ?_)
          refine lv_aload_n hx hb dX10_readsCodes_83 rfl (lv_at hl 1 rfl) ?_
          refine lv_dup hx hb dX10_readsCodes_84 rfl ?_
          refine rg_X10_177 C h dX10_readsCodes_85 ?_
          refine tI (y := nI (p2)) rfl ?_
          refine lv_iconst (v := nI (1)) hx hb dX10_readsCodes_88 (by decide) ?_
          refine lv_iadd hx hb dX10_readsCodes_89 ?_
          refine tI (y := nI (p2 + 1)) (nI_add _ _) ?_
          refine rp_X10_177 C h dX10_readsCodes_90 (fun H locs h => ?_)
          rw [va_uu] at h
          have h : hH z v (va_up sc 32 (nI (p2 + 1))) (va_up ar 36 (wrR (ar 36) t0 (xs))) s H locs := h
          refine lv_lload hx hb dX10_readsCodes_93 (lv_at hl 8 rfl) ?_
          refine lv_iload hx hb dX10_readsCodes_95 (lv_at hl 0 rfl) ?_
          refine lv_i2l (v := lN (t p2)) hx hb dX10_readsCodes_97 (nI_l (by omega)) ?_
          refine lv_lload hx hb dX10_readsCodes_98 (lv_at hl 9 rfl) ?_
          refine lv_lmul hx hb dX10_readsCodes_100 ?_
          refine tL (y := lN (t p2 * wq)) (lN_mul _ _) ?_
          refine lv_ladd hx hb dX10_readsCodes_101 ?_
          refine tL (y := lN (acc + t p2 * wq)) (lN_add _ _) ?_
          refine lv_lstore (lv' := [(7, .long (lN (acc + t p2 * wq))), (12, .int (nI (t p2))), (0, .ref (zad z 27)), (1, .int (nI (w))), (2, .int (nI (cnt))), (3, .int (nI (t0))), (4, .int (bef)), (5, .int (nI (k))), (6, .int (nI (p))), (9, .long (lN (wq))), (11, .int (nI (lf)))]) hx hb dX10_readsCodes_102 hl (by decide) rfl (fun ls hl => ?_)
          refine lv_lload hx hb dX10_readsCodes_104 (lv_at hl 9 rfl) ?_
          refine lv_aload_n hx hb dX10_readsCodes_106 rfl (lv_at hl 2 rfl) ?_
          refine rg_X10_16 C h dX10_readsCodes_107 ?_
          refine lv_iload_n hx hb dX10_readsCodes_110 rfl (lv_at hl 3 rfl) ?_
          refine ldA 30 rfl (j := w) (show w < 40 by omega) (by decide) C h dX10_readsCodes_111 ?_
          refine tI (y := nI (wt w 2)) (hRW w hw).2.2.1 ?_
          refine lv_i2l (v := lN (wt w 2)) hx hb dX10_readsCodes_112 (nI_l (by omega)) ?_
          refine lv_lmul hx hb dX10_readsCodes_113 ?_
          refine tL (y := lN (wq * wt w 2)) (lN_mul _ _) ?_
          refine lv_lstore (lv' := [(9, .long (lN (wq * wt w 2))), (7, .long (lN (acc + t p2 * wq))), (12, .int (nI (t p2))), (0, .ref (zad z 27)), (1, .int (nI (w))), (2, .int (nI (cnt))), (3, .int (nI (t0))), (4, .int (bef)), (5, .int (nI (k))), (6, .int (nI (p))), (11, .int (nI (lf)))]) hx hb dX10_readsCodes_114 hl (by decide) rfl (fun ls hl => ?_)
          refine lv_iload hx hb dX10_readsCodes_116 (lv_at hl 2 rfl) ?_
          refine lv_sipush (v := nI (256)) hx hb dX10_readsCodes_118 (by decide) ?_
          refine lv_aload_n hx hb dX10_readsCodes_121 rfl (lv_at hl 3 rfl) ?_
          refine rg_X10_16 C h dX10_readsCodes_122 ?_
          refine lv_iload_n hx hb dX10_readsCodes_125 rfl (lv_at hl 4 rfl) ?_
          refine ldA 30 rfl (j := w) (show w < 40 by omega) (by decide) C h dX10_readsCodes_126 ?_
          refine tI (y := nI (wt w 2)) (hRW w hw).2.2.1 ?_
          refine lv_isub hx hb dX10_readsCodes_127 ?_
          refine tI (y := nI (256 - wt w 2)) (pk_sub (by omega)) ?_
          refine jN_ge (tgt := 135) (a := t p2) (b := 256 - wt w 2) C (by omega) (by omega) dX10_readsCodes_128 (by decide) (fun c_128 => ?_) (fun c_128 => ?_)
          · skip
            refine lv_iload hx hb dX10_readsCodes_135 (lv_at hl 10 rfl) ?_
            refine lv_iconst (v := nI (1)) hx hb dX10_readsCodes_137 (by decide) ?_
            refine lv_isub hx hb dX10_readsCodes_138 ?_
            refine tI (y := nI (lf - 1)) (pk_sub (by omega)) ?_
            refine lv_istore (lv' := [(11, .int (nI (lf - 1))), (9, .long (lN (wq * wt w 2))), (7, .long (lN (acc + t p2 * wq))), (12, .int (nI (t p2))), (0, .ref (zad z 27)), (1, .int (nI (w))), (2, .int (nI (cnt))), (3, .int (nI (t0))), (4, .int (bef)), (5, .int (nI (k))), (6, .int (nI (p)))]) hx hb dX10_readsCodes_139 hl (by decide) rfl (fun ls hl => ?_)
            refine lv_goto (tgt := 39) hx hb dX10_readsCodes_141 (by decide) ?_
            exact ih_39 (i + 1) (lf - 1) (acc + t p2 * wq) (wq * wt w 2) (p2 + 1) (by omega) H locs ls ⟨⟨by omega, by omega⟩, ⟨pw1 i2.1 (ht p2) i2.2, pw2 i2.2 hH2⟩, by omega, by rw [i4, rdc_hi (by omega) (by omega) c_128, Option.map_map]; congr 1; funext q; simp only [Function.comp, Nat.mul_add, Nat.mul_comm, Nat.mul_left_comm, Nat.add_assoc], h, lv_sub hl [4, 5, 6, 7, 8, 9, 10, 2, 1, 0] rfl⟩
          · skip
            refine lv_iconst (v := nI (0)) hx hb dX10_readsCodes_131 (by decide) ?_
            refine lv_goto (tgt := 139) hx hb dX10_readsCodes_132 (by decide) ?_
            refine lv_istore (lv' := [(11, .int (nI (0))), (9, .long (lN (wq * wt w 2))), (7, .long (lN (acc + t p2 * wq))), (12, .int (nI (t p2))), (0, .ref (zad z 27)), (1, .int (nI (w))), (2, .int (nI (cnt))), (3, .int (nI (t0))), (4, .int (bef)), (5, .int (nI (k))), (6, .int (nI (p)))]) hx hb dX10_readsCodes_139 hl (by decide) rfl (fun ls hl => ?_)
            refine lv_goto (tgt := 39) hx hb dX10_readsCodes_141 (by decide) ?_
            exact ih_39 (i + 1) (0) (acc + t p2 * wq) (wq * wt w 2) (p2 + 1) (by omega) H locs ls ⟨⟨by omega, by omega⟩, ⟨pw1 i2.1 (ht p2) i2.2, pw2 i2.2 hH2⟩, by omega, by rw [i4, rdc_lo (by omega) (by omega) c_128]; simp [rdc, Nat.mul_comm], h, lv_sub hl [4, 5, 6, 7, 8, 9, 10, 2, 1, 0] rfl⟩
        · skip
          have hrd : rdc (wt w 1) (wt w 2) t n p = none := by rw [i4, rdc_end (by omega) (by omega)]; rfl
          refine lv_aload_n hx hb dX10_readsCodes_62 rfl (lv_at hl 0 rfl) ?_
          refine lv_iconst (v := nI (1)) hx hb dX10_readsCodes_63 (by decide) ?_
          refine lv_iload hx hb dX10_readsCodes_64 (lv_at hl 6 rfl) ?_
          refine backV h (runV (As := [.int (nI (1)), .int (nI (p))]) (rest := []) C h (r_fails l z v (va_up sc 32 (nI (p2))) (va_up ar 36 (wrR (ar 36) t0 (xs))) (nI 1) (nI p)) gv_X10_180 gv_X10_180_n ⟨rfl, rfl⟩ (r_Ref C h) rfl hl.1 rfl (Nat.le_of_ble_eq_true rfl) dX10_readsCodes_66 ⟨Nat.le_of_ble_eq_true rfl, Nat.le_of_ble_eq_true rfl⟩ ⟨Nat.le_of_ble_eq_true rfl, Nat.le_of_ble_eq_true rfl⟩) (fun v_66 sc_66 ar_66 H locs p_66 h => ?_)
          have h : hH z v (va_up (va_up (va_up sc 32 (nI (p2))) 33 (nI 1)) 34 (nI p)) (va_up ar 36 (wrR (ar 36) t0 (xs))) s H locs := uEq p_66 h
          refine lv_goto (tgt := 39) hx hb dX10_readsCodes_69 (by decide) ?_
          refine lv_iload hx hb dX10_readsCodes_39 (lv_at hl 9 rfl) ?_
          refine zN_le (tgt := 144) (a := lf) C (by omega) dX10_readsCodes_41 (by decide) (fun c_41 => ?_) (fun c_41 => ?_)
          · skip
            omega
          · skip
            refine lv_aload_n hx hb dX10_readsCodes_44 rfl (lv_at hl 0 rfl) ?_
            refine rg_X10_171 C h dX10_readsCodes_45 ?_
            refine tI (y := nI (1)) rfl ?_
            refine zN_ne (tgt := 144) (a := 1) C (by decide) dX10_readsCodes_48 (by decide) (fun _ => ?_) (fun q => absurd q (by decide))
            refine lv_aload_n hx hb dX10_readsCodes_144 rfl (lv_at hl 0 rfl) ?_
            refine rg_X10_19 C h dX10_readsCodes_145 ?_
            refine lv_iload_n hx hb dX10_readsCodes_148 rfl (lv_at hl 1 rfl) ?_
            refine ldA 31 rfl (j := w) (show w < 40 by omega) (by decide) C h dX10_readsCodes_149 ?_
            refine tI (y := nI (2)) ((hRW w hw).2.2.2.1.trans (by rw [hs3])) ?_
            refine lv_istore (lv' := [(12, .int (nI (2))), (0, .ref (zad z 27)), (1, .int (nI (w))), (2, .int (nI (cnt))), (3, .int (nI (t0))), (4, .int (bef)), (5, .int (nI (k))), (6, .int (nI (p))), (7, .long (lN (acc))), (9, .long (lN (wq))), (11, .int (nI (lf)))]) hx hb dX10_readsCodes_150 hl (by decide) rfl (fun ls hl => ?_)
            refine lv_iload hx hb dX10_readsCodes_152 (lv_at hl 0 rfl) ?_
            refine zN_le (tgt := 175) (a := 2) C (by decide) dX10_readsCodes_154 (by decide) (fun q => absurd q (by decide)) (fun _ => ?_)
            refine lv_lload hx hb dX10_readsCodes_157 (lv_at hl 8 rfl) ?_
            refine lv_lconst (v := lN 1) hx hb dX10_readsCodes_159 (by decide) ?_
            refine lv_ladd hx hb dX10_readsCodes_160 ?_
            refine tL (y := lN ((acc) + (1))) (lN_add _ _) ?_
            refine lv_lconst (v := lN 1) hx hb dX10_readsCodes_161 (by decide) ?_
            refine lv_iload hx hb dX10_readsCodes_162 (lv_at hl 0 rfl) ?_
            refine lv_lshl (v := lN (4)) hx hb dX10_readsCodes_164 (by decide) ?_
            refine lv_lrem hx hb dX10_readsCodes_165 (lN_ne0 (by omega) (by omega)) ?_
            refine tL (pk_lRem (by omega) (by omega) (by omega)) ?_
            refine lv_lconst (v := lN 0) hx hb dX10_readsCodes_166 (by decide) ?_
            refine W.lcmp hx hb dX10_readsCodes_167 ?_
            refine lv_if_ne (tgt := 175) hx hb dX10_readsCodes_168 (by decide) (fun c_168 => ?_) (fun c_168 => ?_)
            · skip
              have c_168 : ¬ (((acc) + (1)) % (4)) = (0) := fun q => c_168 ((lg_cmp_eq _ _).mpr ((pk_lEQ (by omega) (by omega)).mpr q))
              refine lv_iconst (v := nI (0)) hx hb dX10_readsCodes_175 (by decide) ?_
              refine lv_istore (lv' := [(13, .int (nI (0))), (12, .int (nI (2))), (0, .ref (zad z 27)), (1, .int (nI (w))), (2, .int (nI (cnt))), (3, .int (nI (t0))), (4, .int (bef)), (5, .int (nI (k))), (6, .int (nI (p))), (7, .long (lN (acc))), (9, .long (lN (wq))), (11, .int (nI (lf)))]) hx hb dX10_readsCodes_176 hl (by decide) rfl (fun ls hl => ?_)
              refine lv_iload hx hb dX10_readsCodes_178 (lv_at hl 0 rfl) ?_
              refine zN_eq (tgt := 194) (a := 0) C (by decide) dX10_readsCodes_180 (by decide) (fun _ => ?_) (fun q => absurd q (by decide))
              refine lv_iload hx hb dX10_readsCodes_194 (lv_at hl 1 rfl) ?_
              refine zN_ne (tgt := 204) (a := 2) C (by decide) dX10_readsCodes_196 (by decide) (fun _ => ?_) (fun q => absurd q (by decide))
              refine lv_lload hx hb dX10_readsCodes_204 (lv_at hl 9 rfl) ?_
              refine lv_lload hx hb dX10_readsCodes_206 (lv_at hl 9 rfl) ?_
              refine lv_iload hx hb dX10_readsCodes_208 (lv_at hl 1 rfl) ?_
              refine lv_lshr (v := lN (acc / 4)) hx hb dX10_readsCodes_210 (lsrN (k := acc) (by omega) (s := 2) (by decide)) ?_
              refine lv_lsub hx hb dX10_readsCodes_211 ?_
              refine tL (y := lN (acc - acc / 4)) (lN_sub (by omega)) ?_
              refine lv_lstore (lv' := [(14, .long (lN (acc - acc / 4))), (13, .int (nI (0))), (12, .int (nI (2))), (0, .ref (zad z 27)), (1, .int (nI (w))), (2, .int (nI (cnt))), (3, .int (nI (t0))), (4, .int (bef)), (5, .int (nI (k))), (6, .int (nI (p))), (7, .long (lN (acc))), (9, .long (lN (wq))), (11, .int (nI (lf)))]) hx hb dX10_readsCodes_212 hl (by decide) rfl (fun ls hl => ?_)
              refine lv_aload_n hx hb dX10_readsCodes_214 rfl (lv_at hl 3 rfl) ?_
              refine rg_X10_171 C h dX10_readsCodes_215 ?_
              refine tI (y := nI (1)) rfl ?_
              refine zN_ne (tgt := 246) (a := 1) C (by decide) dX10_readsCodes_218 (by decide) (fun _ => ?_) (fun q => absurd q (by decide))
              refine lv_aload_n hx hb dX10_readsCodes_246 rfl (lv_at hl 3 rfl) ?_
              refine rg_X10_22 C h dX10_readsCodes_247 ?_
              refine lv_iload_n hx hb dX10_readsCodes_250 rfl (lv_at hl 4 rfl) ?_
              refine ldA 32 rfl (j := w) (show w < 40 by omega) (by decide) C h dX10_readsCodes_251 ?_
              refine tI (y := nI (wt w 4)) (hRW w hw).2.2.2.2.1 ?_
              refine lv_iconst (v := nI (1)) hx hb dX10_readsCodes_252 (by decide) ?_
              refine jN_ne (tgt := 265) (a := wt w 4) (b := 1) C (by omega) (by omega) dX10_readsCodes_253 (by decide) (fun c_253 => ?_) (fun c_253 => ?_)
              · skip
                refine lv_lload hx hb dX10_readsCodes_265 (lv_at hl 0 rfl) ?_
                refine lv_l2i (v := nI (acc - acc / 4)) hx hb dX10_readsCodes_267 (lN_i _) ?_
                refine lv_istore (lv' := [(4, .int (nI (acc - acc / 4))), (14, .long (lN (acc - acc / 4))), (13, .int (nI (0))), (12, .int (nI (2))), (0, .ref (zad z 27)), (1, .int (nI (w))), (2, .int (nI (cnt))), (3, .int (nI (t0))), (5, .int (nI (k))), (6, .int (nI (p))), (7, .long (lN (acc))), (9, .long (lN (wq))), (11, .int (nI (lf)))]) hx hb dX10_readsCodes_268 hl (by decide) rfl (fun ls hl => ?_)
                refine lv_aload_n hx hb dX10_readsCodes_270 rfl (lv_at hl 4 rfl) ?_
                refine rg_X10_48 C h dX10_readsCodes_271 ?_
                refine lv_iload_n hx hb dX10_readsCodes_274 rfl (lv_at hl 7 rfl) ?_
                refine lv_iload hx hb dX10_readsCodes_275 (lv_at hl 8 rfl) ?_
                refine lv_iadd hx hb dX10_readsCodes_277 ?_
                refine tI (y := nI (t0 + k)) (nI_add _ _) ?_
                refine lv_iload hx hb dX10_readsCodes_278 (lv_at hl 0 rfl) ?_
                refine stA 36 rfl (j := t0 + k) (x := nI (acc - acc / 4)) (show t0 + k < 40000 by omega) (by decide) C h dX10_readsCodes_280 (fun H locs h => ?_)
                refine lv_iinc (v := nI (k + 1)) (lv' := [(5, .int (nI (k + 1))), (4, .int (nI (acc - acc / 4))), (14, .long (lN (acc - acc / 4))), (13, .int (nI (0))), (12, .int (nI (2))), (0, .ref (zad z 27)), (1, .int (nI (w))), (2, .int (nI (cnt))), (3, .int (nI (t0))), (6, .int (nI (p))), (7, .long (lN (acc))), (9, .long (lN (wq))), (11, .int (nI (lf)))]) hx hb dX10_readsCodes_281 hl (k := 8) rfl (nN_inc _) (by decide) rfl (fun ls hl => ?_)
                refine lv_goto (tgt := 6) hx hb dX10_readsCodes_284 (by decide) ?_
                refine lv_iload hx hb dX10_readsCodes_6 (lv_at hl 0 rfl) ?_
                refine lv_iload_n hx hb dX10_readsCodes_8 rfl (lv_at hl 7 rfl) ?_
                refine jN_ge (tgt := 287) (a := k + 1) (b := cnt) C (by omega) (by omega) dX10_readsCodes_9 (by decide) (fun c_9 => ?_) (fun c_9 => ?_)
                · skip
                  exact rV C hr hlk h dX10_readsCodes_287 (Nat.le_of_ble_eq_true rfl) (Nat.le_of_ble_eq_true rfl) (by have e : rdL (wt w 1) (wt w 2) (wt w 3) (wt w 4) t n (cnt) (nI 0) (p0) = .inr (1, p) := (by rw [h3, rdL_none (by omega) hrd]; rfl); show rcQ v sc ar t0 (rdL (wt w 1) (wt w 2) (wt w 3) (wt w 4) t n (cnt) (nI 0) (p0)) _; rw [e]; exact ⟨_, _, by rw [va_uu]⟩)
                · skip
                  refine lv_aload_n hx hb dX10_readsCodes_12 rfl (lv_at hl 5 rfl) ?_
                  refine rg_X10_171 C h dX10_readsCodes_13 ?_
                  refine tI (y := nI (1)) rfl ?_
                  refine zN_ne (tgt := 287) (a := 1) C (by decide) dX10_readsCodes_16 (by decide) (fun _ => ?_) (fun q => absurd q (by decide))
                  exact rV C hr hlk h dX10_readsCodes_287 (Nat.le_of_ble_eq_true rfl) (Nat.le_of_ble_eq_true rfl) (by have e : rdL (wt w 1) (wt w 2) (wt w 3) (wt w 4) t n (cnt) (nI 0) (p0) = .inr (1, p) := (by rw [h3, rdL_none (by omega) hrd]; rfl); show rcQ v sc ar t0 (rdL (wt w 1) (wt w 2) (wt w 3) (wt w 4) t n (cnt) (nI 0) (p0)) _; rw [e]; exact ⟨_, _, by rw [va_uu]⟩)
              · skip
                refine lv_iload hx hb dX10_readsCodes_256 (lv_at hl 7 rfl) ?_
                refine lv_lload hx hb dX10_readsCodes_258 (lv_at hl 0 rfl) ?_
                refine lv_l2i (v := nI (acc - acc / 4)) hx hb dX10_readsCodes_260 (lN_i _) ?_
                refine lv_iadd hx hb dX10_readsCodes_261 ?_
                refine lv_goto (tgt := 268) hx hb dX10_readsCodes_262 (by decide) ?_
                refine lv_istore (lv' := [(4, .int (bef + nI (acc - acc / 4))), (14, .long (lN (acc - acc / 4))), (13, .int (nI (0))), (12, .int (nI (2))), (0, .ref (zad z 27)), (1, .int (nI (w))), (2, .int (nI (cnt))), (3, .int (nI (t0))), (5, .int (nI (k))), (6, .int (nI (p))), (7, .long (lN (acc))), (9, .long (lN (wq))), (11, .int (nI (lf)))]) hx hb dX10_readsCodes_268 hl (by decide) rfl (fun ls hl => ?_)
                refine lv_aload_n hx hb dX10_readsCodes_270 rfl (lv_at hl 4 rfl) ?_
                refine rg_X10_48 C h dX10_readsCodes_271 ?_
                refine lv_iload_n hx hb dX10_readsCodes_274 rfl (lv_at hl 7 rfl) ?_
                refine lv_iload hx hb dX10_readsCodes_275 (lv_at hl 8 rfl) ?_
                refine lv_iadd hx hb dX10_readsCodes_277 ?_
                refine tI (y := nI (t0 + k)) (nI_add _ _) ?_
                refine lv_iload hx hb dX10_readsCodes_278 (lv_at hl 0 rfl) ?_
                refine stA 36 rfl (j := t0 + k) (x := bef + nI (acc - acc / 4)) (show t0 + k < 40000 by omega) (by decide) C h dX10_readsCodes_280 (fun H locs h => ?_)
                refine lv_iinc (v := nI (k + 1)) (lv' := [(5, .int (nI (k + 1))), (4, .int (bef + nI (acc - acc / 4))), (14, .long (lN (acc - acc / 4))), (13, .int (nI (0))), (12, .int (nI (2))), (0, .ref (zad z 27)), (1, .int (nI (w))), (2, .int (nI (cnt))), (3, .int (nI (t0))), (6, .int (nI (p))), (7, .long (lN (acc))), (9, .long (lN (wq))), (11, .int (nI (lf)))]) hx hb dX10_readsCodes_281 hl (k := 8) rfl (nN_inc _) (by decide) rfl (fun ls hl => ?_)
                refine lv_goto (tgt := 6) hx hb dX10_readsCodes_284 (by decide) ?_
                refine lv_iload hx hb dX10_readsCodes_6 (lv_at hl 0 rfl) ?_
                refine lv_iload_n hx hb dX10_readsCodes_8 rfl (lv_at hl 7 rfl) ?_
                refine jN_ge (tgt := 287) (a := k + 1) (b := cnt) C (by omega) (by omega) dX10_readsCodes_9 (by decide) (fun c_9 => ?_) (fun c_9 => ?_)
                · skip
                  exact rV C hr hlk h dX10_readsCodes_287 (Nat.le_of_ble_eq_true rfl) (Nat.le_of_ble_eq_true rfl) (by have e : rdL (wt w 1) (wt w 2) (wt w 3) (wt w 4) t n (cnt) (nI 0) (p0) = .inr (1, p) := (by rw [h3, rdL_none (by omega) hrd]; rfl); show rcQ v sc ar t0 (rdL (wt w 1) (wt w 2) (wt w 3) (wt w 4) t n (cnt) (nI 0) (p0)) _; rw [e]; exact ⟨_, _, by rw [va_uu]⟩)
                · skip
                  refine lv_aload_n hx hb dX10_readsCodes_12 rfl (lv_at hl 5 rfl) ?_
                  refine rg_X10_171 C h dX10_readsCodes_13 ?_
                  refine tI (y := nI (1)) rfl ?_
                  refine zN_ne (tgt := 287) (a := 1) C (by decide) dX10_readsCodes_16 (by decide) (fun _ => ?_) (fun q => absurd q (by decide))
                  exact rV C hr hlk h dX10_readsCodes_287 (Nat.le_of_ble_eq_true rfl) (Nat.le_of_ble_eq_true rfl) (by have e : rdL (wt w 1) (wt w 2) (wt w 3) (wt w 4) t n (cnt) (nI 0) (p0) = .inr (1, p) := (by rw [h3, rdL_none (by omega) hrd]; rfl); show rcQ v sc ar t0 (rdL (wt w 1) (wt w 2) (wt w 3) (wt w 4) t n (cnt) (nI 0) (p0)) _; rw [e]; exact ⟨_, _, by rw [va_uu]⟩)
            · skip
              have c_168 : (((acc) + (1)) % (4)) = (0) := (pk_lEQ (by omega) (by omega)).mp ((lg_cmp_eq _ _).mp c_168)
              refine lv_iconst (v := nI (1)) hx hb dX10_readsCodes_171 (by decide) ?_
              refine lv_goto (tgt := 176) hx hb dX10_readsCodes_172 (by decide) ?_
              refine lv_istore (lv' := [(13, .int (nI (1))), (12, .int (nI (2))), (0, .ref (zad z 27)), (1, .int (nI (w))), (2, .int (nI (cnt))), (3, .int (nI (t0))), (4, .int (bef)), (5, .int (nI (k))), (6, .int (nI (p))), (7, .long (lN (acc))), (9, .long (lN (wq))), (11, .int (nI (lf)))]) hx hb dX10_readsCodes_176 hl (by decide) rfl (fun ls hl => ?_)
              refine lv_iload hx hb dX10_readsCodes_178 (lv_at hl 0 rfl) ?_
              refine zN_eq (tgt := 194) (a := 1) C (by decide) dX10_readsCodes_180 (by decide) (fun q => absurd q (by decide)) (fun _ => ?_)
              refine lv_lload hx hb dX10_readsCodes_183 (lv_at hl 9 rfl) ?_
              refine lv_lconst (v := lN 1) hx hb dX10_readsCodes_185 (by decide) ?_
              refine lv_ladd hx hb dX10_readsCodes_186 ?_
              refine tL (y := lN ((acc) + (1))) (lN_add _ _) ?_
              refine lv_iload hx hb dX10_readsCodes_187 (lv_at hl 1 rfl) ?_
              refine lv_lshr (v := lN (((acc) + (1)) / 4)) hx hb dX10_readsCodes_189 (lsrN (k := (acc) + (1)) (by omega) (s := 2) (by decide)) ?_
              refine lv_lneg hx hb dX10_readsCodes_190 ?_
              refine lv_goto (tgt := 212) hx hb dX10_readsCodes_191 (by decide) ?_
              refine lv_lstore (lv' := [(14, .long (-(lN (((acc) + (1)) / 4)))), (13, .int (nI (1))), (12, .int (nI (2))), (0, .ref (zad z 27)), (1, .int (nI (w))), (2, .int (nI (cnt))), (3, .int (nI (t0))), (4, .int (bef)), (5, .int (nI (k))), (6, .int (nI (p))), (7, .long (lN (acc))), (9, .long (lN (wq))), (11, .int (nI (lf)))]) hx hb dX10_readsCodes_212 hl (by decide) rfl (fun ls hl => ?_)
              refine lv_aload_n hx hb dX10_readsCodes_214 rfl (lv_at hl 3 rfl) ?_
              refine rg_X10_171 C h dX10_readsCodes_215 ?_
              refine tI (y := nI (1)) rfl ?_
              refine zN_ne (tgt := 246) (a := 1) C (by decide) dX10_readsCodes_218 (by decide) (fun _ => ?_) (fun q => absurd q (by decide))
              refine lv_aload_n hx hb dX10_readsCodes_246 rfl (lv_at hl 3 rfl) ?_
              refine rg_X10_22 C h dX10_readsCodes_247 ?_
              refine lv_iload_n hx hb dX10_readsCodes_250 rfl (lv_at hl 4 rfl) ?_
              refine ldA 32 rfl (j := w) (show w < 40 by omega) (by decide) C h dX10_readsCodes_251 ?_
              refine tI (y := nI (wt w 4)) (hRW w hw).2.2.2.2.1 ?_
              refine lv_iconst (v := nI (1)) hx hb dX10_readsCodes_252 (by decide) ?_
              refine jN_ne (tgt := 265) (a := wt w 4) (b := 1) C (by omega) (by omega) dX10_readsCodes_253 (by decide) (fun c_253 => ?_) (fun c_253 => ?_)
              · skip
                refine lv_lload hx hb dX10_readsCodes_265 (lv_at hl 0 rfl) ?_
                refine lv_l2i (v := (-(lN (((acc) + (1)) / 4))).toInt32) hx hb dX10_readsCodes_267 rfl ?_
                refine lv_istore (lv' := [(4, .int ((-(lN (((acc) + (1)) / 4))).toInt32)), (14, .long (-(lN (((acc) + (1)) / 4)))), (13, .int (nI (1))), (12, .int (nI (2))), (0, .ref (zad z 27)), (1, .int (nI (w))), (2, .int (nI (cnt))), (3, .int (nI (t0))), (5, .int (nI (k))), (6, .int (nI (p))), (7, .long (lN (acc))), (9, .long (lN (wq))), (11, .int (nI (lf)))]) hx hb dX10_readsCodes_268 hl (by decide) rfl (fun ls hl => ?_)
                refine lv_aload_n hx hb dX10_readsCodes_270 rfl (lv_at hl 4 rfl) ?_
                refine rg_X10_48 C h dX10_readsCodes_271 ?_
                refine lv_iload_n hx hb dX10_readsCodes_274 rfl (lv_at hl 7 rfl) ?_
                refine lv_iload hx hb dX10_readsCodes_275 (lv_at hl 8 rfl) ?_
                refine lv_iadd hx hb dX10_readsCodes_277 ?_
                refine tI (y := nI (t0 + k)) (nI_add _ _) ?_
                refine lv_iload hx hb dX10_readsCodes_278 (lv_at hl 0 rfl) ?_
                refine stA 36 rfl (j := t0 + k) (x := (-(lN (((acc) + (1)) / 4))).toInt32) (show t0 + k < 40000 by omega) (by decide) C h dX10_readsCodes_280 (fun H locs h => ?_)
                refine lv_iinc (v := nI (k + 1)) (lv' := [(5, .int (nI (k + 1))), (4, .int ((-(lN (((acc) + (1)) / 4))).toInt32)), (14, .long (-(lN (((acc) + (1)) / 4)))), (13, .int (nI (1))), (12, .int (nI (2))), (0, .ref (zad z 27)), (1, .int (nI (w))), (2, .int (nI (cnt))), (3, .int (nI (t0))), (6, .int (nI (p))), (7, .long (lN (acc))), (9, .long (lN (wq))), (11, .int (nI (lf)))]) hx hb dX10_readsCodes_281 hl (k := 8) rfl (nN_inc _) (by decide) rfl (fun ls hl => ?_)
                refine lv_goto (tgt := 6) hx hb dX10_readsCodes_284 (by decide) ?_
                refine lv_iload hx hb dX10_readsCodes_6 (lv_at hl 0 rfl) ?_
                refine lv_iload_n hx hb dX10_readsCodes_8 rfl (lv_at hl 7 rfl) ?_
                refine jN_ge (tgt := 287) (a := k + 1) (b := cnt) C (by omega) (by omega) dX10_readsCodes_9 (by decide) (fun c_9 => ?_) (fun c_9 => ?_)
                · skip
                  exact rV C hr hlk h dX10_readsCodes_287 (Nat.le_of_ble_eq_true rfl) (Nat.le_of_ble_eq_true rfl) (by have e : rdL (wt w 1) (wt w 2) (wt w 3) (wt w 4) t n (cnt) (nI 0) (p0) = .inr (1, p) := (by rw [h3, rdL_none (by omega) hrd]; rfl); show rcQ v sc ar t0 (rdL (wt w 1) (wt w 2) (wt w 3) (wt w 4) t n (cnt) (nI 0) (p0)) _; rw [e]; exact ⟨_, _, by rw [va_uu]⟩)
                · skip
                  refine lv_aload_n hx hb dX10_readsCodes_12 rfl (lv_at hl 5 rfl) ?_
                  refine rg_X10_171 C h dX10_readsCodes_13 ?_
                  refine tI (y := nI (1)) rfl ?_
                  refine zN_ne (tgt := 287) (a := 1) C (by decide) dX10_readsCodes_16 (by decide) (fun _ => ?_) (fun q => absurd q (by decide))
                  exact rV C hr hlk h dX10_readsCodes_287 (Nat.le_of_ble_eq_true rfl) (Nat.le_of_ble_eq_true rfl) (by have e : rdL (wt w 1) (wt w 2) (wt w 3) (wt w 4) t n (cnt) (nI 0) (p0) = .inr (1, p) := (by rw [h3, rdL_none (by omega) hrd]; rfl); show rcQ v sc ar t0 (rdL (wt w 1) (wt w 2) (wt w 3) (wt w 4) t n (cnt) (nI 0) (p0)) _; rw [e]; exact ⟨_, _, by rw [va_uu]⟩)
              · skip
                refine lv_iload hx hb dX10_readsCodes_256 (lv_at hl 7 rfl) ?_
                refine lv_lload hx hb dX10_readsCodes_258 (lv_at hl 0 rfl) ?_
                refine lv_l2i (v := (-(lN (((acc) + (1)) / 4))).toInt32) hx hb dX10_readsCodes_260 rfl ?_
                refine lv_iadd hx hb dX10_readsCodes_261 ?_
                refine lv_goto (tgt := 268) hx hb dX10_readsCodes_262 (by decide) ?_
                refine lv_istore (lv' := [(4, .int (bef + (-(lN (((acc) + (1)) / 4))).toInt32)), (14, .long (-(lN (((acc) + (1)) / 4)))), (13, .int (nI (1))), (12, .int (nI (2))), (0, .ref (zad z 27)), (1, .int (nI (w))), (2, .int (nI (cnt))), (3, .int (nI (t0))), (5, .int (nI (k))), (6, .int (nI (p))), (7, .long (lN (acc))), (9, .long (lN (wq))), (11, .int (nI (lf)))]) hx hb dX10_readsCodes_268 hl (by decide) rfl (fun ls hl => ?_)
                refine lv_aload_n hx hb dX10_readsCodes_270 rfl (lv_at hl 4 rfl) ?_
                refine rg_X10_48 C h dX10_readsCodes_271 ?_
                refine lv_iload_n hx hb dX10_readsCodes_274 rfl (lv_at hl 7 rfl) ?_
                refine lv_iload hx hb dX10_readsCodes_275 (lv_at hl 8 rfl) ?_
                refine lv_iadd hx hb dX10_readsCodes_277 ?_
                refine tI (y := nI (t0 + k)) (nI_add _ _) ?_
                refine lv_iload hx hb dX10_readsCodes_278 (lv_at hl 0 rfl) ?_
                refine stA 36 rfl (j := t0 + k) (x := bef + (-(lN (((acc) + (1)) / 4))).toInt32) (show t0 + k < 40000 by omega) (by decide) C h dX10_readsCodes_280 (fun H locs h => ?_)
                refine lv_iinc (v := nI (k + 1)) (lv' := [(5, .int (nI (k + 1))), (4, .int (bef + (-(lN (((acc) + (1)) / 4))).toInt32)), (14, .long (-(lN (((acc) + (1)) / 4)))), (13, .int (nI (1))), (12, .int (nI (2))), (0, .ref (zad z 27)), (1, .int (nI (w))), (2, .int (nI (cnt))), (3, .int (nI (t0))), (6, .int (nI (p))), (7, .long (lN (acc))), (9, .long (lN (wq))), (11, .int (nI (lf)))]) hx hb dX10_readsCodes_281 hl (k := 8) rfl (nN_inc _) (by decide) rfl (fun ls hl => ?_)
                refine lv_goto (tgt := 6) hx hb dX10_readsCodes_284 (by decide) ?_
                refine lv_iload hx hb dX10_readsCodes_6 (lv_at hl 0 rfl) ?_
                refine lv_iload_n hx hb dX10_readsCodes_8 rfl (lv_at hl 7 rfl) ?_
                refine jN_ge (tgt := 287) (a := k + 1) (b := cnt) C (by omega) (by omega) dX10_readsCodes_9 (by decide) (fun c_9 => ?_) (fun c_9 => ?_)
                · skip
                  exact rV C hr hlk h dX10_readsCodes_287 (Nat.le_of_ble_eq_true rfl) (Nat.le_of_ble_eq_true rfl) (by have e : rdL (wt w 1) (wt w 2) (wt w 3) (wt w 4) t n (cnt) (nI 0) (p0) = .inr (1, p) := (by rw [h3, rdL_none (by omega) hrd]; rfl); show rcQ v sc ar t0 (rdL (wt w 1) (wt w 2) (wt w 3) (wt w 4) t n (cnt) (nI 0) (p0)) _; rw [e]; exact ⟨_, _, by rw [va_uu]⟩)
                · skip
                  refine lv_aload_n hx hb dX10_readsCodes_12 rfl (lv_at hl 5 rfl) ?_
                  refine rg_X10_171 C h dX10_readsCodes_13 ?_
                  refine tI (y := nI (1)) rfl ?_
                  refine zN_ne (tgt := 287) (a := 1) C (by decide) dX10_readsCodes_16 (by decide) (fun _ => ?_) (fun q => absurd q (by decide))
                  exact rV C hr hlk h dX10_readsCodes_287 (Nat.le_of_ble_eq_true rfl) (Nat.le_of_ble_eq_true rfl) (by have e : rdL (wt w 1) (wt w 2) (wt w 3) (wt w 4) t n (cnt) (nI 0) (p0) = .inr (1, p) := (by rw [h3, rdL_none (by omega) hrd]; rfl); show rcQ v sc ar t0 (rdL (wt w 1) (wt w 2) (wt w 3) (wt w 4) t n (cnt) (nI 0) (p0)) _; rw [e]; exact ⟨_, _, by rw [va_uu]⟩)
