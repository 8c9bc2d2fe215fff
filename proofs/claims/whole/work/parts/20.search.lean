/-! The search for the best run. -/
def oadd (a b : Option Nat) : Option Nat := a.bind (fun x => b.map (fun y => x + y))
def ofr (o : Option Nat) (y w : Nat) : Nat := match o with
  | none => y
  | some b => min y (b * 40 + w)
/-- how many bytes a number takes behind another one -/
def blC (cb ch cs cd : Nat) (x y : Int32) : Option Nat := ((cdO cs (toldI cd x y)).bind (enc cb ch)).map List.length
theorem enc_len {h : Nat} : ∀ (m c : Nat) (bs : List Nat), enc m h c = some bs → bs.length ≤ m
  | 0, _, _, e => by cases e
  | 1, c, bs, e => by
    unfold enc at e
    split at e
    · cases e; exact Nat.le_refl _
    · cases e
  | m + 2, c, bs, e => by
    unfold enc at e
    split at e
    · cases e; simp
    · cases hr : enc (m + 1) h ((c - (256 - h)) / h) with
      | none => rw [hr] at e; cases e
      | some t => rw [hr] at e; cases e; have := enc_len (m + 1) _ t hr; simp; omega
theorem blC_le {cb ch cs cd : Nat} {x y : Int32} {b : Nat} (h : blC cb ch cs cd x y = some b) : b ≤ cb := by
  unfold blC at h
  cases hc : cdO cs (toldI cd x y) with
  | none => rw [hc] at h; cases h
  | some c =>
    rw [hc] at h
    cases he : enc cb ch c with
    | none => simp [he] at h
    | some bs => simp [he] at h; rw [← h]; exact enc_len cb c bs he
theorem lenI_bl (cb ch cs cd : Nat) (x y : Int32) : lenI ((cdO cs (toldI cd x y)).bind (enc cb ch)) = oI (blC cb ch cs cd x y) := by
  unfold blC
  cases (cdO cs (toldI cd x y)).bind (enc cb ch) <;> rfl
/-- what the first n numbers take -/
def hdS (bl : Int32 → Int32 → Option Nat) (R : Nat → Int32) : Nat → Option Nat
  | 0 => some 0
  | n + 1 => oadd (hdS bl R n) (bl (R n) (if n = 0 then 0 else R (n - 1)))
/-- what the last k numbers of N take behind one another -/
def chS (bl : Int32 → Int32 → Option Nat) (R : Nat → Int32) (N : Nat) : Nat → Option Nat
  | 0 => some 0
  | k + 1 => oadd (chS bl R N k) (bl (R (N - (k + 1))) (R (N - (k + 1) - 1)))
/-- what the numbers from n on take -/
def tlS (bl : Int32 → Int32 → Option Nat) (R : Nat → Int32) (N n : Nat) : Option Nat := if n = N then some 0 else oadd (chS bl R N (N - (n + 1))) (bl (R n) 0)
theorem oadd_none (b : Option Nat) : oadd none b = none := rfl
theorem oadd_bd {a b : Option Nat} {x A B : Nat} (h : oadd a b = some x) (ha : ∀ q, a = some q → q ≤ A) (hb : ∀ q, b = some q → q ≤ B) : x ≤ A + B := by
  rcases a with _ | a
  · cases h
  · rcases b with _ | b
    · cases h
    · cases h
      have h1 := ha a rfl
      have h2 := hb b rfl
      simp only; omega
theorem hdS_bd {bl : Int32 → Int32 → Option Nat} {R : Nat → Int32} (hbl : ∀ x y q, bl x y = some q → q ≤ 5) : ∀ (n x : Nat), hdS bl R n = some x → x ≤ 5 * n
  | 0, x, h => by cases h; exact Nat.le_refl _
  | n + 1, x, h => by have := oadd_bd (A := 5 * n) (B := 5) h (hdS_bd hbl n) (hbl _ _); omega
theorem chS_bd {bl : Int32 → Int32 → Option Nat} {R : Nat → Int32} {N : Nat} (hbl : ∀ x y q, bl x y = some q → q ≤ 5) : ∀ (n x : Nat), chS bl R N n = some x → x ≤ 5 * n
  | 0, x, h => by cases h; exact Nat.le_refl _
  | n + 1, x, h => by have := oadd_bd (A := 5 * n) (B := 5) h (chS_bd hbl n) (hbl _ _); omega
theorem hdS_none {bl : Int32 → Int32 → Option Nat} {R : Nat → Int32} {n : Nat} (h : hdS bl R n = none) : ∀ k, hdS bl R (n + k) = none
  | 0 => h
  | k + 1 => by rw [show n + (k + 1) = n + k + 1 by omega, show hdS bl R (n + k + 1) = oadd (hdS bl R (n + k)) (bl (R (n + k)) (if n + k = 0 then 0 else R (n + k - 1))) from rfl, hdS_none h k]; rfl
theorem chS_none {bl : Int32 → Int32 → Option Nat} {R : Nat → Int32} {N n : Nat} (h : chS bl R N n = none) : ∀ k, chS bl R N (n + k) = none
  | 0 => h
  | k + 1 => by rw [show n + (k + 1) = n + k + 1 by omega, show chS bl R N (n + k + 1) = oadd (chS bl R N (n + k)) (bl (R (N - (n + k + 1))) (R (N - (n + k + 1) - 1))) from rfl, chS_none h k]; rfl
theorem oI_none {o : Option Nat} (h : oI o = -1) (hb : ∀ q, o = some q → q < 2 ^ 31) : o = none := by
  rcases o with _ | q
  · rfl
  · exact absurd h (nI_neg1 (hb q rfl))
theorem upd_same {f : Nat → Int32} {n : Nat} {x : Int32} (h : f n = x) : upd f n x = f := by
  funext j
  unfold upd
  split
  · rename_i e; rw [e, h]
  · rfl
theorem decI (x : Int32) : x + Int32.ofInt (-1) = x - 1 := (Int32.sub_eq_add_neg x 1).symm
set_option maxHeartbeats 4000000 in
set_option maxRecDepth 100000 in
/-- RunSearch.sum -/
theorem k_sum (l : Launch) (z : bZ) (v : bV) (sc : Nat → Int32) (ar : Nat → Nat → Int32) (a0 b0 : Option Nat) (ha : ∀ q, a0 = some q → q < 2 ^ 30) (hb0 : ∀ q, b0 = some q → q < 2 ^ 30) : Met l yX6_sum (Cond.code yX6_sum cX6_sum 2 (some .int) :: uW) { frames := 0, cells := 0, slots := 0, locals := 0 } (pC z v sc ar [.int (oI a0), .int (oI b0)]) (qI z (fun r u => r = oI (oadd a0 b0) ∧ u = (v, sc, ar))) 0 0 (zA z) := by
  refine eM (by decide) (Nat.le_of_ble_eq_true rfl) ?_
  intro pP eE s mM below meth cC ls C hr hlk h hl
  have hx := C.1.1
  have hb := C.1.2.1
  have hl : lv_has ls 2 [(0, .int (oI a0)), (1, .int (oI b0))] := hl
  refine lv_iload_n hx hb dX6_sum_0 rfl (lv_at hl 0 rfl) ?_
  refine lv_iconst (v := (-1)) hx hb dX6_sum_1 (by decide) ?_
  refine lv_icmp_eq (tgt := 10) hx hb dX6_sum_2 (by decide) (fun c_2 => ?_) (fun c_2 => ?_)
  · skip
    have e := oI_none c_2 (fun q h => by have := ha q h; omega)
    refine lv_iconst (v := (-1)) hx hb dX6_sum_10 (by decide) ?_
    refine lv_goto (tgt := 17) hx hb dX6_sum_11 (by decide) ?_
    exact rI C hr hlk h dX6_sum_17 (Nat.le_of_ble_eq_true rfl) (Nat.le_of_ble_eq_true rfl) (⟨by rw [e]; rfl, rfl⟩)
  · skip
    obtain ⟨x, rfl⟩ : ∃ x, a0 = some x := by
      rcases a0 with _ | x
      · exact absurd rfl c_2
      · exact ⟨x, rfl⟩
    have hl : lv_has ls 2 [(0, .int (nI (x))), (1, .int (oI b0))] := hl
    refine lv_iload_n hx hb dX6_sum_5 rfl (lv_at hl 1 rfl) ?_
    refine lv_iconst (v := (-1)) hx hb dX6_sum_6 (by decide) ?_
    refine lv_icmp_ne (tgt := 14) hx hb dX6_sum_7 (by decide) (fun c_7 => ?_) (fun c_7 => ?_)
    · skip
      obtain ⟨y, rfl⟩ : ∃ y, b0 = some y := by
        rcases b0 with _ | y
        · exact absurd rfl c_7
        · exact ⟨y, rfl⟩
      have hl : lv_has ls 2 [(0, .int (nI (x))), (1, .int (nI (y)))] := hl
      refine lv_iload_n hx hb dX6_sum_14 rfl (lv_at hl 0 rfl) ?_
      refine lv_iload_n hx hb dX6_sum_15 rfl (lv_at hl 1 rfl) ?_
      refine lv_iadd hx hb dX6_sum_16 ?_
      refine tI (nI_add _ _) ?_
      exact rI C hr hlk h dX6_sum_17 (Nat.le_of_ble_eq_true rfl) (Nat.le_of_ble_eq_true rfl) (⟨rfl, rfl⟩)
    · skip
      have e := oI_none c_7 (fun q h => by have := hb0 q h; omega)
      refine lv_iconst (v := (-1)) hx hb dX6_sum_10 (by decide) ?_
      refine lv_goto (tgt := 17) hx hb dX6_sum_11 (by decide) ?_
      exact rI C hr hlk h dX6_sum_17 (Nat.le_of_ble_eq_true rfl) (Nat.le_of_ble_eq_true rfl) (⟨by rw [e]; rfl, rfl⟩)
theorem um_X6_46 : Cond.methodLink RX6 46 Lib.Math.min.name ∈ uW := uW_of (by decide +kernel) rfl
set_option maxHeartbeats 4000000 in
set_option maxRecDepth 100000 in
/-- RunSearch.offer -/
theorem k_offer (l : Launch) (z : bZ) (v : bV) (sc : Nat → Int32) (ar : Nat → Nat → Int32) (k n w y : Nat) (o : Option Nat) (hk : isA k = true) (hkl : aL k = 401) (hn : n ≤ 400) (hw : w < 40) (hy : ar k n = nI y) (hy2 : y ≤ 1073741824) (ho : ∀ q, o = some q → q ≤ 10000) : Met l yX6_offer (Cond.code yX6_offer cX6_offer 4 none :: uW) { frames := 1, cells := 0, slots := 0, locals := 21 } (pC z v sc ar [.ref (zad z k), .int (nI (n)), .int (oI o), .int (nI (w))]) (qV z (fun u => u = (v, sc, va_up ar k (upd (ar k) n (nI (ofr o y w)))))) 0 0 (zA z) := by
  refine eM (by decide) (Nat.le_of_ble_eq_true rfl) ?_
  intro pP eE s mM below meth cC ls C hr hlk h hl
  have hx := C.1.1
  have hb := C.1.2.1
  have hl : lv_has ls 4 [(0, .ref (zad z k)), (1, .int (nI (n))), (2, .int (oI o)), (3, .int (nI (w)))] := hl
  refine lv_iload_n hx hb dX6_offer_0 rfl (lv_at hl 2 rfl) ?_
  refine lv_iconst (v := (-1)) hx hb dX6_offer_1 (by decide) ?_
  refine lv_icmp_eq (tgt := 20) hx hb dX6_offer_2 (by decide) (fun c_2 => ?_) (fun c_2 => ?_)
  · skip
    have e := oI_none c_2 (fun q h => by have := ho q h; omega)
    exact rV C hr hlk h dX6_offer_20 (Nat.le_of_ble_eq_true rfl) (Nat.le_of_ble_eq_true rfl) (by rw [e]; show _ = (v, sc, va_up ar k (upd (ar k) n (nI y))); rw [upd_same hy, va_us])
  · skip
    obtain ⟨b0, rfl⟩ : ∃ x, o = some x := by
      rcases o with _ | x
      · exact absurd rfl c_2
      · exact ⟨x, rfl⟩
    have hb0 := ho b0 rfl
    have hl : lv_has ls 4 [(0, .ref (zad z k)), (1, .int (nI (n))), (2, .int (nI (b0))), (3, .int (nI (w)))] := hl
    refine lv_aload_n hx hb dX6_offer_5 rfl (lv_at hl 0 rfl) ?_
    refine lv_iload_n hx hb dX6_offer_6 rfl (lv_at hl 1 rfl) ?_
    refine lv_aload_n hx hb dX6_offer_7 rfl (lv_at hl 0 rfl) ?_
    refine lv_iload_n hx hb dX6_offer_8 rfl (lv_at hl 1 rfl) ?_
    refine ldA k hk (j := n) (by rw [hkl]; omega) (by rw [hkl]; decide) C h dX6_offer_9 ?_
    refine tI (y := nI (y)) hy ?_
    refine lv_iload_n hx hb dX6_offer_10 rfl (lv_at hl 2 rfl) ?_
    refine lv_bipush (v := nI (40)) hx hb dX6_offer_11 (by decide) ?_
    refine lv_imul hx hb dX6_offer_13 ?_
    refine tI (pk_mul _ _) ?_
    refine lv_iload_n hx hb dX6_offer_14 rfl (lv_at hl 3 rfl) ?_
    refine lv_iadd hx hb dX6_offer_15 ?_
    refine tI (nI_add _ _) ?_
    refine mmin C hl.1 um_X6_46 (Nat.le_of_ble_eq_true rfl) (Nat.le_of_ble_eq_true rfl) (Nat.zero_le _) (Nat.zero_le _) dX6_offer_16 ?_
    refine tI (nN_min (by omega) (by omega)) ?_
    refine stA k hk (j := n) (x := nI (min (y) (((b0) * (40)) + (w)))) (by rw [hkl]; omega) (by rw [hkl]; decide) C h dX6_offer_19 (fun H locs h => ?_)
    exact rV C hr hlk h dX6_offer_20 (Nat.le_of_ble_eq_true rfl) (Nat.le_of_ble_eq_true rfl) (rfl)
theorem uk_X6_31 : Cond.constant RX6 31 (1073741824) ∈ uW := uW_of (by decide +kernel) rfl
set_option maxHeartbeats 4000000 in
set_option maxRecDepth 100000 in
/-- RunSearch.startRow -/
theorem k_startRow (l : Launch) (z : bZ) (v : bV) (sc : Nat → Int32) (ar : Nat → Nat → Int32) (N : Nat) (hN : N ≤ 400) : Met l yX6_startRow (Cond.code yX6_startRow cX6_startRow 3 none :: uW) { frames := 0, cells := 0, slots := 0, locals := 0 } (pC z v sc ar [.ref (zad z 4), .int (nI (N))]) (qV z (fun u => ∃ hh tt, u = (v, va_up (va_up (va_up (va_up sc 11 (nI N)) 12 (-1)) 13 (-1)) 14 (-1), va_up (va_up ar 17 hh) 18 tt) ∧ ∀ q, q ≤ N → hh q = nI 1073741824 ∧ tt q = nI 1073741824)) 0 0 (zA z) := by
  refine eM (by decide) (Nat.le_of_ble_eq_true rfl) ?_
  intro pP eE s mM below meth cC ls C hr hlk h hl
  have hx := C.1.1
  have hb := C.1.2.1
  have hl : lv_has ls 3 [(0, .ref (zad z 4)), (1, .int (nI (N)))] := hl
  refine lv_aload_n hx hb dX6_startRow_0 rfl (lv_at hl 0 rfl) ?_
  refine lv_iload_n hx hb dX6_startRow_1 rfl (lv_at hl 1 rfl) ?_
  refine rp_X6_18 C h dX6_startRow_2 (fun H locs h => ?_)
  refine lv_iconst (v := nI (0)) hx hb dX6_startRow_5 (by decide) ?_
  refine lv_istore_n (lv' := [(2, .int (nI (0))), (0, .ref (zad z 4)), (1, .int (nI (N)))]) hx hb dX6_startRow_6 rfl hl (by decide) rfl (fun ls hl => ?_)
  refine lpW3 (fun (n : Nat) (hh : Nat → Int32) (tt : Nat → Int32) (H : Heap) (locs : List Loc) (ls : Array Slot) => (n ≤ N + 1) ∧ (∀ q, q < n → hh q = nI 1073741824 ∧ tt q = nI 1073741824) ∧ hH z v (va_up sc 11 (nI (N))) (va_up (va_up ar 17 hh) 18 tt) s H locs ∧ lv_has ls 3 [(0, .ref (zad z 4)), (2, .int (nI (n)))]) (fun (n : Nat) (hh : Nat → Int32) (tt : Nat → Int32) => N + 1 - n) (fun n hh tt ih_7 H locs ls hI => ?_) (0) (ar 17) (ar 18) ⟨Nat.zero_le _, fun _ q => absurd q (Nat.not_lt_zero _), (by rw [va_us ar 17, va_us ar 18]; exact h), lv_sub hl [1, 0] rfl⟩
  obtain ⟨h1, h2, h, hl⟩ := hI
  refine lv_iload_n hx hb dX6_startRow_7 rfl (lv_at hl 1 rfl) ?_
  refine lv_aload_n hx hb dX6_startRow_8 rfl (lv_at hl 0 rfl) ?_
  refine rg_X6_18 C h dX6_startRow_9 ?_
  refine tI (y := nI (N)) rfl ?_
  refine jN_gt (tgt := 37) (a := n) (b := N) C (by omega) (by omega) dX6_startRow_12 (by decide) (fun c_12 => ?_) (fun c_12 => ?_)
  · skip
    refine lv_aload_n hx hb dX6_startRow_37 rfl (lv_at hl 0 rfl) ?_
    refine lv_iconst (v := (-1)) hx hb dX6_startRow_38 (by decide) ?_
    refine rp_X6_22 C h dX6_startRow_39 (fun H locs h => ?_)
    refine lv_aload_n hx hb dX6_startRow_42 rfl (lv_at hl 0 rfl) ?_
    refine lv_iconst (v := (-1)) hx hb dX6_startRow_43 (by decide) ?_
    refine rp_X6_25 C h dX6_startRow_44 (fun H locs h => ?_)
    refine lv_aload_n hx hb dX6_startRow_47 rfl (lv_at hl 0 rfl) ?_
    refine lv_iconst (v := (-1)) hx hb dX6_startRow_48 (by decide) ?_
    refine rp_X6_28 C h dX6_startRow_49 (fun H locs h => ?_)
    exact rV C hr hlk h dX6_startRow_52 (Nat.le_of_ble_eq_true rfl) (Nat.le_of_ble_eq_true rfl) (⟨hh, tt, rfl, fun q hq => h2 q (by omega)⟩)
  · skip
    refine lv_aload_n hx hb dX6_startRow_15 rfl (lv_at hl 0 rfl) ?_
    refine rg_X6_9 C h dX6_startRow_16 ?_
    refine lv_iload_n hx hb dX6_startRow_19 rfl (lv_at hl 1 rfl) ?_
    refine lv_ldc (v := 1073741824) hx hb C.1.2.2.2.1 (C.1.2.2.2.2 _ uk_X6_31) dX6_startRow_20 ?_
    refine tI (y := nI 1073741824) (by decide) ?_
    refine stA 17 rfl (j := n) (x := nI (1073741824)) (show n < 401 by omega) (by decide) C h dX6_startRow_22 (fun H locs h => ?_)
    rw [put_k (k := 17) (q := 18) (by decide)] at h
    refine lv_aload_n hx hb dX6_startRow_23 rfl (lv_at hl 0 rfl) ?_
    refine rg_X6_15 C h dX6_startRow_24 ?_
    refine lv_iload_n hx hb dX6_startRow_27 rfl (lv_at hl 1 rfl) ?_
    refine lv_ldc (v := 1073741824) hx hb C.1.2.2.2.1 (C.1.2.2.2.2 _ uk_X6_31) dX6_startRow_28 ?_
    refine tI (y := nI 1073741824) (by decide) ?_
    refine stA 18 rfl (j := n) (x := nI (1073741824)) (show n < 401 by omega) (by decide) C h dX6_startRow_30 (fun H locs h => ?_)
    rw [put_q (k := 17) (q := 18)] at h
    refine lv_iinc (v := nI (n + 1)) (lv' := [(2, .int (nI (n + 1))), (0, .ref (zad z 4))]) hx hb dX6_startRow_31 hl (k := 1) rfl (nN_inc _) (by decide) rfl (fun ls hl => ?_)
    refine lv_goto (tgt := 7) hx hb dX6_startRow_34 (by decide) ?_
    exact ih_7 (n + 1) (upd hh n (nI 1073741824)) (upd tt n (nI 1073741824)) (by omega) H locs ls ⟨by omega, fun q hq => by by_cases e : q = n; rw [e, pk_us, pk_us]; exact ⟨rfl, rfl⟩; rw [pk_un e, pk_un e]; exact h2 q (by omega), h, lv_sub hl [1, 0] rfl⟩
theorem gv_X6_32 : GoodIn uW (va_wsS RX6 32 yX6_offer (Cond.code yX6_offer cX6_offer 4 none :: uW)) := gI_S (uW_of (by decide +kernel) rfl) (uW_of (by decide +kernel) rfl) (uW_of (by decide +kernel) rfl) (uW_of (by decide +kernel) rfl)
theorem gv_X6_32_n : okN yX6_offer 4 := by decide +kernel
theorem gv_X6_36 : GoodIn uW (wsV RX6 36 RX1 yX1_bytesOf (Cond.code yX1_bytesOf cX1_bytesOf 6 (some .int) :: uW)) := gI_V (uW_of (by decide +kernel) rfl) (uW_of (by decide +kernel) rfl) (uW_of (by decide +kernel) rfl) (uW_of (by decide +kernel) rfl) (uW_of (by decide +kernel) rfl)
theorem gv_X6_36_n : okN yX1_bytesOf 2 := by decide +kernel
theorem gv_X6_42 : GoodIn uW (va_wsS RX6 42 yX6_sum (Cond.code yX6_sum cX6_sum 2 (some .int) :: uW)) := gI_S (uW_of (by decide +kernel) rfl) (uW_of (by decide +kernel) rfl) (uW_of (by decide +kernel) rfl) (uW_of (by decide +kernel) rfl)
theorem gv_X6_42_n : okN yX6_sum 2 := by decide +kernel
set_option maxHeartbeats 4000000 in
set_option maxRecDepth 100000 in
/-- RunSearch.weighHeads -/
theorem k_weighHeads (l : Launch) (z : bZ) (v : bV) (sc : Nat → Int32) (ar : Nat → Nat → Int32) (a cb ch cs cd N w : Nat) (Y : Nat → Nat) (hw : cdW v a cb ch cs cd) (hN0 : sc 11 = nI N) (hN : N ≤ 400) (hww : w < 40) (hY : ∀ q, q ≤ N → ar 17 q = nI (Y q) ∧ Y q ≤ 1073741824) : Met l yX6_weighHeads (Cond.code yX6_weighHeads cX6_weighHeads 7 none :: uW) { frames := 2, cells := 0, slots := 0, locals := 51 } (pC z v sc ar [.ref (zad z 4), .ref (a), .int (nI (w)), .ref (zad z 12)]) (qV z (fun u => ∃ g, u = (v, sc, va_up ar 17 g) ∧ ∀ q, q ≤ N → g q = nI (ofr (hdS (blC cb ch cs cd) (ar 12) q) (Y q) w))) 0 0 (zA z) := by
  refine eM (by decide) (Nat.le_of_ble_eq_true rfl) ?_
  intro pP eE s mM below meth cC ls C hr hlk h hl
  have hx := C.1.1
  have hb := C.1.2.1
  have hl : lv_has ls 7 [(0, .ref (zad z 4)), (1, .ref (a)), (2, .int (nI (w))), (3, .ref (zad z 12))] := hl
  obtain ⟨-, -, ⟨hB1, hB5⟩, ⟨hH1, hH2⟩, hS, hD⟩ := id hw
  refine lv_iconst (v := nI (0)) hx hb dX6_weighHeads_0 (by decide) ?_
  refine lv_istore (lv' := [(4, .int (nI (0))), (0, .ref (zad z 4)), (1, .ref (a)), (2, .int (nI (w))), (3, .ref (zad z 12))]) hx hb dX6_weighHeads_1 hl (by decide) rfl (fun ls hl => ?_)
  refine lv_iconst (v := nI (0)) hx hb dX6_weighHeads_3 (by decide) ?_
  refine lv_istore (lv' := [(5, .int (nI (0))), (4, .int (nI (0))), (0, .ref (zad z 4)), (1, .ref (a)), (2, .int (nI (w))), (3, .ref (zad z 12))]) hx hb dX6_weighHeads_4 hl (by decide) rfl (fun ls hl => ?_)
  refine lv_aload_n hx hb dX6_weighHeads_6 rfl (lv_at hl 2 rfl) ?_
  refine rg_X6_9 C h dX6_weighHeads_7 ?_
  refine lv_iconst (v := nI (0)) hx hb dX6_weighHeads_10 (by decide) ?_
  refine lv_iload hx hb dX6_weighHeads_11 (lv_at hl 1 rfl) ?_
  refine lv_iload_n hx hb dX6_weighHeads_13 rfl (lv_at hl 4 rfl) ?_
  refine backV h (runS (As := [.ref (zad z 17), .int (nI (0)), .int (nI (0)), .int (nI (w))]) (rest := []) C h (k_offer l z v sc ar 17 0 w (Y 0) (some 0) rfl rfl (by omega) hww (hY 0 (by omega)).1 (hY 0 (by omega)).2 (fun q e => by cases e; decide)) gv_X6_32 gv_X6_32_n ⟨rfl, rfl⟩ rfl hl.1 rfl (Nat.le_of_ble_eq_true rfl) dX6_weighHeads_14 ⟨Nat.le_of_ble_eq_true rfl, Nat.le_of_ble_eq_true rfl⟩ ⟨Nat.le_of_ble_eq_true rfl, Nat.le_of_ble_eq_true rfl⟩) (fun v_14 sc_14 ar_14 H locs p_14 h => ?_)
  have h : hH z v sc (va_up ar 17 (upd (ar 17) 0 (nI (ofr (some 0) (Y 0) w)))) s H locs := uEq p_14 h
  refine lv_iconst (v := nI (1)) hx hb dX6_weighHeads_17 (by decide) ?_
  refine lv_istore (lv' := [(6, .int (nI (1))), (5, .int (nI (0))), (4, .int (nI (0))), (0, .ref (zad z 4)), (1, .ref (a)), (2, .int (nI (w))), (3, .ref (zad z 12))]) hx hb dX6_weighHeads_18 hl (by decide) rfl (fun ls hl => ?_)
  refine lpW4 (fun (n : Nat) (o : Option Nat) (bef : Int32) (g : Nat → Int32) (H : Heap) (locs : List Loc) (ls : Array Slot) => (1 ≤ n ∧ n ≤ N + 1) ∧ (o = hdS (blC cb ch cs cd) (ar 12) (n - 1)) ∧ (bef = (if n - 1 = 0 then 0 else ar 12 (n - 1 - 1))) ∧ (∀ q, q ≤ N → g q = nI (if q < n then ofr (hdS (blC cb ch cs cd) (ar 12) q) (Y q) w else Y q)) ∧ hH z v sc (va_up ar 17 (g)) s H locs ∧ lv_has ls 7 [(0, .ref (zad z 4)), (1, .ref (a)), (2, .int (nI (w))), (3, .ref (zad z 12)), (4, .int (oI o)), (5, .int (bef)), (6, .int (nI (n)))]) (fun (n : Nat) (o : Option Nat) (bef : Int32) (g : Nat → Int32) => N + 1 - n) (fun n o bef g ih_20 H locs ls hI => ?_) (1) (some 0) (nI 0) (upd (ar 17) 0 (nI (ofr (some 0) (Y 0) w))) ⟨⟨Nat.le_refl _, by omega⟩, rfl, rfl, fun q hq => by by_cases e : q = 0; rw [e, pk_us, if_pos (by omega)]; rfl; rw [pk_un e, if_neg (by omega)]; exact (hY q hq).1, h, lv_sub hl [3, 4, 5, 6, 2, 1, 0] rfl⟩
  obtain ⟨h1, h2, h3, h4, h, hl⟩ := hI
  have hob := fun q (e : o = some q) => hdS_bd (fun x y q e => Nat.le_trans (blC_le e) hB5) (n - 1) q (by rw [← h2, e])
  refine lv_iload hx hb dX6_weighHeads_20 (lv_at hl 6 rfl) ?_
  refine lv_aload_n hx hb dX6_weighHeads_22 rfl (lv_at hl 0 rfl) ?_
  refine rg_X6_18 C h dX6_weighHeads_23 ?_
  refine tI (y := nI (N)) hN0 ?_
  refine jN_gt (tgt := 80) (a := n) (b := N) C (by omega) (by omega) dX6_weighHeads_26 (by decide) (fun c_26 => ?_) (fun c_26 => ?_)
  · skip
    exact rV C hr hlk h dX6_weighHeads_80 (Nat.le_of_ble_eq_true rfl) (Nat.le_of_ble_eq_true rfl) (⟨g, rfl, fun q hq => by rw [h4 q hq, if_pos (by omega)]⟩)
  · skip
    refine lv_iload hx hb dX6_weighHeads_29 (lv_at hl 4 rfl) ?_
    refine lv_iconst (v := (-1)) hx hb dX6_weighHeads_31 (by decide) ?_
    refine lv_icmp_eq (tgt := 80) hx hb dX6_weighHeads_32 (by decide) (fun c_32 => ?_) (fun c_32 => ?_)
    · skip
      have e := oI_none c_32 (fun q h => by have := hob q h; omega)
      exact rV C hr hlk h dX6_weighHeads_80 (Nat.le_of_ble_eq_true rfl) (Nat.le_of_ble_eq_true rfl) (⟨g, rfl, fun q hq => by rw [h4 q hq]; by_cases e2 : q < n; rw [if_pos e2]; rw [if_neg e2, show q = n - 1 + (q - (n - 1)) by omega, hdS_none (by rw [← h2, e])]; rfl⟩)
    · skip
      obtain ⟨b0, rfl⟩ : ∃ x, o = some x := by
        rcases o with _ | x
        · exact absurd rfl c_32
        · exact ⟨x, rfl⟩
      have hb0 := hob b0 rfl
      have hstep : (oadd (some b0) (blC cb ch cs cd (ar 12 (n - 1)) bef)) = hdS (blC cb ch cs cd) (ar 12) (n + 1 - 1) := by rw [Nat.add_sub_cancel, h2, h3]; (conv => rhs; rw [show n = n - 1 + 1 by omega]); rfl
      have hoB := fun q (e : (oadd (some b0) (blC cb ch cs cd (ar 12 (n - 1)) bef)) = some q) => hdS_bd (fun x y q e => Nat.le_trans (blC_le e) hB5) (n + 1 - 1) q (by rw [← hstep, e])
      have hl : lv_has ls 7 [(0, .ref (zad z 4)), (1, .ref (a)), (2, .int (nI (w))), (3, .ref (zad z 12)), (4, .int (nI (b0))), (5, .int (bef)), (6, .int (nI (n)))] := hl
      refine lv_iload hx hb dX6_weighHeads_35 (lv_at hl 4 rfl) ?_
      refine lv_aload_n hx hb dX6_weighHeads_37 rfl (lv_at hl 1 rfl) ?_
      refine lv_aload_n hx hb dX6_weighHeads_38 rfl (lv_at hl 3 rfl) ?_
      refine lv_iload hx hb dX6_weighHeads_39 (lv_at hl 6 rfl) ?_
      refine lv_iconst (v := nI (1)) hx hb dX6_weighHeads_41 (by decide) ?_
      refine lv_isub hx hb dX6_weighHeads_42 ?_
      refine tI (pk_sub (by omega)) ?_
      refine ldA 12 rfl (j := (n) - (1)) (show (n) - (1) < 400 by omega) (by decide) C h dX6_weighHeads_43 ?_
      refine tI (y := ar 12 (n - 1)) rfl ?_
      refine lv_iload hx hb dX6_weighHeads_44 (lv_at hl 5 rfl) ?_
      refine backI h (runV (As := [.int (ar 12 (n - 1)), .int (bef)]) (rest := [.int (nI (b0))]) C h (k_bytesOf l z v sc (va_up ar 17 (g)) a cb ch cs cd (ar 12 (n - 1)) bef hw) gv_X6_36 gv_X6_36_n ⟨rfl, rfl⟩ (r_Cod C h hw) rfl hl.1 rfl (Nat.le_of_ble_eq_true rfl) dX6_weighHeads_46 ⟨Nat.le_of_ble_eq_true rfl, Nat.le_of_ble_eq_true rfl⟩ ⟨Nat.le_of_ble_eq_true rfl, Nat.le_of_ble_eq_true rfl⟩) (fun r_46 v_46 sc_46 ar_46 H locs p_46 h => ?_)
      have h : hH z v sc (va_up ar 17 (g)) s H locs := uEq p_46.2 h
      refine tI (y := lenI ((cdO cs (toldI cd (ar 12 (n - 1)) (bef))).bind (enc cb ch))) p_46.1 ?_
      refine tI (y := oI (blC cb ch cs cd (ar 12 (n - 1)) (bef))) (lenI_bl _ _ _ _ _ _) ?_
      refine backI h (runS (As := [.int (nI (b0)), .int (oI (blC cb ch cs cd (ar 12 (n - 1)) (bef)))]) (rest := []) C h (k_sum l z v sc (va_up ar 17 (g)) (some b0) (blC cb ch cs cd (ar 12 (n - 1)) bef) (fun q e => by cases e; omega) (fun q e => by have := blC_le e; omega)) gv_X6_42 gv_X6_42_n ⟨rfl, rfl⟩ rfl hl.1 rfl (Nat.le_of_ble_eq_true rfl) dX6_weighHeads_49 ⟨Nat.le_of_ble_eq_true rfl, Nat.le_of_ble_eq_true rfl⟩ ⟨Nat.le_of_ble_eq_true rfl, Nat.le_of_ble_eq_true rfl⟩) (fun r_49 v_49 sc_49 ar_49 H locs p_49 h => ?_)
      have h : hH z v sc (va_up ar 17 (g)) s H locs := uEq p_49.2 h
      refine tI (y := oI (oadd (some b0) (blC cb ch cs cd (ar 12 (n - 1)) bef))) p_49.1 ?_
      refine lv_istore (lv' := [(4, .int (oI (oadd (some b0) (blC cb ch cs cd (ar 12 (n - 1)) bef)))), (0, .ref (zad z 4)), (1, .ref (a)), (2, .int (nI (w))), (3, .ref (zad z 12)), (5, .int (bef)), (6, .int (nI (n)))]) hx hb dX6_weighHeads_52 hl (by decide) rfl (fun ls hl => ?_)
      refine lv_aload_n hx hb dX6_weighHeads_54 rfl (lv_at hl 4 rfl) ?_
      refine lv_iload hx hb dX6_weighHeads_55 (lv_at hl 6 rfl) ?_
      refine lv_iconst (v := nI (1)) hx hb dX6_weighHeads_57 (by decide) ?_
      refine lv_isub hx hb dX6_weighHeads_58 ?_
      refine tI (pk_sub (by omega)) ?_
      refine ldA 12 rfl (j := (n) - (1)) (show (n) - (1) < 400 by omega) (by decide) C h dX6_weighHeads_59 ?_
      refine tI (y := ar 12 (n - 1)) rfl ?_
      refine lv_istore (lv' := [(5, .int (ar 12 (n - 1))), (4, .int (oI (oadd (some b0) (blC cb ch cs cd (ar 12 (n - 1)) bef)))), (0, .ref (zad z 4)), (1, .ref (a)), (2, .int (nI (w))), (3, .ref (zad z 12)), (6, .int (nI (n)))]) hx hb dX6_weighHeads_60 hl (by decide) rfl (fun ls hl => ?_)
      refine lv_aload_n hx hb dX6_weighHeads_62 rfl (lv_at hl 2 rfl) ?_
      refine rg_X6_9 C h dX6_weighHeads_63 ?_
      refine lv_iload hx hb dX6_weighHeads_66 (lv_at hl 6 rfl) ?_
      refine lv_iload hx hb dX6_weighHeads_68 (lv_at hl 1 rfl) ?_
      refine lv_iload_n hx hb dX6_weighHeads_70 rfl (lv_at hl 4 rfl) ?_
      refine backV h (runS (As := [.ref (zad z 17), .int (nI (n)), .int (oI (oadd (some b0) (blC cb ch cs cd (ar 12 (n - 1)) bef))), .int (nI (w))]) (rest := []) C h (k_offer l z v sc (va_up ar 17 (g)) 17 n w (Y n) (oadd (some b0) (blC cb ch cs cd (ar 12 (n - 1)) bef)) rfl rfl (by omega) hww (by rw [va_up_self, h4 n (by omega), if_neg (by omega)]) (hY n (by omega)).2 (fun q e => by have := hoB q e; omega)) gv_X6_32 gv_X6_32_n ⟨rfl, rfl⟩ rfl hl.1 rfl (Nat.le_of_ble_eq_true rfl) dX6_weighHeads_71 ⟨Nat.le_of_ble_eq_true rfl, Nat.le_of_ble_eq_true rfl⟩ ⟨Nat.le_of_ble_eq_true rfl, Nat.le_of_ble_eq_true rfl⟩) (fun v_71 sc_71 ar_71 H locs p_71 h => ?_)
      rw [va_uu, va_up_self] at p_71
      have h : hH z v sc (va_up ar 17 (upd g n (nI (ofr (oadd (some b0) (blC cb ch cs cd (ar 12 (n - 1)) bef)) (Y n) w)))) s H locs := uEq p_71 h
      refine lv_iinc (v := nI (n + 1)) (lv' := [(6, .int (nI (n + 1))), (5, .int (ar 12 (n - 1))), (4, .int (oI (oadd (some b0) (blC cb ch cs cd (ar 12 (n - 1)) bef)))), (0, .ref (zad z 4)), (1, .ref (a)), (2, .int (nI (w))), (3, .ref (zad z 12))]) hx hb dX6_weighHeads_74 hl (k := 6) rfl (nN_inc _) (by decide) rfl (fun ls hl => ?_)
      refine lv_goto (tgt := 20) hx hb dX6_weighHeads_77 (by decide) ?_
      exact ih_20 (n + 1) ((oadd (some b0) (blC cb ch cs cd (ar 12 (n - 1)) bef))) (ar 12 (n - 1)) (upd g n (nI (ofr (oadd (some b0) (blC cb ch cs cd (ar 12 (n - 1)) bef)) (Y n) w))) (by omega) H locs ls ⟨⟨by omega, by omega⟩, hstep, by rw [if_neg (by omega)]; congr 1, fun q hq => by by_cases e : q = n; rw [e, pk_us, if_pos (by omega), hstep, Nat.add_sub_cancel]; rw [pk_un e, h4 q hq]; by_cases e2 : q < n; rw [if_pos e2, if_pos (by omega)]; rw [if_neg e2, if_neg (by omega)], h, lv_sub hl [3, 4, 5, 6, 2, 1, 0] rfl⟩
set_option maxHeartbeats 4000000 in
set_option maxRecDepth 100000 in
/-- RunSearch.weighTails -/
theorem k_weighTails (l : Launch) (z : bZ) (v : bV) (sc : Nat → Int32) (ar : Nat → Nat → Int32) (a cb ch cs cd N w : Nat) (Y : Nat → Nat) (hw : cdW v a cb ch cs cd) (hN0 : sc 11 = nI N) (hN : N ≤ 400) (hww : w < 40) (hY : ∀ q, q ≤ N → ar 18 q = nI (Y q) ∧ Y q ≤ 1073741824) : Met l yX6_weighTails (Cond.code yX6_weighTails cX6_weighTails 6 none :: uW) { frames := 2, cells := 0, slots := 0, locals := 51 } (pC z v sc ar [.ref (zad z 4), .ref (a), .int (nI (w)), .ref (zad z 12)]) (qV z (fun u => ∃ g, u = (v, sc, va_up ar 18 g) ∧ ∀ q, q ≤ N → g q = nI (ofr (tlS (blC cb ch cs cd) (ar 12) N q) (Y q) w))) 0 0 (zA z) := by
  refine eM (by decide) (Nat.le_of_ble_eq_true rfl) ?_
  intro pP eE s mM below meth cC ls C hr hlk h hl
  have hx := C.1.1
  have hb := C.1.2.1
  have hl : lv_has ls 6 [(0, .ref (zad z 4)), (1, .ref (a)), (2, .int (nI (w))), (3, .ref (zad z 12))] := hl
  obtain ⟨-, -, ⟨hB1, hB5⟩, ⟨hH1, hH2⟩, hS, hD⟩ := id hw
  refine lv_iconst (v := nI (0)) hx hb dX6_weighTails_0 (by decide) ?_
  refine lv_istore (lv' := [(4, .int (nI (0))), (0, .ref (zad z 4)), (1, .ref (a)), (2, .int (nI (w))), (3, .ref (zad z 12))]) hx hb dX6_weighTails_1 hl (by decide) rfl (fun ls hl => ?_)
  refine lv_aload_n hx hb dX6_weighTails_3 rfl (lv_at hl 1 rfl) ?_
  refine rg_X6_15 C h dX6_weighTails_4 ?_
  refine lv_aload_n hx hb dX6_weighTails_7 rfl (lv_at hl 1 rfl) ?_
  refine rg_X6_18 C h dX6_weighTails_8 ?_
  refine tI (y := nI (N)) hN0 ?_
  refine lv_iload hx hb dX6_weighTails_11 (lv_at hl 0 rfl) ?_
  refine lv_iload_n hx hb dX6_weighTails_13 rfl (lv_at hl 3 rfl) ?_
  refine backV h (runS (As := [.ref (zad z 18), .int (nI (N)), .int (nI (0)), .int (nI (w))]) (rest := []) C h (k_offer l z v sc ar 18 N w (Y N) (some 0) rfl rfl (by omega) hww (hY N (by omega)).1 (hY N (by omega)).2 (fun q e => by cases e; decide)) gv_X6_32 gv_X6_32_n ⟨rfl, rfl⟩ rfl hl.1 rfl (Nat.le_of_ble_eq_true rfl) dX6_weighTails_14 ⟨Nat.le_of_ble_eq_true rfl, Nat.le_of_ble_eq_true rfl⟩ ⟨Nat.le_of_ble_eq_true rfl, Nat.le_of_ble_eq_true rfl⟩) (fun v_14 sc_14 ar_14 H locs p_14 h => ?_)
  have h : hH z v sc (va_up ar 18 (upd (ar 18) N (nI (ofr (some 0) (Y N) w)))) s H locs := uEq p_14 h
  refine lv_aload_n hx hb dX6_weighTails_17 rfl (lv_at hl 1 rfl) ?_
  refine rg_X6_18 C h dX6_weighTails_18 ?_
  refine tI (y := nI (N)) hN0 ?_
  refine lv_iconst (v := nI (1)) hx hb dX6_weighTails_21 (by decide) ?_
  refine lv_isub hx hb dX6_weighTails_22 ?_
  refine tI (y := nI (N) - 1) rfl ?_
  refine lv_istore (lv' := [(5, .int (nI (N) - 1)), (4, .int (nI (0))), (0, .ref (zad z 4)), (1, .ref (a)), (2, .int (nI (w))), (3, .ref (zad z 12))]) hx hb dX6_weighTails_23 hl (by decide) rfl (fun ls hl => ?_)
  refine lpW3 (fun (m : Nat) (o : Option Nat) (g : Nat → Int32) (H : Heap) (locs : List Loc) (ls : Array Slot) => (m ≤ N) ∧ (1 ≤ m → o = chS (blC cb ch cs cd) (ar 12) N (N - m)) ∧ (∀ q, o = some q → q ≤ 2000) ∧ (∀ q, q ≤ N → g q = nI (if m ≤ q then ofr (tlS (blC cb ch cs cd) (ar 12) N q) (Y q) w else Y q)) ∧ hH z v sc (va_up ar 18 (g)) s H locs ∧ lv_has ls 6 [(0, .ref (zad z 4)), (1, .ref (a)), (2, .int (nI (w))), (3, .ref (zad z 12)), (4, .int (oI o)), (5, .int (nI m - 1))]) (fun (m : Nat) (o : Option Nat) (g : Nat → Int32) => m) (fun m o g ih_25 H locs ls hI => ?_) (N) (some 0) (upd (ar 18) N (nI (ofr (some 0) (Y N) w))) ⟨Nat.le_refl _, fun _ => by rw [Nat.sub_self]; rfl, fun q e => by cases e; decide, fun q hq => by by_cases e : q = N; rw [e, pk_us, if_pos (Nat.le_refl _)]; unfold tlS; rw [if_pos rfl]; rw [pk_un e, if_neg (by omega)]; exact (hY q hq).1, h, lv_sub hl [2, 3, 4, 5, 1, 0] rfl⟩
  obtain ⟨h1, h2, hob, h4, h, hl⟩ := hI
  refine lv_iload hx hb dX6_weighTails_25 (lv_at hl 5 rfl) ?_
  refine lv_if_lt (tgt := 92) hx hb dX6_weighTails_27 (by decide) (fun c_27 => ?_) (fun c_27 => ?_)
  · skip
    have hm : m = 0 := by
      rcases m with _ | q
      · rfl
      · rw [show nI (q + 1) - 1 = nI q from pk_sub (a := q + 1) (b := 1) (by omega)] at c_27
        exact absurd ((nN_lt (b := 0) (by omega) (by decide)).mp c_27) (Nat.not_lt_zero _)
    exact rV C hr hlk h dX6_weighTails_92 (Nat.le_of_ble_eq_true rfl) (Nat.le_of_ble_eq_true rfl) (⟨g, rfl, fun q hq => by rw [h4 q hq, if_pos (by omega)]⟩)
  · skip
    have hm : 1 ≤ m := by
      rcases m with _ | q
      · exact absurd (by decide : (nI 0 - 1 : Int32) < 0) c_27
      · omega
    have hl : lv_has ls 6 [(0, .ref (zad z 4)), (1, .ref (a)), (2, .int (nI (w))), (3, .ref (zad z 12)), (4, .int (oI o)), (5, .int (nI (m - 1)))] := by rw [show nI m - 1 = nI (m - 1) from pk_sub (a := m) (b := 1) (by omega)] at hl; exact hl
    refine lv_iload hx hb dX6_weighTails_30 (lv_at hl 4 rfl) ?_
    refine lv_iconst (v := (-1)) hx hb dX6_weighTails_32 (by decide) ?_
    refine lv_icmp_eq (tgt := 92) hx hb dX6_weighTails_33 (by decide) (fun c_33 => ?_) (fun c_33 => ?_)
    · skip
      have e := oI_none c_33 (fun q h => by have := hob q h; omega)
      exact rV C hr hlk h dX6_weighTails_92 (Nat.le_of_ble_eq_true rfl) (Nat.le_of_ble_eq_true rfl) (⟨g, rfl, fun q hq => by rw [h4 q hq]; by_cases e2 : m ≤ q; rw [if_pos e2]; rw [if_neg e2]; unfold tlS; rw [if_neg (by omega), show N - (q + 1) = N - m + (m - (q + 1)) by omega, chS_none (by rw [← h2 hm, e])]; rfl⟩)
    · skip
      obtain ⟨b0, rfl⟩ : ∃ x, o = some x := by
        rcases o with _ | x
        · exact absurd rfl c_33
        · exact ⟨x, rfl⟩
      have hb0 := hob b0 rfl
      have h2 := h2 hm
      have htl : (oadd (some b0) (blC cb ch cs cd (ar 12 (m - 1)) (nI 0))) = tlS (blC cb ch cs cd) (ar 12) N (m - 1) := by unfold tlS; rw [if_neg (by omega), show m - 1 + 1 = m by omega, ← h2]; rfl
      have hoT := fun q (e : (oadd (some b0) (blC cb ch cs cd (ar 12 (m - 1)) (nI 0))) = some q) => oadd_bd (A := 2000) (B := 5) e hob (fun q e => by have := blC_le e; omega)
      have hl : lv_has ls 6 [(0, .ref (zad z 4)), (1, .ref (a)), (2, .int (nI (w))), (3, .ref (zad z 12)), (4, .int (nI (b0))), (5, .int (nI (m - 1)))] := hl
      refine lv_aload_n hx hb dX6_weighTails_36 rfl (lv_at hl 0 rfl) ?_
      refine rg_X6_15 C h dX6_weighTails_37 ?_
      refine lv_iload hx hb dX6_weighTails_40 (lv_at hl 5 rfl) ?_
      refine lv_iload hx hb dX6_weighTails_42 (lv_at hl 4 rfl) ?_
      refine lv_aload_n hx hb dX6_weighTails_44 rfl (lv_at hl 1 rfl) ?_
      refine lv_aload_n hx hb dX6_weighTails_45 rfl (lv_at hl 3 rfl) ?_
      refine lv_iload hx hb dX6_weighTails_46 (lv_at hl 5 rfl) ?_
      refine ldA 12 rfl (j := m - 1) (show m - 1 < 400 by omega) (by decide) C h dX6_weighTails_48 ?_
      refine tI (y := ar 12 (m - 1)) rfl ?_
      refine lv_iconst (v := nI (0)) hx hb dX6_weighTails_49 (by decide) ?_
      refine backI h (runV (As := [.int (ar 12 (m - 1)), .int (nI (0))]) (rest := [.int (nI (b0)), .int (nI (m - 1)), .ref (zad z 18)]) C h (k_bytesOf l z v sc (va_up ar 18 (g)) a cb ch cs cd (ar 12 (m - 1)) (nI 0) hw) gv_X6_36 gv_X6_36_n ⟨rfl, rfl⟩ (r_Cod C h hw) rfl hl.1 rfl (Nat.le_of_ble_eq_true rfl) dX6_weighTails_50 ⟨Nat.le_of_ble_eq_true rfl, Nat.le_of_ble_eq_true rfl⟩ ⟨Nat.le_of_ble_eq_true rfl, Nat.le_of_ble_eq_true rfl⟩) (fun r_50 v_50 sc_50 ar_50 H locs p_50 h => ?_)
      have h : hH z v sc (va_up ar 18 (g)) s H locs := uEq p_50.2 h
      refine tI (y := lenI ((cdO cs (toldI cd (ar 12 (m - 1)) (nI 0))).bind (enc cb ch))) p_50.1 ?_
      refine tI (y := oI (blC cb ch cs cd (ar 12 (m - 1)) (nI 0))) (lenI_bl _ _ _ _ _ _) ?_
      refine backI h (runS (As := [.int (nI (b0)), .int (oI (blC cb ch cs cd (ar 12 (m - 1)) (nI 0)))]) (rest := [.int (nI (m - 1)), .ref (zad z 18)]) C h (k_sum l z v sc (va_up ar 18 (g)) (some b0) (blC cb ch cs cd (ar 12 (m - 1)) (nI 0)) (fun q e => by cases e; omega) (fun q e => by have := blC_le e; omega)) gv_X6_42 gv_X6_42_n ⟨rfl, rfl⟩ rfl hl.1 rfl (Nat.le_of_ble_eq_true rfl) dX6_weighTails_53 ⟨Nat.le_of_ble_eq_true rfl, Nat.le_of_ble_eq_true rfl⟩ ⟨Nat.le_of_ble_eq_true rfl, Nat.le_of_ble_eq_true rfl⟩) (fun r_53 v_53 sc_53 ar_53 H locs p_53 h => ?_)
      have h : hH z v sc (va_up ar 18 (g)) s H locs := uEq p_53.2 h
      refine tI (y := oI (oadd (some b0) (blC cb ch cs cd (ar 12 (m - 1)) (nI 0)))) p_53.1 ?_
      refine lv_iload_n hx hb dX6_weighTails_56 rfl (lv_at hl 2 rfl) ?_
      refine backV h (runS (As := [.ref (zad z 18), .int (nI (m - 1)), .int (oI (oadd (some b0) (blC cb ch cs cd (ar 12 (m - 1)) (nI 0)))), .int (nI (w))]) (rest := []) C h (k_offer l z v sc (va_up ar 18 (g)) 18 (m - 1) w (Y (m - 1)) (oadd (some b0) (blC cb ch cs cd (ar 12 (m - 1)) (nI 0))) rfl rfl (by omega) hww (by rw [va_up_self, h4 (m - 1) (by omega), if_neg (by omega)]) (hY (m - 1) (by omega)).2 (fun q e => by have := hoT q e; omega)) gv_X6_32 gv_X6_32_n ⟨rfl, rfl⟩ rfl hl.1 rfl (Nat.le_of_ble_eq_true rfl) dX6_weighTails_57 ⟨Nat.le_of_ble_eq_true rfl, Nat.le_of_ble_eq_true rfl⟩ ⟨Nat.le_of_ble_eq_true rfl, Nat.le_of_ble_eq_true rfl⟩) (fun v_57 sc_57 ar_57 H locs p_57 h => ?_)
      rw [va_uu, va_up_self] at p_57
      have h : hH z v sc (va_up ar 18 (upd g (m - 1) (nI (ofr (oadd (some b0) (blC cb ch cs cd (ar 12 (m - 1)) (nI 0))) (Y (m - 1)) w)))) s H locs := uEq p_57 h
      refine lv_iload hx hb dX6_weighTails_60 (lv_at hl 5 rfl) ?_
      refine zN_le (tgt := 86) (a := m - 1) C (by omega) dX6_weighTails_62 (by decide) (fun c_62 => ?_) (fun c_62 => ?_)
      · skip
        refine lv_iinc (v := nI (m - 1) - 1) (lv' := [(5, .int (nI (m - 1) - 1)), (0, .ref (zad z 4)), (1, .ref (a)), (2, .int (nI (w))), (3, .ref (zad z 12)), (4, .int (nI (b0)))]) hx hb dX6_weighTails_86 hl (k := 5) rfl (decI _) (by decide) rfl (fun ls hl => ?_)
        refine lv_goto (tgt := 25) hx hb dX6_weighTails_89 (by decide) ?_
        exact ih_25 (m - 1) (some b0) (upd g (m - 1) (nI (ofr (oadd (some b0) (blC cb ch cs cd (ar 12 (m - 1)) (nI 0))) (Y (m - 1)) w))) (by omega) H locs ls ⟨by omega, fun q => by omega, fun q e => hob q e, fun q hq => by by_cases e : q = m - 1; rw [e, pk_us, if_pos (Nat.le_refl _), htl]; rw [pk_un e, h4 q hq]; by_cases e2 : m ≤ q; rw [if_pos e2, if_pos (by omega)]; rw [if_neg e2, if_neg (by omega)], h, lv_sub hl [1, 2, 3, 4, 5, 0] rfl⟩
      · skip
        have hch : (oadd (some b0) (blC cb ch cs cd (ar 12 (m - 1)) (ar 12 (m - 1 - 1)))) = chS (blC cb ch cs cd) (ar 12) N (N - (m - 1)) := by rw [show N - (m - 1) = N - m + 1 by omega, show chS (blC cb ch cs cd) (ar 12) N (N - m + 1) = oadd (chS (blC cb ch cs cd) (ar 12) N (N - m)) ((blC cb ch cs cd) (ar 12 (N - (N - m + 1))) (ar 12 (N - (N - m + 1) - 1))) from rfl, ← h2, show N - (N - m + 1) = m - 1 by omega]
        have hoC := fun q (e : (oadd (some b0) (blC cb ch cs cd (ar 12 (m - 1)) (ar 12 (m - 1 - 1)))) = some q) => by have := chS_bd (fun x y q e => Nat.le_trans (blC_le e) hB5) (N - (m - 1)) q (by rw [← hch, e]); exact (show q ≤ 2000 by omega)
        refine lv_iload hx hb dX6_weighTails_65 (lv_at hl 4 rfl) ?_
        refine lv_aload_n hx hb dX6_weighTails_67 rfl (lv_at hl 1 rfl) ?_
        refine lv_aload_n hx hb dX6_weighTails_68 rfl (lv_at hl 3 rfl) ?_
        refine lv_iload hx hb dX6_weighTails_69 (lv_at hl 5 rfl) ?_
        refine ldA 12 rfl (j := m - 1) (show m - 1 < 400 by omega) (by decide) C h dX6_weighTails_71 ?_
        refine tI (y := ar 12 (m - 1)) rfl ?_
        refine lv_aload_n hx hb dX6_weighTails_72 rfl (lv_at hl 3 rfl) ?_
        refine lv_iload hx hb dX6_weighTails_73 (lv_at hl 5 rfl) ?_
        refine lv_iconst (v := nI (1)) hx hb dX6_weighTails_75 (by decide) ?_
        refine lv_isub hx hb dX6_weighTails_76 ?_
        refine tI (pk_sub (by omega)) ?_
        refine ldA 12 rfl (j := (m - 1) - (1)) (show (m - 1) - (1) < 400 by omega) (by decide) C h dX6_weighTails_77 ?_
        refine tI (y := ar 12 (m - 1 - 1)) rfl ?_
        refine backI h (runV (As := [.int (ar 12 (m - 1)), .int (ar 12 (m - 1 - 1))]) (rest := [.int (nI (b0))]) C h (k_bytesOf l z v sc (va_up ar 18 (upd g (m - 1) (nI (ofr (oadd (some b0) (blC cb ch cs cd (ar 12 (m - 1)) (nI 0))) (Y (m - 1)) w)))) a cb ch cs cd (ar 12 (m - 1)) (ar 12 (m - 1 - 1)) hw) gv_X6_36 gv_X6_36_n ⟨rfl, rfl⟩ (r_Cod C h hw) rfl hl.1 rfl (Nat.le_of_ble_eq_true rfl) dX6_weighTails_78 ⟨Nat.le_of_ble_eq_true rfl, Nat.le_of_ble_eq_true rfl⟩ ⟨Nat.le_of_ble_eq_true rfl, Nat.le_of_ble_eq_true rfl⟩) (fun r_78 v_78 sc_78 ar_78 H locs p_78 h => ?_)
        have h : hH z v sc (va_up ar 18 (upd g (m - 1) (nI (ofr (oadd (some b0) (blC cb ch cs cd (ar 12 (m - 1)) (nI 0))) (Y (m - 1)) w)))) s H locs := uEq p_78.2 h
        refine tI (y := lenI ((cdO cs (toldI cd (ar 12 (m - 1)) (ar 12 (m - 1 - 1)))).bind (enc cb ch))) p_78.1 ?_
        refine tI (y := oI (blC cb ch cs cd (ar 12 (m - 1)) (ar 12 (m - 1 - 1)))) (lenI_bl _ _ _ _ _ _) ?_
        refine backI h (runS (As := [.int (nI (b0)), .int (oI (blC cb ch cs cd (ar 12 (m - 1)) (ar 12 (m - 1 - 1))))]) (rest := []) C h (k_sum l z v sc (va_up ar 18 (upd g (m - 1) (nI (ofr (oadd (some b0) (blC cb ch cs cd (ar 12 (m - 1)) (nI 0))) (Y (m - 1)) w)))) (some b0) (blC cb ch cs cd (ar 12 (m - 1)) (ar 12 (m - 1 - 1))) (fun q e => by cases e; omega) (fun q e => by have := blC_le e; omega)) gv_X6_42 gv_X6_42_n ⟨rfl, rfl⟩ rfl hl.1 rfl (Nat.le_of_ble_eq_true rfl) dX6_weighTails_81 ⟨Nat.le_of_ble_eq_true rfl, Nat.le_of_ble_eq_true rfl⟩ ⟨Nat.le_of_ble_eq_true rfl, Nat.le_of_ble_eq_true rfl⟩) (fun r_81 v_81 sc_81 ar_81 H locs p_81 h => ?_)
        have h : hH z v sc (va_up ar 18 (upd g (m - 1) (nI (ofr (oadd (some b0) (blC cb ch cs cd (ar 12 (m - 1)) (nI 0))) (Y (m - 1)) w)))) s H locs := uEq p_81.2 h
        refine tI (y := oI (oadd (some b0) (blC cb ch cs cd (ar 12 (m - 1)) (ar 12 (m - 1 - 1))))) p_81.1 ?_
        refine lv_istore (lv' := [(4, .int (oI (oadd (some b0) (blC cb ch cs cd (ar 12 (m - 1)) (ar 12 (m - 1 - 1)))))), (0, .ref (zad z 4)), (1, .ref (a)), (2, .int (nI (w))), (3, .ref (zad z 12)), (5, .int (nI (m - 1)))]) hx hb dX6_weighTails_84 hl (by decide) rfl (fun ls hl => ?_)
        refine lv_iinc (v := nI (m - 1) - 1) (lv' := [(5, .int (nI (m - 1) - 1)), (4, .int (oI (oadd (some b0) (blC cb ch cs cd (ar 12 (m - 1)) (ar 12 (m - 1 - 1)))))), (0, .ref (zad z 4)), (1, .ref (a)), (2, .int (nI (w))), (3, .ref (zad z 12))]) hx hb dX6_weighTails_86 hl (k := 5) rfl (decI _) (by decide) rfl (fun ls hl => ?_)
        refine lv_goto (tgt := 25) hx hb dX6_weighTails_89 (by decide) ?_
        exact ih_25 (m - 1) ((oadd (some b0) (blC cb ch cs cd (ar 12 (m - 1)) (ar 12 (m - 1 - 1))))) (upd g (m - 1) (nI (ofr (oadd (some b0) (blC cb ch cs cd (ar 12 (m - 1)) (nI 0))) (Y (m - 1)) w))) (by omega) H locs ls ⟨by omega, fun q => hch, fun q e => hoC q e, fun q hq => by by_cases e : q = m - 1; rw [e, pk_us, if_pos (Nat.le_refl _), htl]; rw [pk_un e, h4 q hq]; by_cases e2 : m ≤ q; rw [if_pos e2, if_pos (by omega)]; rw [if_neg e2, if_neg (by omega)], h, lv_sub hl [2, 3, 4, 5, 1, 0] rfl⟩
/-- the choice over the first n cuts: bytes and cut -/
def chF (A T : Nat → Nat) : Nat → Option (Nat × Nat)
  | 0 => none
  | n + 1 => if A n / 40 + T n / 40 < 26843545 then (match chF A T n with
      | none => some (A n / 40 + T n / 40, n)
      | some x => if A n / 40 + T n / 40 < x.1 then some (A n / 40 + T n / 40, n) else some x) else chF A T n
/-- what the search holds of a choice -/
def chW (sc : Nat → Int32) (A T : Nat → Nat) (o : Option (Nat × Nat)) : Nat → Int32 := match o with
  | none => sc
  | some x => va_up (va_up (va_up sc 12 (nI x.2)) 13 (nI (A x.2 % 40))) 14 (nI (T x.2 % 40))
theorem chW_11 (sc : Nat → Int32) (A T : Nat → Nat) (o : Option (Nat × Nat)) : chW sc A T o 11 = sc 11 := by cases o <;> rfl
theorem chW_up (sc : Nat → Int32) (A T : Nat → Nat) (o : Option (Nat × Nat)) (a b c : Int32) : va_up (va_up (va_up (chW sc A T o) 12 a) 13 b) 14 c = va_up (va_up (va_up sc 12 a) 13 b) 14 c := by
  cases o with
  | none => rfl
  | some x =>
    funext j
    simp only [chW, va_up]
    split
    · rfl
    · split
      · rfl
      · split <;> rfl

theorem uk_X6_45 : Cond.constant RX6 45 (26843545) ∈ uW := uW_of (by decide +kernel) rfl
set_option maxHeartbeats 4000000 in
set_option maxRecDepth 100000 in
/-- RunSearch.choose -/
theorem k_choose (l : Launch) (z : bZ) (v : bV) (sc : Nat → Int32) (ar : Nat → Nat → Int32) (N : Nat) (A T : Nat → Nat) (hN0 : sc 11 = nI N) (hN : N ≤ 400) (hA : ∀ q, q ≤ N → ar 17 q = nI (A q) ∧ A q ≤ 1073741824) (hT : ∀ q, q ≤ N → ar 18 q = nI (T q) ∧ T q ≤ 1073741824) : Met l yX6_choose (Cond.code yX6_choose cX6_choose 4 (some .int) :: uW) { frames := 0, cells := 0, slots := 0, locals := 0 } (pC z v sc ar [.ref (zad z 4)]) (qI z (fun r u => r = oI ((chF A T (N + 1)).map Prod.fst) ∧ u = (v, chW sc A T (chF A T (N + 1)), ar))) 0 0 (zA z) := by
  refine eM (by decide) (Nat.le_of_ble_eq_true rfl) ?_
  intro pP eE s mM below meth cC ls C hr hlk h hl
  have hx := C.1.1
  have hb := C.1.2.1
  have hl : lv_has ls 4 [(0, .ref (zad z 4))] := hl
  refine lv_iconst (v := (-1)) hx hb dX6_choose_0 (by decide) ?_
  refine lv_istore_n (lv' := [(1, .int ((-1))), (0, .ref (zad z 4))]) hx hb dX6_choose_1 rfl hl (by decide) rfl (fun ls hl => ?_)
  refine lv_iconst (v := nI (0)) hx hb dX6_choose_2 (by decide) ?_
  refine lv_istore_n (lv' := [(2, .int (nI (0))), (1, .int ((-1))), (0, .ref (zad z 4))]) hx hb dX6_choose_3 rfl hl (by decide) rfl (fun ls hl => ?_)
  refine lpW2 (fun (n : Nat) (o : Option (Nat × Nat)) (H : Heap) (locs : List Loc) (ls : Array Slot) => (n ≤ N + 1) ∧ (o = chF A T n) ∧ (∀ x, o = some x → x.1 < 26843545) ∧ hH z v (chW sc A T o) ar s H locs ∧ lv_has ls 4 [(0, .ref (zad z 4)), (1, .int (oI (o.map Prod.fst))), (2, .int (nI (n)))]) (fun (n : Nat) (o : Option (Nat × Nat)) => N + 1 - n) (fun n o ih_4 H locs ls hI => ?_) (0) (none) ⟨Nat.zero_le _, rfl, (fun x e => by cases e), h, lv_sub hl [2, 1, 0] rfl⟩
  obtain ⟨h1, h2, hob, h, hl⟩ := hI
  refine lv_iload_n hx hb dX6_choose_4 rfl (lv_at hl 2 rfl) ?_
  refine lv_aload_n hx hb dX6_choose_5 rfl (lv_at hl 0 rfl) ?_
  refine rg_X6_18 C h dX6_choose_6 ?_
  refine tI (y := nI (N)) ((chW_11 sc A T o).trans hN0) ?_
  refine jN_gt (tgt := 87) (a := n) (b := N) C (by omega) (by omega) dX6_choose_9 (by decide) (fun c_9 => ?_) (fun c_9 => ?_)
  · skip
    have e : n = N + 1 := by omega
    refine lv_iload_n hx hb dX6_choose_87 rfl (lv_at hl 1 rfl) ?_
    exact rI C hr hlk h dX6_choose_88 (Nat.le_of_ble_eq_true rfl) (Nat.le_of_ble_eq_true rfl) (⟨by rw [← e, ← h2], by rw [← e, ← h2]⟩)
  · skip
    have hA1 := hA n (by omega)
    have hT1 := hT n (by omega)
    refine lv_aload_n hx hb dX6_choose_12 rfl (lv_at hl 0 rfl) ?_
    refine rg_X6_9 C h dX6_choose_13 ?_
    refine lv_iload_n hx hb dX6_choose_16 rfl (lv_at hl 2 rfl) ?_
    refine ldA 17 rfl (j := n) (show n < 401 by omega) (by decide) C h dX6_choose_17 ?_
    refine tI (y := nI (A n)) hA1.1 ?_
    refine lv_bipush (v := nI (40)) hx hb dX6_choose_18 (by decide) ?_
    refine lv_idiv hx hb dX6_choose_20 (nI_ne0 (by omega) (by omega)) ?_
    refine tI (pk_div (by omega) (by omega) (by omega)) ?_
    refine lv_aload_n hx hb dX6_choose_21 rfl (lv_at hl 0 rfl) ?_
    refine rg_X6_15 C h dX6_choose_22 ?_
    refine lv_iload_n hx hb dX6_choose_25 rfl (lv_at hl 2 rfl) ?_
    refine ldA 18 rfl (j := n) (show n < 401 by omega) (by decide) C h dX6_choose_26 ?_
    refine tI (y := nI (T n)) hT1.1 ?_
    refine lv_bipush (v := nI (40)) hx hb dX6_choose_27 (by decide) ?_
    refine lv_idiv hx hb dX6_choose_29 (nI_ne0 (by omega) (by omega)) ?_
    refine tI (pk_div (by omega) (by omega) (by omega)) ?_
    refine lv_iadd hx hb dX6_choose_30 ?_
    refine tI (nI_add _ _) ?_
    refine lv_istore_n (lv' := [(3, .int (nI (((A n) / (40)) + ((T n) / (40))))), (0, .ref (zad z 4)), (1, .int (oI (o.map Prod.fst))), (2, .int (nI (n)))]) hx hb dX6_choose_31 rfl hl (by decide) rfl (fun ls hl => ?_)
    refine lv_iload_n hx hb dX6_choose_32 rfl (lv_at hl 0 rfl) ?_
    refine lv_ldc (v := 26843545) hx hb C.1.2.2.2.1 (C.1.2.2.2.2 _ uk_X6_45) dX6_choose_33 ?_
    refine tI (y := nI 26843545) (by decide) ?_
    refine jN_ge (tgt := 81) (a := ((A n) / (40)) + ((T n) / (40))) (b := 26843545) C (by omega) (by omega) dX6_choose_35 (by decide) (fun c_35 => ?_) (fun c_35 => ?_)
    · skip
      refine lv_iinc (v := nI (n + 1)) (lv' := [(2, .int (nI (n + 1))), (3, .int (nI (((A n) / (40)) + ((T n) / (40))))), (0, .ref (zad z 4)), (1, .int (oI (o.map Prod.fst)))]) hx hb dX6_choose_81 hl (k := 3) rfl (nN_inc _) (by decide) rfl (fun ls hl => ?_)
      refine lv_goto (tgt := 4) hx hb dX6_choose_84 (by decide) ?_
      exact ih_4 (n + 1) (o) (by omega) H locs ls ⟨by omega, by unfold chF; rw [if_neg (by omega), ← h2], hob, h, lv_sub hl [2, 3, 0] rfl⟩
    · skip
      refine lv_iload_n hx hb dX6_choose_38 rfl (lv_at hl 2 rfl) ?_
      refine lv_iconst (v := (-1)) hx hb dX6_choose_39 (by decide) ?_
      refine lv_icmp_eq (tgt := 48) hx hb dX6_choose_40 (by decide) (fun c_40 => ?_) (fun c_40 => ?_)
      · skip
        have eo : o = none := by
          rcases o with _ | x
          · rfl
          · exact absurd c_40 (nI_neg1 (by have := hob x rfl; omega))
        refine lv_iload_n hx hb dX6_choose_48 rfl (lv_at hl 0 rfl) ?_
        refine lv_istore_n (lv' := [(1, .int (nI (((A n) / (40)) + ((T n) / (40))))), (3, .int (nI (((A n) / (40)) + ((T n) / (40))))), (0, .ref (zad z 4)), (2, .int (nI (n)))]) hx hb dX6_choose_49 rfl hl (by decide) rfl (fun ls hl => ?_)
        refine lv_aload_n hx hb dX6_choose_50 rfl (lv_at hl 2 rfl) ?_
        refine lv_iload_n hx hb dX6_choose_51 rfl (lv_at hl 3 rfl) ?_
        refine rp_X6_22 C h dX6_choose_52 (fun H locs h => ?_)
        refine lv_aload_n hx hb dX6_choose_55 rfl (lv_at hl 2 rfl) ?_
        refine lv_aload_n hx hb dX6_choose_56 rfl (lv_at hl 2 rfl) ?_
        refine rg_X6_9 C h dX6_choose_57 ?_
        refine lv_iload_n hx hb dX6_choose_60 rfl (lv_at hl 3 rfl) ?_
        refine ldA 17 rfl (j := n) (show n < 401 by omega) (by decide) C h dX6_choose_61 ?_
        refine tI (y := nI (A n)) hA1.1 ?_
        refine lv_bipush (v := nI (40)) hx hb dX6_choose_62 (by decide) ?_
        refine lv_irem hx hb dX6_choose_64 (nI_ne0 (by omega) (by omega)) ?_
        refine tI (pk_rem (by omega) (by omega) (by omega)) ?_
        refine rp_X6_25 C h dX6_choose_65 (fun H locs h => ?_)
        refine lv_aload_n hx hb dX6_choose_68 rfl (lv_at hl 2 rfl) ?_
        refine lv_aload_n hx hb dX6_choose_69 rfl (lv_at hl 2 rfl) ?_
        refine rg_X6_15 C h dX6_choose_70 ?_
        refine lv_iload_n hx hb dX6_choose_73 rfl (lv_at hl 3 rfl) ?_
        refine ldA 18 rfl (j := n) (show n < 401 by omega) (by decide) C h dX6_choose_74 ?_
        refine tI (y := nI (T n)) hT1.1 ?_
        refine lv_bipush (v := nI (40)) hx hb dX6_choose_75 (by decide) ?_
        refine lv_irem hx hb dX6_choose_77 (nI_ne0 (by omega) (by omega)) ?_
        refine tI (pk_rem (by omega) (by omega) (by omega)) ?_
        refine rp_X6_28 C h dX6_choose_78 (fun H locs h => ?_)
        refine lv_iinc (v := nI (n + 1)) (lv' := [(2, .int (nI (n + 1))), (1, .int (nI (((A n) / (40)) + ((T n) / (40))))), (3, .int (nI (((A n) / (40)) + ((T n) / (40))))), (0, .ref (zad z 4))]) hx hb dX6_choose_81 hl (k := 3) rfl (nN_inc _) (by decide) rfl (fun ls hl => ?_)
        refine lv_goto (tgt := 4) hx hb dX6_choose_84 (by decide) ?_
        exact ih_4 (n + 1) (some (A n / 40 + T n / 40, n)) (by omega) H locs ls ⟨by omega, by unfold chF; rw [if_pos c_35, ← h2, eo], (fun x e => by cases e; exact c_35), (by rw [chW_up] at h; exact h), lv_sub hl [3, 1, 0] rfl⟩
      · skip
        obtain ⟨x, eo⟩ : ∃ x, o = some x := by
          rcases o with _ | x
          · exact absurd rfl c_40
          · exact ⟨x, rfl⟩
        have hx1 := hob x eo
        have hl : lv_has ls 4 [(3, .int (nI (((A n) / (40)) + ((T n) / (40))))), (0, .ref (zad z 4)), (1, .int (nI (x.1))), (2, .int (nI (n)))] := by rw [eo] at hl; exact hl
        refine lv_iload_n hx hb dX6_choose_43 rfl (lv_at hl 0 rfl) ?_
        refine lv_iload_n hx hb dX6_choose_44 rfl (lv_at hl 2 rfl) ?_
        refine jN_ge (tgt := 81) (a := ((A n) / (40)) + ((T n) / (40))) (b := x.1) C (by omega) (by omega) dX6_choose_45 (by decide) (fun c_45 => ?_) (fun c_45 => ?_)
        · skip
          refine lv_iinc (v := nI (n + 1)) (lv' := [(2, .int (nI (n + 1))), (3, .int (nI (((A n) / (40)) + ((T n) / (40))))), (0, .ref (zad z 4)), (1, .int (nI (x.1)))]) hx hb dX6_choose_81 hl (k := 3) rfl (nN_inc _) (by decide) rfl (fun ls hl => ?_)
          refine lv_goto (tgt := 4) hx hb dX6_choose_84 (by decide) ?_
          exact ih_4 (n + 1) (some x) (by omega) H locs ls ⟨by omega, by unfold chF; rw [if_pos c_35, ← h2, eo]; show some x = if A n / 40 + T n / 40 < x.1 then _ else some x; rw [if_neg (by omega)], fun y e => hob y (eo.trans e), (by rw [eo] at h; exact h), lv_sub hl [2, 3, 0] rfl⟩
        · skip
          refine lv_iload_n hx hb dX6_choose_48 rfl (lv_at hl 0 rfl) ?_
          refine lv_istore_n (lv' := [(1, .int (nI (((A n) / (40)) + ((T n) / (40))))), (3, .int (nI (((A n) / (40)) + ((T n) / (40))))), (0, .ref (zad z 4)), (2, .int (nI (n)))]) hx hb dX6_choose_49 rfl hl (by decide) rfl (fun ls hl => ?_)
          refine lv_aload_n hx hb dX6_choose_50 rfl (lv_at hl 2 rfl) ?_
          refine lv_iload_n hx hb dX6_choose_51 rfl (lv_at hl 3 rfl) ?_
          refine rp_X6_22 C h dX6_choose_52 (fun H locs h => ?_)
          refine lv_aload_n hx hb dX6_choose_55 rfl (lv_at hl 2 rfl) ?_
          refine lv_aload_n hx hb dX6_choose_56 rfl (lv_at hl 2 rfl) ?_
          refine rg_X6_9 C h dX6_choose_57 ?_
          refine lv_iload_n hx hb dX6_choose_60 rfl (lv_at hl 3 rfl) ?_
          refine ldA 17 rfl (j := n) (show n < 401 by omega) (by decide) C h dX6_choose_61 ?_
          refine tI (y := nI (A n)) hA1.1 ?_
          refine lv_bipush (v := nI (40)) hx hb dX6_choose_62 (by decide) ?_
          refine lv_irem hx hb dX6_choose_64 (nI_ne0 (by omega) (by omega)) ?_
          refine tI (pk_rem (by omega) (by omega) (by omega)) ?_
          refine rp_X6_25 C h dX6_choose_65 (fun H locs h => ?_)
          refine lv_aload_n hx hb dX6_choose_68 rfl (lv_at hl 2 rfl) ?_
          refine lv_aload_n hx hb dX6_choose_69 rfl (lv_at hl 2 rfl) ?_
          refine rg_X6_15 C h dX6_choose_70 ?_
          refine lv_iload_n hx hb dX6_choose_73 rfl (lv_at hl 3 rfl) ?_
          refine ldA 18 rfl (j := n) (show n < 401 by omega) (by decide) C h dX6_choose_74 ?_
          refine tI (y := nI (T n)) hT1.1 ?_
          refine lv_bipush (v := nI (40)) hx hb dX6_choose_75 (by decide) ?_
          refine lv_irem hx hb dX6_choose_77 (nI_ne0 (by omega) (by omega)) ?_
          refine tI (pk_rem (by omega) (by omega) (by omega)) ?_
          refine rp_X6_28 C h dX6_choose_78 (fun H locs h => ?_)
          refine lv_iinc (v := nI (n + 1)) (lv' := [(2, .int (nI (n + 1))), (1, .int (nI (((A n) / (40)) + ((T n) / (40))))), (3, .int (nI (((A n) / (40)) + ((T n) / (40))))), (0, .ref (zad z 4))]) hx hb dX6_choose_81 hl (k := 3) rfl (nN_inc _) (by decide) rfl (fun ls hl => ?_)
          refine lv_goto (tgt := 4) hx hb dX6_choose_84 (by decide) ?_
          exact ih_4 (n + 1) (some (A n / 40 + T n / 40, n)) (by omega) H locs ls ⟨by omega, by unfold chF; rw [if_pos c_35, ← h2, eo]; exact (if_pos c_45).symm, (fun x e => by cases e; exact c_35), (by rw [chW_up] at h; exact h), lv_sub hl [3, 1, 0] rfl⟩
