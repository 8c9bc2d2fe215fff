/-- byte j of the tape as a number -/
def bN (f : Nat → Int32) (j : Nat) : Nat := (f j).toBitVec.toNat % 256
theorem bN_lt (f : Nat → Int32) (j : Nat) : bN f j < 256 := Nat.mod_lt _ (by decide)
theorem bN_eq (f : Nat → Int32) (j : Nat) : f j &&& 255 = nI (bN f j) := pk_and (f j) 8 (by decide)
theorem nI_neg1 {c : Nat} (h : c < 2 ^ 31) : ¬ nI c = -1 := by
  intro q
  have h1 := congrArg Int32.toInt q
  rw [nI_toInt h] at h1
  have : (-1 : Int32).toInt = -1 := by decide
  omega
/-- a code read from place p of n bytes: the code, and where reading goes on -/
def rdc : Nat → Nat → (Nat → Nat) → Nat → Nat → Option (Nat × Nat)
  | 0, _, _, _, p => some (0, p)
  | k + 1, h, t, n, p => if p < n then (if t p < 256 - h then some (t p, p + 1) else (rdc k h t n (p + 1)).map (fun q => (t p + h * q.1, q.2))) else none
theorem rdc_lo {k h n p : Nat} {t : Nat → Nat} (hk : 0 < k) (hp : p < n) (ht : t p < 256 - h) : rdc k h t n p = some (t p, p + 1) := by
  obtain ⟨j, rfl⟩ : ∃ j, k = j + 1 := ⟨k - 1, by omega⟩
  unfold rdc
  rw [if_pos hp, if_pos ht]
theorem rdc_hi {k h n p : Nat} {t : Nat → Nat} (hk : 0 < k) (hp : p < n) (ht : 256 - h ≤ t p) : rdc k h t n p = (rdc (k - 1) h t n (p + 1)).map (fun q => (t p + h * q.1, q.2)) := by
  obtain ⟨j, rfl⟩ : ∃ j, k = j + 1 := ⟨k - 1, by omega⟩
  conv => lhs; unfold rdc
  rw [if_pos hp, if_neg (by omega)]
  rfl
theorem rdc_end {k h n p : Nat} {t : Nat → Nat} (hk : 0 < k) (hp : n ≤ p) : rdc k h t n p = none := by
  obtain ⟨j, rfl⟩ : ∃ j, k = j + 1 := ⟨k - 1, by omega⟩
  unfold rdc
  rw [if_neg (by omega)]
theorem rdc_bd {h n : Nat} {t : Nat → Nat} (hh : h ≤ 256) (ht : ∀ j, t j < 256) : ∀ (k p : Nat) (x : Nat × Nat), rdc k h t n p = some x → x.1 < 256 ^ k ∧ p ≤ x.2 ∧ (p ≤ n → x.2 ≤ n) ∧ (0 < k → p < x.2)
  | 0, p, x, e => by
    unfold rdc at e
    cases e
    exact ⟨by simp, Nat.le_refl _, fun q => q, fun q => absurd q (by decide)⟩
  | k + 1, p, x, e => by
    unfold rdc at e
    split at e
    · rename_i hp
      split at e
      · cases e
        refine ⟨?_, by simp, fun _ => hp, fun _ => by simp⟩
        have h1 := ht p
        have h2 : 1 ≤ 256 ^ k := Nat.one_le_pow _ _ (by decide)
        rw [Nat.pow_succ]
        simp only
        omega
      · cases hr : rdc k h t n (p + 1) with
        | none => rw [hr] at e; cases e
        | some y =>
          rw [hr] at e
          cases e
          obtain ⟨a1, a2, a3, a4⟩ := rdc_bd hh ht k (p + 1) y hr
          refine ⟨?_, by simp; omega, fun _ => a3 (by omega), fun _ => by simp; omega⟩
          have h1 := ht p
          rw [Nat.pow_succ]
          simp only
          have h3 : h * y.1 ≤ 256 * y.1 := Nat.mul_le_mul_right _ hh
          omega
    · cases e
def lenI (o : Option (List Nat)) : Int32 := match o with
  | some bs => nI bs.length
  | none => -1
theorem gv_X1_67 : GoodIn uW (wsV RX1 67 RX7 yX7_next (Cond.code yX7_next cX7_next 2 (some .int) :: uW)) := gI_V (uW_of (by decide +kernel) rfl) (uW_of (by decide +kernel) rfl) (uW_of (by decide +kernel) rfl) (uW_of (by decide +kernel) rfl) (uW_of (by decide +kernel) rfl)
theorem gv_X1_67_n : okN yX7_next 0 := by decide +kernel
set_option maxHeartbeats 4000000 in
set_option maxRecDepth 100000 in
/-- Coding.readCode -/
theorem k_readCode (l : Launch) (z : bZ) (v : bV) (sc : Nat → Int32) (ar : Nat → Nat → Int32) (a cb ch cs cd n cu : Nat) (hw : cdW v a cb ch cs cd) (hn : sc 3 = nI n) (hn8 : n ≤ 8000) (hc : sc 6 = nI cu) (hcu : cu ≤ n) : Met l yX1_readCode (Cond.code yX1_readCode cX1_readCode 8 (some .long) :: uW) { frames := 2, cells := 0, slots := 0, locals := 42 } (pC z v sc ar [.ref (a), .ref (zad z 2)]) (qL z (fun r u => (∀ c q, rdc cb ch (bN (ar 11)) n cu = some (c, q) → r = lN c ∧ u = (v, va_up sc 6 (nI q), ar)) ∧ (rdc cb ch (bN (ar 11)) n cu = none → r = -1 ∧ ∃ x, u = (v, va_up sc 6 x, ar)))) 0 0 (zA z) := by
  refine eM (by decide) (Nat.le_of_ble_eq_true rfl) ?_
  intro pP eE s mM below meth cC ls C hr hlk h hl
  have hx := C.1.1
  have hb := C.1.2.1
  have hl : lv_has ls 8 [(0, .ref (a)), (1, .ref (zad z 2))] := hl
  obtain ⟨-, -, ⟨hB1, hB5⟩, ⟨hH1, hH2⟩, hS, hD⟩ := id hw
  refine lv_lconst (v := lN 0) hx hb dX1_readCode_0 (by decide) ?_
  refine lv_lstore_n (lv' := [(2, .long (lN (0))), (0, .ref (a)), (1, .ref (zad z 2))]) hx hb dX1_readCode_1 rfl hl (by decide) rfl (fun ls hl => ?_)
  refine lv_lconst (v := lN 1) hx hb dX1_readCode_2 (by decide) ?_
  refine lv_lstore (lv' := [(4, .long (lN (1))), (2, .long (lN (0))), (0, .ref (a)), (1, .ref (zad z 2))]) hx hb dX1_readCode_3 hl (by decide) rfl (fun ls hl => ?_)
  refine lv_iconst (v := nI (0)) hx hb dX1_readCode_5 (by decide) ?_
  refine lv_istore (lv' := [(6, .int (nI (0))), (4, .long (lN (1))), (2, .long (lN (0))), (0, .ref (a)), (1, .ref (zad z 2))]) hx hb dX1_readCode_6 hl (by decide) rfl (fun ls hl => ?_)
  refine lpW4 (fun (i : Nat) (acc : Nat) (wt : Nat) (p : Nat) (H : Heap) (locs : List Loc) (ls : Array Slot) => (i ≤ cb) ∧ (p ≤ n) ∧ (rdc cb ch (bN (ar 11)) n cu = (rdc (cb - i) ch (bN (ar 11)) n p).map (fun q => (acc + wt * q.1, q.2))) ∧ hH z v (va_up sc 6 (nI (p))) ar s H locs ∧ lv_has ls 8 [(0, .ref (a)), (1, .ref (zad z 2)), (2, .long (lN (acc))), (4, .long (lN (wt))), (6, .int (nI (i)))]) (fun (i : Nat) (acc : Nat) (wt : Nat) (p : Nat) => cb - i) (fun i acc wt p ih_8 H locs ls hI => ?_) (0) (0) (1) (cu) ⟨Nat.zero_le _, hcu, by simp, (by rw [va_ue hc]; exact h), lv_sub hl [3, 4, 2, 1, 0] rfl⟩
  obtain ⟨h1, h2, h3, h, hl⟩ := hI
  refine lv_iload hx hb dX1_readCode_8 (lv_at hl 4 rfl) ?_
  refine lv_aload_n hx hb dX1_readCode_10 rfl (lv_at hl 0 rfl) ?_
  refine rw_X1_9 C h hw dX1_readCode_11 ?_
  refine jN_ge (tgt := 69) (a := i) (b := cb) C (by omega) (by omega) dX1_readCode_14 (by decide) (fun c_14 => ?_) (fun c_14 => ?_)
  · skip
    refine lv_lload_n hx hb dX1_readCode_69 rfl (lv_at hl 2 rfl) ?_
    exact rL C hr hlk h dX1_readCode_70 (Nat.le_of_ble_eq_true rfl) (Nat.le_of_ble_eq_true rfl) (have e : rdc cb ch (bN (ar 11)) n cu = some (acc, p) := by rw [h3, show cb - i = 0 by omega]; rfl
      ⟨fun c q hq => by rw [e] at hq; cases hq; exact ⟨rfl, rfl⟩, fun hq => by rw [e] at hq; cases hq⟩)
  · skip
    refine lv_aload_n hx hb dX1_readCode_17 rfl (lv_at hl 1 rfl) ?_
    refine backI h (runV (As := []) (rest := []) C h (k_next l z v (va_up sc 6 (nI (p))) ar n p hn hn8 rfl h2) gv_X1_67 gv_X1_67_n ⟨rfl, rfl⟩ (r_Tape C h) rfl hl.1 rfl (Nat.le_of_ble_eq_true rfl) dX1_readCode_18 ⟨Nat.le_of_ble_eq_true rfl, Nat.le_of_ble_eq_true rfl⟩ ⟨Nat.le_of_ble_eq_true rfl, Nat.le_of_ble_eq_true rfl⟩) (fun r_18 v_18 sc_18 ar_18 H locs p_18 h => ?_)
    rcases Nat.lt_or_ge p n with hp | hp
    · skip
      obtain ⟨e1, e2⟩ := p_18.1 hp
      have h : hH z v (va_up sc 6 (nI (p + 1))) ar s H locs := by rw [← va_uu sc 6 (nI p)]; exact uEq e2 h
      have hb9 := bN_lt (ar 11) p
      refine tI (y := nI (bN (ar 11) p)) (e1.trans (bN_eq _ _)) ?_
      refine lv_istore (lv' := [(7, .int (nI (bN (ar 11) p))), (0, .ref (a)), (1, .ref (zad z 2)), (2, .long (lN (acc))), (4, .long (lN (wt))), (6, .int (nI (i)))]) hx hb dX1_readCode_21 hl (by decide) rfl (fun ls hl => ?_)
      refine lv_iload hx hb dX1_readCode_23 (lv_at hl 0 rfl) ?_
      refine lv_iconst (v := (-1)) hx hb dX1_readCode_25 (by decide) ?_
      refine lv_icmp_ne (tgt := 33) hx hb dX1_readCode_26 (by decide) (fun c_26 => ?_) (fun c_26 => ?_)
      · skip
        refine lv_lload_n hx hb dX1_readCode_33 rfl (lv_at hl 3 rfl) ?_
        refine lv_iload hx hb dX1_readCode_34 (lv_at hl 0 rfl) ?_
        refine lv_i2l (v := lN (bN (ar 11) p)) hx hb dX1_readCode_36 (nI_l (by omega)) ?_
        refine lv_lload hx hb dX1_readCode_37 (lv_at hl 4 rfl) ?_
        refine lv_lmul hx hb dX1_readCode_39 ?_
        refine tL (lN_mul _ _) ?_
        refine lv_ladd hx hb dX1_readCode_40 ?_
        refine tL (lN_add _ _) ?_
        refine lv_lstore_n (lv' := [(2, .long (lN ((acc) + ((bN (ar 11) p) * (wt))))), (7, .int (nI (bN (ar 11) p))), (0, .ref (a)), (1, .ref (zad z 2)), (4, .long (lN (wt))), (6, .int (nI (i)))]) hx hb dX1_readCode_41 rfl hl (by decide) rfl (fun ls hl => ?_)
        refine lv_iload hx hb dX1_readCode_42 (lv_at hl 1 rfl) ?_
        refine lv_aload_n hx hb dX1_readCode_44 rfl (lv_at hl 2 rfl) ?_
        refine rw_X1_24 C h hw dX1_readCode_45 ?_
        refine jN_ge (tgt := 53) (a := bN (ar 11) p) (b := 256 - ch) C (by omega) (by omega) dX1_readCode_48 (by decide) (fun c_48 => ?_) (fun c_48 => ?_)
        · skip
          refine lv_lload hx hb dX1_readCode_53 (lv_at hl 4 rfl) ?_
          refine lv_aload_n hx hb dX1_readCode_55 rfl (lv_at hl 2 rfl) ?_
          refine rw_X1_15 C h hw dX1_readCode_56 ?_
          refine lv_i2l (v := lN (ch)) hx hb dX1_readCode_59 (nI_l (by omega)) ?_
          refine lv_lmul hx hb dX1_readCode_60 ?_
          refine tL (lN_mul _ _) ?_
          refine lv_lstore (lv' := [(4, .long (lN ((wt) * (ch)))), (2, .long (lN ((acc) + ((bN (ar 11) p) * (wt))))), (7, .int (nI (bN (ar 11) p))), (0, .ref (a)), (1, .ref (zad z 2)), (6, .int (nI (i)))]) hx hb dX1_readCode_61 hl (by decide) rfl (fun ls hl => ?_)
          refine lv_iinc (v := nI (i + 1)) (lv' := [(6, .int (nI (i + 1))), (4, .long (lN ((wt) * (ch)))), (2, .long (lN ((acc) + ((bN (ar 11) p) * (wt))))), (7, .int (nI (bN (ar 11) p))), (0, .ref (a)), (1, .ref (zad z 2))]) hx hb dX1_readCode_63 hl (k := 5) rfl (nN_inc _) (by decide) rfl (fun ls hl => ?_)
          refine lv_goto (tgt := 8) hx hb dX1_readCode_66 (by decide) ?_
          exact ih_8 (i + 1) (acc + bN (ar 11) p * wt) (wt * ch) (p + 1) (by omega) H locs ls ⟨by omega, by omega, by rw [h3, rdc_hi (by omega) hp c_48, Option.map_map, show cb - i - 1 = cb - (i + 1) by omega]; congr 1; funext q; simp only [Function.comp, Nat.mul_add, Nat.mul_comm, Nat.mul_left_comm, Nat.add_assoc], h, lv_sub hl [4, 5, 2, 1, 0] rfl⟩
        · skip
          refine lv_lload_n hx hb dX1_readCode_51 rfl (lv_at hl 0 rfl) ?_
          exact rL C hr hlk h dX1_readCode_52 (Nat.le_of_ble_eq_true rfl) (Nat.le_of_ble_eq_true rfl) (have e : rdc cb ch (bN (ar 11)) n cu = some (acc + bN (ar 11) p * wt, p + 1) := by rw [h3, rdc_lo (by omega) hp c_48]; simp [Nat.mul_comm]
            ⟨fun c q hq => by rw [e] at hq; cases hq; exact ⟨rfl, rfl⟩, fun hq => by rw [e] at hq; cases hq⟩)
      · skip
        exact absurd c_26 (nI_neg1 (by omega))
    · skip
      obtain ⟨e1, e2⟩ := p_18.2 hp
      have h : hH z v (va_up sc 6 (nI p)) ar s H locs := uEq e2 h
      refine tI (y := (-1)) e1 ?_
      refine lv_istore (lv' := [(7, .int ((-1))), (0, .ref (a)), (1, .ref (zad z 2)), (2, .long (lN (acc))), (4, .long (lN (wt))), (6, .int (nI (i)))]) hx hb dX1_readCode_21 hl (by decide) rfl (fun ls hl => ?_)
      refine lv_iload hx hb dX1_readCode_23 (lv_at hl 0 rfl) ?_
      refine lv_iconst (v := (-1)) hx hb dX1_readCode_25 (by decide) ?_
      refine lv_icmp_ne (tgt := 33) hx hb dX1_readCode_26 (by decide) (fun c_26 => ?_) (fun c_26 => ?_)
      · skip
        exact absurd rfl c_26
      · skip
        refine lv_ldc2 (v := -1) hx hb C.1.2.2.2.1 (C.1.2.2.2.2 _ uk_X1_50) dX1_readCode_29 ?_
        exact rL C hr hlk h dX1_readCode_32 (Nat.le_of_ble_eq_true rfl) (Nat.le_of_ble_eq_true rfl) (have e : rdc cb ch (bN (ar 11)) n cu = none := by rw [h3, rdc_end (by omega) hp]; rfl
          ⟨fun c q hq => (by rw [e] at hq; cases hq), fun _ => ⟨rfl, _, rfl⟩⟩)
def lenJ (j : Nat) (q : Option (List Nat)) : Int32 := match q with
  | some t => nI (j + t.length)
  | none => -1
theorem lenI_of {o q : Option (List Nat)} {j : Nat} (h : o.map List.length = q.map (fun t => j + t.length)) : lenI o = lenJ j q := by
  cases o <;> cases q <;> simp at h <;> simp [lenI, lenJ, h]
theorem gv_X1_27 : GoodIn uW (wsV RX1 27 RX1 yX1_codeOf (Cond.code yX1_codeOf cX1_codeOf 7 (some .long) :: uW)) := gI_V (uW_of (by decide +kernel) rfl) (uW_of (by decide +kernel) rfl) (uW_of (by decide +kernel) rfl) (uW_of (by decide +kernel) rfl) (uW_of (by decide +kernel) rfl)
theorem gv_X1_27_n : okN yX1_codeOf 2 := by decide +kernel
set_option maxHeartbeats 4000000 in
set_option maxRecDepth 100000 in
/-- Coding.bytesOf -/
theorem k_bytesOf (l : Launch) (z : bZ) (v : bV) (sc : Nat → Int32) (ar : Nat → Nat → Int32) (a cb ch cs cd : Nat) (x y : Int32) (hw : cdW v a cb ch cs cd) : Met l yX1_bytesOf (Cond.code yX1_bytesOf cX1_bytesOf 6 (some .int) :: uW) { frames := 1, cells := 0, slots := 0, locals := 26 } (pC z v sc ar [.ref (a), .int (x), .int (y)]) (qI z (fun r u => r = lenI ((cdO cs (toldI cd x y)).bind (enc cb ch)) ∧ u = (v, sc, ar))) 0 0 (zA z) := by
  refine eM (by decide) (Nat.le_of_ble_eq_true rfl) ?_
  intro pP eE s mM below meth cC ls C hr hlk h hl
  have hx := C.1.1
  have hb := C.1.2.1
  have hl : lv_has ls 6 [(0, .ref (a)), (1, .int (x)), (2, .int (y))] := hl
  obtain ⟨-, -, ⟨hB1, hB5⟩, ⟨hH1, hH2⟩, hS, hD⟩ := id hw
  refine lv_aload_n hx hb dX1_bytesOf_0 rfl (lv_at hl 0 rfl) ?_
  refine lv_iload_n hx hb dX1_bytesOf_1 rfl (lv_at hl 1 rfl) ?_
  refine lv_iload_n hx hb dX1_bytesOf_2 rfl (lv_at hl 2 rfl) ?_
  refine backL h (runV (As := [.int (x), .int (y)]) (rest := []) C h (k_codeOf l z v sc ar a cb ch cs cd x y hw) gv_X1_27 gv_X1_27_n ⟨rfl, rfl⟩ (r_Cod C h hw) rfl hl.1 rfl (Nat.le_of_ble_eq_true rfl) dX1_bytesOf_3 ⟨Nat.le_of_ble_eq_true rfl, Nat.le_of_ble_eq_true rfl⟩ ⟨Nat.le_of_ble_eq_true rfl, Nat.le_of_ble_eq_true rfl⟩) (fun r_3 v_3 sc_3 ar_3 H locs p_3 h => ?_)
  have h : hH z v sc ar s H locs := uEq p_3.2 h
  rcases ho : cdO cs (toldI cd x y) with _ | k
  · skip
    refine tL (y := (-1 : Int64)) (by rw [p_3.1, ho]; rfl) ?_
    refine lv_lstore_n (lv' := [(3, .long ((-1 : Int64))), (0, .ref (a)), (1, .int (x)), (2, .int (y))]) hx hb dX1_bytesOf_6 rfl hl (by decide) rfl (fun ls hl => ?_)
    refine lv_lload_n hx hb dX1_bytesOf_7 rfl (lv_at hl 0 rfl) ?_
    refine lv_ldc2 (v := -1) hx hb C.1.2.2.2.1 (C.1.2.2.2.2 _ uk_X1_50) dX1_bytesOf_8 ?_
    refine W.lcmp hx hb dX1_bytesOf_11 ?_
    refine lv_if_ne (tgt := 17) hx hb dX1_bytesOf_12 (by decide) (fun c_12 => ?_) (fun c_12 => ?_)
    · skip
      have c_12 : ¬ ((-1 : Int64)) = ((-1 : Int64)) := fun q => c_12 ((lg_cmp_eq _ _).mpr q)
      exact absurd rfl c_12
    · skip
      have c_12 := (lg_cmp_eq _ _).mp c_12
      refine lv_iconst (v := (-1)) hx hb dX1_bytesOf_15 (by decide) ?_
      exact rI C hr hlk h dX1_bytesOf_16 (Nat.le_of_ble_eq_true rfl) (Nat.le_of_ble_eq_true rfl) (⟨rfl, rfl⟩)
  · skip
    have hk := cdO_lt hS ho
    refine tL (y := lN k) (by rw [p_3.1, ho]; rfl) ?_
    refine lv_lstore_n (lv' := [(3, .long (lN (k))), (0, .ref (a)), (1, .int (x)), (2, .int (y))]) hx hb dX1_bytesOf_6 rfl hl (by decide) rfl (fun ls hl => ?_)
    refine lv_lload_n hx hb dX1_bytesOf_7 rfl (lv_at hl 0 rfl) ?_
    refine lv_ldc2 (v := -1) hx hb C.1.2.2.2.1 (C.1.2.2.2.2 _ uk_X1_50) dX1_bytesOf_8 ?_
    refine W.lcmp hx hb dX1_bytesOf_11 ?_
    refine lv_if_ne (tgt := 17) hx hb dX1_bytesOf_12 (by decide) (fun c_12 => ?_) (fun c_12 => ?_)
    · skip
      have c_12 : ¬ (lN (k)) = ((-1 : Int64)) := fun q => c_12 ((lg_cmp_eq _ _).mpr q)
      refine lv_iconst (v := nI (1)) hx hb dX1_bytesOf_17 (by decide) ?_
      refine lv_istore (lv' := [(5, .int (nI (1))), (3, .long (lN (k))), (0, .ref (a)), (1, .int (x)), (2, .int (y))]) hx hb dX1_bytesOf_18 hl (by decide) rfl (fun ls hl => ?_)
      refine lpW2 (fun (i : Nat) (kk : Nat) (H : Heap) (locs : List Loc) (ls : Array Slot) => (1 ≤ i ∧ i ≤ cb) ∧ (kk < 4294967296) ∧ ((enc cb ch k).map List.length = (enc (cb + 1 - i) ch kk).map (fun t => i - 1 + t.length)) ∧ hH z v sc ar s H locs ∧ lv_has ls 6 [(0, .ref (a)), (3, .long (lN (kk))), (5, .int (nI (i)))]) (fun (i : Nat) (kk : Nat) => cb - i) (fun i kk ih_20 H locs ls hI => ?_) (1) (k) ⟨⟨by omega, by omega⟩, hk, by simp, h, lv_sub hl [2, 1, 0] rfl⟩
      obtain ⟨h1, h2, h3, h, hl⟩ := hI
      refine lv_iload hx hb dX1_bytesOf_20 (lv_at hl 2 rfl) ?_
      refine lv_aload_n hx hb dX1_bytesOf_22 rfl (lv_at hl 0 rfl) ?_
      refine rw_X1_9 C h hw dX1_bytesOf_23 ?_
      refine jN_ge (tgt := 62) (a := i) (b := cb) C (by omega) (by omega) dX1_bytesOf_26 (by decide) (fun c_26 => ?_) (fun c_26 => ?_)
      · skip
        refine lv_lload_n hx hb dX1_bytesOf_62 rfl (lv_at hl 1 rfl) ?_
        refine lv_ldc2 (v := 256) hx hb C.1.2.2.2.1 (C.1.2.2.2.2 _ uk_X1_62) dX1_bytesOf_63 ?_
        refine tL (y := lN 256) (by decide) ?_
        refine W.lcmp hx hb dX1_bytesOf_66 ?_
        refine lv_if_ge (tgt := 77) hx hb dX1_bytesOf_67 (by decide) (fun c_67 => ?_) (fun c_67 => ?_)
        · skip
          have c_67 : (256) ≤ (kk) := (pk_lLE (by omega) (by omega)).mp ((lg_cmp_ge _ _).mp c_67)
          refine lv_iconst (v := (-1)) hx hb dX1_bytesOf_77 (by decide) ?_
          exact rI C hr hlk h dX1_bytesOf_78 (Nat.le_of_ble_eq_true rfl) (Nat.le_of_ble_eq_true rfl) (⟨by show _ = lenI (enc cb ch k); rw [lenI_of h3, show cb + 1 - i = 1 by omega, enc_one, if_neg (by omega)]; rfl, rfl⟩)
        · skip
          have c_67 : (kk) < (256) := Nat.not_le.mp (fun q => c_67 ((lg_cmp_ge _ _).mpr ((pk_lLE (by omega) (by omega)).mpr q)))
          refine lv_aload_n hx hb dX1_bytesOf_70 rfl (lv_at hl 0 rfl) ?_
          refine rw_X1_9 C h hw dX1_bytesOf_71 ?_
          refine lv_goto (tgt := 78) hx hb dX1_bytesOf_74 (by decide) ?_
          exact rI C hr hlk h dX1_bytesOf_78 (Nat.le_of_ble_eq_true rfl) (Nat.le_of_ble_eq_true rfl) (⟨by show _ = lenI (enc cb ch k); rw [lenI_of h3, show cb + 1 - i = 1 by omega, enc_one, if_pos c_67]; show nI cb = nI (i - 1 + 1); congr 1; omega, rfl⟩)
      · skip
        refine lv_lload_n hx hb dX1_bytesOf_29 rfl (lv_at hl 1 rfl) ?_
        refine lv_aload_n hx hb dX1_bytesOf_30 rfl (lv_at hl 0 rfl) ?_
        refine rw_X1_24 C h hw dX1_bytesOf_31 ?_
        refine lv_i2l (v := lN (256 - ch)) hx hb dX1_bytesOf_34 (nI_l (by omega)) ?_
        refine W.lcmp hx hb dX1_bytesOf_35 ?_
        refine lv_if_ge (tgt := 42) hx hb dX1_bytesOf_36 (by decide) (fun c_36 => ?_) (fun c_36 => ?_)
        · skip
          have c_36 : (256 - ch) ≤ (kk) := (pk_lLE (by omega) (by omega)).mp ((lg_cmp_ge _ _).mp c_36)
          refine lv_lload_n hx hb dX1_bytesOf_42 rfl (lv_at hl 1 rfl) ?_
          refine lv_aload_n hx hb dX1_bytesOf_43 rfl (lv_at hl 0 rfl) ?_
          refine rw_X1_24 C h hw dX1_bytesOf_44 ?_
          refine lv_i2l (v := lN (256 - ch)) hx hb dX1_bytesOf_47 (nI_l (by omega)) ?_
          refine lv_lsub hx hb dX1_bytesOf_48 ?_
          refine tL (lN_sub (by omega)) ?_
          refine lv_aload_n hx hb dX1_bytesOf_49 rfl (lv_at hl 0 rfl) ?_
          refine rw_X1_15 C h hw dX1_bytesOf_50 ?_
          refine lv_i2l (v := lN (ch)) hx hb dX1_bytesOf_53 (nI_l (by omega)) ?_
          refine lv_ldiv hx hb dX1_bytesOf_54 (lN_ne0 (by omega) (by omega)) ?_
          refine tL (pk_lDiv (by omega) (by omega) (by omega)) ?_
          refine lv_lstore_n (lv' := [(3, .long (lN (((kk) - (256 - ch)) / (ch)))), (0, .ref (a)), (5, .int (nI (i)))]) hx hb dX1_bytesOf_55 rfl hl (by decide) rfl (fun ls hl => ?_)
          refine lv_iinc (v := nI (i + 1)) (lv' := [(5, .int (nI (i + 1))), (3, .long (lN (((kk) - (256 - ch)) / (ch)))), (0, .ref (a))]) hx hb dX1_bytesOf_56 hl (k := 2) rfl (nN_inc _) (by decide) rfl (fun ls hl => ?_)
          refine lv_goto (tgt := 20) hx hb dX1_bytesOf_59 (by decide) ?_
          exact ih_20 (i + 1) ((kk - (256 - ch)) / ch) (by omega) H locs ls ⟨⟨by omega, by omega⟩, Nat.lt_of_le_of_lt (Nat.div_le_self _ _) (by omega), by rw [h3, enc_step (by omega) c_36, Option.map_map, show cb + 1 - i - 1 = cb + 1 - (i + 1) by omega]; congr 1; funext t; simp only [Function.comp, List.length_cons]; omega, h, lv_sub hl [2, 1, 0] rfl⟩
        · skip
          have c_36 : (kk) < (256 - ch) := Nat.not_le.mp (fun q => c_36 ((lg_cmp_ge _ _).mpr ((pk_lLE (by omega) (by omega)).mpr q)))
          refine lv_iload hx hb dX1_bytesOf_39 (lv_at hl 2 rfl) ?_
          exact rI C hr hlk h dX1_bytesOf_41 (Nat.le_of_ble_eq_true rfl) (Nat.le_of_ble_eq_true rfl) (⟨by show _ = lenI (enc cb ch k); rw [lenI_of h3, enc_last (by omega) c_36]; show nI i = nI (i - 1 + 1); congr 1; omega, rfl⟩)
    · skip
      have c_12 := (lg_cmp_eq _ _).mp c_12
      exact absurd c_12 (lN_neg1 (by omega))
/-- count numbers of a row from a place on -/
def rowL (f : Nat → Int32) : Nat → Nat → List Int32
  | _, 0 => []
  | i, k + 1 => f i :: rowL f (i + 1) k
theorem rowL_len (f : Nat → Int32) : ∀ (k i : Nat), (rowL f i k).length = k
  | 0, _ => rfl
  | k + 1, i => by unfold rowL; rw [List.length_cons, rowL_len f k (i + 1)]
theorem rowL_step {f : Nat → Int32} {i k : Nat} (h : 0 < k) : rowL f i k = f i :: rowL f (i + 1) (k - 1) := by
  obtain ⟨j, rfl⟩ : ∃ j, k = j + 1 := ⟨k - 1, by omega⟩
  rfl
/-- how a coding writes a row -/
def wrC (cb ch cs cd : Nat) : Int32 → List Int32 → Option (List Nat)
  | _, [] => some []
  | b, x :: xs => ((cdO cs (toldI cd x b)).bind (enc cb ch)).bind (fun t => (wrC cb ch cs cd x xs).map (fun r => t ++ r))
theorem wr_cat {z : bZ} {v v' : bV} {sc sc' : Nat → Int32} {ar ar' : Nat → Nat → Int32} {s : State} {H : Heap} {locs : List Loc} {n d : Nat} {done bs : List Nat} (h : hH z v' sc' ar' s H locs)
    (e : ((v', sc', ar') : bS) = (v, va_up (va_up sc 5 (nI (d + done.length))) 5 (nI (d + done.length + bs.length)), va_up (va_up ar 11 (wrB (ar 11) (n + d) done)) 11 (wrB (va_up ar 11 (wrB (ar 11) (n + d) done) 11) (n + (d + done.length)) bs))) :
    hH z v (va_up sc 5 (nI (d + (done ++ bs).length))) (va_up ar 11 (wrB (ar 11) (n + d) (done ++ bs))) s H locs := by
  rw [va_uu, va_uu, va_up_self, ← Nat.add_assoc, wrB_app, Nat.add_assoc] at e
  rw [List.length_append]
  exact uEq e h
/-- a row with these from a place on -/
def wrR (f : Nat → Int32) (p : Nat) (xs : List Int32) : Nat → Int32 := fun j => if p ≤ j ∧ j < p + xs.length then xs.getD (j - p) 0 else f j
theorem wrR_nil (f : Nat → Int32) (p : Nat) : wrR f p [] = f := by
  funext j
  unfold wrR
  rw [if_neg (by simp only [List.length_nil]; omega)]
theorem wrR_snoc (f : Nat → Int32) (p : Nat) (xs : List Int32) (x : Int32) : upd (wrR f p xs) (p + xs.length) x = wrR f p (xs ++ [x]) := by
  funext j
  unfold upd wrR
  simp only [List.length_append, List.length_cons, List.length_nil]
  by_cases hj : j = p + xs.length
  · subst hj
    rw [if_pos rfl, if_pos (by omega)]
    simp
  · rw [if_neg hj]
    by_cases h : p ≤ j ∧ j < p + xs.length
    · rw [if_pos h, if_pos (by omega), List.getD_eq_getElem?_getD, List.getD_eq_getElem?_getD, List.getElem?_append_left (by omega)]
    · rw [if_neg h, if_neg (by omega)]
theorem wrR_last (f : Nat → Int32) (p : Nat) (xs : List Int32) (x : Int32) : wrR f p (xs ++ [x]) (p + xs.length) = x := by
  rw [← wrR_snoc, pk_us]
/-- how a coding reads so many numbers: they and where reading goes on, or the fault and its place -/
def rdL (cb ch cs cd : Nat) (t : Nat → Nat) (n : Nat) : Nat → Int32 → Nat → (List Int32 × Nat) ⊕ (Nat × Nat)
  | 0, _, p => .inl ([], p)
  | k + 1, b, p => match rdc cb ch t n p with
    | none => .inr (1, p)
    | some (c, q) => match nbO cs c with
      | none => .inr (2, p)
      | some i => match rdL cb ch cs cd t n k (if cd = 1 then b + Int32.ofInt i else Int32.ofInt i) q with
        | .inl (xs, e) => .inl ((if cd = 1 then b + Int32.ofInt i else Int32.ofInt i) :: xs, e)
        | .inr f => .inr f
/-- numbers ahead of what is read -/
def rdPre (xs : List Int32) : (List Int32 × Nat) ⊕ (Nat × Nat) → (List Int32 × Nat) ⊕ (Nat × Nat)
  | .inl (ys, e) => .inl (xs ++ ys, e)
  | .inr f => .inr f
theorem nL_i (i : Int) : (Int64.ofInt i).toInt32 = Int32.ofInt i := by
  apply Int32.toBitVec_inj.mp
  show (BitVec.ofInt 64 i).signExtend 32 = BitVec.ofInt 32 i
  apply BitVec.eq_of_toInt_eq
  rw [BitVec.toInt_signExtend_eq_toInt_bmod_of_le _ (by decide), BitVec.toInt_ofInt, BitVec.toInt_ofInt, Int.bmod_bmod_of_dvd (by decide)]
theorem nbO_rng {s c : Nat} {i : Int} (hs : s ≤ 2) (h : nbO s c = some i) : -4294967296 < i ∧ i < 2147483648 := by
  unfold nbO at h
  generalize (if s = 0 then c else c - c / 2 ^ s) = w at h
  split at h
  · cases h
  · split at h
    · cases h
      have h1 : (c + 1) / 2 ^ s ≤ c + 1 := Nat.div_le_self _ _
      rename_i q1 q2
      have h2 : 0 < s := Nat.pos_of_ne_zero q2.1
      rcases (show s = 1 ∨ s = 2 by omega) with rfl | rfl <;> omega
    · split at h
      · cases h
        omega
      · cases h
theorem nL64_ne {s c : Nat} {i : Int} (hs : s ≤ 2) (h : nbO s c = some i) : ¬ Int64.ofInt i = lN 4294967296 := by
  intro q
  have hr := nbO_rng hs h
  have h1 := congrArg Int64.toInt q
  rw [pk_lT (by decide), Int64.toInt_ofInt, Int.bmod_def, show ((Int64.size : Nat) : Int) = 18446744073709551616 from rfl] at h1
  omega
theorem gv_X1_37 : GoodIn uW (wsV RX1 37 RX1 yX1_writeCode (Cond.code yX1_writeCode cX1_writeCode 7 (some .boolean) :: uW)) := gI_V (uW_of (by decide +kernel) rfl) (uW_of (by decide +kernel) rfl) (uW_of (by decide +kernel) rfl) (uW_of (by decide +kernel) rfl) (uW_of (by decide +kernel) rfl)
theorem gv_X1_37_n : okN yX1_writeCode 2 := by decide +kernel
set_option maxHeartbeats 4000000 in
set_option maxRecDepth 100000 in
/-- Coding.write -/
theorem k_cWrite (l : Launch) (z : bZ) (v : bV) (sc : Nat → Int32) (ar : Nat → Nat → Int32) (a cb ch cs cd n d k fr cnt : Nat) (hw : cdW v a cb ch cs cd) (hn : sc 3 = nI n) (hn8 : n ≤ 8000) (hd : sc 5 = nI d) (hd9 : d + 5 * cnt < 2 ^ 29) (hk : isA k = true) (hk11 : k ≠ 11) (hkL : aL k < 2 ^ 31) (hfc : fr + cnt ≤ aL k) : Met l yX1_write (Cond.code yX1_write cX1_write 7 (some .boolean) :: uW) { frames := 2, cells := 0, slots := 0, locals := 48 } (pC z v sc ar [.ref (a), .ref (zad z 1), .ref (zad z k), .int (nI (fr)), .int (nI (cnt))]) (qI z (fun r u => ∃ bs : List Nat, u = (v, va_up sc 5 (nI (d + bs.length)), va_up ar 11 (wrB (ar 11) (n + d) bs)) ∧ bs.length ≤ 5 * cnt ∧ ((r = 1 ∧ wrC cb ch cs cd 0 (rowL (ar k) fr cnt) = some bs) ∨ (r = 0 ∧ wrC cb ch cs cd 0 (rowL (ar k) fr cnt) = none)))) 0 0 (zA z) := by
  refine eM (by decide) (Nat.le_of_ble_eq_true rfl) ?_
  intro pP eE s mM below meth cC ls C hr hlk h hl
  have hx := C.1.1
  have hb := C.1.2.1
  have hl : lv_has ls 7 [(0, .ref (a)), (1, .ref (zad z 1)), (2, .ref (zad z k)), (3, .int (nI (fr))), (4, .int (nI (cnt)))] := hl
  obtain ⟨-, -, ⟨hB1, hB5⟩, ⟨hH1, hH2⟩, hS, hD⟩ := id hw
  refine lv_iconst (v := nI (0)) hx hb dX1_write_0 (by decide) ?_
  refine lv_istore (lv' := [(5, .int (nI (0))), (0, .ref (a)), (1, .ref (zad z 1)), (2, .ref (zad z k)), (3, .int (nI (fr))), (4, .int (nI (cnt)))]) hx hb dX1_write_1 hl (by decide) rfl (fun ls hl => ?_)
  refine lv_iload_n hx hb dX1_write_3 rfl (lv_at hl 4 rfl) ?_
  refine lv_istore (lv' := [(6, .int (nI (fr))), (5, .int (nI (0))), (0, .ref (a)), (1, .ref (zad z 1)), (2, .ref (zad z k)), (3, .int (nI (fr))), (4, .int (nI (cnt)))]) hx hb dX1_write_4 hl (by decide) rfl (fun ls hl => ?_)
  refine lpW3 (fun (i : Nat) (bef : Int32) (done : List Nat) (H : Heap) (locs : List Loc) (ls : Array Slot) => (fr ≤ i ∧ i ≤ fr + cnt) ∧ (wrC cb ch cs cd 0 (rowL (ar k) fr cnt) = (wrC cb ch cs cd bef (rowL (ar k) i (fr + cnt - i))).map (fun t => done ++ t)) ∧ (done.length ≤ 5 * (i - fr)) ∧ hH z v (va_up sc 5 (nI (d + (done).length))) (va_up ar 11 (wrB (ar 11) (n + d) (done))) s H locs ∧ lv_has ls 7 [(0, .ref (a)), (1, .ref (zad z 1)), (2, .ref (zad z k)), (3, .int (nI (fr))), (4, .int (nI (cnt))), (5, .int (bef)), (6, .int (nI (i)))]) (fun (i : Nat) (bef : Int32) (done : List Nat) => fr + cnt - i) (fun i bef done ih_6 H locs ls hI => ?_) (fr) (nI 0) ([]) ⟨⟨Nat.le_refl _, by omega⟩, by rw [show fr + cnt - fr = cnt by omega]; simp; rfl, by simp, (by have e := wr_start (sc := sc) (ar := ar) (n := n) hd; rw [e.1, e.2]; exact h), lv_sub hl [2, 3, 4, 5, 6, 1, 0] rfl⟩
  obtain ⟨h1, h3, h4, h, hl⟩ := hI
  refine lv_iload hx hb dX1_write_6 (lv_at hl 6 rfl) ?_
  refine lv_iload_n hx hb dX1_write_8 rfl (lv_at hl 3 rfl) ?_
  refine lv_iload hx hb dX1_write_9 (lv_at hl 4 rfl) ?_
  refine lv_iadd hx hb dX1_write_11 ?_
  refine tI (nI_add _ _) ?_
  refine jN_ge (tgt := 50) (a := i) (b := (fr) + (cnt)) C (by omega) (by omega) dX1_write_12 (by decide) (fun c_12 => ?_) (fun c_12 => ?_)
  · skip
    refine lv_iconst (v := nI (1)) hx hb dX1_write_50 (by decide) ?_
    exact rZ C hr hlk h dX1_write_51 rfl (Nat.le_of_ble_eq_true rfl) (Nat.le_of_ble_eq_true rfl) (⟨done, rfl, by omega, Or.inl ⟨rfl, by rw [h3, show fr + cnt - i = 0 by omega]; simp [rowL, wrC]⟩⟩)
  · skip
    refine lv_aload_n hx hb dX1_write_15 rfl (lv_at hl 0 rfl) ?_
    refine lv_aload_n hx hb dX1_write_16 rfl (lv_at hl 0 rfl) ?_
    refine lv_aload_n hx hb dX1_write_17 rfl (lv_at hl 2 rfl) ?_
    refine lv_iload hx hb dX1_write_18 (lv_at hl 6 rfl) ?_
    refine ldA k hk (j := i) (by omega) hkL C h dX1_write_20 ?_
    refine tI (y := ar k i) (congrFun (va_up_ne _ _ hk11) _) ?_
    refine lv_iload hx hb dX1_write_21 (lv_at hl 5 rfl) ?_
    refine backL h (runV (As := [.int (ar k i), .int (bef)]) (rest := [.ref (a)]) C h (k_codeOf l z v (va_up sc 5 (nI (d + (done).length))) (va_up ar 11 (wrB (ar 11) (n + d) (done))) a cb ch cs cd (ar k i) bef hw) gv_X1_27 gv_X1_27_n ⟨rfl, rfl⟩ (r_Cod C h hw) rfl hl.1 rfl (Nat.le_of_ble_eq_true rfl) dX1_write_23 ⟨Nat.le_of_ble_eq_true rfl, Nat.le_of_ble_eq_true rfl⟩ ⟨Nat.le_of_ble_eq_true rfl, Nat.le_of_ble_eq_true rfl⟩) (fun r_23 v_23 sc_23 ar_23 H locs p_23 h => ?_)
    have h : hH z v (va_up sc 5 (nI (d + (done).length))) (va_up ar 11 (wrB (ar 11) (n + d) (done))) s H locs := uEq p_23.2 h
    refine tL (y := oL (cdO cs (toldI cd (ar k i) bef))) p_23.1 ?_
    refine lv_aload_n hx hb dX1_write_26 rfl (lv_at hl 1 rfl) ?_
    refine rg_X1_31 C h dX1_write_27 ?_
    refine backI h (runV (As := [.long (oL (cdO cs (toldI cd (ar k i) bef))), .ref (zad z 2)]) (rest := []) C h (k_writeCode l z v (va_up sc 5 (nI (d + (done).length))) (va_up ar 11 (wrB (ar 11) (n + d) (done))) a cb ch cs cd n (d + done.length) (cdO cs (toldI cd (ar k i) bef)) hw (fun _ q => cdO_lt hS q) hn hn8 rfl (by omega)) gv_X1_37 gv_X1_37_n ⟨rfl, rfl⟩ (r_Cod C h hw) rfl hl.1 rfl (Nat.le_of_ble_eq_true rfl) dX1_write_30 ⟨Nat.le_of_ble_eq_true rfl, Nat.le_of_ble_eq_true rfl⟩ ⟨Nat.le_of_ble_eq_true rfl, Nat.le_of_ble_eq_true rfl⟩) (fun r_30 v_30 sc_30 ar_30 H locs p_30 h => ?_)
    obtain ⟨bs, e1, e2, e3⟩ := p_30
    have h := wr_cat h e1
    rcases e3 with ⟨e3, e4⟩ | ⟨e3, e4⟩
    · skip
      refine tI (y := nI 1) e3 ?_
      refine zN_ne (tgt := 38) (a := 1) C (by decide) dX1_write_33 (by decide) (fun _ => ?_) (fun q => absurd q (by decide))
      refine lv_aload_n hx hb dX1_write_38 rfl (lv_at hl 2 rfl) ?_
      refine lv_iload hx hb dX1_write_39 (lv_at hl 6 rfl) ?_
      refine ldA k hk (j := i) (by omega) hkL C h dX1_write_41 ?_
      refine tI (y := ar k i) (congrFun (va_up_ne _ _ hk11) _) ?_
      refine lv_istore (lv' := [(5, .int (ar k i)), (0, .ref (a)), (1, .ref (zad z 1)), (2, .ref (zad z k)), (3, .int (nI (fr))), (4, .int (nI (cnt))), (6, .int (nI (i)))]) hx hb dX1_write_42 hl (by decide) rfl (fun ls hl => ?_)
      refine lv_iinc (v := nI (i + 1)) (lv' := [(6, .int (nI (i + 1))), (5, .int (ar k i)), (0, .ref (a)), (1, .ref (zad z 1)), (2, .ref (zad z k)), (3, .int (nI (fr))), (4, .int (nI (cnt)))]) hx hb dX1_write_44 hl (k := 6) rfl (nN_inc _) (by decide) rfl (fun ls hl => ?_)
      refine lv_goto (tgt := 6) hx hb dX1_write_47 (by decide) ?_
      exact ih_6 (i + 1) (ar k i) (done ++ bs) (by omega) H locs ls ⟨⟨by omega, by omega⟩, by rw [h3, rowL_step (by omega), wrC, e4, show fr + cnt - i - 1 = fr + cnt - (i + 1) by omega]; simp [Option.map_map, Function.comp_def], by simp; omega, h, lv_sub hl [2, 3, 4, 5, 6, 1, 0] rfl⟩
    · skip
      refine tI (y := nI 0) e3 ?_
      refine zN_ne (tgt := 38) (a := 0) C (by decide) dX1_write_33 (by decide) (fun q => absurd q (by decide)) (fun _ => ?_)
      refine lv_iconst (v := nI (0)) hx hb dX1_write_36 (by decide) ?_
      exact rZ C hr hlk h dX1_write_37 rfl (Nat.le_of_ble_eq_true rfl) (Nat.le_of_ble_eq_true rfl) (⟨done ++ bs, rfl, by simp; omega, Or.inr ⟨rfl, by rw [h3, rowL_step (by omega), wrC, e4]; rfl⟩⟩)
