/-! The census: which numbers are in a row, how often each. -/
theorem shl1 : ∀ b : Nat, b ≤ 9 → nI 1 <<< (nI b &&& 31) = nI (2 ^ b) := by decide +kernel
theorem p29 {b : Nat} (h : b ≤ 9) : 2 ^ b ≤ 512 := Nat.pow_le_pow_right (by decide) h
def oI (o : Option Nat) : Int32 := match o with
  | some j => nI j
  | none => -1
/-- the first of the greatest of c 0 .. c (K - 1), if that is above 1; and how great -/
def mp (c : Nat → Nat) : Nat → Option Nat × Nat
  | 0 => (none, 1)
  | K + 1 => if (mp c K).2 < c K then (some K, c K) else mp c K
theorem mp_bd {c : Nat → Nat} {B : Nat} (hB : 1 ≤ B) : ∀ K, (∀ j, j < K → c j ≤ B) → 1 ≤ (mp c K).2 ∧ (mp c K).2 ≤ B
  | 0, _ => ⟨Nat.le_refl _, hB⟩
  | K + 1, h => by
    have := mp_bd hB K (fun j hj => h j (by omega))
    unfold mp
    split
    · have := h K (by omega)
      exact ⟨by simp only; omega, by simp only; omega⟩
    · exact this
theorem mp_in {c : Nat → Nat} : ∀ K j, (mp c K).1 = some j → j < K ∧ 1 < c j
  | 0, j, h => by simp [mp] at h
  | K + 1, j, h => by
    unfold mp at h
    split at h
    · rename_i q
      simp only [Option.some.injEq] at h
      subst h
      have h1 : 1 ≤ (mp c K).2 := by
        clear q
        induction K with
        | zero => exact Nat.le_refl _
        | succ K ih =>
          unfold mp
          split
          · simp only; omega
          · exact ih
      exact ⟨by omega, by omega⟩
    · have := mp_in K j h
      exact ⟨by omega, this.2⟩
/-- a tally: how often, or below 0 where it is a favourite -/
def tOK (T : Nat → Int32) (c : Nat → Nat) (j : Nat) : Prop := (T j = nI (c j) ∧ c j ≤ 1000) ∨ (c j = 0 ∧ T j < 0)
theorem tOK_le {T : Nat → Int32} {c : Nat → Nat} {j mo : Nat} (h : tOK T c j) (hm : mo < 2 ^ 31) : T j ≤ nI mo ↔ c j ≤ mo := by
  rcases h with ⟨h, h2⟩ | ⟨h, h2⟩
  · rw [h]; exact nI_leI (by omega) hm
  · refine ⟨fun _ => by omega, fun _ => ?_⟩
    have h3 := nI_toInt hm
    rw [Int32.le_iff_toInt_le, h3]
    rw [Int32.lt_iff_toInt_lt, show (0 : Int32).toInt = 0 from rfl] at h2
    omega
theorem tOK_bd {T : Nat → Int32} {c : Nat → Nat} {j : Nat} (h : tOK T c j) : c j ≤ 1000 := by
  rcases h with ⟨_, h⟩ | ⟨h, _⟩ <;> omega
theorem tOK_eq {T : Nat → Int32} {c : Nat → Nat} {j : Nat} (h : tOK T c j) (h2 : 0 < c j) : T j = nI (c j) := by
  rcases h with ⟨h, _⟩ | ⟨h, _⟩
  · exact h
  · omega
set_option maxHeartbeats 4000000 in
set_option maxRecDepth 100000 in
/-- Census.empty -/
theorem k_empty (l : Launch) (z : bZ) (v : bV) (sc : Nat → Int32) (ar : Nat → Nat → Int32) (cnt : Nat) (hc : cnt ≤ 400) : Met l yX0_empty (Cond.code yX0_empty cX0_empty 3 none :: uW) { frames := 0, cells := 0, slots := 0, locals := 0 } (pC z v sc ar [.ref (zad z 3), .int (nI (cnt))]) (qV z (fun u => ∃ (b : Nat) (sl : Nat → Int32), u = (v, va_up (va_up sc 9 (nI b)) 10 (nI 0), va_up ar 14 sl) ∧ 1 ≤ b ∧ b ≤ 9 ∧ cnt ≤ 2 ^ b ∧ ∀ q, q < 2 ^ b → sl q = nI 0)) 0 0 (zA z) := by
  refine eM (by decide) (Nat.le_of_ble_eq_true rfl) ?_
  intro pP eE s mM below meth cC ls C hr hlk h hl
  have hx := C.1.1
  have hb := C.1.2.1
  have hl : lv_has ls 3 [(0, .ref (zad z 3)), (1, .int (nI (cnt)))] := hl
  refine lv_aload_n hx hb dX0_empty_0 rfl (lv_at hl 0 rfl) ?_
  refine lv_iconst (v := nI (1)) hx hb dX0_empty_1 (by decide) ?_
  refine rp_X0_15 C h dX0_empty_2 (fun H locs h => ?_)
  refine lpW1 (fun (b : Nat) (H : Heap) (locs : List Loc) (ls : Array Slot) => (1 ≤ b ∧ b ≤ 9) ∧ hH z v (va_up sc 9 (nI (b))) ar s H locs ∧ lv_has ls 3 [(0, .ref (zad z 3)), (1, .int (nI (cnt)))]) (fun (b : Nat) => 9 - b) (fun b ih_5 H locs ls hI => ?_) (1) ⟨⟨by omega, by omega⟩, h, lv_sub hl [0, 1] rfl⟩
  obtain ⟨h1, h, hl⟩ := hI
  have hp := p29 h1.2
  refine lv_aload_n hx hb dX0_empty_5 rfl (lv_at hl 0 rfl) ?_
  refine rg_X0_15 C h dX0_empty_6 ?_
  refine tI (y := nI (b)) rfl ?_
  refine lv_bipush (v := nI (9)) hx hb dX0_empty_9 (by decide) ?_
  refine jN_ge (tgt := 39) (a := b) (b := 9) C (by omega) (by omega) dX0_empty_11 (by decide) (fun c_11 => ?_) (fun c_11 => ?_)
  · skip
    have hb2 : cnt ≤ 2 ^ b := by
      have : b = 9 := by omega
      subst this
      omega
    refine lv_iconst (v := nI (0)) hx hb dX0_empty_39 (by decide) ?_
    refine lv_istore_n (lv' := [(2, .int (nI (0))), (0, .ref (zad z 3)), (1, .int (nI (cnt)))]) hx hb dX0_empty_40 rfl hl (by decide) rfl (fun ls hl => ?_)
    refine lpW2 (fun (i : Nat) (sl : Nat → Int32) (H : Heap) (locs : List Loc) (ls : Array Slot) => (i ≤ 2 ^ b) ∧ (∀ q, q < i → sl q = nI 0) ∧ hH z v (va_up sc 9 (nI (b))) (va_up ar 14 sl) s H locs ∧ lv_has ls 3 [(0, .ref (zad z 3)), (2, .int (nI (i)))]) (fun (i : Nat) (sl : Nat → Int32) => 2 ^ b - i) (fun i sl ih_41 H locs ls hI => ?_) (0) (ar 14) ⟨Nat.zero_le _, fun _ q => absurd q (Nat.not_lt_zero _), (by rw [va_us]; exact h), lv_sub hl [1, 0] rfl⟩
    obtain ⟨h2, h3, h, hl⟩ := hI
    refine lv_iload_n hx hb dX0_empty_41 rfl (lv_at hl 1 rfl) ?_
    refine lv_iconst (v := nI (1)) hx hb dX0_empty_42 (by decide) ?_
    refine lv_aload_n hx hb dX0_empty_43 rfl (lv_at hl 0 rfl) ?_
    refine rg_X0_15 C h dX0_empty_44 ?_
    refine tI (y := nI (b)) rfl ?_
    refine lv_ishl hx hb dX0_empty_47 ?_
    refine tI (y := nI (2 ^ b)) (shl1 b (by omega)) ?_
    refine jN_ge (tgt := 64) (a := i) (b := 2 ^ b) C (by omega) (by omega) dX0_empty_48 (by decide) (fun c_48 => ?_) (fun c_48 => ?_)
    · skip
      refine lv_aload_n hx hb dX0_empty_64 rfl (lv_at hl 0 rfl) ?_
      refine lv_iconst (v := nI (0)) hx hb dX0_empty_65 (by decide) ?_
      refine rp_X0_25 C h dX0_empty_66 (fun H locs h => ?_)
      exact rV C hr hlk h dX0_empty_69 (Nat.le_of_ble_eq_true rfl) (Nat.le_of_ble_eq_true rfl) (⟨b, sl, rfl, h1.1, h1.2, hb2, fun q hq => h3 q (by omega)⟩)
    · skip
      refine lv_aload_n hx hb dX0_empty_51 rfl (lv_at hl 0 rfl) ?_
      refine rg_X0_11 C h dX0_empty_52 ?_
      refine lv_iload_n hx hb dX0_empty_55 rfl (lv_at hl 1 rfl) ?_
      refine lv_iconst (v := nI (0)) hx hb dX0_empty_56 (by decide) ?_
      refine stA 14 rfl (j := i) (x := nI (0)) (show i < 512 by omega) (by decide) C h dX0_empty_57 (fun H locs h => ?_)
      refine lv_iinc (v := nI (i + 1)) (lv' := [(2, .int (nI (i + 1))), (0, .ref (zad z 3))]) hx hb dX0_empty_58 hl (k := 1) rfl (nN_inc _) (by decide) rfl (fun ls hl => ?_)
      refine lv_goto (tgt := 41) hx hb dX0_empty_61 (by decide) ?_
      exact ih_41 (i + 1) (upd sl i (nI 0)) (by omega) H locs ls ⟨by omega, fun q hq => by unfold upd; split; rfl; exact h3 q (by omega), (by rw [va_uu] at h; exact h), lv_sub hl [1, 0] rfl⟩
  · skip
    refine lv_iconst (v := nI (1)) hx hb dX0_empty_14 (by decide) ?_
    refine lv_aload_n hx hb dX0_empty_15 rfl (lv_at hl 0 rfl) ?_
    refine rg_X0_15 C h dX0_empty_16 ?_
    refine tI (y := nI (b)) rfl ?_
    refine lv_ishl hx hb dX0_empty_19 ?_
    refine tI (y := nI (2 ^ b)) (shl1 b (by omega)) ?_
    refine lv_iconst (v := nI (2)) hx hb dX0_empty_20 (by decide) ?_
    refine lv_iload_n hx hb dX0_empty_21 rfl (lv_at hl 1 rfl) ?_
    refine lv_imul hx hb dX0_empty_22 ?_
    refine tI (pk_mul _ _) ?_
    refine jN_ge (tgt := 39) (a := 2 ^ b) (b := (2) * (cnt)) C (by omega) (by omega) dX0_empty_23 (by decide) (fun c_23 => ?_) (fun c_23 => ?_)
    · skip
      have hb2 : cnt ≤ 2 ^ b := by omega
      refine lv_iconst (v := nI (0)) hx hb dX0_empty_39 (by decide) ?_
      refine lv_istore_n (lv' := [(2, .int (nI (0))), (0, .ref (zad z 3)), (1, .int (nI (cnt)))]) hx hb dX0_empty_40 rfl hl (by decide) rfl (fun ls hl => ?_)
      refine lpW2 (fun (i : Nat) (sl : Nat → Int32) (H : Heap) (locs : List Loc) (ls : Array Slot) => (i ≤ 2 ^ b) ∧ (∀ q, q < i → sl q = nI 0) ∧ hH z v (va_up sc 9 (nI (b))) (va_up ar 14 sl) s H locs ∧ lv_has ls 3 [(0, .ref (zad z 3)), (2, .int (nI (i)))]) (fun (i : Nat) (sl : Nat → Int32) => 2 ^ b - i) (fun i sl ih_41 H locs ls hI => ?_) (0) (ar 14) ⟨Nat.zero_le _, fun _ q => absurd q (Nat.not_lt_zero _), (by rw [va_us]; exact h), lv_sub hl [1, 0] rfl⟩
      obtain ⟨h2, h3, h, hl⟩ := hI
      refine lv_iload_n hx hb dX0_empty_41 rfl (lv_at hl 1 rfl) ?_
      refine lv_iconst (v := nI (1)) hx hb dX0_empty_42 (by decide) ?_
      refine lv_aload_n hx hb dX0_empty_43 rfl (lv_at hl 0 rfl) ?_
      refine rg_X0_15 C h dX0_empty_44 ?_
      refine tI (y := nI (b)) rfl ?_
      refine lv_ishl hx hb dX0_empty_47 ?_
      refine tI (y := nI (2 ^ b)) (shl1 b (by omega)) ?_
      refine jN_ge (tgt := 64) (a := i) (b := 2 ^ b) C (by omega) (by omega) dX0_empty_48 (by decide) (fun c_48 => ?_) (fun c_48 => ?_)
      · skip
        refine lv_aload_n hx hb dX0_empty_64 rfl (lv_at hl 0 rfl) ?_
        refine lv_iconst (v := nI (0)) hx hb dX0_empty_65 (by decide) ?_
        refine rp_X0_25 C h dX0_empty_66 (fun H locs h => ?_)
        exact rV C hr hlk h dX0_empty_69 (Nat.le_of_ble_eq_true rfl) (Nat.le_of_ble_eq_true rfl) (⟨b, sl, rfl, h1.1, h1.2, hb2, fun q hq => h3 q (by omega)⟩)
      · skip
        refine lv_aload_n hx hb dX0_empty_51 rfl (lv_at hl 0 rfl) ?_
        refine rg_X0_11 C h dX0_empty_52 ?_
        refine lv_iload_n hx hb dX0_empty_55 rfl (lv_at hl 1 rfl) ?_
        refine lv_iconst (v := nI (0)) hx hb dX0_empty_56 (by decide) ?_
        refine stA 14 rfl (j := i) (x := nI (0)) (show i < 512 by omega) (by decide) C h dX0_empty_57 (fun H locs h => ?_)
        refine lv_iinc (v := nI (i + 1)) (lv' := [(2, .int (nI (i + 1))), (0, .ref (zad z 3))]) hx hb dX0_empty_58 hl (k := 1) rfl (nN_inc _) (by decide) rfl (fun ls hl => ?_)
        refine lv_goto (tgt := 41) hx hb dX0_empty_61 (by decide) ?_
        exact ih_41 (i + 1) (upd sl i (nI 0)) (by omega) H locs ls ⟨by omega, fun q hq => by unfold upd; split; rfl; exact h3 q (by omega), (by rw [va_uu] at h; exact h), lv_sub hl [1, 0] rfl⟩
    · skip
      refine lv_aload_n hx hb dX0_empty_26 rfl (lv_at hl 0 rfl) ?_
      refine lv_dup hx hb dX0_empty_27 rfl ?_
      refine rg_X0_15 C h dX0_empty_28 ?_
      refine tI (y := nI (b)) rfl ?_
      refine lv_iconst (v := nI (1)) hx hb dX0_empty_31 (by decide) ?_
      refine lv_iadd hx hb dX0_empty_32 ?_
      refine tI (nI_add _ _) ?_
      refine rp_X0_15 C h dX0_empty_33 (fun H locs h => ?_)
      refine lv_goto (tgt := 5) hx hb dX0_empty_36 (by decide) ?_
      exact ih_5 (b + 1) (by omega) H locs ls ⟨⟨by omega, by omega⟩, (by rw [va_uu] at h; exact h), lv_sub hl [0, 1] rfl⟩
set_option maxHeartbeats 4000000 in
set_option maxRecDepth 100000 in
/-- Census.mostFrequent -/
theorem k_mostFrequent (l : Launch) (z : bZ) (v : bV) (sc : Nat → Int32) (ar : Nat → Nat → Int32) (c0 : Nat → Nat) (K : Nat) (hK : sc 10 = nI K) (hK4 : K ≤ 400) (ht : ∀ j, j < K → tOK (ar 16) c0 j) : Met l yX0_mostFrequent (Cond.code yX0_mostFrequent cX0_mostFrequent 4 (some .int) :: uW) { frames := 0, cells := 0, slots := 0, locals := 0 } (pC z v sc ar [.ref (zad z 3)]) (qI z (fun r u => r = oI (mp c0 K).1 ∧ u = (v, sc, ar))) 0 0 (zA z) := by
  refine eM (by decide) (Nat.le_of_ble_eq_true rfl) ?_
  intro pP eE s mM below meth cC ls C hr hlk h hl
  have hx := C.1.1
  have hb := C.1.2.1
  have hl : lv_has ls 4 [(0, .ref (zad z 3))] := hl
  refine lv_iconst (v := (-1)) hx hb dX0_mostFrequent_0 (by decide) ?_
  refine lv_istore_n (lv' := [(1, .int ((-1))), (0, .ref (zad z 3))]) hx hb dX0_mostFrequent_1 rfl hl (by decide) rfl (fun ls hl => ?_)
  refine lv_iconst (v := nI (1)) hx hb dX0_mostFrequent_2 (by decide) ?_
  refine lv_istore_n (lv' := [(2, .int (nI (1))), (1, .int ((-1))), (0, .ref (zad z 3))]) hx hb dX0_mostFrequent_3 rfl hl (by decide) rfl (fun ls hl => ?_)
  refine lv_iconst (v := nI (0)) hx hb dX0_mostFrequent_4 (by decide) ?_
  refine lv_istore_n (lv' := [(3, .int (nI (0))), (2, .int (nI (1))), (1, .int ((-1))), (0, .ref (zad z 3))]) hx hb dX0_mostFrequent_5 rfl hl (by decide) rfl (fun ls hl => ?_)
  refine lpW3 (fun (i : Nat) (o : Option Nat) (mo : Nat) (H : Heap) (locs : List Loc) (ls : Array Slot) => (i ≤ K) ∧ (mp c0 i = (o, mo)) ∧ hH z v sc ar s H locs ∧ lv_has ls 4 [(0, .ref (zad z 3)), (1, .int (oI o)), (2, .int (nI (mo))), (3, .int (nI (i)))]) (fun (i : Nat) (o : Option Nat) (mo : Nat) => K - i) (fun i o mo ih_6 H locs ls hI => ?_) (0) (none) (1) ⟨Nat.zero_le _, rfl, h, lv_sub hl [3, 2, 1, 0] rfl⟩
  obtain ⟨h1, h3, h, hl⟩ := hI
  have hmo : mo ≤ 1000 := by have := (mp_bd (c := c0) (B := 1000) (by decide) i (fun j hj => tOK_bd (ht j (by omega)))).2; rw [h3] at this; exact this
  refine lv_iload_n hx hb dX0_mostFrequent_6 rfl (lv_at hl 3 rfl) ?_
  refine lv_aload_n hx hb dX0_mostFrequent_7 rfl (lv_at hl 0 rfl) ?_
  refine rg_X0_25 C h dX0_mostFrequent_8 ?_
  refine tI (y := nI (K)) hK ?_
  refine jN_ge (tgt := 39) (a := i) (b := K) C (by omega) (by omega) dX0_mostFrequent_11 (by decide) (fun c_11 => ?_) (fun c_11 => ?_)
  · skip
    refine lv_iload_n hx hb dX0_mostFrequent_39 rfl (lv_at hl 1 rfl) ?_
    exact rI C hr hlk h dX0_mostFrequent_40 (Nat.le_of_ble_eq_true rfl) (Nat.le_of_ble_eq_true rfl) (⟨by rw [show K = i by omega, h3], rfl⟩)
  · skip
    refine lv_aload_n hx hb dX0_mostFrequent_14 rfl (lv_at hl 0 rfl) ?_
    refine rg_X0_22 C h dX0_mostFrequent_15 ?_
    refine lv_iload_n hx hb dX0_mostFrequent_18 rfl (lv_at hl 3 rfl) ?_
    refine ldA 16 rfl (j := i) (show i < 400 by omega) (by decide) C h dX0_mostFrequent_19 ?_
    refine tI (y := (ar 16) (i)) rfl ?_
    refine lv_iload_n hx hb dX0_mostFrequent_20 rfl (lv_at hl 2 rfl) ?_
    refine lv_icmp_le (tgt := 33) hx hb dX0_mostFrequent_21 (by decide) (fun c_21 => ?_) (fun c_21 => ?_)
    · skip
      refine lv_iinc (v := nI (i + 1)) (lv' := [(3, .int (nI (i + 1))), (0, .ref (zad z 3)), (1, .int (oI o)), (2, .int (nI (mo)))]) hx hb dX0_mostFrequent_33 hl (k := 3) rfl (nN_inc _) (by decide) rfl (fun ls hl => ?_)
      refine lv_goto (tgt := 6) hx hb dX0_mostFrequent_36 (by decide) ?_
      exact ih_6 (i + 1) (o) (mo) (by omega) H locs ls ⟨by omega, by unfold mp; rw [h3]; exact if_neg (by have := (tOK_le (ht i (by omega)) (by omega)).mp c_21; simp only; omega), h, lv_sub hl [1, 2, 3, 0] rfl⟩
    · skip
      have hlt : mo < c0 i := Nat.not_le.mp (fun q => c_21 ((tOK_le (ht i (by omega)) (by omega)).mpr q))
      have e21 := tOK_eq (ht i (by omega)) (by omega)
      refine lv_iload_n hx hb dX0_mostFrequent_24 rfl (lv_at hl 3 rfl) ?_
      refine lv_istore_n (lv' := [(1, .int (nI (i))), (0, .ref (zad z 3)), (2, .int (nI (mo))), (3, .int (nI (i)))]) hx hb dX0_mostFrequent_25 rfl hl (by decide) rfl (fun ls hl => ?_)
      refine lv_aload_n hx hb dX0_mostFrequent_26 rfl (lv_at hl 1 rfl) ?_
      refine rg_X0_22 C h dX0_mostFrequent_27 ?_
      refine lv_iload_n hx hb dX0_mostFrequent_30 rfl (lv_at hl 3 rfl) ?_
      refine ldA 16 rfl (j := i) (show i < 400 by omega) (by decide) C h dX0_mostFrequent_31 ?_
      refine tI (y := nI (c0 i)) e21 ?_
      refine lv_istore_n (lv' := [(2, .int (nI (c0 i))), (1, .int (nI (i))), (0, .ref (zad z 3)), (3, .int (nI (i)))]) hx hb dX0_mostFrequent_32 rfl hl (by decide) rfl (fun ls hl => ?_)
      refine lv_iinc (v := nI (i + 1)) (lv' := [(3, .int (nI (i + 1))), (2, .int (nI (c0 i))), (1, .int (nI (i))), (0, .ref (zad z 3))]) hx hb dX0_mostFrequent_33 hl (k := 3) rfl (nN_inc _) (by decide) rfl (fun ls hl => ?_)
      refine lv_goto (tgt := 6) hx hb dX0_mostFrequent_36 (by decide) ?_
      exact ih_6 (i + 1) (some i) (c0 i) (by omega) H locs ls ⟨by omega, by unfold mp; rw [h3]; exact if_pos hlt, h, lv_sub hl [3, 2, 1, 0] rfl⟩
