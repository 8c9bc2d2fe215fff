theorem pigeon : ∀ (N K : Nat) (f : Nat → Nat), (∀ q, q < N → f q < K) → (∀ q r, q < N → r < N → f q = f r → q = r) → N ≤ K
  | 0, K, _, _, _ => Nat.zero_le K
  | N + 1, K, f, h, hi => by
    have hN := h N (by omega)
    have key := pigeon N (K - 1) (fun q => if f q = K - 1 then f N else f q) (fun q hq => by
      have h1 := h q (by omega)
      have h2 : f q ≠ f N := fun e => by have := hi q N (by omega) (by omega) e; omega
      show (if f q = K - 1 then f N else f q) < K - 1
      split <;> omega) (fun q r hq hr e => by
      have h1 : f q ≠ f N := fun e => by have := hi q N (by omega) (by omega) e; omega
      have h2 : f r ≠ f N := fun e => by have := hi r N (by omega) (by omega) e; omega
      have e : (if f q = K - 1 then f N else f q) = (if f r = K - 1 then f N else f r) := e
      split at e <;> split at e
      · rename_i a1 a2
        exact hi q r (by omega) (by omega) (a1.trans a2.symm)
      · exact absurd e.symm h2
      · exact absurd e h1
      · exact hi q r (by omega) (by omega) e)
    omega
/-- where a number is looked for first -/
def hs (b : Nat) (x : Int32) : Nat := (x * (-1640531535)).toBitVec.toNat / 2 ^ (32 - b)
theorem hs_lt {b : Nat} (x : Int32) (hb : b ≤ 9) : hs b x < 2 ^ b := by
  unfold hs
  have h1 : (x * (-1640531535)).toBitVec.toNat < 2 ^ 32 := (x * (-1640531535)).toBitVec.isLt
  apply Nat.div_lt_of_lt_mul
  rw [← Nat.pow_add, show 32 - b + b = 32 by omega]
  exact h1
theorem sh_u : ∀ n, n < 32 → (((nI n).toUInt32 &&& Int32.toUInt32 31).toBitVec % 32).toNat = n := by decide +kernel
theorem hs_eq {b : Nat} {x : Int32} (h1 : 1 ≤ b) (h9 : b ≤ 9) : ((x * (-1640531535)).toUInt32 >>> ((nI (32 - b)).toUInt32 &&& Int32.toUInt32 31)).toInt32 = nI (hs b x) := by
  apply Int32.toBitVec_inj.mp
  apply BitVec.eq_of_toNat_eq
  have hl : hs b x < 2 ^ 32 := Nat.lt_of_lt_of_le (hs_lt x h9) (Nat.pow_le_pow_right (by decide) (by omega))
  rw [pk_tn hl]
  exact pk_ushr _ _ (32 - b) (sh_u _ (by omega))
/-- the slots tell where the kinds are -/
def slI (b : Nat) (sl kd : Nat → Int32) (K : Nat) : Prop := (∀ q, q < 2 ^ b → ∃ r, r ≤ K ∧ sl q = nI r) ∧ (∀ q q' r, q < 2 ^ b → q' < 2 ^ b → 0 < r → r ≤ K → sl q = nI r → sl q' = nI r → q = q') ∧ (∀ j, j < K → ∃ d, d < 2 ^ b ∧ sl ((hs b (kd j) + d) % 2 ^ b) = nI (j + 1) ∧ ∀ t, t < d → ¬ sl ((hs b (kd j) + t) % 2 ^ b) = nI 0) ∧ ∀ i j, i < K → j < K → kd i = kd j → i = j
theorem slI_0 {b : Nat} {sl kd : Nat → Int32} (h : ∀ q, q < 2 ^ b → sl q = nI 0) : slI b sl kd 0 := ⟨fun q hq => ⟨0, Nat.le_refl _, h q hq⟩, fun _ _ r _ _ h1 h2 => by omega, fun _ h => absurd h (Nat.not_lt_zero _), fun _ _ h => absurd h (Nat.not_lt_zero _)⟩
theorem slI_free {b : Nat} {sl kd : Nat → Int32} {K : Nat} (h : slI b sl kd K) (hK : K < 2 ^ b) (hK4 : K ≤ 400) : ∃ q, q < 2 ^ b ∧ sl q = nI 0 := by
  by_cases hex : ∃ q, q < 2 ^ b ∧ sl q = nI 0
  · exact hex
  · exfalso
    have hr : ∀ q, ∃ r, q < 2 ^ b → (1 ≤ r ∧ r ≤ K ∧ sl q = nI r) := fun q => by
      by_cases hq : q < 2 ^ b
      · obtain ⟨r, h1, h2⟩ := h.1 q hq
        refine ⟨r, fun _ => ⟨?_, h1, h2⟩⟩
        rcases Nat.eq_zero_or_pos r with e | e
        · exact absurd ⟨q, hq, by rw [h2, e]⟩ hex
        · exact e
      · exact ⟨0, fun q' => absurd q' hq⟩
    have hc := fun q => Classical.choose_spec (hr q)
    have := pigeon (2 ^ b) K (fun q => Classical.choose (hr q) - 1) (fun q hq => by have := hc q hq; show Classical.choose (hr q) - 1 < K; omega) (fun q r hq hr' e => by
      have h1 := hc q hq
      have h2 := hc r hr'
      have e : Classical.choose (hr q) - 1 = Classical.choose (hr r) - 1 := e
      have e2 : Classical.choose (hr q) = Classical.choose (hr r) := by omega
      exact h.2.1 q r _ hq hr' (by omega) h1.2.1 h1.2.2 (by rw [e2]; exact h2.2.2))
    omega
theorem cyc {N a q : Nat} (ha : a < N) (hq : q < N) : ∃ t, t < N ∧ (a + t) % N = q := by
  by_cases h : a ≤ q
  · exact ⟨q - a, by omega, by rw [show a + (q - a) = q by omega]; exact Nat.mod_eq_of_lt hq⟩
  · exact ⟨q + N - a, by omega, by rw [show a + (q + N - a) = q + N by omega, Nat.add_mod_right]; exact Nat.mod_eq_of_lt hq⟩
theorem slI_new {b : Nat} {sl kd : Nat → Int32} {K t : Nat} {x : Int32} (h : slI b sl kd K) (hK4 : K < 400) (hN : 0 < 2 ^ b) (ht : t < 2 ^ b) (h0 : sl ((hs b x + t) % 2 ^ b) = nI 0) (hp : ∀ t', t' < t → ¬ sl ((hs b x + t') % 2 ^ b) = nI 0) (hx : ∀ j, j < K → ¬ kd j = x) : slI b (upd sl ((hs b x + t) % 2 ^ b) (nI (K + 1))) (upd kd K x) (K + 1) := by
  obtain ⟨hA, hB, hC, hD⟩ := h
  have hlt : (hs b x + t) % 2 ^ b < 2 ^ b := Nat.mod_lt _ hN
  have n0 : ∀ r, 0 < r → r ≤ 401 → ¬ nI r = nI 0 := fun r h1 h2 e => by have := (nI_eq (by omega) (by decide)).mp e; omega
  refine ⟨fun q hq => ?_, fun q q' r hq hq' hr hrK e e' => ?_, fun j hj => ?_, fun i j hi hj e => ?_⟩
  · by_cases e : q = (hs b x + t) % 2 ^ b
    · exact ⟨K + 1, Nat.le_refl _, by rw [e, pk_us]⟩
    · obtain ⟨r, h1, h2⟩ := hA q hq
      exact ⟨r, by omega, by rw [pk_un e]; exact h2⟩
  · by_cases e1 : q = (hs b x + t) % 2 ^ b
    · by_cases e2 : q' = (hs b x + t) % 2 ^ b
      · rw [e1, e2]
      · rw [e1, pk_us] at e
        rw [pk_un e2] at e'
        obtain ⟨r', h1, h2⟩ := hA q' hq'
        have a1 := (nI_eq (by omega) (by omega)).mp (e'.symm.trans h2)
        have a2 := (nI_eq (by omega) (by omega)).mp e
        omega
    · by_cases e2 : q' = (hs b x + t) % 2 ^ b
      · rw [e2, pk_us] at e'
        rw [pk_un e1] at e
        obtain ⟨r', h1, h2⟩ := hA q hq
        have a1 := (nI_eq (by omega) (by omega)).mp (e.symm.trans h2)
        have a2 := (nI_eq (by omega) (by omega)).mp e'
        omega
      · rw [pk_un e1] at e
        rw [pk_un e2] at e'
        obtain ⟨r', h1, h2⟩ := hA q hq
        have a1 := (nI_eq (by omega) (by omega)).mp (e.symm.trans h2)
        exact hB q q' r hq hq' hr (by omega) e e'
  · by_cases ej : j = K
    · subst ej
      rw [pk_us]
      refine ⟨t, ht, pk_us, fun t' ht' => ?_⟩
      by_cases e : (hs b x + t') % 2 ^ b = (hs b x + t) % 2 ^ b
      · rw [e, pk_us]; exact n0 _ (by omega) (by omega)
      · rw [pk_un e]; exact hp t' ht'
    · rw [pk_un ej]
      obtain ⟨d, hd, h1, h2⟩ := hC j (by omega)
      refine ⟨d, hd, ?_, fun t' ht' => ?_⟩
      · rw [pk_un (fun e => by rw [e, h0] at h1; exact n0 _ (by omega) (by omega) h1.symm)]
        exact h1
      · by_cases e : (hs b (kd j) + t') % 2 ^ b = (hs b x + t) % 2 ^ b
        · rw [e, pk_us]; exact n0 _ (by omega) (by omega)
        · rw [pk_un e]; exact h2 t' ht'
  · by_cases ei : i = K
    · by_cases ej : j = K
      · rw [ei, ej]
      · rw [ei, pk_us, pk_un ej] at e
        exact absurd e.symm (hx j (by omega))
    · by_cases ej : j = K
      · rw [ej, pk_us, pk_un ei] at e
        exact absurd e (hx i (by omega))
      · rw [pk_un ei, pk_un ej] at e
        exact hD i j (by omega) (by omega) e
theorem slI_none {b : Nat} {sl kd : Nat → Int32} {K t : Nat} {x : Int32} (h : slI b sl kd K) (hK4 : K ≤ 400) (h0 : sl ((hs b x + t) % 2 ^ b) = nI 0) (hp : ∀ t', t' < t → ∀ r, 0 < r → r ≤ K → sl ((hs b x + t') % 2 ^ b) = nI r → ¬ kd (r - 1) = x) : ∀ j, j < K → ¬ kd j = x := fun j hj e => by
  obtain ⟨d, hd, h1, h2⟩ := h.2.2.1 j hj
  rw [e] at h1 h2
  rcases Nat.lt_trichotomy t d with q | q | q
  · exact h2 t q h0
  · rw [← q, h0] at h1
    have := (nI_eq (by decide) (by omega)).mp h1
    omega
  · have := hp d q (j + 1) (by omega) (by omega) h1
    simp only [Nat.add_sub_cancel] at this
    exact this e
theorem uk_X0_54 : Cond.constant RX0 54 (-1640531535) ∈ uW := uW_of (by decide +kernel) rfl
set_option maxHeartbeats 4000000 in
set_option maxRecDepth 100000 in
/-- Census.kindOf -/
theorem k_kindOf (l : Launch) (z : bZ) (v : bV) (sc : Nat → Int32) (ar : Nat → Nat → Int32) (b K : Nat) (x : Int32) (hb0 : sc 9 = nI b) (hb1 : 1 ≤ b) (hb9 : b ≤ 9) (hK : sc 10 = nI K) (hK4 : K < 400) (hKb : K < 2 ^ b) (hs0 : slI b (ar 14) (ar 15) K) : Met l yX0_kindOf (Cond.code yX0_kindOf cX0_kindOf 5 (some .int) :: uW) { frames := 0, cells := 0, slots := 0, locals := 0 } (pC z v sc ar [.ref (zad z 3), .int (x)]) (qI z (fun r u => ∃ j : Nat, r = nI j ∧ ((j < K ∧ ar 15 j = x ∧ u = (v, sc, ar)) ∨ (j = K ∧ (∀ i, i < K → ¬ ar 15 i = x) ∧ ∃ sl, slI b sl (upd (ar 15) K x) (K + 1) ∧ u = (v, va_up sc 10 (nI (K + 1)), va_up (va_up (va_up ar 15 (upd (ar 15) K x)) 16 (upd (ar 16) K (nI 0))) 14 sl))))) 0 0 (zA z) := by
  refine eM (by decide) (Nat.le_of_ble_eq_true rfl) ?_
  intro pP eE s mM below meth cC ls C hr hlk h hl
  have hx := C.1.1
  have hb := C.1.2.1
  have hl : lv_has ls 5 [(0, .ref (zad z 3)), (1, .int (x))] := hl
  have hp := p29 hb9
  have hp0 : 0 < 2 ^ b := Nat.pow_pos (by decide)
  refine lv_iconst (v := nI (1)) hx hb dX0_kindOf_0 (by decide) ?_
  refine lv_aload_n hx hb dX0_kindOf_1 rfl (lv_at hl 0 rfl) ?_
  refine rg_X0_15 C h dX0_kindOf_2 ?_
  refine tI (y := nI (b)) hb0 ?_
  refine lv_ishl hx hb dX0_kindOf_5 ?_
  refine tI (y := nI (2 ^ b)) (shl1 b (by omega)) ?_
  refine lv_istore_n (lv' := [(2, .int (nI (2 ^ b))), (0, .ref (zad z 3)), (1, .int (x))]) hx hb dX0_kindOf_6 rfl hl (by decide) rfl (fun ls hl => ?_)
  refine lv_iload_n hx hb dX0_kindOf_7 rfl (lv_at hl 2 rfl) ?_
  refine lv_ldc (v := -1640531535) hx hb C.1.2.2.2.1 (C.1.2.2.2.2 _ uk_X0_54) dX0_kindOf_8 ?_
  refine lv_imul hx hb dX0_kindOf_10 ?_
  refine lv_bipush (v := nI (32)) hx hb dX0_kindOf_11 (by decide) ?_
  refine lv_aload_n hx hb dX0_kindOf_13 rfl (lv_at hl 1 rfl) ?_
  refine rg_X0_15 C h dX0_kindOf_14 ?_
  refine tI (y := nI (b)) hb0 ?_
  refine lv_isub hx hb dX0_kindOf_17 ?_
  refine tI (pk_sub (by omega)) ?_
  refine lv_iushr (v := nI (hs b x)) hx hb dX0_kindOf_18 (hs_eq hb1 hb9) ?_
  refine lv_istore_n (lv' := [(3, .int (nI (hs b x))), (2, .int (nI (2 ^ b))), (0, .ref (zad z 3)), (1, .int (x))]) hx hb dX0_kindOf_19 rfl hl (by decide) rfl (fun ls hl => ?_)
  refine lv_iconst (v := nI (0)) hx hb dX0_kindOf_20 (by decide) ?_
  refine lv_istore (lv' := [(4, .int (nI (0))), (3, .int (nI (hs b x))), (2, .int (nI (2 ^ b))), (0, .ref (zad z 3)), (1, .int (x))]) hx hb dX0_kindOf_21 hl (by decide) rfl (fun ls hl => ?_)
  refine lpW2 (fun (t : Nat) (sp : Nat) (H : Heap) (locs : List Loc) (ls : Array Slot) => (t ≤ 2 ^ b) ∧ (sp = (hs b x + t) % 2 ^ b) ∧ (∀ t2, t2 < t → ¬ ar 14 ((hs b x + t2) % 2 ^ b) = nI 0 ∧ ∀ r, 0 < r → r ≤ K → ar 14 ((hs b x + t2) % 2 ^ b) = nI r → ¬ ar 15 (r - 1) = x) ∧ hH z v sc ar s H locs ∧ lv_has ls 5 [(0, .ref (zad z 3)), (1, .int (x)), (2, .int (nI (2 ^ b))), (3, .int (nI (sp))), (4, .int (nI (t)))]) (fun (t : Nat) (sp : Nat) => 2 ^ b - t) (fun t sp ih_23 H locs ls hI => ?_) (0) (hs b x) ⟨Nat.zero_le _, (Nat.mod_eq_of_lt (hs_lt x hb9)).symm, fun _ q => absurd q (Nat.not_lt_zero _), h, lv_sub hl [3, 4, 2, 1, 0] rfl⟩
  obtain ⟨h1, h2, hpr, h, hl⟩ := hI
  have hsp : sp < 2 ^ b := by rw [h2]; exact Nat.mod_lt _ hp0
  obtain ⟨r0, hr0, er⟩ := hs0.1 sp hsp
  refine lv_iload hx hb dX0_kindOf_23 (lv_at hl 4 rfl) ?_
  refine lv_iload_n hx hb dX0_kindOf_25 rfl (lv_at hl 2 rfl) ?_
  refine jN_ge (tgt := 67) (a := t) (b := 2 ^ b) C (by omega) (by omega) dX0_kindOf_26 (by decide) (fun c_26 => ?_) (fun c_26 => ?_)
  · skip
    obtain ⟨q, hq, eq⟩ := slI_free hs0 hKb (by omega)
    obtain ⟨t2, ht2, e2⟩ := cyc (hs_lt x hb9) hq
    exact absurd (by rw [e2]; exact eq) (hpr t2 (by omega)).1
  · skip
    refine lv_aload_n hx hb dX0_kindOf_29 rfl (lv_at hl 0 rfl) ?_
    refine rg_X0_11 C h dX0_kindOf_30 ?_
    refine lv_iload_n hx hb dX0_kindOf_33 rfl (lv_at hl 3 rfl) ?_
    refine ldA 14 rfl (j := sp) (show sp < 512 by omega) (by decide) C h dX0_kindOf_34 ?_
    refine tI (y := nI (r0)) er ?_
    refine zN_eq (tgt := 67) (a := r0) C (by omega) dX0_kindOf_35 (by decide) (fun c_35 => ?_) (fun c_35 => ?_)
    · skip
      have e0 : ar 14 sp = nI 0 := by rw [er, c_35]
      have ht : t < 2 ^ b := c_26
      have e1 : ar 14 ((hs b x + t) % 2 ^ b) = nI 0 := by rw [← h2]; exact e0
      have hno := slI_none hs0 (by omega) e1 (fun t2 q => (hpr t2 q).2)
      refine lv_aload_n hx hb dX0_kindOf_67 rfl (lv_at hl 0 rfl) ?_
      refine rg_X0_11 C h dX0_kindOf_68 ?_
      refine lv_iload_n hx hb dX0_kindOf_71 rfl (lv_at hl 3 rfl) ?_
      refine ldA 14 rfl (j := sp) (show sp < 512 by omega) (by decide) C h dX0_kindOf_72 ?_
      refine tI (y := nI (0)) e0 ?_
      refine zN_ne (tgt := 116) (a := 0) C (by decide) dX0_kindOf_73 (by decide) (fun q => absurd q (by decide)) (fun _ => ?_)
      refine lv_aload_n hx hb dX0_kindOf_76 rfl (lv_at hl 0 rfl) ?_
      refine rg_X0_19 C h dX0_kindOf_77 ?_
      refine lv_aload_n hx hb dX0_kindOf_80 rfl (lv_at hl 0 rfl) ?_
      refine rg_X0_25 C h dX0_kindOf_81 ?_
      refine tI (y := nI (K)) hK ?_
      refine lv_iload_n hx hb dX0_kindOf_84 rfl (lv_at hl 1 rfl) ?_
      refine stA 15 rfl (j := K) (x := x) (show K < 400 by omega) (by decide) C h dX0_kindOf_85 (fun H locs h => ?_)
      refine lv_aload_n hx hb dX0_kindOf_86 rfl (lv_at hl 0 rfl) ?_
      refine rg_X0_22 C h dX0_kindOf_87 ?_
      refine lv_aload_n hx hb dX0_kindOf_90 rfl (lv_at hl 0 rfl) ?_
      refine rg_X0_25 C h dX0_kindOf_91 ?_
      refine tI (y := nI (K)) hK ?_
      refine lv_iconst (v := nI (0)) hx hb dX0_kindOf_94 (by decide) ?_
      refine stA 16 rfl (j := K) (x := nI (0)) (show K < 400 by omega) (by decide) C h dX0_kindOf_95 (fun H locs h => ?_)
      refine lv_aload_n hx hb dX0_kindOf_96 rfl (lv_at hl 0 rfl) ?_
      refine lv_dup hx hb dX0_kindOf_97 rfl ?_
      refine rg_X0_25 C h dX0_kindOf_98 ?_
      refine tI (y := nI (K)) hK ?_
      refine lv_iconst (v := nI (1)) hx hb dX0_kindOf_101 (by decide) ?_
      refine lv_iadd hx hb dX0_kindOf_102 ?_
      refine tI (nI_add _ _) ?_
      refine rp_X0_25 C h dX0_kindOf_103 (fun H locs h => ?_)
      refine lv_aload_n hx hb dX0_kindOf_106 rfl (lv_at hl 0 rfl) ?_
      refine rg_X0_11 C h dX0_kindOf_107 ?_
      refine lv_iload_n hx hb dX0_kindOf_110 rfl (lv_at hl 3 rfl) ?_
      refine lv_aload_n hx hb dX0_kindOf_111 rfl (lv_at hl 0 rfl) ?_
      refine rg_X0_25 C h dX0_kindOf_112 ?_
      refine tI (y := nI ((K) + (1))) rfl ?_
      refine stA 14 rfl (j := sp) (x := nI ((K) + (1))) (show sp < 512 by omega) (by decide) C h dX0_kindOf_115 (fun H locs h => ?_)
      refine lv_aload_n hx hb dX0_kindOf_116 rfl (lv_at hl 0 rfl) ?_
      refine rg_X0_11 C h dX0_kindOf_117 ?_
      refine lv_iload_n hx hb dX0_kindOf_120 rfl (lv_at hl 3 rfl) ?_
      refine ldA 14 rfl (j := sp) (show sp < 512 by omega) (by decide) C h dX0_kindOf_121 ?_
      refine tI (y := nI (K + 1)) pk_us ?_
      refine lv_iconst (v := nI (1)) hx hb dX0_kindOf_122 (by decide) ?_
      refine lv_isub hx hb dX0_kindOf_123 ?_
      refine tI (pk_sub (by omega)) ?_
      exact rI C hr hlk h dX0_kindOf_124 (Nat.le_of_ble_eq_true rfl) (Nat.le_of_ble_eq_true rfl) (⟨K, rfl, Or.inr ⟨rfl, hno, upd (ar 14) sp (nI (K + 1)), by rw [h2]; exact slI_new hs0 hK4 hp0 ht e1 (fun t2 q => (hpr t2 q).1) hno, rfl⟩⟩)
    · skip
      refine lv_aload_n hx hb dX0_kindOf_38 rfl (lv_at hl 0 rfl) ?_
      refine rg_X0_19 C h dX0_kindOf_39 ?_
      refine lv_aload_n hx hb dX0_kindOf_42 rfl (lv_at hl 0 rfl) ?_
      refine rg_X0_11 C h dX0_kindOf_43 ?_
      refine lv_iload_n hx hb dX0_kindOf_46 rfl (lv_at hl 3 rfl) ?_
      refine ldA 14 rfl (j := sp) (show sp < 512 by omega) (by decide) C h dX0_kindOf_47 ?_
      refine tI (y := nI (r0)) er ?_
      refine lv_iconst (v := nI (1)) hx hb dX0_kindOf_48 (by decide) ?_
      refine lv_isub hx hb dX0_kindOf_49 ?_
      refine tI (pk_sub (by omega)) ?_
      refine ldA 15 rfl (j := (r0) - (1)) (show (r0) - (1) < 400 by omega) (by decide) C h dX0_kindOf_50 ?_
      refine tI (y := (ar 15) ((r0) - (1))) rfl ?_
      refine lv_iload_n hx hb dX0_kindOf_51 rfl (lv_at hl 1 rfl) ?_
      refine lv_icmp_eq (tgt := 67) hx hb dX0_kindOf_52 (by decide) (fun c_52 => ?_) (fun c_52 => ?_)
      · skip
        refine lv_aload_n hx hb dX0_kindOf_67 rfl (lv_at hl 0 rfl) ?_
        refine rg_X0_11 C h dX0_kindOf_68 ?_
        refine lv_iload_n hx hb dX0_kindOf_71 rfl (lv_at hl 3 rfl) ?_
        refine ldA 14 rfl (j := sp) (show sp < 512 by omega) (by decide) C h dX0_kindOf_72 ?_
        refine tI (y := nI (r0)) er ?_
        refine zN_ne (tgt := 116) (a := r0) C (by omega) dX0_kindOf_73 (by decide) (fun c_73 => ?_) (fun c_73 => ?_)
        · skip
          refine lv_aload_n hx hb dX0_kindOf_116 rfl (lv_at hl 0 rfl) ?_
          refine rg_X0_11 C h dX0_kindOf_117 ?_
          refine lv_iload_n hx hb dX0_kindOf_120 rfl (lv_at hl 3 rfl) ?_
          refine ldA 14 rfl (j := sp) (show sp < 512 by omega) (by decide) C h dX0_kindOf_121 ?_
          refine tI (y := nI (r0)) er ?_
          refine lv_iconst (v := nI (1)) hx hb dX0_kindOf_122 (by decide) ?_
          refine lv_isub hx hb dX0_kindOf_123 ?_
          refine tI (pk_sub (by omega)) ?_
          exact rI C hr hlk h dX0_kindOf_124 (Nat.le_of_ble_eq_true rfl) (Nat.le_of_ble_eq_true rfl) (⟨r0 - 1, rfl, Or.inl ⟨by omega, c_52, rfl⟩⟩)
        · skip
          exact absurd c_73 (by omega)
      · skip
        refine lv_iload_n hx hb dX0_kindOf_55 rfl (lv_at hl 3 rfl) ?_
        refine lv_iconst (v := nI (1)) hx hb dX0_kindOf_56 (by decide) ?_
        refine lv_iadd hx hb dX0_kindOf_57 ?_
        refine tI (nI_add _ _) ?_
        refine lv_iload_n hx hb dX0_kindOf_58 rfl (lv_at hl 2 rfl) ?_
        refine lv_irem hx hb dX0_kindOf_59 (nI_ne0 (by omega) (by omega)) ?_
        refine tI (pk_rem (by omega) (by omega) (by omega)) ?_
        refine lv_istore_n (lv' := [(3, .int (nI (((sp) + (1)) % (2 ^ b)))), (0, .ref (zad z 3)), (1, .int (x)), (2, .int (nI (2 ^ b))), (4, .int (nI (t)))]) hx hb dX0_kindOf_60 rfl hl (by decide) rfl (fun ls hl => ?_)
        refine lv_iinc (v := nI (t + 1)) (lv' := [(4, .int (nI (t + 1))), (3, .int (nI (((sp) + (1)) % (2 ^ b)))), (0, .ref (zad z 3)), (1, .int (x)), (2, .int (nI (2 ^ b)))]) hx hb dX0_kindOf_61 hl (k := 4) rfl (nN_inc _) (by decide) rfl (fun ls hl => ?_)
        refine lv_goto (tgt := 23) hx hb dX0_kindOf_64 (by decide) ?_
        exact ih_23 (t + 1) ((sp + 1) % 2 ^ b) (by omega) H locs ls ⟨by omega, by rw [h2, Nat.mod_add_mod, Nat.add_assoc], fun t2 q => by rcases Nat.lt_succ_iff_lt_or_eq.mp q with q | q; exact hpr t2 q; rw [q, ← h2]; exact ⟨fun e => by have := (nI_eq (by omega) (by decide)).mp (er.symm.trans e); omega, fun r h3 h4 e => by have := (nI_eq (by omega) (by omega)).mp (er.symm.trans e); rw [← this]; exact c_52⟩, h, lv_sub hl [2, 3, 4, 1, 0] rfl⟩
