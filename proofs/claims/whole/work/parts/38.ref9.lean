/-! The reference: reading back, sums and the best run. -/
theorem told0 (d : Nat) (x : Int32) : toldI d x 0 = x := by
  unfold toldI
  split
  · exact Int32.sub_zero _
  · rfl
theorem up_51 {ar : Nat → Nat → Int32} {f g t : Nat → Int32} : va_up (va_up (va_up ar 51 f) 52 t) 51 g = va_up (va_up ar 51 g) 52 t := by
  funext k
  by_cases h1 : k = 51
  · subst h1; rw [va_up_self, va_up_ne _ _ (by decide), va_up_self]
  · by_cases h2 : k = 52
    · subst h2; rw [va_up_ne _ _ h1, va_up_self, va_up_self]
    · rw [va_up_ne _ _ h1, va_up_ne _ _ h2, va_up_ne _ _ h1, va_up_ne _ _ h2, va_up_ne _ _ h1]
theorem up_52 {ar : Nat → Nat → Int32} {f g t u : Nat → Int32} : va_up (va_up (va_up (va_up ar 51 f) 52 t) 51 g) 52 u = va_up (va_up ar 51 g) 52 u := by
  rw [up_51, va_uu]
theorem tlS_bd {bl : Int32 → Int32 → Option Nat} {R : Nat → Int32} {N n x : Nat} (hbl : ∀ x y q, bl x y = some q → q ≤ 5) (hN : N ≤ 400) (h : tlS bl R N n = some x) : x ≤ 2005 := by
  unfold tlS at h
  split at h
  · cases h; omega
  · have := oadd_bd (A := 5 * (N - (n + 1))) (B := 5) h (chS_bd hbl _) (hbl _ _)
    omega
abbrev B4 : Type := Nat × Nat × Nat × Nat
def up4 (o c : Option B4) : Option B4 := match c with
  | none => o
  | some y => match o with
    | none => some y
    | some q => if y.1 < q.1 then some y else some q
def foB (tl : Nat → Option Nat) (n a x : Nat) (o : Option B4) : Nat → Option B4
  | 0 => o
  | k + 1 => up4 (foB tl n a x o k) ((tl k).map (fun y => (x + y, n, a, k)))
def foA (hd tl : Nat → Option Nat) (K n : Nat) (o : Option B4) : Nat → Option B4
  | 0 => o
  | k + 1 => match hd k with
    | none => foA hd tl K n o k
    | some x => foB tl n k x (foA hd tl K n o k) K
def foN (hd tl : Nat → Nat → Option Nat) (K : Nat) : Nat → Option B4
  | 0 => none
  | n + 1 => foA (hd n) (tl n) K n (foN hd tl K n) K
def hdO (wt : Nat → Nat → Nat) (R : Nat → Int32) (n a : Nat) : Option Nat := if wt a 0 = 0 then hdS (blC (wt a 1) (wt a 2) (wt a 3) (wt a 4)) R n else none
def tlO (wt : Nat → Nat → Nat) (R : Nat → Int32) (N n b : Nat) : Option Nat := if wt b 0 = 0 then tlS (blC (wt b 1) (wt b 2) (wt b 3) (wt b 4)) R N n else none
def bW (sc : Nat → Int32) (o : Option B4) : Nat → Int32 := match o with
  | none => sc
  | some x => va_up (va_up (va_up sc 26 (nI x.2.1)) 27 (nI x.2.2.1)) 28 (nI x.2.2.2)
theorem bW_up {sc : Nat → Int32} {o : Option B4} {x n a b : Nat} : va_up (va_up (va_up (bW sc o) 26 (nI n)) 27 (nI a)) 28 (nI b) = bW sc (some (x, n, a, b)) := by
  cases o with
  | none => rfl
  | some q =>
    show va_up (va_up (va_up (va_up (va_up (va_up sc 26 _) 27 _) 28 _) 26 _) 27 _) 28 _ = va_up (va_up (va_up sc 26 _) 27 _) 28 _
    funext k
    by_cases h1 : k = 28
    · subst h1; rw [va_up_self, va_up_self]
    · by_cases h2 : k = 27
      · subst h2; rw [va_up_ne _ _ h1, va_up_self, va_up_ne _ _ h1, va_up_self]
      · by_cases h3 : k = 26
        · subst h3; rw [va_up_ne _ _ h1, va_up_ne _ _ h2, va_up_self, va_up_ne _ _ h1, va_up_ne _ _ h2, va_up_self]
        · simp only [va_up_ne _ _ h1, va_up_ne _ _ h2, va_up_ne _ _ h3]
theorem bW_o {sc : Nat → Int32} {o : Option B4} {i : Nat} (h : i < 26) : bW sc o i = sc i := by
  cases o with
  | none => rfl
  | some q => show va_up (va_up (va_up sc 26 _) 27 _) 28 _ i = _; rw [va_up_ne _ _ (by omega), va_up_ne _ _ (by omega), va_up_ne _ _ (by omega)]
theorem hdO_s {wt : Nat → Nat → Nat} {R : Nat → Int32} {n a x : Nat} (h : hdO wt R n a = some x) : wt a 0 = 0 ∧ hdS (blC (wt a 1) (wt a 2) (wt a 3) (wt a 4)) R n = some x := by
  unfold hdO at h
  split at h
  · exact ⟨by assumption, h⟩
  · cases h
theorem hdO_n {wt : Nat → Nat → Nat} {R : Nat → Int32} {n a : Nat} (h : hdO wt R n a = none) (h0 : wt a 0 = 0) : hdS (blC (wt a 1) (wt a 2) (wt a 3) (wt a 4)) R n = none := by
  unfold hdO at h
  rw [if_pos h0] at h
  exact h
theorem tlO_s {wt : Nat → Nat → Nat} {R : Nat → Int32} {N n a x : Nat} (h : tlO wt R N n a = some x) : wt a 0 = 0 ∧ tlS (blC (wt a 1) (wt a 2) (wt a 3) (wt a 4)) R N n = some x := by
  unfold tlO at h
  split at h
  · exact ⟨by assumption, h⟩
  · cases h
theorem tlO_n {wt : Nat → Nat → Nat} {R : Nat → Int32} {N n a : Nat} (h : tlO wt R N n a = none) (h0 : wt a 0 = 0) : tlS (blC (wt a 1) (wt a 2) (wt a 3) (wt a 4)) R N n = none := by
  unfold tlO at h
  rw [if_pos h0] at h
  exact h
theorem foB_s {tl : Nat → Option Nat} {n a x k : Nat} {o o1 : Option B4} (h : o1 = foB tl n a x o k) : up4 o1 ((tl k).map (fun y => (x + y, n, a, k))) = foB tl n a x o (k + 1) := by rw [h]; rfl
theorem foA_n {hd tl : Nat → Option Nat} {K n k : Nat} {o : Option B4} (h : hd k = none) : foA hd tl K n o (k + 1) = foA hd tl K n o k := by
  show (match hd k with | none => foA hd tl K n o k | some x => foB tl n k x (foA hd tl K n o k) K) = _
  rw [h]
theorem foA_s {hd tl : Nat → Option Nat} {K n k x : Nat} {o : Option B4} (h : hd k = some x) : foA hd tl K n o (k + 1) = foB tl n k x (foA hd tl K n o k) K := by
  show (match hd k with | none => foA hd tl K n o k | some x => foB tl n k x (foA hd tl K n o k) K) = _
  rw [h]
set_option maxHeartbeats 4000000 in
set_option maxRecDepth 100000 in
theorem r_sums (l : Launch) (z : bZ) (v : bV) (sc : Nat → Int32) (ar : Nat → Nat → Int32) (K N w f : Nat) (wt : Nat → Nat → Nat) (dp : Nat → Nat) (hK4 : K ≤ 40) (hRW : RW wt dp K ar) (hw : w < K) (hw0 : wt w 0 = 0) (hf : f = 401 * w) (hN : sc 22 = nI N) (hN4 : N ≤ 400) : Met l yX10_sums (Cond.code yX10_sums cX10_sums 7 none :: uW) { frames := 2, cells := 0, slots := 0, locals := 54 } (pC z v sc ar [.ref (zad z 27), .int (nI (w))]) (qV z (fun u => ∃ A B, u = (v, sc, va_up (va_up ar 51 A) 52 B) ∧ (∀ q, q ≤ N → A (f + q) = oI (hdS (blC (wt w 1) (wt w 2) (wt w 3) (wt w 4)) (ar 34) q)) ∧ (∀ q, q ≤ N → B (f + q) = oI (tlS (blC (wt w 1) (wt w 2) (wt w 3) (wt w 4)) (ar 34) N q)) ∧ ∀ q, ¬ (f ≤ q ∧ q < f + 401) → A q = ar 51 q ∧ B q = ar 52 q)) 0 0 (zA z) := by
  refine eM (by decide) (Nat.le_of_ble_eq_true rfl) ?_
  intro pP eE s mM below meth cC ls C hr hlk h hl
  have hx := C.1.1
  have hb := C.1.2.1
  have hl : lv_has ls 7 [(0, .ref (zad z 27)), (1, .int (nI (w)))] := hl
  obtain ⟨⟨hB1, hB5⟩, ⟨hH1, hH2⟩, hS, hD, -⟩ := codOK (hRW w hw).2.2.2.2.2.2 hw0
  refine lv_sipush (v := nI (401)) hx hb dX10_sums_0 (by decide) ?_
  refine lv_iload_n hx hb dX10_sums_3 rfl (lv_at hl 1 rfl) ?_
  refine lv_imul hx hb dX10_sums_4 ?_
  refine tI (y := nI (f)) (by rw [pk_mul, hf]) ?_
  refine lv_istore_n (lv' := [(2, .int (nI (f))), (0, .ref (zad z 27)), (1, .int (nI (w)))]) hx hb dX10_sums_5 rfl hl (by decide) rfl (fun ls hl => ?_)
  refine lv_aload_n hx hb dX10_sums_6 rfl (lv_at hl 1 rfl) ?_
  refine rg_X10_93 C h dX10_sums_7 ?_
  refine lv_iload_n hx hb dX10_sums_10 rfl (lv_at hl 0 rfl) ?_
  refine lv_iconst (v := nI (0)) hx hb dX10_sums_11 (by decide) ?_
  refine stA 51 rfl (j := f) (x := nI (0)) (show f < 16040 by omega) (by decide) C h dX10_sums_12 (fun H locs h => ?_)
  refine lv_aload_n hx hb dX10_sums_13 rfl (lv_at hl 1 rfl) ?_
  refine rg_X10_96 C h dX10_sums_14 ?_
  refine lv_iload_n hx hb dX10_sums_17 rfl (lv_at hl 0 rfl) ?_
  refine lv_aload_n hx hb dX10_sums_18 rfl (lv_at hl 1 rfl) ?_
  refine rg_X10_120 C h dX10_sums_19 ?_
  refine tI (y := nI (N)) hN ?_
  refine lv_iadd hx hb dX10_sums_22 ?_
  refine tI (y := nI (f + N)) (nI_add _ _) ?_
  refine lv_iconst (v := nI (0)) hx hb dX10_sums_23 (by decide) ?_
  refine stA 52 rfl (j := f + N) (x := nI (0)) (show f + N < 16040 by omega) (by decide) C h dX10_sums_24 (fun H locs h => ?_)
  refine lv_iconst (v := nI (0)) hx hb dX10_sums_25 (by decide) ?_
  refine lv_istore_n (lv' := [(3, .int (nI (0))), (2, .int (nI (f))), (0, .ref (zad z 27)), (1, .int (nI (w)))]) hx hb dX10_sums_26 rfl hl (by decide) rfl (fun ls hl => ?_)
  refine lpW2 (fun (k : Nat) (A : Nat → Int32) (H : Heap) (locs : List Loc) (ls : Array Slot) => (k ≤ N) ∧ (∀ q, q ≤ k → A (f + q) = oI (hdS (blC (wt w 1) (wt w 2) (wt w 3) (wt w 4)) (ar 34) q)) ∧ (∀ q, ¬ (f ≤ q ∧ q < f + 401) → A q = ar 51 q) ∧ hH z v sc (va_up (va_up ar 51 A) 52 (upd (ar 52) (f + N) (nI 0))) s H locs ∧ lv_has ls 7 [(0, .ref (zad z 27)), (1, .int (nI (w))), (2, .int (nI (f))), (3, .int (nI (k)))]) (fun (k : Nat) (A : Nat → Int32) => N - k) (fun k A ih_27 H locs ls hI => ?_) (0) (upd (ar 51) f (nI 0)) ⟨Nat.zero_le _, (fun q hq => by rw [show q = 0 by omega, Nat.add_zero, pk_us]; rfl), fun q hq => pk_un (by omega), h, lv_sub hl [2, 3, 1, 0] rfl⟩
  obtain ⟨h1, h2, h3, h, hl⟩ := hI
  refine lv_iload_n hx hb dX10_sums_27 rfl (lv_at hl 3 rfl) ?_
  refine lv_aload_n hx hb dX10_sums_28 rfl (lv_at hl 0 rfl) ?_
  refine rg_X10_120 C h dX10_sums_29 ?_
  refine tI (y := nI (N)) hN ?_
  refine jN_ge (tgt := 117) (a := k) (b := N) C (by omega) (by omega) dX10_sums_32 (by decide) (fun c_32 => ?_) (fun c_32 => ?_)
  · skip
    refine lv_iconst (v := nI (0)) hx hb dX10_sums_117 (by decide) ?_
    refine lv_istore_n (lv' := [(3, .int (nI (0))), (0, .ref (zad z 27)), (1, .int (nI (w))), (2, .int (nI (f)))]) hx hb dX10_sums_118 rfl hl (by decide) rfl (fun ls hl => ?_)
    refine lv_aload_n hx hb dX10_sums_119 rfl (lv_at hl 1 rfl) ?_
    refine rg_X10_120 C h dX10_sums_120 ?_
    refine tI (y := nI (N)) hN ?_
    refine lv_iconst (v := nI (1)) hx hb dX10_sums_123 (by decide) ?_
    refine lv_isub hx hb dX10_sums_124 ?_
    refine tI (y := nI (N) - 1) rfl ?_
    refine lv_istore (lv' := [(4, .int (nI (N) - 1)), (3, .int (nI (0))), (0, .ref (zad z 27)), (1, .int (nI (w))), (2, .int (nI (f)))]) hx hb dX10_sums_125 hl (by decide) rfl (fun ls hl => ?_)
    refine lpW3 (fun (m : Nat) (o : Option Nat) (g : Nat → Int32) (H : Heap) (locs : List Loc) (ls : Array Slot) => (m ≤ N) ∧ (1 ≤ m → o = chS (blC (wt w 1) (wt w 2) (wt w 3) (wt w 4)) (ar 34) N (N - m)) ∧ (∀ q, o = some q → q ≤ 2000) ∧ (∀ q, q ≤ N → m ≤ q → g (f + q) = oI (tlS (blC (wt w 1) (wt w 2) (wt w 3) (wt w 4)) (ar 34) N q)) ∧ (∀ q, ¬ (f ≤ q ∧ q < f + 401) → g q = ar 52 q) ∧ hH z v sc (va_up (va_up ar 51 A) 52 g) s H locs ∧ lv_has ls 7 [(0, .ref (zad z 27)), (1, .int (nI (w))), (2, .int (nI (f))), (3, .int (oI o)), (4, .int (nI m - 1))]) (fun (m : Nat) (o : Option Nat) (g : Nat → Int32) => m) (fun m o g ih_127 H locs ls hI => ?_) (N) (some 0) (upd (ar 52) (f + N) (nI 0)) ⟨Nat.le_refl _, fun _ => by rw [Nat.sub_self]; rfl, (fun q e => by cases e; decide), (fun q hq hm => by rw [show q = N by omega, pk_us]; unfold tlS; rw [if_pos rfl]; rfl), fun q hq => pk_un (by omega), h, lv_sub hl [2, 3, 4, 1, 0] rfl⟩
    obtain ⟨h1b, h2o, hob, h4, h5, h, hl⟩ := hI
    refine lv_iload hx hb dX10_sums_127 (lv_at hl 4 rfl) ?_
    refine lv_if_lt (tgt := 235) hx hb dX10_sums_129 (by decide) (fun c_129 => ?_) (fun c_129 => ?_)
    · skip
      have hm : m = 0 := by
        rcases m with _ | q
        · rfl
        · rw [show nI (q + 1) - 1 = nI q from pk_sub (a := q + 1) (b := 1) (by omega)] at c_129
          exact absurd ((nN_lt (b := 0) (by omega) (by decide)).mp c_129) (Nat.not_lt_zero _)
      exact rV C hr hlk h dX10_sums_235 (Nat.le_of_ble_eq_true rfl) (Nat.le_of_ble_eq_true rfl) (⟨A, g, rfl, fun q hq => h2 q (by omega), fun q hq => h4 q hq (by omega), fun q hq => ⟨h3 q hq, h5 q hq⟩⟩)
    · skip
      have hm : 1 ≤ m := by
        rcases m with _ | q
        · exact absurd (by decide : (nI 0 - 1 : Int32) < 0) c_129
        · omega
      have hA2 := h2
      have h2 := h2o
      have htl : tlS (blC (wt w 1) (wt w 2) (wt w 3) (wt w 4)) (ar 34) N (m - 1) = oadd o ((blC (wt w 1) (wt w 2) (wt w 3) (wt w 4)) (ar 34 (m - 1)) 0) := by unfold tlS; rw [if_neg (by omega), show m - 1 + 1 = m by omega, ← h2 hm]
      have hl : lv_has ls 7 [(0, .ref (zad z 27)), (1, .int (nI (w))), (2, .int (nI (f))), (3, .int (oI o)), (4, .int (nI (m - 1)))] := by rw [show nI m - 1 = nI (m - 1) from pk_sub (a := m) (b := 1) (by omega)] at hl; exact hl
      refine lv_aload_n hx hb dX10_sums_132 rfl (lv_at hl 0 rfl) ?_
      refine lv_iload_n hx hb dX10_sums_133 rfl (lv_at hl 1 rfl) ?_
      refine lv_aload_n hx hb dX10_sums_134 rfl (lv_at hl 0 rfl) ?_
      refine rg_X10_28 C h dX10_sums_135 ?_
      refine lv_iload hx hb dX10_sums_138 (lv_at hl 4 rfl) ?_
      refine ldA 34 rfl (j := m - 1) (show m - 1 < 400 by omega) (by decide) C h dX10_sums_140 ?_
      refine tI (y := ar 34 (m - 1)) rfl ?_
      refine lv_iconst (v := nI (0)) hx hb dX10_sums_141 (by decide) ?_
      refine backI h (runV (As := [.int (nI (w)), .int (ar 34 (m - 1)), .int (nI (0))]) (rest := []) C h (r_bytesF l z v sc (va_up (va_up ar 51 A) 52 g) K w 0 wt dp (ar 34 (m - 1)) hK4 (hRW.fr2 (fun k hk => (va_up_ne _ _ (by omega)).trans (va_up_ne _ _ (by omega)))) hw hw0) gv_X10_161 gv_X10_161_n ⟨rfl, rfl⟩ (r_Ref C h) rfl hl.1 rfl (Nat.le_of_ble_eq_true rfl) dX10_sums_142 ⟨Nat.le_of_ble_eq_true rfl, Nat.le_of_ble_eq_true rfl⟩ ⟨Nat.le_of_ble_eq_true rfl, Nat.le_of_ble_eq_true rfl⟩) (fun r_142 v_142 sc_142 ar_142 H locs p_142 h => ?_)
      obtain ⟨er_t1, ps_t1, eu_t1, hpl_t1, hps_t1⟩ := p_142
      have h : hH z v sc (va_up (va_up ar 51 A) 52 g) s H locs := uEq eu_t1 h
      rcases ho_t1 : ((cdO (wt w 3) (ar 34 (m - 1))).bind (enc (wt w 1) (wt w 2))) with _ | t1
      · skip
        rw [ho_t1] at er_t1
        refine tI (y := nI 0) er_t1 ?_
        refine lv_istore (lv' := [(5, .int (nI (0))), (0, .ref (zad z 27)), (1, .int (nI (w))), (2, .int (nI (f))), (3, .int (oI o)), (4, .int (nI (m - 1)))]) hx hb dX10_sums_145 hl (by decide) rfl (fun ls hl => ?_)
        rcases o with _ | b0
        · skip
          have hl : lv_has ls 7 [(5, .int (nI (0))), (0, .ref (zad z 27)), (1, .int (nI (w))), (2, .int (nI (f))), (3, .int ((-1))), (4, .int (nI (m - 1)))] := hl
          refine lv_aload_n hx hb dX10_sums_147 rfl (lv_at hl 1 rfl) ?_
          refine rg_X10_96 C h dX10_sums_148 ?_
          refine lv_iload_n hx hb dX10_sums_151 rfl (lv_at hl 3 rfl) ?_
          refine lv_iload hx hb dX10_sums_152 (lv_at hl 5 rfl) ?_
          refine lv_iadd hx hb dX10_sums_154 ?_
          refine tI (y := nI (f + (m - 1))) (nI_add _ _) ?_
          refine lv_iload_n hx hb dX10_sums_155 rfl (lv_at hl 4 rfl) ?_
          refine lv_if_lt (tgt := 164) hx hb dX10_sums_156 (by decide) (fun c_156 => ?_) (fun c_156 => ?_)
          · skip
            refine lv_iconst (v := (-1)) hx hb dX10_sums_164 (by decide) ?_
            refine lv_goto (tgt := 172) hx hb dX10_sums_165 (by decide) ?_
            refine stA 52 rfl (j := f + (m - 1)) (x := (-1)) (show f + (m - 1) < 16040 by omega) (by decide) C h dX10_sums_172 (fun H locs h => ?_)
            rw [va_uu] at h
            have h : hH z v sc (va_up (va_up ar 51 A) 52 (upd (g) (f + (m - 1)) ((-1)))) s H locs := h
            refine lv_iload hx hb dX10_sums_173 (lv_at hl 5 rfl) ?_
            refine zN_ne (tgt := 182) (a := m - 1) C (by omega) dX10_sums_175 (by decide) (fun c_175 => ?_) (fun c_175 => ?_)
            · skip
              refine lv_aload_n hx hb dX10_sums_182 rfl (lv_at hl 1 rfl) ?_
              refine lv_iload_n hx hb dX10_sums_183 rfl (lv_at hl 2 rfl) ?_
              refine lv_aload_n hx hb dX10_sums_184 rfl (lv_at hl 1 rfl) ?_
              refine lv_iload_n hx hb dX10_sums_185 rfl (lv_at hl 2 rfl) ?_
              refine lv_aload_n hx hb dX10_sums_186 rfl (lv_at hl 1 rfl) ?_
              refine rg_X10_28 C h dX10_sums_187 ?_
              refine lv_iload hx hb dX10_sums_190 (lv_at hl 5 rfl) ?_
              refine ldA 34 rfl (j := m - 1) (show m - 1 < 400 by omega) (by decide) C h dX10_sums_192 ?_
              refine tI (y := ar 34 (m - 1)) rfl ?_
              refine lv_aload_n hx hb dX10_sums_193 rfl (lv_at hl 1 rfl) ?_
              refine rg_X10_28 C h dX10_sums_194 ?_
              refine lv_iload hx hb dX10_sums_197 (lv_at hl 5 rfl) ?_
              refine lv_iconst (v := nI (1)) hx hb dX10_sums_199 (by decide) ?_
              refine lv_isub hx hb dX10_sums_200 ?_
              refine tI (y := nI (m - 1 - 1)) (pk_sub (by omega)) ?_
              refine ldA 34 rfl (j := m - 1 - 1) (show m - 1 - 1 < 400 by omega) (by decide) C h dX10_sums_201 ?_
              refine tI (y := ar 34 (m - 1 - 1)) rfl ?_
              refine backI h (runV (As := [.int (nI (w)), .int (ar 34 (m - 1)), .int (ar 34 (m - 1 - 1))]) (rest := [.int (nI (w)), .ref (zad z 27)]) C h (r_told l z v sc (va_up (va_up ar 51 A) 52 (upd (g) (f + (m - 1)) ((-1)))) K w wt dp (ar 34 (m - 1)) (ar 34 (m - 1 - 1)) hK4 (hRW.fr2 (fun k hk => (va_up_ne _ _ (by omega)).trans (va_up_ne _ _ (by omega)))) hw hw0) gv_X10_157 gv_X10_157_n ⟨rfl, rfl⟩ (r_Ref C h) rfl hl.1 rfl (Nat.le_of_ble_eq_true rfl) dX10_sums_202 ⟨Nat.le_of_ble_eq_true rfl, Nat.le_of_ble_eq_true rfl⟩ ⟨Nat.le_of_ble_eq_true rfl, Nat.le_of_ble_eq_true rfl⟩) (fun r_202 v_202 sc_202 ar_202 H locs p_202 h => ?_)
              have h : hH z v sc (va_up (va_up ar 51 A) 52 (upd (g) (f + (m - 1)) ((-1)))) s H locs := uEq p_202.2 h
              refine tI (y := toldI (wt w 4) (ar 34 (m - 1)) (ar 34 (m - 1 - 1))) p_202.1 ?_
              refine lv_iconst (v := nI (0)) hx hb dX10_sums_205 (by decide) ?_
              refine backI h (runV (As := [.int (nI (w)), .int (toldI (wt w 4) (ar 34 (m - 1)) (ar 34 (m - 1 - 1))), .int (nI (0))]) (rest := []) C h (r_bytesF l z v sc (va_up (va_up ar 51 A) 52 (upd (g) (f + (m - 1)) ((-1)))) K w 0 wt dp (toldI (wt w 4) (ar 34 (m - 1)) (ar 34 (m - 1 - 1))) hK4 (hRW.fr2 (fun k hk => (va_up_ne _ _ (by omega)).trans (va_up_ne _ _ (by omega)))) hw hw0) gv_X10_161 gv_X10_161_n ⟨rfl, rfl⟩ (r_Ref C h) rfl hl.1 rfl (Nat.le_of_ble_eq_true rfl) dX10_sums_206 ⟨Nat.le_of_ble_eq_true rfl, Nat.le_of_ble_eq_true rfl⟩ ⟨Nat.le_of_ble_eq_true rfl, Nat.le_of_ble_eq_true rfl⟩) (fun r_206 v_206 sc_206 ar_206 H locs p_206 h => ?_)
              obtain ⟨er_t2, ps_t2, eu_t2, hpl_t2, hps_t2⟩ := p_206
              have h : hH z v sc (va_up (va_up ar 51 A) 52 (upd (g) (f + (m - 1)) ((-1)))) s H locs := uEq eu_t2 h
              rcases ho_t2 : ((cdO (wt w 3) (toldI (wt w 4) (ar 34 (m - 1)) (ar 34 (m - 1 - 1)))).bind (enc (wt w 1) (wt w 2))) with _ | t2
              · skip
                rw [ho_t2] at er_t2
                refine tI (y := nI 0) er_t2 ?_
                refine lv_istore (lv' := [(6, .int (nI (0))), (5, .int (nI (0))), (0, .ref (zad z 27)), (1, .int (nI (w))), (2, .int (nI (f))), (3, .int ((-1))), (4, .int (nI (m - 1)))]) hx hb dX10_sums_209 hl (by decide) rfl (fun ls hl => ?_)
                refine lv_iload_n hx hb dX10_sums_211 rfl (lv_at hl 5 rfl) ?_
                refine lv_if_lt (tgt := 220) hx hb dX10_sums_212 (by decide) (fun c_212 => ?_) (fun c_212 => ?_)
                · skip
                  refine lv_iconst (v := (-1)) hx hb dX10_sums_220 (by decide) ?_
                  refine lv_goto (tgt := 228) hx hb dX10_sums_221 (by decide) ?_
                  refine lv_istore_n (lv' := [(3, .int ((-1))), (6, .int (nI (0))), (5, .int (nI (0))), (0, .ref (zad z 27)), (1, .int (nI (w))), (2, .int (nI (f))), (4, .int (nI (m - 1)))]) hx hb dX10_sums_228 rfl hl (by decide) rfl (fun ls hl => ?_)
                  refine lv_iinc (v := nI (m - 1) - 1) (lv' := [(4, .int (nI (m - 1) - 1)), (3, .int ((-1))), (6, .int (nI (0))), (5, .int (nI (0))), (0, .ref (zad z 27)), (1, .int (nI (w))), (2, .int (nI (f)))]) hx hb dX10_sums_229 hl (k := 6) rfl (decI _) (by decide) rfl (fun ls hl => ?_)
                  refine lv_goto (tgt := 127) hx hb dX10_sums_232 (by decide) ?_
                  exact ih_127 (m - 1) (none) (upd (g) (f + (m - 1)) ((-1))) (by omega) H locs ls ⟨by omega, fun _ => (by rw [show N - (m - 1) = N - m + 1 by omega, show chS (blC (wt w 1) (wt w 2) (wt w 3) (wt w 4)) (ar 34) N (N - m + 1) = oadd (chS (blC (wt w 1) (wt w 2) (wt w 3) (wt w 4)) (ar 34) N (N - m)) ((blC (wt w 1) (wt w 2) (wt w 3) (wt w 4)) (ar 34 (N - (N - m + 1))) (ar 34 (N - (N - m + 1) - 1))) from rfl, ← h2 hm, show N - (N - m + 1) = m - 1 by omega]; rfl), (fun q e => by cases e), fun q hq hm2 => (by by_cases e : q = m - 1; rw [e, pk_us]; exact (by rw [htl, show (blC (wt w 1) (wt w 2) (wt w 3) (wt w 4)) (ar 34 (m - 1)) 0 = none from (show ((cdO (wt w 3) (toldI (wt w 4) (ar 34 (m - 1)) 0)).bind (enc (wt w 1) (wt w 2))).map List.length = _ by rw [told0, ho_t1]; rfl)]; rfl); rw [pk_un (by omega)]; exact h4 q hq (by omega)), fun q hq => (by rw [pk_un (by omega)]; exact h5 q hq), h, lv_sub hl [4, 5, 6, 1, 0] rfl⟩
                · skip
                  exact absurd (by decide : (-1 : Int32) < 0) c_212
              · skip
                rw [ho_t2] at er_t2
                have h5_t2 := hps_t2 t2 ho_t2
                rw [h5_t2] at hpl_t2
                have h1_t2 : 1 ≤ t2.length := by
                  cases hcd : cdO (wt w 3) (toldI (wt w 4) (ar 34 (m - 1)) (ar 34 (m - 1 - 1))) with
                  | none => rw [hcd] at ho_t2; cases ho_t2
                  | some q => rw [hcd] at ho_t2; exact enc_pos _ _ _ ho_t2
                refine tI (y := nI t2.length) er_t2 ?_
                refine lv_istore (lv' := [(6, .int (nI (t2.length))), (5, .int (nI (0))), (0, .ref (zad z 27)), (1, .int (nI (w))), (2, .int (nI (f))), (3, .int ((-1))), (4, .int (nI (m - 1)))]) hx hb dX10_sums_209 hl (by decide) rfl (fun ls hl => ?_)
                refine lv_iload_n hx hb dX10_sums_211 rfl (lv_at hl 5 rfl) ?_
                refine lv_if_lt (tgt := 220) hx hb dX10_sums_212 (by decide) (fun c_212 => ?_) (fun c_212 => ?_)
                · skip
                  refine lv_iconst (v := (-1)) hx hb dX10_sums_220 (by decide) ?_
                  refine lv_goto (tgt := 228) hx hb dX10_sums_221 (by decide) ?_
                  refine lv_istore_n (lv' := [(3, .int ((-1))), (6, .int (nI (t2.length))), (5, .int (nI (0))), (0, .ref (zad z 27)), (1, .int (nI (w))), (2, .int (nI (f))), (4, .int (nI (m - 1)))]) hx hb dX10_sums_228 rfl hl (by decide) rfl (fun ls hl => ?_)
                  refine lv_iinc (v := nI (m - 1) - 1) (lv' := [(4, .int (nI (m - 1) - 1)), (3, .int ((-1))), (6, .int (nI (t2.length))), (5, .int (nI (0))), (0, .ref (zad z 27)), (1, .int (nI (w))), (2, .int (nI (f)))]) hx hb dX10_sums_229 hl (k := 6) rfl (decI _) (by decide) rfl (fun ls hl => ?_)
                  refine lv_goto (tgt := 127) hx hb dX10_sums_232 (by decide) ?_
                  exact ih_127 (m - 1) (none) (upd (g) (f + (m - 1)) ((-1))) (by omega) H locs ls ⟨by omega, fun _ => (by rw [show N - (m - 1) = N - m + 1 by omega, show chS (blC (wt w 1) (wt w 2) (wt w 3) (wt w 4)) (ar 34) N (N - m + 1) = oadd (chS (blC (wt w 1) (wt w 2) (wt w 3) (wt w 4)) (ar 34) N (N - m)) ((blC (wt w 1) (wt w 2) (wt w 3) (wt w 4)) (ar 34 (N - (N - m + 1))) (ar 34 (N - (N - m + 1) - 1))) from rfl, ← h2 hm, show N - (N - m + 1) = m - 1 by omega]; rfl), (fun q e => by cases e), fun q hq hm2 => (by by_cases e : q = m - 1; rw [e, pk_us]; exact (by rw [htl, show (blC (wt w 1) (wt w 2) (wt w 3) (wt w 4)) (ar 34 (m - 1)) 0 = none from (show ((cdO (wt w 3) (toldI (wt w 4) (ar 34 (m - 1)) 0)).bind (enc (wt w 1) (wt w 2))).map List.length = _ by rw [told0, ho_t1]; rfl)]; rfl); rw [pk_un (by omega)]; exact h4 q hq (by omega)), fun q hq => (by rw [pk_un (by omega)]; exact h5 q hq), h, lv_sub hl [4, 5, 6, 1, 0] rfl⟩
                · skip
                  exact absurd (by decide : (-1 : Int32) < 0) c_212
            · skip
              refine lv_iconst (v := nI (0)) hx hb dX10_sums_178 (by decide) ?_
              refine lv_goto (tgt := 209) hx hb dX10_sums_179 (by decide) ?_
              refine lv_istore (lv' := [(6, .int (nI (0))), (5, .int (nI (0))), (0, .ref (zad z 27)), (1, .int (nI (w))), (2, .int (nI (f))), (3, .int ((-1))), (4, .int (nI (m - 1)))]) hx hb dX10_sums_209 hl (by decide) rfl (fun ls hl => ?_)
              refine lv_iload_n hx hb dX10_sums_211 rfl (lv_at hl 5 rfl) ?_
              refine lv_if_lt (tgt := 220) hx hb dX10_sums_212 (by decide) (fun c_212 => ?_) (fun c_212 => ?_)
              · skip
                refine lv_iconst (v := (-1)) hx hb dX10_sums_220 (by decide) ?_
                refine lv_goto (tgt := 228) hx hb dX10_sums_221 (by decide) ?_
                refine lv_istore_n (lv' := [(3, .int ((-1))), (6, .int (nI (0))), (5, .int (nI (0))), (0, .ref (zad z 27)), (1, .int (nI (w))), (2, .int (nI (f))), (4, .int (nI (m - 1)))]) hx hb dX10_sums_228 rfl hl (by decide) rfl (fun ls hl => ?_)
                refine lv_iinc (v := nI (m - 1) - 1) (lv' := [(4, .int (nI (m - 1) - 1)), (3, .int ((-1))), (6, .int (nI (0))), (5, .int (nI (0))), (0, .ref (zad z 27)), (1, .int (nI (w))), (2, .int (nI (f)))]) hx hb dX10_sums_229 hl (k := 6) rfl (decI _) (by decide) rfl (fun ls hl => ?_)
                refine lv_goto (tgt := 127) hx hb dX10_sums_232 (by decide) ?_
                exact ih_127 (m - 1) (none) (upd (g) (f + (m - 1)) ((-1))) (by omega) H locs ls ⟨by omega, fun q => absurd q (by omega), (fun q e => by cases e), fun q hq hm2 => (by by_cases e : q = m - 1; rw [e, pk_us]; exact (by rw [htl, show (blC (wt w 1) (wt w 2) (wt w 3) (wt w 4)) (ar 34 (m - 1)) 0 = none from (show ((cdO (wt w 3) (toldI (wt w 4) (ar 34 (m - 1)) 0)).bind (enc (wt w 1) (wt w 2))).map List.length = _ by rw [told0, ho_t1]; rfl)]; rfl); rw [pk_un (by omega)]; exact h4 q hq (by omega)), fun q hq => (by rw [pk_un (by omega)]; exact h5 q hq), h, lv_sub hl [4, 5, 6, 1, 0] rfl⟩
              · skip
                exact absurd (by decide : (-1 : Int32) < 0) c_212
          · skip
            exact absurd (by decide : (-1 : Int32) < 0) c_156
        · skip
          have hl : lv_has ls 7 [(5, .int (nI (0))), (0, .ref (zad z 27)), (1, .int (nI (w))), (2, .int (nI (f))), (3, .int (nI (b0))), (4, .int (nI (m - 1)))] := hl
          have hb0 := hob b0 rfl
          refine lv_aload_n hx hb dX10_sums_147 rfl (lv_at hl 1 rfl) ?_
          refine rg_X10_96 C h dX10_sums_148 ?_
          refine lv_iload_n hx hb dX10_sums_151 rfl (lv_at hl 3 rfl) ?_
          refine lv_iload hx hb dX10_sums_152 (lv_at hl 5 rfl) ?_
          refine lv_iadd hx hb dX10_sums_154 ?_
          refine tI (y := nI (f + (m - 1))) (nI_add _ _) ?_
          refine lv_iload_n hx hb dX10_sums_155 rfl (lv_at hl 4 rfl) ?_
          refine zN_lt (tgt := 164) (a := b0) C (by omega) dX10_sums_156 (by decide) ?_
          refine lv_iload hx hb dX10_sums_159 (lv_at hl 0 rfl) ?_
          refine zN_ne (tgt := 168) (a := 0) C (by decide) dX10_sums_161 (by decide) (fun q => absurd q (by decide)) (fun _ => ?_)
          refine lv_iconst (v := (-1)) hx hb dX10_sums_164 (by decide) ?_
          refine lv_goto (tgt := 172) hx hb dX10_sums_165 (by decide) ?_
          refine stA 52 rfl (j := f + (m - 1)) (x := (-1)) (show f + (m - 1) < 16040 by omega) (by decide) C h dX10_sums_172 (fun H locs h => ?_)
          rw [va_uu] at h
          have h : hH z v sc (va_up (va_up ar 51 A) 52 (upd (g) (f + (m - 1)) ((-1)))) s H locs := h
          refine lv_iload hx hb dX10_sums_173 (lv_at hl 5 rfl) ?_
          refine zN_ne (tgt := 182) (a := m - 1) C (by omega) dX10_sums_175 (by decide) (fun c_175 => ?_) (fun c_175 => ?_)
          · skip
            refine lv_aload_n hx hb dX10_sums_182 rfl (lv_at hl 1 rfl) ?_
            refine lv_iload_n hx hb dX10_sums_183 rfl (lv_at hl 2 rfl) ?_
            refine lv_aload_n hx hb dX10_sums_184 rfl (lv_at hl 1 rfl) ?_
            refine lv_iload_n hx hb dX10_sums_185 rfl (lv_at hl 2 rfl) ?_
            refine lv_aload_n hx hb dX10_sums_186 rfl (lv_at hl 1 rfl) ?_
            refine rg_X10_28 C h dX10_sums_187 ?_
            refine lv_iload hx hb dX10_sums_190 (lv_at hl 5 rfl) ?_
            refine ldA 34 rfl (j := m - 1) (show m - 1 < 400 by omega) (by decide) C h dX10_sums_192 ?_
            refine tI (y := ar 34 (m - 1)) rfl ?_
            refine lv_aload_n hx hb dX10_sums_193 rfl (lv_at hl 1 rfl) ?_
            refine rg_X10_28 C h dX10_sums_194 ?_
            refine lv_iload hx hb dX10_sums_197 (lv_at hl 5 rfl) ?_
            refine lv_iconst (v := nI (1)) hx hb dX10_sums_199 (by decide) ?_
            refine lv_isub hx hb dX10_sums_200 ?_
            refine tI (y := nI (m - 1 - 1)) (pk_sub (by omega)) ?_
            refine ldA 34 rfl (j := m - 1 - 1) (show m - 1 - 1 < 400 by omega) (by decide) C h dX10_sums_201 ?_
            refine tI (y := ar 34 (m - 1 - 1)) rfl ?_
            refine backI h (runV (As := [.int (nI (w)), .int (ar 34 (m - 1)), .int (ar 34 (m - 1 - 1))]) (rest := [.int (nI (w)), .ref (zad z 27)]) C h (r_told l z v sc (va_up (va_up ar 51 A) 52 (upd (g) (f + (m - 1)) ((-1)))) K w wt dp (ar 34 (m - 1)) (ar 34 (m - 1 - 1)) hK4 (hRW.fr2 (fun k hk => (va_up_ne _ _ (by omega)).trans (va_up_ne _ _ (by omega)))) hw hw0) gv_X10_157 gv_X10_157_n ⟨rfl, rfl⟩ (r_Ref C h) rfl hl.1 rfl (Nat.le_of_ble_eq_true rfl) dX10_sums_202 ⟨Nat.le_of_ble_eq_true rfl, Nat.le_of_ble_eq_true rfl⟩ ⟨Nat.le_of_ble_eq_true rfl, Nat.le_of_ble_eq_true rfl⟩) (fun r_202 v_202 sc_202 ar_202 H locs p_202 h => ?_)
            have h : hH z v sc (va_up (va_up ar 51 A) 52 (upd (g) (f + (m - 1)) ((-1)))) s H locs := uEq p_202.2 h
            refine tI (y := toldI (wt w 4) (ar 34 (m - 1)) (ar 34 (m - 1 - 1))) p_202.1 ?_
            refine lv_iconst (v := nI (0)) hx hb dX10_sums_205 (by decide) ?_
            refine backI h (runV (As := [.int (nI (w)), .int (toldI (wt w 4) (ar 34 (m - 1)) (ar 34 (m - 1 - 1))), .int (nI (0))]) (rest := []) C h (r_bytesF l z v sc (va_up (va_up ar 51 A) 52 (upd (g) (f + (m - 1)) ((-1)))) K w 0 wt dp (toldI (wt w 4) (ar 34 (m - 1)) (ar 34 (m - 1 - 1))) hK4 (hRW.fr2 (fun k hk => (va_up_ne _ _ (by omega)).trans (va_up_ne _ _ (by omega)))) hw hw0) gv_X10_161 gv_X10_161_n ⟨rfl, rfl⟩ (r_Ref C h) rfl hl.1 rfl (Nat.le_of_ble_eq_true rfl) dX10_sums_206 ⟨Nat.le_of_ble_eq_true rfl, Nat.le_of_ble_eq_true rfl⟩ ⟨Nat.le_of_ble_eq_true rfl, Nat.le_of_ble_eq_true rfl⟩) (fun r_206 v_206 sc_206 ar_206 H locs p_206 h => ?_)
            obtain ⟨er_t2, ps_t2, eu_t2, hpl_t2, hps_t2⟩ := p_206
            have h : hH z v sc (va_up (va_up ar 51 A) 52 (upd (g) (f + (m - 1)) ((-1)))) s H locs := uEq eu_t2 h
            rcases ho_t2 : ((cdO (wt w 3) (toldI (wt w 4) (ar 34 (m - 1)) (ar 34 (m - 1 - 1)))).bind (enc (wt w 1) (wt w 2))) with _ | t2
            · skip
              rw [ho_t2] at er_t2
              refine tI (y := nI 0) er_t2 ?_
              refine lv_istore (lv' := [(6, .int (nI (0))), (5, .int (nI (0))), (0, .ref (zad z 27)), (1, .int (nI (w))), (2, .int (nI (f))), (3, .int (nI (b0))), (4, .int (nI (m - 1)))]) hx hb dX10_sums_209 hl (by decide) rfl (fun ls hl => ?_)
              refine lv_iload_n hx hb dX10_sums_211 rfl (lv_at hl 5 rfl) ?_
              refine zN_lt (tgt := 220) (a := b0) C (by omega) dX10_sums_212 (by decide) ?_
              refine lv_iload hx hb dX10_sums_215 (lv_at hl 0 rfl) ?_
              refine zN_ne (tgt := 224) (a := 0) C (by decide) dX10_sums_217 (by decide) (fun q => absurd q (by decide)) (fun _ => ?_)
              refine lv_iconst (v := (-1)) hx hb dX10_sums_220 (by decide) ?_
              refine lv_goto (tgt := 228) hx hb dX10_sums_221 (by decide) ?_
              refine lv_istore_n (lv' := [(3, .int ((-1))), (6, .int (nI (0))), (5, .int (nI (0))), (0, .ref (zad z 27)), (1, .int (nI (w))), (2, .int (nI (f))), (4, .int (nI (m - 1)))]) hx hb dX10_sums_228 rfl hl (by decide) rfl (fun ls hl => ?_)
              refine lv_iinc (v := nI (m - 1) - 1) (lv' := [(4, .int (nI (m - 1) - 1)), (3, .int ((-1))), (6, .int (nI (0))), (5, .int (nI (0))), (0, .ref (zad z 27)), (1, .int (nI (w))), (2, .int (nI (f)))]) hx hb dX10_sums_229 hl (k := 6) rfl (decI _) (by decide) rfl (fun ls hl => ?_)
              refine lv_goto (tgt := 127) hx hb dX10_sums_232 (by decide) ?_
              exact ih_127 (m - 1) (none) (upd (g) (f + (m - 1)) ((-1))) (by omega) H locs ls ⟨by omega, fun _ => (by rw [show N - (m - 1) = N - m + 1 by omega, show chS (blC (wt w 1) (wt w 2) (wt w 3) (wt w 4)) (ar 34) N (N - m + 1) = oadd (chS (blC (wt w 1) (wt w 2) (wt w 3) (wt w 4)) (ar 34) N (N - m)) ((blC (wt w 1) (wt w 2) (wt w 3) (wt w 4)) (ar 34 (N - (N - m + 1))) (ar 34 (N - (N - m + 1) - 1))) from rfl, ← h2 hm, show N - (N - m + 1) = m - 1 by omega, show (blC (wt w 1) (wt w 2) (wt w 3) (wt w 4)) (ar 34 (m - 1)) (ar 34 (m - 1 - 1)) = none from (show ((cdO (wt w 3) (toldI (wt w 4) (ar 34 (m - 1)) (ar 34 (m - 1 - 1)))).bind (enc (wt w 1) (wt w 2))).map List.length = _ by rw [ho_t2]; rfl)]; rfl), (fun q e => by cases e), fun q hq hm2 => (by by_cases e : q = m - 1; rw [e, pk_us]; exact (by rw [htl, show (blC (wt w 1) (wt w 2) (wt w 3) (wt w 4)) (ar 34 (m - 1)) 0 = none from (show ((cdO (wt w 3) (toldI (wt w 4) (ar 34 (m - 1)) 0)).bind (enc (wt w 1) (wt w 2))).map List.length = _ by rw [told0, ho_t1]; rfl)]; rfl); rw [pk_un (by omega)]; exact h4 q hq (by omega)), fun q hq => (by rw [pk_un (by omega)]; exact h5 q hq), h, lv_sub hl [4, 5, 6, 1, 0] rfl⟩
            · skip
              rw [ho_t2] at er_t2
              have h5_t2 := hps_t2 t2 ho_t2
              rw [h5_t2] at hpl_t2
              have h1_t2 : 1 ≤ t2.length := by
                cases hcd : cdO (wt w 3) (toldI (wt w 4) (ar 34 (m - 1)) (ar 34 (m - 1 - 1))) with
                | none => rw [hcd] at ho_t2; cases ho_t2
                | some q => rw [hcd] at ho_t2; exact enc_pos _ _ _ ho_t2
              refine tI (y := nI t2.length) er_t2 ?_
              refine lv_istore (lv' := [(6, .int (nI (t2.length))), (5, .int (nI (0))), (0, .ref (zad z 27)), (1, .int (nI (w))), (2, .int (nI (f))), (3, .int (nI (b0))), (4, .int (nI (m - 1)))]) hx hb dX10_sums_209 hl (by decide) rfl (fun ls hl => ?_)
              refine lv_iload_n hx hb dX10_sums_211 rfl (lv_at hl 5 rfl) ?_
              refine zN_lt (tgt := 220) (a := b0) C (by omega) dX10_sums_212 (by decide) ?_
              refine lv_iload hx hb dX10_sums_215 (lv_at hl 0 rfl) ?_
              refine zN_ne (tgt := 224) (a := t2.length) C (by omega) dX10_sums_217 (by decide) (fun c_217 => ?_) (fun c_217 => ?_)
              · skip
                refine lv_iload_n hx hb dX10_sums_224 rfl (lv_at hl 5 rfl) ?_
                refine lv_iload hx hb dX10_sums_225 (lv_at hl 0 rfl) ?_
                refine lv_iadd hx hb dX10_sums_227 ?_
                refine tI (y := nI (b0 + t2.length)) (nI_add _ _) ?_
                refine lv_istore_n (lv' := [(3, .int (nI (b0 + t2.length))), (6, .int (nI (t2.length))), (5, .int (nI (0))), (0, .ref (zad z 27)), (1, .int (nI (w))), (2, .int (nI (f))), (4, .int (nI (m - 1)))]) hx hb dX10_sums_228 rfl hl (by decide) rfl (fun ls hl => ?_)
                refine lv_iinc (v := nI (m - 1) - 1) (lv' := [(4, .int (nI (m - 1) - 1)), (3, .int (nI (b0 + t2.length))), (6, .int (nI (t2.length))), (5, .int (nI (0))), (0, .ref (zad z 27)), (1, .int (nI (w))), (2, .int (nI (f)))]) hx hb dX10_sums_229 hl (k := 6) rfl (decI _) (by decide) rfl (fun ls hl => ?_)
                refine lv_goto (tgt := 127) hx hb dX10_sums_232 (by decide) ?_
                exact ih_127 (m - 1) (some (b0 + t2.length)) (upd (g) (f + (m - 1)) ((-1))) (by omega) H locs ls ⟨by omega, fun _ => (by rw [show N - (m - 1) = N - m + 1 by omega, show chS (blC (wt w 1) (wt w 2) (wt w 3) (wt w 4)) (ar 34) N (N - m + 1) = oadd (chS (blC (wt w 1) (wt w 2) (wt w 3) (wt w 4)) (ar 34) N (N - m)) ((blC (wt w 1) (wt w 2) (wt w 3) (wt w 4)) (ar 34 (N - (N - m + 1))) (ar 34 (N - (N - m + 1) - 1))) from rfl, ← h2 hm, show N - (N - m + 1) = m - 1 by omega, show (blC (wt w 1) (wt w 2) (wt w 3) (wt w 4)) (ar 34 (m - 1)) (ar 34 (m - 1 - 1)) = some t2.length from (show ((cdO (wt w 3) (toldI (wt w 4) (ar 34 (m - 1)) (ar 34 (m - 1 - 1)))).bind (enc (wt w 1) (wt w 2))).map List.length = _ by rw [ho_t2]; rfl)]; rfl), (fun q e => by have e2 : some (b0 + t2.length) = chS (blC (wt w 1) (wt w 2) (wt w 3) (wt w 4)) (ar 34) N (N - (m - 1)) := (by rw [show N - (m - 1) = N - m + 1 by omega, show chS (blC (wt w 1) (wt w 2) (wt w 3) (wt w 4)) (ar 34) N (N - m + 1) = oadd (chS (blC (wt w 1) (wt w 2) (wt w 3) (wt w 4)) (ar 34) N (N - m)) ((blC (wt w 1) (wt w 2) (wt w 3) (wt w 4)) (ar 34 (N - (N - m + 1))) (ar 34 (N - (N - m + 1) - 1))) from rfl, ← h2 hm, show N - (N - m + 1) = m - 1 by omega, show (blC (wt w 1) (wt w 2) (wt w 3) (wt w 4)) (ar 34 (m - 1)) (ar 34 (m - 1 - 1)) = some t2.length from (show ((cdO (wt w 3) (toldI (wt w 4) (ar 34 (m - 1)) (ar 34 (m - 1 - 1)))).bind (enc (wt w 1) (wt w 2))).map List.length = _ by rw [ho_t2]; rfl)]; rfl); have := chS_bd (fun x y q e => Nat.le_trans (blC_le e) hB5) (N - (m - 1)) q (e2.symm.trans e); omega), fun q hq hm2 => (by by_cases e : q = m - 1; rw [e, pk_us]; exact (by rw [htl, show (blC (wt w 1) (wt w 2) (wt w 3) (wt w 4)) (ar 34 (m - 1)) 0 = none from (show ((cdO (wt w 3) (toldI (wt w 4) (ar 34 (m - 1)) 0)).bind (enc (wt w 1) (wt w 2))).map List.length = _ by rw [told0, ho_t1]; rfl)]; rfl); rw [pk_un (by omega)]; exact h4 q hq (by omega)), fun q hq => (by rw [pk_un (by omega)]; exact h5 q hq), h, lv_sub hl [4, 5, 6, 1, 0] rfl⟩
              · skip
                omega
          · skip
            refine lv_iconst (v := nI (0)) hx hb dX10_sums_178 (by decide) ?_
            refine lv_goto (tgt := 209) hx hb dX10_sums_179 (by decide) ?_
            refine lv_istore (lv' := [(6, .int (nI (0))), (5, .int (nI (0))), (0, .ref (zad z 27)), (1, .int (nI (w))), (2, .int (nI (f))), (3, .int (nI (b0))), (4, .int (nI (m - 1)))]) hx hb dX10_sums_209 hl (by decide) rfl (fun ls hl => ?_)
            refine lv_iload_n hx hb dX10_sums_211 rfl (lv_at hl 5 rfl) ?_
            refine zN_lt (tgt := 220) (a := b0) C (by omega) dX10_sums_212 (by decide) ?_
            refine lv_iload hx hb dX10_sums_215 (lv_at hl 0 rfl) ?_
            refine zN_ne (tgt := 224) (a := 0) C (by decide) dX10_sums_217 (by decide) (fun q => absurd q (by decide)) (fun _ => ?_)
            refine lv_iconst (v := (-1)) hx hb dX10_sums_220 (by decide) ?_
            refine lv_goto (tgt := 228) hx hb dX10_sums_221 (by decide) ?_
            refine lv_istore_n (lv' := [(3, .int ((-1))), (6, .int (nI (0))), (5, .int (nI (0))), (0, .ref (zad z 27)), (1, .int (nI (w))), (2, .int (nI (f))), (4, .int (nI (m - 1)))]) hx hb dX10_sums_228 rfl hl (by decide) rfl (fun ls hl => ?_)
            refine lv_iinc (v := nI (m - 1) - 1) (lv' := [(4, .int (nI (m - 1) - 1)), (3, .int ((-1))), (6, .int (nI (0))), (5, .int (nI (0))), (0, .ref (zad z 27)), (1, .int (nI (w))), (2, .int (nI (f)))]) hx hb dX10_sums_229 hl (k := 6) rfl (decI _) (by decide) rfl (fun ls hl => ?_)
            refine lv_goto (tgt := 127) hx hb dX10_sums_232 (by decide) ?_
            exact ih_127 (m - 1) (none) (upd (g) (f + (m - 1)) ((-1))) (by omega) H locs ls ⟨by omega, fun q => absurd q (by omega), (fun q e => by cases e), fun q hq hm2 => (by by_cases e : q = m - 1; rw [e, pk_us]; exact (by rw [htl, show (blC (wt w 1) (wt w 2) (wt w 3) (wt w 4)) (ar 34 (m - 1)) 0 = none from (show ((cdO (wt w 3) (toldI (wt w 4) (ar 34 (m - 1)) 0)).bind (enc (wt w 1) (wt w 2))).map List.length = _ by rw [told0, ho_t1]; rfl)]; rfl); rw [pk_un (by omega)]; exact h4 q hq (by omega)), fun q hq => (by rw [pk_un (by omega)]; exact h5 q hq), h, lv_sub hl [4, 5, 6, 1, 0] rfl⟩
      · skip
        rw [ho_t1] at er_t1
        have h5_t1 := hps_t1 t1 ho_t1
        rw [h5_t1] at hpl_t1
        have h1_t1 : 1 ≤ t1.length := by
          cases hcd : cdO (wt w 3) (ar 34 (m - 1)) with
          | none => rw [hcd] at ho_t1; cases ho_t1
          | some q => rw [hcd] at ho_t1; exact enc_pos _ _ _ ho_t1
        refine tI (y := nI t1.length) er_t1 ?_
        refine lv_istore (lv' := [(5, .int (nI (t1.length))), (0, .ref (zad z 27)), (1, .int (nI (w))), (2, .int (nI (f))), (3, .int (oI o)), (4, .int (nI (m - 1)))]) hx hb dX10_sums_145 hl (by decide) rfl (fun ls hl => ?_)
        rcases o with _ | b0
        · skip
          have hl : lv_has ls 7 [(5, .int (nI (t1.length))), (0, .ref (zad z 27)), (1, .int (nI (w))), (2, .int (nI (f))), (3, .int ((-1))), (4, .int (nI (m - 1)))] := hl
          refine lv_aload_n hx hb dX10_sums_147 rfl (lv_at hl 1 rfl) ?_
          refine rg_X10_96 C h dX10_sums_148 ?_
          refine lv_iload_n hx hb dX10_sums_151 rfl (lv_at hl 3 rfl) ?_
          refine lv_iload hx hb dX10_sums_152 (lv_at hl 5 rfl) ?_
          refine lv_iadd hx hb dX10_sums_154 ?_
          refine tI (y := nI (f + (m - 1))) (nI_add _ _) ?_
          refine lv_iload_n hx hb dX10_sums_155 rfl (lv_at hl 4 rfl) ?_
          refine lv_if_lt (tgt := 164) hx hb dX10_sums_156 (by decide) (fun c_156 => ?_) (fun c_156 => ?_)
          · skip
            refine lv_iconst (v := (-1)) hx hb dX10_sums_164 (by decide) ?_
            refine lv_goto (tgt := 172) hx hb dX10_sums_165 (by decide) ?_
            refine stA 52 rfl (j := f + (m - 1)) (x := (-1)) (show f + (m - 1) < 16040 by omega) (by decide) C h dX10_sums_172 (fun H locs h => ?_)
            rw [va_uu] at h
            have h : hH z v sc (va_up (va_up ar 51 A) 52 (upd (g) (f + (m - 1)) ((-1)))) s H locs := h
            refine lv_iload hx hb dX10_sums_173 (lv_at hl 5 rfl) ?_
            refine zN_ne (tgt := 182) (a := m - 1) C (by omega) dX10_sums_175 (by decide) (fun c_175 => ?_) (fun c_175 => ?_)
            · skip
              refine lv_aload_n hx hb dX10_sums_182 rfl (lv_at hl 1 rfl) ?_
              refine lv_iload_n hx hb dX10_sums_183 rfl (lv_at hl 2 rfl) ?_
              refine lv_aload_n hx hb dX10_sums_184 rfl (lv_at hl 1 rfl) ?_
              refine lv_iload_n hx hb dX10_sums_185 rfl (lv_at hl 2 rfl) ?_
              refine lv_aload_n hx hb dX10_sums_186 rfl (lv_at hl 1 rfl) ?_
              refine rg_X10_28 C h dX10_sums_187 ?_
              refine lv_iload hx hb dX10_sums_190 (lv_at hl 5 rfl) ?_
              refine ldA 34 rfl (j := m - 1) (show m - 1 < 400 by omega) (by decide) C h dX10_sums_192 ?_
              refine tI (y := ar 34 (m - 1)) rfl ?_
              refine lv_aload_n hx hb dX10_sums_193 rfl (lv_at hl 1 rfl) ?_
              refine rg_X10_28 C h dX10_sums_194 ?_
              refine lv_iload hx hb dX10_sums_197 (lv_at hl 5 rfl) ?_
              refine lv_iconst (v := nI (1)) hx hb dX10_sums_199 (by decide) ?_
              refine lv_isub hx hb dX10_sums_200 ?_
              refine tI (y := nI (m - 1 - 1)) (pk_sub (by omega)) ?_
              refine ldA 34 rfl (j := m - 1 - 1) (show m - 1 - 1 < 400 by omega) (by decide) C h dX10_sums_201 ?_
              refine tI (y := ar 34 (m - 1 - 1)) rfl ?_
              refine backI h (runV (As := [.int (nI (w)), .int (ar 34 (m - 1)), .int (ar 34 (m - 1 - 1))]) (rest := [.int (nI (w)), .ref (zad z 27)]) C h (r_told l z v sc (va_up (va_up ar 51 A) 52 (upd (g) (f + (m - 1)) ((-1)))) K w wt dp (ar 34 (m - 1)) (ar 34 (m - 1 - 1)) hK4 (hRW.fr2 (fun k hk => (va_up_ne _ _ (by omega)).trans (va_up_ne _ _ (by omega)))) hw hw0) gv_X10_157 gv_X10_157_n ⟨rfl, rfl⟩ (r_Ref C h) rfl hl.1 rfl (Nat.le_of_ble_eq_true rfl) dX10_sums_202 ⟨Nat.le_of_ble_eq_true rfl, Nat.le_of_ble_eq_true rfl⟩ ⟨Nat.le_of_ble_eq_true rfl, Nat.le_of_ble_eq_true rfl⟩) (fun r_202 v_202 sc_202 ar_202 H locs p_202 h => ?_)
              have h : hH z v sc (va_up (va_up ar 51 A) 52 (upd (g) (f + (m - 1)) ((-1)))) s H locs := uEq p_202.2 h
              refine tI (y := toldI (wt w 4) (ar 34 (m - 1)) (ar 34 (m - 1 - 1))) p_202.1 ?_
              refine lv_iconst (v := nI (0)) hx hb dX10_sums_205 (by decide) ?_
              refine backI h (runV (As := [.int (nI (w)), .int (toldI (wt w 4) (ar 34 (m - 1)) (ar 34 (m - 1 - 1))), .int (nI (0))]) (rest := []) C h (r_bytesF l z v sc (va_up (va_up ar 51 A) 52 (upd (g) (f + (m - 1)) ((-1)))) K w 0 wt dp (toldI (wt w 4) (ar 34 (m - 1)) (ar 34 (m - 1 - 1))) hK4 (hRW.fr2 (fun k hk => (va_up_ne _ _ (by omega)).trans (va_up_ne _ _ (by omega)))) hw hw0) gv_X10_161 gv_X10_161_n ⟨rfl, rfl⟩ (r_Ref C h) rfl hl.1 rfl (Nat.le_of_ble_eq_true rfl) dX10_sums_206 ⟨Nat.le_of_ble_eq_true rfl, Nat.le_of_ble_eq_true rfl⟩ ⟨Nat.le_of_ble_eq_true rfl, Nat.le_of_ble_eq_true rfl⟩) (fun r_206 v_206 sc_206 ar_206 H locs p_206 h => ?_)
              obtain ⟨er_t2, ps_t2, eu_t2, hpl_t2, hps_t2⟩ := p_206
              have h : hH z v sc (va_up (va_up ar 51 A) 52 (upd (g) (f + (m - 1)) ((-1)))) s H locs := uEq eu_t2 h
              rcases ho_t2 : ((cdO (wt w 3) (toldI (wt w 4) (ar 34 (m - 1)) (ar 34 (m - 1 - 1)))).bind (enc (wt w 1) (wt w 2))) with _ | t2
              · skip
                rw [ho_t2] at er_t2
                refine tI (y := nI 0) er_t2 ?_
                refine lv_istore (lv' := [(6, .int (nI (0))), (5, .int (nI (t1.length))), (0, .ref (zad z 27)), (1, .int (nI (w))), (2, .int (nI (f))), (3, .int ((-1))), (4, .int (nI (m - 1)))]) hx hb dX10_sums_209 hl (by decide) rfl (fun ls hl => ?_)
                refine lv_iload_n hx hb dX10_sums_211 rfl (lv_at hl 5 rfl) ?_
                refine lv_if_lt (tgt := 220) hx hb dX10_sums_212 (by decide) (fun c_212 => ?_) (fun c_212 => ?_)
                · skip
                  refine lv_iconst (v := (-1)) hx hb dX10_sums_220 (by decide) ?_
                  refine lv_goto (tgt := 228) hx hb dX10_sums_221 (by decide) ?_
                  refine lv_istore_n (lv' := [(3, .int ((-1))), (6, .int (nI (0))), (5, .int (nI (t1.length))), (0, .ref (zad z 27)), (1, .int (nI (w))), (2, .int (nI (f))), (4, .int (nI (m - 1)))]) hx hb dX10_sums_228 rfl hl (by decide) rfl (fun ls hl => ?_)
                  refine lv_iinc (v := nI (m - 1) - 1) (lv' := [(4, .int (nI (m - 1) - 1)), (3, .int ((-1))), (6, .int (nI (0))), (5, .int (nI (t1.length))), (0, .ref (zad z 27)), (1, .int (nI (w))), (2, .int (nI (f)))]) hx hb dX10_sums_229 hl (k := 6) rfl (decI _) (by decide) rfl (fun ls hl => ?_)
                  refine lv_goto (tgt := 127) hx hb dX10_sums_232 (by decide) ?_
                  exact ih_127 (m - 1) (none) (upd (g) (f + (m - 1)) ((-1))) (by omega) H locs ls ⟨by omega, fun _ => (by rw [show N - (m - 1) = N - m + 1 by omega, show chS (blC (wt w 1) (wt w 2) (wt w 3) (wt w 4)) (ar 34) N (N - m + 1) = oadd (chS (blC (wt w 1) (wt w 2) (wt w 3) (wt w 4)) (ar 34) N (N - m)) ((blC (wt w 1) (wt w 2) (wt w 3) (wt w 4)) (ar 34 (N - (N - m + 1))) (ar 34 (N - (N - m + 1) - 1))) from rfl, ← h2 hm, show N - (N - m + 1) = m - 1 by omega]; rfl), (fun q e => by cases e), fun q hq hm2 => (by by_cases e : q = m - 1; rw [e, pk_us]; exact (by rw [htl, show (blC (wt w 1) (wt w 2) (wt w 3) (wt w 4)) (ar 34 (m - 1)) 0 = some t1.length from (show ((cdO (wt w 3) (toldI (wt w 4) (ar 34 (m - 1)) 0)).bind (enc (wt w 1) (wt w 2))).map List.length = _ by rw [told0, ho_t1]; rfl)]; rfl); rw [pk_un (by omega)]; exact h4 q hq (by omega)), fun q hq => (by rw [pk_un (by omega)]; exact h5 q hq), h, lv_sub hl [4, 5, 6, 1, 0] rfl⟩
                · skip
                  exact absurd (by decide : (-1 : Int32) < 0) c_212
              · skip
                rw [ho_t2] at er_t2
                have h5_t2 := hps_t2 t2 ho_t2
                rw [h5_t2] at hpl_t2
                have h1_t2 : 1 ≤ t2.length := by
                  cases hcd : cdO (wt w 3) (toldI (wt w 4) (ar 34 (m - 1)) (ar 34 (m - 1 - 1))) with
                  | none => rw [hcd] at ho_t2; cases ho_t2
                  | some q => rw [hcd] at ho_t2; exact enc_pos _ _ _ ho_t2
                refine tI (y := nI t2.length) er_t2 ?_
                refine lv_istore (lv' := [(6, .int (nI (t2.length))), (5, .int (nI (t1.length))), (0, .ref (zad z 27)), (1, .int (nI (w))), (2, .int (nI (f))), (3, .int ((-1))), (4, .int (nI (m - 1)))]) hx hb dX10_sums_209 hl (by decide) rfl (fun ls hl => ?_)
                refine lv_iload_n hx hb dX10_sums_211 rfl (lv_at hl 5 rfl) ?_
                refine lv_if_lt (tgt := 220) hx hb dX10_sums_212 (by decide) (fun c_212 => ?_) (fun c_212 => ?_)
                · skip
                  refine lv_iconst (v := (-1)) hx hb dX10_sums_220 (by decide) ?_
                  refine lv_goto (tgt := 228) hx hb dX10_sums_221 (by decide) ?_
                  refine lv_istore_n (lv' := [(3, .int ((-1))), (6, .int (nI (t2.length))), (5, .int (nI (t1.length))), (0, .ref (zad z 27)), (1, .int (nI (w))), (2, .int (nI (f))), (4, .int (nI (m - 1)))]) hx hb dX10_sums_228 rfl hl (by decide) rfl (fun ls hl => ?_)
                  refine lv_iinc (v := nI (m - 1) - 1) (lv' := [(4, .int (nI (m - 1) - 1)), (3, .int ((-1))), (6, .int (nI (t2.length))), (5, .int (nI (t1.length))), (0, .ref (zad z 27)), (1, .int (nI (w))), (2, .int (nI (f)))]) hx hb dX10_sums_229 hl (k := 6) rfl (decI _) (by decide) rfl (fun ls hl => ?_)
                  refine lv_goto (tgt := 127) hx hb dX10_sums_232 (by decide) ?_
                  exact ih_127 (m - 1) (none) (upd (g) (f + (m - 1)) ((-1))) (by omega) H locs ls ⟨by omega, fun _ => (by rw [show N - (m - 1) = N - m + 1 by omega, show chS (blC (wt w 1) (wt w 2) (wt w 3) (wt w 4)) (ar 34) N (N - m + 1) = oadd (chS (blC (wt w 1) (wt w 2) (wt w 3) (wt w 4)) (ar 34) N (N - m)) ((blC (wt w 1) (wt w 2) (wt w 3) (wt w 4)) (ar 34 (N - (N - m + 1))) (ar 34 (N - (N - m + 1) - 1))) from rfl, ← h2 hm, show N - (N - m + 1) = m - 1 by omega]; rfl), (fun q e => by cases e), fun q hq hm2 => (by by_cases e : q = m - 1; rw [e, pk_us]; exact (by rw [htl, show (blC (wt w 1) (wt w 2) (wt w 3) (wt w 4)) (ar 34 (m - 1)) 0 = some t1.length from (show ((cdO (wt w 3) (toldI (wt w 4) (ar 34 (m - 1)) 0)).bind (enc (wt w 1) (wt w 2))).map List.length = _ by rw [told0, ho_t1]; rfl)]; rfl); rw [pk_un (by omega)]; exact h4 q hq (by omega)), fun q hq => (by rw [pk_un (by omega)]; exact h5 q hq), h, lv_sub hl [4, 5, 6, 1, 0] rfl⟩
                · skip
                  exact absurd (by decide : (-1 : Int32) < 0) c_212
            · skip
              refine lv_iconst (v := nI (0)) hx hb dX10_sums_178 (by decide) ?_
              refine lv_goto (tgt := 209) hx hb dX10_sums_179 (by decide) ?_
              refine lv_istore (lv' := [(6, .int (nI (0))), (5, .int (nI (t1.length))), (0, .ref (zad z 27)), (1, .int (nI (w))), (2, .int (nI (f))), (3, .int ((-1))), (4, .int (nI (m - 1)))]) hx hb dX10_sums_209 hl (by decide) rfl (fun ls hl => ?_)
              refine lv_iload_n hx hb dX10_sums_211 rfl (lv_at hl 5 rfl) ?_
              refine lv_if_lt (tgt := 220) hx hb dX10_sums_212 (by decide) (fun c_212 => ?_) (fun c_212 => ?_)
              · skip
                refine lv_iconst (v := (-1)) hx hb dX10_sums_220 (by decide) ?_
                refine lv_goto (tgt := 228) hx hb dX10_sums_221 (by decide) ?_
                refine lv_istore_n (lv' := [(3, .int ((-1))), (6, .int (nI (0))), (5, .int (nI (t1.length))), (0, .ref (zad z 27)), (1, .int (nI (w))), (2, .int (nI (f))), (4, .int (nI (m - 1)))]) hx hb dX10_sums_228 rfl hl (by decide) rfl (fun ls hl => ?_)
                refine lv_iinc (v := nI (m - 1) - 1) (lv' := [(4, .int (nI (m - 1) - 1)), (3, .int ((-1))), (6, .int (nI (0))), (5, .int (nI (t1.length))), (0, .ref (zad z 27)), (1, .int (nI (w))), (2, .int (nI (f)))]) hx hb dX10_sums_229 hl (k := 6) rfl (decI _) (by decide) rfl (fun ls hl => ?_)
                refine lv_goto (tgt := 127) hx hb dX10_sums_232 (by decide) ?_
                exact ih_127 (m - 1) (none) (upd (g) (f + (m - 1)) ((-1))) (by omega) H locs ls ⟨by omega, fun q => absurd q (by omega), (fun q e => by cases e), fun q hq hm2 => (by by_cases e : q = m - 1; rw [e, pk_us]; exact (by rw [htl, show (blC (wt w 1) (wt w 2) (wt w 3) (wt w 4)) (ar 34 (m - 1)) 0 = some t1.length from (show ((cdO (wt w 3) (toldI (wt w 4) (ar 34 (m - 1)) 0)).bind (enc (wt w 1) (wt w 2))).map List.length = _ by rw [told0, ho_t1]; rfl)]; rfl); rw [pk_un (by omega)]; exact h4 q hq (by omega)), fun q hq => (by rw [pk_un (by omega)]; exact h5 q hq), h, lv_sub hl [4, 5, 6, 1, 0] rfl⟩
              · skip
                exact absurd (by decide : (-1 : Int32) < 0) c_212
          · skip
            exact absurd (by decide : (-1 : Int32) < 0) c_156
        · skip
          have hl : lv_has ls 7 [(5, .int (nI (t1.length))), (0, .ref (zad z 27)), (1, .int (nI (w))), (2, .int (nI (f))), (3, .int (nI (b0))), (4, .int (nI (m - 1)))] := hl
          have hb0 := hob b0 rfl
          refine lv_aload_n hx hb dX10_sums_147 rfl (lv_at hl 1 rfl) ?_
          refine rg_X10_96 C h dX10_sums_148 ?_
          refine lv_iload_n hx hb dX10_sums_151 rfl (lv_at hl 3 rfl) ?_
          refine lv_iload hx hb dX10_sums_152 (lv_at hl 5 rfl) ?_
          refine lv_iadd hx hb dX10_sums_154 ?_
          refine tI (y := nI (f + (m - 1))) (nI_add _ _) ?_
          refine lv_iload_n hx hb dX10_sums_155 rfl (lv_at hl 4 rfl) ?_
          refine zN_lt (tgt := 164) (a := b0) C (by omega) dX10_sums_156 (by decide) ?_
          refine lv_iload hx hb dX10_sums_159 (lv_at hl 0 rfl) ?_
          refine zN_ne (tgt := 168) (a := t1.length) C (by omega) dX10_sums_161 (by decide) (fun c_161 => ?_) (fun c_161 => ?_)
          · skip
            refine lv_iload_n hx hb dX10_sums_168 rfl (lv_at hl 4 rfl) ?_
            refine lv_iload hx hb dX10_sums_169 (lv_at hl 0 rfl) ?_
            refine lv_iadd hx hb dX10_sums_171 ?_
            refine tI (y := nI (b0 + t1.length)) (nI_add _ _) ?_
            refine stA 52 rfl (j := f + (m - 1)) (x := nI (b0 + t1.length)) (show f + (m - 1) < 16040 by omega) (by decide) C h dX10_sums_172 (fun H locs h => ?_)
            rw [va_uu] at h
            have h : hH z v sc (va_up (va_up ar 51 A) 52 (upd (g) (f + (m - 1)) (nI (b0 + t1.length)))) s H locs := h
            refine lv_iload hx hb dX10_sums_173 (lv_at hl 5 rfl) ?_
            refine zN_ne (tgt := 182) (a := m - 1) C (by omega) dX10_sums_175 (by decide) (fun c_175 => ?_) (fun c_175 => ?_)
            · skip
              refine lv_aload_n hx hb dX10_sums_182 rfl (lv_at hl 1 rfl) ?_
              refine lv_iload_n hx hb dX10_sums_183 rfl (lv_at hl 2 rfl) ?_
              refine lv_aload_n hx hb dX10_sums_184 rfl (lv_at hl 1 rfl) ?_
              refine lv_iload_n hx hb dX10_sums_185 rfl (lv_at hl 2 rfl) ?_
              refine lv_aload_n hx hb dX10_sums_186 rfl (lv_at hl 1 rfl) ?_
              refine rg_X10_28 C h dX10_sums_187 ?_
              refine lv_iload hx hb dX10_sums_190 (lv_at hl 5 rfl) ?_
              refine ldA 34 rfl (j := m - 1) (show m - 1 < 400 by omega) (by decide) C h dX10_sums_192 ?_
              refine tI (y := ar 34 (m - 1)) rfl ?_
              refine lv_aload_n hx hb dX10_sums_193 rfl (lv_at hl 1 rfl) ?_
              refine rg_X10_28 C h dX10_sums_194 ?_
              refine lv_iload hx hb dX10_sums_197 (lv_at hl 5 rfl) ?_
              refine lv_iconst (v := nI (1)) hx hb dX10_sums_199 (by decide) ?_
              refine lv_isub hx hb dX10_sums_200 ?_
              refine tI (y := nI (m - 1 - 1)) (pk_sub (by omega)) ?_
              refine ldA 34 rfl (j := m - 1 - 1) (show m - 1 - 1 < 400 by omega) (by decide) C h dX10_sums_201 ?_
              refine tI (y := ar 34 (m - 1 - 1)) rfl ?_
              refine backI h (runV (As := [.int (nI (w)), .int (ar 34 (m - 1)), .int (ar 34 (m - 1 - 1))]) (rest := [.int (nI (w)), .ref (zad z 27)]) C h (r_told l z v sc (va_up (va_up ar 51 A) 52 (upd (g) (f + (m - 1)) (nI (b0 + t1.length)))) K w wt dp (ar 34 (m - 1)) (ar 34 (m - 1 - 1)) hK4 (hRW.fr2 (fun k hk => (va_up_ne _ _ (by omega)).trans (va_up_ne _ _ (by omega)))) hw hw0) gv_X10_157 gv_X10_157_n ⟨rfl, rfl⟩ (r_Ref C h) rfl hl.1 rfl (Nat.le_of_ble_eq_true rfl) dX10_sums_202 ⟨Nat.le_of_ble_eq_true rfl, Nat.le_of_ble_eq_true rfl⟩ ⟨Nat.le_of_ble_eq_true rfl, Nat.le_of_ble_eq_true rfl⟩) (fun r_202 v_202 sc_202 ar_202 H locs p_202 h => ?_)
              have h : hH z v sc (va_up (va_up ar 51 A) 52 (upd (g) (f + (m - 1)) (nI (b0 + t1.length)))) s H locs := uEq p_202.2 h
              refine tI (y := toldI (wt w 4) (ar 34 (m - 1)) (ar 34 (m - 1 - 1))) p_202.1 ?_
              refine lv_iconst (v := nI (0)) hx hb dX10_sums_205 (by decide) ?_
              refine backI h (runV (As := [.int (nI (w)), .int (toldI (wt w 4) (ar 34 (m - 1)) (ar 34 (m - 1 - 1))), .int (nI (0))]) (rest := []) C h (r_bytesF l z v sc (va_up (va_up ar 51 A) 52 (upd (g) (f + (m - 1)) (nI (b0 + t1.length)))) K w 0 wt dp (toldI (wt w 4) (ar 34 (m - 1)) (ar 34 (m - 1 - 1))) hK4 (hRW.fr2 (fun k hk => (va_up_ne _ _ (by omega)).trans (va_up_ne _ _ (by omega)))) hw hw0) gv_X10_161 gv_X10_161_n ⟨rfl, rfl⟩ (r_Ref C h) rfl hl.1 rfl (Nat.le_of_ble_eq_true rfl) dX10_sums_206 ⟨Nat.le_of_ble_eq_true rfl, Nat.le_of_ble_eq_true rfl⟩ ⟨Nat.le_of_ble_eq_true rfl, Nat.le_of_ble_eq_true rfl⟩) (fun r_206 v_206 sc_206 ar_206 H locs p_206 h => ?_)
              obtain ⟨er_t2, ps_t2, eu_t2, hpl_t2, hps_t2⟩ := p_206
              have h : hH z v sc (va_up (va_up ar 51 A) 52 (upd (g) (f + (m - 1)) (nI (b0 + t1.length)))) s H locs := uEq eu_t2 h
              rcases ho_t2 : ((cdO (wt w 3) (toldI (wt w 4) (ar 34 (m - 1)) (ar 34 (m - 1 - 1)))).bind (enc (wt w 1) (wt w 2))) with _ | t2
              · skip
                rw [ho_t2] at er_t2
                refine tI (y := nI 0) er_t2 ?_
                refine lv_istore (lv' := [(6, .int (nI (0))), (5, .int (nI (t1.length))), (0, .ref (zad z 27)), (1, .int (nI (w))), (2, .int (nI (f))), (3, .int (nI (b0))), (4, .int (nI (m - 1)))]) hx hb dX10_sums_209 hl (by decide) rfl (fun ls hl => ?_)
                refine lv_iload_n hx hb dX10_sums_211 rfl (lv_at hl 5 rfl) ?_
                refine zN_lt (tgt := 220) (a := b0) C (by omega) dX10_sums_212 (by decide) ?_
                refine lv_iload hx hb dX10_sums_215 (lv_at hl 0 rfl) ?_
                refine zN_ne (tgt := 224) (a := 0) C (by decide) dX10_sums_217 (by decide) (fun q => absurd q (by decide)) (fun _ => ?_)
                refine lv_iconst (v := (-1)) hx hb dX10_sums_220 (by decide) ?_
                refine lv_goto (tgt := 228) hx hb dX10_sums_221 (by decide) ?_
                refine lv_istore_n (lv' := [(3, .int ((-1))), (6, .int (nI (0))), (5, .int (nI (t1.length))), (0, .ref (zad z 27)), (1, .int (nI (w))), (2, .int (nI (f))), (4, .int (nI (m - 1)))]) hx hb dX10_sums_228 rfl hl (by decide) rfl (fun ls hl => ?_)
                refine lv_iinc (v := nI (m - 1) - 1) (lv' := [(4, .int (nI (m - 1) - 1)), (3, .int ((-1))), (6, .int (nI (0))), (5, .int (nI (t1.length))), (0, .ref (zad z 27)), (1, .int (nI (w))), (2, .int (nI (f)))]) hx hb dX10_sums_229 hl (k := 6) rfl (decI _) (by decide) rfl (fun ls hl => ?_)
                refine lv_goto (tgt := 127) hx hb dX10_sums_232 (by decide) ?_
                exact ih_127 (m - 1) (none) (upd (g) (f + (m - 1)) (nI (b0 + t1.length))) (by omega) H locs ls ⟨by omega, fun _ => (by rw [show N - (m - 1) = N - m + 1 by omega, show chS (blC (wt w 1) (wt w 2) (wt w 3) (wt w 4)) (ar 34) N (N - m + 1) = oadd (chS (blC (wt w 1) (wt w 2) (wt w 3) (wt w 4)) (ar 34) N (N - m)) ((blC (wt w 1) (wt w 2) (wt w 3) (wt w 4)) (ar 34 (N - (N - m + 1))) (ar 34 (N - (N - m + 1) - 1))) from rfl, ← h2 hm, show N - (N - m + 1) = m - 1 by omega, show (blC (wt w 1) (wt w 2) (wt w 3) (wt w 4)) (ar 34 (m - 1)) (ar 34 (m - 1 - 1)) = none from (show ((cdO (wt w 3) (toldI (wt w 4) (ar 34 (m - 1)) (ar 34 (m - 1 - 1)))).bind (enc (wt w 1) (wt w 2))).map List.length = _ by rw [ho_t2]; rfl)]; rfl), (fun q e => by cases e), fun q hq hm2 => (by by_cases e : q = m - 1; rw [e, pk_us]; exact (by rw [htl, show (blC (wt w 1) (wt w 2) (wt w 3) (wt w 4)) (ar 34 (m - 1)) 0 = some t1.length from (show ((cdO (wt w 3) (toldI (wt w 4) (ar 34 (m - 1)) 0)).bind (enc (wt w 1) (wt w 2))).map List.length = _ by rw [told0, ho_t1]; rfl)]; rfl); rw [pk_un (by omega)]; exact h4 q hq (by omega)), fun q hq => (by rw [pk_un (by omega)]; exact h5 q hq), h, lv_sub hl [4, 5, 6, 1, 0] rfl⟩
              · skip
                rw [ho_t2] at er_t2
                have h5_t2 := hps_t2 t2 ho_t2
                rw [h5_t2] at hpl_t2
                have h1_t2 : 1 ≤ t2.length := by
                  cases hcd : cdO (wt w 3) (toldI (wt w 4) (ar 34 (m - 1)) (ar 34 (m - 1 - 1))) with
                  | none => rw [hcd] at ho_t2; cases ho_t2
                  | some q => rw [hcd] at ho_t2; exact enc_pos _ _ _ ho_t2
                refine tI (y := nI t2.length) er_t2 ?_
                refine lv_istore (lv' := [(6, .int (nI (t2.length))), (5, .int (nI (t1.length))), (0, .ref (zad z 27)), (1, .int (nI (w))), (2, .int (nI (f))), (3, .int (nI (b0))), (4, .int (nI (m - 1)))]) hx hb dX10_sums_209 hl (by decide) rfl (fun ls hl => ?_)
                refine lv_iload_n hx hb dX10_sums_211 rfl (lv_at hl 5 rfl) ?_
                refine zN_lt (tgt := 220) (a := b0) C (by omega) dX10_sums_212 (by decide) ?_
                refine lv_iload hx hb dX10_sums_215 (lv_at hl 0 rfl) ?_
                refine zN_ne (tgt := 224) (a := t2.length) C (by omega) dX10_sums_217 (by decide) (fun c_217 => ?_) (fun c_217 => ?_)
                · skip
                  refine lv_iload_n hx hb dX10_sums_224 rfl (lv_at hl 5 rfl) ?_
                  refine lv_iload hx hb dX10_sums_225 (lv_at hl 0 rfl) ?_
                  refine lv_iadd hx hb dX10_sums_227 ?_
                  refine tI (y := nI (b0 + t2.length)) (nI_add _ _) ?_
                  refine lv_istore_n (lv' := [(3, .int (nI (b0 + t2.length))), (6, .int (nI (t2.length))), (5, .int (nI (t1.length))), (0, .ref (zad z 27)), (1, .int (nI (w))), (2, .int (nI (f))), (4, .int (nI (m - 1)))]) hx hb dX10_sums_228 rfl hl (by decide) rfl (fun ls hl => ?_)
                  refine lv_iinc (v := nI (m - 1) - 1) (lv' := [(4, .int (nI (m - 1) - 1)), (3, .int (nI (b0 + t2.length))), (6, .int (nI (t2.length))), (5, .int (nI (t1.length))), (0, .ref (zad z 27)), (1, .int (nI (w))), (2, .int (nI (f)))]) hx hb dX10_sums_229 hl (k := 6) rfl (decI _) (by decide) rfl (fun ls hl => ?_)
                  refine lv_goto (tgt := 127) hx hb dX10_sums_232 (by decide) ?_
                  exact ih_127 (m - 1) (some (b0 + t2.length)) (upd (g) (f + (m - 1)) (nI (b0 + t1.length))) (by omega) H locs ls ⟨by omega, fun _ => (by rw [show N - (m - 1) = N - m + 1 by omega, show chS (blC (wt w 1) (wt w 2) (wt w 3) (wt w 4)) (ar 34) N (N - m + 1) = oadd (chS (blC (wt w 1) (wt w 2) (wt w 3) (wt w 4)) (ar 34) N (N - m)) ((blC (wt w 1) (wt w 2) (wt w 3) (wt w 4)) (ar 34 (N - (N - m + 1))) (ar 34 (N - (N - m + 1) - 1))) from rfl, ← h2 hm, show N - (N - m + 1) = m - 1 by omega, show (blC (wt w 1) (wt w 2) (wt w 3) (wt w 4)) (ar 34 (m - 1)) (ar 34 (m - 1 - 1)) = some t2.length from (show ((cdO (wt w 3) (toldI (wt w 4) (ar 34 (m - 1)) (ar 34 (m - 1 - 1)))).bind (enc (wt w 1) (wt w 2))).map List.length = _ by rw [ho_t2]; rfl)]; rfl), (fun q e => by have e2 : some (b0 + t2.length) = chS (blC (wt w 1) (wt w 2) (wt w 3) (wt w 4)) (ar 34) N (N - (m - 1)) := (by rw [show N - (m - 1) = N - m + 1 by omega, show chS (blC (wt w 1) (wt w 2) (wt w 3) (wt w 4)) (ar 34) N (N - m + 1) = oadd (chS (blC (wt w 1) (wt w 2) (wt w 3) (wt w 4)) (ar 34) N (N - m)) ((blC (wt w 1) (wt w 2) (wt w 3) (wt w 4)) (ar 34 (N - (N - m + 1))) (ar 34 (N - (N - m + 1) - 1))) from rfl, ← h2 hm, show N - (N - m + 1) = m - 1 by omega, show (blC (wt w 1) (wt w 2) (wt w 3) (wt w 4)) (ar 34 (m - 1)) (ar 34 (m - 1 - 1)) = some t2.length from (show ((cdO (wt w 3) (toldI (wt w 4) (ar 34 (m - 1)) (ar 34 (m - 1 - 1)))).bind (enc (wt w 1) (wt w 2))).map List.length = _ by rw [ho_t2]; rfl)]; rfl); have := chS_bd (fun x y q e => Nat.le_trans (blC_le e) hB5) (N - (m - 1)) q (e2.symm.trans e); omega), fun q hq hm2 => (by by_cases e : q = m - 1; rw [e, pk_us]; exact (by rw [htl, show (blC (wt w 1) (wt w 2) (wt w 3) (wt w 4)) (ar 34 (m - 1)) 0 = some t1.length from (show ((cdO (wt w 3) (toldI (wt w 4) (ar 34 (m - 1)) 0)).bind (enc (wt w 1) (wt w 2))).map List.length = _ by rw [told0, ho_t1]; rfl)]; rfl); rw [pk_un (by omega)]; exact h4 q hq (by omega)), fun q hq => (by rw [pk_un (by omega)]; exact h5 q hq), h, lv_sub hl [4, 5, 6, 1, 0] rfl⟩
                · skip
                  omega
            · skip
              refine lv_iconst (v := nI (0)) hx hb dX10_sums_178 (by decide) ?_
              refine lv_goto (tgt := 209) hx hb dX10_sums_179 (by decide) ?_
              refine lv_istore (lv' := [(6, .int (nI (0))), (5, .int (nI (t1.length))), (0, .ref (zad z 27)), (1, .int (nI (w))), (2, .int (nI (f))), (3, .int (nI (b0))), (4, .int (nI (m - 1)))]) hx hb dX10_sums_209 hl (by decide) rfl (fun ls hl => ?_)
              refine lv_iload_n hx hb dX10_sums_211 rfl (lv_at hl 5 rfl) ?_
              refine zN_lt (tgt := 220) (a := b0) C (by omega) dX10_sums_212 (by decide) ?_
              refine lv_iload hx hb dX10_sums_215 (lv_at hl 0 rfl) ?_
              refine zN_ne (tgt := 224) (a := 0) C (by decide) dX10_sums_217 (by decide) (fun q => absurd q (by decide)) (fun _ => ?_)
              refine lv_iconst (v := (-1)) hx hb dX10_sums_220 (by decide) ?_
              refine lv_goto (tgt := 228) hx hb dX10_sums_221 (by decide) ?_
              refine lv_istore_n (lv' := [(3, .int ((-1))), (6, .int (nI (0))), (5, .int (nI (t1.length))), (0, .ref (zad z 27)), (1, .int (nI (w))), (2, .int (nI (f))), (4, .int (nI (m - 1)))]) hx hb dX10_sums_228 rfl hl (by decide) rfl (fun ls hl => ?_)
              refine lv_iinc (v := nI (m - 1) - 1) (lv' := [(4, .int (nI (m - 1) - 1)), (3, .int ((-1))), (6, .int (nI (0))), (5, .int (nI (t1.length))), (0, .ref (zad z 27)), (1, .int (nI (w))), (2, .int (nI (f)))]) hx hb dX10_sums_229 hl (k := 6) rfl (decI _) (by decide) rfl (fun ls hl => ?_)
              refine lv_goto (tgt := 127) hx hb dX10_sums_232 (by decide) ?_
              exact ih_127 (m - 1) (none) (upd (g) (f + (m - 1)) (nI (b0 + t1.length))) (by omega) H locs ls ⟨by omega, fun q => absurd q (by omega), (fun q e => by cases e), fun q hq hm2 => (by by_cases e : q = m - 1; rw [e, pk_us]; exact (by rw [htl, show (blC (wt w 1) (wt w 2) (wt w 3) (wt w 4)) (ar 34 (m - 1)) 0 = some t1.length from (show ((cdO (wt w 3) (toldI (wt w 4) (ar 34 (m - 1)) 0)).bind (enc (wt w 1) (wt w 2))).map List.length = _ by rw [told0, ho_t1]; rfl)]; rfl); rw [pk_un (by omega)]; exact h4 q hq (by omega)), fun q hq => (by rw [pk_un (by omega)]; exact h5 q hq), h, lv_sub hl [4, 5, 6, 1, 0] rfl⟩
          · skip
            omega
  · skip
    refine lv_aload_n hx hb dX10_sums_35 rfl (lv_at hl 0 rfl) ?_
    refine lv_iload_n hx hb dX10_sums_36 rfl (lv_at hl 1 rfl) ?_
    refine lv_aload_n hx hb dX10_sums_37 rfl (lv_at hl 0 rfl) ?_
    refine lv_iload_n hx hb dX10_sums_38 rfl (lv_at hl 1 rfl) ?_
    refine lv_aload_n hx hb dX10_sums_39 rfl (lv_at hl 0 rfl) ?_
    refine rg_X10_28 C h dX10_sums_40 ?_
    refine lv_iload_n hx hb dX10_sums_43 rfl (lv_at hl 3 rfl) ?_
    refine ldA 34 rfl (j := k) (show k < 400 by omega) (by decide) C h dX10_sums_44 ?_
    refine tI (y := ar 34 k) rfl ?_
    refine lv_iload_n hx hb dX10_sums_45 rfl (lv_at hl 3 rfl) ?_
    refine zN_ne (tgt := 53) (a := k) C (by omega) dX10_sums_46 (by decide) (fun c_46 => ?_) (fun c_46 => ?_)
    · skip
      refine lv_aload_n hx hb dX10_sums_53 rfl (lv_at hl 0 rfl) ?_
      refine rg_X10_28 C h dX10_sums_54 ?_
      refine lv_iload_n hx hb dX10_sums_57 rfl (lv_at hl 3 rfl) ?_
      refine lv_iconst (v := nI (1)) hx hb dX10_sums_58 (by decide) ?_
      refine lv_isub hx hb dX10_sums_59 ?_
      refine tI (y := nI (k - 1)) (pk_sub (by omega)) ?_
      refine ldA 34 rfl (j := k - 1) (show k - 1 < 400 by omega) (by decide) C h dX10_sums_60 ?_
      refine tI (y := ar 34 (k - 1)) rfl ?_
      refine tI (y := (if k = 0 then 0 else ar 34 (k - 1))) (if_neg (by omega)).symm ?_
      refine backI h (runV (As := [.int (nI (w)), .int (ar 34 k), .int ((if k = 0 then 0 else ar 34 (k - 1)))]) (rest := [.int (nI (w)), .ref (zad z 27)]) C h (r_told l z v sc (va_up (va_up ar 51 A) 52 (upd (ar 52) (f + N) (nI 0))) K w wt dp (ar 34 k) (if k = 0 then 0 else ar 34 (k - 1)) hK4 (hRW.fr2 (fun k hk => (va_up_ne _ _ (by omega)).trans (va_up_ne _ _ (by omega)))) hw hw0) gv_X10_157 gv_X10_157_n ⟨rfl, rfl⟩ (r_Ref C h) rfl hl.1 rfl (Nat.le_of_ble_eq_true rfl) dX10_sums_61 ⟨Nat.le_of_ble_eq_true rfl, Nat.le_of_ble_eq_true rfl⟩ ⟨Nat.le_of_ble_eq_true rfl, Nat.le_of_ble_eq_true rfl⟩) (fun r_61 v_61 sc_61 ar_61 H locs p_61 h => ?_)
      have h : hH z v sc (va_up (va_up ar 51 A) 52 (upd (ar 52) (f + N) (nI 0))) s H locs := uEq p_61.2 h
      refine tI (y := toldI (wt w 4) (ar 34 k) (if k = 0 then 0 else ar 34 (k - 1))) p_61.1 ?_
      refine lv_iconst (v := nI (0)) hx hb dX10_sums_64 (by decide) ?_
      refine backI h (runV (As := [.int (nI (w)), .int (toldI (wt w 4) (ar 34 k) (if k = 0 then 0 else ar 34 (k - 1))), .int (nI (0))]) (rest := []) C h (r_bytesF l z v sc (va_up (va_up ar 51 A) 52 (upd (ar 52) (f + N) (nI 0))) K w 0 wt dp (toldI (wt w 4) (ar 34 k) (if k = 0 then 0 else ar 34 (k - 1))) hK4 (hRW.fr2 (fun k hk => (va_up_ne _ _ (by omega)).trans (va_up_ne _ _ (by omega)))) hw hw0) gv_X10_161 gv_X10_161_n ⟨rfl, rfl⟩ (r_Ref C h) rfl hl.1 rfl (Nat.le_of_ble_eq_true rfl) dX10_sums_65 ⟨Nat.le_of_ble_eq_true rfl, Nat.le_of_ble_eq_true rfl⟩ ⟨Nat.le_of_ble_eq_true rfl, Nat.le_of_ble_eq_true rfl⟩) (fun r_65 v_65 sc_65 ar_65 H locs p_65 h => ?_)
      obtain ⟨er_t0, ps_t0, eu_t0, hpl_t0, hps_t0⟩ := p_65
      have h : hH z v sc (va_up (va_up ar 51 A) 52 (upd (ar 52) (f + N) (nI 0))) s H locs := uEq eu_t0 h
      rcases ho_t0 : ((cdO (wt w 3) (toldI (wt w 4) (ar 34 k) (if k = 0 then 0 else ar 34 (k - 1)))).bind (enc (wt w 1) (wt w 2))) with _ | t0
      · skip
        rw [ho_t0] at er_t0
        refine tI (y := nI 0) er_t0 ?_
        refine lv_istore (lv' := [(4, .int (nI (0))), (0, .ref (zad z 27)), (1, .int (nI (w))), (2, .int (nI (f))), (3, .int (nI (k)))]) hx hb dX10_sums_68 hl (by decide) rfl (fun ls hl => ?_)
        rcases hh : hdS (blC (wt w 1) (wt w 2) (wt w 3) (wt w 4)) (ar 34) k with _ | a0
        · skip
          refine lv_aload_n hx hb dX10_sums_70 rfl (lv_at hl 1 rfl) ?_
          refine rg_X10_93 C h dX10_sums_71 ?_
          refine lv_iload_n hx hb dX10_sums_74 rfl (lv_at hl 3 rfl) ?_
          refine lv_iload_n hx hb dX10_sums_75 rfl (lv_at hl 4 rfl) ?_
          refine lv_iadd hx hb dX10_sums_76 ?_
          refine tI (y := nI (f + k)) (nI_add _ _) ?_
          refine lv_iconst (v := nI (1)) hx hb dX10_sums_77 (by decide) ?_
          refine lv_iadd hx hb dX10_sums_78 ?_
          refine tI (y := nI (f + (k + 1))) (by rw [nI_add, Nat.add_assoc]) ?_
          refine lv_aload_n hx hb dX10_sums_79 rfl (lv_at hl 1 rfl) ?_
          refine rg_X10_93 C h dX10_sums_80 ?_
          refine lv_iload_n hx hb dX10_sums_83 rfl (lv_at hl 3 rfl) ?_
          refine lv_iload_n hx hb dX10_sums_84 rfl (lv_at hl 4 rfl) ?_
          refine lv_iadd hx hb dX10_sums_85 ?_
          refine tI (y := nI (f + k)) (nI_add _ _) ?_
          refine ldA 51 rfl (j := f + k) (show f + k < 16040 by omega) (by decide) C h dX10_sums_86 ?_
          refine tI (y := (-1)) ((h2 k (by omega)).trans (by rw [hh]; rfl)) ?_
          refine lv_if_lt (tgt := 95) hx hb dX10_sums_87 (by decide) (fun c_87 => ?_) (fun c_87 => ?_)
          · skip
            refine lv_iconst (v := (-1)) hx hb dX10_sums_95 (by decide) ?_
            refine lv_goto (tgt := 110) hx hb dX10_sums_96 (by decide) ?_
            refine stA 51 rfl (j := f + (k + 1)) (x := (-1)) (show f + (k + 1) < 16040 by omega) (by decide) C h dX10_sums_110 (fun H locs h => ?_)
            rw [up_51] at h
            have h : hH z v sc (va_up (va_up ar 51 (upd (A) (f + (k + 1)) ((-1)))) 52 (upd (ar 52) (f + N) (nI 0))) s H locs := h
            refine lv_iinc (v := nI (k + 1)) (lv' := [(3, .int (nI (k + 1))), (4, .int (nI (0))), (0, .ref (zad z 27)), (1, .int (nI (w))), (2, .int (nI (f)))]) hx hb dX10_sums_111 hl (k := 4) rfl (nN_inc _) (by decide) rfl (fun ls hl => ?_)
            refine lv_goto (tgt := 27) hx hb dX10_sums_114 (by decide) ?_
            exact ih_27 (k + 1) (upd (A) (f + (k + 1)) ((-1))) (by omega) H locs ls ⟨by omega, fun q hq => (by by_cases e : q = k + 1; rw [e, pk_us]; exact (by rw [show hdS (blC (wt w 1) (wt w 2) (wt w 3) (wt w 4)) (ar 34) (k + 1) = oadd (hdS (blC (wt w 1) (wt w 2) (wt w 3) (wt w 4)) (ar 34) k) ((blC (wt w 1) (wt w 2) (wt w 3) (wt w 4)) (ar 34 k) (if k = 0 then 0 else ar 34 (k - 1))) from rfl, hh]; rfl); rw [pk_un (by omega)]; exact h2 q (by omega)), fun q hq => (by rw [pk_un (by omega)]; exact h3 q hq), h, lv_sub hl [2, 3, 4, 0] rfl⟩
          · skip
            exact absurd (by decide : (-1 : Int32) < 0) c_87
        · skip
          have hba := hdS_bd (fun x y q e => Nat.le_trans (blC_le e) hB5) k a0 hh
          refine lv_aload_n hx hb dX10_sums_70 rfl (lv_at hl 1 rfl) ?_
          refine rg_X10_93 C h dX10_sums_71 ?_
          refine lv_iload_n hx hb dX10_sums_74 rfl (lv_at hl 3 rfl) ?_
          refine lv_iload_n hx hb dX10_sums_75 rfl (lv_at hl 4 rfl) ?_
          refine lv_iadd hx hb dX10_sums_76 ?_
          refine tI (y := nI (f + k)) (nI_add _ _) ?_
          refine lv_iconst (v := nI (1)) hx hb dX10_sums_77 (by decide) ?_
          refine lv_iadd hx hb dX10_sums_78 ?_
          refine tI (y := nI (f + (k + 1))) (by rw [nI_add, Nat.add_assoc]) ?_
          refine lv_aload_n hx hb dX10_sums_79 rfl (lv_at hl 1 rfl) ?_
          refine rg_X10_93 C h dX10_sums_80 ?_
          refine lv_iload_n hx hb dX10_sums_83 rfl (lv_at hl 3 rfl) ?_
          refine lv_iload_n hx hb dX10_sums_84 rfl (lv_at hl 4 rfl) ?_
          refine lv_iadd hx hb dX10_sums_85 ?_
          refine tI (y := nI (f + k)) (nI_add _ _) ?_
          refine ldA 51 rfl (j := f + k) (show f + k < 16040 by omega) (by decide) C h dX10_sums_86 ?_
          refine tI (y := nI (a0)) ((h2 k (by omega)).trans (by rw [hh]; rfl)) ?_
          refine zN_lt (tgt := 95) (a := a0) C (by omega) dX10_sums_87 (by decide) ?_
          refine lv_iload hx hb dX10_sums_90 (lv_at hl 0 rfl) ?_
          refine zN_ne (tgt := 99) (a := 0) C (by decide) dX10_sums_92 (by decide) (fun q => absurd q (by decide)) (fun _ => ?_)
          refine lv_iconst (v := (-1)) hx hb dX10_sums_95 (by decide) ?_
          refine lv_goto (tgt := 110) hx hb dX10_sums_96 (by decide) ?_
          refine stA 51 rfl (j := f + (k + 1)) (x := (-1)) (show f + (k + 1) < 16040 by omega) (by decide) C h dX10_sums_110 (fun H locs h => ?_)
          rw [up_51] at h
          have h : hH z v sc (va_up (va_up ar 51 (upd (A) (f + (k + 1)) ((-1)))) 52 (upd (ar 52) (f + N) (nI 0))) s H locs := h
          refine lv_iinc (v := nI (k + 1)) (lv' := [(3, .int (nI (k + 1))), (4, .int (nI (0))), (0, .ref (zad z 27)), (1, .int (nI (w))), (2, .int (nI (f)))]) hx hb dX10_sums_111 hl (k := 4) rfl (nN_inc _) (by decide) rfl (fun ls hl => ?_)
          refine lv_goto (tgt := 27) hx hb dX10_sums_114 (by decide) ?_
          exact ih_27 (k + 1) (upd (A) (f + (k + 1)) ((-1))) (by omega) H locs ls ⟨by omega, fun q hq => (by by_cases e : q = k + 1; rw [e, pk_us]; exact (by rw [show hdS (blC (wt w 1) (wt w 2) (wt w 3) (wt w 4)) (ar 34) (k + 1) = oadd (hdS (blC (wt w 1) (wt w 2) (wt w 3) (wt w 4)) (ar 34) k) ((blC (wt w 1) (wt w 2) (wt w 3) (wt w 4)) (ar 34 k) (if k = 0 then 0 else ar 34 (k - 1))) from rfl, hh, show (blC (wt w 1) (wt w 2) (wt w 3) (wt w 4)) (ar 34 k) (if k = 0 then 0 else ar 34 (k - 1)) = none from (show ((cdO (wt w 3) (toldI (wt w 4) (ar 34 k) (if k = 0 then 0 else ar 34 (k - 1)))).bind (enc (wt w 1) (wt w 2))).map List.length = _ by rw [ho_t0]; rfl)]; rfl); rw [pk_un (by omega)]; exact h2 q (by omega)), fun q hq => (by rw [pk_un (by omega)]; exact h3 q hq), h, lv_sub hl [2, 3, 4, 0] rfl⟩
      · skip
        rw [ho_t0] at er_t0
        have h5_t0 := hps_t0 t0 ho_t0
        rw [h5_t0] at hpl_t0
        have h1_t0 : 1 ≤ t0.length := by
          cases hcd : cdO (wt w 3) (toldI (wt w 4) (ar 34 k) (if k = 0 then 0 else ar 34 (k - 1))) with
          | none => rw [hcd] at ho_t0; cases ho_t0
          | some q => rw [hcd] at ho_t0; exact enc_pos _ _ _ ho_t0
        refine tI (y := nI t0.length) er_t0 ?_
        refine lv_istore (lv' := [(4, .int (nI (t0.length))), (0, .ref (zad z 27)), (1, .int (nI (w))), (2, .int (nI (f))), (3, .int (nI (k)))]) hx hb dX10_sums_68 hl (by decide) rfl (fun ls hl => ?_)
        rcases hh : hdS (blC (wt w 1) (wt w 2) (wt w 3) (wt w 4)) (ar 34) k with _ | a0
        · skip
          refine lv_aload_n hx hb dX10_sums_70 rfl (lv_at hl 1 rfl) ?_
          refine rg_X10_93 C h dX10_sums_71 ?_
          refine lv_iload_n hx hb dX10_sums_74 rfl (lv_at hl 3 rfl) ?_
          refine lv_iload_n hx hb dX10_sums_75 rfl (lv_at hl 4 rfl) ?_
          refine lv_iadd hx hb dX10_sums_76 ?_
          refine tI (y := nI (f + k)) (nI_add _ _) ?_
          refine lv_iconst (v := nI (1)) hx hb dX10_sums_77 (by decide) ?_
          refine lv_iadd hx hb dX10_sums_78 ?_
          refine tI (y := nI (f + (k + 1))) (by rw [nI_add, Nat.add_assoc]) ?_
          refine lv_aload_n hx hb dX10_sums_79 rfl (lv_at hl 1 rfl) ?_
          refine rg_X10_93 C h dX10_sums_80 ?_
          refine lv_iload_n hx hb dX10_sums_83 rfl (lv_at hl 3 rfl) ?_
          refine lv_iload_n hx hb dX10_sums_84 rfl (lv_at hl 4 rfl) ?_
          refine lv_iadd hx hb dX10_sums_85 ?_
          refine tI (y := nI (f + k)) (nI_add _ _) ?_
          refine ldA 51 rfl (j := f + k) (show f + k < 16040 by omega) (by decide) C h dX10_sums_86 ?_
          refine tI (y := (-1)) ((h2 k (by omega)).trans (by rw [hh]; rfl)) ?_
          refine lv_if_lt (tgt := 95) hx hb dX10_sums_87 (by decide) (fun c_87 => ?_) (fun c_87 => ?_)
          · skip
            refine lv_iconst (v := (-1)) hx hb dX10_sums_95 (by decide) ?_
            refine lv_goto (tgt := 110) hx hb dX10_sums_96 (by decide) ?_
            refine stA 51 rfl (j := f + (k + 1)) (x := (-1)) (show f + (k + 1) < 16040 by omega) (by decide) C h dX10_sums_110 (fun H locs h => ?_)
            rw [up_51] at h
            have h : hH z v sc (va_up (va_up ar 51 (upd (A) (f + (k + 1)) ((-1)))) 52 (upd (ar 52) (f + N) (nI 0))) s H locs := h
            refine lv_iinc (v := nI (k + 1)) (lv' := [(3, .int (nI (k + 1))), (4, .int (nI (t0.length))), (0, .ref (zad z 27)), (1, .int (nI (w))), (2, .int (nI (f)))]) hx hb dX10_sums_111 hl (k := 4) rfl (nN_inc _) (by decide) rfl (fun ls hl => ?_)
            refine lv_goto (tgt := 27) hx hb dX10_sums_114 (by decide) ?_
            exact ih_27 (k + 1) (upd (A) (f + (k + 1)) ((-1))) (by omega) H locs ls ⟨by omega, fun q hq => (by by_cases e : q = k + 1; rw [e, pk_us]; exact (by rw [show hdS (blC (wt w 1) (wt w 2) (wt w 3) (wt w 4)) (ar 34) (k + 1) = oadd (hdS (blC (wt w 1) (wt w 2) (wt w 3) (wt w 4)) (ar 34) k) ((blC (wt w 1) (wt w 2) (wt w 3) (wt w 4)) (ar 34 k) (if k = 0 then 0 else ar 34 (k - 1))) from rfl, hh]; rfl); rw [pk_un (by omega)]; exact h2 q (by omega)), fun q hq => (by rw [pk_un (by omega)]; exact h3 q hq), h, lv_sub hl [2, 3, 4, 0] rfl⟩
          · skip
            exact absurd (by decide : (-1 : Int32) < 0) c_87
        · skip
          have hba := hdS_bd (fun x y q e => Nat.le_trans (blC_le e) hB5) k a0 hh
          refine lv_aload_n hx hb dX10_sums_70 rfl (lv_at hl 1 rfl) ?_
          refine rg_X10_93 C h dX10_sums_71 ?_
          refine lv_iload_n hx hb dX10_sums_74 rfl (lv_at hl 3 rfl) ?_
          refine lv_iload_n hx hb dX10_sums_75 rfl (lv_at hl 4 rfl) ?_
          refine lv_iadd hx hb dX10_sums_76 ?_
          refine tI (y := nI (f + k)) (nI_add _ _) ?_
          refine lv_iconst (v := nI (1)) hx hb dX10_sums_77 (by decide) ?_
          refine lv_iadd hx hb dX10_sums_78 ?_
          refine tI (y := nI (f + (k + 1))) (by rw [nI_add, Nat.add_assoc]) ?_
          refine lv_aload_n hx hb dX10_sums_79 rfl (lv_at hl 1 rfl) ?_
          refine rg_X10_93 C h dX10_sums_80 ?_
          refine lv_iload_n hx hb dX10_sums_83 rfl (lv_at hl 3 rfl) ?_
          refine lv_iload_n hx hb dX10_sums_84 rfl (lv_at hl 4 rfl) ?_
          refine lv_iadd hx hb dX10_sums_85 ?_
          refine tI (y := nI (f + k)) (nI_add _ _) ?_
          refine ldA 51 rfl (j := f + k) (show f + k < 16040 by omega) (by decide) C h dX10_sums_86 ?_
          refine tI (y := nI (a0)) ((h2 k (by omega)).trans (by rw [hh]; rfl)) ?_
          refine zN_lt (tgt := 95) (a := a0) C (by omega) dX10_sums_87 (by decide) ?_
          refine lv_iload hx hb dX10_sums_90 (lv_at hl 0 rfl) ?_
          refine zN_ne (tgt := 99) (a := t0.length) C (by omega) dX10_sums_92 (by decide) (fun c_92 => ?_) (fun c_92 => ?_)
          · skip
            refine lv_aload_n hx hb dX10_sums_99 rfl (lv_at hl 1 rfl) ?_
            refine rg_X10_93 C h dX10_sums_100 ?_
            refine lv_iload_n hx hb dX10_sums_103 rfl (lv_at hl 3 rfl) ?_
            refine lv_iload_n hx hb dX10_sums_104 rfl (lv_at hl 4 rfl) ?_
            refine lv_iadd hx hb dX10_sums_105 ?_
            refine tI (y := nI (f + k)) (nI_add _ _) ?_
            refine ldA 51 rfl (j := f + k) (show f + k < 16040 by omega) (by decide) C h dX10_sums_106 ?_
            refine tI (y := nI (a0)) ((h2 k (by omega)).trans (by rw [hh]; rfl)) ?_
            refine lv_iload hx hb dX10_sums_107 (lv_at hl 0 rfl) ?_
            refine lv_iadd hx hb dX10_sums_109 ?_
            refine tI (y := nI (a0 + t0.length)) (nI_add _ _) ?_
            refine stA 51 rfl (j := f + (k + 1)) (x := nI (a0 + t0.length)) (show f + (k + 1) < 16040 by omega) (by decide) C h dX10_sums_110 (fun H locs h => ?_)
            rw [up_51] at h
            have h : hH z v sc (va_up (va_up ar 51 (upd (A) (f + (k + 1)) (nI (a0 + t0.length)))) 52 (upd (ar 52) (f + N) (nI 0))) s H locs := h
            refine lv_iinc (v := nI (k + 1)) (lv' := [(3, .int (nI (k + 1))), (4, .int (nI (t0.length))), (0, .ref (zad z 27)), (1, .int (nI (w))), (2, .int (nI (f)))]) hx hb dX10_sums_111 hl (k := 4) rfl (nN_inc _) (by decide) rfl (fun ls hl => ?_)
            refine lv_goto (tgt := 27) hx hb dX10_sums_114 (by decide) ?_
            exact ih_27 (k + 1) (upd (A) (f + (k + 1)) (nI (a0 + t0.length))) (by omega) H locs ls ⟨by omega, fun q hq => (by by_cases e : q = k + 1; rw [e, pk_us]; exact (by rw [show hdS (blC (wt w 1) (wt w 2) (wt w 3) (wt w 4)) (ar 34) (k + 1) = oadd (hdS (blC (wt w 1) (wt w 2) (wt w 3) (wt w 4)) (ar 34) k) ((blC (wt w 1) (wt w 2) (wt w 3) (wt w 4)) (ar 34 k) (if k = 0 then 0 else ar 34 (k - 1))) from rfl, hh, show (blC (wt w 1) (wt w 2) (wt w 3) (wt w 4)) (ar 34 k) (if k = 0 then 0 else ar 34 (k - 1)) = some t0.length from (show ((cdO (wt w 3) (toldI (wt w 4) (ar 34 k) (if k = 0 then 0 else ar 34 (k - 1)))).bind (enc (wt w 1) (wt w 2))).map List.length = _ by rw [ho_t0]; rfl)]; rfl); rw [pk_un (by omega)]; exact h2 q (by omega)), fun q hq => (by rw [pk_un (by omega)]; exact h3 q hq), h, lv_sub hl [2, 3, 4, 0] rfl⟩
          · skip
            omega
    · skip
      refine lv_iconst (v := nI (0)) hx hb dX10_sums_49 (by decide) ?_
      refine lv_goto (tgt := 61) hx hb dX10_sums_50 (by decide) ?_
      refine tI (y := (if k = 0 then 0 else ar 34 (k - 1))) (by rw [if_pos c_46]; rfl) ?_
      refine backI h (runV (As := [.int (nI (w)), .int (ar 34 k), .int ((if k = 0 then 0 else ar 34 (k - 1)))]) (rest := [.int (nI (w)), .ref (zad z 27)]) C h (r_told l z v sc (va_up (va_up ar 51 A) 52 (upd (ar 52) (f + N) (nI 0))) K w wt dp (ar 34 k) (if k = 0 then 0 else ar 34 (k - 1)) hK4 (hRW.fr2 (fun k hk => (va_up_ne _ _ (by omega)).trans (va_up_ne _ _ (by omega)))) hw hw0) gv_X10_157 gv_X10_157_n ⟨rfl, rfl⟩ (r_Ref C h) rfl hl.1 rfl (Nat.le_of_ble_eq_true rfl) dX10_sums_61 ⟨Nat.le_of_ble_eq_true rfl, Nat.le_of_ble_eq_true rfl⟩ ⟨Nat.le_of_ble_eq_true rfl, Nat.le_of_ble_eq_true rfl⟩) (fun r_61 v_61 sc_61 ar_61 H locs p_61 h => ?_)
      have h : hH z v sc (va_up (va_up ar 51 A) 52 (upd (ar 52) (f + N) (nI 0))) s H locs := uEq p_61.2 h
      refine tI (y := toldI (wt w 4) (ar 34 k) (if k = 0 then 0 else ar 34 (k - 1))) p_61.1 ?_
      refine lv_iconst (v := nI (0)) hx hb dX10_sums_64 (by decide) ?_
      refine backI h (runV (As := [.int (nI (w)), .int (toldI (wt w 4) (ar 34 k) (if k = 0 then 0 else ar 34 (k - 1))), .int (nI (0))]) (rest := []) C h (r_bytesF l z v sc (va_up (va_up ar 51 A) 52 (upd (ar 52) (f + N) (nI 0))) K w 0 wt dp (toldI (wt w 4) (ar 34 k) (if k = 0 then 0 else ar 34 (k - 1))) hK4 (hRW.fr2 (fun k hk => (va_up_ne _ _ (by omega)).trans (va_up_ne _ _ (by omega)))) hw hw0) gv_X10_161 gv_X10_161_n ⟨rfl, rfl⟩ (r_Ref C h) rfl hl.1 rfl (Nat.le_of_ble_eq_true rfl) dX10_sums_65 ⟨Nat.le_of_ble_eq_true rfl, Nat.le_of_ble_eq_true rfl⟩ ⟨Nat.le_of_ble_eq_true rfl, Nat.le_of_ble_eq_true rfl⟩) (fun r_65 v_65 sc_65 ar_65 H locs p_65 h => ?_)
      obtain ⟨er_t0, ps_t0, eu_t0, hpl_t0, hps_t0⟩ := p_65
      have h : hH z v sc (va_up (va_up ar 51 A) 52 (upd (ar 52) (f + N) (nI 0))) s H locs := uEq eu_t0 h
      rcases ho_t0 : ((cdO (wt w 3) (toldI (wt w 4) (ar 34 k) (if k = 0 then 0 else ar 34 (k - 1)))).bind (enc (wt w 1) (wt w 2))) with _ | t0
      · skip
        rw [ho_t0] at er_t0
        refine tI (y := nI 0) er_t0 ?_
        refine lv_istore (lv' := [(4, .int (nI (0))), (0, .ref (zad z 27)), (1, .int (nI (w))), (2, .int (nI (f))), (3, .int (nI (k)))]) hx hb dX10_sums_68 hl (by decide) rfl (fun ls hl => ?_)
        rcases hh : hdS (blC (wt w 1) (wt w 2) (wt w 3) (wt w 4)) (ar 34) k with _ | a0
        · skip
          refine lv_aload_n hx hb dX10_sums_70 rfl (lv_at hl 1 rfl) ?_
          refine rg_X10_93 C h dX10_sums_71 ?_
          refine lv_iload_n hx hb dX10_sums_74 rfl (lv_at hl 3 rfl) ?_
          refine lv_iload_n hx hb dX10_sums_75 rfl (lv_at hl 4 rfl) ?_
          refine lv_iadd hx hb dX10_sums_76 ?_
          refine tI (y := nI (f + k)) (nI_add _ _) ?_
          refine lv_iconst (v := nI (1)) hx hb dX10_sums_77 (by decide) ?_
          refine lv_iadd hx hb dX10_sums_78 ?_
          refine tI (y := nI (f + (k + 1))) (by rw [nI_add, Nat.add_assoc]) ?_
          refine lv_aload_n hx hb dX10_sums_79 rfl (lv_at hl 1 rfl) ?_
          refine rg_X10_93 C h dX10_sums_80 ?_
          refine lv_iload_n hx hb dX10_sums_83 rfl (lv_at hl 3 rfl) ?_
          refine lv_iload_n hx hb dX10_sums_84 rfl (lv_at hl 4 rfl) ?_
          refine lv_iadd hx hb dX10_sums_85 ?_
          refine tI (y := nI (f + k)) (nI_add _ _) ?_
          refine ldA 51 rfl (j := f + k) (show f + k < 16040 by omega) (by decide) C h dX10_sums_86 ?_
          refine tI (y := (-1)) ((h2 k (by omega)).trans (by rw [hh]; rfl)) ?_
          refine lv_if_lt (tgt := 95) hx hb dX10_sums_87 (by decide) (fun c_87 => ?_) (fun c_87 => ?_)
          · skip
            refine lv_iconst (v := (-1)) hx hb dX10_sums_95 (by decide) ?_
            refine lv_goto (tgt := 110) hx hb dX10_sums_96 (by decide) ?_
            refine stA 51 rfl (j := f + (k + 1)) (x := (-1)) (show f + (k + 1) < 16040 by omega) (by decide) C h dX10_sums_110 (fun H locs h => ?_)
            rw [up_51] at h
            have h : hH z v sc (va_up (va_up ar 51 (upd (A) (f + (k + 1)) ((-1)))) 52 (upd (ar 52) (f + N) (nI 0))) s H locs := h
            refine lv_iinc (v := nI (k + 1)) (lv' := [(3, .int (nI (k + 1))), (4, .int (nI (0))), (0, .ref (zad z 27)), (1, .int (nI (w))), (2, .int (nI (f)))]) hx hb dX10_sums_111 hl (k := 4) rfl (nN_inc _) (by decide) rfl (fun ls hl => ?_)
            refine lv_goto (tgt := 27) hx hb dX10_sums_114 (by decide) ?_
            exact ih_27 (k + 1) (upd (A) (f + (k + 1)) ((-1))) (by omega) H locs ls ⟨by omega, fun q hq => (by by_cases e : q = k + 1; rw [e, pk_us]; exact (by rw [show hdS (blC (wt w 1) (wt w 2) (wt w 3) (wt w 4)) (ar 34) (k + 1) = oadd (hdS (blC (wt w 1) (wt w 2) (wt w 3) (wt w 4)) (ar 34) k) ((blC (wt w 1) (wt w 2) (wt w 3) (wt w 4)) (ar 34 k) (if k = 0 then 0 else ar 34 (k - 1))) from rfl, hh]; rfl); rw [pk_un (by omega)]; exact h2 q (by omega)), fun q hq => (by rw [pk_un (by omega)]; exact h3 q hq), h, lv_sub hl [2, 3, 4, 0] rfl⟩
          · skip
            exact absurd (by decide : (-1 : Int32) < 0) c_87
        · skip
          have hba := hdS_bd (fun x y q e => Nat.le_trans (blC_le e) hB5) k a0 hh
          refine lv_aload_n hx hb dX10_sums_70 rfl (lv_at hl 1 rfl) ?_
          refine rg_X10_93 C h dX10_sums_71 ?_
          refine lv_iload_n hx hb dX10_sums_74 rfl (lv_at hl 3 rfl) ?_
          refine lv_iload_n hx hb dX10_sums_75 rfl (lv_at hl 4 rfl) ?_
          refine lv_iadd hx hb dX10_sums_76 ?_
          refine tI (y := nI (f + k)) (nI_add _ _) ?_
          refine lv_iconst (v := nI (1)) hx hb dX10_sums_77 (by decide) ?_
          refine lv_iadd hx hb dX10_sums_78 ?_
          refine tI (y := nI (f + (k + 1))) (by rw [nI_add, Nat.add_assoc]) ?_
          refine lv_aload_n hx hb dX10_sums_79 rfl (lv_at hl 1 rfl) ?_
          refine rg_X10_93 C h dX10_sums_80 ?_
          refine lv_iload_n hx hb dX10_sums_83 rfl (lv_at hl 3 rfl) ?_
          refine lv_iload_n hx hb dX10_sums_84 rfl (lv_at hl 4 rfl) ?_
          refine lv_iadd hx hb dX10_sums_85 ?_
          refine tI (y := nI (f + k)) (nI_add _ _) ?_
          refine ldA 51 rfl (j := f + k) (show f + k < 16040 by omega) (by decide) C h dX10_sums_86 ?_
          refine tI (y := nI (a0)) ((h2 k (by omega)).trans (by rw [hh]; rfl)) ?_
          refine zN_lt (tgt := 95) (a := a0) C (by omega) dX10_sums_87 (by decide) ?_
          refine lv_iload hx hb dX10_sums_90 (lv_at hl 0 rfl) ?_
          refine zN_ne (tgt := 99) (a := 0) C (by decide) dX10_sums_92 (by decide) (fun q => absurd q (by decide)) (fun _ => ?_)
          refine lv_iconst (v := (-1)) hx hb dX10_sums_95 (by decide) ?_
          refine lv_goto (tgt := 110) hx hb dX10_sums_96 (by decide) ?_
          refine stA 51 rfl (j := f + (k + 1)) (x := (-1)) (show f + (k + 1) < 16040 by omega) (by decide) C h dX10_sums_110 (fun H locs h => ?_)
          rw [up_51] at h
          have h : hH z v sc (va_up (va_up ar 51 (upd (A) (f + (k + 1)) ((-1)))) 52 (upd (ar 52) (f + N) (nI 0))) s H locs := h
          refine lv_iinc (v := nI (k + 1)) (lv' := [(3, .int (nI (k + 1))), (4, .int (nI (0))), (0, .ref (zad z 27)), (1, .int (nI (w))), (2, .int (nI (f)))]) hx hb dX10_sums_111 hl (k := 4) rfl (nN_inc _) (by decide) rfl (fun ls hl => ?_)
          refine lv_goto (tgt := 27) hx hb dX10_sums_114 (by decide) ?_
          exact ih_27 (k + 1) (upd (A) (f + (k + 1)) ((-1))) (by omega) H locs ls ⟨by omega, fun q hq => (by by_cases e : q = k + 1; rw [e, pk_us]; exact (by rw [show hdS (blC (wt w 1) (wt w 2) (wt w 3) (wt w 4)) (ar 34) (k + 1) = oadd (hdS (blC (wt w 1) (wt w 2) (wt w 3) (wt w 4)) (ar 34) k) ((blC (wt w 1) (wt w 2) (wt w 3) (wt w 4)) (ar 34 k) (if k = 0 then 0 else ar 34 (k - 1))) from rfl, hh, show (blC (wt w 1) (wt w 2) (wt w 3) (wt w 4)) (ar 34 k) (if k = 0 then 0 else ar 34 (k - 1)) = none from (show ((cdO (wt w 3) (toldI (wt w 4) (ar 34 k) (if k = 0 then 0 else ar 34 (k - 1)))).bind (enc (wt w 1) (wt w 2))).map List.length = _ by rw [ho_t0]; rfl)]; rfl); rw [pk_un (by omega)]; exact h2 q (by omega)), fun q hq => (by rw [pk_un (by omega)]; exact h3 q hq), h, lv_sub hl [2, 3, 4, 0] rfl⟩
      · skip
        rw [ho_t0] at er_t0
        have h5_t0 := hps_t0 t0 ho_t0
        rw [h5_t0] at hpl_t0
        have h1_t0 : 1 ≤ t0.length := by
          cases hcd : cdO (wt w 3) (toldI (wt w 4) (ar 34 k) (if k = 0 then 0 else ar 34 (k - 1))) with
          | none => rw [hcd] at ho_t0; cases ho_t0
          | some q => rw [hcd] at ho_t0; exact enc_pos _ _ _ ho_t0
        refine tI (y := nI t0.length) er_t0 ?_
        refine lv_istore (lv' := [(4, .int (nI (t0.length))), (0, .ref (zad z 27)), (1, .int (nI (w))), (2, .int (nI (f))), (3, .int (nI (k)))]) hx hb dX10_sums_68 hl (by decide) rfl (fun ls hl => ?_)
        rcases hh : hdS (blC (wt w 1) (wt w 2) (wt w 3) (wt w 4)) (ar 34) k with _ | a0
        · skip
          refine lv_aload_n hx hb dX10_sums_70 rfl (lv_at hl 1 rfl) ?_
          refine rg_X10_93 C h dX10_sums_71 ?_
          refine lv_iload_n hx hb dX10_sums_74 rfl (lv_at hl 3 rfl) ?_
          refine lv_iload_n hx hb dX10_sums_75 rfl (lv_at hl 4 rfl) ?_
          refine lv_iadd hx hb dX10_sums_76 ?_
          refine tI (y := nI (f + k)) (nI_add _ _) ?_
          refine lv_iconst (v := nI (1)) hx hb dX10_sums_77 (by decide) ?_
          refine lv_iadd hx hb dX10_sums_78 ?_
          refine tI (y := nI (f + (k + 1))) (by rw [nI_add, Nat.add_assoc]) ?_
          refine lv_aload_n hx hb dX10_sums_79 rfl (lv_at hl 1 rfl) ?_
          refine rg_X10_93 C h dX10_sums_80 ?_
          refine lv_iload_n hx hb dX10_sums_83 rfl (lv_at hl 3 rfl) ?_
          refine lv_iload_n hx hb dX10_sums_84 rfl (lv_at hl 4 rfl) ?_
          refine lv_iadd hx hb dX10_sums_85 ?_
          refine tI (y := nI (f + k)) (nI_add _ _) ?_
          refine ldA 51 rfl (j := f + k) (show f + k < 16040 by omega) (by decide) C h dX10_sums_86 ?_
          refine tI (y := (-1)) ((h2 k (by omega)).trans (by rw [hh]; rfl)) ?_
          refine lv_if_lt (tgt := 95) hx hb dX10_sums_87 (by decide) (fun c_87 => ?_) (fun c_87 => ?_)
          · skip
            refine lv_iconst (v := (-1)) hx hb dX10_sums_95 (by decide) ?_
            refine lv_goto (tgt := 110) hx hb dX10_sums_96 (by decide) ?_
            refine stA 51 rfl (j := f + (k + 1)) (x := (-1)) (show f + (k + 1) < 16040 by omega) (by decide) C h dX10_sums_110 (fun H locs h => ?_)
            rw [up_51] at h
            have h : hH z v sc (va_up (va_up ar 51 (upd (A) (f + (k + 1)) ((-1)))) 52 (upd (ar 52) (f + N) (nI 0))) s H locs := h
            refine lv_iinc (v := nI (k + 1)) (lv' := [(3, .int (nI (k + 1))), (4, .int (nI (t0.length))), (0, .ref (zad z 27)), (1, .int (nI (w))), (2, .int (nI (f)))]) hx hb dX10_sums_111 hl (k := 4) rfl (nN_inc _) (by decide) rfl (fun ls hl => ?_)
            refine lv_goto (tgt := 27) hx hb dX10_sums_114 (by decide) ?_
            exact ih_27 (k + 1) (upd (A) (f + (k + 1)) ((-1))) (by omega) H locs ls ⟨by omega, fun q hq => (by by_cases e : q = k + 1; rw [e, pk_us]; exact (by rw [show hdS (blC (wt w 1) (wt w 2) (wt w 3) (wt w 4)) (ar 34) (k + 1) = oadd (hdS (blC (wt w 1) (wt w 2) (wt w 3) (wt w 4)) (ar 34) k) ((blC (wt w 1) (wt w 2) (wt w 3) (wt w 4)) (ar 34 k) (if k = 0 then 0 else ar 34 (k - 1))) from rfl, hh]; rfl); rw [pk_un (by omega)]; exact h2 q (by omega)), fun q hq => (by rw [pk_un (by omega)]; exact h3 q hq), h, lv_sub hl [2, 3, 4, 0] rfl⟩
          · skip
            exact absurd (by decide : (-1 : Int32) < 0) c_87
        · skip
          have hba := hdS_bd (fun x y q e => Nat.le_trans (blC_le e) hB5) k a0 hh
          refine lv_aload_n hx hb dX10_sums_70 rfl (lv_at hl 1 rfl) ?_
          refine rg_X10_93 C h dX10_sums_71 ?_
          refine lv_iload_n hx hb dX10_sums_74 rfl (lv_at hl 3 rfl) ?_
          refine lv_iload_n hx hb dX10_sums_75 rfl (lv_at hl 4 rfl) ?_
          refine lv_iadd hx hb dX10_sums_76 ?_
          refine tI (y := nI (f + k)) (nI_add _ _) ?_
          refine lv_iconst (v := nI (1)) hx hb dX10_sums_77 (by decide) ?_
          refine lv_iadd hx hb dX10_sums_78 ?_
          refine tI (y := nI (f + (k + 1))) (by rw [nI_add, Nat.add_assoc]) ?_
          refine lv_aload_n hx hb dX10_sums_79 rfl (lv_at hl 1 rfl) ?_
          refine rg_X10_93 C h dX10_sums_80 ?_
          refine lv_iload_n hx hb dX10_sums_83 rfl (lv_at hl 3 rfl) ?_
          refine lv_iload_n hx hb dX10_sums_84 rfl (lv_at hl 4 rfl) ?_
          refine lv_iadd hx hb dX10_sums_85 ?_
          refine tI (y := nI (f + k)) (nI_add _ _) ?_
          refine ldA 51 rfl (j := f + k) (show f + k < 16040 by omega) (by decide) C h dX10_sums_86 ?_
          refine tI (y := nI (a0)) ((h2 k (by omega)).trans (by rw [hh]; rfl)) ?_
          refine zN_lt (tgt := 95) (a := a0) C (by omega) dX10_sums_87 (by decide) ?_
          refine lv_iload hx hb dX10_sums_90 (lv_at hl 0 rfl) ?_
          refine zN_ne (tgt := 99) (a := t0.length) C (by omega) dX10_sums_92 (by decide) (fun c_92 => ?_) (fun c_92 => ?_)
          · skip
            refine lv_aload_n hx hb dX10_sums_99 rfl (lv_at hl 1 rfl) ?_
            refine rg_X10_93 C h dX10_sums_100 ?_
            refine lv_iload_n hx hb dX10_sums_103 rfl (lv_at hl 3 rfl) ?_
            refine lv_iload_n hx hb dX10_sums_104 rfl (lv_at hl 4 rfl) ?_
            refine lv_iadd hx hb dX10_sums_105 ?_
            refine tI (y := nI (f + k)) (nI_add _ _) ?_
            refine ldA 51 rfl (j := f + k) (show f + k < 16040 by omega) (by decide) C h dX10_sums_106 ?_
            refine tI (y := nI (a0)) ((h2 k (by omega)).trans (by rw [hh]; rfl)) ?_
            refine lv_iload hx hb dX10_sums_107 (lv_at hl 0 rfl) ?_
            refine lv_iadd hx hb dX10_sums_109 ?_
            refine tI (y := nI (a0 + t0.length)) (nI_add _ _) ?_
            refine stA 51 rfl (j := f + (k + 1)) (x := nI (a0 + t0.length)) (show f + (k + 1) < 16040 by omega) (by decide) C h dX10_sums_110 (fun H locs h => ?_)
            rw [up_51] at h
            have h : hH z v sc (va_up (va_up ar 51 (upd (A) (f + (k + 1)) (nI (a0 + t0.length)))) 52 (upd (ar 52) (f + N) (nI 0))) s H locs := h
            refine lv_iinc (v := nI (k + 1)) (lv' := [(3, .int (nI (k + 1))), (4, .int (nI (t0.length))), (0, .ref (zad z 27)), (1, .int (nI (w))), (2, .int (nI (f)))]) hx hb dX10_sums_111 hl (k := 4) rfl (nN_inc _) (by decide) rfl (fun ls hl => ?_)
            refine lv_goto (tgt := 27) hx hb dX10_sums_114 (by decide) ?_
            exact ih_27 (k + 1) (upd (A) (f + (k + 1)) (nI (a0 + t0.length))) (by omega) H locs ls ⟨by omega, fun q hq => (by by_cases e : q = k + 1; rw [e, pk_us]; exact (by rw [show hdS (blC (wt w 1) (wt w 2) (wt w 3) (wt w 4)) (ar 34) (k + 1) = oadd (hdS (blC (wt w 1) (wt w 2) (wt w 3) (wt w 4)) (ar 34) k) ((blC (wt w 1) (wt w 2) (wt w 3) (wt w 4)) (ar 34 k) (if k = 0 then 0 else ar 34 (k - 1))) from rfl, hh, show (blC (wt w 1) (wt w 2) (wt w 3) (wt w 4)) (ar 34 k) (if k = 0 then 0 else ar 34 (k - 1)) = some t0.length from (show ((cdO (wt w 3) (toldI (wt w 4) (ar 34 k) (if k = 0 then 0 else ar 34 (k - 1)))).bind (enc (wt w 1) (wt w 2))).map List.length = _ by rw [ho_t0]; rfl)]; rfl); rw [pk_un (by omega)]; exact h2 q (by omega)), fun q hq => (by rw [pk_un (by omega)]; exact h3 q hq), h, lv_sub hl [2, 3, 4, 0] rfl⟩
          · skip
            omega
theorem gv_X10_206 : GoodIn uW (wsV RX10 206 RX10 yX10_sums (Cond.code yX10_sums cX10_sums 7 none :: uW)) := gI_V (uW_of (by decide +kernel) rfl) (uW_of (by decide +kernel) rfl) (uW_of (by decide +kernel) rfl) (uW_of (by decide +kernel) rfl) (uW_of (by decide +kernel) rfl)
theorem gv_X10_206_n : okN yX10_sums 1 := by decide +kernel
set_option maxHeartbeats 4000000 in
set_option maxRecDepth 100000 in
theorem r_bestRun (l : Launch) (z : bZ) (v : bV) (sc : Nat → Int32) (ar : Nat → Nat → Int32) (K N : Nat) (wt : Nat → Nat → Nat) (dp : Nat → Nat) (hK4 : K ≤ 40) (hRW : RW wt dp K ar) (hK : sc 21 = nI K) (hN : sc 22 = nI N) (hN4 : N ≤ 400) : Met l yX10_bestRun (Cond.code yX10_bestRun cX10_bestRun 6 (some .int) :: uW) { frames := 3, cells := 0, slots := 0, locals := 80 } (pC z v sc ar [.ref (zad z 27)]) (qI z (fun r u => r = oI ((foN (hdO wt (ar 34)) (tlO wt (ar 34) N) K (N + 1)).map Prod.fst) ∧ ∃ A B, u = (v, bW (va_up (va_up (va_up (va_up sc 20 (nI 0)) 26 (-1)) 27 (-1)) 28 (-1)) (foN (hdO wt (ar 34)) (tlO wt (ar 34) N) K (N + 1)), va_up (va_up ar 51 A) 52 B))) 0 0 (zA z) := by
  refine eM (by decide) (Nat.le_of_ble_eq_true rfl) ?_
  intro pP eE s mM below meth cC ls C hr hlk h hl
  have hx := C.1.1
  have hb := C.1.2.1
  have hl : lv_has ls 6 [(0, .ref (zad z 27))] := hl
  have hbl : ∀ w, w < K → wt w 0 = 0 → ∀ x y q, blC (wt w 1) (wt w 2) (wt w 3) (wt w 4) x y = some q → q ≤ 5 := fun w hw hc x y q e => Nat.le_trans (blC_le e) (codOK (hRW w hw).2.2.2.2.2.2 hc).1.2
  refine lv_aload_n hx hb dX10_bestRun_0 rfl (lv_at hl 0 rfl) ?_
  refine lv_iconst (v := nI (0)) hx hb dX10_bestRun_1 (by decide) ?_
  refine rp_X10_99 C h dX10_bestRun_2 (fun H locs h => ?_)
  refine lv_iconst (v := (-1)) hx hb dX10_bestRun_5 (by decide) ?_
  refine lv_istore_n (lv' := [(1, .int ((-1))), (0, .ref (zad z 27))]) hx hb dX10_bestRun_6 rfl hl (by decide) rfl (fun ls hl => ?_)
  refine lv_aload_n hx hb dX10_bestRun_7 rfl (lv_at hl 1 rfl) ?_
  refine lv_iconst (v := (-1)) hx hb dX10_bestRun_8 (by decide) ?_
  refine rp_X10_38 C h dX10_bestRun_9 (fun H locs h => ?_)
  refine lv_aload_n hx hb dX10_bestRun_12 rfl (lv_at hl 1 rfl) ?_
  refine lv_iconst (v := (-1)) hx hb dX10_bestRun_13 (by decide) ?_
  refine rp_X10_41 C h dX10_bestRun_14 (fun H locs h => ?_)
  refine lv_aload_n hx hb dX10_bestRun_17 rfl (lv_at hl 1 rfl) ?_
  refine lv_iconst (v := (-1)) hx hb dX10_bestRun_18 (by decide) ?_
  refine rp_X10_44 C h dX10_bestRun_19 (fun H locs h => ?_)
  refine lv_iconst (v := nI (0)) hx hb dX10_bestRun_22 (by decide) ?_
  refine lv_istore_n (lv' := [(2, .int (nI (0))), (1, .int ((-1))), (0, .ref (zad z 27))]) hx hb dX10_bestRun_23 rfl hl (by decide) rfl (fun ls hl => ?_)
  refine lpW3 (fun (i : Nat) (A : Nat → Int32) (B : Nat → Int32) (H : Heap) (locs : List Loc) (ls : Array Slot) => (i ≤ K) ∧ (∀ w, w < i → wt w 0 = 0 → ∀ q, q ≤ N → A (401 * w + q) = oI (hdS (blC (wt w 1) (wt w 2) (wt w 3) (wt w 4)) (ar 34) q) ∧ B (401 * w + q) = oI (tlS (blC (wt w 1) (wt w 2) (wt w 3) (wt w 4)) (ar 34) N q)) ∧ hH z v (va_up (va_up (va_up (va_up sc 20 (nI 0)) 26 (-1)) 27 (-1)) 28 (-1)) (va_up (va_up ar 51 A) 52 B) s H locs ∧ lv_has ls 6 [(0, .ref (zad z 27)), (1, .int ((-1))), (2, .int (nI (i)))]) (fun (i : Nat) (A : Nat → Int32) (B : Nat → Int32) => K - i) (fun i A B ih_24 H locs ls hI => ?_) (0) (ar 51) (ar 52) ⟨Nat.zero_le _, fun w hw => absurd hw (Nat.not_lt_zero _), (by rw [va_us, va_us]; exact h), lv_sub hl [2, 1, 0] rfl⟩
  obtain ⟨h1, h2, h, hl⟩ := hI
  refine lv_iload_n hx hb dX10_bestRun_24 rfl (lv_at hl 2 rfl) ?_
  refine lv_aload_n hx hb dX10_bestRun_25 rfl (lv_at hl 0 rfl) ?_
  refine rg_X10_102 C h dX10_bestRun_26 ?_
  refine tI (y := nI (K)) hK ?_
  refine jN_ge (tgt := 52) (a := i) (b := K) C (by omega) (by omega) dX10_bestRun_29 (by decide) (fun c_29 => ?_) (fun c_29 => ?_)
  · skip
    refine lv_iconst (v := nI (0)) hx hb dX10_bestRun_52 (by decide) ?_
    refine lv_istore_n (lv' := [(2, .int (nI (0))), (0, .ref (zad z 27)), (1, .int ((-1)))]) hx hb dX10_bestRun_53 rfl hl (by decide) rfl (fun ls hl => ?_)
    have hAB : ∀ w, w < K → wt w 0 = 0 → ∀ q, q ≤ N → A (401 * w + q) = oI (hdS (blC (wt w 1) (wt w 2) (wt w 3) (wt w 4)) (ar 34) q) ∧ B (401 * w + q) = oI (tlS (blC (wt w 1) (wt w 2) (wt w 3) (wt w 4)) (ar 34) N q) := fun w hw => h2 w (by omega)
    refine lpW2 (fun (n : Nat) (o : Option B4) (H : Heap) (locs : List Loc) (ls : Array Slot) => (n ≤ N + 1) ∧ (o = foN (hdO wt (ar 34)) (tlO wt (ar 34) N) K n) ∧ (∀ q, o = some q → q.1 ≤ 4005) ∧ hH z v (bW (va_up (va_up (va_up (va_up sc 20 (nI 0)) 26 (-1)) 27 (-1)) 28 (-1)) o) (va_up (va_up ar 51 A) 52 B) s H locs ∧ lv_has ls 6 [(0, .ref (zad z 27)), (1, .int (oI (o.map Prod.fst))), (2, .int (nI (n)))]) (fun (n : Nat) (o : Option B4) => N + 1 - n) (fun n o ih_54 H locs ls hI => ?_) (0) (none) ⟨Nat.zero_le _, rfl, (fun q e => by cases e), h, lv_sub hl [1, 2, 0] rfl⟩
    obtain ⟨n1, n2, hob, h, hl⟩ := hI
    refine lv_iload_n hx hb dX10_bestRun_54 rfl (lv_at hl 2 rfl) ?_
    refine lv_aload_n hx hb dX10_bestRun_55 rfl (lv_at hl 0 rfl) ?_
    refine rg_X10_120 C h dX10_bestRun_56 ?_
    refine tI (y := nI (N)) ((bW_o (by decide)).trans hN) ?_
    refine jN_gt (tgt := 213) (a := n) (b := N) C (by omega) (by omega) dX10_bestRun_59 (by decide) (fun c_59 => ?_) (fun c_59 => ?_)
    · skip
      refine lv_iload_n hx hb dX10_bestRun_213 rfl (lv_at hl 1 rfl) ?_
      exact rI C hr hlk h dX10_bestRun_214 (Nat.le_of_ble_eq_true rfl) (Nat.le_of_ble_eq_true rfl) (⟨by rw [n2, show n = N + 1 by omega], A, B, by rw [n2, show n = N + 1 by omega]⟩)
    · skip
      refine lv_iconst (v := nI (0)) hx hb dX10_bestRun_62 (by decide) ?_
      refine lv_istore_n (lv' := [(3, .int (nI (0))), (0, .ref (zad z 27)), (1, .int (oI (o.map Prod.fst))), (2, .int (nI (n)))]) hx hb dX10_bestRun_63 rfl hl (by decide) rfl (fun ls hl => ?_)
      refine lpW2 (fun (a : Nat) (o : Option B4) (H : Heap) (locs : List Loc) (ls : Array Slot) => (a ≤ K) ∧ (o = foA ((hdO wt (ar 34)) n) ((tlO wt (ar 34) N) n) K n (foN (hdO wt (ar 34)) (tlO wt (ar 34) N) K n) a) ∧ (∀ q, o = some q → q.1 ≤ 4005) ∧ hH z v (bW (va_up (va_up (va_up (va_up sc 20 (nI 0)) 26 (-1)) 27 (-1)) 28 (-1)) o) (va_up (va_up ar 51 A) 52 B) s H locs ∧ lv_has ls 6 [(0, .ref (zad z 27)), (1, .int (oI (o.map Prod.fst))), (2, .int (nI (n))), (3, .int (nI (a)))]) (fun (a : Nat) (o : Option B4) => K - a) (fun a o ih_64 H locs ls hI => ?_) (0) (o) ⟨Nat.zero_le _, n2, hob, h, lv_sub hl [1, 2, 3, 0] rfl⟩
      obtain ⟨a1, h4, hob, h, hl⟩ := hI
      refine lv_iload_n hx hb dX10_bestRun_64 rfl (lv_at hl 3 rfl) ?_
      refine lv_aload_n hx hb dX10_bestRun_65 rfl (lv_at hl 0 rfl) ?_
      refine rg_X10_102 C h dX10_bestRun_66 ?_
      refine tI (y := nI (K)) ((bW_o (by decide)).trans hK) ?_
      refine jN_ge (tgt := 207) (a := a) (b := K) C (by omega) (by omega) dX10_bestRun_69 (by decide) (fun c_69 => ?_) (fun c_69 => ?_)
      · skip
        refine lv_iinc (v := nI (n + 1)) (lv' := [(2, .int (nI (n + 1))), (0, .ref (zad z 27)), (1, .int (oI (o.map Prod.fst))), (3, .int (nI (a)))]) hx hb dX10_bestRun_207 hl (k := 2) rfl (nN_inc _) (by decide) rfl (fun ls hl => ?_)
        refine lv_goto (tgt := 54) hx hb dX10_bestRun_210 (by decide) ?_
        exact ih_54 (n + 1) (o) (by omega) H locs ls ⟨by omega, by rw [h4, show a = K by omega]; rfl, hob, h, lv_sub hl [1, 2, 0] rfl⟩
      · skip
        have ha : a < K := c_69
        rcases hh : (hdO wt (ar 34)) n a with _ | x
        · skip
          have hwa := wt0_le (hRW a ha).2.2.2.2.2.2
          refine lv_iconst (v := nI (0)) hx hb dX10_bestRun_72 (by decide) ?_
          refine lv_istore (lv' := [(4, .int (nI (0))), (0, .ref (zad z 27)), (1, .int (oI (o.map Prod.fst))), (2, .int (nI (n))), (3, .int (nI (a)))]) hx hb dX10_bestRun_73 hl (by decide) rfl (fun ls hl => ?_)
          refine lv_iload hx hb dX10_bestRun_75 (lv_at hl 0 rfl) ?_
          refine lv_aload_n hx hb dX10_bestRun_77 rfl (lv_at hl 1 rfl) ?_
          refine rg_X10_102 C h dX10_bestRun_78 ?_
          refine tI (y := nI (K)) ((bW_o (by decide)).trans hK) ?_
          refine jN_ge (tgt := 201) (a := 0) (b := K) C (by omega) (by omega) dX10_bestRun_81 (by decide) (fun c_81 => ?_) (fun c_81 => ?_)
          · skip
            refine lv_iinc (v := nI (a + 1)) (lv' := [(3, .int (nI (a + 1))), (4, .int (nI (0))), (0, .ref (zad z 27)), (1, .int (oI (o.map Prod.fst))), (2, .int (nI (n)))]) hx hb dX10_bestRun_201 hl (k := 4) rfl (nN_inc _) (by decide) rfl (fun ls hl => ?_)
            refine lv_goto (tgt := 64) hx hb dX10_bestRun_204 (by decide) ?_
            exact ih_64 (a + 1) (o) (by omega) H locs ls ⟨by omega, h4.trans (foA_n hh).symm, hob, h, lv_sub hl [2, 3, 4, 0] rfl⟩
          · skip
            refine lv_aload_n hx hb dX10_bestRun_84 rfl (lv_at hl 1 rfl) ?_
            refine rg_X10_7 C h dX10_bestRun_85 ?_
            refine lv_iload_n hx hb dX10_bestRun_88 rfl (lv_at hl 4 rfl) ?_
            refine ldA 28 rfl (j := a) (show a < 40 by omega) (by decide) C h dX10_bestRun_89 ?_
            refine tI (y := nI (wt a 0)) (hRW a ha).1 ?_
            refine zN_ne (tgt := 201) (a := wt a 0) C (by omega) dX10_bestRun_90 (by decide) (fun c_90 => ?_) (fun c_90 => ?_)
            · skip
              refine lv_iinc (v := nI (a + 1)) (lv' := [(3, .int (nI (a + 1))), (4, .int (nI (0))), (0, .ref (zad z 27)), (1, .int (oI (o.map Prod.fst))), (2, .int (nI (n)))]) hx hb dX10_bestRun_201 hl (k := 4) rfl (nN_inc _) (by decide) rfl (fun ls hl => ?_)
              refine lv_goto (tgt := 64) hx hb dX10_bestRun_204 (by decide) ?_
              exact ih_64 (a + 1) (o) (by omega) H locs ls ⟨by omega, h4.trans (foA_n hh).symm, hob, h, lv_sub hl [2, 3, 4, 0] rfl⟩
            · skip
              refine lv_aload_n hx hb dX10_bestRun_93 rfl (lv_at hl 1 rfl) ?_
              refine rg_X10_93 C h dX10_bestRun_94 ?_
              refine lv_sipush (v := nI (401)) hx hb dX10_bestRun_97 (by decide) ?_
              refine lv_iload_n hx hb dX10_bestRun_100 rfl (lv_at hl 4 rfl) ?_
              refine lv_imul hx hb dX10_bestRun_101 ?_
              refine tI (y := nI (401 * a)) (pk_mul _ _) ?_
              refine lv_iload_n hx hb dX10_bestRun_102 rfl (lv_at hl 3 rfl) ?_
              refine lv_iadd hx hb dX10_bestRun_103 ?_
              refine tI (y := nI (401 * a + n)) (nI_add _ _) ?_
              refine ldA 51 rfl (j := 401 * a + n) (show 401 * a + n < 16040 by omega) (by decide) C h dX10_bestRun_104 ?_
              refine tI (y := (-1)) ((hAB a ha c_90 n (by omega)).1.trans (by rw [hdO_n hh c_90]; rfl)) ?_
              refine lv_if_lt (tgt := 201) hx hb dX10_bestRun_105 (by decide) (fun c_105 => ?_) (fun c_105 => ?_)
              · skip
                refine lv_iinc (v := nI (a + 1)) (lv' := [(3, .int (nI (a + 1))), (4, .int (nI (0))), (0, .ref (zad z 27)), (1, .int (oI (o.map Prod.fst))), (2, .int (nI (n)))]) hx hb dX10_bestRun_201 hl (k := 4) rfl (nN_inc _) (by decide) rfl (fun ls hl => ?_)
                refine lv_goto (tgt := 64) hx hb dX10_bestRun_204 (by decide) ?_
                exact ih_64 (a + 1) (o) (by omega) H locs ls ⟨by omega, h4.trans (foA_n hh).symm, hob, h, lv_sub hl [2, 3, 4, 0] rfl⟩
              · skip
                exact absurd (by decide : (-1 : Int32) < 0) c_105
        · skip
          obtain ⟨hca, hxa⟩ := hdO_s hh
          have hbx := hdS_bd (hbl a ha hca) n x hxa
          refine lv_iconst (v := nI (0)) hx hb dX10_bestRun_72 (by decide) ?_
          refine lv_istore (lv' := [(4, .int (nI (0))), (0, .ref (zad z 27)), (1, .int (oI (o.map Prod.fst))), (2, .int (nI (n))), (3, .int (nI (a)))]) hx hb dX10_bestRun_73 hl (by decide) rfl (fun ls hl => ?_)
          obtain ⟨o1, ho1⟩ : ∃ o1, o1 = o := ⟨_, rfl⟩
          have h4o : foA ((hdO wt (ar 34)) n) ((tlO wt (ar 34) N) n) K n (foN (hdO wt (ar 34)) (tlO wt (ar 34) N) K n) a = o1 := by rw [ho1]; exact h4.symm
          refine lpW2 (fun (b : Nat) (o : Option B4) (H : Heap) (locs : List Loc) (ls : Array Slot) => (b ≤ K) ∧ (o = foB ((tlO wt (ar 34) N) n) n a x o1 b) ∧ (∀ q, o = some q → q.1 ≤ 4005) ∧ hH z v (bW (va_up (va_up (va_up (va_up sc 20 (nI 0)) 26 (-1)) 27 (-1)) 28 (-1)) o) (va_up (va_up ar 51 A) 52 B) s H locs ∧ lv_has ls 6 [(0, .ref (zad z 27)), (1, .int (oI (o.map Prod.fst))), (2, .int (nI (n))), (3, .int (nI (a))), (4, .int (nI (b)))]) (fun (b : Nat) (o : Option B4) => K - b) (fun b o ih_75 H locs ls hI => ?_) (0) (o) ⟨Nat.zero_le _, ho1.symm, hob, h, lv_sub hl [1, 2, 3, 4, 0] rfl⟩
          obtain ⟨b1, h5, hob, h, hl⟩ := hI
          refine lv_iload hx hb dX10_bestRun_75 (lv_at hl 4 rfl) ?_
          refine lv_aload_n hx hb dX10_bestRun_77 rfl (lv_at hl 0 rfl) ?_
          refine rg_X10_102 C h dX10_bestRun_78 ?_
          refine tI (y := nI (K)) ((bW_o (by decide)).trans hK) ?_
          refine jN_ge (tgt := 201) (a := b) (b := K) C (by omega) (by omega) dX10_bestRun_81 (by decide) (fun c_81 => ?_) (fun c_81 => ?_)
          · skip
            refine lv_iinc (v := nI (a + 1)) (lv' := [(3, .int (nI (a + 1))), (0, .ref (zad z 27)), (1, .int (oI (o.map Prod.fst))), (2, .int (nI (n))), (4, .int (nI (b)))]) hx hb dX10_bestRun_201 hl (k := 3) rfl (nN_inc _) (by decide) rfl (fun ls hl => ?_)
            refine lv_goto (tgt := 64) hx hb dX10_bestRun_204 (by decide) ?_
            exact ih_64 (a + 1) (o) (by omega) H locs ls ⟨by omega, by rw [h5, show b = K by omega, foA_s hh, h4o], hob, h, lv_sub hl [1, 2, 3, 0] rfl⟩
          · skip
            refine lv_aload_n hx hb dX10_bestRun_84 rfl (lv_at hl 0 rfl) ?_
            refine rg_X10_7 C h dX10_bestRun_85 ?_
            refine lv_iload_n hx hb dX10_bestRun_88 rfl (lv_at hl 3 rfl) ?_
            refine ldA 28 rfl (j := a) (show a < 40 by omega) (by decide) C h dX10_bestRun_89 ?_
            refine tI (y := nI (0)) ((hRW a ha).1.trans (by rw [hca])) ?_
            refine zN_ne (tgt := 201) (a := 0) C (by decide) dX10_bestRun_90 (by decide) (fun q => absurd q (by decide)) (fun _ => ?_)
            refine lv_aload_n hx hb dX10_bestRun_93 rfl (lv_at hl 0 rfl) ?_
            refine rg_X10_93 C h dX10_bestRun_94 ?_
            refine lv_sipush (v := nI (401)) hx hb dX10_bestRun_97 (by decide) ?_
            refine lv_iload_n hx hb dX10_bestRun_100 rfl (lv_at hl 3 rfl) ?_
            refine lv_imul hx hb dX10_bestRun_101 ?_
            refine tI (y := nI (401 * a)) (pk_mul _ _) ?_
            refine lv_iload_n hx hb dX10_bestRun_102 rfl (lv_at hl 2 rfl) ?_
            refine lv_iadd hx hb dX10_bestRun_103 ?_
            refine tI (y := nI (401 * a + n)) (nI_add _ _) ?_
            refine ldA 51 rfl (j := 401 * a + n) (show 401 * a + n < 16040 by omega) (by decide) C h dX10_bestRun_104 ?_
            refine tI (y := nI (x)) ((hAB a ha hca n (by omega)).1.trans (by rw [hxa]; rfl)) ?_
            refine zN_lt (tgt := 201) (a := x) C (by omega) dX10_bestRun_105 (by decide) ?_
            rcases ht : (tlO wt (ar 34) N) n b with _ | y
            · skip
              have hwb := wt0_le (hRW b c_81).2.2.2.2.2.2
              refine lv_aload_n hx hb dX10_bestRun_108 rfl (lv_at hl 0 rfl) ?_
              refine rg_X10_7 C h dX10_bestRun_109 ?_
              refine lv_iload hx hb dX10_bestRun_112 (lv_at hl 4 rfl) ?_
              refine ldA 28 rfl (j := b) (show b < 40 by omega) (by decide) C h dX10_bestRun_114 ?_
              refine tI (y := nI (wt b 0)) (hRW b c_81).1 ?_
              refine zN_ne (tgt := 195) (a := wt b 0) C (by omega) dX10_bestRun_115 (by decide) (fun c_115 => ?_) (fun c_115 => ?_)
              · skip
                refine lv_iinc (v := nI (b + 1)) (lv' := [(4, .int (nI (b + 1))), (0, .ref (zad z 27)), (1, .int (oI (o.map Prod.fst))), (2, .int (nI (n))), (3, .int (nI (a)))]) hx hb dX10_bestRun_195 hl (k := 4) rfl (nN_inc _) (by decide) rfl (fun ls hl => ?_)
                refine lv_goto (tgt := 75) hx hb dX10_bestRun_198 (by decide) ?_
                exact ih_75 (b + 1) (o) (by omega) H locs ls ⟨by omega, by rw [← foB_s h5, ht]; rfl, hob, h, lv_sub hl [1, 2, 3, 4, 0] rfl⟩
              · skip
                refine lv_aload_n hx hb dX10_bestRun_118 rfl (lv_at hl 0 rfl) ?_
                refine rg_X10_96 C h dX10_bestRun_119 ?_
                refine lv_sipush (v := nI (401)) hx hb dX10_bestRun_122 (by decide) ?_
                refine lv_iload hx hb dX10_bestRun_125 (lv_at hl 4 rfl) ?_
                refine lv_imul hx hb dX10_bestRun_127 ?_
                refine tI (y := nI (401 * b)) (pk_mul _ _) ?_
                refine lv_iload_n hx hb dX10_bestRun_128 rfl (lv_at hl 2 rfl) ?_
                refine lv_iadd hx hb dX10_bestRun_129 ?_
                refine tI (y := nI (401 * b + n)) (nI_add _ _) ?_
                refine ldA 52 rfl (j := 401 * b + n) (show 401 * b + n < 16040 by omega) (by decide) C h dX10_bestRun_130 ?_
                refine tI (y := (-1)) ((hAB b c_81 c_115 n (by omega)).2.trans (by rw [tlO_n ht c_115]; rfl)) ?_
                refine lv_if_ge (tgt := 137) hx hb dX10_bestRun_131 (by decide) (fun c_131 => ?_) (fun c_131 => ?_)
                · skip
                  exact absurd c_131 (by decide)
                · skip
                  refine lv_goto (tgt := 195) hx hb dX10_bestRun_134 (by decide) ?_
                  refine lv_iinc (v := nI (b + 1)) (lv' := [(4, .int (nI (b + 1))), (0, .ref (zad z 27)), (1, .int (oI (o.map Prod.fst))), (2, .int (nI (n))), (3, .int (nI (a)))]) hx hb dX10_bestRun_195 hl (k := 4) rfl (nN_inc _) (by decide) rfl (fun ls hl => ?_)
                  refine lv_goto (tgt := 75) hx hb dX10_bestRun_198 (by decide) ?_
                  exact ih_75 (b + 1) (o) (by omega) H locs ls ⟨by omega, by rw [← foB_s h5, ht]; rfl, hob, h, lv_sub hl [1, 2, 3, 4, 0] rfl⟩
            · skip
              obtain ⟨hcb, hyb⟩ := tlO_s ht
              have hby := tlS_bd (hbl b c_81 hcb) hN4 hyb
              refine lv_aload_n hx hb dX10_bestRun_108 rfl (lv_at hl 0 rfl) ?_
              refine rg_X10_7 C h dX10_bestRun_109 ?_
              refine lv_iload hx hb dX10_bestRun_112 (lv_at hl 4 rfl) ?_
              refine ldA 28 rfl (j := b) (show b < 40 by omega) (by decide) C h dX10_bestRun_114 ?_
              refine tI (y := nI (0)) ((hRW b c_81).1.trans (by rw [hcb])) ?_
              refine zN_ne (tgt := 195) (a := 0) C (by decide) dX10_bestRun_115 (by decide) (fun q => absurd q (by decide)) (fun _ => ?_)
              refine lv_aload_n hx hb dX10_bestRun_118 rfl (lv_at hl 0 rfl) ?_
              refine rg_X10_96 C h dX10_bestRun_119 ?_
              refine lv_sipush (v := nI (401)) hx hb dX10_bestRun_122 (by decide) ?_
              refine lv_iload hx hb dX10_bestRun_125 (lv_at hl 4 rfl) ?_
              refine lv_imul hx hb dX10_bestRun_127 ?_
              refine tI (y := nI (401 * b)) (pk_mul _ _) ?_
              refine lv_iload_n hx hb dX10_bestRun_128 rfl (lv_at hl 2 rfl) ?_
              refine lv_iadd hx hb dX10_bestRun_129 ?_
              refine tI (y := nI (401 * b + n)) (nI_add _ _) ?_
              refine ldA 52 rfl (j := 401 * b + n) (show 401 * b + n < 16040 by omega) (by decide) C h dX10_bestRun_130 ?_
              refine tI (y := nI (y)) ((hAB b c_81 hcb n (by omega)).2.trans (by rw [hyb]; rfl)) ?_
              refine zN_ge (tgt := 137) (a := y) C (by omega) dX10_bestRun_131 (by decide) ?_
              refine lv_aload_n hx hb dX10_bestRun_137 rfl (lv_at hl 0 rfl) ?_
              refine rg_X10_93 C h dX10_bestRun_138 ?_
              refine lv_sipush (v := nI (401)) hx hb dX10_bestRun_141 (by decide) ?_
              refine lv_iload_n hx hb dX10_bestRun_144 rfl (lv_at hl 3 rfl) ?_
              refine lv_imul hx hb dX10_bestRun_145 ?_
              refine tI (y := nI (401 * a)) (pk_mul _ _) ?_
              refine lv_iload_n hx hb dX10_bestRun_146 rfl (lv_at hl 2 rfl) ?_
              refine lv_iadd hx hb dX10_bestRun_147 ?_
              refine tI (y := nI (401 * a + n)) (nI_add _ _) ?_
              refine ldA 51 rfl (j := 401 * a + n) (show 401 * a + n < 16040 by omega) (by decide) C h dX10_bestRun_148 ?_
              refine tI (y := nI (x)) ((hAB a ha hca n (by omega)).1.trans (by rw [hxa]; rfl)) ?_
              refine lv_aload_n hx hb dX10_bestRun_149 rfl (lv_at hl 0 rfl) ?_
              refine rg_X10_96 C h dX10_bestRun_150 ?_
              refine lv_sipush (v := nI (401)) hx hb dX10_bestRun_153 (by decide) ?_
              refine lv_iload hx hb dX10_bestRun_156 (lv_at hl 4 rfl) ?_
              refine lv_imul hx hb dX10_bestRun_158 ?_
              refine tI (y := nI (401 * b)) (pk_mul _ _) ?_
              refine lv_iload_n hx hb dX10_bestRun_159 rfl (lv_at hl 2 rfl) ?_
              refine lv_iadd hx hb dX10_bestRun_160 ?_
              refine tI (y := nI (401 * b + n)) (nI_add _ _) ?_
              refine ldA 52 rfl (j := 401 * b + n) (show 401 * b + n < 16040 by omega) (by decide) C h dX10_bestRun_161 ?_
              refine tI (y := nI (y)) ((hAB b c_81 hcb n (by omega)).2.trans (by rw [hyb]; rfl)) ?_
              refine lv_iadd hx hb dX10_bestRun_162 ?_
              refine tI (y := nI (x + y)) (nI_add _ _) ?_
              rcases o with _ | q0
              · skip
                have hl : lv_has ls 6 [(0, .ref (zad z 27)), (1, .int ((-1))), (2, .int (nI (n))), (3, .int (nI (a))), (4, .int (nI (b)))] := hl
                refine lv_istore (lv' := [(5, .int (nI (x + y))), (0, .ref (zad z 27)), (1, .int ((-1))), (2, .int (nI (n))), (3, .int (nI (a))), (4, .int (nI (b)))]) hx hb dX10_bestRun_163 hl (by decide) rfl (fun ls hl => ?_)
                refine lv_iload_n hx hb dX10_bestRun_165 rfl (lv_at hl 2 rfl) ?_
                refine lv_iconst (v := (-1)) hx hb dX10_bestRun_166 (by decide) ?_
                refine lv_icmp_eq (tgt := 176) hx hb dX10_bestRun_167 (by decide) (fun c_167 => ?_) (fun c_167 => ?_)
                · skip
                  refine lv_iload hx hb dX10_bestRun_176 (lv_at hl 0 rfl) ?_
                  refine lv_istore_n (lv' := [(1, .int (nI (x + y))), (5, .int (nI (x + y))), (0, .ref (zad z 27)), (2, .int (nI (n))), (3, .int (nI (a))), (4, .int (nI (b)))]) hx hb dX10_bestRun_178 rfl hl (by decide) rfl (fun ls hl => ?_)
                  refine lv_aload_n hx hb dX10_bestRun_179 rfl (lv_at hl 2 rfl) ?_
                  refine lv_iload_n hx hb dX10_bestRun_180 rfl (lv_at hl 3 rfl) ?_
                  refine rp_X10_38 C h dX10_bestRun_181 (fun H locs h => ?_)
                  refine lv_aload_n hx hb dX10_bestRun_184 rfl (lv_at hl 2 rfl) ?_
                  refine lv_iload_n hx hb dX10_bestRun_185 rfl (lv_at hl 4 rfl) ?_
                  refine rp_X10_41 C h dX10_bestRun_186 (fun H locs h => ?_)
                  refine lv_aload_n hx hb dX10_bestRun_189 rfl (lv_at hl 2 rfl) ?_
                  refine lv_iload hx hb dX10_bestRun_190 (lv_at hl 5 rfl) ?_
                  refine rp_X10_44 C h dX10_bestRun_192 (fun H locs h => ?_)
                  rw [bW_up (x := x + y)] at h
                  have h : hH z v (bW (va_up (va_up (va_up (va_up sc 20 (nI 0)) 26 (-1)) 27 (-1)) 28 (-1)) (some (x + y, n, a, b))) (va_up (va_up ar 51 A) 52 B) s H locs := h
                  refine lv_iinc (v := nI (b + 1)) (lv' := [(4, .int (nI (b + 1))), (1, .int (nI (x + y))), (5, .int (nI (x + y))), (0, .ref (zad z 27)), (2, .int (nI (n))), (3, .int (nI (a)))]) hx hb dX10_bestRun_195 hl (k := 5) rfl (nN_inc _) (by decide) rfl (fun ls hl => ?_)
                  refine lv_goto (tgt := 75) hx hb dX10_bestRun_198 (by decide) ?_
                  exact ih_75 (b + 1) (some (x + y, n, a, b)) (by omega) H locs ls ⟨by omega, by rw [← foB_s h5, ht]; rfl, (fun q e => by cases e; show x + y ≤ _; omega), h, lv_sub hl [3, 1, 4, 5, 0] rfl⟩
                · skip
                  exact absurd rfl c_167
              · skip
                have hl : lv_has ls 6 [(0, .ref (zad z 27)), (1, .int (nI (q0.1))), (2, .int (nI (n))), (3, .int (nI (a))), (4, .int (nI (b)))] := hl
                have hq0 := hob q0 rfl
                refine lv_istore (lv' := [(5, .int (nI (x + y))), (0, .ref (zad z 27)), (1, .int (nI (q0.1))), (2, .int (nI (n))), (3, .int (nI (a))), (4, .int (nI (b)))]) hx hb dX10_bestRun_163 hl (by decide) rfl (fun ls hl => ?_)
                refine lv_iload_n hx hb dX10_bestRun_165 rfl (lv_at hl 2 rfl) ?_
                refine lv_iconst (v := (-1)) hx hb dX10_bestRun_166 (by decide) ?_
                refine lv_icmp_eq (tgt := 176) hx hb dX10_bestRun_167 (by decide) (fun c_167 => ?_) (fun c_167 => ?_)
                · skip
                  exact absurd c_167 (nI_neg1 (by omega))
                · skip
                  refine lv_iload hx hb dX10_bestRun_170 (lv_at hl 0 rfl) ?_
                  refine lv_iload_n hx hb dX10_bestRun_172 rfl (lv_at hl 2 rfl) ?_
                  refine jN_ge (tgt := 195) (a := x + y) (b := q0.1) C (by omega) (by omega) dX10_bestRun_173 (by decide) (fun c_173 => ?_) (fun c_173 => ?_)
                  · skip
                    refine lv_iinc (v := nI (b + 1)) (lv' := [(4, .int (nI (b + 1))), (5, .int (nI (x + y))), (0, .ref (zad z 27)), (1, .int (nI (q0.1))), (2, .int (nI (n))), (3, .int (nI (a)))]) hx hb dX10_bestRun_195 hl (k := 5) rfl (nN_inc _) (by decide) rfl (fun ls hl => ?_)
                    refine lv_goto (tgt := 75) hx hb dX10_bestRun_198 (by decide) ?_
                    exact ih_75 (b + 1) (some q0) (by omega) H locs ls ⟨by omega, by rw [← foB_s h5, ht]; show _ = if x + y < q0.1 then _ else _; rw [if_neg (by omega)], hob, h, lv_sub hl [2, 3, 4, 5, 0] rfl⟩
                  · skip
                    refine lv_iload hx hb dX10_bestRun_176 (lv_at hl 0 rfl) ?_
                    refine lv_istore_n (lv' := [(1, .int (nI (x + y))), (5, .int (nI (x + y))), (0, .ref (zad z 27)), (2, .int (nI (n))), (3, .int (nI (a))), (4, .int (nI (b)))]) hx hb dX10_bestRun_178 rfl hl (by decide) rfl (fun ls hl => ?_)
                    refine lv_aload_n hx hb dX10_bestRun_179 rfl (lv_at hl 2 rfl) ?_
                    refine lv_iload_n hx hb dX10_bestRun_180 rfl (lv_at hl 3 rfl) ?_
                    refine rp_X10_38 C h dX10_bestRun_181 (fun H locs h => ?_)
                    refine lv_aload_n hx hb dX10_bestRun_184 rfl (lv_at hl 2 rfl) ?_
                    refine lv_iload_n hx hb dX10_bestRun_185 rfl (lv_at hl 4 rfl) ?_
                    refine rp_X10_41 C h dX10_bestRun_186 (fun H locs h => ?_)
                    refine lv_aload_n hx hb dX10_bestRun_189 rfl (lv_at hl 2 rfl) ?_
                    refine lv_iload hx hb dX10_bestRun_190 (lv_at hl 5 rfl) ?_
                    refine rp_X10_44 C h dX10_bestRun_192 (fun H locs h => ?_)
                    rw [bW_up (x := x + y)] at h
                    have h : hH z v (bW (va_up (va_up (va_up (va_up sc 20 (nI 0)) 26 (-1)) 27 (-1)) 28 (-1)) (some (x + y, n, a, b))) (va_up (va_up ar 51 A) 52 B) s H locs := h
                    refine lv_iinc (v := nI (b + 1)) (lv' := [(4, .int (nI (b + 1))), (1, .int (nI (x + y))), (5, .int (nI (x + y))), (0, .ref (zad z 27)), (2, .int (nI (n))), (3, .int (nI (a)))]) hx hb dX10_bestRun_195 hl (k := 5) rfl (nN_inc _) (by decide) rfl (fun ls hl => ?_)
                    refine lv_goto (tgt := 75) hx hb dX10_bestRun_198 (by decide) ?_
                    exact ih_75 (b + 1) (some (x + y, n, a, b)) (by omega) H locs ls ⟨by omega, by rw [← foB_s h5, ht]; show _ = if x + y < q0.1 then _ else _; rw [if_pos (by omega)], (fun q e => by cases e; show x + y ≤ _; omega), h, lv_sub hl [3, 1, 4, 5, 0] rfl⟩
  · skip
    have hwi := wt0_le (hRW i (by omega)).2.2.2.2.2.2
    refine lv_aload_n hx hb dX10_bestRun_32 rfl (lv_at hl 0 rfl) ?_
    refine rg_X10_7 C h dX10_bestRun_33 ?_
    refine lv_iload_n hx hb dX10_bestRun_36 rfl (lv_at hl 2 rfl) ?_
    refine ldA 28 rfl (j := i) (show i < 40 by omega) (by decide) C h dX10_bestRun_37 ?_
    refine tI (y := nI (wt i 0)) (hRW i (by omega)).1 ?_
    refine zN_ne (tgt := 46) (a := wt i 0) C (by omega) dX10_bestRun_38 (by decide) (fun c_38 => ?_) (fun c_38 => ?_)
    · skip
      refine lv_iinc (v := nI (i + 1)) (lv' := [(2, .int (nI (i + 1))), (0, .ref (zad z 27)), (1, .int ((-1)))]) hx hb dX10_bestRun_46 hl (k := 2) rfl (nN_inc _) (by decide) rfl (fun ls hl => ?_)
      refine lv_goto (tgt := 24) hx hb dX10_bestRun_49 (by decide) ?_
      exact ih_24 (i + 1) (A) (B) (by omega) H locs ls ⟨by omega, fun w hw hc q hq => (by by_cases e : w = i; rw [e] at hc; omega; exact h2 w (by omega) hc q hq), h, lv_sub hl [1, 2, 0] rfl⟩
    · skip
      refine lv_aload_n hx hb dX10_bestRun_41 rfl (lv_at hl 0 rfl) ?_
      refine lv_iload_n hx hb dX10_bestRun_42 rfl (lv_at hl 2 rfl) ?_
      refine backV h (runV (As := [.int (nI (i))]) (rest := []) C h (r_sums l z v (va_up (va_up (va_up (va_up sc 20 (nI 0)) 26 (-1)) 27 (-1)) 28 (-1)) (va_up (va_up ar 51 A) 52 B) K N i (401 * i) wt dp hK4 (hRW.fr2 (fun k hk => (va_up_ne _ _ (by omega)).trans (va_up_ne _ _ (by omega)))) (by omega) (show wt i 0 = 0 from c_38) rfl hN hN4) gv_X10_206 gv_X10_206_n ⟨rfl, rfl⟩ (r_Ref C h) rfl hl.1 rfl (Nat.le_of_ble_eq_true rfl) dX10_bestRun_43 ⟨Nat.le_of_ble_eq_true rfl, Nat.le_of_ble_eq_true rfl⟩ ⟨Nat.le_of_ble_eq_true rfl, Nat.le_of_ble_eq_true rfl⟩) (fun v_43 sc_43 ar_43 H locs p_43 h => ?_)
      obtain ⟨A1, B1, eu, a1, b1, ab⟩ := p_43
      have h := uEq eu h
      rw [up_52] at h
      have h : hH z v (va_up (va_up (va_up (va_up sc 20 (nI 0)) 26 (-1)) 27 (-1)) 28 (-1)) (va_up (va_up ar 51 A1) 52 B1) s H locs := h
      refine lv_iinc (v := nI (i + 1)) (lv' := [(2, .int (nI (i + 1))), (0, .ref (zad z 27)), (1, .int ((-1)))]) hx hb dX10_bestRun_46 hl (k := 2) rfl (nN_inc _) (by decide) rfl (fun ls hl => ?_)
      refine lv_goto (tgt := 24) hx hb dX10_bestRun_49 (by decide) ?_
      exact ih_24 (i + 1) (A1) (B1) (by omega) H locs ls ⟨by omega, fun w hw hc q hq => (by by_cases e : w = i; rw [e]; exact ⟨a1 q hq, b1 q hq⟩; rw [(ab (401 * w + q) (by omega)).1, (ab (401 * w + q) (by omega)).2]; exact h2 w (by omega) hc q hq), h, lv_sub hl [1, 2, 0] rfl⟩
