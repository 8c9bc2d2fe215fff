/-! The reference: reading back. The best run, both ways the same. -/
def rfQ (o : RdR) (cnt : Nat) (sc1 : Nat → Int32) (ar1 : Nat → Nat → Int32) : Prop := match o with
  | .inl (xs, e) => sc1 33 = nI 0 ∧ sc1 32 = nI e ∧ ∀ i, i < cnt → ar1 36 i = xs.getD i 0
  | .inr (f, q) => sc1 33 = nI f ∧ sc1 34 = nI q ∧ 1 ≤ f ∧ f ≤ 3
def ruO (v : bV) (sc : Nat → Int32) (ar : Nat → Nat → Int32) (rf c0 : Nat) (o : RdR) (r : Int32) (u : bS) : Prop := match o with
  | .inr (f, q) => ∃ sc1 ar1, rG sc ar sc1 ar1 ∧ r = -(nI f) ∧ u = (v, va_up sc1 25 (nI q), ar1)
  | .inl (xs, e) => ∃ sc1 ar1 g, rG sc ar sc1 ar1 ∧ r = nI (e - rf) ∧ u = (v, va_up (va_up (va_up sc1 25 (-1)) 22 (nI c0)) 24 (nI e), va_up ar1 34 g) ∧ ∀ i, i < c0 → g i = xs.getD i 0
def minS (f : Nat → Option Nat) : Nat → Option (Nat × Nat)
  | 0 => none
  | k + 1 => match f k with
    | none => minS f k
    | some y => match minS f k with
      | none => some (y, k)
      | some q => if y < q.1 then some (y, k) else some q
theorem minS_n {f : Nat → Option Nat} {k : Nat} (h : f k = none) : minS f (k + 1) = minS f k := by
  show (match f k with | none => _ | some y => _) = _
  rw [h]
theorem minS_1 {f : Nat → Option Nat} {k y : Nat} (h : f k = some y) (h2 : minS f k = none) : minS f (k + 1) = some (y, k) := by
  show (match f k with | none => _ | some y => _) = _
  rw [h, h2]
theorem minS_2 {f : Nat → Option Nat} {k y : Nat} {q : Nat × Nat} (h : f k = some y) (h2 : minS f k = some q) : minS f (k + 1) = if y < q.1 then some (y, k) else some q := by
  show (match f k with | none => _ | some y => _) = _
  rw [h, h2]
theorem minS_bd {f : Nat → Option Nat} : ∀ {k : Nat} {q : Nat × Nat}, minS f k = some q → q.2 < k ∧ f q.2 = some q.1
  | 0, q, h => by cases h
  | k + 1, q, h => by
    cases hf : f k with
    | none => rw [minS_n hf] at h; have := minS_bd h; exact ⟨by omega, this.2⟩
    | some y =>
      cases hm : minS f k with
      | none => rw [minS_1 hf hm] at h; cases h; exact ⟨Nat.lt_succ_self _, hf⟩
      | some p =>
        rw [minS_2 hf hm] at h
        split at h
        · cases h; exact ⟨Nat.lt_succ_self _, hf⟩
        · cases h; have := minS_bd hm; exact ⟨by omega, this.2⟩
theorem up4_up4 {o : Option B4} {p q : B4} : up4 (up4 o (some p)) (some q) = up4 o (some (if q.1 < p.1 then q else p)) := by
  cases o with
  | none =>
    show (if q.1 < p.1 then some q else some p) = some (if q.1 < p.1 then q else p)
    split <;> rfl
  | some w =>
    show up4 (if p.1 < w.1 then some p else some w) (some q) = if (if q.1 < p.1 then q else p).1 < w.1 then some (if q.1 < p.1 then q else p) else some w
    by_cases h1 : p.1 < w.1
    · rw [if_pos h1]
      show (if q.1 < p.1 then some q else some p) = _
      by_cases h2 : q.1 < p.1
      · rw [if_pos h2, if_pos h2, if_pos (by omega)]
      · rw [if_neg h2, if_neg h2, if_pos h1]
    · rw [if_neg h1]
      show (if q.1 < w.1 then some q else some w) = _
      by_cases h2 : q.1 < p.1
      · rw [if_pos h2]
      · rw [if_neg h2, if_neg h1, if_neg (by omega)]
theorem foB_min {tl : Nat → Option Nat} {n a x : Nat} {o : Option B4} : ∀ k, foB tl n a x o k = up4 o ((minS tl k).map (fun q => (x + q.1, n, a, q.2)))
  | 0 => rfl
  | k + 1 => by
    show up4 (foB tl n a x o k) ((tl k).map (fun y => (x + y, n, a, k))) = _
    rw [foB_min k]
    cases hf : tl k with
    | none => rw [minS_n hf]; rfl
    | some y =>
      cases hm : minS tl k with
      | none => rw [minS_1 hf hm]; rfl
      | some q =>
        rw [minS_2 hf hm]
        show up4 (up4 o (some (x + q.1, n, a, q.2))) (some (x + y, n, a, k)) = _
        rw [up4_up4]
        by_cases h : y < q.1
        · rw [if_pos h, if_pos (show x + y < x + q.1 by omega)]; rfl
        · rw [if_neg h, if_neg (show ¬ x + y < x + q.1 by omega)]; rfl
def pr4 (n : Nat) (a b : Option (Nat × Nat)) : Option B4 := a.bind (fun p => b.map (fun q => (p.1 + q.1, n, p.2, q.2)))
theorem foA_min {hd tl : Nat → Option Nat} {K n : Nat} {o : Option B4} : ∀ k, foA hd tl K n o k = up4 o (pr4 n (minS hd k) (minS tl K))
  | 0 => rfl
  | k + 1 => by
    cases hf : hd k with
    | none => rw [foA_n hf, minS_n hf, foA_min k]
    | some x =>
      rw [foA_s hf, foB_min, foA_min k]
      cases ht : minS tl K with
      | none =>
        have e : ∀ a : Option (Nat × Nat), pr4 n a none = none := fun a => by cases a <;> rfl
        rw [e, e]; rfl
      | some q =>
        cases hm : minS hd k with
        | none => rw [minS_1 hf hm]; rfl
        | some p =>
          rw [minS_2 hf hm]
          show up4 (up4 o (some (p.1 + q.1, n, p.2, q.2))) (some (x + q.1, n, k, q.2)) = _
          rw [up4_up4]
          by_cases h : x < p.1
          · rw [if_pos h, if_pos (show x + q.1 < p.1 + q.1 by omega)]; rfl
          · rw [if_neg h, if_neg (show ¬ x + q.1 < p.1 + q.1 by omega)]; rfl
def mA (o : Option (Nat × Nat)) : Nat := match o with
  | none => 1073741824
  | some q => q.1 * 40 + q.2
theorem mA_ofr {f : Nat → Option Nat} {k : Nat} (hk : k < 40) (hb : ∀ a x, a ≤ k → f a = some x → x ≤ 4000) : ofr (f k) (mA (minS f k)) k = mA (minS f (k + 1)) := by
  cases hf : f k with
  | none => rw [minS_n hf]; rfl
  | some y =>
    have hy := hb k y (Nat.le_refl _) hf
    cases hm : minS f k with
    | none =>
      rw [minS_1 hf hm]
      show min 1073741824 (y * 40 + k) = y * 40 + k
      omega
    | some q =>
      have hq := minS_bd hm
      rw [minS_2 hf hm]
      show min (q.1 * 40 + q.2) (y * 40 + k) = _
      by_cases h : y < q.1
      · rw [if_pos h]
        show _ = y * 40 + k
        omega
      · rw [if_neg h]
        show _ = q.1 * 40 + q.2
        omega
theorem hdA_min {wt : Nat → Nat → Nat} {R : Nat → Int32} {n K : Nat} (hK : K ≤ 40) (hb : ∀ a x, a < K → hdO wt R n a = some x → x ≤ 4000) : ∀ k, k ≤ K → hdA wt R k n = mA (minS (hdO wt R n) k)
  | 0, _ => rfl
  | k + 1, hk => by
    rw [← mA_ofr (by omega) (fun a x ha => hb a x (by omega)), ← hdA_min hK hb k (by omega)]
    by_cases h : wt k 0 = 0
    · rw [hdA_c h, show hdO wt R n k = hdS _ R n from if_pos h]
    · rw [hdA_n h, show hdO wt R n k = none from if_neg h]; rfl
theorem tlB_min {wt : Nat → Nat → Nat} {R : Nat → Int32} {N n K : Nat} (hK : K ≤ 40) (hb : ∀ a x, a < K → tlO wt R N n a = some x → x ≤ 4000) : ∀ k, k ≤ K → tlB wt R N k n = mA (minS (tlO wt R N n) k)
  | 0, _ => rfl
  | k + 1, hk => by
    rw [← mA_ofr (by omega) (fun a x ha => hb a x (by omega)), ← tlB_min hK hb k (by omega)]
    by_cases h : wt k 0 = 0
    · rw [tlB_c h, show tlO wt R N n k = tlS _ R N n from if_pos h]
    · rw [tlB_n h, show tlO wt R N n k = none from if_neg h]; rfl
theorem foN_chF {hd tl : Nat → Nat → Option Nat} {A T : Nat → Nat} {K M : Nat} (hK : K ≤ 40) (hA : ∀ n, n < M → A n = mA (minS (hd n) K)) (hT : ∀ n, n < M → T n = mA (minS (tl n) K)) (hb : ∀ n a x, n < M → a < K → hd n a = some x → x ≤ 4000) (hc : ∀ n a x, n < M → a < K → tl n a = some x → x ≤ 4000) : ∀ n, n ≤ M → foN hd tl K n = (chF A T n).map (fun x => (x.1, x.2, A x.2 % 40, T x.2 % 40))
  | 0, _ => rfl
  | n + 1, hn => by
    show foA (hd n) (tl n) K n (foN hd tl K n) K = _
    rw [foA_min, foN_chF hK hA hT hb hc n (by omega)]
    have eA := hA n (by omega)
    have eT := hT n (by omega)
    have hno : ¬ A n / 40 + T n / 40 < 26843545 → chF A T (n + 1) = chF A T n := fun h => if_neg h
    cases hm : minS (hd n) K with
    | none =>
      rw [hm] at eA
      have e1 : A n = 1073741824 := eA
      rw [hno (by omega)]; rfl
    | some p =>
      cases ht : minS (tl n) K with
      | none =>
        rw [ht] at eT
        have e1 : T n = 1073741824 := eT
        rw [hno (by omega)]; rfl
      | some q =>
        obtain ⟨p1, p2⟩ := minS_bd hm
        obtain ⟨q1, q2⟩ := minS_bd ht
        have b1 := hb n _ _ (by omega) p1 p2
        have b2 := hc n _ _ (by omega) q1 q2
        rw [hm] at eA
        rw [ht] at eT
        have e1 : A n = p.1 * 40 + p.2 := eA
        have e2 : T n = q.1 * 40 + q.2 := eT
        have d1 : A n / 40 = p.1 := by omega
        have d2 : T n / 40 = q.1 := by omega
        have m1 : A n % 40 = p.2 := by omega
        have m2 : T n % 40 = q.2 := by omega
        have hyes : chF A T (n + 1) = (match chF A T n with
          | none => some (A n / 40 + T n / 40, n)
          | some x => if A n / 40 + T n / 40 < x.1 then some (A n / 40 + T n / 40, n) else some x) := if_pos (by omega)
        rw [hyes, d1, d2]
        cases hch : chF A T n with
        | none =>
          show some (p.1 + q.1, n, p.2, q.2) = some (p.1 + q.1, n, A n % 40, T n % 40)
          rw [m1, m2]
        | some x =>
          show (if p.1 + q.1 < x.1 then some (p.1 + q.1, n, p.2, q.2) else some (x.1, x.2, A x.2 % 40, T x.2 % 40)) = (if p.1 + q.1 < x.1 then some (p.1 + q.1, n) else some x).map _
          by_cases h : p.1 + q.1 < x.1
          · rw [if_pos h, if_pos h]
            show some (p.1 + q.1, n, p.2, q.2) = some (p.1 + q.1, n, A n % 40, T n % 40)
            rw [m1, m2]
          · rw [if_neg h, if_neg h]; rfl
/-- the reference's choice is the class's -/
theorem bestEq {wt : Nat → Nat → Nat} {dp : Nat → Nat} {R : Nat → Int32} {K N : Nat} (hK : K ≤ 40) (hN : N ≤ 400) (hok : ∀ i, i < K → wOK wt dp i) : foN (hdO wt R) (tlO wt R N) K (N + 1) = (chF (hdA wt R K) (tlB wt R N K) (N + 1)).map (fun x => (x.1, x.2, hdA wt R K x.2 % 40, tlB wt R N K x.2 % 40)) := by
  have hbl : ∀ w, w < K → wt w 0 = 0 → ∀ x y q, blC (wt w 1) (wt w 2) (wt w 3) (wt w 4) x y = some q → q ≤ 5 := fun w hw hc x y q e => Nat.le_trans (blC_le e) (codOK (hok w hw) hc).1.2
  have h1 : ∀ n a x, n < N + 1 → a < K → hdO wt R n a = some x → x ≤ 4000 := fun n a x hn ha e => by
    obtain ⟨c1, c2⟩ := hdO_s e
    have := hdS_bd (hbl a ha c1) n x c2
    omega
  have h2 : ∀ n a x, n < N + 1 → a < K → tlO wt R N n a = some x → x ≤ 4000 := fun n a x hn ha e => by
    obtain ⟨c1, c2⟩ := tlO_s e
    have := tlS_bd (hbl a ha c1) hN c2
    omega
  exact foN_chF hK (fun n hn => hdA_min hK (fun a x => h1 n a x hn) K (Nat.le_refl _)) (fun n hn => tlB_min hK (fun a x => h2 n a x hn) K (Nat.le_refl _)) h1 h2 (N + 1) (Nat.le_refl _)
set_option maxHeartbeats 4000000 in
set_option maxRecDepth 100000 in
theorem r_reads (l : Launch) (z : bZ) (v : bV) (sc : Nat → Int32) (ar : Nat → Nat → Int32) (K n rf w cnt : Nat) (wt : Nat → Nat → Nat) (dp : Nat → Nat) (t : Nat → Nat) (hK4 : K ≤ 40) (hRW : RW wt dp K ar) (hw : w < K) (hn : sc 23 = nI n) (hn8 : n ≤ 8000) (hf : sc 24 = nI rf) (hrf : rf ≤ n) (ht : ∀ j, t j < 256) (hT : ∀ j, j < n → ar 35 j = nI (t j)) (hc4 : cnt ≤ 400) : Met l yX10_reads (Cond.code yX10_reads cX10_reads 9 none :: uW) rmR (pC z v sc ar [.ref (zad z 27), .int (nI (w)), .int (nI (cnt))]) (qV z (fun u => ∃ sc1 ar1, u = (v, sc1, ar1) ∧ rG sc ar sc1 ar1 ∧ rfQ (RD wt dp t n w cnt rf) cnt sc1 ar1)) 0 0 (zA z) := by
  refine eM (by decide) (Nat.le_of_ble_eq_true rfl) ?_
  intro pP eE s mM below meth cC ls C hr hlk h hl
  have hx := C.1.1
  have hb := C.1.2.1
  have hl : lv_has ls 9 [(0, .ref (zad z 27)), (1, .int (nI (w))), (2, .int (nI (cnt)))] := hl
  have hd4 := dpLe2 (hRW w hw).2.2.2.2.2.2
  refine lv_aload_n hx hb dX10_reads_0 rfl (lv_at hl 0 rfl) ?_
  refine lv_iload_n hx hb dX10_reads_1 rfl (lv_at hl 2 rfl) ?_
  refine rp_X10_147 C h dX10_reads_2 (fun H locs h => ?_)
  refine lv_aload_n hx hb dX10_reads_5 rfl (lv_at hl 0 rfl) ?_
  refine lv_aload_n hx hb dX10_reads_6 rfl (lv_at hl 0 rfl) ?_
  refine rg_X10_186 C h dX10_reads_7 ?_
  refine tI (y := nI (rf)) hf ?_
  refine rp_X10_177 C h dX10_reads_10 (fun H locs h => ?_)
  refine lv_aload_n hx hb dX10_reads_13 rfl (lv_at hl 0 rfl) ?_
  refine lv_iconst (v := nI (0)) hx hb dX10_reads_14 (by decide) ?_
  refine rp_X10_171 C h dX10_reads_15 (fun H locs h => ?_)
  refine lv_iconst (v := nI (0)) hx hb dX10_reads_18 (by decide) ?_
  refine lv_istore_n (lv' := [(3, .int (nI (0))), (0, .ref (zad z 27)), (1, .int (nI (w))), (2, .int (nI (cnt)))]) hx hb dX10_reads_19 rfl hl (by decide) rfl (fun ls hl => ?_)
  refine lv_aload_n hx hb dX10_reads_20 rfl (lv_at hl 1 rfl) ?_
  refine lv_iconst (v := nI (0)) hx hb dX10_reads_21 (by decide) ?_
  refine lv_iload_n hx hb dX10_reads_22 rfl (lv_at hl 2 rfl) ?_
  refine lv_iload_n hx hb dX10_reads_23 rfl (lv_at hl 3 rfl) ?_
  refine lv_iconst (v := nI (0)) hx hb dX10_reads_24 (by decide) ?_
  refine backV h (runV (As := [.int (nI (0)), .int (nI (w)), .int (nI (cnt)), .int (nI (0))]) (rest := []) C h (r_into l z v (va_up (va_up (va_up sc 29 (nI (cnt))) 32 (nI (rf))) 33 (nI (0))) ar 0 w cnt 0 (by decide)) gv_X10_189 gv_X10_189_n ⟨rfl, rfl⟩ (r_Ref C h) rfl hl.1 rfl (Nat.le_of_ble_eq_true rfl) dX10_reads_25 ⟨Nat.le_of_ble_eq_true rfl, Nat.le_of_ble_eq_true rfl⟩ ⟨Nat.le_of_ble_eq_true rfl, Nat.le_of_ble_eq_true rfl⟩) (fun v_25 sc_25 ar_25 H locs p_25 h => ?_)
  have h : hH z v (va_up (va_up (va_up sc 29 (nI (cnt))) 32 (nI (rf))) 33 (nI (0))) (inA ar 0 w cnt 0) s H locs := uEq p_25 h
  have hG : rG sc ar (va_up (va_up (va_up sc 29 (nI (cnt))) 32 (nI (rf))) 33 (nI (0))) (inA ar 0 w cnt 0) := ⟨fun i a b c d => (va_up_ne _ _ c).trans ((va_up_ne _ _ b).trans (va_up_ne _ _ a)), fun k a b => inA_o (by omega) (by omega) (by omega) (by omega)⟩
  have hnd := nd_le hd4 hc4
  refine rdM C hK4 ht w hw (va_up (va_up (va_up sc 29 (nI (cnt))) 32 (nI (rf))) 33 (nI (0))) (inA ar 0 w cnt 0) H locs ls 0 cnt 0 cnt rf ⟨hRW.fr2 (fun k hk => inA_o (by omega) (by omega) (by omega) (by omega)), inA_at, ⟨by omega, by omega, hc4, by omega⟩, rfl, ⟨rfl, hrf⟩, rfl, ⟨hn, hn8⟩, fun j hj => hT j hj⟩ h (lv_sub hl [1, 0] rfl) (fun sc1 ar1 H locs ls xs e1 w1 po h hl => ?_) (fun sc1 ar1 H locs ls f q w1 g gf gq hf3 h hl => ?_)
  · skip
    obtain ⟨po1, po2, ⟨us2, po3, po4, po5⟩, po6, po7⟩ := po
    refine lv_iload_n hx hb dX10_reads_28 rfl (lv_at hl 1 rfl) ?_
    refine lv_if_lt (tgt := 241) hx hb dX10_reads_29 (by decide) (fun c_29 => ?_) (fun c_29 => ?_)
    · skip
      exact rV C hr hlk h dX10_reads_241 (Nat.le_of_ble_eq_true rfl) (Nat.le_of_ble_eq_true rfl) (⟨sc1, ar1, rfl, ⟨fun i a b c d => (po1.1 i a b).trans (hG.1 i a b c d), fun k a b => (po1.2.1 k a b).trans (hG.2 k a b)⟩, by rw [w1]; exact ⟨po1.1 33 (by decide) (by decide), po2, fun i hi => by have e := po7 i hi; rw [Nat.zero_add] at e; exact e⟩⟩)
    · skip
      exact absurd (by decide : (nI 0 + (-1) : Int32) < 0) c_29
  · skip
    exact rV C hr hlk h dX10_reads_241 (Nat.le_of_ble_eq_true rfl) (Nat.le_of_ble_eq_true rfl) (⟨sc1, ar1, rfl, ⟨fun i a b c d => (g.1 i a b c d).trans (hG.1 i a b c d), fun k a b => (g.2 k a b).trans (hG.2 k a b)⟩, by rw [w1]; exact ⟨gf, gq, hf3⟩⟩)
theorem gv_X10_203 : GoodIn uW (wsV RX10 203 RX10 yX10_reads (Cond.code yX10_reads cX10_reads 9 none :: uW)) := gI_V (uW_of (by decide +kernel) rfl) (uW_of (by decide +kernel) rfl) (uW_of (by decide +kernel) rfl) (uW_of (by decide +kernel) rfl) (uW_of (by decide +kernel) rfl)
theorem gv_X10_203_n : okN yX10_reads 2 := by decide +kernel
set_option maxHeartbeats 4000000 in
set_option maxRecDepth 100000 in
theorem r_unpack (l : Launch) (z : bZ) (v : bV) (sc : Nat → Int32) (ar : Nat → Nat → Int32) (K n rf : Nat) (wt : Nat → Nat → Nat) (dp : Nat → Nat) (t : Nat → Nat) (y x : Int32) (hK : sc 21 = nI K) (hK4 : K ≤ 40) (hRW : RW wt dp K ar) (hn : sc 23 = nI n) (hn8 : n ≤ 8000) (hf : sc 24 = nI rf) (hrf : rf ≤ n) (ht : ∀ j, t j < 256) (hT : ∀ j, j < n → ar 35 j = nI (t j)) : Met l yX10_unpack (Cond.code yX10_unpack cX10_unpack 4 (some .int) :: uW) { frames := 13, cells := 0, slots := 0, locals := 428 } (pC z v sc ar [.ref (zad z 27), .int (y), .int (x)]) (qI z (fun r u => (¬ (isW K y ∧ inR 0 400 x) ∧ u = (v, va_up sc 20 (nI 1), ar)) ∨ (∃ j c0, (y = nI j ∧ j < K) ∧ (x = nI c0 ∧ c0 ≤ 400) ∧ ruO v (va_up sc 20 (nI 0)) ar rf c0 (RD wt dp t n j c0 rf) r u))) 0 0 (zA z) := by
  refine eM (by decide) (Nat.le_of_ble_eq_true rfl) ?_
  intro pP eE s mM below meth cC ls C hr hlk h hl
  have hx := C.1.1
  have hb := C.1.2.1
  have hl : lv_has ls 4 [(0, .ref (zad z 27)), (1, .int (y)), (2, .int (x))] := hl
  refine lv_aload_n hx hb dX10_unpack_0 rfl (lv_at hl 0 rfl) ?_
  refine lv_aload_n hx hb dX10_unpack_1 rfl (lv_at hl 0 rfl) ?_
  refine lv_iload_n hx hb dX10_unpack_2 rfl (lv_at hl 1 rfl) ?_
  refine backI h (runV (As := [.int (y)]) (rest := [.ref (zad z 27)]) C h (r_isWay l z v sc ar K y hK hK4) gv_X10_113 gv_X10_113_n ⟨rfl, rfl⟩ (r_Ref C h) rfl hl.1 rfl (Nat.le_of_ble_eq_true rfl) dX10_unpack_3 ⟨Nat.le_of_ble_eq_true rfl, Nat.le_of_ble_eq_true rfl⟩ ⟨Nat.le_of_ble_eq_true rfl, Nat.le_of_ble_eq_true rfl⟩) (fun r_3 v_3 sc_3 ar_3 H locs p_3 h => ?_)
  have h : hH z v sc ar s H locs := uEq p_3.1 h
  rcases p_3.2 with ⟨er_3, ew_3⟩ | ⟨er_3, ew_3⟩
  · skip
    obtain ⟨j, hj, rfl⟩ := ew_3
    refine tI (y := nI 1) er_3 ?_
    refine zN_eq (tgt := 20) (a := 1) C (by decide) dX10_unpack_6 (by decide) (fun q => absurd q (by decide)) (fun _ => ?_)
    refine lv_iload_n hx hb dX10_unpack_9 rfl (lv_at hl 2 rfl) ?_
    refine lv_if_lt (tgt := 20) hx hb dX10_unpack_10 (by decide) (fun c_10 => ?_) (fun c_10 => ?_)
    · skip
      refine lv_iconst (v := nI (1)) hx hb dX10_unpack_20 (by decide) ?_
      refine lv_goto (tgt := 25) hx hb dX10_unpack_21 (by decide) ?_
      refine backI h (runV (As := [.int (nI (1))]) (rest := []) C h (r_refuses l z v sc ar 1 (by decide)) gv_X10_105 gv_X10_105_n ⟨rfl, rfl⟩ (r_Ref C h) rfl hl.1 rfl (Nat.le_of_ble_eq_true rfl) dX10_unpack_25 ⟨Nat.le_of_ble_eq_true rfl, Nat.le_of_ble_eq_true rfl⟩ ⟨Nat.le_of_ble_eq_true rfl, Nat.le_of_ble_eq_true rfl⟩) (fun r_25 v_25 sc_25 ar_25 H locs p_25 h => ?_)
      have h : hH z v (va_up sc 20 (nI (1))) ar s H locs := uEq p_25.2 h
      refine tI (y := nI (1)) p_25.1 ?_
      refine zN_eq (tgt := 33) (a := 1) C (by decide) dX10_unpack_28 (by decide) (fun q => absurd q (by decide)) (fun _ => ?_)
      refine lv_iconst (v := nI (0)) hx hb dX10_unpack_31 (by decide) ?_
      exact rI C hr hlk h dX10_unpack_32 (Nat.le_of_ble_eq_true rfl) (Nat.le_of_ble_eq_true rfl) (Or.inl ⟨fun g => rNo (lo := 0) (hi := 400) (by decide) (by decide) (Or.inl c_10) g.2, rfl⟩)
    · skip
      refine lv_iload_n hx hb dX10_unpack_13 rfl (lv_at hl 2 rfl) ?_
      refine lv_sipush (v := nI (400)) hx hb dX10_unpack_14 (by decide) ?_
      refine lv_icmp_le (tgt := 24) hx hb dX10_unpack_17 (by decide) (fun c_17 => ?_) (fun c_17 => ?_)
      · skip
        refine lv_iconst (v := nI (0)) hx hb dX10_unpack_24 (by decide) ?_
        refine backI h (runV (As := [.int (nI (0))]) (rest := []) C h (r_refuses l z v sc ar 0 (by decide)) gv_X10_105 gv_X10_105_n ⟨rfl, rfl⟩ (r_Ref C h) rfl hl.1 rfl (Nat.le_of_ble_eq_true rfl) dX10_unpack_25 ⟨Nat.le_of_ble_eq_true rfl, Nat.le_of_ble_eq_true rfl⟩ ⟨Nat.le_of_ble_eq_true rfl, Nat.le_of_ble_eq_true rfl⟩) (fun r_25 v_25 sc_25 ar_25 H locs p_25 h => ?_)
        have h : hH z v (va_up sc 20 (nI (0))) ar s H locs := uEq p_25.2 h
        refine tI (y := nI (0)) p_25.1 ?_
        refine zN_eq (tgt := 33) (a := 0) C (by decide) dX10_unpack_28 (by decide) (fun _ => ?_) (fun q => absurd q (by decide))
        obtain ⟨c0, c0l, c0h, rfl⟩ := rIn (lo := 0) (hi := 400) (by decide) (by decide) c_10 (Int32.not_lt.mpr c_17)
        refine lv_aload_n hx hb dX10_unpack_33 rfl (lv_at hl 0 rfl) ?_
        refine lv_iload_n hx hb dX10_unpack_34 rfl (lv_at hl 1 rfl) ?_
        refine lv_iload_n hx hb dX10_unpack_35 rfl (lv_at hl 2 rfl) ?_
        refine backV h (runV (As := [.int (nI (j)), .int (nI (c0))]) (rest := []) C h (r_reads l z v (va_up sc 20 (nI (0))) ar K n rf j c0 wt dp t hK4 hRW hj hn hn8 hf hrf ht hT c0h) gv_X10_203 gv_X10_203_n ⟨rfl, rfl⟩ (r_Ref C h) rfl hl.1 rfl (Nat.le_of_ble_eq_true rfl) dX10_unpack_36 ⟨Nat.le_of_ble_eq_true rfl, Nat.le_of_ble_eq_true rfl⟩ ⟨Nat.le_of_ble_eq_true rfl, Nat.le_of_ble_eq_true rfl⟩) (fun v_36 sc_36 ar_36 H locs p_36 h => ?_)
        obtain ⟨sc1, ar1, eu, fr, hO⟩ := p_36
        have h := uEq eu h
        have e24 : sc1 24 = nI rf := (fr.1 24 (by decide) (by decide) (by decide) (by decide)).trans hf
        rcases ho : RD wt dp t n j c0 rf with ⟨xs, e0⟩ | ⟨f0, q0⟩
        · skip
          rw [ho] at hO
          obtain ⟨o33, o32, o36⟩ := hO
          obtain ⟨b1, b2, b3⟩ := RD_bd ht j (fun q hq => (hRW q (by omega)).2.2.2.2.2.2) _ _ _ _ ho
          have b4 := b3 hrf
          refine lv_aload_n hx hb dX10_unpack_39 rfl (lv_at hl 0 rfl) ?_
          refine lv_aload_n hx hb dX10_unpack_40 rfl (lv_at hl 0 rfl) ?_
          refine rg_X10_171 C h dX10_unpack_41 ?_
          refine tI (y := nI (0)) o33 ?_
          refine zN_ne (tgt := 51) (a := 0) C (by decide) dX10_unpack_44 (by decide) (fun q => absurd q (by decide)) (fun _ => ?_)
          refine lv_iconst (v := (-1)) hx hb dX10_unpack_47 (by decide) ?_
          refine lv_goto (tgt := 55) hx hb dX10_unpack_48 (by decide) ?_
          refine rp_X10_34 C h dX10_unpack_55 (fun H locs h => ?_)
          refine lv_aload_n hx hb dX10_unpack_58 rfl (lv_at hl 0 rfl) ?_
          refine rg_X10_171 C h dX10_unpack_59 ?_
          refine tI (y := nI (0)) o33 ?_
          refine zN_le (tgt := 71) (a := 0) C (by decide) dX10_unpack_62 (by decide) (fun _ => ?_) (fun q => absurd q (by decide))
          refine lv_iconst (v := nI (0)) hx hb dX10_unpack_71 (by decide) ?_
          refine lv_istore_n (lv' := [(3, .int (nI (0))), (0, .ref (zad z 27)), (1, .int (nI (j))), (2, .int (nI (c0)))]) hx hb dX10_unpack_72 rfl hl (by decide) rfl (fun ls hl => ?_)
          refine lpW2 (fun (k : Nat) (g : Nat → Int32) (H : Heap) (locs : List Loc) (ls : Array Slot) => (k ≤ c0) ∧ (∀ i, i < k → g i = xs.getD i 0) ∧ hH z v (va_up sc1 25 (-1)) (va_up ar1 34 g) s H locs ∧ lv_has ls 4 [(0, .ref (zad z 27)), (2, .int (nI (c0))), (3, .int (nI (k)))]) (fun (k : Nat) (g : Nat → Int32) => c0 - k) (fun k g ih_73 H locs ls hI => ?_) (0) (ar1 34) ⟨Nat.zero_le _, fun i hi => absurd hi (Nat.not_lt_zero _), (by rw [va_us]; exact h), lv_sub hl [1, 3, 0] rfl⟩
          obtain ⟨h1, h2, h, hl⟩ := hI
          refine lv_iload_n hx hb dX10_unpack_73 rfl (lv_at hl 2 rfl) ?_
          refine lv_iload_n hx hb dX10_unpack_74 rfl (lv_at hl 1 rfl) ?_
          refine jN_ge (tgt := 96) (a := k) (b := c0) C (by omega) (by omega) dX10_unpack_75 (by decide) (fun c_75 => ?_) (fun c_75 => ?_)
          · skip
            refine lv_aload_n hx hb dX10_unpack_96 rfl (lv_at hl 0 rfl) ?_
            refine lv_iload_n hx hb dX10_unpack_97 rfl (lv_at hl 1 rfl) ?_
            refine rp_X10_120 C h dX10_unpack_98 (fun H locs h => ?_)
            refine lv_aload_n hx hb dX10_unpack_101 rfl (lv_at hl 0 rfl) ?_
            refine rg_X10_186 C h dX10_unpack_102 ?_
            refine tI (y := nI (rf)) e24 ?_
            refine lv_istore_n (lv' := [(3, .int (nI (rf))), (0, .ref (zad z 27)), (2, .int (nI (c0)))]) hx hb dX10_unpack_105 rfl hl (by decide) rfl (fun ls hl => ?_)
            refine lv_aload_n hx hb dX10_unpack_106 rfl (lv_at hl 1 rfl) ?_
            refine lv_aload_n hx hb dX10_unpack_107 rfl (lv_at hl 1 rfl) ?_
            refine rg_X10_177 C h dX10_unpack_108 ?_
            refine tI (y := nI (e0)) o32 ?_
            refine rp_X10_186 C h dX10_unpack_111 (fun H locs h => ?_)
            refine lv_aload_n hx hb dX10_unpack_114 rfl (lv_at hl 1 rfl) ?_
            refine rg_X10_177 C h dX10_unpack_115 ?_
            refine tI (y := nI (e0)) o32 ?_
            refine lv_iload_n hx hb dX10_unpack_118 rfl (lv_at hl 0 rfl) ?_
            refine lv_isub hx hb dX10_unpack_119 ?_
            refine tI (y := nI (e0 - rf)) (pk_sub (by omega)) ?_
            exact rI C hr hlk h dX10_unpack_120 (Nat.le_of_ble_eq_true rfl) (Nat.le_of_ble_eq_true rfl) ((Or.inr ⟨j, c0, ⟨rfl, hj⟩, ⟨rfl, c0h⟩, by rw [ho]; exact ⟨sc1, ar1, g, fr, rfl, rfl, fun i hi => h2 i (by omega)⟩⟩))
          · skip
            refine lv_aload_n hx hb dX10_unpack_78 rfl (lv_at hl 0 rfl) ?_
            refine rg_X10_28 C h dX10_unpack_79 ?_
            refine lv_iload_n hx hb dX10_unpack_82 rfl (lv_at hl 2 rfl) ?_
            refine lv_aload_n hx hb dX10_unpack_83 rfl (lv_at hl 0 rfl) ?_
            refine rg_X10_48 C h dX10_unpack_84 ?_
            refine lv_iload_n hx hb dX10_unpack_87 rfl (lv_at hl 2 rfl) ?_
            refine ldA 36 rfl (j := k) (show k < 40000 by omega) (by decide) C h dX10_unpack_88 ?_
            refine tI (y := xs.getD k 0) (o36 k (by omega)) ?_
            refine stA 34 rfl (j := k) (x := xs.getD k 0) (show k < 400 by omega) (by decide) C h dX10_unpack_89 (fun H locs h => ?_)
            rw [va_uu] at h
            have h : hH z v (va_up sc1 25 (-1)) (va_up ar1 34 (upd (g) (k) (xs.getD k 0))) s H locs := h
            refine lv_iinc (v := nI (k + 1)) (lv' := [(3, .int (nI (k + 1))), (0, .ref (zad z 27)), (2, .int (nI (c0)))]) hx hb dX10_unpack_90 hl (k := 2) rfl (nN_inc _) (by decide) rfl (fun ls hl => ?_)
            refine lv_goto (tgt := 73) hx hb dX10_unpack_93 (by decide) ?_
            exact ih_73 (k + 1) (upd g k (xs.getD k 0)) (by omega) H locs ls ⟨by omega, fun i hi => (by by_cases e : i = k; rw [e, pk_us]; rw [pk_un e]; exact h2 i (by omega)), h, lv_sub hl [1, 2, 0] rfl⟩
        · skip
          rw [ho] at hO
          obtain ⟨o33, o34, hf1, hf3⟩ := hO
          refine lv_aload_n hx hb dX10_unpack_39 rfl (lv_at hl 0 rfl) ?_
          refine lv_aload_n hx hb dX10_unpack_40 rfl (lv_at hl 0 rfl) ?_
          refine rg_X10_171 C h dX10_unpack_41 ?_
          refine tI (y := nI (f0)) o33 ?_
          refine zN_ne (tgt := 51) (a := f0) C (by omega) dX10_unpack_44 (by decide) (fun c_44 => ?_) (fun c_44 => ?_)
          · skip
            refine lv_aload_n hx hb dX10_unpack_51 rfl (lv_at hl 0 rfl) ?_
            refine rg_X10_174 C h dX10_unpack_52 ?_
            refine tI (y := nI (q0)) o34 ?_
            refine rp_X10_34 C h dX10_unpack_55 (fun H locs h => ?_)
            refine lv_aload_n hx hb dX10_unpack_58 rfl (lv_at hl 0 rfl) ?_
            refine rg_X10_171 C h dX10_unpack_59 ?_
            refine tI (y := nI (f0)) o33 ?_
            refine zN_le (tgt := 71) (a := f0) C (by omega) dX10_unpack_62 (by decide) (fun c_62 => ?_) (fun c_62 => ?_)
            · skip
              omega
            · skip
              refine lv_aload_n hx hb dX10_unpack_65 rfl (lv_at hl 0 rfl) ?_
              refine rg_X10_171 C h dX10_unpack_66 ?_
              refine tI (y := nI (f0)) o33 ?_
              refine lv_ineg hx hb dX10_unpack_69 ?_
              exact rI C hr hlk h dX10_unpack_70 (Nat.le_of_ble_eq_true rfl) (Nat.le_of_ble_eq_true rfl) ((Or.inr ⟨j, c0, ⟨rfl, hj⟩, ⟨rfl, c0h⟩, by rw [ho]; exact ⟨sc1, ar1, fr, rfl, rfl⟩⟩))
          · skip
            omega
      · skip
        refine lv_iconst (v := nI (1)) hx hb dX10_unpack_20 (by decide) ?_
        refine lv_goto (tgt := 25) hx hb dX10_unpack_21 (by decide) ?_
        refine backI h (runV (As := [.int (nI (1))]) (rest := []) C h (r_refuses l z v sc ar 1 (by decide)) gv_X10_105 gv_X10_105_n ⟨rfl, rfl⟩ (r_Ref C h) rfl hl.1 rfl (Nat.le_of_ble_eq_true rfl) dX10_unpack_25 ⟨Nat.le_of_ble_eq_true rfl, Nat.le_of_ble_eq_true rfl⟩ ⟨Nat.le_of_ble_eq_true rfl, Nat.le_of_ble_eq_true rfl⟩) (fun r_25 v_25 sc_25 ar_25 H locs p_25 h => ?_)
        have h : hH z v (va_up sc 20 (nI (1))) ar s H locs := uEq p_25.2 h
        refine tI (y := nI (1)) p_25.1 ?_
        refine zN_eq (tgt := 33) (a := 1) C (by decide) dX10_unpack_28 (by decide) (fun q => absurd q (by decide)) (fun _ => ?_)
        refine lv_iconst (v := nI (0)) hx hb dX10_unpack_31 (by decide) ?_
        exact rI C hr hlk h dX10_unpack_32 (Nat.le_of_ble_eq_true rfl) (Nat.le_of_ble_eq_true rfl) (Or.inl ⟨fun g => rNo (lo := 0) (hi := 400) (by decide) (by decide) (Or.inr (Int32.not_le.mp c_17)) g.2, rfl⟩)
  · skip
    refine tI (y := nI 0) er_3 ?_
    refine zN_eq (tgt := 20) (a := 0) C (by decide) dX10_unpack_6 (by decide) (fun _ => ?_) (fun q => absurd q (by decide))
    refine lv_iconst (v := nI (1)) hx hb dX10_unpack_20 (by decide) ?_
    refine lv_goto (tgt := 25) hx hb dX10_unpack_21 (by decide) ?_
    refine backI h (runV (As := [.int (nI (1))]) (rest := []) C h (r_refuses l z v sc ar 1 (by decide)) gv_X10_105 gv_X10_105_n ⟨rfl, rfl⟩ (r_Ref C h) rfl hl.1 rfl (Nat.le_of_ble_eq_true rfl) dX10_unpack_25 ⟨Nat.le_of_ble_eq_true rfl, Nat.le_of_ble_eq_true rfl⟩ ⟨Nat.le_of_ble_eq_true rfl, Nat.le_of_ble_eq_true rfl⟩) (fun r_25 v_25 sc_25 ar_25 H locs p_25 h => ?_)
    have h : hH z v (va_up sc 20 (nI (1))) ar s H locs := uEq p_25.2 h
    refine tI (y := nI (1)) p_25.1 ?_
    refine zN_eq (tgt := 33) (a := 1) C (by decide) dX10_unpack_28 (by decide) (fun q => absurd q (by decide)) (fun _ => ?_)
    refine lv_iconst (v := nI (0)) hx hb dX10_unpack_31 (by decide) ?_
    exact rI C hr hlk h dX10_unpack_32 (Nat.le_of_ble_eq_true rfl) (Nat.le_of_ble_eq_true rfl) (Or.inl ⟨fun g => ew_3 g.1, rfl⟩)
