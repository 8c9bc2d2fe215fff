/-! The reference: reading by levels. -/
theorem RW.fr2 {wt : Nat → Nat → Nat} {dp : Nat → Nat} {K : Nat} {ar ar1 : Nat → Nat → Int32} (h : RW wt dp K ar) (hf : ∀ k, k < 34 → ar1 k = ar k) : RW wt dp K ar1 := fun i hi => by
  rw [hf 28 (by omega), hf 29 (by omega), hf 30 (by omega), hf 31 (by omega), hf 32 (by omega), hf 33 (by omega)]
  exact h i hi
theorem inA_o {ar : Nat → Nat → Int32} {L w c t k : Nat} (h : k ≠ 42) (h2 : k ≠ 43) (h3 : k ≠ 44) (h4 : k ≠ 45) : inA ar L w c t k = ar k := by
  unfold inA
  rw [va_up_ne _ _ h4, va_up_ne _ _ h3, va_up_ne _ _ h2, va_up_ne _ _ h]
theorem inA_at {ar : Nat → Nat → Int32} {L w c t : Nat} : inA ar L w c t 42 L = nI w ∧ inA ar L w c t 43 L = nI c ∧ inA ar L w c t 44 L = nI t ∧ inA ar L w c t 45 L = nI 0 := by
  rw [show inA ar L w c t 42 = upd (ar 42) L (nI w) from rfl, show inA ar L w c t 43 = upd (ar 43) L (nI c) from rfl, show inA ar L w c t 44 = upd (ar 44) L (nI t) from rfl, show inA ar L w c t 45 = upd (ar 45) L (nI 0) from rfl]
  exact ⟨pk_us, pk_us, pk_us, pk_us⟩
theorem inA_lo {ar : Nat → Nat → Int32} {L w c t q : Nat} (h : q ≠ L) (k : Nat) : inA ar L w c t k q = ar k q := by
  by_cases h1 : k = 42
  · subst h1; rw [show inA ar L w c t 42 = upd (ar 42) L (nI w) from rfl, pk_un h]
  · by_cases h2 : k = 43
    · subst h2; rw [show inA ar L w c t 43 = upd (ar 43) L (nI c) from rfl, pk_un h]
    · by_cases h3 : k = 44
      · subst h3; rw [show inA ar L w c t 44 = upd (ar 44) L (nI t) from rfl, pk_un h]
      · by_cases h4 : k = 45
        · subst h4; rw [show inA ar L w c t 45 = upd (ar 45) L (nI 0) from rfl, pk_un h]
        · rw [inA_o h1 h2 h3 h4]
theorem vG {B : Nat → Nat → Int32} {b : Nat → Int32} {k0 L q : Nat} {x : Int32} (h : q ≠ L) (hb : b = B k0) (k : Nat) : va_up B k0 (upd b L x) k q = B k q := by
  by_cases e : k = k0
  · rw [e, va_up_self, pk_un h, hb]
  · rw [va_up_ne _ _ e]
theorem nI_m1 (L : Nat) : nI (L + 1) + (-1) = nI L := by
  rw [← nI_add, Int32.add_assoc, show nI 1 + -1 = 0 from by decide, Int32.add_zero]
theorem rdL_ft {cb ch cs cd n : Nat} {t : Nat → Nat} : ∀ (cnt : Nat) (b : Int32) (p f q : Nat), rdL cb ch cs cd t n cnt b p = .inr (f, q) → f = 1 ∨ f = 2
  | 0, b, p, f, q, h => by unfold rdL at h; cases h
  | cnt + 1, b, p, f, q, h => by
    cases hr : rdc cb ch t n p with
    | none => rw [rdL_none (by omega) hr] at h; cases h; exact Or.inl rfl
    | some y =>
      obtain ⟨c, q1⟩ := y
      cases hn : nbO cs c with
      | none => rw [rdL_bad (by omega) hr hn] at h; cases h; exact Or.inr rfl
      | some i =>
        rw [rdL_ok (by omega) hr hn, Nat.add_sub_cancel] at h
        cases hx : rdL cb ch cs cd t n cnt (if cd = 1 then b + Int32.ofInt i else Int32.ofInt i) q1 with
        | inl y => rw [hx] at h; cases h
        | inr y =>
          obtain ⟨f1, q2⟩ := y
          rw [hx] at h
          have := rdL_ft cnt _ _ _ _ hx
          cases h
          exact this
/-- what reading leaves as it was while it goes on at level L -/
def rF (L : Nat) (sc : Nat → Int32) (ar : Nat → Nat → Int32) (sc1 : Nat → Int32) (ar1 : Nat → Nat → Int32) : Prop := (∀ i, i ≠ 29 → i ≠ 32 → sc1 i = sc i) ∧ (∀ k, k ≠ 36 → ¬ (42 ≤ k ∧ k ≤ 50) → ar1 k = ar k) ∧ ∀ k q, q < L → k ≠ 36 → ar1 k q = ar k q
/-- what reading leaves as it was, also where it fails -/
def rG (sc : Nat → Int32) (ar : Nat → Nat → Int32) (sc1 : Nat → Int32) (ar1 : Nat → Nat → Int32) : Prop := (∀ i, i ≠ 29 → i ≠ 32 → i ≠ 33 → i ≠ 34 → sc1 i = sc i) ∧ ∀ k, k ≠ 36 → ¬ (42 ≤ k ∧ k ≤ 50) → ar1 k = ar k
theorem rF.trans {L : Nat} {sc sc1 sc2 : Nat → Int32} {ar ar1 ar2 : Nat → Nat → Int32} (h : rF L sc ar sc1 ar1) (h2 : rF L sc1 ar1 sc2 ar2) : rF L sc ar sc2 ar2 := ⟨fun i a b => (h2.1 i a b).trans (h.1 i a b), fun k a b => (h2.2.1 k a b).trans (h.2.1 k a b), fun k q a b => (h2.2.2 k q a b).trans (h.2.2 k q a b)⟩
theorem rF.mono {L L' : Nat} {sc sc1 : Nat → Int32} {ar ar1 : Nat → Nat → Int32} (h : rF L sc ar sc1 ar1) (hL : L' ≤ L) : rF L' sc ar sc1 ar1 := ⟨h.1, h.2.1, fun k q a b => h.2.2 k q (by omega) b⟩
theorem rF.g {L : Nat} {sc sc1 sc2 : Nat → Int32} {ar ar1 ar2 : Nat → Nat → Int32} (h : rF L sc ar sc1 ar1) (h2 : rG sc1 ar1 sc2 ar2) : rG sc ar sc2 ar2 := ⟨fun i a b c d => (h2.1 i a b c d).trans (h.1 i a b), fun k a b => (h2.2 k a b).trans (h.2.1 k a b)⟩
theorem rF_in {L j c t : Nat} {sc scA : Nat → Int32} {ar X : Nat → Nat → Int32} (hs : ∀ i, i ≠ 29 → i ≠ 32 → scA i = sc i) (hX : ∀ k, k ≠ 36 → ¬ (42 ≤ k ∧ k ≤ 50) → X k = ar k) (hl : ∀ k q, q < L → k ≠ 36 → X k q = ar k q) : rF L sc ar scA (inA X (L + 1) j c t) := ⟨hs, fun k a b => (inA_o (by omega) (by omega) (by omega) (by omega)).trans (hX k a b), fun k q a b => (inA_lo (by omega) k).trans (hl k q a b)⟩
/-- a child stands on the next level -/
def rN (L j c1 t1 us : Nat) (sc : Nat → Int32) (ar : Nat → Nat → Int32) (scA : Nat → Int32) (arA : Nat → Nat → Int32) : Prop := rF L sc ar scA arA ∧ (arA 42 (L + 1) = nI j ∧ arA 43 (L + 1) = nI c1 ∧ arA 44 (L + 1) = nI t1 ∧ arA 45 (L + 1) = nI 0) ∧ arA 36 = ar 36 ∧ scA 32 = sc 32 ∧ scA 29 = nI us
def rPre (wt : Nat → Nat → Nat) (dp : Nat → Nat) (K : Nat) (t : Nat → Nat) (n w L cnt to us p : Nat) (sc : Nat → Int32) (ar : Nat → Nat → Int32) : Prop := RW wt dp K ar ∧ (ar 42 L = nI w ∧ ar 43 L = nI cnt ∧ ar 44 L = nI to ∧ ar 45 L = nI 0) ∧ (L + dp w ≤ 4 ∧ to + cnt ≤ us ∧ cnt ≤ 400 ∧ us + nd (dp w) cnt ≤ 40000) ∧ sc 29 = nI us ∧ (sc 32 = nI p ∧ p ≤ n) ∧ sc 33 = nI 0 ∧ (sc 23 = nI n ∧ n ≤ 8000) ∧ ∀ j, j < n → ar 35 j = nI (t j)
def rPo (L to cnt us need : Nat) (xs : List Int32) (e : Nat) (sc : Nat → Int32) (ar : Nat → Nat → Int32) (sc1 : Nat → Int32) (ar1 : Nat → Nat → Int32) : Prop := rF L sc ar sc1 ar1 ∧ sc1 32 = nI e ∧ (∃ us1, sc1 29 = nI us1 ∧ us ≤ us1 ∧ us1 ≤ us + need) ∧ (∀ q, q < us → ¬ (to ≤ q ∧ q < to + cnt) → ar1 36 q = ar 36 q) ∧ ∀ i, i < cnt → ar1 36 (to + i) = xs.getD i 0
section BIGR
variable (p : Program) (l : Launch) (e : Env) (s : State) (m : MethodId) (args : Array Value) (below : List Frame) (meth : Method) (c : Code) (Q : State → Prop) (z : bZ) (v : bV) (wt : Nat → Nat → Nat) (dp : Nat → Nat) (K : Nat) (t : Nat → Nat) (n : Nat)
def kOk (j c1 p1 : Nat) (R : List Int32 → Nat → (Nat → Int32) → (Nat → Nat → Int32) → Prop) (V : Value) : Prop := ∀ (sc1 : Nat → Int32) (ar1 : Nat → Nat → Int32) (H1 : Heap) (locs1 : List Loc) (ls1 : Array Slot) (xs : List Int32) (e1 : Nat), RD wt dp t n j c1 p1 = .inl (xs, e1) → R xs e1 sc1 ar1 → hH z v sc1 ar1 s H1 locs1 → lv_has ls1 9 [(0, .ref (zad z 27)), (3, V)] → W p l e rmR s m args below meth c H1 locs1 0 0 Q (F0 m 28 ls1 [])
def kNo (j c1 p1 : Nat) (sc : Nat → Int32) (ar : Nat → Nat → Int32) : Prop := ∀ (sc1 : Nat → Int32) (ar1 : Nat → Nat → Int32) (H1 : Heap) (locs1 : List Loc) (ls1 : Array Slot) (f q : Nat), RD wt dp t n j c1 p1 = .inr (f, q) → rG sc ar sc1 ar1 → sc1 33 = nI f → sc1 34 = nI q → 1 ≤ f ∧ f ≤ 3 → hH z v sc1 ar1 s H1 locs1 → lv_has ls1 9 [(0, .ref (zad z 27))] → W p l e rmR s m args below meth c H1 locs1 0 0 Q (F0 m 241 ls1 [])
/-- reading by a way, from the loop's head to the loop's head or its end -/
def rBig (w : Nat) : Prop := ∀ (sc : Nat → Int32) (ar : Nat → Nat → Int32) (H : Heap) (locs : List Loc) (ls : Array Slot) (L cnt to us p0 : Nat), rPre wt dp K t n w L cnt to us p0 sc ar → hH z v sc ar s H locs → lv_has ls 9 [(0, .ref (zad z 27)), (3, .int (nI L))] →
  kOk p l e s m args below meth c Q z v wt dp t n w cnt p0 (fun xs e1 sc1 ar1 => rPo L to cnt us (nd (dp w) cnt) xs e1 sc ar sc1 ar1) (.int (nI L + (-1))) →
  kNo p l e s m args below meth c Q z v wt dp t n w cnt p0 sc ar →
  W p l e rmR s m args below meth c H locs 0 0 Q (F0 m 28 ls [])
variable {p l e s m args below meth c Q z v wt dp K t n}
theorem rGo {sc0 : Nat → Int32} {ar0 : Nat → Nat → Int32} (ht : ∀ j, t j < 256) {j L c1 t1 us1 p1 : Nat} (IH : rBig p l e s m args below meth c Q z v wt dp K t n j) (hj : j < K) (hRW0 : RW wt dp K ar0) (h33 : sc0 33 = nI 0) (h23 : sc0 23 = nI n) (hn8 : n ≤ 8000) (hT : ∀ j, j < n → ar0 35 j = nI (t j)) {sc1 scA : Nat → Int32} {ar1 arA : Nat → Nat → Int32} {H : Heap} {locs : List Loc} {ls : Array Slot} (hF0 : rF L sc0 ar0 sc1 ar1) (hN : rN L j c1 t1 us1 sc1 ar1 scA arA) (g32 : sc1 32 = nI p1) (hp1 : p1 ≤ n) (hb : L + 1 + dp j ≤ 4 ∧ t1 + c1 ≤ us1 ∧ c1 ≤ 400 ∧ us1 + nd (dp j) c1 ≤ 40000) (h : hH z v scA arA s H locs) (hl : lv_has ls 9 [(0, .ref (zad z 27)), (3, .int (nI (L + 1)))])
    (k1 : ∀ (sc2 : Nat → Int32) (ar2 : Nat → Nat → Int32) (H1 : Heap) (locs1 : List Loc) (ls1 : Array Slot) (xs : List Int32) (e1 us2 : Nat), RD wt dp t n j c1 p1 = .inl (xs, e1) → xs.length = c1 → e1 ≤ n → rF L sc0 ar0 sc2 ar2 → sc2 29 = nI us2 → us1 ≤ us2 ∧ us2 ≤ us1 + nd (dp j) c1 → sc2 32 = nI e1 → (∀ k, k ≠ 36 → ar2 k L = arA k L) → (∀ q, q < us1 → ¬ (t1 ≤ q ∧ q < t1 + c1) → ar2 36 q = ar1 36 q) → (∀ i, i < c1 → ar2 36 (t1 + i) = xs.getD i 0) → hH z v sc2 ar2 s H1 locs1 → lv_has ls1 9 [(0, .ref (zad z 27)), (3, .int (nI L))] → W p l e rmR s m args below meth c H1 locs1 0 0 Q (F0 m 28 ls1 []))
    (k0 : ∀ (sc2 : Nat → Int32) (ar2 : Nat → Nat → Int32) (H1 : Heap) (locs1 : List Loc) (ls1 : Array Slot) (f q : Nat), RD wt dp t n j c1 p1 = .inr (f, q) → rG sc0 ar0 sc2 ar2 → sc2 33 = nI f → sc2 34 = nI q → 1 ≤ f ∧ f ≤ 3 → hH z v sc2 ar2 s H1 locs1 → lv_has ls1 9 [(0, .ref (zad z 27))] → W p l e rmR s m args below meth c H1 locs1 0 0 Q (F0 m 241 ls1 [])) : W p l e rmR s m args below meth c H locs 0 0 Q (F0 m 28 ls []) := by
  obtain ⟨hF1, hat, e36, e32, e29⟩ := hN
  have hF := hF0.trans hF1
  refine IH scA arA H locs ls (L + 1) c1 t1 us1 p1 ⟨hRW0.fr2 (fun k hk => hF.2.1 k (by omega) (by omega)), hat, hb, e29, ⟨e32.trans g32, hp1⟩, (hF.1 33 (by decide) (by decide)).trans h33, ⟨(hF.1 23 (by decide) (by decide)).trans h23, hn8⟩, fun q hq => (congrFun (hF.2.1 35 (by decide) (by omega)) q).trans (hT q hq)⟩ h hl (fun sc2 ar2 H1 locs1 ls1 xs e1 w1 po h hl => ?_) (fun sc2 ar2 H1 locs1 ls1 f q w1 g a b hf h hl => k0 sc2 ar2 H1 locs1 ls1 f q w1 (hF.g g) a b hf h hl)
  obtain ⟨fr, p32, ⟨us2, p29, hu1, hu2⟩, pp, px⟩ := po
  obtain ⟨b1, b2, b3⟩ := RD_bd ht j (fun q hq => (hRW0 q (by omega)).2.2.2.2.2.2) _ _ _ _ w1
  rw [nI_m1] at hl
  exact k1 sc2 ar2 H1 locs1 ls1 xs e1 us2 w1 b1 (b3 hp1) (hF.trans (fr.mono (by omega))) p29 ⟨hu1, hu2⟩ p32 (fun k hk => fr.2.2 k L (by omega) hk) (fun q hq hn => (pp q hq hn).trans (congrFun e36 q)) px h hl
end BIGR
theorem gv_X10_193 : GoodIn uW (wsV RX10 193 RX10 yX10_readsCodes (Cond.code yX10_readsCodes cX10_readsCodes 16 none :: uW)) := gI_V (uW_of (by decide +kernel) rfl) (uW_of (by decide +kernel) rfl) (uW_of (by decide +kernel) rfl) (uW_of (by decide +kernel) rfl) (uW_of (by decide +kernel) rfl)
theorem gv_X10_193_n : okN yX10_readsCodes 3 := by decide +kernel
theorem gv_X10_196 : GoodIn uW (wsV RX10 196 RX10 yX10_readsPopular (Cond.code yX10_readsPopular cX10_readsPopular 9 none :: uW)) := gI_V (uW_of (by decide +kernel) rfl) (uW_of (by decide +kernel) rfl) (uW_of (by decide +kernel) rfl) (uW_of (by decide +kernel) rfl) (uW_of (by decide +kernel) rfl)
theorem gv_X10_196_n : okN yX10_readsPopular 2 := by decide +kernel
set_option maxHeartbeats 4000000 in
set_option maxRecDepth 100000 in
theorem rs_cod {p : Program} {l : Launch} {e : Env} {s : State} {m : MethodId} {args : Array Value} {below : List Frame} {meth : Method} {c : Code} {Q : State → Prop} {z : bZ} {v : bV} {wt : Nat → Nat → Nat} {dp : Nat → Nat} {K L w cnt to us p0 : Nat} {sc : Nat → Int32} {ar : Nat → Nat → Int32} {H : Heap} {locs : List Loc} {ls : Array Slot} {t : Nat → Nat} {n : Nat} (C : cX z p m c cX10_reads 9 s args RX10) (hK4 : K ≤ 40) (hRW : RW wt dp K ar) (hw : w < K) (hL : L < 5) (g42 : ar 42 L = nI w) (g43 : ar 43 L = nI cnt) (g44 : ar 44 L = nI to) (hc4 : cnt ≤ 400) (g33 : sc 33 = nI 0) (hk0 : wt w 0 = 0) (g45 : ar 45 L = nI 0) (ht : ∀ j, t j < 256) (g32 : sc 32 = nI p0) (hpn : p0 ≤ n) (g23 : sc 23 = nI n) (hn8 : n ≤ 8000) (hT : ∀ j, j < n → ar 35 j = nI (t j)) (hto : to + cnt ≤ 40000) (h : hH z v sc ar s H locs) (hl : lv_has ls 9 [(0, .ref (zad z 27)), (3, .int (nI L))]) (k1 : ∀ (xs : List Int32) (e0 : Nat) (H : Heap) (locs : List Loc) (ls : Array Slot), rdL (wt w 1) (wt w 2) (wt w 3) (wt w 4) t n cnt (nI 0) p0 = .inl (xs, e0) → hH z v (va_up sc 32 (nI e0)) (va_up (va_up ar 45 (upd (ar 45) (L) (nI (1)))) 36 (wrR (ar 36) to xs)) s H locs → lv_has ls 9 [(0, .ref (zad z 27)), (3, .int (nI L + (-1)))] → W p l e rmR s m args below meth c H locs 0 0 Q (F0 m 28 ls [])) (k0 : ∀ (f0 q0 : Nat) (x0 : Int32) (g0 : Nat → Int32) (H : Heap) (locs : List Loc) (ls : Array Slot), rdL (wt w 1) (wt w 2) (wt w 3) (wt w 4) t n cnt (nI 0) p0 = .inr (f0, q0) → hH z v (va_up (va_up (va_up sc 32 x0) 33 (nI f0)) 34 (nI q0)) (va_up (va_up ar 45 (upd (ar 45) (L) (nI (1)))) 36 g0) s H locs → lv_has ls 9 [(0, .ref (zad z 27))] → W p l e rmR s m args below meth c H locs 0 0 Q (F0 m 241 ls [])) : W p l e rmR s m args below meth c H locs 0 0 Q (F0 m 28 ls []) := by
  have hx := C.1.1
  have hb := C.1.2.1
  refine lv_iload_n hx hb dX10_reads_28 rfl (lv_at hl 1 rfl) ?_
  refine zN_lt (tgt := 241) (a := L) C (by omega) dX10_reads_29 (by decide) ?_
  refine lv_aload_n hx hb dX10_reads_32 rfl (lv_at hl 0 rfl) ?_
  refine rg_X10_171 C h dX10_reads_33 ?_
  refine tI (y := nI (0)) g33 ?_
  refine zN_ne (tgt := 241) (a := 0) C (by decide) dX10_reads_36 (by decide) (fun q => absurd q (by decide)) (fun _ => ?_)
  refine lv_aload_n hx hb dX10_reads_39 rfl (lv_at hl 0 rfl) ?_
  refine rg_X10_66 C h dX10_reads_40 ?_
  refine lv_iload_n hx hb dX10_reads_43 rfl (lv_at hl 1 rfl) ?_
  refine ldA 42 rfl (j := L) (show L < 8 by omega) (by decide) C h dX10_reads_44 ?_
  refine tI (y := nI (w)) g42 ?_
  refine lv_istore (lv' := [(4, .int (nI (w))), (0, .ref (zad z 27)), (3, .int (nI (L)))]) hx hb dX10_reads_45 hl (by decide) rfl (fun ls hl => ?_)
  refine lv_aload_n hx hb dX10_reads_47 rfl (lv_at hl 1 rfl) ?_
  refine rg_X10_69 C h dX10_reads_48 ?_
  refine lv_iload_n hx hb dX10_reads_51 rfl (lv_at hl 2 rfl) ?_
  refine ldA 43 rfl (j := L) (show L < 8 by omega) (by decide) C h dX10_reads_52 ?_
  refine tI (y := nI (cnt)) g43 ?_
  refine lv_istore (lv' := [(5, .int (nI (cnt))), (4, .int (nI (w))), (0, .ref (zad z 27)), (3, .int (nI (L)))]) hx hb dX10_reads_53 hl (by decide) rfl (fun ls hl => ?_)
  refine lv_aload_n hx hb dX10_reads_55 rfl (lv_at hl 2 rfl) ?_
  refine rg_X10_72 C h dX10_reads_56 ?_
  refine lv_iload_n hx hb dX10_reads_59 rfl (lv_at hl 3 rfl) ?_
  refine ldA 44 rfl (j := L) (show L < 8 by omega) (by decide) C h dX10_reads_60 ?_
  refine tI (y := nI (to)) g44 ?_
  refine lv_istore (lv' := [(6, .int (nI (to))), (5, .int (nI (cnt))), (4, .int (nI (w))), (0, .ref (zad z 27)), (3, .int (nI (L)))]) hx hb dX10_reads_61 hl (by decide) rfl (fun ls hl => ?_)
  refine lv_aload_n hx hb dX10_reads_63 rfl (lv_at hl 3 rfl) ?_
  refine rg_X10_75 C h dX10_reads_64 ?_
  refine lv_iload_n hx hb dX10_reads_67 rfl (lv_at hl 4 rfl) ?_
  refine ldA 45 rfl (j := L) (show L < 8 by omega) (by decide) C h dX10_reads_68 ?_
  refine tI (y := nI (0)) g45 ?_
  refine lv_istore (lv' := [(7, .int (nI (0))), (6, .int (nI (to))), (5, .int (nI (cnt))), (4, .int (nI (w))), (0, .ref (zad z 27)), (3, .int (nI (L)))]) hx hb dX10_reads_69 hl (by decide) rfl (fun ls hl => ?_)
  refine lv_aload_n hx hb dX10_reads_71 rfl (lv_at hl 4 rfl) ?_
  refine rg_X10_75 C h dX10_reads_72 ?_
  refine lv_iload_n hx hb dX10_reads_75 rfl (lv_at hl 5 rfl) ?_
  refine lv_dup2_11 hx hb dX10_reads_76 rfl rfl ?_
  refine ldA 45 rfl (j := L) (show L < 8 by omega) (by decide) C h dX10_reads_77 ?_
  refine tI (y := nI (0)) g45 ?_
  refine lv_iconst (v := nI (1)) hx hb dX10_reads_78 (by decide) ?_
  refine lv_iadd hx hb dX10_reads_79 ?_
  refine tI (y := nI (1)) (by decide) ?_
  refine stA 45 rfl (j := L) (x := nI (1)) (show L < 8 by omega) (by decide) C h dX10_reads_80 (fun H locs h => ?_)
  refine lv_aload_n hx hb dX10_reads_81 rfl (lv_at hl 4 rfl) ?_
  refine rg_X10_7 C h dX10_reads_82 ?_
  refine lv_iload hx hb dX10_reads_85 (lv_at hl 3 rfl) ?_
  refine ldA 28 rfl (j := w) (show w < 40 by omega) (by decide) C h dX10_reads_87 ?_
  refine tI (y := nI (0)) ((hRW w hw).1.trans (by rw [hk0])) ?_
  refine zN_ne (tgt := 107) (a := 0) C (by decide) dX10_reads_88 (by decide) (fun q => absurd q (by decide)) (fun _ => ?_)
  refine lv_aload_n hx hb dX10_reads_91 rfl (lv_at hl 4 rfl) ?_
  refine lv_iload hx hb dX10_reads_92 (lv_at hl 3 rfl) ?_
  refine lv_iload hx hb dX10_reads_94 (lv_at hl 2 rfl) ?_
  refine lv_iload hx hb dX10_reads_96 (lv_at hl 1 rfl) ?_
  refine backV h (runV (As := [.int (nI (w)), .int (nI (cnt)), .int (nI (to))]) (rest := []) C h (r_readsCodes l z v sc (va_up ar 45 (upd (ar 45) (L) (nI (1)))) K w cnt to n p0 wt dp t hK4 (hRW.fr2 (fun k hk => va_up_ne _ _ (by omega))) hw hk0 g23 hn8 g32 hpn g33 ht hT (by omega)) gv_X10_193 gv_X10_193_n ⟨rfl, rfl⟩ (r_Ref C h) rfl hl.1 rfl (Nat.le_of_ble_eq_true rfl) dX10_reads_98 ⟨Nat.le_of_ble_eq_true rfl, Nat.le_of_ble_eq_true rfl⟩ ⟨Nat.le_of_ble_eq_true rfl, Nat.le_of_ble_eq_true rfl⟩) (fun v_98 sc_98 ar_98 H locs p_98 h => ?_)
  rcases ho : rdL (wt w 1) (wt w 2) (wt w 3) (wt w 4) t n cnt (nI 0) p0 with ⟨xs, e0⟩ | ⟨f0, q0⟩
  · skip
    rw [ho] at p_98
    have h : hH z v (va_up sc 32 (nI e0)) (va_up (va_up ar 45 (upd (ar 45) (L) (nI (1)))) 36 (wrR ((va_up ar 45 (upd (ar 45) (L) (nI (1)))) 36) to xs)) s H locs := uEq p_98 h
    refine lv_iinc (v := nI (L) + (-1)) (lv' := [(3, .int (nI (L) + (-1))), (7, .int (nI (0))), (6, .int (nI (to))), (5, .int (nI (cnt))), (4, .int (nI (w))), (0, .ref (zad z 27))]) hx hb dX10_reads_101 hl (k := 5) rfl rfl (by decide) rfl (fun ls hl => ?_)
    refine lv_goto (tgt := 238) hx hb dX10_reads_104 (by decide) ?_
    refine lv_goto (tgt := 28) hx hb dX10_reads_238 (by decide) ?_
    exact k1 xs e0 H locs ls ho h (lv_sub hl [5, 0] rfl)
  · skip
    rw [ho] at p_98
    obtain ⟨x0, g0, eu⟩ := p_98
    have hft := rdL_ft _ _ _ _ _ ho
    have h : hH z v (va_up (va_up (va_up sc 32 x0) 33 (nI f0)) 34 (nI q0)) (va_up (va_up ar 45 (upd (ar 45) (L) (nI (1)))) 36 g0) s H locs := uEq eu h
    refine lv_iinc (v := nI (L) + (-1)) (lv' := [(3, .int (nI (L) + (-1))), (7, .int (nI (0))), (6, .int (nI (to))), (5, .int (nI (cnt))), (4, .int (nI (w))), (0, .ref (zad z 27))]) hx hb dX10_reads_101 hl (k := 5) rfl rfl (by decide) rfl (fun ls hl => ?_)
    refine lv_goto (tgt := 238) hx hb dX10_reads_104 (by decide) ?_
    refine lv_goto (tgt := 28) hx hb dX10_reads_238 (by decide) ?_
    refine lv_iload_n hx hb dX10_reads_28 rfl (lv_at hl 0 rfl) ?_
    refine lv_if_lt (tgt := 241) hx hb dX10_reads_29 (by decide) (fun c_29 => ?_) (fun c_29 => ?_)
    · skip
      exact k0 f0 q0 x0 g0 H locs ls ho h (lv_sub hl [5] rfl)
    · skip
      refine lv_aload_n hx hb dX10_reads_32 rfl (lv_at hl 5 rfl) ?_
      refine rg_X10_171 C h dX10_reads_33 ?_
      refine tI (y := nI (f0)) rfl ?_
      refine zN_ne (tgt := 241) (a := f0) C (by omega) dX10_reads_36 (by decide) (fun c_36 => ?_) (fun c_36 => ?_)
      · skip
        exact k0 f0 q0 x0 g0 H locs ls ho h (lv_sub hl [5] rfl)
      · skip
        omega
set_option maxHeartbeats 4000000 in
set_option maxRecDepth 100000 in
theorem rs_run0 {p : Program} {l : Launch} {e : Env} {s : State} {m : MethodId} {args : Array Value} {below : List Frame} {meth : Method} {c : Code} {Q : State → Prop} {z : bZ} {v : bV} {wt : Nat → Nat → Nat} {dp : Nat → Nat} {K L w cnt to us p0 : Nat} {sc : Nat → Int32} {ar : Nat → Nat → Int32} {H : Heap} {locs : List Loc} {ls : Array Slot} {kk : Nat} (C : cX z p m c cX10_reads 9 s args RX10) (hK4 : K ≤ 40) (hRW : RW wt dp K ar) (hw : w < K) (hL : L < 5) (g42 : ar 42 L = nI w) (g43 : ar 43 L = nI cnt) (g44 : ar 44 L = nI to) (hc4 : cnt ≤ 400) (g33 : sc 33 = nI 0) (hk0 : wt w 0 = 1) (h14 : wt w 1 ≤ 400) (hkk : kk = min (wt w 1) cnt) (g45 : ar 45 L = nI 0) (g29 : sc 29 = nI us) (h : hH z v sc ar s H locs) (hl : lv_has ls 9 [(0, .ref (zad z 27)), (3, .int (nI L))]) (k1 : ∀ (scA : Nat → Int32) (arA : Nat → Nat → Int32) (H : Heap) (locs : List Loc) (ls : Array Slot), rN L (wt w 2) (kk) (to) (us) sc ar scA arA → (arA 45 L = nI 1) → (∀ k, k ≠ 45 → arA k L = ar k L) → hH z v scA arA s H locs → lv_has ls 9 [(0, .ref (zad z 27)), (3, .int (nI (L + 1)))] → W p l e rmR s m args below meth c H locs 0 0 Q (F0 m 28 ls [])) : W p l e rmR s m args below meth c H locs 0 0 Q (F0 m 28 ls []) := by
  have hx := C.1.1
  have hb := C.1.2.1
  refine lv_iload_n hx hb dX10_reads_28 rfl (lv_at hl 1 rfl) ?_
  refine zN_lt (tgt := 241) (a := L) C (by omega) dX10_reads_29 (by decide) ?_
  refine lv_aload_n hx hb dX10_reads_32 rfl (lv_at hl 0 rfl) ?_
  refine rg_X10_171 C h dX10_reads_33 ?_
  refine tI (y := nI (0)) g33 ?_
  refine zN_ne (tgt := 241) (a := 0) C (by decide) dX10_reads_36 (by decide) (fun q => absurd q (by decide)) (fun _ => ?_)
  refine lv_aload_n hx hb dX10_reads_39 rfl (lv_at hl 0 rfl) ?_
  refine rg_X10_66 C h dX10_reads_40 ?_
  refine lv_iload_n hx hb dX10_reads_43 rfl (lv_at hl 1 rfl) ?_
  refine ldA 42 rfl (j := L) (show L < 8 by omega) (by decide) C h dX10_reads_44 ?_
  refine tI (y := nI (w)) g42 ?_
  refine lv_istore (lv' := [(4, .int (nI (w))), (0, .ref (zad z 27)), (3, .int (nI (L)))]) hx hb dX10_reads_45 hl (by decide) rfl (fun ls hl => ?_)
  refine lv_aload_n hx hb dX10_reads_47 rfl (lv_at hl 1 rfl) ?_
  refine rg_X10_69 C h dX10_reads_48 ?_
  refine lv_iload_n hx hb dX10_reads_51 rfl (lv_at hl 2 rfl) ?_
  refine ldA 43 rfl (j := L) (show L < 8 by omega) (by decide) C h dX10_reads_52 ?_
  refine tI (y := nI (cnt)) g43 ?_
  refine lv_istore (lv' := [(5, .int (nI (cnt))), (4, .int (nI (w))), (0, .ref (zad z 27)), (3, .int (nI (L)))]) hx hb dX10_reads_53 hl (by decide) rfl (fun ls hl => ?_)
  refine lv_aload_n hx hb dX10_reads_55 rfl (lv_at hl 2 rfl) ?_
  refine rg_X10_72 C h dX10_reads_56 ?_
  refine lv_iload_n hx hb dX10_reads_59 rfl (lv_at hl 3 rfl) ?_
  refine ldA 44 rfl (j := L) (show L < 8 by omega) (by decide) C h dX10_reads_60 ?_
  refine tI (y := nI (to)) g44 ?_
  refine lv_istore (lv' := [(6, .int (nI (to))), (5, .int (nI (cnt))), (4, .int (nI (w))), (0, .ref (zad z 27)), (3, .int (nI (L)))]) hx hb dX10_reads_61 hl (by decide) rfl (fun ls hl => ?_)
  refine lv_aload_n hx hb dX10_reads_63 rfl (lv_at hl 3 rfl) ?_
  refine rg_X10_75 C h dX10_reads_64 ?_
  refine lv_iload_n hx hb dX10_reads_67 rfl (lv_at hl 4 rfl) ?_
  refine ldA 45 rfl (j := L) (show L < 8 by omega) (by decide) C h dX10_reads_68 ?_
  refine tI (y := nI (0)) g45 ?_
  refine lv_istore (lv' := [(7, .int (nI (0))), (6, .int (nI (to))), (5, .int (nI (cnt))), (4, .int (nI (w))), (0, .ref (zad z 27)), (3, .int (nI (L)))]) hx hb dX10_reads_69 hl (by decide) rfl (fun ls hl => ?_)
  refine lv_aload_n hx hb dX10_reads_71 rfl (lv_at hl 4 rfl) ?_
  refine rg_X10_75 C h dX10_reads_72 ?_
  refine lv_iload_n hx hb dX10_reads_75 rfl (lv_at hl 5 rfl) ?_
  refine lv_dup2_11 hx hb dX10_reads_76 rfl rfl ?_
  refine ldA 45 rfl (j := L) (show L < 8 by omega) (by decide) C h dX10_reads_77 ?_
  refine tI (y := nI (0)) g45 ?_
  refine lv_iconst (v := nI (1)) hx hb dX10_reads_78 (by decide) ?_
  refine lv_iadd hx hb dX10_reads_79 ?_
  refine tI (y := nI (1)) (by decide) ?_
  refine stA 45 rfl (j := L) (x := nI (1)) (show L < 8 by omega) (by decide) C h dX10_reads_80 (fun H locs h => ?_)
  refine lv_aload_n hx hb dX10_reads_81 rfl (lv_at hl 4 rfl) ?_
  refine rg_X10_7 C h dX10_reads_82 ?_
  refine lv_iload hx hb dX10_reads_85 (lv_at hl 3 rfl) ?_
  refine ldA 28 rfl (j := w) (show w < 40 by omega) (by decide) C h dX10_reads_87 ?_
  refine tI (y := nI (1)) ((hRW w hw).1.trans (by rw [hk0])) ?_
  refine zN_ne (tgt := 107) (a := 1) C (by decide) dX10_reads_88 (by decide) (fun _ => ?_) (fun q => absurd q (by decide))
  refine lv_aload_n hx hb dX10_reads_107 rfl (lv_at hl 4 rfl) ?_
  refine rg_X10_7 C h dX10_reads_108 ?_
  refine lv_iload hx hb dX10_reads_111 (lv_at hl 3 rfl) ?_
  refine ldA 28 rfl (j := w) (show w < 40 by omega) (by decide) C h dX10_reads_113 ?_
  refine tI (y := nI (1)) ((hRW w hw).1.trans (by rw [hk0])) ?_
  refine lv_iconst (v := nI (1)) hx hb dX10_reads_114 (by decide) ?_
  refine jN_ne (tgt := 217) (a := 1) (b := 1) C (by omega) (by omega) dX10_reads_115 (by decide) (fun c_115 => ?_) (fun c_115 => ?_)
  · skip
    exact absurd c_115 (by decide)
  · skip
    refine lv_aload_n hx hb dX10_reads_118 rfl (lv_at hl 4 rfl) ?_
    refine rg_X10_13 C h dX10_reads_119 ?_
    refine lv_iload hx hb dX10_reads_122 (lv_at hl 3 rfl) ?_
    refine ldA 29 rfl (j := w) (show w < 40 by omega) (by decide) C h dX10_reads_124 ?_
    refine tI (y := nI (wt w 1)) (hRW w hw).2.1 ?_
    refine lv_iload hx hb dX10_reads_125 (lv_at hl 2 rfl) ?_
    refine jN_ge (tgt := 140) (a := wt w 1) (b := cnt) C (by omega) (by omega) dX10_reads_127 (by decide) (fun c_127 => ?_) (fun c_127 => ?_)
    · skip
      refine lv_iload hx hb dX10_reads_140 (lv_at hl 2 rfl) ?_
      refine lv_istore (lv' := [(8, .int (nI (cnt))), (7, .int (nI (0))), (6, .int (nI (to))), (5, .int (nI (cnt))), (4, .int (nI (w))), (0, .ref (zad z 27)), (3, .int (nI (L)))]) hx hb dX10_reads_142 hl (by decide) rfl (fun ls hl => ?_)
      have e8 : kk = cnt := by omega
      have hl : lv_has ls 9 [(8, .int (nI (kk))), (7, .int (nI (0))), (6, .int (nI (to))), (5, .int (nI (cnt))), (4, .int (nI (w))), (0, .ref (zad z 27)), (3, .int (nI (L)))] := by rw [e8]; exact hl
      refine lv_iload hx hb dX10_reads_144 (lv_at hl 1 rfl) ?_
      refine zN_ne (tgt := 170) (a := 0) C (by decide) dX10_reads_146 (by decide) (fun q => absurd q (by decide)) (fun _ => ?_)
      refine lv_aload_n hx hb dX10_reads_149 rfl (lv_at hl 5 rfl) ?_
      refine lv_iload_n hx hb dX10_reads_150 rfl (lv_at hl 6 rfl) ?_
      refine lv_iconst (v := nI (1)) hx hb dX10_reads_151 (by decide) ?_
      refine lv_iadd hx hb dX10_reads_152 ?_
      refine tI (nI_add _ _) ?_
      refine lv_aload_n hx hb dX10_reads_153 rfl (lv_at hl 5 rfl) ?_
      refine rg_X10_16 C h dX10_reads_154 ?_
      refine lv_iload hx hb dX10_reads_157 (lv_at hl 4 rfl) ?_
      refine ldA 30 rfl (j := w) (show w < 40 by omega) (by decide) C h dX10_reads_159 ?_
      refine tI (y := nI (wt w 2)) (hRW w hw).2.2.1 ?_
      refine lv_iload hx hb dX10_reads_160 (lv_at hl 0 rfl) ?_
      refine lv_iload hx hb dX10_reads_162 (lv_at hl 2 rfl) ?_
      refine backV h (runV (As := [.int (nI ((L) + (1))), .int (nI (wt w 2)), .int (nI (kk)), .int (nI (to))]) (rest := []) C h (r_into l z v sc (va_up ar 45 (upd (ar 45) (L) (nI (1)))) (L + 1) (wt w 2) (kk) (to) (by omega)) gv_X10_189 gv_X10_189_n ⟨rfl, rfl⟩ (r_Ref C h) rfl hl.1 rfl (Nat.le_of_ble_eq_true rfl) dX10_reads_164 ⟨Nat.le_of_ble_eq_true rfl, Nat.le_of_ble_eq_true rfl⟩ ⟨Nat.le_of_ble_eq_true rfl, Nat.le_of_ble_eq_true rfl⟩) (fun v_164 sc_164 ar_164 H locs p_164 h => ?_)
      have h : hH z v sc (inA (va_up ar 45 (upd (ar 45) (L) (nI (1)))) (L + 1) (wt w 2) (kk) (to)) s H locs := uEq p_164 h
      refine lv_goto (tgt := 200) hx hb dX10_reads_167 (by decide) ?_
      refine lv_iload_n hx hb dX10_reads_200 rfl (lv_at hl 6 rfl) ?_
      refine lv_iload hx hb dX10_reads_201 (lv_at hl 1 rfl) ?_
      refine lv_iconst (v := nI (2)) hx hb dX10_reads_203 (by decide) ?_
      refine jN_ne (tgt := 211) (a := 0) (b := 2) C (by omega) (by omega) dX10_reads_204 (by decide) (fun c_204 => ?_) (fun c_204 => ?_)
      · skip
        refine lv_iconst (v := nI (1)) hx hb dX10_reads_211 (by decide) ?_
        refine lv_iadd hx hb dX10_reads_212 ?_
        refine tI (nI_add _ _) ?_
        refine lv_istore_n (lv' := [(3, .int (nI ((L) + (1)))), (8, .int (nI (kk))), (7, .int (nI (0))), (6, .int (nI (to))), (5, .int (nI (cnt))), (4, .int (nI (w))), (0, .ref (zad z 27))]) hx hb dX10_reads_213 rfl hl (by decide) rfl (fun ls hl => ?_)
        refine lv_goto (tgt := 238) hx hb dX10_reads_214 (by decide) ?_
        refine lv_goto (tgt := 28) hx hb dX10_reads_238 (by decide) ?_
        exact k1 sc (inA (va_up ar 45 (upd (ar 45) (L) (nI (1)))) (L + 1) (wt w 2) (kk) (to)) H locs ls ⟨rF_in (fun _ _ _ => rfl) (fun k a b => (va_up_ne _ _ (by omega))) (fun k q a b => (vG (by omega) rfl k)), inA_at, (inA_o (by decide) (by decide) (by decide) (by decide)).trans rfl, rfl, g29⟩ (by rw [inA_lo (by omega), va_up_self, pk_us]) (fun k a45 => (inA_lo (by omega) k).trans (by rw [va_up_ne _ _ a45])) h (lv_sub hl [6, 0] rfl)
      · skip
        exact absurd c_204 (by decide)
    · skip
      refine lv_aload_n hx hb dX10_reads_130 rfl (lv_at hl 4 rfl) ?_
      refine rg_X10_13 C h dX10_reads_131 ?_
      refine lv_iload hx hb dX10_reads_134 (lv_at hl 3 rfl) ?_
      refine ldA 29 rfl (j := w) (show w < 40 by omega) (by decide) C h dX10_reads_136 ?_
      refine tI (y := nI (wt w 1)) (hRW w hw).2.1 ?_
      refine lv_goto (tgt := 142) hx hb dX10_reads_137 (by decide) ?_
      refine lv_istore (lv' := [(8, .int (nI (wt w 1))), (7, .int (nI (0))), (6, .int (nI (to))), (5, .int (nI (cnt))), (4, .int (nI (w))), (0, .ref (zad z 27)), (3, .int (nI (L)))]) hx hb dX10_reads_142 hl (by decide) rfl (fun ls hl => ?_)
      have e8 : kk = wt w 1 := by omega
      have hl : lv_has ls 9 [(8, .int (nI (kk))), (7, .int (nI (0))), (6, .int (nI (to))), (5, .int (nI (cnt))), (4, .int (nI (w))), (0, .ref (zad z 27)), (3, .int (nI (L)))] := by rw [e8]; exact hl
      refine lv_iload hx hb dX10_reads_144 (lv_at hl 1 rfl) ?_
      refine zN_ne (tgt := 170) (a := 0) C (by decide) dX10_reads_146 (by decide) (fun q => absurd q (by decide)) (fun _ => ?_)
      refine lv_aload_n hx hb dX10_reads_149 rfl (lv_at hl 5 rfl) ?_
      refine lv_iload_n hx hb dX10_reads_150 rfl (lv_at hl 6 rfl) ?_
      refine lv_iconst (v := nI (1)) hx hb dX10_reads_151 (by decide) ?_
      refine lv_iadd hx hb dX10_reads_152 ?_
      refine tI (nI_add _ _) ?_
      refine lv_aload_n hx hb dX10_reads_153 rfl (lv_at hl 5 rfl) ?_
      refine rg_X10_16 C h dX10_reads_154 ?_
      refine lv_iload hx hb dX10_reads_157 (lv_at hl 4 rfl) ?_
      refine ldA 30 rfl (j := w) (show w < 40 by omega) (by decide) C h dX10_reads_159 ?_
      refine tI (y := nI (wt w 2)) (hRW w hw).2.2.1 ?_
      refine lv_iload hx hb dX10_reads_160 (lv_at hl 0 rfl) ?_
      refine lv_iload hx hb dX10_reads_162 (lv_at hl 2 rfl) ?_
      refine backV h (runV (As := [.int (nI ((L) + (1))), .int (nI (wt w 2)), .int (nI (kk)), .int (nI (to))]) (rest := []) C h (r_into l z v sc (va_up ar 45 (upd (ar 45) (L) (nI (1)))) (L + 1) (wt w 2) (kk) (to) (by omega)) gv_X10_189 gv_X10_189_n ⟨rfl, rfl⟩ (r_Ref C h) rfl hl.1 rfl (Nat.le_of_ble_eq_true rfl) dX10_reads_164 ⟨Nat.le_of_ble_eq_true rfl, Nat.le_of_ble_eq_true rfl⟩ ⟨Nat.le_of_ble_eq_true rfl, Nat.le_of_ble_eq_true rfl⟩) (fun v_164 sc_164 ar_164 H locs p_164 h => ?_)
      have h : hH z v sc (inA (va_up ar 45 (upd (ar 45) (L) (nI (1)))) (L + 1) (wt w 2) (kk) (to)) s H locs := uEq p_164 h
      refine lv_goto (tgt := 200) hx hb dX10_reads_167 (by decide) ?_
      refine lv_iload_n hx hb dX10_reads_200 rfl (lv_at hl 6 rfl) ?_
      refine lv_iload hx hb dX10_reads_201 (lv_at hl 1 rfl) ?_
      refine lv_iconst (v := nI (2)) hx hb dX10_reads_203 (by decide) ?_
      refine jN_ne (tgt := 211) (a := 0) (b := 2) C (by omega) (by omega) dX10_reads_204 (by decide) (fun c_204 => ?_) (fun c_204 => ?_)
      · skip
        refine lv_iconst (v := nI (1)) hx hb dX10_reads_211 (by decide) ?_
        refine lv_iadd hx hb dX10_reads_212 ?_
        refine tI (nI_add _ _) ?_
        refine lv_istore_n (lv' := [(3, .int (nI ((L) + (1)))), (8, .int (nI (kk))), (7, .int (nI (0))), (6, .int (nI (to))), (5, .int (nI (cnt))), (4, .int (nI (w))), (0, .ref (zad z 27))]) hx hb dX10_reads_213 rfl hl (by decide) rfl (fun ls hl => ?_)
        refine lv_goto (tgt := 238) hx hb dX10_reads_214 (by decide) ?_
        refine lv_goto (tgt := 28) hx hb dX10_reads_238 (by decide) ?_
        exact k1 sc (inA (va_up ar 45 (upd (ar 45) (L) (nI (1)))) (L + 1) (wt w 2) (kk) (to)) H locs ls ⟨rF_in (fun _ _ _ => rfl) (fun k a b => (va_up_ne _ _ (by omega))) (fun k q a b => (vG (by omega) rfl k)), inA_at, (inA_o (by decide) (by decide) (by decide) (by decide)).trans rfl, rfl, g29⟩ (by rw [inA_lo (by omega), va_up_self, pk_us]) (fun k a45 => (inA_lo (by omega) k).trans (by rw [va_up_ne _ _ a45])) h (lv_sub hl [6, 0] rfl)
      · skip
        exact absurd c_204 (by decide)
set_option maxHeartbeats 4000000 in
set_option maxRecDepth 100000 in
theorem rs_run1 {p : Program} {l : Launch} {e : Env} {s : State} {m : MethodId} {args : Array Value} {below : List Frame} {meth : Method} {c : Code} {Q : State → Prop} {z : bZ} {v : bV} {wt : Nat → Nat → Nat} {dp : Nat → Nat} {K L w cnt to us p0 : Nat} {sc : Nat → Int32} {ar : Nat → Nat → Int32} {H : Heap} {locs : List Loc} {ls : Array Slot} {kk : Nat} (C : cX z p m c cX10_reads 9 s args RX10) (hK4 : K ≤ 40) (hRW : RW wt dp K ar) (hw : w < K) (hL : L < 5) (g42 : ar 42 L = nI w) (g43 : ar 43 L = nI cnt) (g44 : ar 44 L = nI to) (hc4 : cnt ≤ 400) (g33 : sc 33 = nI 0) (hk0 : wt w 0 = 1) (h14 : wt w 1 ≤ 400) (hkk : kk = min (wt w 1) cnt) (g45 : ar 45 L = nI 1) (g29 : sc 29 = nI us) (h : hH z v sc ar s H locs) (hl : lv_has ls 9 [(0, .ref (zad z 27)), (3, .int (nI L))]) (k1 : ∀ (scA : Nat → Int32) (arA : Nat → Nat → Int32) (H : Heap) (locs : List Loc) (ls : Array Slot), rN L (wt w 3) (cnt - kk) (to + kk) (us) sc ar scA arA → (arA 45 L = nI 2) → (∀ k, k ≠ 45 → arA k L = ar k L) → hH z v scA arA s H locs → lv_has ls 9 [(0, .ref (zad z 27)), (3, .int (nI (L + 1)))] → W p l e rmR s m args below meth c H locs 0 0 Q (F0 m 28 ls [])) : W p l e rmR s m args below meth c H locs 0 0 Q (F0 m 28 ls []) := by
  have hx := C.1.1
  have hb := C.1.2.1
  refine lv_iload_n hx hb dX10_reads_28 rfl (lv_at hl 1 rfl) ?_
  refine zN_lt (tgt := 241) (a := L) C (by omega) dX10_reads_29 (by decide) ?_
  refine lv_aload_n hx hb dX10_reads_32 rfl (lv_at hl 0 rfl) ?_
  refine rg_X10_171 C h dX10_reads_33 ?_
  refine tI (y := nI (0)) g33 ?_
  refine zN_ne (tgt := 241) (a := 0) C (by decide) dX10_reads_36 (by decide) (fun q => absurd q (by decide)) (fun _ => ?_)
  refine lv_aload_n hx hb dX10_reads_39 rfl (lv_at hl 0 rfl) ?_
  refine rg_X10_66 C h dX10_reads_40 ?_
  refine lv_iload_n hx hb dX10_reads_43 rfl (lv_at hl 1 rfl) ?_
  refine ldA 42 rfl (j := L) (show L < 8 by omega) (by decide) C h dX10_reads_44 ?_
  refine tI (y := nI (w)) g42 ?_
  refine lv_istore (lv' := [(4, .int (nI (w))), (0, .ref (zad z 27)), (3, .int (nI (L)))]) hx hb dX10_reads_45 hl (by decide) rfl (fun ls hl => ?_)
  refine lv_aload_n hx hb dX10_reads_47 rfl (lv_at hl 1 rfl) ?_
  refine rg_X10_69 C h dX10_reads_48 ?_
  refine lv_iload_n hx hb dX10_reads_51 rfl (lv_at hl 2 rfl) ?_
  refine ldA 43 rfl (j := L) (show L < 8 by omega) (by decide) C h dX10_reads_52 ?_
  refine tI (y := nI (cnt)) g43 ?_
  refine lv_istore (lv' := [(5, .int (nI (cnt))), (4, .int (nI (w))), (0, .ref (zad z 27)), (3, .int (nI (L)))]) hx hb dX10_reads_53 hl (by decide) rfl (fun ls hl => ?_)
  refine lv_aload_n hx hb dX10_reads_55 rfl (lv_at hl 2 rfl) ?_
  refine rg_X10_72 C h dX10_reads_56 ?_
  refine lv_iload_n hx hb dX10_reads_59 rfl (lv_at hl 3 rfl) ?_
  refine ldA 44 rfl (j := L) (show L < 8 by omega) (by decide) C h dX10_reads_60 ?_
  refine tI (y := nI (to)) g44 ?_
  refine lv_istore (lv' := [(6, .int (nI (to))), (5, .int (nI (cnt))), (4, .int (nI (w))), (0, .ref (zad z 27)), (3, .int (nI (L)))]) hx hb dX10_reads_61 hl (by decide) rfl (fun ls hl => ?_)
  refine lv_aload_n hx hb dX10_reads_63 rfl (lv_at hl 3 rfl) ?_
  refine rg_X10_75 C h dX10_reads_64 ?_
  refine lv_iload_n hx hb dX10_reads_67 rfl (lv_at hl 4 rfl) ?_
  refine ldA 45 rfl (j := L) (show L < 8 by omega) (by decide) C h dX10_reads_68 ?_
  refine tI (y := nI (1)) g45 ?_
  refine lv_istore (lv' := [(7, .int (nI (1))), (6, .int (nI (to))), (5, .int (nI (cnt))), (4, .int (nI (w))), (0, .ref (zad z 27)), (3, .int (nI (L)))]) hx hb dX10_reads_69 hl (by decide) rfl (fun ls hl => ?_)
  refine lv_aload_n hx hb dX10_reads_71 rfl (lv_at hl 4 rfl) ?_
  refine rg_X10_75 C h dX10_reads_72 ?_
  refine lv_iload_n hx hb dX10_reads_75 rfl (lv_at hl 5 rfl) ?_
  refine lv_dup2_11 hx hb dX10_reads_76 rfl rfl ?_
  refine ldA 45 rfl (j := L) (show L < 8 by omega) (by decide) C h dX10_reads_77 ?_
  refine tI (y := nI (1)) g45 ?_
  refine lv_iconst (v := nI (1)) hx hb dX10_reads_78 (by decide) ?_
  refine lv_iadd hx hb dX10_reads_79 ?_
  refine tI (y := nI (2)) (by decide) ?_
  refine stA 45 rfl (j := L) (x := nI (2)) (show L < 8 by omega) (by decide) C h dX10_reads_80 (fun H locs h => ?_)
  refine lv_aload_n hx hb dX10_reads_81 rfl (lv_at hl 4 rfl) ?_
  refine rg_X10_7 C h dX10_reads_82 ?_
  refine lv_iload hx hb dX10_reads_85 (lv_at hl 3 rfl) ?_
  refine ldA 28 rfl (j := w) (show w < 40 by omega) (by decide) C h dX10_reads_87 ?_
  refine tI (y := nI (1)) ((hRW w hw).1.trans (by rw [hk0])) ?_
  refine zN_ne (tgt := 107) (a := 1) C (by decide) dX10_reads_88 (by decide) (fun _ => ?_) (fun q => absurd q (by decide))
  refine lv_aload_n hx hb dX10_reads_107 rfl (lv_at hl 4 rfl) ?_
  refine rg_X10_7 C h dX10_reads_108 ?_
  refine lv_iload hx hb dX10_reads_111 (lv_at hl 3 rfl) ?_
  refine ldA 28 rfl (j := w) (show w < 40 by omega) (by decide) C h dX10_reads_113 ?_
  refine tI (y := nI (1)) ((hRW w hw).1.trans (by rw [hk0])) ?_
  refine lv_iconst (v := nI (1)) hx hb dX10_reads_114 (by decide) ?_
  refine jN_ne (tgt := 217) (a := 1) (b := 1) C (by omega) (by omega) dX10_reads_115 (by decide) (fun c_115 => ?_) (fun c_115 => ?_)
  · skip
    exact absurd c_115 (by decide)
  · skip
    refine lv_aload_n hx hb dX10_reads_118 rfl (lv_at hl 4 rfl) ?_
    refine rg_X10_13 C h dX10_reads_119 ?_
    refine lv_iload hx hb dX10_reads_122 (lv_at hl 3 rfl) ?_
    refine ldA 29 rfl (j := w) (show w < 40 by omega) (by decide) C h dX10_reads_124 ?_
    refine tI (y := nI (wt w 1)) (hRW w hw).2.1 ?_
    refine lv_iload hx hb dX10_reads_125 (lv_at hl 2 rfl) ?_
    refine jN_ge (tgt := 140) (a := wt w 1) (b := cnt) C (by omega) (by omega) dX10_reads_127 (by decide) (fun c_127 => ?_) (fun c_127 => ?_)
    · skip
      refine lv_iload hx hb dX10_reads_140 (lv_at hl 2 rfl) ?_
      refine lv_istore (lv' := [(8, .int (nI (cnt))), (7, .int (nI (1))), (6, .int (nI (to))), (5, .int (nI (cnt))), (4, .int (nI (w))), (0, .ref (zad z 27)), (3, .int (nI (L)))]) hx hb dX10_reads_142 hl (by decide) rfl (fun ls hl => ?_)
      have e8 : kk = cnt := by omega
      have hl : lv_has ls 9 [(8, .int (nI (kk))), (7, .int (nI (1))), (6, .int (nI (to))), (5, .int (nI (cnt))), (4, .int (nI (w))), (0, .ref (zad z 27)), (3, .int (nI (L)))] := by rw [e8]; exact hl
      refine lv_iload hx hb dX10_reads_144 (lv_at hl 1 rfl) ?_
      refine zN_ne (tgt := 170) (a := 1) C (by decide) dX10_reads_146 (by decide) (fun _ => ?_) (fun q => absurd q (by decide))
      refine lv_iload hx hb dX10_reads_170 (lv_at hl 1 rfl) ?_
      refine lv_iconst (v := nI (1)) hx hb dX10_reads_172 (by decide) ?_
      refine jN_ne (tgt := 200) (a := 1) (b := 1) C (by omega) (by omega) dX10_reads_173 (by decide) (fun c_173 => ?_) (fun c_173 => ?_)
      · skip
        exact absurd c_173 (by decide)
      · skip
        refine lv_aload_n hx hb dX10_reads_176 rfl (lv_at hl 5 rfl) ?_
        refine lv_iload_n hx hb dX10_reads_177 rfl (lv_at hl 6 rfl) ?_
        refine lv_iconst (v := nI (1)) hx hb dX10_reads_178 (by decide) ?_
        refine lv_iadd hx hb dX10_reads_179 ?_
        refine tI (nI_add _ _) ?_
        refine lv_aload_n hx hb dX10_reads_180 rfl (lv_at hl 5 rfl) ?_
        refine rg_X10_19 C h dX10_reads_181 ?_
        refine lv_iload hx hb dX10_reads_184 (lv_at hl 4 rfl) ?_
        refine ldA 31 rfl (j := w) (show w < 40 by omega) (by decide) C h dX10_reads_186 ?_
        refine tI (y := nI (wt w 3)) (hRW w hw).2.2.2.1 ?_
        refine lv_iload hx hb dX10_reads_187 (lv_at hl 3 rfl) ?_
        refine lv_iload hx hb dX10_reads_189 (lv_at hl 0 rfl) ?_
        refine lv_isub hx hb dX10_reads_191 ?_
        refine tI (y := nI (cnt - kk)) (pk_sub (by omega)) ?_
        refine lv_iload hx hb dX10_reads_192 (lv_at hl 2 rfl) ?_
        refine lv_iload hx hb dX10_reads_194 (lv_at hl 0 rfl) ?_
        refine lv_iadd hx hb dX10_reads_196 ?_
        refine tI (y := nI (to + kk)) (nI_add _ _) ?_
        refine backV h (runV (As := [.int (nI ((L) + (1))), .int (nI (wt w 3)), .int (nI (cnt - kk)), .int (nI (to + kk))]) (rest := []) C h (r_into l z v sc (va_up ar 45 (upd (ar 45) (L) (nI (2)))) (L + 1) (wt w 3) (cnt - kk) (to + kk) (by omega)) gv_X10_189 gv_X10_189_n ⟨rfl, rfl⟩ (r_Ref C h) rfl hl.1 rfl (Nat.le_of_ble_eq_true rfl) dX10_reads_197 ⟨Nat.le_of_ble_eq_true rfl, Nat.le_of_ble_eq_true rfl⟩ ⟨Nat.le_of_ble_eq_true rfl, Nat.le_of_ble_eq_true rfl⟩) (fun v_197 sc_197 ar_197 H locs p_197 h => ?_)
        have h : hH z v sc (inA (va_up ar 45 (upd (ar 45) (L) (nI (2)))) (L + 1) (wt w 3) (cnt - kk) (to + kk)) s H locs := uEq p_197 h
        refine lv_iload_n hx hb dX10_reads_200 rfl (lv_at hl 6 rfl) ?_
        refine lv_iload hx hb dX10_reads_201 (lv_at hl 1 rfl) ?_
        refine lv_iconst (v := nI (2)) hx hb dX10_reads_203 (by decide) ?_
        refine jN_ne (tgt := 211) (a := 1) (b := 2) C (by omega) (by omega) dX10_reads_204 (by decide) (fun c_204 => ?_) (fun c_204 => ?_)
        · skip
          refine lv_iconst (v := nI (1)) hx hb dX10_reads_211 (by decide) ?_
          refine lv_iadd hx hb dX10_reads_212 ?_
          refine tI (nI_add _ _) ?_
          refine lv_istore_n (lv' := [(3, .int (nI ((L) + (1)))), (8, .int (nI (kk))), (7, .int (nI (1))), (6, .int (nI (to))), (5, .int (nI (cnt))), (4, .int (nI (w))), (0, .ref (zad z 27))]) hx hb dX10_reads_213 rfl hl (by decide) rfl (fun ls hl => ?_)
          refine lv_goto (tgt := 238) hx hb dX10_reads_214 (by decide) ?_
          refine lv_goto (tgt := 28) hx hb dX10_reads_238 (by decide) ?_
          exact k1 sc (inA (va_up ar 45 (upd (ar 45) (L) (nI (2)))) (L + 1) (wt w 3) (cnt - kk) (to + kk)) H locs ls ⟨rF_in (fun _ _ _ => rfl) (fun k a b => (va_up_ne _ _ (by omega))) (fun k q a b => (vG (by omega) rfl k)), inA_at, (inA_o (by decide) (by decide) (by decide) (by decide)).trans rfl, rfl, g29⟩ (by rw [inA_lo (by omega), va_up_self, pk_us]) (fun k a45 => (inA_lo (by omega) k).trans (by rw [va_up_ne _ _ a45])) h (lv_sub hl [6, 0] rfl)
        · skip
          exact absurd c_204 (by decide)
    · skip
      refine lv_aload_n hx hb dX10_reads_130 rfl (lv_at hl 4 rfl) ?_
      refine rg_X10_13 C h dX10_reads_131 ?_
      refine lv_iload hx hb dX10_reads_134 (lv_at hl 3 rfl) ?_
      refine ldA 29 rfl (j := w) (show w < 40 by omega) (by decide) C h dX10_reads_136 ?_
      refine tI (y := nI (wt w 1)) (hRW w hw).2.1 ?_
      refine lv_goto (tgt := 142) hx hb dX10_reads_137 (by decide) ?_
      refine lv_istore (lv' := [(8, .int (nI (wt w 1))), (7, .int (nI (1))), (6, .int (nI (to))), (5, .int (nI (cnt))), (4, .int (nI (w))), (0, .ref (zad z 27)), (3, .int (nI (L)))]) hx hb dX10_reads_142 hl (by decide) rfl (fun ls hl => ?_)
      have e8 : kk = wt w 1 := by omega
      have hl : lv_has ls 9 [(8, .int (nI (kk))), (7, .int (nI (1))), (6, .int (nI (to))), (5, .int (nI (cnt))), (4, .int (nI (w))), (0, .ref (zad z 27)), (3, .int (nI (L)))] := by rw [e8]; exact hl
      refine lv_iload hx hb dX10_reads_144 (lv_at hl 1 rfl) ?_
      refine zN_ne (tgt := 170) (a := 1) C (by decide) dX10_reads_146 (by decide) (fun _ => ?_) (fun q => absurd q (by decide))
      refine lv_iload hx hb dX10_reads_170 (lv_at hl 1 rfl) ?_
      refine lv_iconst (v := nI (1)) hx hb dX10_reads_172 (by decide) ?_
      refine jN_ne (tgt := 200) (a := 1) (b := 1) C (by omega) (by omega) dX10_reads_173 (by decide) (fun c_173 => ?_) (fun c_173 => ?_)
      · skip
        exact absurd c_173 (by decide)
      · skip
        refine lv_aload_n hx hb dX10_reads_176 rfl (lv_at hl 5 rfl) ?_
        refine lv_iload_n hx hb dX10_reads_177 rfl (lv_at hl 6 rfl) ?_
        refine lv_iconst (v := nI (1)) hx hb dX10_reads_178 (by decide) ?_
        refine lv_iadd hx hb dX10_reads_179 ?_
        refine tI (nI_add _ _) ?_
        refine lv_aload_n hx hb dX10_reads_180 rfl (lv_at hl 5 rfl) ?_
        refine rg_X10_19 C h dX10_reads_181 ?_
        refine lv_iload hx hb dX10_reads_184 (lv_at hl 4 rfl) ?_
        refine ldA 31 rfl (j := w) (show w < 40 by omega) (by decide) C h dX10_reads_186 ?_
        refine tI (y := nI (wt w 3)) (hRW w hw).2.2.2.1 ?_
        refine lv_iload hx hb dX10_reads_187 (lv_at hl 3 rfl) ?_
        refine lv_iload hx hb dX10_reads_189 (lv_at hl 0 rfl) ?_
        refine lv_isub hx hb dX10_reads_191 ?_
        refine tI (y := nI (cnt - kk)) (pk_sub (by omega)) ?_
        refine lv_iload hx hb dX10_reads_192 (lv_at hl 2 rfl) ?_
        refine lv_iload hx hb dX10_reads_194 (lv_at hl 0 rfl) ?_
        refine lv_iadd hx hb dX10_reads_196 ?_
        refine tI (y := nI (to + kk)) (nI_add _ _) ?_
        refine backV h (runV (As := [.int (nI ((L) + (1))), .int (nI (wt w 3)), .int (nI (cnt - kk)), .int (nI (to + kk))]) (rest := []) C h (r_into l z v sc (va_up ar 45 (upd (ar 45) (L) (nI (2)))) (L + 1) (wt w 3) (cnt - kk) (to + kk) (by omega)) gv_X10_189 gv_X10_189_n ⟨rfl, rfl⟩ (r_Ref C h) rfl hl.1 rfl (Nat.le_of_ble_eq_true rfl) dX10_reads_197 ⟨Nat.le_of_ble_eq_true rfl, Nat.le_of_ble_eq_true rfl⟩ ⟨Nat.le_of_ble_eq_true rfl, Nat.le_of_ble_eq_true rfl⟩) (fun v_197 sc_197 ar_197 H locs p_197 h => ?_)
        have h : hH z v sc (inA (va_up ar 45 (upd (ar 45) (L) (nI (2)))) (L + 1) (wt w 3) (cnt - kk) (to + kk)) s H locs := uEq p_197 h
        refine lv_iload_n hx hb dX10_reads_200 rfl (lv_at hl 6 rfl) ?_
        refine lv_iload hx hb dX10_reads_201 (lv_at hl 1 rfl) ?_
        refine lv_iconst (v := nI (2)) hx hb dX10_reads_203 (by decide) ?_
        refine jN_ne (tgt := 211) (a := 1) (b := 2) C (by omega) (by omega) dX10_reads_204 (by decide) (fun c_204 => ?_) (fun c_204 => ?_)
        · skip
          refine lv_iconst (v := nI (1)) hx hb dX10_reads_211 (by decide) ?_
          refine lv_iadd hx hb dX10_reads_212 ?_
          refine tI (nI_add _ _) ?_
          refine lv_istore_n (lv' := [(3, .int (nI ((L) + (1)))), (8, .int (nI (kk))), (7, .int (nI (1))), (6, .int (nI (to))), (5, .int (nI (cnt))), (4, .int (nI (w))), (0, .ref (zad z 27))]) hx hb dX10_reads_213 rfl hl (by decide) rfl (fun ls hl => ?_)
          refine lv_goto (tgt := 238) hx hb dX10_reads_214 (by decide) ?_
          refine lv_goto (tgt := 28) hx hb dX10_reads_238 (by decide) ?_
          exact k1 sc (inA (va_up ar 45 (upd (ar 45) (L) (nI (2)))) (L + 1) (wt w 3) (cnt - kk) (to + kk)) H locs ls ⟨rF_in (fun _ _ _ => rfl) (fun k a b => (va_up_ne _ _ (by omega))) (fun k q a b => (vG (by omega) rfl k)), inA_at, (inA_o (by decide) (by decide) (by decide) (by decide)).trans rfl, rfl, g29⟩ (by rw [inA_lo (by omega), va_up_self, pk_us]) (fun k a45 => (inA_lo (by omega) k).trans (by rw [va_up_ne _ _ a45])) h (lv_sub hl [6, 0] rfl)
        · skip
          exact absurd c_204 (by decide)
set_option maxHeartbeats 4000000 in
set_option maxRecDepth 100000 in
theorem rs_run2 {p : Program} {l : Launch} {e : Env} {s : State} {m : MethodId} {args : Array Value} {below : List Frame} {meth : Method} {c : Code} {Q : State → Prop} {z : bZ} {v : bV} {wt : Nat → Nat → Nat} {dp : Nat → Nat} {K L w cnt to us p0 : Nat} {sc : Nat → Int32} {ar : Nat → Nat → Int32} {H : Heap} {locs : List Loc} {ls : Array Slot} {kk : Nat} (C : cX z p m c cX10_reads 9 s args RX10) (hK4 : K ≤ 40) (hRW : RW wt dp K ar) (hw : w < K) (hL : L < 5) (g42 : ar 42 L = nI w) (g43 : ar 43 L = nI cnt) (g44 : ar 44 L = nI to) (hc4 : cnt ≤ 400) (g33 : sc 33 = nI 0) (hk0 : wt w 0 = 1) (h14 : wt w 1 ≤ 400) (hkk : kk = min (wt w 1) cnt) (g45 : ar 45 L = nI 2) (h : hH z v sc ar s H locs) (hl : lv_has ls 9 [(0, .ref (zad z 27)), (3, .int (nI L))]) (k1 : ∀ (H : Heap) (locs : List Loc) (ls : Array Slot), hH z v sc (va_up ar 45 (upd (ar 45) (L) (nI (3)))) s H locs → lv_has ls 9 [(0, .ref (zad z 27)), (3, .int (nI L + (-1)))] → W p l e rmR s m args below meth c H locs 0 0 Q (F0 m 28 ls [])) : W p l e rmR s m args below meth c H locs 0 0 Q (F0 m 28 ls []) := by
  have hx := C.1.1
  have hb := C.1.2.1
  refine lv_iload_n hx hb dX10_reads_28 rfl (lv_at hl 1 rfl) ?_
  refine zN_lt (tgt := 241) (a := L) C (by omega) dX10_reads_29 (by decide) ?_
  refine lv_aload_n hx hb dX10_reads_32 rfl (lv_at hl 0 rfl) ?_
  refine rg_X10_171 C h dX10_reads_33 ?_
  refine tI (y := nI (0)) g33 ?_
  refine zN_ne (tgt := 241) (a := 0) C (by decide) dX10_reads_36 (by decide) (fun q => absurd q (by decide)) (fun _ => ?_)
  refine lv_aload_n hx hb dX10_reads_39 rfl (lv_at hl 0 rfl) ?_
  refine rg_X10_66 C h dX10_reads_40 ?_
  refine lv_iload_n hx hb dX10_reads_43 rfl (lv_at hl 1 rfl) ?_
  refine ldA 42 rfl (j := L) (show L < 8 by omega) (by decide) C h dX10_reads_44 ?_
  refine tI (y := nI (w)) g42 ?_
  refine lv_istore (lv' := [(4, .int (nI (w))), (0, .ref (zad z 27)), (3, .int (nI (L)))]) hx hb dX10_reads_45 hl (by decide) rfl (fun ls hl => ?_)
  refine lv_aload_n hx hb dX10_reads_47 rfl (lv_at hl 1 rfl) ?_
  refine rg_X10_69 C h dX10_reads_48 ?_
  refine lv_iload_n hx hb dX10_reads_51 rfl (lv_at hl 2 rfl) ?_
  refine ldA 43 rfl (j := L) (show L < 8 by omega) (by decide) C h dX10_reads_52 ?_
  refine tI (y := nI (cnt)) g43 ?_
  refine lv_istore (lv' := [(5, .int (nI (cnt))), (4, .int (nI (w))), (0, .ref (zad z 27)), (3, .int (nI (L)))]) hx hb dX10_reads_53 hl (by decide) rfl (fun ls hl => ?_)
  refine lv_aload_n hx hb dX10_reads_55 rfl (lv_at hl 2 rfl) ?_
  refine rg_X10_72 C h dX10_reads_56 ?_
  refine lv_iload_n hx hb dX10_reads_59 rfl (lv_at hl 3 rfl) ?_
  refine ldA 44 rfl (j := L) (show L < 8 by omega) (by decide) C h dX10_reads_60 ?_
  refine tI (y := nI (to)) g44 ?_
  refine lv_istore (lv' := [(6, .int (nI (to))), (5, .int (nI (cnt))), (4, .int (nI (w))), (0, .ref (zad z 27)), (3, .int (nI (L)))]) hx hb dX10_reads_61 hl (by decide) rfl (fun ls hl => ?_)
  refine lv_aload_n hx hb dX10_reads_63 rfl (lv_at hl 3 rfl) ?_
  refine rg_X10_75 C h dX10_reads_64 ?_
  refine lv_iload_n hx hb dX10_reads_67 rfl (lv_at hl 4 rfl) ?_
  refine ldA 45 rfl (j := L) (show L < 8 by omega) (by decide) C h dX10_reads_68 ?_
  refine tI (y := nI (2)) g45 ?_
  refine lv_istore (lv' := [(7, .int (nI (2))), (6, .int (nI (to))), (5, .int (nI (cnt))), (4, .int (nI (w))), (0, .ref (zad z 27)), (3, .int (nI (L)))]) hx hb dX10_reads_69 hl (by decide) rfl (fun ls hl => ?_)
  refine lv_aload_n hx hb dX10_reads_71 rfl (lv_at hl 4 rfl) ?_
  refine rg_X10_75 C h dX10_reads_72 ?_
  refine lv_iload_n hx hb dX10_reads_75 rfl (lv_at hl 5 rfl) ?_
  refine lv_dup2_11 hx hb dX10_reads_76 rfl rfl ?_
  refine ldA 45 rfl (j := L) (show L < 8 by omega) (by decide) C h dX10_reads_77 ?_
  refine tI (y := nI (2)) g45 ?_
  refine lv_iconst (v := nI (1)) hx hb dX10_reads_78 (by decide) ?_
  refine lv_iadd hx hb dX10_reads_79 ?_
  refine tI (y := nI (3)) (by decide) ?_
  refine stA 45 rfl (j := L) (x := nI (3)) (show L < 8 by omega) (by decide) C h dX10_reads_80 (fun H locs h => ?_)
  refine lv_aload_n hx hb dX10_reads_81 rfl (lv_at hl 4 rfl) ?_
  refine rg_X10_7 C h dX10_reads_82 ?_
  refine lv_iload hx hb dX10_reads_85 (lv_at hl 3 rfl) ?_
  refine ldA 28 rfl (j := w) (show w < 40 by omega) (by decide) C h dX10_reads_87 ?_
  refine tI (y := nI (1)) ((hRW w hw).1.trans (by rw [hk0])) ?_
  refine zN_ne (tgt := 107) (a := 1) C (by decide) dX10_reads_88 (by decide) (fun _ => ?_) (fun q => absurd q (by decide))
  refine lv_aload_n hx hb dX10_reads_107 rfl (lv_at hl 4 rfl) ?_
  refine rg_X10_7 C h dX10_reads_108 ?_
  refine lv_iload hx hb dX10_reads_111 (lv_at hl 3 rfl) ?_
  refine ldA 28 rfl (j := w) (show w < 40 by omega) (by decide) C h dX10_reads_113 ?_
  refine tI (y := nI (1)) ((hRW w hw).1.trans (by rw [hk0])) ?_
  refine lv_iconst (v := nI (1)) hx hb dX10_reads_114 (by decide) ?_
  refine jN_ne (tgt := 217) (a := 1) (b := 1) C (by omega) (by omega) dX10_reads_115 (by decide) (fun c_115 => ?_) (fun c_115 => ?_)
  · skip
    exact absurd c_115 (by decide)
  · skip
    refine lv_aload_n hx hb dX10_reads_118 rfl (lv_at hl 4 rfl) ?_
    refine rg_X10_13 C h dX10_reads_119 ?_
    refine lv_iload hx hb dX10_reads_122 (lv_at hl 3 rfl) ?_
    refine ldA 29 rfl (j := w) (show w < 40 by omega) (by decide) C h dX10_reads_124 ?_
    refine tI (y := nI (wt w 1)) (hRW w hw).2.1 ?_
    refine lv_iload hx hb dX10_reads_125 (lv_at hl 2 rfl) ?_
    refine jN_ge (tgt := 140) (a := wt w 1) (b := cnt) C (by omega) (by omega) dX10_reads_127 (by decide) (fun c_127 => ?_) (fun c_127 => ?_)
    · skip
      refine lv_iload hx hb dX10_reads_140 (lv_at hl 2 rfl) ?_
      refine lv_istore (lv' := [(8, .int (nI (cnt))), (7, .int (nI (2))), (6, .int (nI (to))), (5, .int (nI (cnt))), (4, .int (nI (w))), (0, .ref (zad z 27)), (3, .int (nI (L)))]) hx hb dX10_reads_142 hl (by decide) rfl (fun ls hl => ?_)
      have e8 : kk = cnt := by omega
      have hl : lv_has ls 9 [(8, .int (nI (kk))), (7, .int (nI (2))), (6, .int (nI (to))), (5, .int (nI (cnt))), (4, .int (nI (w))), (0, .ref (zad z 27)), (3, .int (nI (L)))] := by rw [e8]; exact hl
      refine lv_iload hx hb dX10_reads_144 (lv_at hl 1 rfl) ?_
      refine zN_ne (tgt := 170) (a := 2) C (by decide) dX10_reads_146 (by decide) (fun _ => ?_) (fun q => absurd q (by decide))
      refine lv_iload hx hb dX10_reads_170 (lv_at hl 1 rfl) ?_
      refine lv_iconst (v := nI (1)) hx hb dX10_reads_172 (by decide) ?_
      refine jN_ne (tgt := 200) (a := 2) (b := 1) C (by omega) (by omega) dX10_reads_173 (by decide) (fun c_173 => ?_) (fun c_173 => ?_)
      · skip
        refine lv_iload_n hx hb dX10_reads_200 rfl (lv_at hl 6 rfl) ?_
        refine lv_iload hx hb dX10_reads_201 (lv_at hl 1 rfl) ?_
        refine lv_iconst (v := nI (2)) hx hb dX10_reads_203 (by decide) ?_
        refine jN_ne (tgt := 211) (a := 2) (b := 2) C (by omega) (by omega) dX10_reads_204 (by decide) (fun c_204 => ?_) (fun c_204 => ?_)
        · skip
          exact absurd c_204 (by decide)
        · skip
          refine lv_iconst (v := (-1)) hx hb dX10_reads_207 (by decide) ?_
          refine lv_goto (tgt := 212) hx hb dX10_reads_208 (by decide) ?_
          refine lv_iadd hx hb dX10_reads_212 ?_
          refine lv_istore_n (lv' := [(3, .int (nI (L) + (-1))), (8, .int (nI (kk))), (7, .int (nI (2))), (6, .int (nI (to))), (5, .int (nI (cnt))), (4, .int (nI (w))), (0, .ref (zad z 27))]) hx hb dX10_reads_213 rfl hl (by decide) rfl (fun ls hl => ?_)
          refine lv_goto (tgt := 238) hx hb dX10_reads_214 (by decide) ?_
          refine lv_goto (tgt := 28) hx hb dX10_reads_238 (by decide) ?_
          exact k1 H locs ls h (lv_sub hl [6, 0] rfl)
      · skip
        exact absurd c_173 (by decide)
    · skip
      refine lv_aload_n hx hb dX10_reads_130 rfl (lv_at hl 4 rfl) ?_
      refine rg_X10_13 C h dX10_reads_131 ?_
      refine lv_iload hx hb dX10_reads_134 (lv_at hl 3 rfl) ?_
      refine ldA 29 rfl (j := w) (show w < 40 by omega) (by decide) C h dX10_reads_136 ?_
      refine tI (y := nI (wt w 1)) (hRW w hw).2.1 ?_
      refine lv_goto (tgt := 142) hx hb dX10_reads_137 (by decide) ?_
      refine lv_istore (lv' := [(8, .int (nI (wt w 1))), (7, .int (nI (2))), (6, .int (nI (to))), (5, .int (nI (cnt))), (4, .int (nI (w))), (0, .ref (zad z 27)), (3, .int (nI (L)))]) hx hb dX10_reads_142 hl (by decide) rfl (fun ls hl => ?_)
      have e8 : kk = wt w 1 := by omega
      have hl : lv_has ls 9 [(8, .int (nI (kk))), (7, .int (nI (2))), (6, .int (nI (to))), (5, .int (nI (cnt))), (4, .int (nI (w))), (0, .ref (zad z 27)), (3, .int (nI (L)))] := by rw [e8]; exact hl
      refine lv_iload hx hb dX10_reads_144 (lv_at hl 1 rfl) ?_
      refine zN_ne (tgt := 170) (a := 2) C (by decide) dX10_reads_146 (by decide) (fun _ => ?_) (fun q => absurd q (by decide))
      refine lv_iload hx hb dX10_reads_170 (lv_at hl 1 rfl) ?_
      refine lv_iconst (v := nI (1)) hx hb dX10_reads_172 (by decide) ?_
      refine jN_ne (tgt := 200) (a := 2) (b := 1) C (by omega) (by omega) dX10_reads_173 (by decide) (fun c_173 => ?_) (fun c_173 => ?_)
      · skip
        refine lv_iload_n hx hb dX10_reads_200 rfl (lv_at hl 6 rfl) ?_
        refine lv_iload hx hb dX10_reads_201 (lv_at hl 1 rfl) ?_
        refine lv_iconst (v := nI (2)) hx hb dX10_reads_203 (by decide) ?_
        refine jN_ne (tgt := 211) (a := 2) (b := 2) C (by omega) (by omega) dX10_reads_204 (by decide) (fun c_204 => ?_) (fun c_204 => ?_)
        · skip
          exact absurd c_204 (by decide)
        · skip
          refine lv_iconst (v := (-1)) hx hb dX10_reads_207 (by decide) ?_
          refine lv_goto (tgt := 212) hx hb dX10_reads_208 (by decide) ?_
          refine lv_iadd hx hb dX10_reads_212 ?_
          refine lv_istore_n (lv' := [(3, .int (nI (L) + (-1))), (8, .int (nI (kk))), (7, .int (nI (2))), (6, .int (nI (to))), (5, .int (nI (cnt))), (4, .int (nI (w))), (0, .ref (zad z 27))]) hx hb dX10_reads_213 rfl hl (by decide) rfl (fun ls hl => ?_)
          refine lv_goto (tgt := 238) hx hb dX10_reads_214 (by decide) ?_
          refine lv_goto (tgt := 28) hx hb dX10_reads_238 (by decide) ?_
          exact k1 H locs ls h (lv_sub hl [6, 0] rfl)
      · skip
        exact absurd c_173 (by decide)
set_option maxHeartbeats 4000000 in
set_option maxRecDepth 100000 in
theorem rs_pop0 {p : Program} {l : Launch} {e : Env} {s : State} {m : MethodId} {args : Array Value} {below : List Frame} {meth : Method} {c : Code} {Q : State → Prop} {z : bZ} {v : bV} {wt : Nat → Nat → Nat} {dp : Nat → Nat} {K L w cnt to us p0 : Nat} {sc : Nat → Int32} {ar : Nat → Nat → Int32} {H : Heap} {locs : List Loc} {ls : Array Slot}  (C : cX z p m c cX10_reads 9 s args RX10) (hK4 : K ≤ 40) (hRW : RW wt dp K ar) (hw : w < K) (hL : L < 5) (g42 : ar 42 L = nI w) (g43 : ar 43 L = nI cnt) (g44 : ar 44 L = nI to) (hc4 : cnt ≤ 400) (g33 : sc 33 = nI 0) (hk0 : wt w 0 = 2) (g45 : ar 45 L = nI 0) (g29 : sc 29 = nI us) (g32 : sc 32 = nI p0) (h : hH z v sc ar s H locs) (hl : lv_has ls 9 [(0, .ref (zad z 27)), (3, .int (nI L))]) (k1 : ∀ (scA : Nat → Int32) (arA : Nat → Nat → Int32) (H : Heap) (locs : List Loc) (ls : Array Slot), rN L (wt w 2) (1) (us) (us + 1) sc ar scA arA → (arA 45 L = nI 1 ∧ arA 46 L = nI us ∧ arA 50 L = nI p0) → (∀ k, k ≠ 45 → k ≠ 46 → k ≠ 50 → arA k L = ar k L) → hH z v scA arA s H locs → lv_has ls 9 [(0, .ref (zad z 27)), (3, .int (nI (L + 1)))] → W p l e rmR s m args below meth c H locs 0 0 Q (F0 m 28 ls [])) : W p l e rmR s m args below meth c H locs 0 0 Q (F0 m 28 ls []) := by
  have hx := C.1.1
  have hb := C.1.2.1
  refine lv_iload_n hx hb dX10_reads_28 rfl (lv_at hl 1 rfl) ?_
  refine zN_lt (tgt := 241) (a := L) C (by omega) dX10_reads_29 (by decide) ?_
  refine lv_aload_n hx hb dX10_reads_32 rfl (lv_at hl 0 rfl) ?_
  refine rg_X10_171 C h dX10_reads_33 ?_
  refine tI (y := nI (0)) g33 ?_
  refine zN_ne (tgt := 241) (a := 0) C (by decide) dX10_reads_36 (by decide) (fun q => absurd q (by decide)) (fun _ => ?_)
  refine lv_aload_n hx hb dX10_reads_39 rfl (lv_at hl 0 rfl) ?_
  refine rg_X10_66 C h dX10_reads_40 ?_
  refine lv_iload_n hx hb dX10_reads_43 rfl (lv_at hl 1 rfl) ?_
  refine ldA 42 rfl (j := L) (show L < 8 by omega) (by decide) C h dX10_reads_44 ?_
  refine tI (y := nI (w)) g42 ?_
  refine lv_istore (lv' := [(4, .int (nI (w))), (0, .ref (zad z 27)), (3, .int (nI (L)))]) hx hb dX10_reads_45 hl (by decide) rfl (fun ls hl => ?_)
  refine lv_aload_n hx hb dX10_reads_47 rfl (lv_at hl 1 rfl) ?_
  refine rg_X10_69 C h dX10_reads_48 ?_
  refine lv_iload_n hx hb dX10_reads_51 rfl (lv_at hl 2 rfl) ?_
  refine ldA 43 rfl (j := L) (show L < 8 by omega) (by decide) C h dX10_reads_52 ?_
  refine tI (y := nI (cnt)) g43 ?_
  refine lv_istore (lv' := [(5, .int (nI (cnt))), (4, .int (nI (w))), (0, .ref (zad z 27)), (3, .int (nI (L)))]) hx hb dX10_reads_53 hl (by decide) rfl (fun ls hl => ?_)
  refine lv_aload_n hx hb dX10_reads_55 rfl (lv_at hl 2 rfl) ?_
  refine rg_X10_72 C h dX10_reads_56 ?_
  refine lv_iload_n hx hb dX10_reads_59 rfl (lv_at hl 3 rfl) ?_
  refine ldA 44 rfl (j := L) (show L < 8 by omega) (by decide) C h dX10_reads_60 ?_
  refine tI (y := nI (to)) g44 ?_
  refine lv_istore (lv' := [(6, .int (nI (to))), (5, .int (nI (cnt))), (4, .int (nI (w))), (0, .ref (zad z 27)), (3, .int (nI (L)))]) hx hb dX10_reads_61 hl (by decide) rfl (fun ls hl => ?_)
  refine lv_aload_n hx hb dX10_reads_63 rfl (lv_at hl 3 rfl) ?_
  refine rg_X10_75 C h dX10_reads_64 ?_
  refine lv_iload_n hx hb dX10_reads_67 rfl (lv_at hl 4 rfl) ?_
  refine ldA 45 rfl (j := L) (show L < 8 by omega) (by decide) C h dX10_reads_68 ?_
  refine tI (y := nI (0)) g45 ?_
  refine lv_istore (lv' := [(7, .int (nI (0))), (6, .int (nI (to))), (5, .int (nI (cnt))), (4, .int (nI (w))), (0, .ref (zad z 27)), (3, .int (nI (L)))]) hx hb dX10_reads_69 hl (by decide) rfl (fun ls hl => ?_)
  refine lv_aload_n hx hb dX10_reads_71 rfl (lv_at hl 4 rfl) ?_
  refine rg_X10_75 C h dX10_reads_72 ?_
  refine lv_iload_n hx hb dX10_reads_75 rfl (lv_at hl 5 rfl) ?_
  refine lv_dup2_11 hx hb dX10_reads_76 rfl rfl ?_
  refine ldA 45 rfl (j := L) (show L < 8 by omega) (by decide) C h dX10_reads_77 ?_
  refine tI (y := nI (0)) g45 ?_
  refine lv_iconst (v := nI (1)) hx hb dX10_reads_78 (by decide) ?_
  refine lv_iadd hx hb dX10_reads_79 ?_
  refine tI (y := nI (1)) (by decide) ?_
  refine stA 45 rfl (j := L) (x := nI (1)) (show L < 8 by omega) (by decide) C h dX10_reads_80 (fun H locs h => ?_)
  refine lv_aload_n hx hb dX10_reads_81 rfl (lv_at hl 4 rfl) ?_
  refine rg_X10_7 C h dX10_reads_82 ?_
  refine lv_iload hx hb dX10_reads_85 (lv_at hl 3 rfl) ?_
  refine ldA 28 rfl (j := w) (show w < 40 by omega) (by decide) C h dX10_reads_87 ?_
  refine tI (y := nI (2)) ((hRW w hw).1.trans (by rw [hk0])) ?_
  refine zN_ne (tgt := 107) (a := 2) C (by decide) dX10_reads_88 (by decide) (fun _ => ?_) (fun q => absurd q (by decide))
  refine lv_aload_n hx hb dX10_reads_107 rfl (lv_at hl 4 rfl) ?_
  refine rg_X10_7 C h dX10_reads_108 ?_
  refine lv_iload hx hb dX10_reads_111 (lv_at hl 3 rfl) ?_
  refine ldA 28 rfl (j := w) (show w < 40 by omega) (by decide) C h dX10_reads_113 ?_
  refine tI (y := nI (2)) ((hRW w hw).1.trans (by rw [hk0])) ?_
  refine lv_iconst (v := nI (1)) hx hb dX10_reads_114 (by decide) ?_
  refine jN_ne (tgt := 217) (a := 2) (b := 1) C (by omega) (by omega) dX10_reads_115 (by decide) (fun c_115 => ?_) (fun c_115 => ?_)
  · skip
    refine lv_aload_n hx hb dX10_reads_217 rfl (lv_at hl 4 rfl) ?_
    refine lv_iload_n hx hb dX10_reads_218 rfl (lv_at hl 5 rfl) ?_
    refine lv_iload hx hb dX10_reads_219 (lv_at hl 0 rfl) ?_
    refine backV h (runV (As := [.int (nI (L)), .int (nI (0))]) (rest := []) C h (r_pop0 l z v sc (va_up ar 45 (upd (ar 45) (L) (nI (1)))) K L w cnt us p0 wt dp hK4 (hRW.fr2 (fun k hk => va_up_ne _ _ (by omega))) hw hk0 (by omega) g42 g43 g29 g32) gv_X10_196 gv_X10_196_n ⟨rfl, rfl⟩ (r_Ref C h) rfl hl.1 rfl (Nat.le_of_ble_eq_true rfl) dX10_reads_221 ⟨Nat.le_of_ble_eq_true rfl, Nat.le_of_ble_eq_true rfl⟩ ⟨Nat.le_of_ble_eq_true rfl, Nat.le_of_ble_eq_true rfl⟩) (fun v_221 sc_221 ar_221 H locs p_221 h => ?_)
    have h : hH z v (va_up sc 29 (nI (us + 1))) (inA (va_up (va_up (va_up ar 45 (upd (ar 45) (L) (nI (1)))) 46 (upd ((va_up ar 45 (upd (ar 45) (L) (nI (1)))) 46) L (nI us))) 50 (upd ((va_up ar 45 (upd (ar 45) (L) (nI (1)))) 50) L (nI p0))) (L + 1) (wt w 2) 1 us) s H locs := uEq p_221 h
    refine lv_iload_n hx hb dX10_reads_224 rfl (lv_at hl 5 rfl) ?_
    refine lv_iload hx hb dX10_reads_225 (lv_at hl 0 rfl) ?_
    refine lv_iconst (v := nI (4)) hx hb dX10_reads_227 (by decide) ?_
    refine jN_ne (tgt := 235) (a := 0) (b := 4) C (by omega) (by omega) dX10_reads_228 (by decide) (fun c_228 => ?_) (fun c_228 => ?_)
    · skip
      refine lv_iconst (v := nI (1)) hx hb dX10_reads_235 (by decide) ?_
      refine lv_iadd hx hb dX10_reads_236 ?_
      refine tI (nI_add _ _) ?_
      refine lv_istore_n (lv' := [(3, .int (nI ((L) + (1)))), (7, .int (nI (0))), (6, .int (nI (to))), (5, .int (nI (cnt))), (4, .int (nI (w))), (0, .ref (zad z 27))]) hx hb dX10_reads_237 rfl hl (by decide) rfl (fun ls hl => ?_)
      refine lv_goto (tgt := 28) hx hb dX10_reads_238 (by decide) ?_
      exact k1 (va_up sc 29 (nI (us + 1))) (inA (va_up (va_up (va_up ar 45 (upd (ar 45) (L) (nI (1)))) 46 (upd ((va_up ar 45 (upd (ar 45) (L) (nI (1)))) 46) L (nI us))) 50 (upd ((va_up ar 45 (upd (ar 45) (L) (nI (1)))) 50) L (nI p0))) (L + 1) (wt w 2) 1 us) H locs ls ⟨rF_in (fun i a b => va_up_ne _ _ a) (fun k a b => (va_up_ne _ _ (by omega)).trans ((va_up_ne _ _ (by omega)).trans ((va_up_ne _ _ (by omega))))) (fun k q a b => (vG (by omega) rfl k).trans ((vG (by omega) rfl k).trans ((vG (by omega) rfl k)))), inA_at, (inA_o (by decide) (by decide) (by decide) (by decide)).trans rfl, rfl, rfl⟩ ⟨(by rw [inA_lo (by omega), va_up_ne _ _ (by decide), va_up_ne _ _ (by decide), va_up_self, pk_us]), (by rw [inA_lo (by omega), va_up_ne _ _ (by decide), va_up_self, pk_us]), (by rw [inA_lo (by omega), va_up_self, pk_us])⟩ (fun k a45 a46 a50 => (inA_lo (by omega) k).trans (by rw [va_up_ne _ _ a50, va_up_ne _ _ a46, va_up_ne _ _ a45])) h (lv_sub hl [5, 0] rfl)
    · skip
      exact absurd c_228 (by decide)
  · skip
    exact absurd c_115 (by decide)
set_option maxHeartbeats 4000000 in
set_option maxRecDepth 100000 in
theorem rs_pop1 {p : Program} {l : Launch} {e : Env} {s : State} {m : MethodId} {args : Array Value} {below : List Frame} {meth : Method} {c : Code} {Q : State → Prop} {z : bZ} {v : bV} {wt : Nat → Nat → Nat} {dp : Nat → Nat} {K L w cnt to us p0 : Nat} {sc : Nat → Int32} {ar : Nat → Nat → Int32} {H : Heap} {locs : List Loc} {ls : Array Slot} {r0 b0 : Nat} {kI : Int32} (C : cX z p m c cX10_reads 9 s args RX10) (hK4 : K ≤ 40) (hRW : RW wt dp K ar) (hw : w < K) (hL : L < 5) (g42 : ar 42 L = nI w) (g43 : ar 43 L = nI cnt) (g44 : ar 44 L = nI to) (hc4 : cnt ≤ 400) (g33 : sc 33 = nI 0) (hk0 : wt w 0 = 2) (g45 : ar 45 L = nI 1) (g29 : sc 29 = nI us) (g32 : sc 32 = nI p0) (g46 : ar 46 L = nI r0) (hr0 : r0 < 40000) (g50 : ar 50 L = nI b0) (gk : ar 36 r0 = kI) (h : hH z v sc ar s H locs) (hl : lv_has ls 9 [(0, .ref (zad z 27)), (3, .int (nI L))]) (k0 : (kI < 0 ∨ nI (wt w 1) < kI) → ∀ (H : Heap) (locs : List Loc) (ls : Array Slot), hH z v (va_up (va_up sc 33 (nI 3)) 34 (nI b0)) (va_up ar 45 (upd (ar 45) (L) (nI (2)))) s H locs → lv_has ls 9 [(0, .ref (zad z 27))] → W p l e rmR s m args below meth c H locs 0 0 Q (F0 m 241 ls [])) (k1 : ∀ (k : Nat), k ≤ wt w 1 → kI = nI k → ∀ (scA : Nat → Int32) (arA : Nat → Nat → Int32) (H : Heap) (locs : List Loc) (ls : Array Slot), rN L (wt w 2) (k) (us) (us + k) sc ar scA arA → (arA 45 L = nI 2 ∧ arA 47 L = nI us) → (∀ k, k ≠ 45 → k ≠ 47 → arA k L = ar k L) → hH z v scA arA s H locs → lv_has ls 9 [(0, .ref (zad z 27)), (3, .int (nI (L + 1)))] → W p l e rmR s m args below meth c H locs 0 0 Q (F0 m 28 ls [])) : W p l e rmR s m args below meth c H locs 0 0 Q (F0 m 28 ls []) := by
  have hx := C.1.1
  have hb := C.1.2.1
  refine lv_iload_n hx hb dX10_reads_28 rfl (lv_at hl 1 rfl) ?_
  refine zN_lt (tgt := 241) (a := L) C (by omega) dX10_reads_29 (by decide) ?_
  refine lv_aload_n hx hb dX10_reads_32 rfl (lv_at hl 0 rfl) ?_
  refine rg_X10_171 C h dX10_reads_33 ?_
  refine tI (y := nI (0)) g33 ?_
  refine zN_ne (tgt := 241) (a := 0) C (by decide) dX10_reads_36 (by decide) (fun q => absurd q (by decide)) (fun _ => ?_)
  refine lv_aload_n hx hb dX10_reads_39 rfl (lv_at hl 0 rfl) ?_
  refine rg_X10_66 C h dX10_reads_40 ?_
  refine lv_iload_n hx hb dX10_reads_43 rfl (lv_at hl 1 rfl) ?_
  refine ldA 42 rfl (j := L) (show L < 8 by omega) (by decide) C h dX10_reads_44 ?_
  refine tI (y := nI (w)) g42 ?_
  refine lv_istore (lv' := [(4, .int (nI (w))), (0, .ref (zad z 27)), (3, .int (nI (L)))]) hx hb dX10_reads_45 hl (by decide) rfl (fun ls hl => ?_)
  refine lv_aload_n hx hb dX10_reads_47 rfl (lv_at hl 1 rfl) ?_
  refine rg_X10_69 C h dX10_reads_48 ?_
  refine lv_iload_n hx hb dX10_reads_51 rfl (lv_at hl 2 rfl) ?_
  refine ldA 43 rfl (j := L) (show L < 8 by omega) (by decide) C h dX10_reads_52 ?_
  refine tI (y := nI (cnt)) g43 ?_
  refine lv_istore (lv' := [(5, .int (nI (cnt))), (4, .int (nI (w))), (0, .ref (zad z 27)), (3, .int (nI (L)))]) hx hb dX10_reads_53 hl (by decide) rfl (fun ls hl => ?_)
  refine lv_aload_n hx hb dX10_reads_55 rfl (lv_at hl 2 rfl) ?_
  refine rg_X10_72 C h dX10_reads_56 ?_
  refine lv_iload_n hx hb dX10_reads_59 rfl (lv_at hl 3 rfl) ?_
  refine ldA 44 rfl (j := L) (show L < 8 by omega) (by decide) C h dX10_reads_60 ?_
  refine tI (y := nI (to)) g44 ?_
  refine lv_istore (lv' := [(6, .int (nI (to))), (5, .int (nI (cnt))), (4, .int (nI (w))), (0, .ref (zad z 27)), (3, .int (nI (L)))]) hx hb dX10_reads_61 hl (by decide) rfl (fun ls hl => ?_)
  refine lv_aload_n hx hb dX10_reads_63 rfl (lv_at hl 3 rfl) ?_
  refine rg_X10_75 C h dX10_reads_64 ?_
  refine lv_iload_n hx hb dX10_reads_67 rfl (lv_at hl 4 rfl) ?_
  refine ldA 45 rfl (j := L) (show L < 8 by omega) (by decide) C h dX10_reads_68 ?_
  refine tI (y := nI (1)) g45 ?_
  refine lv_istore (lv' := [(7, .int (nI (1))), (6, .int (nI (to))), (5, .int (nI (cnt))), (4, .int (nI (w))), (0, .ref (zad z 27)), (3, .int (nI (L)))]) hx hb dX10_reads_69 hl (by decide) rfl (fun ls hl => ?_)
  refine lv_aload_n hx hb dX10_reads_71 rfl (lv_at hl 4 rfl) ?_
  refine rg_X10_75 C h dX10_reads_72 ?_
  refine lv_iload_n hx hb dX10_reads_75 rfl (lv_at hl 5 rfl) ?_
  refine lv_dup2_11 hx hb dX10_reads_76 rfl rfl ?_
  refine ldA 45 rfl (j := L) (show L < 8 by omega) (by decide) C h dX10_reads_77 ?_
  refine tI (y := nI (1)) g45 ?_
  refine lv_iconst (v := nI (1)) hx hb dX10_reads_78 (by decide) ?_
  refine lv_iadd hx hb dX10_reads_79 ?_
  refine tI (y := nI (2)) (by decide) ?_
  refine stA 45 rfl (j := L) (x := nI (2)) (show L < 8 by omega) (by decide) C h dX10_reads_80 (fun H locs h => ?_)
  refine lv_aload_n hx hb dX10_reads_81 rfl (lv_at hl 4 rfl) ?_
  refine rg_X10_7 C h dX10_reads_82 ?_
  refine lv_iload hx hb dX10_reads_85 (lv_at hl 3 rfl) ?_
  refine ldA 28 rfl (j := w) (show w < 40 by omega) (by decide) C h dX10_reads_87 ?_
  refine tI (y := nI (2)) ((hRW w hw).1.trans (by rw [hk0])) ?_
  refine zN_ne (tgt := 107) (a := 2) C (by decide) dX10_reads_88 (by decide) (fun _ => ?_) (fun q => absurd q (by decide))
  refine lv_aload_n hx hb dX10_reads_107 rfl (lv_at hl 4 rfl) ?_
  refine rg_X10_7 C h dX10_reads_108 ?_
  refine lv_iload hx hb dX10_reads_111 (lv_at hl 3 rfl) ?_
  refine ldA 28 rfl (j := w) (show w < 40 by omega) (by decide) C h dX10_reads_113 ?_
  refine tI (y := nI (2)) ((hRW w hw).1.trans (by rw [hk0])) ?_
  refine lv_iconst (v := nI (1)) hx hb dX10_reads_114 (by decide) ?_
  refine jN_ne (tgt := 217) (a := 2) (b := 1) C (by omega) (by omega) dX10_reads_115 (by decide) (fun c_115 => ?_) (fun c_115 => ?_)
  · skip
    refine lv_aload_n hx hb dX10_reads_217 rfl (lv_at hl 4 rfl) ?_
    refine lv_iload_n hx hb dX10_reads_218 rfl (lv_at hl 5 rfl) ?_
    refine lv_iload hx hb dX10_reads_219 (lv_at hl 0 rfl) ?_
    refine backV h (runV (As := [.int (nI (L)), .int (nI (1))]) (rest := []) C h (r_pop1 l z v sc (va_up ar 45 (upd (ar 45) (L) (nI (2)))) K L w cnt us p0 wt dp r0 b0 kI hK4 (hRW.fr2 (fun k hk => va_up_ne _ _ (by omega))) hw hk0 (by omega) g42 g43 g29 g32 g46 hr0 g50 gk) gv_X10_196 gv_X10_196_n ⟨rfl, rfl⟩ (r_Ref C h) rfl hl.1 rfl (Nat.le_of_ble_eq_true rfl) dX10_reads_221 ⟨Nat.le_of_ble_eq_true rfl, Nat.le_of_ble_eq_true rfl⟩ ⟨Nat.le_of_ble_eq_true rfl, Nat.le_of_ble_eq_true rfl⟩) (fun v_221 sc_221 ar_221 H locs p_221 h => ?_)
    rcases p_221 with hy | hy
    · skip
      obtain ⟨hbd, eu⟩ := hy
      have h : hH z v (va_up (va_up sc 33 (nI 3)) 34 (nI b0)) (va_up ar 45 (upd (ar 45) (L) (nI (2)))) s H locs := uEq eu h
      refine lv_iload_n hx hb dX10_reads_224 rfl (lv_at hl 5 rfl) ?_
      refine lv_iload hx hb dX10_reads_225 (lv_at hl 0 rfl) ?_
      refine lv_iconst (v := nI (4)) hx hb dX10_reads_227 (by decide) ?_
      refine jN_ne (tgt := 235) (a := 1) (b := 4) C (by omega) (by omega) dX10_reads_228 (by decide) (fun c_228 => ?_) (fun c_228 => ?_)
      · skip
        refine lv_iconst (v := nI (1)) hx hb dX10_reads_235 (by decide) ?_
        refine lv_iadd hx hb dX10_reads_236 ?_
        refine tI (nI_add _ _) ?_
        refine lv_istore_n (lv' := [(3, .int (nI ((L) + (1)))), (7, .int (nI (1))), (6, .int (nI (to))), (5, .int (nI (cnt))), (4, .int (nI (w))), (0, .ref (zad z 27))]) hx hb dX10_reads_237 rfl hl (by decide) rfl (fun ls hl => ?_)
        refine lv_goto (tgt := 28) hx hb dX10_reads_238 (by decide) ?_
        refine lv_iload_n hx hb dX10_reads_28 rfl (lv_at hl 0 rfl) ?_
        refine zN_lt (tgt := 241) (a := (L) + (1)) C (by omega) dX10_reads_29 (by decide) ?_
        refine lv_aload_n hx hb dX10_reads_32 rfl (lv_at hl 5 rfl) ?_
        refine rg_X10_171 C h dX10_reads_33 ?_
        refine tI (y := nI (3)) rfl ?_
        refine zN_ne (tgt := 241) (a := 3) C (by decide) dX10_reads_36 (by decide) (fun _ => ?_) (fun q => absurd q (by decide))
        exact k0 hbd H locs ls h (lv_sub hl [5] rfl)
      · skip
        exact absurd c_228 (by decide)
    · skip
      obtain ⟨k, hkm, hkI, eu⟩ := hy
      have h : hH z v (va_up sc 29 (nI (us + k))) (inA (va_up (va_up ar 45 (upd (ar 45) (L) (nI (2)))) 47 (upd ((va_up ar 45 (upd (ar 45) (L) (nI (2)))) 47) L (nI us))) (L + 1) (wt w 2) k us) s H locs := uEq eu h
      refine lv_iload_n hx hb dX10_reads_224 rfl (lv_at hl 5 rfl) ?_
      refine lv_iload hx hb dX10_reads_225 (lv_at hl 0 rfl) ?_
      refine lv_iconst (v := nI (4)) hx hb dX10_reads_227 (by decide) ?_
      refine jN_ne (tgt := 235) (a := 1) (b := 4) C (by omega) (by omega) dX10_reads_228 (by decide) (fun c_228 => ?_) (fun c_228 => ?_)
      · skip
        refine lv_iconst (v := nI (1)) hx hb dX10_reads_235 (by decide) ?_
        refine lv_iadd hx hb dX10_reads_236 ?_
        refine tI (nI_add _ _) ?_
        refine lv_istore_n (lv' := [(3, .int (nI ((L) + (1)))), (7, .int (nI (1))), (6, .int (nI (to))), (5, .int (nI (cnt))), (4, .int (nI (w))), (0, .ref (zad z 27))]) hx hb dX10_reads_237 rfl hl (by decide) rfl (fun ls hl => ?_)
        refine lv_goto (tgt := 28) hx hb dX10_reads_238 (by decide) ?_
        exact k1 k hkm hkI (va_up sc 29 (nI (us + k))) (inA (va_up (va_up ar 45 (upd (ar 45) (L) (nI (2)))) 47 (upd ((va_up ar 45 (upd (ar 45) (L) (nI (2)))) 47) L (nI us))) (L + 1) (wt w 2) k us) H locs ls ⟨rF_in (fun i a b => va_up_ne _ _ a) (fun k a b => (va_up_ne _ _ (by omega)).trans ((va_up_ne _ _ (by omega)))) (fun k q a b => (vG (by omega) rfl k).trans ((vG (by omega) rfl k))), inA_at, (inA_o (by decide) (by decide) (by decide) (by decide)).trans rfl, rfl, rfl⟩ ⟨(by rw [inA_lo (by omega), va_up_ne _ _ (by decide), va_up_self, pk_us]), (by rw [inA_lo (by omega), va_up_self, pk_us])⟩ (fun k a45 a47 => (inA_lo (by omega) k).trans (by rw [va_up_ne _ _ a47, va_up_ne _ _ a45])) h (lv_sub hl [5, 0] rfl)
      · skip
        exact absurd c_228 (by decide)
  · skip
    exact absurd c_115 (by decide)
set_option maxHeartbeats 4000000 in
set_option maxRecDepth 100000 in
theorem rs_pop2 {p : Program} {l : Launch} {e : Env} {s : State} {m : MethodId} {args : Array Value} {below : List Frame} {meth : Method} {c : Code} {Q : State → Prop} {z : bZ} {v : bV} {wt : Nat → Nat → Nat} {dp : Nat → Nat} {K L w cnt to us p0 : Nat} {sc : Nat → Int32} {ar : Nat → Nat → Int32} {H : Heap} {locs : List Loc} {ls : Array Slot} {r0 : Nat} (C : cX z p m c cX10_reads 9 s args RX10) (hK4 : K ≤ 40) (hRW : RW wt dp K ar) (hw : w < K) (hL : L < 5) (g42 : ar 42 L = nI w) (g43 : ar 43 L = nI cnt) (g44 : ar 44 L = nI to) (hc4 : cnt ≤ 400) (g33 : sc 33 = nI 0) (hk0 : wt w 0 = 2) (g45 : ar 45 L = nI 2) (g29 : sc 29 = nI us) (g32 : sc 32 = nI p0) (g46 : ar 46 L = nI r0) (hr0 : r0 < 40000) (h : hH z v sc ar s H locs) (hl : lv_has ls 9 [(0, .ref (zad z 27)), (3, .int (nI L))]) (k1 : ∀ (scA : Nat → Int32) (arA : Nat → Nat → Int32) (H : Heap) (locs : List Loc) (ls : Array Slot), rN L (wt w 3) (cnt) (us) (us + cnt) sc ar scA arA → (arA 45 L = nI 3 ∧ arA 48 L = nI us ∧ arA 50 L = nI p0) → (∀ k, k ≠ 45 → k ≠ 48 → k ≠ 50 → arA k L = ar k L) → hH z v scA arA s H locs → lv_has ls 9 [(0, .ref (zad z 27)), (3, .int (nI (L + 1)))] → W p l e rmR s m args below meth c H locs 0 0 Q (F0 m 28 ls [])) : W p l e rmR s m args below meth c H locs 0 0 Q (F0 m 28 ls []) := by
  have hx := C.1.1
  have hb := C.1.2.1
  refine lv_iload_n hx hb dX10_reads_28 rfl (lv_at hl 1 rfl) ?_
  refine zN_lt (tgt := 241) (a := L) C (by omega) dX10_reads_29 (by decide) ?_
  refine lv_aload_n hx hb dX10_reads_32 rfl (lv_at hl 0 rfl) ?_
  refine rg_X10_171 C h dX10_reads_33 ?_
  refine tI (y := nI (0)) g33 ?_
  refine zN_ne (tgt := 241) (a := 0) C (by decide) dX10_reads_36 (by decide) (fun q => absurd q (by decide)) (fun _ => ?_)
  refine lv_aload_n hx hb dX10_reads_39 rfl (lv_at hl 0 rfl) ?_
  refine rg_X10_66 C h dX10_reads_40 ?_
  refine lv_iload_n hx hb dX10_reads_43 rfl (lv_at hl 1 rfl) ?_
  refine ldA 42 rfl (j := L) (show L < 8 by omega) (by decide) C h dX10_reads_44 ?_
  refine tI (y := nI (w)) g42 ?_
  refine lv_istore (lv' := [(4, .int (nI (w))), (0, .ref (zad z 27)), (3, .int (nI (L)))]) hx hb dX10_reads_45 hl (by decide) rfl (fun ls hl => ?_)
  refine lv_aload_n hx hb dX10_reads_47 rfl (lv_at hl 1 rfl) ?_
  refine rg_X10_69 C h dX10_reads_48 ?_
  refine lv_iload_n hx hb dX10_reads_51 rfl (lv_at hl 2 rfl) ?_
  refine ldA 43 rfl (j := L) (show L < 8 by omega) (by decide) C h dX10_reads_52 ?_
  refine tI (y := nI (cnt)) g43 ?_
  refine lv_istore (lv' := [(5, .int (nI (cnt))), (4, .int (nI (w))), (0, .ref (zad z 27)), (3, .int (nI (L)))]) hx hb dX10_reads_53 hl (by decide) rfl (fun ls hl => ?_)
  refine lv_aload_n hx hb dX10_reads_55 rfl (lv_at hl 2 rfl) ?_
  refine rg_X10_72 C h dX10_reads_56 ?_
  refine lv_iload_n hx hb dX10_reads_59 rfl (lv_at hl 3 rfl) ?_
  refine ldA 44 rfl (j := L) (show L < 8 by omega) (by decide) C h dX10_reads_60 ?_
  refine tI (y := nI (to)) g44 ?_
  refine lv_istore (lv' := [(6, .int (nI (to))), (5, .int (nI (cnt))), (4, .int (nI (w))), (0, .ref (zad z 27)), (3, .int (nI (L)))]) hx hb dX10_reads_61 hl (by decide) rfl (fun ls hl => ?_)
  refine lv_aload_n hx hb dX10_reads_63 rfl (lv_at hl 3 rfl) ?_
  refine rg_X10_75 C h dX10_reads_64 ?_
  refine lv_iload_n hx hb dX10_reads_67 rfl (lv_at hl 4 rfl) ?_
  refine ldA 45 rfl (j := L) (show L < 8 by omega) (by decide) C h dX10_reads_68 ?_
  refine tI (y := nI (2)) g45 ?_
  refine lv_istore (lv' := [(7, .int (nI (2))), (6, .int (nI (to))), (5, .int (nI (cnt))), (4, .int (nI (w))), (0, .ref (zad z 27)), (3, .int (nI (L)))]) hx hb dX10_reads_69 hl (by decide) rfl (fun ls hl => ?_)
  refine lv_aload_n hx hb dX10_reads_71 rfl (lv_at hl 4 rfl) ?_
  refine rg_X10_75 C h dX10_reads_72 ?_
  refine lv_iload_n hx hb dX10_reads_75 rfl (lv_at hl 5 rfl) ?_
  refine lv_dup2_11 hx hb dX10_reads_76 rfl rfl ?_
  refine ldA 45 rfl (j := L) (show L < 8 by omega) (by decide) C h dX10_reads_77 ?_
  refine tI (y := nI (2)) g45 ?_
  refine lv_iconst (v := nI (1)) hx hb dX10_reads_78 (by decide) ?_
  refine lv_iadd hx hb dX10_reads_79 ?_
  refine tI (y := nI (3)) (by decide) ?_
  refine stA 45 rfl (j := L) (x := nI (3)) (show L < 8 by omega) (by decide) C h dX10_reads_80 (fun H locs h => ?_)
  refine lv_aload_n hx hb dX10_reads_81 rfl (lv_at hl 4 rfl) ?_
  refine rg_X10_7 C h dX10_reads_82 ?_
  refine lv_iload hx hb dX10_reads_85 (lv_at hl 3 rfl) ?_
  refine ldA 28 rfl (j := w) (show w < 40 by omega) (by decide) C h dX10_reads_87 ?_
  refine tI (y := nI (2)) ((hRW w hw).1.trans (by rw [hk0])) ?_
  refine zN_ne (tgt := 107) (a := 2) C (by decide) dX10_reads_88 (by decide) (fun _ => ?_) (fun q => absurd q (by decide))
  refine lv_aload_n hx hb dX10_reads_107 rfl (lv_at hl 4 rfl) ?_
  refine rg_X10_7 C h dX10_reads_108 ?_
  refine lv_iload hx hb dX10_reads_111 (lv_at hl 3 rfl) ?_
  refine ldA 28 rfl (j := w) (show w < 40 by omega) (by decide) C h dX10_reads_113 ?_
  refine tI (y := nI (2)) ((hRW w hw).1.trans (by rw [hk0])) ?_
  refine lv_iconst (v := nI (1)) hx hb dX10_reads_114 (by decide) ?_
  refine jN_ne (tgt := 217) (a := 2) (b := 1) C (by omega) (by omega) dX10_reads_115 (by decide) (fun c_115 => ?_) (fun c_115 => ?_)
  · skip
    refine lv_aload_n hx hb dX10_reads_217 rfl (lv_at hl 4 rfl) ?_
    refine lv_iload_n hx hb dX10_reads_218 rfl (lv_at hl 5 rfl) ?_
    refine lv_iload hx hb dX10_reads_219 (lv_at hl 0 rfl) ?_
    refine backV h (runV (As := [.int (nI (L)), .int (nI (2))]) (rest := []) C h (r_pop2 l z v sc (va_up ar 45 (upd (ar 45) (L) (nI (3)))) K L w cnt us p0 wt dp r0 hK4 (hRW.fr2 (fun k hk => va_up_ne _ _ (by omega))) hw hk0 (by omega) g42 g43 g29 g32 g46 hr0) gv_X10_196 gv_X10_196_n ⟨rfl, rfl⟩ (r_Ref C h) rfl hl.1 rfl (Nat.le_of_ble_eq_true rfl) dX10_reads_221 ⟨Nat.le_of_ble_eq_true rfl, Nat.le_of_ble_eq_true rfl⟩ ⟨Nat.le_of_ble_eq_true rfl, Nat.le_of_ble_eq_true rfl⟩) (fun v_221 sc_221 ar_221 H locs p_221 h => ?_)
    have h : hH z v (va_up sc 29 (nI (us + cnt))) (inA (va_up (va_up (va_up ar 45 (upd (ar 45) (L) (nI (3)))) 48 (upd ((va_up ar 45 (upd (ar 45) (L) (nI (3)))) 48) L (nI us))) 50 (upd ((va_up ar 45 (upd (ar 45) (L) (nI (3)))) 50) L (nI p0))) (L + 1) (wt w 3) cnt us) s H locs := uEq p_221 h
    refine lv_iload_n hx hb dX10_reads_224 rfl (lv_at hl 5 rfl) ?_
    refine lv_iload hx hb dX10_reads_225 (lv_at hl 0 rfl) ?_
    refine lv_iconst (v := nI (4)) hx hb dX10_reads_227 (by decide) ?_
    refine jN_ne (tgt := 235) (a := 2) (b := 4) C (by omega) (by omega) dX10_reads_228 (by decide) (fun c_228 => ?_) (fun c_228 => ?_)
    · skip
      refine lv_iconst (v := nI (1)) hx hb dX10_reads_235 (by decide) ?_
      refine lv_iadd hx hb dX10_reads_236 ?_
      refine tI (nI_add _ _) ?_
      refine lv_istore_n (lv' := [(3, .int (nI ((L) + (1)))), (7, .int (nI (2))), (6, .int (nI (to))), (5, .int (nI (cnt))), (4, .int (nI (w))), (0, .ref (zad z 27))]) hx hb dX10_reads_237 rfl hl (by decide) rfl (fun ls hl => ?_)
      refine lv_goto (tgt := 28) hx hb dX10_reads_238 (by decide) ?_
      exact k1 (va_up sc 29 (nI (us + cnt))) (inA (va_up (va_up (va_up ar 45 (upd (ar 45) (L) (nI (3)))) 48 (upd ((va_up ar 45 (upd (ar 45) (L) (nI (3)))) 48) L (nI us))) 50 (upd ((va_up ar 45 (upd (ar 45) (L) (nI (3)))) 50) L (nI p0))) (L + 1) (wt w 3) cnt us) H locs ls ⟨rF_in (fun i a b => va_up_ne _ _ a) (fun k a b => (va_up_ne _ _ (by omega)).trans ((va_up_ne _ _ (by omega)).trans ((va_up_ne _ _ (by omega))))) (fun k q a b => (vG (by omega) rfl k).trans ((vG (by omega) rfl k).trans ((vG (by omega) rfl k)))), inA_at, (inA_o (by decide) (by decide) (by decide) (by decide)).trans rfl, rfl, rfl⟩ ⟨(by rw [inA_lo (by omega), va_up_ne _ _ (by decide), va_up_ne _ _ (by decide), va_up_self, pk_us]), (by rw [inA_lo (by omega), va_up_ne _ _ (by decide), va_up_self, pk_us]), (by rw [inA_lo (by omega), va_up_self, pk_us])⟩ (fun k a45 a48 a50 => (inA_lo (by omega) k).trans (by rw [va_up_ne _ _ a50, va_up_ne _ _ a48, va_up_ne _ _ a45])) h (lv_sub hl [5, 0] rfl)
    · skip
      exact absurd c_228 (by decide)
  · skip
    exact absurd c_115 (by decide)
set_option maxHeartbeats 4000000 in
set_option maxRecDepth 100000 in
theorem rs_pop3 {p : Program} {l : Launch} {e : Env} {s : State} {m : MethodId} {args : Array Value} {below : List Frame} {meth : Method} {c : Code} {Q : State → Prop} {z : bZ} {v : bV} {wt : Nat → Nat → Nat} {dp : Nat → Nat} {K L w cnt to us p0 : Nat} {sc : Nat → Int32} {ar : Nat → Nat → Int32} {H : Heap} {locs : List Loc} {ls : Array Slot} {r0 b0 k tk0 : Nat} (C : cX z p m c cX10_reads 9 s args RX10) (hK4 : K ≤ 40) (hRW : RW wt dp K ar) (hw : w < K) (hL : L < 5) (g42 : ar 42 L = nI w) (g43 : ar 43 L = nI cnt) (g44 : ar 44 L = nI to) (hc4 : cnt ≤ 400) (g33 : sc 33 = nI 0) (hk0 : wt w 0 = 2) (g45 : ar 45 L = nI 3) (g29 : sc 29 = nI us) (g32 : sc 32 = nI p0) (g46 : ar 46 L = nI r0) (hr0 : r0 < 40000) (g50 : ar 50 L = nI b0) (gk : ar 36 r0 = nI k) (hk : k ≤ 50) (g48 : ar 48 L = nI tk0) (htk : tk0 + cnt ≤ 40000) (h : hH z v sc ar s H locs) (hl : lv_has ls 9 [(0, .ref (zad z 27)), (3, .int (nI L))]) (k0 : cO k (rowL (ar 36) tk0 cnt) = none → ∀ (H : Heap) (locs : List Loc) (ls : Array Slot), hH z v (va_up (va_up sc 33 (nI 3)) 34 (nI b0)) (va_up ar 45 (upd (ar 45) (L) (nI (4)))) s H locs → lv_has ls 9 [(0, .ref (zad z 27))] → W p l e rmR s m args below meth c H locs 0 0 Q (F0 m 241 ls [])) (k1 : ∀ (o : Nat), cO k (rowL (ar 36) tk0 cnt) = some o → ∀ (scA : Nat → Int32) (arA : Nat → Nat → Int32) (H : Heap) (locs : List Loc) (ls : Array Slot), rN L (wt w 4) (o) (us) (us + o) sc ar scA arA → (arA 45 L = nI 4 ∧ arA 49 L = nI us) → (∀ k, k ≠ 45 → k ≠ 49 → arA k L = ar k L) → hH z v scA arA s H locs → lv_has ls 9 [(0, .ref (zad z 27)), (3, .int (nI (L + 1)))] → W p l e rmR s m args below meth c H locs 0 0 Q (F0 m 28 ls [])) : W p l e rmR s m args below meth c H locs 0 0 Q (F0 m 28 ls []) := by
  have hx := C.1.1
  have hb := C.1.2.1
  refine lv_iload_n hx hb dX10_reads_28 rfl (lv_at hl 1 rfl) ?_
  refine zN_lt (tgt := 241) (a := L) C (by omega) dX10_reads_29 (by decide) ?_
  refine lv_aload_n hx hb dX10_reads_32 rfl (lv_at hl 0 rfl) ?_
  refine rg_X10_171 C h dX10_reads_33 ?_
  refine tI (y := nI (0)) g33 ?_
  refine zN_ne (tgt := 241) (a := 0) C (by decide) dX10_reads_36 (by decide) (fun q => absurd q (by decide)) (fun _ => ?_)
  refine lv_aload_n hx hb dX10_reads_39 rfl (lv_at hl 0 rfl) ?_
  refine rg_X10_66 C h dX10_reads_40 ?_
  refine lv_iload_n hx hb dX10_reads_43 rfl (lv_at hl 1 rfl) ?_
  refine ldA 42 rfl (j := L) (show L < 8 by omega) (by decide) C h dX10_reads_44 ?_
  refine tI (y := nI (w)) g42 ?_
  refine lv_istore (lv' := [(4, .int (nI (w))), (0, .ref (zad z 27)), (3, .int (nI (L)))]) hx hb dX10_reads_45 hl (by decide) rfl (fun ls hl => ?_)
  refine lv_aload_n hx hb dX10_reads_47 rfl (lv_at hl 1 rfl) ?_
  refine rg_X10_69 C h dX10_reads_48 ?_
  refine lv_iload_n hx hb dX10_reads_51 rfl (lv_at hl 2 rfl) ?_
  refine ldA 43 rfl (j := L) (show L < 8 by omega) (by decide) C h dX10_reads_52 ?_
  refine tI (y := nI (cnt)) g43 ?_
  refine lv_istore (lv' := [(5, .int (nI (cnt))), (4, .int (nI (w))), (0, .ref (zad z 27)), (3, .int (nI (L)))]) hx hb dX10_reads_53 hl (by decide) rfl (fun ls hl => ?_)
  refine lv_aload_n hx hb dX10_reads_55 rfl (lv_at hl 2 rfl) ?_
  refine rg_X10_72 C h dX10_reads_56 ?_
  refine lv_iload_n hx hb dX10_reads_59 rfl (lv_at hl 3 rfl) ?_
  refine ldA 44 rfl (j := L) (show L < 8 by omega) (by decide) C h dX10_reads_60 ?_
  refine tI (y := nI (to)) g44 ?_
  refine lv_istore (lv' := [(6, .int (nI (to))), (5, .int (nI (cnt))), (4, .int (nI (w))), (0, .ref (zad z 27)), (3, .int (nI (L)))]) hx hb dX10_reads_61 hl (by decide) rfl (fun ls hl => ?_)
  refine lv_aload_n hx hb dX10_reads_63 rfl (lv_at hl 3 rfl) ?_
  refine rg_X10_75 C h dX10_reads_64 ?_
  refine lv_iload_n hx hb dX10_reads_67 rfl (lv_at hl 4 rfl) ?_
  refine ldA 45 rfl (j := L) (show L < 8 by omega) (by decide) C h dX10_reads_68 ?_
  refine tI (y := nI (3)) g45 ?_
  refine lv_istore (lv' := [(7, .int (nI (3))), (6, .int (nI (to))), (5, .int (nI (cnt))), (4, .int (nI (w))), (0, .ref (zad z 27)), (3, .int (nI (L)))]) hx hb dX10_reads_69 hl (by decide) rfl (fun ls hl => ?_)
  refine lv_aload_n hx hb dX10_reads_71 rfl (lv_at hl 4 rfl) ?_
  refine rg_X10_75 C h dX10_reads_72 ?_
  refine lv_iload_n hx hb dX10_reads_75 rfl (lv_at hl 5 rfl) ?_
  refine lv_dup2_11 hx hb dX10_reads_76 rfl rfl ?_
  refine ldA 45 rfl (j := L) (show L < 8 by omega) (by decide) C h dX10_reads_77 ?_
  refine tI (y := nI (3)) g45 ?_
  refine lv_iconst (v := nI (1)) hx hb dX10_reads_78 (by decide) ?_
  refine lv_iadd hx hb dX10_reads_79 ?_
  refine tI (y := nI (4)) (by decide) ?_
  refine stA 45 rfl (j := L) (x := nI (4)) (show L < 8 by omega) (by decide) C h dX10_reads_80 (fun H locs h => ?_)
  refine lv_aload_n hx hb dX10_reads_81 rfl (lv_at hl 4 rfl) ?_
  refine rg_X10_7 C h dX10_reads_82 ?_
  refine lv_iload hx hb dX10_reads_85 (lv_at hl 3 rfl) ?_
  refine ldA 28 rfl (j := w) (show w < 40 by omega) (by decide) C h dX10_reads_87 ?_
  refine tI (y := nI (2)) ((hRW w hw).1.trans (by rw [hk0])) ?_
  refine zN_ne (tgt := 107) (a := 2) C (by decide) dX10_reads_88 (by decide) (fun _ => ?_) (fun q => absurd q (by decide))
  refine lv_aload_n hx hb dX10_reads_107 rfl (lv_at hl 4 rfl) ?_
  refine rg_X10_7 C h dX10_reads_108 ?_
  refine lv_iload hx hb dX10_reads_111 (lv_at hl 3 rfl) ?_
  refine ldA 28 rfl (j := w) (show w < 40 by omega) (by decide) C h dX10_reads_113 ?_
  refine tI (y := nI (2)) ((hRW w hw).1.trans (by rw [hk0])) ?_
  refine lv_iconst (v := nI (1)) hx hb dX10_reads_114 (by decide) ?_
  refine jN_ne (tgt := 217) (a := 2) (b := 1) C (by omega) (by omega) dX10_reads_115 (by decide) (fun c_115 => ?_) (fun c_115 => ?_)
  · skip
    refine lv_aload_n hx hb dX10_reads_217 rfl (lv_at hl 4 rfl) ?_
    refine lv_iload_n hx hb dX10_reads_218 rfl (lv_at hl 5 rfl) ?_
    refine lv_iload hx hb dX10_reads_219 (lv_at hl 0 rfl) ?_
    refine backV h (runV (As := [.int (nI (L)), .int (nI (3))]) (rest := []) C h (r_pop3 l z v sc (va_up ar 45 (upd (ar 45) (L) (nI (4)))) K L w cnt us p0 wt dp r0 b0 k tk0 hK4 (hRW.fr2 (fun k hk => va_up_ne _ _ (by omega))) hw hk0 (by omega) g42 g43 g29 g32 g46 hr0 g50 gk hk g48 htk hc4) gv_X10_196 gv_X10_196_n ⟨rfl, rfl⟩ (r_Ref C h) rfl hl.1 rfl (Nat.le_of_ble_eq_true rfl) dX10_reads_221 ⟨Nat.le_of_ble_eq_true rfl, Nat.le_of_ble_eq_true rfl⟩ ⟨Nat.le_of_ble_eq_true rfl, Nat.le_of_ble_eq_true rfl⟩) (fun v_221 sc_221 ar_221 H locs p_221 h => ?_)
    rcases p_221 with hy | hy
    · skip
      obtain ⟨hbd, eu⟩ := hy
      have h : hH z v (va_up (va_up sc 33 (nI 3)) 34 (nI b0)) (va_up ar 45 (upd (ar 45) (L) (nI (4)))) s H locs := uEq eu h
      refine lv_iload_n hx hb dX10_reads_224 rfl (lv_at hl 5 rfl) ?_
      refine lv_iload hx hb dX10_reads_225 (lv_at hl 0 rfl) ?_
      refine lv_iconst (v := nI (4)) hx hb dX10_reads_227 (by decide) ?_
      refine jN_ne (tgt := 235) (a := 3) (b := 4) C (by omega) (by omega) dX10_reads_228 (by decide) (fun c_228 => ?_) (fun c_228 => ?_)
      · skip
        refine lv_iconst (v := nI (1)) hx hb dX10_reads_235 (by decide) ?_
        refine lv_iadd hx hb dX10_reads_236 ?_
        refine tI (nI_add _ _) ?_
        refine lv_istore_n (lv' := [(3, .int (nI ((L) + (1)))), (7, .int (nI (3))), (6, .int (nI (to))), (5, .int (nI (cnt))), (4, .int (nI (w))), (0, .ref (zad z 27))]) hx hb dX10_reads_237 rfl hl (by decide) rfl (fun ls hl => ?_)
        refine lv_goto (tgt := 28) hx hb dX10_reads_238 (by decide) ?_
        refine lv_iload_n hx hb dX10_reads_28 rfl (lv_at hl 0 rfl) ?_
        refine zN_lt (tgt := 241) (a := (L) + (1)) C (by omega) dX10_reads_29 (by decide) ?_
        refine lv_aload_n hx hb dX10_reads_32 rfl (lv_at hl 5 rfl) ?_
        refine rg_X10_171 C h dX10_reads_33 ?_
        refine tI (y := nI (3)) rfl ?_
        refine zN_ne (tgt := 241) (a := 3) C (by decide) dX10_reads_36 (by decide) (fun _ => ?_) (fun q => absurd q (by decide))
        exact k0 hbd H locs ls h (lv_sub hl [5] rfl)
      · skip
        exact absurd c_228 (by decide)
    · skip
      obtain ⟨o, hco, eu⟩ := hy
      have h : hH z v (va_up sc 29 (nI (us + o))) (inA (va_up (va_up ar 45 (upd (ar 45) (L) (nI (4)))) 49 (upd ((va_up ar 45 (upd (ar 45) (L) (nI (4)))) 49) L (nI us))) (L + 1) (wt w 4) o us) s H locs := uEq eu h
      refine lv_iload_n hx hb dX10_reads_224 rfl (lv_at hl 5 rfl) ?_
      refine lv_iload hx hb dX10_reads_225 (lv_at hl 0 rfl) ?_
      refine lv_iconst (v := nI (4)) hx hb dX10_reads_227 (by decide) ?_
      refine jN_ne (tgt := 235) (a := 3) (b := 4) C (by omega) (by omega) dX10_reads_228 (by decide) (fun c_228 => ?_) (fun c_228 => ?_)
      · skip
        refine lv_iconst (v := nI (1)) hx hb dX10_reads_235 (by decide) ?_
        refine lv_iadd hx hb dX10_reads_236 ?_
        refine tI (nI_add _ _) ?_
        refine lv_istore_n (lv' := [(3, .int (nI ((L) + (1)))), (7, .int (nI (3))), (6, .int (nI (to))), (5, .int (nI (cnt))), (4, .int (nI (w))), (0, .ref (zad z 27))]) hx hb dX10_reads_237 rfl hl (by decide) rfl (fun ls hl => ?_)
        refine lv_goto (tgt := 28) hx hb dX10_reads_238 (by decide) ?_
        exact k1 o hco (va_up sc 29 (nI (us + o))) (inA (va_up (va_up ar 45 (upd (ar 45) (L) (nI (4)))) 49 (upd ((va_up ar 45 (upd (ar 45) (L) (nI (4)))) 49) L (nI us))) (L + 1) (wt w 4) o us) H locs ls ⟨rF_in (fun i a b => va_up_ne _ _ a) (fun k a b => (va_up_ne _ _ (by omega)).trans ((va_up_ne _ _ (by omega)))) (fun k q a b => (vG (by omega) rfl k).trans ((vG (by omega) rfl k))), inA_at, (inA_o (by decide) (by decide) (by decide) (by decide)).trans rfl, rfl, rfl⟩ ⟨(by rw [inA_lo (by omega), va_up_ne _ _ (by decide), va_up_self, pk_us]), (by rw [inA_lo (by omega), va_up_self, pk_us])⟩ (fun k a45 a49 => (inA_lo (by omega) k).trans (by rw [va_up_ne _ _ a49, va_up_ne _ _ a45])) h (lv_sub hl [5, 0] rfl)
      · skip
        exact absurd c_228 (by decide)
  · skip
    exact absurd c_115 (by decide)
set_option maxHeartbeats 4000000 in
set_option maxRecDepth 100000 in
theorem rs_pop4 {p : Program} {l : Launch} {e : Env} {s : State} {m : MethodId} {args : Array Value} {below : List Frame} {meth : Method} {c : Code} {Q : State → Prop} {z : bZ} {v : bV} {wt : Nat → Nat → Nat} {dp : Nat → Nat} {K L w cnt to us p0 : Nat} {sc : Nat → Int32} {ar : Nat → Nat → Int32} {H : Heap} {locs : List Loc} {ls : Array Slot} {r0 k tk0 o0 fv0 : Nat} (C : cX z p m c cX10_reads 9 s args RX10) (hK4 : K ≤ 40) (hRW : RW wt dp K ar) (hw : w < K) (hL : L < 5) (g42 : ar 42 L = nI w) (g43 : ar 43 L = nI cnt) (g44 : ar 44 L = nI to) (hc4 : cnt ≤ 400) (g33 : sc 33 = nI 0) (hk0 : wt w 0 = 2) (g45 : ar 45 L = nI 4) (g46 : ar 46 L = nI r0) (hr0 : r0 < 40000) (gk : ar 36 r0 = nI k) (hk : k ≤ 50) (g47 : ar 47 L = nI fv0) (g48 : ar 48 L = nI tk0) (g49 : ar 49 L = nI o0) (htf : to + cnt ≤ fv0) (hft : fv0 + k ≤ tk0) (hto : tk0 + cnt ≤ o0) (ho : o0 + cnt ≤ 40000) (hf1 : 1 ≤ fv0) (hτ : ∀ i, i < cnt → ∃ τ, τ ≤ k ∧ ar 36 (tk0 + i) = nI τ) (h : hH z v sc ar s H locs) (hl : lv_has ls 9 [(0, .ref (zad z 27)), (3, .int (nI L))]) (k1 : ∀ (H : Heap) (locs : List Loc) (ls : Array Slot), hH z v sc (va_up (va_up ar 45 (upd (ar 45) (L) (nI (5)))) 36 (wrR (ar 36) to (rpL (fun j => ar 36 (fv0 + j - 1)) (fun j => ar 36 (o0 + j)) 0 (rowL (ar 36) tk0 cnt)))) s H locs → lv_has ls 9 [(0, .ref (zad z 27)), (3, .int (nI L + (-1)))] → W p l e rmR s m args below meth c H locs 0 0 Q (F0 m 28 ls [])) : W p l e rmR s m args below meth c H locs 0 0 Q (F0 m 28 ls []) := by
  have hx := C.1.1
  have hb := C.1.2.1
  refine lv_iload_n hx hb dX10_reads_28 rfl (lv_at hl 1 rfl) ?_
  refine zN_lt (tgt := 241) (a := L) C (by omega) dX10_reads_29 (by decide) ?_
  refine lv_aload_n hx hb dX10_reads_32 rfl (lv_at hl 0 rfl) ?_
  refine rg_X10_171 C h dX10_reads_33 ?_
  refine tI (y := nI (0)) g33 ?_
  refine zN_ne (tgt := 241) (a := 0) C (by decide) dX10_reads_36 (by decide) (fun q => absurd q (by decide)) (fun _ => ?_)
  refine lv_aload_n hx hb dX10_reads_39 rfl (lv_at hl 0 rfl) ?_
  refine rg_X10_66 C h dX10_reads_40 ?_
  refine lv_iload_n hx hb dX10_reads_43 rfl (lv_at hl 1 rfl) ?_
  refine ldA 42 rfl (j := L) (show L < 8 by omega) (by decide) C h dX10_reads_44 ?_
  refine tI (y := nI (w)) g42 ?_
  refine lv_istore (lv' := [(4, .int (nI (w))), (0, .ref (zad z 27)), (3, .int (nI (L)))]) hx hb dX10_reads_45 hl (by decide) rfl (fun ls hl => ?_)
  refine lv_aload_n hx hb dX10_reads_47 rfl (lv_at hl 1 rfl) ?_
  refine rg_X10_69 C h dX10_reads_48 ?_
  refine lv_iload_n hx hb dX10_reads_51 rfl (lv_at hl 2 rfl) ?_
  refine ldA 43 rfl (j := L) (show L < 8 by omega) (by decide) C h dX10_reads_52 ?_
  refine tI (y := nI (cnt)) g43 ?_
  refine lv_istore (lv' := [(5, .int (nI (cnt))), (4, .int (nI (w))), (0, .ref (zad z 27)), (3, .int (nI (L)))]) hx hb dX10_reads_53 hl (by decide) rfl (fun ls hl => ?_)
  refine lv_aload_n hx hb dX10_reads_55 rfl (lv_at hl 2 rfl) ?_
  refine rg_X10_72 C h dX10_reads_56 ?_
  refine lv_iload_n hx hb dX10_reads_59 rfl (lv_at hl 3 rfl) ?_
  refine ldA 44 rfl (j := L) (show L < 8 by omega) (by decide) C h dX10_reads_60 ?_
  refine tI (y := nI (to)) g44 ?_
  refine lv_istore (lv' := [(6, .int (nI (to))), (5, .int (nI (cnt))), (4, .int (nI (w))), (0, .ref (zad z 27)), (3, .int (nI (L)))]) hx hb dX10_reads_61 hl (by decide) rfl (fun ls hl => ?_)
  refine lv_aload_n hx hb dX10_reads_63 rfl (lv_at hl 3 rfl) ?_
  refine rg_X10_75 C h dX10_reads_64 ?_
  refine lv_iload_n hx hb dX10_reads_67 rfl (lv_at hl 4 rfl) ?_
  refine ldA 45 rfl (j := L) (show L < 8 by omega) (by decide) C h dX10_reads_68 ?_
  refine tI (y := nI (4)) g45 ?_
  refine lv_istore (lv' := [(7, .int (nI (4))), (6, .int (nI (to))), (5, .int (nI (cnt))), (4, .int (nI (w))), (0, .ref (zad z 27)), (3, .int (nI (L)))]) hx hb dX10_reads_69 hl (by decide) rfl (fun ls hl => ?_)
  refine lv_aload_n hx hb dX10_reads_71 rfl (lv_at hl 4 rfl) ?_
  refine rg_X10_75 C h dX10_reads_72 ?_
  refine lv_iload_n hx hb dX10_reads_75 rfl (lv_at hl 5 rfl) ?_
  refine lv_dup2_11 hx hb dX10_reads_76 rfl rfl ?_
  refine ldA 45 rfl (j := L) (show L < 8 by omega) (by decide) C h dX10_reads_77 ?_
  refine tI (y := nI (4)) g45 ?_
  refine lv_iconst (v := nI (1)) hx hb dX10_reads_78 (by decide) ?_
  refine lv_iadd hx hb dX10_reads_79 ?_
  refine tI (y := nI (5)) (by decide) ?_
  refine stA 45 rfl (j := L) (x := nI (5)) (show L < 8 by omega) (by decide) C h dX10_reads_80 (fun H locs h => ?_)
  refine lv_aload_n hx hb dX10_reads_81 rfl (lv_at hl 4 rfl) ?_
  refine rg_X10_7 C h dX10_reads_82 ?_
  refine lv_iload hx hb dX10_reads_85 (lv_at hl 3 rfl) ?_
  refine ldA 28 rfl (j := w) (show w < 40 by omega) (by decide) C h dX10_reads_87 ?_
  refine tI (y := nI (2)) ((hRW w hw).1.trans (by rw [hk0])) ?_
  refine zN_ne (tgt := 107) (a := 2) C (by decide) dX10_reads_88 (by decide) (fun _ => ?_) (fun q => absurd q (by decide))
  refine lv_aload_n hx hb dX10_reads_107 rfl (lv_at hl 4 rfl) ?_
  refine rg_X10_7 C h dX10_reads_108 ?_
  refine lv_iload hx hb dX10_reads_111 (lv_at hl 3 rfl) ?_
  refine ldA 28 rfl (j := w) (show w < 40 by omega) (by decide) C h dX10_reads_113 ?_
  refine tI (y := nI (2)) ((hRW w hw).1.trans (by rw [hk0])) ?_
  refine lv_iconst (v := nI (1)) hx hb dX10_reads_114 (by decide) ?_
  refine jN_ne (tgt := 217) (a := 2) (b := 1) C (by omega) (by omega) dX10_reads_115 (by decide) (fun c_115 => ?_) (fun c_115 => ?_)
  · skip
    refine lv_aload_n hx hb dX10_reads_217 rfl (lv_at hl 4 rfl) ?_
    refine lv_iload_n hx hb dX10_reads_218 rfl (lv_at hl 5 rfl) ?_
    refine lv_iload hx hb dX10_reads_219 (lv_at hl 0 rfl) ?_
    refine backV h (runV (As := [.int (nI (L)), .int (nI (4))]) (rest := []) C h (r_pop4 l z v sc (va_up ar 45 (upd (ar 45) (L) (nI (5)))) K L w cnt us p0 wt dp r0 k tk0 o0 fv0 to hK4 (hRW.fr2 (fun k hk => va_up_ne _ _ (by omega))) hw hk0 (by omega) g42 g43 g46 hr0 gk hk g44 g47 g48 g49 hc4 htf hft hto ho hf1 hτ) gv_X10_196 gv_X10_196_n ⟨rfl, rfl⟩ (r_Ref C h) rfl hl.1 rfl (Nat.le_of_ble_eq_true rfl) dX10_reads_221 ⟨Nat.le_of_ble_eq_true rfl, Nat.le_of_ble_eq_true rfl⟩ ⟨Nat.le_of_ble_eq_true rfl, Nat.le_of_ble_eq_true rfl⟩) (fun v_221 sc_221 ar_221 H locs p_221 h => ?_)
    have h : hH z v sc (va_up (va_up ar 45 (upd (ar 45) (L) (nI (5)))) 36 (wrR (ar 36) to (rpL (fun j => ar 36 (fv0 + j - 1)) (fun j => ar 36 (o0 + j)) 0 (rowL (ar 36) tk0 cnt)))) s H locs := uEq p_221 h
    refine lv_iload_n hx hb dX10_reads_224 rfl (lv_at hl 5 rfl) ?_
    refine lv_iload hx hb dX10_reads_225 (lv_at hl 0 rfl) ?_
    refine lv_iconst (v := nI (4)) hx hb dX10_reads_227 (by decide) ?_
    refine jN_ne (tgt := 235) (a := 4) (b := 4) C (by omega) (by omega) dX10_reads_228 (by decide) (fun c_228 => ?_) (fun c_228 => ?_)
    · skip
      exact absurd c_228 (by decide)
    · skip
      refine lv_iconst (v := (-1)) hx hb dX10_reads_231 (by decide) ?_
      refine lv_goto (tgt := 236) hx hb dX10_reads_232 (by decide) ?_
      refine lv_iadd hx hb dX10_reads_236 ?_
      refine lv_istore_n (lv' := [(3, .int (nI (L) + (-1))), (7, .int (nI (4))), (6, .int (nI (to))), (5, .int (nI (cnt))), (4, .int (nI (w))), (0, .ref (zad z 27))]) hx hb dX10_reads_237 rfl hl (by decide) rfl (fun ls hl => ?_)
      refine lv_goto (tgt := 28) hx hb dX10_reads_238 (by decide) ?_
      exact k1 H locs ls h (lv_sub hl [5, 0] rfl)
  · skip
    exact absurd c_115 (by decide)
theorem getD_app1 {xs ys : List Int32} {i : Nat} (h : i < xs.length) : (xs ++ ys).getD i 0 = xs.getD i 0 := by
  rw [List.getD_eq_getElem?_getD, List.getD_eq_getElem?_getD, List.getElem?_append_left h]
theorem getD_app2 {xs ys : List Int32} {i : Nat} (h : xs.length ≤ i) : (xs ++ ys).getD i 0 = ys.getD (i - xs.length) 0 := by
  rw [List.getD_eq_getElem?_getD, List.getD_eq_getElem?_getD, List.getElem?_append_right h]
theorem wrR_at {f : Nat → Int32} {p i : Nat} {xs : List Int32} (h : i < xs.length) : wrR f p xs (p + i) = xs.getD i 0 := by
  unfold wrR
  rw [if_pos (by omega), Nat.add_sub_cancel_left]
theorem wrR_out {f : Nat → Int32} {p q : Nat} {xs : List Int32} (h : ¬ (p ≤ q ∧ q < p + xs.length)) : wrR f p xs q = f q := by
  unfold wrR
  rw [if_neg h]
theorem rowL_xs {f : Nat → Int32} {a : Nat} {xs : List Int32} {c : Nat} (hc : xs.length = c) (h : ∀ i, i < c → f (a + i) = xs.getD i 0) : rowL f a c = xs := by
  subst hc
  exact rowL_list xs a h
theorem rb_i {xs : List Int32} {e : Nat} {k : List Int32 → Nat → RdR} : rb (.inl (xs, e)) k = k xs e := rfl
theorem rb_f {f q : Nat} {k : List Int32 → Nat → RdR} : rb (.inr (f, q)) k = .inr (f, q) := rfl
theorem rF.of {L k0 : Nat} {x : Int32} {sc : Nat → Int32} {ar : Nat → Nat → Int32} (h0 : 42 ≤ k0 ∧ k0 ≤ 50) : rF L sc ar sc (va_up ar k0 (upd (ar k0) L x)) := ⟨fun _ _ _ => rfl, fun k a b => va_up_ne _ _ (by omega), fun k q a b => vG (by omega) rfl k⟩
set_option maxHeartbeats 4000000 in
set_option maxRecDepth 100000 in
theorem rdM {p : Program} {l : Launch} {e : Env} {s : State} {m : MethodId} {args : Array Value} {below : List Frame} {meth : Method} {c : Code} {Q : State → Prop} {z : bZ} {v : bV} {wt : Nat → Nat → Nat} {dp : Nat → Nat} {K n : Nat} {t : Nat → Nat} (C : cX z p m c cX10_reads 9 s args RX10) (hK4 : K ≤ 40) (ht : ∀ j, t j < 256) : ∀ w, w < K → rBig p l e s m args below meth c Q z v wt dp K t n w := by
  intro w
  induction w using Nat.strongRecOn with
  | ind w ih =>
  intro hw sc ar H locs ls L cnt to us p0 hpre h hl k1 k0
  obtain ⟨hRW, ⟨g42, g43, g44, g45⟩, ⟨hLd, hto, hc4, hnd⟩, g29, ⟨g32, hpn⟩, g33, ⟨g23, hn8⟩, hT⟩ := hpre
  have hok : ∀ q, q ≤ w → wOK wt dp q := fun q hq => (hRW q (by omega)).2.2.2.2.2.2
  have hRWf : ∀ {sc1 : Nat → Int32} {ar1 : Nat → Nat → Int32}, rF L sc ar sc1 ar1 → RW wt dp K ar1 := fun hF => hRW.fr2 (fun k hk => hF.2.1 k (by omega) (by omega))
  have h33f : ∀ {sc1 : Nat → Int32} {ar1 : Nat → Nat → Int32}, rF L sc ar sc1 ar1 → sc1 33 = nI 0 := fun hF => (hF.1 33 (by decide) (by decide)).trans g33
  have hid : rF L sc ar sc ar := ⟨fun _ _ _ => rfl, fun _ _ _ => rfl, fun _ _ _ _ => rfl⟩
  have noG : ∀ {sc1 : Nat → Int32} {ar1 : Nat → Nat → Int32} {f q : Nat} {x : Int32} {st : Nat}, rF L sc ar sc1 ar1 → rG sc ar (va_up (va_up sc1 33 (nI f)) 34 (nI q)) (va_up ar1 45 (upd (ar1 45) L (nI st))) := fun hF => ⟨fun i a b c d => (va_up_ne _ _ d).trans ((va_up_ne _ _ c).trans (hF.1 i a b)), fun k a b => (va_up_ne _ _ (by omega)).trans (hF.2.1 k a b)⟩
  rcases hok w (Nat.le_refl _) with q0 | q0 | q0
  · have hk0 : wt w 0 = 0 := q0.1
    obtain ⟨⟨hB1, hB5⟩, ⟨hH1, hH2⟩, hS, hD, hdp0⟩ := codOK (hok w (Nat.le_refl _)) hk0
    refine rs_cod (us := us) C hK4 hRW hw (by omega) g42 g43 g44 hc4 g33 hk0 g45 ht g32 hpn g23 hn8 hT (by omega) h hl (fun xs e0 H locs ls ho h hl => ?_) (fun f0 q0 x0 g0 H locs ls ho h hl => ?_)
    · have e1 : RD wt dp t n w cnt p0 = .inl (xs, e0) := (RD_cod hk0).trans ho
      obtain ⟨b1, b2, b3⟩ := RD_bd ht w hok _ _ _ _ e1
      exact k1 _ _ H locs ls xs e0 e1 ⟨⟨fun i a b => va_up_ne _ _ b, fun k a b => (va_up_ne _ _ a).trans (va_up_ne _ _ (by omega)), fun k q a b => by rw [va_up_ne _ _ b]; exact vG (by omega) rfl k⟩, va_up_self _ _ _, ⟨us, (va_up_ne _ _ (by decide)).trans g29, Nat.le_refl _, by omega⟩, fun q hq hn => by rw [va_up_self, wrR_out (by omega)], fun i hi => by rw [va_up_self, wrR_at (by omega)]⟩ h hl
    · have e1 : RD wt dp t n w cnt p0 = .inr (f0, q0) := (RD_cod hk0).trans ho
      exact k0 _ _ H locs ls f0 q0 e1 ⟨fun i a b c d => (va_up_ne _ _ d).trans ((va_up_ne _ _ c).trans (va_up_ne _ _ b)), fun k a b => (va_up_ne _ _ a).trans (va_up_ne _ _ (by omega))⟩ ((va_up_ne _ _ (by decide)).trans (va_up_self _ _ _)) (va_up_self _ _ _) (by have := rdL_ft _ _ _ _ _ ho; omega) h hl
  · have hk0 : wt w 0 = 1 := q0.1
    obtain ⟨hn4, hj2, hj3, hd2, hd3, hd4⟩ := runOK (hok w (Nat.le_refl _)) hk0
    obtain ⟨kk, hkk⟩ : ∃ kk, kk = min (wt w 1) cnt := ⟨_, rfl⟩
    have eRD := RD_run (t := t) (n := n) (cnt := cnt) (p := p0) hok hk0
    rw [← hkk] at eRD
    have hnr := nd_run (d := dp w - 1) (a := kk) (b := cnt - kk)
    rw [show dp w - 1 + 1 = dp w by omega, show kk + (cnt - kk) = cnt by omega] at hnr
    have hn2 : nd (dp (wt w 2)) kk ≤ nd (dp w - 1) kk := nd_mono (by omega) (Nat.le_refl _)
    have hn3 : nd (dp (wt w 3)) (cnt - kk) ≤ nd (dp w - 1) (cnt - kk) := nd_mono (by omega) (Nat.le_refl _)
    refine rs_run0 (p0 := p0) C hK4 hRW hw (by omega) g42 g43 g44 hc4 g33 hk0 hn4 hkk g45 g29 h hl (fun scA arA H locs ls hN fa hk h hl => ?_)
    refine rGo ht (ih _ hj2 (by omega)) (by omega) hRW g33 g23 hn8 hT hid hN g32 hpn ⟨by omega, by omega, by omega, by omega⟩ h hl (fun sc1 ar1 H locs ls xs e1 us1 r1 l1 n1 f1 u1 v1 c1 lv1 po1 px1 h hl => ?_) (fun sc2 ar2 H1 locs1 ls1 f q r1 g a b hf h hl => k0 sc2 ar2 H1 locs1 ls1 f q (by rw [eRD, r1]; rfl) g a b hf h hl)
    have A1 : ∀ k, k ≠ 36 → k ≠ 45 → ar1 k L = ar k L := fun k a b => (lv1 k a).trans (hk k b)
    refine rs_run1 (p0 := p0) C hK4 (hRWf f1) hw (by omega) ((A1 42 (by decide) (by decide)).trans g42) ((A1 43 (by decide) (by decide)).trans g43) ((A1 44 (by decide) (by decide)).trans g44) hc4 (h33f f1) hk0 hn4 hkk ((lv1 45 (by decide)).trans fa) u1 h hl (fun scA2 arA2 H locs ls hN2 fa2 hk2 h hl => ?_)
    refine rGo ht (ih _ hj3 (by omega)) (by omega) hRW g33 g23 hn8 hT f1 hN2 c1 n1 ⟨by omega, by omega, by omega, by omega⟩ h hl (fun sc2 ar2 H locs ls ys e2 us2 r2 l2 n2 f2 u2 v2 c2 lv2 po2 px2 h hl => ?_) (fun sc2 ar2 H1 locs1 ls1 f q r2 g a b hf h hl => k0 sc2 ar2 H1 locs1 ls1 f q (by rw [eRD, r1, rb_i, r2]; rfl) g a b hf h hl)
    have A2 : ∀ k, k ≠ 36 → k ≠ 45 → ar2 k L = ar k L := fun k a b => (lv2 k a).trans ((hk2 k b).trans (A1 k a b))
    refine rs_run2 (us := us) (p0 := p0) C hK4 (hRWf f2) hw (by omega) ((A2 42 (by decide) (by decide)).trans g42) ((A2 43 (by decide) (by decide)).trans g43) ((A2 44 (by decide) (by decide)).trans g44) hc4 (h33f f2) hk0 hn4 hkk ((lv2 45 (by decide)).trans fa2) h hl (fun H locs ls h hl => ?_)
    refine k1 _ _ H locs ls (xs ++ ys) e2 (by rw [eRD, r1, rb_i, r2]; rfl) ⟨f2.trans (rF.of (by decide)), c2, ⟨us2, u2, by omega, by omega⟩, fun q hq hn => ?_, fun i hi => ?_⟩ h hl
    · rw [va_up_ne _ _ (by decide), po2 q (by omega) (by omega), po1 q (by omega) (by omega)]
    · rw [va_up_ne _ _ (by decide)]
      by_cases hik : i < kk
      · rw [po2 (to + i) (by omega) (by omega), px1 i hik, getD_app1 (by omega)]
      · have e := px2 (i - kk) (by omega)
        rw [show to + kk + (i - kk) = to + i by omega] at e
        rw [e, getD_app2 (by omega), l1]
  · have hk0 : wt w 0 = 2 := q0.1
    obtain ⟨hm, hj2, hj3, hj4, hd2, hd3, hd4, hd5⟩ := popOK (hok w (Nat.le_refl _)) hk0
    have eRD := RD_pop (t := t) (n := n) (cnt := cnt) (p := p0) hok hk0
    have hnd0 : ∀ k o, k ≤ 50 → o ≤ cnt → 51 + 2 * cnt + (nd (dp (wt w 2)) 1 + (nd (dp (wt w 2)) k + (nd (dp (wt w 3)) cnt + nd (dp (wt w 4)) o))) ≤ nd (dp w) cnt := fun k o hk ho => by
      have hnp := nd_pop (d := dp w - 1) (c := cnt) (o := o) hk ho
      rw [show dp w - 1 + 1 = dp w by omega] at hnp
      have h1 : nd (dp (wt w 2)) 1 ≤ nd (dp w - 1) 1 := nd_mono (by omega) (Nat.le_refl _)
      have h2 : nd (dp (wt w 2)) k ≤ nd (dp w - 1) k := nd_mono (by omega) (Nat.le_refl _)
      have h3 : nd (dp (wt w 3)) cnt ≤ nd (dp w - 1) cnt := nd_mono (by omega) (Nat.le_refl _)
      have h4 : nd (dp (wt w 4)) o ≤ nd (dp w - 1) o := nd_mono (by omega) (Nat.le_refl _)
      omega
    have hz0 := hnd0 0 0 (by omega) (by omega)
    refine rs_pop0 C hK4 hRW hw (by omega) g42 g43 g44 hc4 g33 hk0 g45 g29 g32 h hl (fun scA arA H locs ls hN fa hk h hl => ?_)
    refine rGo ht (ih _ hj2 (by omega)) (by omega) hRW g33 g23 hn8 hT hid hN g32 hpn ⟨by omega, by omega, by omega, by omega⟩ h hl (fun sc1 ar1 H locs ls hd e1 us1 r1 l1 n1 f1 u1 v1 c1 lv1 po1 px1 h hl => ?_) (fun sc2 ar2 H1 locs1 ls1 f q r1 g a b hf h hl => k0 sc2 ar2 H1 locs1 ls1 f q (by rw [eRD, r1]; rfl) g a b hf h hl)
    have A1 : ∀ k, k ≠ 36 → k ≠ 45 → k ≠ 46 → k ≠ 50 → ar1 k L = ar k L := fun k a b c d => (lv1 k a).trans (hk k b c d)
    rw [r1, rb_i] at eRD
    refine rs_pop1 C hK4 (hRWf f1) hw (by omega) ((A1 42 (by decide) (by decide) (by decide) (by decide)).trans g42) ((A1 43 (by decide) (by decide) (by decide) (by decide)).trans g43) ((A1 44 (by decide) (by decide) (by decide) (by decide)).trans g44) hc4 (h33f f1) hk0 ((lv1 45 (by decide)).trans fa.1) u1 c1 ((lv1 46 (by decide)).trans fa.2.1) (r0 := us) (by omega) ((lv1 50 (by decide)).trans fa.2.2) (px1 0 (by omega)) h hl (fun hbd H locs ls h hl => k0 _ _ H locs ls 3 p0 (by rw [eRD, if_pos hbd]) (noG (x := 0) f1) ((va_up_ne _ _ (by decide)).trans (va_up_self _ _ _)) (va_up_self _ _ _) (by decide) h hl) (fun kn hkm hkI scA2 arA2 H locs ls hN2 fa2 hk2 h hl => ?_)
    have hz1 := hnd0 kn cnt (by omega) (Nat.le_refl _)
    have hnb : ¬ (hd.getD 0 0 < 0 ∨ nI (wt w 1) < hd.getD 0 0) := by
      rw [hkI]
      rintro (q | q)
      · exact absurd q (nI_pos (by omega))
      · have := (nI_ltI (by omega) (by omega)).mp q; omega
    rw [if_neg hnb, hkI, nI_clamp (by omega)] at eRD
    refine rGo ht (ih _ hj2 (by omega)) (by omega) hRW g33 g23 hn8 hT f1 hN2 c1 n1 ⟨by omega, by omega, by omega, by omega⟩ h hl (fun sc2 ar2 H locs ls F e2 us2 r2 l2 n2 f2 u2 v2 c2 lv2 po2 px2 h hl => ?_) (fun sc2 ar2 H1 locs1 ls1 f q r2 g a b hf h hl => k0 sc2 ar2 H1 locs1 ls1 f q (by rw [eRD, r2]; rfl) g a b hf h hl)
    have A2 : ∀ k, k ≠ 36 → k ≠ 45 → k ≠ 47 → ar2 k L = ar1 k L := fun k a b c => (lv2 k a).trans (hk2 k b c)
    rw [r2, rb_i] at eRD
    have B2 : ∀ k, k ≠ 36 → k ≠ 45 → k ≠ 46 → k ≠ 47 → k ≠ 50 → ar2 k L = ar k L := fun k a b c d e => (A2 k a b d).trans (A1 k a b c e)
    have k46 : ar2 46 L = nI us := (A2 46 (by decide) (by decide) (by decide)).trans ((lv1 46 (by decide)).trans fa.2.1)
    refine rs_pop2 C hK4 (hRWf f2) hw (by omega) ((B2 42 (by decide) (by decide) (by decide) (by decide) (by decide)).trans g42) ((B2 43 (by decide) (by decide) (by decide) (by decide) (by decide)).trans g43) ((B2 44 (by decide) (by decide) (by decide) (by decide) (by decide)).trans g44) hc4 (h33f f2) hk0 ((lv2 45 (by decide)).trans fa2.1) u2 c2 k46 (by omega) h hl (fun scA3 arA3 H locs ls hN3 fa3 hk3 h hl => ?_)
    refine rGo ht (ih _ hj3 (by omega)) (by omega) hRW g33 g23 hn8 hT f2 hN3 c2 n2 ⟨by omega, by omega, by omega, by omega⟩ h hl (fun sc3 ar3 H locs ls T e3 us3 r3 l3 n3 f3 u3 v3 c3 lv3 po3 px3 h hl => ?_) (fun sc2 ar2 H1 locs1 ls1 f q r3 g a b hf h hl => k0 sc2 ar2 H1 locs1 ls1 f q (by rw [eRD, r3]; rfl) g a b hf h hl)
    rw [r3, rb_i] at eRD
    have A3 : ∀ k, k ≠ 36 → k ≠ 45 → k ≠ 48 → k ≠ 50 → ar3 k L = ar2 k L := fun k a b c d => (lv3 k a).trans (hk3 k b c d)
    have B3 : ∀ k, k ≠ 36 → k ≠ 45 → k ≠ 46 → k ≠ 47 → k ≠ 48 → k ≠ 50 → ar3 k L = ar k L := fun k a b c d e f => (A3 k a b e f).trans (B2 k a b c d f)
    have k46b : ar3 46 L = nI us := (A3 46 (by decide) (by decide) (by decide) (by decide)).trans k46
    have k47b : ar3 47 L = nI us1 := (A3 47 (by decide) (by decide) (by decide) (by decide)).trans ((lv2 47 (by decide)).trans fa2.2)
    have eT : rowL (ar3 36) us2 cnt = T := rowL_xs l3 px3
    have ek2 : ar2 36 us = nI kn := by rw [po2 us (by omega) (by omega)]; exact (px1 0 (by omega)).trans hkI
    have ek3 : ar3 36 us = nI kn := (po3 us (by omega) (by omega)).trans ek2
    refine rs_pop3 C hK4 (hRWf f3) hw (by omega) ((B3 42 (by decide) (by decide) (by decide) (by decide) (by decide) (by decide)).trans g42) ((B3 43 (by decide) (by decide) (by decide) (by decide) (by decide) (by decide)).trans g43) ((B3 44 (by decide) (by decide) (by decide) (by decide) (by decide) (by decide)).trans g44) hc4 (h33f f3) hk0 ((lv3 45 (by decide)).trans fa3.1) u3 c3 k46b (by omega) ((lv3 50 (by decide)).trans fa3.2.2) ek3 (by omega) ((lv3 48 (by decide)).trans fa3.2.1) (by omega) h hl (fun hco H locs ls h hl => k0 _ _ H locs ls 3 e2 (by rw [eRD, ← eT, hco]) (noG (x := 0) f3) ((va_up_ne _ _ (by decide)).trans (va_up_self _ _ _)) (va_up_self _ _ _) (by decide) h hl) (fun on hco scA4 arA4 H locs ls hN4 fa4 hk4 h hl => ?_)
    rw [eT] at hco
    obtain ⟨hoc, htk⟩ := cO_tok hco
    rw [l3] at hoc
    have hz2 := hnd0 kn on (by omega) hoc
    refine rGo ht (ih _ hj4 (by omega)) (by omega) hRW g33 g23 hn8 hT f3 hN4 c3 n3 ⟨by omega, by omega, by omega, by omega⟩ h hl (fun sc4 ar4 H locs ls O e4 us4 r4 l4 n4 f4 u4 v4 c4 lv4 po4 px4 h hl => ?_) (fun sc2 ar2 H1 locs1 ls1 f q r4 g a b hf h hl => k0 sc2 ar2 H1 locs1 ls1 f q (by rw [eRD, hco]; show rb (RD wt dp t n (wt w 4) on e3) _ = _; rw [r4]; rfl) g a b hf h hl)
    have A4 : ∀ k, k ≠ 36 → k ≠ 45 → k ≠ 49 → ar4 k L = ar3 k L := fun k a b c => (lv4 k a).trans (hk4 k b c)
    have B4 : ∀ k, k ≠ 36 → k ≠ 45 → k ≠ 46 → k ≠ 47 → k ≠ 48 → k ≠ 49 → k ≠ 50 → ar4 k L = ar k L := fun k a b c d e f g => (A4 k a b f).trans (B3 k a b c d e g)
    have eT4 : rowL (ar4 36) us2 cnt = T := rowL_xs l3 (fun i hi => (po4 (us2 + i) (by omega) (by omega)).trans (px3 i hi))
    refine rs_pop4 (us := us) (p0 := p0) C hK4 (hRWf f4) hw (by omega) ((B4 42 (by decide) (by decide) (by decide) (by decide) (by decide) (by decide) (by decide)).trans g42) ((B4 43 (by decide) (by decide) (by decide) (by decide) (by decide) (by decide) (by decide)).trans g43) ((B4 44 (by decide) (by decide) (by decide) (by decide) (by decide) (by decide) (by decide)).trans g44) hc4 (h33f f4) hk0 ((lv4 45 (by decide)).trans fa4.1) (r0 := us) (k := kn) (tk0 := us2) (o0 := us3) (fv0 := us1) ((A4 46 (by decide) (by decide) (by decide)).trans k46b) (by omega) ((po4 us (by omega) (by omega)).trans ek3) (by omega) ((A4 47 (by decide) (by decide) (by decide)).trans k47b) ((A4 48 (by decide) (by decide) (by decide)).trans ((lv3 48 (by decide)).trans fa3.2.1)) ((lv4 49 (by decide)).trans fa4.2) (by omega) (by omega) (by omega) (by omega) (by omega) (fun i hi => ?_) h hl (fun H locs ls h hl => ?_)
    · rw [po4 (us2 + i) (by omega) (by omega), px3 i hi]
      have hmem : T.getD i 0 ∈ T := by
        rw [List.getD_eq_getElem?_getD, List.getElem?_eq_getElem (by omega)]
        exact List.getElem_mem _
      obtain ⟨a1, a2⟩ := htk _ hmem
      obtain ⟨τ, hτ, e⟩ := nI_of a1
      rw [e] at a2
      exact ⟨τ, (nI_leI hτ (by omega)).mp a2, e⟩
    · rw [eT4] at h
      have hF4 : rpL (fun j => ar4 36 (us1 + j - 1)) (fun j => ar4 36 (us3 + j)) 0 T = rpL (fun j => F.getD (j - 1) 0) (fun j => O.getD j 0) 0 T := by
        refine rpL_cg (kn := kn) (by omega) (fun j h1 h2 => ?_) hco (fun j h1 h2 => ?_)
        · have e := px2 (j - 1) (by omega)
          show ar4 36 (us1 + j - 1) = F.getD (j - 1) 0
          rw [show us1 + j - 1 = us1 + (j - 1) by omega, po4 (us1 + (j - 1)) (by omega) (by omega), po3 (us1 + (j - 1)) (by omega) (by omega), e]
        · exact px4 j (by omega)
      rw [hF4] at h
      have hlen : (rpL (fun j => F.getD (j - 1) 0) (fun j => O.getD j 0) 0 T).length = cnt := by rw [rpL_len, l3]
      refine k1 _ _ H locs ls _ e4 (by rw [eRD, hco]; show rb (RD wt dp t n (wt w 4) on e3) _ = _; rw [r4]; rfl) ⟨⟨f4.1, fun k a b => (va_up_ne _ _ a).trans ((va_up_ne _ _ (by omega)).trans (f4.2.1 k a b)), fun k q a b => ?_⟩, c4, ⟨us4, u4, by omega, by omega⟩, fun q hq hn => ?_, fun i hi => ?_⟩ h hl
      · rw [va_up_ne _ _ b]
        exact (vG (by omega) rfl k).trans (f4.2.2 k q a b)
      · rw [va_up_self, wrR_out (by rw [hlen]; omega), po4 q (by omega) (by omega), po3 q (by omega) (by omega), po2 q (by omega) (by omega), po1 q (by omega) (by omega)]
      · rw [va_up_self, wrR_at (by rw [hlen]; exact hi)]

