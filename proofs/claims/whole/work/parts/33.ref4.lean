/-! The reference: writing by tasks. -/
def nA : Nat → Nat
  | 0 => 0
  | d + 1 => 2 + 2 * nA d
def nB : Nat → Nat
  | 0 => 0
  | d + 1 => 51 + 51 * nA d + 4 * nB d
/-- how many places of the pool a task may take -/
def nd (d c : Nat) : Nat := nA d * c + nB d
theorem nA_mono {d d' : Nat} (h : d ≤ d') : nA d ≤ nA d' := by
  induction h with
  | refl => exact Nat.le_refl _
  | step h ih => exact Nat.le_trans ih (by show nA _ ≤ 2 + 2 * nA _; omega)
theorem nB_mono {d d' : Nat} (h : d ≤ d') : nB d ≤ nB d' := by
  induction h with
  | refl => exact Nat.le_refl _
  | step h ih => exact Nat.le_trans ih (by show nB _ ≤ 51 + 51 * nA _ + 4 * nB _; omega)
theorem nd_mono {d d' c c' : Nat} (h : d ≤ d') (hc : c ≤ c') : nd d c ≤ nd d' c' := Nat.add_le_add (Nat.mul_le_mul (nA_mono h) hc) (nB_mono h)
theorem nd_le {d c : Nat} (h : d ≤ 4) (hc : c ≤ 400) : nd d c ≤ 19905 := Nat.le_trans (nd_mono h hc) (by decide)
theorem nd_run {d a b : Nat} : nd d a + nd d b ≤ nd (d + 1) (a + b) := by
  unfold nd
  show _ ≤ (2 + 2 * nA d) * (a + b) + (51 + 51 * nA d + 4 * nB d)
  have e1 : (2 + 2 * nA d) * (a + b) = 2 * (a + b) + (nA d * a + nA d * b) + (nA d * a + nA d * b) := by
    rw [← Nat.mul_add, Nat.add_mul, Nat.mul_assoc]; omega
  rw [e1]; omega
theorem nd_pop {d c o k : Nat} (hk : k ≤ 50) (ho : o ≤ c) : 51 + 2 * c + (nd d 1 + (nd d k + (nd d c + nd d o))) ≤ nd (d + 1) c := by
  unfold nd
  show _ ≤ (2 + 2 * nA d) * c + (51 + 51 * nA d + 4 * nB d)
  have e1 : (2 + 2 * nA d) * c = 2 * c + nA d * c + nA d * c := by rw [Nat.add_mul, Nat.mul_assoc]; omega
  have e2 : nA d * k ≤ nA d * 50 := Nat.mul_le_mul_left _ hk
  have e3 : nA d * o ≤ nA d * c := Nat.mul_le_mul_left _ ho
  rw [e1]; omega
theorem rowL_cg {f g : Nat → Int32} : ∀ (k a : Nat), (∀ i, i < k → f (a + i) = g (a + i)) → rowL f a k = rowL g a k
  | 0, _, _ => rfl
  | k + 1, a, h => by
    have e := rowL_cg (f := f) (g := g) k (a + 1) (fun i hi => by
      have := h (i + 1) (by omega)
      rw [show a + 1 + i = a + (i + 1) by omega]
      exact this)
    rw [rowL_step (by omega), rowL_step (f := g) (by omega), Nat.add_sub_cancel, show f a = g a from h 0 (by omega), e]
theorem wrC_len {cb ch cs cd : Nat} : ∀ (xs : List Int32) (b : Int32) (bs : List Nat), wrC cb ch cs cd b xs = some bs → bs.length ≤ cb * xs.length
  | [], _, bs, h => by cases h; exact Nat.zero_le _
  | x :: xs, b, bs, h => by
    unfold wrC at h
    cases h1 : (cdO cs (toldI cd x b)).bind (enc cb ch) with
    | none => rw [h1] at h; cases h
    | some t =>
      rw [h1] at h
      cases h2 : wrC cb ch cs cd x xs with
      | none => simp [h2] at h
      | some r =>
        simp [h2] at h
        have h3 := wrC_len xs x r h2
        have h4 : t.length ≤ cb := by
          cases h5 : cdO cs (toldI cd x b) with
          | none => rw [h5] at h1; cases h1
          | some c => rw [h5] at h1; exact enc_len cb c t h1
        rw [← h, List.length_append, List.length_cons, Nat.mul_succ]
        omega
theorem cat2_some {a b : Option (List Nat)} {x : List Nat} (h : cat2 a b = some x) : ∃ p q, a = some p ∧ b = some q ∧ x = p ++ q := by
  rcases a with _ | p
  · cases h
  · rcases b with _ | q
    · cases h
    · cases h; exact ⟨p, q, rfl, rfl, rfl⟩
theorem cat2_nil (a : Option (List Nat)) : cat2 a (some []) = a := by
  rcases a with _ | p
  · rfl
  · show some (p ++ []) = some p; rw [List.append_nil]
theorem WR_len {wt : Nat → Nat → Nat} {dp : Nat → Nat} : ∀ (i : Nat), (∀ j, j ≤ i → wOK wt dp j) → ∀ (xs : List Int32) (bs : List Nat), WR wt dp i xs = some bs → bs.length ≤ Bd (dp i) xs.length := by
  intro i
  induction i using Nat.strongRecOn with
  | ind i ih =>
    intro hok xs bs h
    have sub : ∀ j, j < i → dp j < dp i → ∀ (ys : List Int32) (c : List Nat), WR wt dp j ys = some c → c.length ≤ Bd (dp i - 1) ys.length := fun j hj hd ys c e => Nat.le_trans (ih j hj (fun q hq => hok q (by omega)) ys c e) (Bd_mono (by omega) (Nat.le_refl _))
    rcases hok i (Nat.le_refl _) with q | q | q
    · rw [WR_cod q.1] at h
      have := wrC_len xs 0 bs h
      have h5 : wt i 1 * xs.length ≤ 5 * xs.length := Nat.mul_le_mul_right _ q.2.2.1.2
      rw [q.2.1]; unfold Bd; omega
    · rw [WR_run hok q.1] at h
      obtain ⟨a, b, ha, hb, rfl⟩ := cat2_some h
      have h1 := sub _ q.2.2.1 q.2.2.2.2.1 _ _ ha
      have h2 := sub _ q.2.2.2.1 q.2.2.2.2.2.1 _ _ hb
      have h3 := Bd_run (q := dp i - 1) (a := (xs.take (wt i 1)).length) (b := (xs.drop (wt i 1)).length)
      rw [show dp i - 1 + 1 = dp i by have := q.2.2.2.2.1; omega, show (xs.take (wt i 1)).length + (xs.drop (wt i 1)).length = xs.length by rw [List.length_take, List.length_drop]; omega] at h3
      rw [List.length_append]; omega
    · rw [WR_pop hok q.1] at h
      obtain ⟨a, b, ha, hb, rfl⟩ := cat2_some h
      obtain ⟨b1, b2, hb1, hb2, rfl⟩ := cat2_some hb
      obtain ⟨b3, b4, hb3, hb4, rfl⟩ := cat2_some hb2
      have h1 := sub _ q.2.2.1 q.2.2.2.2.2.1 _ _ ha
      have h2 := sub _ q.2.2.1 q.2.2.2.2.2.1 _ _ hb1
      have h3 := sub _ q.2.2.2.1 q.2.2.2.2.2.2.1 _ _ hb3
      have h4 := sub _ q.2.2.2.2.1 q.2.2.2.2.2.2.2.1 _ _ hb4
      have hk : (favL (wt i 1) xs).length ≤ 50 := Nat.le_trans (by unfold favL; exact favs_len) q.2.1.2
      have h5 := Bd_pop (q := dp i - 1) (c := xs.length) (o := (othL (favL (wt i 1) xs) xs).length) hk (othL_le _ _)
      rw [show dp i - 1 + 1 = dp i by have := q.2.2.2.2.2.1; omega] at h5
      have e3 : (tokL (favL (wt i 1) xs) xs).length = xs.length := by unfold tokL; rw [List.length_map]
      rw [e3] at h3
      rw [show ([nI (favL (wt i 1) xs).length] : List Int32).length = 1 from rfl] at h1
      rw [List.length_append, List.length_append, List.length_append]
      omega
theorem enc_pos {h : Nat} : ∀ (m c : Nat) (bs : List Nat), enc m h c = some bs → 1 ≤ bs.length
  | 0, _, _, e => by cases e
  | 1, c, bs, e => by
    unfold enc at e
    split at e
    · cases e; exact Nat.le_refl _
    · cases e
  | m + 2, c, bs, e => by
    unfold enc at e
    split at e
    · cases e; simp
    · cases hr : enc (m + 1) h ((c - (256 - h)) / h) with
      | none => rw [hr] at e; cases e
      | some t => rw [hr] at e; cases e; simp
/-- what writing leaves as it was -/
def wFr (sc : Nat → Int32) (ar : Nat → Nat → Int32) (sc1 : Nat → Int32) (ar1 : Nat → Nat → Int32) : Prop := (∀ i, i ≠ 29 → i ≠ 30 → i ≠ 31 → sc1 i = sc i) ∧ ∀ k, ¬ (36 ≤ k ∧ k ≤ 41) → ar1 k = ar k
theorem wFr.trans {sc sc1 sc2 : Nat → Int32} {ar ar1 ar2 : Nat → Nat → Int32} (h : wFr sc ar sc1 ar1) (h2 : wFr sc1 ar1 sc2 ar2) : wFr sc ar sc2 ar2 := ⟨fun i a b c => (h2.1 i a b c).trans (h.1 i a b c), fun k a => (h2.2 k a).trans (h.2 k a)⟩
theorem RW.fr {wt : Nat → Nat → Nat} {dp : Nat → Nat} {K : Nat} {ar ar1 : Nat → Nat → Int32} (h : RW wt dp K ar) (hf : ∀ k, ¬ (36 ≤ k ∧ k ≤ 41) → ar1 k = ar k) : RW wt dp K ar1 := fun i hi => by
  rw [hf 28 (by omega), hf 29 (by omega), hf 30 (by omega), hf 31 (by omega), hf 32 (by omega), hf 33 (by omega)]
  exact h i hi
def wPo (T us wr need : Nat) (bs : List Nat) (sc : Nat → Int32) (ar : Nat → Nat → Int32) (sc1 : Nat → Int32) (ar1 : Nat → Nat → Int32) : Prop := wFr sc ar sc1 ar1 ∧ sc1 30 = nI T ∧ sc1 31 = nI (wr + bs.length) ∧ (∃ us', sc1 29 = nI us' ∧ us ≤ us' ∧ us' ≤ us + need) ∧ (∀ q, q < T → ar1 37 q = ar 37 q ∧ ar1 38 q = ar 38 q ∧ ar1 39 q = ar 39 q) ∧ (∀ q, q < us → ar1 36 q = ar 36 q) ∧ ar1 41 = wrO (ar 41) wr bs
def wPre (wt : Nat → Nat → Nat) (dp : Nat → Nat) (K w T f cnt us wr : Nat) (sc : Nat → Int32) (ar : Nat → Nat → Int32) : Prop := RW wt dp K ar ∧ sc 30 = nI (T + 1) ∧ ar 37 T = nI w ∧ ar 38 T = nI f ∧ ar 39 T = nI cnt ∧ T + 3 * dp w ≤ 12 ∧ f + cnt ≤ us ∧ cnt ≤ 400 ∧ sc 29 = nI us ∧ us + nd (dp w) cnt ≤ 40000 ∧ sc 31 = nI wr ∧ wr + Bd (dp w) cnt < 2 ^ 29
def rmR : Room := { frames := 12, cells := 0, slots := 0, locals := 400 }
section BIGW
variable (p : Program) (l : Launch) (e : Env) (s : State) (m : MethodId) (args : Array Value) (below : List Frame) (meth : Method) (c : Code) (Q : State → Prop) (z : bZ) (v : bV) (wt : Nat → Nat → Nat) (dp : Nat → Nat) (K : Nat)
/-- a task, from the loop's head to the loop's head, or to the place where the loop gives up -/
def wBig (w : Nat) : Prop := ∀ (sc : Nat → Int32) (ar : Nat → Nat → Int32) (H : Heap) (locs : List Loc) (ls : Array Slot) (T f cnt us wr : Nat), wPre wt dp K w T f cnt us wr sc ar → hH z v sc ar s H locs → lv_has ls 8 [(0, .ref (zad z 27))] →
  (∀ (sc1 : Nat → Int32) (ar1 : Nat → Nat → Int32) (H1 : Heap) (locs1 : List Loc) (ls1 : Array Slot) (bs : List Nat), WR wt dp w (rowL (ar 36) f cnt) = some bs → wPo T us wr (nd (dp w) cnt) bs sc ar sc1 ar1 → hH z v sc1 ar1 s H1 locs1 → lv_has ls1 8 [(0, .ref (zad z 27))] → W p l e rmR s m args below meth c H1 locs1 0 0 Q (F0 m 56 ls1 [])) →
  (∀ (sc1 : Nat → Int32) (ar1 : Nat → Nat → Int32) (H1 : Heap) (locs1 : List Loc) (ls1 : Array Slot), WR wt dp w (rowL (ar 36) f cnt) = none → wFr sc ar sc1 ar1 → hH z v sc1 ar1 s H1 locs1 → lv_has ls1 8 [(0, .ref (zad z 27))] → W p l e rmR s m args below meth c H1 locs1 0 0 Q (F0 m 236 ls1 [])) →
  W p l e rmR s m args below meth c H locs 0 0 Q (F0 m 56 ls [])
def stk (ar : Nat → Nat → Int32) (T : Nat) : List (Nat × Nat × Nat) → Prop
  | [] => True
  | (w, f, c) :: L => (ar 37 (T + L.length) = nI w ∧ ar 38 (T + L.length) = nI f ∧ ar 39 (T + L.length) = nI c) ∧ stk ar T L
def tsOK (us T : Nat) : List (Nat × Nat × Nat) → Prop
  | [] => True
  | (w, f, c) :: L => (w < K ∧ f + c ≤ us ∧ c ≤ 400 ∧ T + L.length + 3 * dp w ≤ 12) ∧ tsOK us T L
def ndS : List (Nat × Nat × Nat) → Nat
  | [] => 0
  | (w, _, c) :: L => nd (dp w) c + ndS L
def bdL : List (Nat × Nat × Nat) → Nat
  | [] => 0
  | (w, _, c) :: L => Bd (dp w) c + bdL L
def mW (P : Nat → Int32) : List (Nat × Nat × Nat) → Option (List Nat)
  | [] => some []
  | (w, f, c) :: L => cat2 (WR wt dp w (rowL P f c)) (mW P L)
variable {p l e s m args below meth c Q z v wt dp K}
theorem stk_fr {ar ar1 : Nat → Nat → Int32} {T : Nat} : ∀ (L : List (Nat × Nat × Nat)), (∀ q, q < T + L.length → ar1 37 q = ar 37 q ∧ ar1 38 q = ar 38 q ∧ ar1 39 q = ar 39 q) → stk ar T L → stk ar1 T L
  | [], _, _ => trivial
  | (w, f, c) :: L, h, hs => by
    obtain ⟨h1, h2, h3⟩ := h (T + L.length) (by simp)
    refine ⟨?_, stk_fr L (fun q hq => h q (by simp; omega)) hs.2⟩
    rw [h1, h2, h3]; exact hs.1
theorem tsOK_up {us us' T : Nat} (hu : us ≤ us') : ∀ (L : List (Nat × Nat × Nat)), tsOK dp K us T L → tsOK dp K us' T L
  | [], _ => trivial
  | (w, f, c) :: L, h => ⟨⟨h.1.1, by have := h.1.2.1; omega, h.1.2.2⟩, tsOK_up hu L h.2⟩
theorem mW_cg {P P1 : Nat → Int32} {us T : Nat} (hp : ∀ q, q < us → P1 q = P q) : ∀ (L : List (Nat × Nat × Nat)), tsOK dp K us T L → mW wt dp P1 L = mW wt dp P L
  | [], _ => rfl
  | (w, f, c) :: L, h => by
    have h2 := h.1.2.1
    unfold mW
    rw [rowL_cg c f (fun i hi => hp (f + i) (by omega)), mW_cg hp L h.2]
theorem wSeq {T : Nat} : ∀ (L : List (Nat × Nat × Nat)), (∀ t, t ∈ L → wBig p l e s m args below meth c Q z v wt dp K t.1) → ∀ (sc : Nat → Int32) (ar : Nat → Nat → Int32) (H : Heap) (locs : List Loc) (ls : Array Slot) (us wr : Nat), RW wt dp K ar → sc 30 = nI (T + L.length) → stk ar T L → tsOK dp K us T L → sc 29 = nI us → us + ndS dp L ≤ 40000 → sc 31 = nI wr → wr + bdL dp L < 2 ^ 29 → hH z v sc ar s H locs → lv_has ls 8 [(0, .ref (zad z 27))] →
    (∀ (sc1 : Nat → Int32) (ar1 : Nat → Nat → Int32) (H1 : Heap) (locs1 : List Loc) (ls1 : Array Slot) (bs : List Nat), mW wt dp (ar 36) L = some bs → wPo T us wr (ndS dp L) bs sc ar sc1 ar1 → hH z v sc1 ar1 s H1 locs1 → lv_has ls1 8 [(0, .ref (zad z 27))] → W p l e rmR s m args below meth c H1 locs1 0 0 Q (F0 m 56 ls1 [])) →
    (∀ (sc1 : Nat → Int32) (ar1 : Nat → Nat → Int32) (H1 : Heap) (locs1 : List Loc) (ls1 : Array Slot), mW wt dp (ar 36) L = none → wFr sc ar sc1 ar1 → hH z v sc1 ar1 s H1 locs1 → lv_has ls1 8 [(0, .ref (zad z 27))] → W p l e rmR s m args below meth c H1 locs1 0 0 Q (F0 m 236 ls1 [])) →
    W p l e rmR s m args below meth c H locs 0 0 Q (F0 m 56 ls [])
  | [], _, sc, ar, H, locs, ls, us, wr, hRW, h30, _, _, h29, _, h31, _, h, hl, k1, _ =>
    k1 sc ar H locs ls [] rfl ⟨⟨fun _ _ _ _ => rfl, fun _ _ => rfl⟩, h30, h31, ⟨us, h29, Nat.le_refl _, Nat.le_add_right _ _⟩, fun _ _ => ⟨rfl, rfl, rfl⟩, fun _ _ => rfl, (wrO_nil _ _).symm⟩ h hl
  | (w, f, cnt) :: L, IH, sc, ar, H, locs, ls, us, wr, hRW, h30, hst, hts, h29, hroom, h31, hbd, h, hl, k1, k0 => by
    obtain ⟨⟨g1, g2, g3⟩, hst⟩ := hst
    obtain ⟨⟨t1, t2, t3, t4⟩, hts⟩ := hts
    unfold ndS at hroom
    unfold bdL at hbd
    have IHw : wBig p l e s m args below meth c Q z v wt dp K w := IH (w, f, cnt) List.mem_cons_self
    refine IHw sc ar H locs ls (T + L.length) f cnt us wr ⟨hRW, h30, g1, g2, g3, t4, t2, t3, h29, by omega, h31, by omega⟩ h hl (fun sc1 ar1 H locs ls b1 w1 po h hl => ?_) (fun sc1 ar1 H locs ls w1 fr h hl => k0 sc1 ar1 H locs ls (by unfold mW; rw [w1]; rfl) fr h hl)
    obtain ⟨fr, p30, p31, ⟨us1, p29, hu1, hu2⟩, pst, ppool, pout⟩ := po
    have hlen := WR_len w (fun q hq => (hRW q (by omega)).2.2.2.2.2.2) _ _ w1
    rw [rowL_len] at hlen
    refine wSeq L (fun t ht => IH t (List.mem_cons_of_mem _ ht)) sc1 ar1 H locs ls us1 (wr + b1.length) (hRW.fr fr.2) p30 (stk_fr L pst hst) (tsOK_up hu1 L hts) p29 (by omega) p31 (by omega) h hl (fun sc2 ar2 H locs ls b2 w2 po2 h hl => ?_) (fun sc2 ar2 H locs ls w2 fr2 h hl => k0 sc2 ar2 H locs ls (by unfold mW; rw [w1, ← mW_cg ppool L hts, w2]; rfl) (fr.trans fr2) h hl)
    obtain ⟨fr2, q30, q31, ⟨us2, q29, hv1, hv2⟩, qst, qpool, qout⟩ := po2
    refine k1 sc2 ar2 H locs ls (b1 ++ b2) (by unfold mW; rw [w1, ← mW_cg ppool L hts, w2]; rfl) ⟨fr.trans fr2, q30, by rw [q31, List.length_append, Nat.add_assoc], ⟨us2, q29, by omega, by unfold ndS; omega⟩, fun q hq => ?_, fun q hq => (qpool q (by omega)).trans (ppool q hq), by rw [qout, pout, wrO_app]⟩ h hl
    obtain ⟨a1, a2, a3⟩ := qst q hq
    obtain ⟨b1, b2, b3⟩ := pst q (by omega)
    exact ⟨a1.trans b1, a2.trans b2, a3.trans b3⟩
end BIGW
theorem tkA_37 {ar : Nat → Nat → Int32} {T w f c : Nat} : tkA ar T w f c 37 = upd (ar 37) T (nI w) := rfl
theorem tkA_38 {ar : Nat → Nat → Int32} {T w f c : Nat} : tkA ar T w f c 38 = upd (ar 38) T (nI f) := rfl
theorem tkA_39 {ar : Nat → Nat → Int32} {T w f c : Nat} : tkA ar T w f c 39 = upd (ar 39) T (nI c) := rfl
theorem tkA_o {ar : Nat → Nat → Int32} {T w f c k : Nat} (h : k ≠ 37) (h2 : k ≠ 38) (h3 : k ≠ 39) : tkA ar T w f c k = ar k := by
  unfold tkA
  rw [va_up_ne _ _ h3, va_up_ne _ _ h2, va_up_ne _ _ h]
theorem tkA_at {ar : Nat → Nat → Int32} {T w f c : Nat} : tkA ar T w f c 37 T = nI w ∧ tkA ar T w f c 38 T = nI f ∧ tkA ar T w f c 39 T = nI c := by
  rw [tkA_37, tkA_38, tkA_39]; exact ⟨pk_us, pk_us, pk_us⟩
theorem tkA_lo {ar : Nat → Nat → Int32} {T w f c q : Nat} (h : q ≠ T) : tkA ar T w f c 37 q = ar 37 q ∧ tkA ar T w f c 38 q = ar 38 q ∧ tkA ar T w f c 39 q = ar 39 q := by
  rw [tkA_37, tkA_38, tkA_39]; exact ⟨pk_un h, pk_un h, pk_un h⟩
theorem t3 {a b c a' b' c' x y w : Int32} (h : a = b ∧ a' = b' ∧ x = y) (h2 : b = c ∧ b' = c' ∧ y = w) : a = c ∧ a' = c' ∧ x = w := ⟨h.1.trans h2.1, h.2.1.trans h2.2.1, h.2.2.trans h2.2.2⟩
theorem wPo.conv {T us0 usA wr need needA : Nat} {bs : List Nat} {sc scA sc1 : Nat → Int32} {ar arA ar1 : Nat → Nat → Int32} (hs : ∀ i, i ≠ 29 → i ≠ 30 → i ≠ 31 → scA i = sc i) (ha : ∀ k, ¬ (36 ≤ k ∧ k ≤ 41) → arA k = ar k) (hst : ∀ q, q < T → arA 37 q = ar 37 q ∧ arA 38 q = ar 38 q ∧ arA 39 q = ar 39 q) (hp : ∀ q, q < us0 → arA 36 q = ar 36 q) (ho : arA 41 = ar 41) (hu : us0 ≤ usA) (hn : usA + needA ≤ us0 + need) (h : wPo T usA wr needA bs scA arA sc1 ar1) : wPo T us0 wr need bs sc ar sc1 ar1 := by
  obtain ⟨fr, p30, p31, ⟨us1, p29, hu1, hu2⟩, pst, ppool, pout⟩ := h
  exact ⟨wFr.trans ⟨hs, ha⟩ fr, p30, p31, ⟨us1, p29, by omega, by omega⟩, fun q hq => t3 (pst q hq) (hst q hq), fun q hq => (ppool q (by omega)).trans (hp q hq), by rw [pout, ho]⟩
theorem gv_X10_157 : GoodIn uW (wsV RX10 157 RX10 yX10_told (Cond.code yX10_told cX10_told 4 (some .int) :: uW)) := gI_V (uW_of (by decide +kernel) rfl) (uW_of (by decide +kernel) rfl) (uW_of (by decide +kernel) rfl) (uW_of (by decide +kernel) rfl) (uW_of (by decide +kernel) rfl)
theorem gv_X10_157_n : okN yX10_told 3 := by decide +kernel
theorem gv_X10_161 : GoodIn uW (wsV RX10 161 RX10 yX10_bytes (Cond.code yX10_bytes cX10_bytes 11 (some .int) :: uW)) := gI_V (uW_of (by decide +kernel) rfl) (uW_of (by decide +kernel) rfl) (uW_of (by decide +kernel) rfl) (uW_of (by decide +kernel) rfl) (uW_of (by decide +kernel) rfl)
theorem gv_X10_161_n : okN yX10_bytes 3 := by decide +kernel
theorem gv_X10_154 : GoodIn uW (wsV RX10 154 RX10 yX10_favours (Cond.code yX10_favours cX10_favours 12 none :: uW)) := gI_V (uW_of (by decide +kernel) rfl) (uW_of (by decide +kernel) rfl) (uW_of (by decide +kernel) rfl) (uW_of (by decide +kernel) rfl) (uW_of (by decide +kernel) rfl)
theorem gv_X10_154_n : okN yX10_favours 3 := by decide +kernel
set_option maxHeartbeats 4000000 in
set_option maxRecDepth 100000 in
theorem wrM {p : Program} {l : Launch} {e : Env} {s : State} {m : MethodId} {args : Array Value} {below : List Frame} {meth : Method} {c : Code} {Q : State → Prop} {z : bZ} {v : bV} {wt : Nat → Nat → Nat} {dp : Nat → Nat} {K : Nat} (C : cX z p m c cX10_writes 8 s args RX10) (hK4 : K ≤ 40) : ∀ w, w < K → wBig p l e s m args below meth c Q z v wt dp K w := by
  intro w
  induction w using Nat.strongRecOn with
  | ind w ih =>
  intro hw sc ar H locs ls T f cnt us wr hpre h hl k1 k0
  have hx := C.1.1
  have hb := C.1.2.1
  obtain ⟨hRW, g30, g37, g38, g39, gT, gf, gc, g29, gnd, g31, gbd⟩ := hpre
  rcases (hRW w hw).2.2.2.2.2.2 with q0 | q0 | q0
  · have hk0 : wt w 0 = 0 := q0.1
    obtain ⟨⟨hB1, hB5⟩, ⟨hH1, hH2⟩, hS, hD, hdp0⟩ := codOK (hRW w hw).2.2.2.2.2.2 hk0
    have hB0 : 5 * cnt ≤ Bd (dp w) cnt := by rw [hdp0]; unfold Bd; omega
    refine lv_aload_n hx hb dX10_writes_56 rfl (lv_at hl 0 rfl) ?_
    refine rg_X10_144 C h dX10_writes_57 ?_
    refine tI (y := nI (T + 1)) g30 ?_
    refine zN_le (tgt := 269) (a := T + 1) C (by omega) dX10_writes_60 (by decide) (fun c_60 => ?_) (fun c_60 => ?_)
    · skip
      omega
    · skip
      refine lv_aload_n hx hb dX10_writes_63 rfl (lv_at hl 0 rfl) ?_
      refine lv_dup hx hb dX10_writes_64 rfl ?_
      refine rg_X10_144 C h dX10_writes_65 ?_
      refine tI (y := nI (T + 1)) g30 ?_
      refine lv_iconst (v := nI (1)) hx hb dX10_writes_68 (by decide) ?_
      refine lv_isub hx hb dX10_writes_69 ?_
      refine tI (y := nI (T)) (nI_pred T) ?_
      refine rp_X10_144 C h dX10_writes_70 (fun H locs h => ?_)
      refine lv_aload_n hx hb dX10_writes_73 rfl (lv_at hl 0 rfl) ?_
      refine rg_X10_51 C h dX10_writes_74 ?_
      refine lv_aload_n hx hb dX10_writes_77 rfl (lv_at hl 0 rfl) ?_
      refine rg_X10_144 C h dX10_writes_78 ?_
      refine tI (y := nI (T)) rfl ?_
      refine ldA 37 rfl (j := T) (show T < 80 by omega) (by decide) C h dX10_writes_81 ?_
      refine tI (y := nI (w)) g37 ?_
      refine lv_istore_n (lv' := [(2, .int (nI (w))), (0, .ref (zad z 27))]) hx hb dX10_writes_82 rfl hl (by decide) rfl (fun ls hl => ?_)
      refine lv_aload_n hx hb dX10_writes_83 rfl (lv_at hl 1 rfl) ?_
      refine rg_X10_54 C h dX10_writes_84 ?_
      refine lv_aload_n hx hb dX10_writes_87 rfl (lv_at hl 1 rfl) ?_
      refine rg_X10_144 C h dX10_writes_88 ?_
      refine tI (y := nI (T)) rfl ?_
      refine ldA 38 rfl (j := T) (show T < 80 by omega) (by decide) C h dX10_writes_91 ?_
      refine tI (y := nI (f)) g38 ?_
      refine lv_istore_n (lv' := [(3, .int (nI (f))), (2, .int (nI (w))), (0, .ref (zad z 27))]) hx hb dX10_writes_92 rfl hl (by decide) rfl (fun ls hl => ?_)
      refine lv_aload_n hx hb dX10_writes_93 rfl (lv_at hl 2 rfl) ?_
      refine rg_X10_57 C h dX10_writes_94 ?_
      refine lv_aload_n hx hb dX10_writes_97 rfl (lv_at hl 2 rfl) ?_
      refine rg_X10_144 C h dX10_writes_98 ?_
      refine tI (y := nI (T)) rfl ?_
      refine ldA 39 rfl (j := T) (show T < 80 by omega) (by decide) C h dX10_writes_101 ?_
      refine tI (y := nI (cnt)) g39 ?_
      refine lv_istore (lv' := [(4, .int (nI (cnt))), (3, .int (nI (f))), (2, .int (nI (w))), (0, .ref (zad z 27))]) hx hb dX10_writes_102 hl (by decide) rfl (fun ls hl => ?_)
      refine lv_aload_n hx hb dX10_writes_104 rfl (lv_at hl 3 rfl) ?_
      refine rg_X10_7 C h dX10_writes_105 ?_
      refine lv_iload_n hx hb dX10_writes_108 rfl (lv_at hl 2 rfl) ?_
      refine ldA 28 rfl (j := w) (show w < 40 by omega) (by decide) C h dX10_writes_109 ?_
      refine tI (y := nI (0)) ((hRW w hw).1.trans (by rw [hk0])) ?_
      refine lv_iconst (v := nI (1)) hx hb dX10_writes_110 (by decide) ?_
      refine jN_ne (tgt := 173) (a := 0) (b := 1) C (by omega) (by omega) dX10_writes_111 (by decide) (fun c_111 => ?_) (fun c_111 => ?_)
      · skip
        refine lv_aload_n hx hb dX10_writes_173 rfl (lv_at hl 3 rfl) ?_
        refine rg_X10_7 C h dX10_writes_174 ?_
        refine lv_iload_n hx hb dX10_writes_177 rfl (lv_at hl 2 rfl) ?_
        refine ldA 28 rfl (j := w) (show w < 40 by omega) (by decide) C h dX10_writes_178 ?_
        refine tI (y := nI (0)) ((hRW w hw).1.trans (by rw [hk0])) ?_
        refine lv_iconst (v := nI (2)) hx hb dX10_writes_179 (by decide) ?_
        refine jN_ne (tgt := 194) (a := 0) (b := 2) C (by omega) (by omega) dX10_writes_180 (by decide) (fun c_180 => ?_) (fun c_180 => ?_)
        · skip
          refine lv_iconst (v := nI (0)) hx hb dX10_writes_194 (by decide) ?_
          refine lv_istore (lv' := [(5, .int (nI (0))), (4, .int (nI (cnt))), (3, .int (nI (f))), (2, .int (nI (w))), (0, .ref (zad z 27))]) hx hb dX10_writes_195 hl (by decide) rfl (fun ls hl => ?_)
          refine lv_iconst (v := nI (0)) hx hb dX10_writes_197 (by decide) ?_
          refine lv_istore (lv' := [(6, .int (nI (0))), (5, .int (nI (0))), (4, .int (nI (cnt))), (3, .int (nI (f))), (2, .int (nI (w))), (0, .ref (zad z 27))]) hx hb dX10_writes_198 hl (by decide) rfl (fun ls hl => ?_)
          refine lpW3 (fun (k : Nat) (bef : Int32) (done : List Nat) (H : Heap) (locs : List Loc) (ls : Array Slot) => (k ≤ cnt) ∧ (wrC (wt w 1) (wt w 2) (wt w 3) (wt w 4) 0 (rowL (ar 36) f cnt) = (wrC (wt w 1) (wt w 2) (wt w 3) (wt w 4) bef (rowL (ar 36) (f + k) (cnt - k))).map (fun t => done ++ t)) ∧ (done.length ≤ 5 * k) ∧ hH z v (va_up (va_up sc 30 (nI T)) 31 (nI (wr + (done).length))) (va_up ar 41 (wrO (ar 41) wr (done))) s H locs ∧ lv_has ls 8 [(0, .ref (zad z 27)), (2, .int (nI (w))), (3, .int (nI (f))), (4, .int (nI (cnt))), (5, .int (bef)), (6, .int (nI (k)))]) (fun (k : Nat) (bef : Int32) (done : List Nat) => cnt - k) (fun k bef done ih_200 H locs ls hI => ?_) (0) (nI 0) ([]) ⟨Nat.zero_le _, by simp; rfl, Nat.zero_le _, (by rw [show nI (wr + ([] : List Nat).length) = (va_up sc 30 (nI T)) 31 from g31.symm, va_us, wrO_nil, va_us]; exact h), lv_sub hl [5, 4, 3, 2, 1, 0] rfl⟩
          obtain ⟨h1, h3, h4, h, hl⟩ := hI
          refine lv_iload hx hb dX10_writes_200 (lv_at hl 5 rfl) ?_
          refine lv_iload hx hb dX10_writes_202 (lv_at hl 3 rfl) ?_
          refine jN_ge (tgt := 266) (a := k) (b := cnt) C (by omega) (by omega) dX10_writes_204 (by decide) (fun c_204 => ?_) (fun c_204 => ?_)
          · skip
            refine lv_goto (tgt := 56) hx hb dX10_writes_266 (by decide) ?_
            exact k1 (va_up (va_up sc 30 (nI T)) 31 (nI (wr + (done).length))) (va_up ar 41 (wrO (ar 41) wr (done))) H locs ls done (by rw [WR_cod hk0, h3, show cnt - k = 0 by omega]; simp [rowL, wrC]) ⟨⟨fun i a b c => (va_up_ne _ _ c).trans (va_up_ne _ _ b), fun q a => va_up_ne _ _ (by omega)⟩, rfl, rfl, ⟨us, g29, Nat.le_refl _, by omega⟩, fun q hq => ⟨rfl, rfl, rfl⟩, fun q hq => rfl, rfl⟩ h (lv_sub hl [0] rfl)
          · skip
            refine lv_aload_n hx hb dX10_writes_207 rfl (lv_at hl 0 rfl) ?_
            refine lv_iload_n hx hb dX10_writes_208 rfl (lv_at hl 1 rfl) ?_
            refine lv_aload_n hx hb dX10_writes_209 rfl (lv_at hl 0 rfl) ?_
            refine lv_iload_n hx hb dX10_writes_210 rfl (lv_at hl 1 rfl) ?_
            refine lv_aload_n hx hb dX10_writes_211 rfl (lv_at hl 0 rfl) ?_
            refine rg_X10_48 C h dX10_writes_212 ?_
            refine lv_iload_n hx hb dX10_writes_215 rfl (lv_at hl 2 rfl) ?_
            refine lv_iload hx hb dX10_writes_216 (lv_at hl 5 rfl) ?_
            refine lv_iadd hx hb dX10_writes_218 ?_
            refine tI (y := nI (f + k)) (nI_add _ _) ?_
            refine ldA 36 rfl (j := f + k) (show f + k < 40000 by omega) (by decide) C h dX10_writes_219 ?_
            refine tI (y := ar 36 (f + k)) rfl ?_
            refine lv_iload hx hb dX10_writes_220 (lv_at hl 4 rfl) ?_
            refine backI h (runV (As := [.int (nI (w)), .int (ar 36 (f + k)), .int (bef)]) (rest := [.int (nI (w)), .ref (zad z 27)]) C h (r_told l z v (va_up (va_up sc 30 (nI T)) 31 (nI (wr + (done).length))) (va_up ar 41 (wrO (ar 41) wr (done))) K w wt dp (ar 36 (f + k)) bef hK4 (hRW.fr (fun k hk => va_up_ne _ _ (by omega))) hw hk0) gv_X10_157 gv_X10_157_n ⟨rfl, rfl⟩ (r_Ref C h) rfl hl.1 rfl (Nat.le_of_ble_eq_true rfl) dX10_writes_222 ⟨Nat.le_of_ble_eq_true rfl, Nat.le_of_ble_eq_true rfl⟩ ⟨Nat.le_of_ble_eq_true rfl, Nat.le_of_ble_eq_true rfl⟩) (fun r_222 v_222 sc_222 ar_222 H locs p_222 h => ?_)
            have h : hH z v (va_up (va_up sc 30 (nI T)) 31 (nI (wr + (done).length))) (va_up ar 41 (wrO (ar 41) wr (done))) s H locs := uEq p_222.2 h
            refine tI (y := toldI (wt w 4) (ar 36 (f + k)) bef) p_222.1 ?_
            refine lv_iconst (v := nI (1)) hx hb dX10_writes_225 (by decide) ?_
            refine backI h (runV (As := [.int (nI (w)), .int (toldI (wt w 4) (ar 36 (f + k)) bef), .int (nI (1))]) (rest := []) C h (r_bytesT l z v (va_up (va_up sc 30 (nI T)) 31 (nI (wr + (done).length))) (va_up ar 41 (wrO (ar 41) wr (done))) K w (wr + done.length) wt dp (toldI (wt w 4) (ar 36 (f + k)) bef) hK4 (hRW.fr (fun k hk => va_up_ne _ _ (by omega))) hw hk0 rfl (by omega)) gv_X10_161 gv_X10_161_n ⟨rfl, rfl⟩ (r_Ref C h) rfl hl.1 rfl (Nat.le_of_ble_eq_true rfl) dX10_writes_226 ⟨Nat.le_of_ble_eq_true rfl, Nat.le_of_ble_eq_true rfl⟩ ⟨Nat.le_of_ble_eq_true rfl, Nat.le_of_ble_eq_true rfl⟩) (fun r_226 v_226 sc_226 ar_226 H locs p_226 h => ?_)
            obtain ⟨er, ps, eu, hpl, hps⟩ := p_226
            rw [va_uu, va_up_self, wrO_app] at eu
            rcases ho : ((cdO (wt w 3) (toldI (wt w 4) (ar 36 (f + k)) bef)).bind (enc (wt w 1) (wt w 2))) with _ | t
            · skip
              have h : hH z v (va_up (va_up sc 30 (nI T)) 31 (nI (wr + (done).length))) (va_up ar 41 (wrO (ar 41) wr (done ++ ps))) s H locs := uEq eu h
              rw [ho] at er
              refine tI (y := nI 0) er ?_
              refine lv_istore (lv' := [(7, .int (nI (0))), (0, .ref (zad z 27)), (2, .int (nI (w))), (3, .int (nI (f))), (4, .int (nI (cnt))), (5, .int (bef)), (6, .int (nI (k)))]) hx hb dX10_writes_229 hl (by decide) rfl (fun ls hl => ?_)
              refine lv_iload hx hb dX10_writes_231 (lv_at hl 0 rfl) ?_
              refine zN_ne (tgt := 238) (a := 0) C (by decide) dX10_writes_233 (by decide) (fun q => absurd q (by decide)) (fun _ => ?_)
              exact k0 (va_up (va_up sc 30 (nI T)) 31 (nI (wr + (done).length))) (va_up ar 41 (wrO (ar 41) wr (done ++ ps))) H locs ls (by rw [WR_cod hk0, h3, rowL_step (by omega), wrC, ho]; rfl) ⟨fun i a b c => (va_up_ne _ _ c).trans (va_up_ne _ _ b), fun q a => va_up_ne _ _ (by omega)⟩ h (lv_sub hl [1] rfl)
            · skip
              have et := hps t ho
              subst et
              rw [ho] at er
              have h : hH z v (va_up (va_up sc 30 (nI T)) 31 (nI (wr + (done).length))) (va_up ar 41 (wrO (ar 41) wr (done ++ ps))) s H locs := uEq eu h
              have ht1 : 1 ≤ ps.length := by
                cases hcd : cdO (wt w 3) (toldI (wt w 4) (ar 36 (f + k)) bef) with
                | none => rw [hcd] at ho; cases ho
                | some q => rw [hcd] at ho; exact enc_pos _ _ _ ho
              refine tI (y := nI ps.length) er ?_
              refine lv_istore (lv' := [(7, .int (nI (ps.length))), (0, .ref (zad z 27)), (2, .int (nI (w))), (3, .int (nI (f))), (4, .int (nI (cnt))), (5, .int (bef)), (6, .int (nI (k)))]) hx hb dX10_writes_229 hl (by decide) rfl (fun ls hl => ?_)
              refine lv_iload hx hb dX10_writes_231 (lv_at hl 0 rfl) ?_
              refine zN_ne (tgt := 238) (a := ps.length) C (by omega) dX10_writes_233 (by decide) (fun c_233 => ?_) (fun c_233 => ?_)
              · skip
                refine lv_aload_n hx hb dX10_writes_238 rfl (lv_at hl 1 rfl) ?_
                refine rg_X10_48 C h dX10_writes_239 ?_
                refine lv_iload_n hx hb dX10_writes_242 rfl (lv_at hl 3 rfl) ?_
                refine lv_iload hx hb dX10_writes_243 (lv_at hl 6 rfl) ?_
                refine lv_iadd hx hb dX10_writes_245 ?_
                refine tI (y := nI (f + k)) (nI_add _ _) ?_
                refine ldA 36 rfl (j := f + k) (show f + k < 40000 by omega) (by decide) C h dX10_writes_246 ?_
                refine tI (y := ar 36 (f + k)) rfl ?_
                refine lv_istore (lv' := [(5, .int (ar 36 (f + k))), (7, .int (nI (ps.length))), (0, .ref (zad z 27)), (2, .int (nI (w))), (3, .int (nI (f))), (4, .int (nI (cnt))), (6, .int (nI (k)))]) hx hb dX10_writes_247 hl (by decide) rfl (fun ls hl => ?_)
                refine lv_aload_n hx hb dX10_writes_249 rfl (lv_at hl 2 rfl) ?_
                refine lv_dup hx hb dX10_writes_250 rfl ?_
                refine rg_X10_141 C h dX10_writes_251 ?_
                refine tI (y := nI (wr + (done).length)) rfl ?_
                refine lv_iload hx hb dX10_writes_254 (lv_at hl 1 rfl) ?_
                refine lv_iadd hx hb dX10_writes_256 ?_
                refine tI (y := nI (wr + (done ++ ps).length)) (by rw [nI_add, List.length_append, Nat.add_assoc]) ?_
                refine rp_X10_141 C h dX10_writes_257 (fun H locs h => ?_)
                rw [va_uu] at h
                have h : hH z v (va_up (va_up sc 30 (nI T)) 31 (nI (wr + (done ++ ps).length))) (va_up ar 41 (wrO (ar 41) wr (done ++ ps))) s H locs := h
                refine lv_iinc (v := nI (k + 1)) (lv' := [(6, .int (nI (k + 1))), (5, .int (ar 36 (f + k))), (7, .int (nI (ps.length))), (0, .ref (zad z 27)), (2, .int (nI (w))), (3, .int (nI (f))), (4, .int (nI (cnt)))]) hx hb dX10_writes_260 hl (k := 6) rfl (nN_inc _) (by decide) rfl (fun ls hl => ?_)
                refine lv_goto (tgt := 200) hx hb dX10_writes_263 (by decide) ?_
                exact ih_200 (k + 1) (ar 36 (f + k)) (done ++ ps) (by omega) H locs ls ⟨by omega, by rw [h3, rowL_step (by omega), wrC, ho, show cnt - k - 1 = cnt - (k + 1) by omega, show f + k + 1 = f + (k + 1) by omega]; simp [Option.map_map, Function.comp_def], by simp; omega, h, lv_sub hl [3, 4, 5, 6, 1, 0] rfl⟩
              · skip
                omega
        · skip
          exact absurd c_180 (by decide)
      · skip
        exact absurd c_111 (by decide)
  · have hk0 : wt w 0 = 1 := q0.1
    obtain ⟨hn4, hj2, hj3, hd2, hd3, hd4⟩ := runOK (hRW w hw).2.2.2.2.2.2 hk0
    refine lv_aload_n hx hb dX10_writes_56 rfl (lv_at hl 0 rfl) ?_
    refine rg_X10_144 C h dX10_writes_57 ?_
    refine tI (y := nI (T + 1)) g30 ?_
    refine zN_le (tgt := 269) (a := T + 1) C (by omega) dX10_writes_60 (by decide) (fun c_60 => ?_) (fun c_60 => ?_)
    · skip
      omega
    · skip
      refine lv_aload_n hx hb dX10_writes_63 rfl (lv_at hl 0 rfl) ?_
      refine lv_dup hx hb dX10_writes_64 rfl ?_
      refine rg_X10_144 C h dX10_writes_65 ?_
      refine tI (y := nI (T + 1)) g30 ?_
      refine lv_iconst (v := nI (1)) hx hb dX10_writes_68 (by decide) ?_
      refine lv_isub hx hb dX10_writes_69 ?_
      refine tI (y := nI (T)) (nI_pred T) ?_
      refine rp_X10_144 C h dX10_writes_70 (fun H locs h => ?_)
      refine lv_aload_n hx hb dX10_writes_73 rfl (lv_at hl 0 rfl) ?_
      refine rg_X10_51 C h dX10_writes_74 ?_
      refine lv_aload_n hx hb dX10_writes_77 rfl (lv_at hl 0 rfl) ?_
      refine rg_X10_144 C h dX10_writes_78 ?_
      refine tI (y := nI (T)) rfl ?_
      refine ldA 37 rfl (j := T) (show T < 80 by omega) (by decide) C h dX10_writes_81 ?_
      refine tI (y := nI (w)) g37 ?_
      refine lv_istore_n (lv' := [(2, .int (nI (w))), (0, .ref (zad z 27))]) hx hb dX10_writes_82 rfl hl (by decide) rfl (fun ls hl => ?_)
      refine lv_aload_n hx hb dX10_writes_83 rfl (lv_at hl 1 rfl) ?_
      refine rg_X10_54 C h dX10_writes_84 ?_
      refine lv_aload_n hx hb dX10_writes_87 rfl (lv_at hl 1 rfl) ?_
      refine rg_X10_144 C h dX10_writes_88 ?_
      refine tI (y := nI (T)) rfl ?_
      refine ldA 38 rfl (j := T) (show T < 80 by omega) (by decide) C h dX10_writes_91 ?_
      refine tI (y := nI (f)) g38 ?_
      refine lv_istore_n (lv' := [(3, .int (nI (f))), (2, .int (nI (w))), (0, .ref (zad z 27))]) hx hb dX10_writes_92 rfl hl (by decide) rfl (fun ls hl => ?_)
      refine lv_aload_n hx hb dX10_writes_93 rfl (lv_at hl 2 rfl) ?_
      refine rg_X10_57 C h dX10_writes_94 ?_
      refine lv_aload_n hx hb dX10_writes_97 rfl (lv_at hl 2 rfl) ?_
      refine rg_X10_144 C h dX10_writes_98 ?_
      refine tI (y := nI (T)) rfl ?_
      refine ldA 39 rfl (j := T) (show T < 80 by omega) (by decide) C h dX10_writes_101 ?_
      refine tI (y := nI (cnt)) g39 ?_
      refine lv_istore (lv' := [(4, .int (nI (cnt))), (3, .int (nI (f))), (2, .int (nI (w))), (0, .ref (zad z 27))]) hx hb dX10_writes_102 hl (by decide) rfl (fun ls hl => ?_)
      refine lv_aload_n hx hb dX10_writes_104 rfl (lv_at hl 3 rfl) ?_
      refine rg_X10_7 C h dX10_writes_105 ?_
      refine lv_iload_n hx hb dX10_writes_108 rfl (lv_at hl 2 rfl) ?_
      refine ldA 28 rfl (j := w) (show w < 40 by omega) (by decide) C h dX10_writes_109 ?_
      refine tI (y := nI (1)) ((hRW w hw).1.trans (by rw [hk0])) ?_
      refine lv_iconst (v := nI (1)) hx hb dX10_writes_110 (by decide) ?_
      refine jN_ne (tgt := 173) (a := 1) (b := 1) C (by omega) (by omega) dX10_writes_111 (by decide) (fun c_111 => ?_) (fun c_111 => ?_)
      · skip
        exact absurd c_111 (by decide)
      · skip
        refine lv_aload_n hx hb dX10_writes_114 rfl (lv_at hl 3 rfl) ?_
        refine rg_X10_13 C h dX10_writes_115 ?_
        refine lv_iload_n hx hb dX10_writes_118 rfl (lv_at hl 2 rfl) ?_
        refine ldA 29 rfl (j := w) (show w < 40 by omega) (by decide) C h dX10_writes_119 ?_
        refine tI (y := nI (wt w 1)) (hRW w hw).2.1 ?_
        refine lv_iload hx hb dX10_writes_120 (lv_at hl 0 rfl) ?_
        refine jN_ge (tgt := 134) (a := wt w 1) (b := cnt) C (by omega) (by omega) dX10_writes_122 (by decide) (fun c_122 => ?_) (fun c_122 => ?_)
        · skip
          refine lv_iload hx hb dX10_writes_134 (lv_at hl 0 rfl) ?_
          refine lv_istore (lv' := [(5, .int (nI (cnt))), (4, .int (nI (cnt))), (3, .int (nI (f))), (2, .int (nI (w))), (0, .ref (zad z 27))]) hx hb dX10_writes_136 hl (by decide) rfl (fun ls hl => ?_)
          obtain ⟨n, en⟩ : ∃ n, n = min (wt w 1) cnt := ⟨_, rfl⟩
          have e5 : n = cnt := by omega
          have hl : lv_has ls 8 [(5, .int (nI (n))), (4, .int (nI (cnt))), (3, .int (nI (f))), (2, .int (nI (w))), (0, .ref (zad z 27))] := by rw [e5]; exact hl
          refine lv_aload_n hx hb dX10_writes_138 rfl (lv_at hl 4 rfl) ?_
          refine lv_aload_n hx hb dX10_writes_139 rfl (lv_at hl 4 rfl) ?_
          refine rg_X10_19 C h dX10_writes_140 ?_
          refine lv_iload_n hx hb dX10_writes_143 rfl (lv_at hl 3 rfl) ?_
          refine ldA 31 rfl (j := w) (show w < 40 by omega) (by decide) C h dX10_writes_144 ?_
          refine tI (y := nI (wt w 3)) (hRW w hw).2.2.2.1 ?_
          refine lv_iload_n hx hb dX10_writes_145 rfl (lv_at hl 2 rfl) ?_
          refine lv_iload hx hb dX10_writes_146 (lv_at hl 0 rfl) ?_
          refine lv_iadd hx hb dX10_writes_148 ?_
          refine tI (y := nI (f + n)) (nI_add _ _) ?_
          refine lv_iload hx hb dX10_writes_149 (lv_at hl 1 rfl) ?_
          refine lv_iload hx hb dX10_writes_151 (lv_at hl 0 rfl) ?_
          refine lv_isub hx hb dX10_writes_153 ?_
          refine tI (y := nI (cnt - n)) (pk_sub (by omega)) ?_
          refine backV h (runV (As := [.int (nI (wt w 3)), .int (nI (f + n)), .int (nI (cnt - n))]) (rest := []) C h (r_task l z v (va_up sc 30 (nI (T))) ar (T) (wt w 3) (f + n) (cnt - n) rfl (by omega)) gv_X10_150 gv_X10_150_n ⟨rfl, rfl⟩ (r_Ref C h) rfl hl.1 rfl (Nat.le_of_ble_eq_true rfl) dX10_writes_154 ⟨Nat.le_of_ble_eq_true rfl, Nat.le_of_ble_eq_true rfl⟩ ⟨Nat.le_of_ble_eq_true rfl, Nat.le_of_ble_eq_true rfl⟩) (fun v_154 sc_154 ar_154 H locs p_154 h => ?_)
          rw [va_uu] at p_154
          have h : hH z v (va_up sc 30 (nI (T + 1))) (tkA ar (T) (wt w 3) (f + n) (cnt - n)) s H locs := uEq p_154 h
          refine lv_aload_n hx hb dX10_writes_157 rfl (lv_at hl 4 rfl) ?_
          refine lv_aload_n hx hb dX10_writes_158 rfl (lv_at hl 4 rfl) ?_
          refine rg_X10_16 C h dX10_writes_159 ?_
          refine lv_iload_n hx hb dX10_writes_162 rfl (lv_at hl 3 rfl) ?_
          refine ldA 30 rfl (j := w) (show w < 40 by omega) (by decide) C h dX10_writes_163 ?_
          refine tI (y := nI (wt w 2)) (hRW w hw).2.2.1 ?_
          refine lv_iload_n hx hb dX10_writes_164 rfl (lv_at hl 2 rfl) ?_
          refine lv_iload hx hb dX10_writes_165 (lv_at hl 0 rfl) ?_
          refine backV h (runV (As := [.int (nI (wt w 2)), .int (nI (f)), .int (nI (n))]) (rest := []) C h (r_task l z v (va_up sc 30 (nI (T + 1))) (tkA ar (T) (wt w 3) (f + n) (cnt - n)) (T + 1) (wt w 2) (f) (n) rfl (by omega)) gv_X10_150 gv_X10_150_n ⟨rfl, rfl⟩ (r_Ref C h) rfl hl.1 rfl (Nat.le_of_ble_eq_true rfl) dX10_writes_167 ⟨Nat.le_of_ble_eq_true rfl, Nat.le_of_ble_eq_true rfl⟩ ⟨Nat.le_of_ble_eq_true rfl, Nat.le_of_ble_eq_true rfl⟩) (fun v_167 sc_167 ar_167 H locs p_167 h => ?_)
          rw [va_uu] at p_167
          have h : hH z v (va_up sc 30 (nI (T + 1 + 1))) (tkA (tkA ar (T) (wt w 3) (f + n) (cnt - n)) (T + 1) (wt w 2) (f) (n)) s H locs := uEq p_167 h
          refine lv_goto (tgt := 266) hx hb dX10_writes_170 (by decide) ?_
          refine lv_goto (tgt := 56) hx hb dX10_writes_266 (by decide) ?_
          have hIH : ∀ t, t ∈ ([(wt w 2, f, n), (wt w 3, f + n, cnt - n)] : List (Nat × Nat × Nat)) → wBig p l e s m args below meth c Q z v wt dp K t.1 := by
            intro t ht
            simp only [List.mem_cons, List.not_mem_nil, or_false] at ht
            rcases ht with rfl | rfl
            · exact ih _ hj2 (by omega)
            · exact ih _ hj3 (by omega)
          have eW : mW wt dp ((tkA (tkA ar (T) (wt w 3) (f + n) (cnt - n)) (T + 1) (wt w 2) (f) (n)) 36) [(wt w 2, f, n), (wt w 3, f + n, cnt - n)] = WR wt dp w (rowL (ar 36) f cnt) := by
            show cat2 (WR wt dp (wt w 2) (rowL (ar 36) f n)) (cat2 (WR wt dp (wt w 3) (rowL (ar 36) (f + n) (cnt - n))) (some [])) = _
            rw [cat2_nil, WR_run (fun q hq => (hRW q (by omega)).2.2.2.2.2.2) hk0, rowL_take, rowL_drop, ← en]
          have hA : ∀ k, ¬ (36 ≤ k ∧ k ≤ 41) → (tkA (tkA ar (T) (wt w 3) (f + n) (cnt - n)) (T + 1) (wt w 2) (f) (n)) k = ar k := fun k hk => (tkA_o (by omega) (by omega) (by omega)).trans (tkA_o (by omega) (by omega) (by omega))
          have hnr := nd_run (d := dp w - 1) (a := n) (b := cnt - n)
          rw [show dp w - 1 + 1 = dp w by omega, show n + (cnt - n) = cnt by omega] at hnr
          have hn2 : nd (dp (wt w 2)) n ≤ nd (dp w - 1) n := nd_mono (by omega) (Nat.le_refl _)
          have hn3 : nd (dp (wt w 3)) (cnt - n) ≤ nd (dp w - 1) (cnt - n) := nd_mono (by omega) (Nat.le_refl _)
          have hBr := Bd_run (q := dp w - 1) (a := n) (b := cnt - n)
          rw [show dp w - 1 + 1 = dp w by omega, show n + (cnt - n) = cnt by omega] at hBr
          have hb2 : Bd (dp (wt w 2)) n ≤ Bd (dp w - 1) n := Bd_mono (by omega) (Nat.le_refl _)
          have hb3 : Bd (dp (wt w 3)) (cnt - n) ≤ Bd (dp w - 1) (cnt - n) := Bd_mono (by omega) (Nat.le_refl _)
          have hnS : us + ndS dp [(wt w 2, f, n), (wt w 3, f + n, cnt - n)] ≤ us + nd (dp w) cnt := by show us + (nd (dp (wt w 2)) n + (nd (dp (wt w 3)) (cnt - n) + 0)) ≤ _; omega
          refine wSeq (T := T) [(wt w 2, f, n), (wt w 3, f + n, cnt - n)] hIH (va_up sc 30 (nI (T + 1 + 1))) (tkA (tkA ar (T) (wt w 3) (f + n) (cnt - n)) (T + 1) (wt w 2) (f) (n)) H locs ls us wr (hRW.fr hA) rfl ⟨tkA_at, t3 (tkA_lo (show T + 0 ≠ T + 1 by omega)) tkA_at, trivial⟩ ⟨⟨by omega, by omega, by omega, by show T + 1 + 3 * dp (wt w 2) ≤ 12; omega⟩, ⟨by omega, by omega, by omega, by show T + 0 + 3 * dp (wt w 3) ≤ 12; omega⟩, trivial⟩ g29 (by omega) g31 (by show wr + (Bd (dp (wt w 2)) n + (Bd (dp (wt w 3)) (cnt - n) + 0)) < 2 ^ 29; omega) h (lv_sub hl [4] rfl) (fun sc1 ar1 H locs ls bs w1 po h hl => ?_) (fun sc1 ar1 H locs ls w1 fr h hl => k0 sc1 ar1 H locs ls (by rw [← eW]; exact w1) (wFr.trans ⟨fun i a b c => va_up_ne _ _ b, hA⟩ fr) h hl)
          exact k1 sc1 ar1 H locs ls bs (by rw [← eW]; exact w1) (wPo.conv (fun i a b c => va_up_ne _ _ b) hA (fun q hq => t3 (tkA_lo (show q ≠ T + 1 by omega)) (tkA_lo (show q ≠ T by omega))) (fun q hq => rfl) rfl (Nat.le_refl _) hnS po) h hl
        · skip
          refine lv_aload_n hx hb dX10_writes_125 rfl (lv_at hl 3 rfl) ?_
          refine rg_X10_13 C h dX10_writes_126 ?_
          refine lv_iload_n hx hb dX10_writes_129 rfl (lv_at hl 2 rfl) ?_
          refine ldA 29 rfl (j := w) (show w < 40 by omega) (by decide) C h dX10_writes_130 ?_
          refine tI (y := nI (wt w 1)) (hRW w hw).2.1 ?_
          refine lv_goto (tgt := 136) hx hb dX10_writes_131 (by decide) ?_
          refine lv_istore (lv' := [(5, .int (nI (wt w 1))), (4, .int (nI (cnt))), (3, .int (nI (f))), (2, .int (nI (w))), (0, .ref (zad z 27))]) hx hb dX10_writes_136 hl (by decide) rfl (fun ls hl => ?_)
          obtain ⟨n, en⟩ : ∃ n, n = min (wt w 1) cnt := ⟨_, rfl⟩
          have e5 : n = wt w 1 := by omega
          have hl : lv_has ls 8 [(5, .int (nI (n))), (4, .int (nI (cnt))), (3, .int (nI (f))), (2, .int (nI (w))), (0, .ref (zad z 27))] := by rw [e5]; exact hl
          refine lv_aload_n hx hb dX10_writes_138 rfl (lv_at hl 4 rfl) ?_
          refine lv_aload_n hx hb dX10_writes_139 rfl (lv_at hl 4 rfl) ?_
          refine rg_X10_19 C h dX10_writes_140 ?_
          refine lv_iload_n hx hb dX10_writes_143 rfl (lv_at hl 3 rfl) ?_
          refine ldA 31 rfl (j := w) (show w < 40 by omega) (by decide) C h dX10_writes_144 ?_
          refine tI (y := nI (wt w 3)) (hRW w hw).2.2.2.1 ?_
          refine lv_iload_n hx hb dX10_writes_145 rfl (lv_at hl 2 rfl) ?_
          refine lv_iload hx hb dX10_writes_146 (lv_at hl 0 rfl) ?_
          refine lv_iadd hx hb dX10_writes_148 ?_
          refine tI (y := nI (f + n)) (nI_add _ _) ?_
          refine lv_iload hx hb dX10_writes_149 (lv_at hl 1 rfl) ?_
          refine lv_iload hx hb dX10_writes_151 (lv_at hl 0 rfl) ?_
          refine lv_isub hx hb dX10_writes_153 ?_
          refine tI (y := nI (cnt - n)) (pk_sub (by omega)) ?_
          refine backV h (runV (As := [.int (nI (wt w 3)), .int (nI (f + n)), .int (nI (cnt - n))]) (rest := []) C h (r_task l z v (va_up sc 30 (nI (T))) ar (T) (wt w 3) (f + n) (cnt - n) rfl (by omega)) gv_X10_150 gv_X10_150_n ⟨rfl, rfl⟩ (r_Ref C h) rfl hl.1 rfl (Nat.le_of_ble_eq_true rfl) dX10_writes_154 ⟨Nat.le_of_ble_eq_true rfl, Nat.le_of_ble_eq_true rfl⟩ ⟨Nat.le_of_ble_eq_true rfl, Nat.le_of_ble_eq_true rfl⟩) (fun v_154 sc_154 ar_154 H locs p_154 h => ?_)
          rw [va_uu] at p_154
          have h : hH z v (va_up sc 30 (nI (T + 1))) (tkA ar (T) (wt w 3) (f + n) (cnt - n)) s H locs := uEq p_154 h
          refine lv_aload_n hx hb dX10_writes_157 rfl (lv_at hl 4 rfl) ?_
          refine lv_aload_n hx hb dX10_writes_158 rfl (lv_at hl 4 rfl) ?_
          refine rg_X10_16 C h dX10_writes_159 ?_
          refine lv_iload_n hx hb dX10_writes_162 rfl (lv_at hl 3 rfl) ?_
          refine ldA 30 rfl (j := w) (show w < 40 by omega) (by decide) C h dX10_writes_163 ?_
          refine tI (y := nI (wt w 2)) (hRW w hw).2.2.1 ?_
          refine lv_iload_n hx hb dX10_writes_164 rfl (lv_at hl 2 rfl) ?_
          refine lv_iload hx hb dX10_writes_165 (lv_at hl 0 rfl) ?_
          refine backV h (runV (As := [.int (nI (wt w 2)), .int (nI (f)), .int (nI (n))]) (rest := []) C h (r_task l z v (va_up sc 30 (nI (T + 1))) (tkA ar (T) (wt w 3) (f + n) (cnt - n)) (T + 1) (wt w 2) (f) (n) rfl (by omega)) gv_X10_150 gv_X10_150_n ⟨rfl, rfl⟩ (r_Ref C h) rfl hl.1 rfl (Nat.le_of_ble_eq_true rfl) dX10_writes_167 ⟨Nat.le_of_ble_eq_true rfl, Nat.le_of_ble_eq_true rfl⟩ ⟨Nat.le_of_ble_eq_true rfl, Nat.le_of_ble_eq_true rfl⟩) (fun v_167 sc_167 ar_167 H locs p_167 h => ?_)
          rw [va_uu] at p_167
          have h : hH z v (va_up sc 30 (nI (T + 1 + 1))) (tkA (tkA ar (T) (wt w 3) (f + n) (cnt - n)) (T + 1) (wt w 2) (f) (n)) s H locs := uEq p_167 h
          refine lv_goto (tgt := 266) hx hb dX10_writes_170 (by decide) ?_
          refine lv_goto (tgt := 56) hx hb dX10_writes_266 (by decide) ?_
          have hIH : ∀ t, t ∈ ([(wt w 2, f, n), (wt w 3, f + n, cnt - n)] : List (Nat × Nat × Nat)) → wBig p l e s m args below meth c Q z v wt dp K t.1 := by
            intro t ht
            simp only [List.mem_cons, List.not_mem_nil, or_false] at ht
            rcases ht with rfl | rfl
            · exact ih _ hj2 (by omega)
            · exact ih _ hj3 (by omega)
          have eW : mW wt dp ((tkA (tkA ar (T) (wt w 3) (f + n) (cnt - n)) (T + 1) (wt w 2) (f) (n)) 36) [(wt w 2, f, n), (wt w 3, f + n, cnt - n)] = WR wt dp w (rowL (ar 36) f cnt) := by
            show cat2 (WR wt dp (wt w 2) (rowL (ar 36) f n)) (cat2 (WR wt dp (wt w 3) (rowL (ar 36) (f + n) (cnt - n))) (some [])) = _
            rw [cat2_nil, WR_run (fun q hq => (hRW q (by omega)).2.2.2.2.2.2) hk0, rowL_take, rowL_drop, ← en]
          have hA : ∀ k, ¬ (36 ≤ k ∧ k ≤ 41) → (tkA (tkA ar (T) (wt w 3) (f + n) (cnt - n)) (T + 1) (wt w 2) (f) (n)) k = ar k := fun k hk => (tkA_o (by omega) (by omega) (by omega)).trans (tkA_o (by omega) (by omega) (by omega))
          have hnr := nd_run (d := dp w - 1) (a := n) (b := cnt - n)
          rw [show dp w - 1 + 1 = dp w by omega, show n + (cnt - n) = cnt by omega] at hnr
          have hn2 : nd (dp (wt w 2)) n ≤ nd (dp w - 1) n := nd_mono (by omega) (Nat.le_refl _)
          have hn3 : nd (dp (wt w 3)) (cnt - n) ≤ nd (dp w - 1) (cnt - n) := nd_mono (by omega) (Nat.le_refl _)
          have hBr := Bd_run (q := dp w - 1) (a := n) (b := cnt - n)
          rw [show dp w - 1 + 1 = dp w by omega, show n + (cnt - n) = cnt by omega] at hBr
          have hb2 : Bd (dp (wt w 2)) n ≤ Bd (dp w - 1) n := Bd_mono (by omega) (Nat.le_refl _)
          have hb3 : Bd (dp (wt w 3)) (cnt - n) ≤ Bd (dp w - 1) (cnt - n) := Bd_mono (by omega) (Nat.le_refl _)
          have hnS : us + ndS dp [(wt w 2, f, n), (wt w 3, f + n, cnt - n)] ≤ us + nd (dp w) cnt := by show us + (nd (dp (wt w 2)) n + (nd (dp (wt w 3)) (cnt - n) + 0)) ≤ _; omega
          refine wSeq (T := T) [(wt w 2, f, n), (wt w 3, f + n, cnt - n)] hIH (va_up sc 30 (nI (T + 1 + 1))) (tkA (tkA ar (T) (wt w 3) (f + n) (cnt - n)) (T + 1) (wt w 2) (f) (n)) H locs ls us wr (hRW.fr hA) rfl ⟨tkA_at, t3 (tkA_lo (show T + 0 ≠ T + 1 by omega)) tkA_at, trivial⟩ ⟨⟨by omega, by omega, by omega, by show T + 1 + 3 * dp (wt w 2) ≤ 12; omega⟩, ⟨by omega, by omega, by omega, by show T + 0 + 3 * dp (wt w 3) ≤ 12; omega⟩, trivial⟩ g29 (by omega) g31 (by show wr + (Bd (dp (wt w 2)) n + (Bd (dp (wt w 3)) (cnt - n) + 0)) < 2 ^ 29; omega) h (lv_sub hl [4] rfl) (fun sc1 ar1 H locs ls bs w1 po h hl => ?_) (fun sc1 ar1 H locs ls w1 fr h hl => k0 sc1 ar1 H locs ls (by rw [← eW]; exact w1) (wFr.trans ⟨fun i a b c => va_up_ne _ _ b, hA⟩ fr) h hl)
          exact k1 sc1 ar1 H locs ls bs (by rw [← eW]; exact w1) (wPo.conv (fun i a b c => va_up_ne _ _ b) hA (fun q hq => t3 (tkA_lo (show q ≠ T + 1 by omega)) (tkA_lo (show q ≠ T by omega))) (fun q hq => rfl) rfl (Nat.le_refl _) hnS po) h hl
  · have hk0 : wt w 0 = 2 := q0.1
    obtain ⟨hm, hj2, hj3, hj4, hd2, hd3, hd4, hd5⟩ := popOK (hRW w hw).2.2.2.2.2.2 hk0
    have hnp0 := nd_pop (d := dp w - 1) (c := cnt) (o := 0) (k := 0) (by omega) (by omega)
    rw [show dp w - 1 + 1 = dp w by omega] at hnp0
    refine lv_aload_n hx hb dX10_writes_56 rfl (lv_at hl 0 rfl) ?_
    refine rg_X10_144 C h dX10_writes_57 ?_
    refine tI (y := nI (T + 1)) g30 ?_
    refine zN_le (tgt := 269) (a := T + 1) C (by omega) dX10_writes_60 (by decide) (fun c_60 => ?_) (fun c_60 => ?_)
    · skip
      omega
    · skip
      refine lv_aload_n hx hb dX10_writes_63 rfl (lv_at hl 0 rfl) ?_
      refine lv_dup hx hb dX10_writes_64 rfl ?_
      refine rg_X10_144 C h dX10_writes_65 ?_
      refine tI (y := nI (T + 1)) g30 ?_
      refine lv_iconst (v := nI (1)) hx hb dX10_writes_68 (by decide) ?_
      refine lv_isub hx hb dX10_writes_69 ?_
      refine tI (y := nI (T)) (nI_pred T) ?_
      refine rp_X10_144 C h dX10_writes_70 (fun H locs h => ?_)
      refine lv_aload_n hx hb dX10_writes_73 rfl (lv_at hl 0 rfl) ?_
      refine rg_X10_51 C h dX10_writes_74 ?_
      refine lv_aload_n hx hb dX10_writes_77 rfl (lv_at hl 0 rfl) ?_
      refine rg_X10_144 C h dX10_writes_78 ?_
      refine tI (y := nI (T)) rfl ?_
      refine ldA 37 rfl (j := T) (show T < 80 by omega) (by decide) C h dX10_writes_81 ?_
      refine tI (y := nI (w)) g37 ?_
      refine lv_istore_n (lv' := [(2, .int (nI (w))), (0, .ref (zad z 27))]) hx hb dX10_writes_82 rfl hl (by decide) rfl (fun ls hl => ?_)
      refine lv_aload_n hx hb dX10_writes_83 rfl (lv_at hl 1 rfl) ?_
      refine rg_X10_54 C h dX10_writes_84 ?_
      refine lv_aload_n hx hb dX10_writes_87 rfl (lv_at hl 1 rfl) ?_
      refine rg_X10_144 C h dX10_writes_88 ?_
      refine tI (y := nI (T)) rfl ?_
      refine ldA 38 rfl (j := T) (show T < 80 by omega) (by decide) C h dX10_writes_91 ?_
      refine tI (y := nI (f)) g38 ?_
      refine lv_istore_n (lv' := [(3, .int (nI (f))), (2, .int (nI (w))), (0, .ref (zad z 27))]) hx hb dX10_writes_92 rfl hl (by decide) rfl (fun ls hl => ?_)
      refine lv_aload_n hx hb dX10_writes_93 rfl (lv_at hl 2 rfl) ?_
      refine rg_X10_57 C h dX10_writes_94 ?_
      refine lv_aload_n hx hb dX10_writes_97 rfl (lv_at hl 2 rfl) ?_
      refine rg_X10_144 C h dX10_writes_98 ?_
      refine tI (y := nI (T)) rfl ?_
      refine ldA 39 rfl (j := T) (show T < 80 by omega) (by decide) C h dX10_writes_101 ?_
      refine tI (y := nI (cnt)) g39 ?_
      refine lv_istore (lv' := [(4, .int (nI (cnt))), (3, .int (nI (f))), (2, .int (nI (w))), (0, .ref (zad z 27))]) hx hb dX10_writes_102 hl (by decide) rfl (fun ls hl => ?_)
      refine lv_aload_n hx hb dX10_writes_104 rfl (lv_at hl 3 rfl) ?_
      refine rg_X10_7 C h dX10_writes_105 ?_
      refine lv_iload_n hx hb dX10_writes_108 rfl (lv_at hl 2 rfl) ?_
      refine ldA 28 rfl (j := w) (show w < 40 by omega) (by decide) C h dX10_writes_109 ?_
      refine tI (y := nI (2)) ((hRW w hw).1.trans (by rw [hk0])) ?_
      refine lv_iconst (v := nI (1)) hx hb dX10_writes_110 (by decide) ?_
      refine jN_ne (tgt := 173) (a := 2) (b := 1) C (by omega) (by omega) dX10_writes_111 (by decide) (fun c_111 => ?_) (fun c_111 => ?_)
      · skip
        refine lv_aload_n hx hb dX10_writes_173 rfl (lv_at hl 3 rfl) ?_
        refine rg_X10_7 C h dX10_writes_174 ?_
        refine lv_iload_n hx hb dX10_writes_177 rfl (lv_at hl 2 rfl) ?_
        refine ldA 28 rfl (j := w) (show w < 40 by omega) (by decide) C h dX10_writes_178 ?_
        refine tI (y := nI (2)) ((hRW w hw).1.trans (by rw [hk0])) ?_
        refine lv_iconst (v := nI (2)) hx hb dX10_writes_179 (by decide) ?_
        refine jN_ne (tgt := 194) (a := 2) (b := 2) C (by omega) (by omega) dX10_writes_180 (by decide) (fun c_180 => ?_) (fun c_180 => ?_)
        · skip
          exact absurd c_180 (by decide)
        · skip
          refine lv_aload_n hx hb dX10_writes_183 rfl (lv_at hl 3 rfl) ?_
          refine lv_iload_n hx hb dX10_writes_184 rfl (lv_at hl 2 rfl) ?_
          refine lv_iload_n hx hb dX10_writes_185 rfl (lv_at hl 1 rfl) ?_
          refine lv_iload hx hb dX10_writes_186 (lv_at hl 0 rfl) ?_
          refine backV h (runV (As := [.int (nI (w)), .int (nI (f)), .int (nI (cnt))]) (rest := []) C h (r_favours l z v (va_up sc 30 (nI (T))) ar K w f cnt us T wt dp hK4 hRW hw hk0 g29 gf gc (by omega) rfl (by omega)) gv_X10_154 gv_X10_154_n ⟨rfl, rfl⟩ (r_Ref C h) rfl hl.1 rfl (Nat.le_of_ble_eq_true rfl) dX10_writes_188 ⟨Nat.le_of_ble_eq_true rfl, Nat.le_of_ble_eq_true rfl⟩ ⟨Nat.le_of_ble_eq_true rfl, Nat.le_of_ble_eq_true rfl⟩) (fun v_188 sc_188 ar_188 H locs p_188 h => ?_)
          obtain ⟨P, O, F, ol, eF, hF5, eol, p1, p2, p3, p4, p5, eu⟩ := p_188
          have h := uEq eu h
          refine lv_goto (tgt := 266) hx hb dX10_writes_191 (by decide) ?_
          refine lv_goto (tgt := 56) hx hb dX10_writes_266 (by decide) ?_
          have hIH : ∀ t, t ∈ ([(wt w 2, us, 1), (wt w 2, us + 1, F.length), (wt w 3, us + 1 + F.length, cnt), (wt w 4, us + 1 + F.length + cnt, ol.length)] : List (Nat × Nat × Nat)) → wBig p l e s m args below meth c Q z v wt dp K t.1 := by
            intro t ht
            simp only [List.mem_cons, List.not_mem_nil, or_false] at ht
            rcases ht with rfl | rfl | rfl | rfl
            · exact ih _ hj2 (by omega)
            · exact ih _ hj2 (by omega)
            · exact ih _ hj3 (by omega)
            · exact ih _ hj4 (by omega)
          have hol : ol.length ≤ cnt := by rw [eol]; exact Nat.le_trans (othL_le _ _) (by rw [rowL_len]; exact Nat.le_refl _)
          have r1 : rowL P us 1 = [nI F.length] := by rw [rowL_step (by omega), p2]; rfl
          have r2 : rowL P (us + 1) F.length = F := rowL_list F (us + 1) p3
          have r3 : rowL P (us + 1 + F.length) cnt = tokL F (rowL (ar 36) f cnt) := rowL_map (fun x => nI (tok F x)) cnt _ _ p4
          have r4 : rowL P (us + 1 + F.length + cnt) ol.length = ol := rowL_list ol _ p5
          have eW : mW wt dp ((tkA (tkA (tkA (tkA (va_up (va_up ar 36 P) 40 O) T (wt w 4) (us + 1 + F.length + cnt) ol.length) (T + 1) (wt w 3) (us + 1 + F.length) cnt) (T + 2) (wt w 2) (us + 1) F.length) (T + 3) (wt w 2) us 1) 36) [(wt w 2, us, 1), (wt w 2, us + 1, F.length), (wt w 3, us + 1 + F.length, cnt), (wt w 4, us + 1 + F.length + cnt, ol.length)] = WR wt dp w (rowL (ar 36) f cnt) := by
            show cat2 (WR wt dp (wt w 2) (rowL P us 1)) (cat2 (WR wt dp (wt w 2) (rowL P (us + 1) F.length)) (cat2 (WR wt dp (wt w 3) (rowL P (us + 1 + F.length) cnt)) (cat2 (WR wt dp (wt w 4) (rowL P (us + 1 + F.length + cnt) ol.length)) (some [])))) = _
            rw [cat2_nil, r1, r2, r3, r4, WR_pop (fun q hq => (hRW q (by omega)).2.2.2.2.2.2) hk0, ← eF, ← eol]
          have hA : ∀ k, ¬ (36 ≤ k ∧ k ≤ 41) → (tkA (tkA (tkA (tkA (va_up (va_up ar 36 P) 40 O) T (wt w 4) (us + 1 + F.length + cnt) ol.length) (T + 1) (wt w 3) (us + 1 + F.length) cnt) (T + 2) (wt w 2) (us + 1) F.length) (T + 3) (wt w 2) us 1) k = ar k := fun k hk => (tkA_o (by omega) (by omega) (by omega)).trans ((tkA_o (by omega) (by omega) (by omega)).trans ((tkA_o (by omega) (by omega) (by omega)).trans ((tkA_o (by omega) (by omega) (by omega)).trans ((va_up_ne _ _ (by omega)).trans (va_up_ne _ _ (by omega))))))
          have hnp := nd_pop (d := dp w - 1) (c := cnt) (o := ol.length) hF5 hol
          rw [show dp w - 1 + 1 = dp w by omega] at hnp
          have hn1 : nd (dp (wt w 2)) 1 ≤ nd (dp w - 1) 1 := nd_mono (by omega) (Nat.le_refl _)
          have hn2 : nd (dp (wt w 2)) F.length ≤ nd (dp w - 1) F.length := nd_mono (by omega) (Nat.le_refl _)
          have hn3 : nd (dp (wt w 3)) cnt ≤ nd (dp w - 1) cnt := nd_mono (by omega) (Nat.le_refl _)
          have hn4 : nd (dp (wt w 4)) ol.length ≤ nd (dp w - 1) ol.length := nd_mono (by omega) (Nat.le_refl _)
          have hBp := Bd_pop (q := dp w - 1) (c := cnt) (o := ol.length) hF5 hol
          rw [show dp w - 1 + 1 = dp w by omega] at hBp
          have hb1 : Bd (dp (wt w 2)) 1 ≤ Bd (dp w - 1) 1 := Bd_mono (by omega) (Nat.le_refl _)
          have hb2 : Bd (dp (wt w 2)) F.length ≤ Bd (dp w - 1) F.length := Bd_mono (by omega) (Nat.le_refl _)
          have hb3 : Bd (dp (wt w 3)) cnt ≤ Bd (dp w - 1) cnt := Bd_mono (by omega) (Nat.le_refl _)
          have hb4 : Bd (dp (wt w 4)) ol.length ≤ Bd (dp w - 1) ol.length := Bd_mono (by omega) (Nat.le_refl _)
          have hnS : (us + 1 + F.length + cnt + ol.length) + ndS dp [(wt w 2, us, 1), (wt w 2, us + 1, F.length), (wt w 3, us + 1 + F.length, cnt), (wt w 4, us + 1 + F.length + cnt, ol.length)] ≤ us + nd (dp w) cnt := by show _ + (nd (dp (wt w 2)) 1 + (nd (dp (wt w 2)) F.length + (nd (dp (wt w 3)) cnt + (nd (dp (wt w 4)) ol.length + 0)))) ≤ _; omega
          refine wSeq (T := T) [(wt w 2, us, 1), (wt w 2, us + 1, F.length), (wt w 3, us + 1 + F.length, cnt), (wt w 4, us + 1 + F.length + cnt, ol.length)] hIH (va_up (va_up (va_up sc 30 (nI T)) 29 (nI (us + 1 + F.length + cnt + ol.length))) 30 (nI (T + 3 + 1))) (tkA (tkA (tkA (tkA (va_up (va_up ar 36 P) 40 O) T (wt w 4) (us + 1 + F.length + cnt) ol.length) (T + 1) (wt w 3) (us + 1 + F.length) cnt) (T + 2) (wt w 2) (us + 1) F.length) (T + 3) (wt w 2) us 1) H locs ls (us + 1 + F.length + cnt + ol.length) wr (hRW.fr hA) rfl ⟨tkA_at, t3 (tkA_lo (show T + 2 ≠ T + 3 by omega)) tkA_at, t3 (tkA_lo (show T + 1 ≠ T + 3 by omega)) (t3 (tkA_lo (show T + 1 ≠ T + 2 by omega)) tkA_at), t3 (tkA_lo (show T + 0 ≠ T + 3 by omega)) (t3 (tkA_lo (show T + 0 ≠ T + 2 by omega)) (t3 (tkA_lo (show T + 0 ≠ T + 1 by omega)) tkA_at)), trivial⟩ ⟨⟨by omega, by omega, by omega, by show T + 3 + 3 * dp (wt w 2) ≤ 12; omega⟩, ⟨by omega, by omega, by omega, by show T + 2 + 3 * dp (wt w 2) ≤ 12; omega⟩, ⟨by omega, by omega, by omega, by show T + 1 + 3 * dp (wt w 3) ≤ 12; omega⟩, ⟨by omega, by omega, by omega, by show T + 0 + 3 * dp (wt w 4) ≤ 12; omega⟩, trivial⟩ rfl (by omega) g31 (by show wr + (Bd (dp (wt w 2)) 1 + (Bd (dp (wt w 2)) F.length + (Bd (dp (wt w 3)) cnt + (Bd (dp (wt w 4)) ol.length + 0)))) < 2 ^ 29; omega) h (lv_sub hl [3] rfl) (fun sc1 ar1 H locs ls bs w1 po h hl => ?_) (fun sc1 ar1 H locs ls w1 fr h hl => k0 sc1 ar1 H locs ls (by rw [← eW]; exact w1) (wFr.trans ⟨fun i a b c => (va_up_ne _ _ b).trans ((va_up_ne _ _ a).trans (va_up_ne _ _ b)), hA⟩ fr) h hl)
          exact k1 sc1 ar1 H locs ls bs (by rw [← eW]; exact w1) (wPo.conv (fun i a b c => (va_up_ne _ _ b).trans ((va_up_ne _ _ a).trans (va_up_ne _ _ b))) hA (fun q hq => t3 (tkA_lo (show q ≠ T + 3 by omega)) (t3 (tkA_lo (show q ≠ T + 2 by omega)) (t3 (tkA_lo (show q ≠ T + 1 by omega)) (t3 (tkA_lo (show q ≠ T by omega)) ⟨rfl, rfl, rfl⟩)))) (fun q hq => p1 q hq) rfl (by omega) hnS po) h hl
      · skip
        exact absurd c_111 (by decide)
