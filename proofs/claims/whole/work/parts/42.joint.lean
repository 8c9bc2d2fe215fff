/-! Both sides together: what holds between two calls, and that each call keeps it. -/
theorem RW.fr0 {wt : Nat → Nat → Nat} {dp : Nat → Nat} {K : Nat} {ar ar1 : Nat → Nat → Int32} (h : RW wt dp K ar) (hf : ∀ k, 28 ≤ k → k < 34 → ar1 k = ar k) : RW wt dp K ar1 := fun i hi => by
  rw [hf 28 (by omega) (by omega), hf 29 (by omega) (by omega), hf 30 (by omega) (by omega), hf 31 (by omega) (by omega), hf 32 (by omega) (by omega), hf 33 (by omega) (by omega)]
  exact h i hi
def CJ (K N n rf : Nat) (wt : Nat → Nat → Nat) (dp wa : Nat → Nat) (v : bV) (sc : Nat → Int32) : Prop := sc 0 = nI K ∧ K ≤ 40 ∧ (∀ j, j < K → v.1 j = some (wa j)) ∧ WT v wt dp wa K ∧ sc 1 = nI N ∧ N ≤ 400 ∧ sc 3 = nI n ∧ n ≤ 8000 ∧ sc 4 = nI rf ∧ rf ≤ n
def RJ (K N n rf : Nat) (wt : Nat → Nat → Nat) (dp : Nat → Nat) (sc0 : Nat → Int32) (ar0 : Nat → Nat → Int32) (sc : Nat → Int32) (ar : Nat → Nat → Int32) : Prop := sc 21 = nI K ∧ RW wt dp K ar ∧ sc 22 = nI N ∧ sc 23 = nI n ∧ sc 24 = nI rf ∧ (sc 25 = sc0 2 ∧ sc 26 = sc0 12 ∧ sc 27 = sc0 13 ∧ sc 28 = sc0 14) ∧ (∀ i, i < N → ar 34 i = ar0 12 i) ∧ ∀ j, j < n → ar 35 j = nI (bN (ar0 11) j)
/-- what holds between two calls -/
def JI (v : bV) (sc : Nat → Int32) (ar : Nat → Nat → Int32) : Prop := ∃ (K N n rf : Nat) (wt : Nat → Nat → Nat) (dp wa : Nat → Nat), CJ K N n rf wt dp wa v sc ∧ RJ K N n rf wt dp sc ar sc ar
/-- the class leaves the reference alone -/
def clF (sc : Nat → Int32) (ar : Nat → Nat → Int32) (sc1 : Nat → Int32) (ar1 : Nat → Nat → Int32) : Prop := (∀ i, 20 ≤ i → sc1 i = sc i) ∧ ∀ k, 27 ≤ k → ar1 k = ar k
theorem clF.rf {sc : Nat → Int32} {ar : Nat → Nat → Int32} : clF sc ar sc ar := ⟨fun _ _ => rfl, fun _ _ => rfl⟩
theorem RJ.fr {K N n rf : Nat} {wt : Nat → Nat → Nat} {dp : Nat → Nat} {sc sc1 : Nat → Int32} {ar ar1 : Nat → Nat → Int32} (h : RJ K N n rf wt dp sc ar sc ar) (hf : clF sc ar sc1 ar1) : RJ K N n rf wt dp sc ar sc1 ar1 := by
  obtain ⟨r21, rW, r22, r23, r24, ⟨r25, r26, r27, r28⟩, r34, r35⟩ := h
  have a := hf.1
  have b := hf.2
  exact ⟨(a 21 (by decide)).trans r21, rW.fr0 (fun k h1 h2 => b k (by omega)), (a 22 (by decide)).trans r22, (a 23 (by decide)).trans r23, (a 24 (by decide)).trans r24, ⟨(a 25 (by decide)).trans r25, (a 26 (by decide)).trans r26, (a 27 (by decide)).trans r27, (a 28 (by decide)).trans r28⟩, fun i hi => (congrFun (b 34 (by decide)) i).trans (r34 i hi), fun j hj => (congrFun (b 35 (by decide)) j).trans (r35 j hj)⟩
def mO (k b : Int32) (u : bS) : Prop := ∃ kc, kc ≤ 2 ∧ k = nI kc ∧ u.2.1 20 = nI kc ∧ (kc = 0 → u.1.2.1 0 = b.toInt64) ∧ JI u.1 u.2.1 u.2.2
theorem neAS : xIA ≠ xIS := by decide
theorem neSA : xIS ≠ xIA := by decide
theorem keepJ {K N n rf : Nat} {wt : Nat → Nat → Nat} {dp wa : Nat → Nat} {v v' : bV} {sc sc' : Nat → Int32} {ar ar' : Nat → Nat → Int32} (hC : CJ K N n rf wt dp wa v sc) (hR : RJ K N n rf wt dp sc ar sc ar) (h1 : v'.1 = v.1) (h2 : v'.2.2 = v.2.2) (hs : ∀ i, i ≠ 5 → ¬ (6 ≤ i ∧ i ≤ 11) → i ≠ 20 → i < 29 → sc' i = sc i) (ha : ∀ k, k ≠ 11 → ¬ (13 ≤ k ∧ k ≤ 26) → k < 36 → ar' k = ar k) (hb : ∀ j, j < n → ar' 11 j = ar 11 j) : JI v' sc' ar' := by
  obtain ⟨c0, cK, cv, cW, c1, cN, c3, cn, c4, crf⟩ := hC
  obtain ⟨r21, rW, r22, r23, r24, ⟨r25, r26, r27, r28⟩, r34, r35⟩ := hR
  have g : ∀ i, i ≠ 5 → ¬ (6 ≤ i ∧ i ≤ 11) → i ≠ 20 → i < 29 → sc' i = sc i := hs
  refine ⟨K, N, n, rf, wt, dp, wa, ⟨(g 0 (by decide) (by decide) (by decide) (by decide)).trans c0, cK, by rw [h1]; exact cv, ?_, (g 1 (by decide) (by decide) (by decide) (by decide)).trans c1, cN, (g 3 (by decide) (by decide) (by decide) (by decide)).trans c3, cn, (g 4 (by decide) (by decide) (by decide) (by decide)).trans c4, crf⟩, (g 21 (by decide) (by decide) (by decide) (by decide)).trans r21, rW.fr0 (fun k a b => ha k (by omega) (by omega) (by omega)), (g 22 (by decide) (by decide) (by decide) (by decide)).trans r22, (g 23 (by decide) (by decide) (by decide) (by decide)).trans r23, (g 24 (by decide) (by decide) (by decide) (by decide)).trans r24, ⟨?_, ?_, ?_, ?_⟩, fun i hi => ?_, fun j hj => ?_⟩
  · intro i hi
    rw [h2]
    exact cW i hi
  · rw [g 25 (by decide) (by decide) (by decide) (by decide), g 2 (by decide) (by decide) (by decide) (by decide)]; exact r25
  · rw [g 26 (by decide) (by decide) (by decide) (by decide), g 12 (by decide) (by decide) (by decide) (by decide)]; exact r26
  · rw [g 27 (by decide) (by decide) (by decide) (by decide), g 13 (by decide) (by decide) (by decide) (by decide)]; exact r27
  · rw [g 28 (by decide) (by decide) (by decide) (by decide), g 14 (by decide) (by decide) (by decide) (by decide)]; exact r28
  · rw [ha 34 (by decide) (by decide) (by decide), ha 12 (by decide) (by decide) (by decide)]; exact r34 i hi
  · rw [ha 35 (by decide) (by decide) (by decide), r35 j hj]
    unfold bN
    rw [hb j hj]
theorem keep20 {K N n rf : Nat} {wt : Nat → Nat → Nat} {dp wa : Nat → Nat} {v : bV} {sc : Nat → Int32} {ar : Nat → Nat → Int32} (x : Int32) (o : Nat → Int64) (hC : CJ K N n rf wt dp wa v sc) (hR : RJ K N n rf wt dp sc ar sc ar) : JI (v.1, o, v.2.2) (va_up sc 20 x) ar := keepJ hC hR rfl rfl (fun i _ _ h _ => va_up_ne _ _ h) (fun _ _ _ _ => rfl) (fun _ _ => rfl)
def w5 (a b c d e : Nat) : Nat → Nat
  | 0 => a
  | 1 => b
  | 2 => c
  | 3 => d
  | _ => e
theorem wOK_cg {wt wt' : Nat → Nat → Nat} {dp dp' : Nat → Nat} {i : Nat} (h : wOK wt dp i) (hw : wt' i = wt i) (hd : ∀ j, j ≤ i → dp' j = dp j) : wOK wt' dp' i := by
  unfold wOK at h ⊢
  rw [hw, hd i (Nat.le_refl _)]
  rcases h with q | q | q
  · exact Or.inl q
  · refine Or.inr (Or.inl ⟨q.1, q.2.1, q.2.2.1, q.2.2.2.1, ?_, ?_, q.2.2.2.2.2.2⟩)
    · rw [hd _ (by omega)]; exact q.2.2.2.2.1
    · rw [hd _ (by omega)]; exact q.2.2.2.2.2.1
  · refine Or.inr (Or.inr ⟨q.1, q.2.1, q.2.2.1, q.2.2.2.1, q.2.2.2.2.1, ?_, ?_, ?_, q.2.2.2.2.2.2.2.2⟩)
    · rw [hd _ (by omega)]; exact q.2.2.2.2.2.1
    · rw [hd _ (by omega)]; exact q.2.2.2.2.2.2.1
    · rw [hd _ (by omega)]; exact q.2.2.2.2.2.2.2.1
theorem wayE_cg {wt wt' : Nat → Nat → Nat} {dp dp' wa wa' : Nat → Nat} {i : Nat} (h : wOK wt dp i) (hw : wt' i = wt i) (hd : dp' i = dp i) (ha : ∀ j, j < i → wa' j = wa j) : wayE wt' dp' wa' i = wayE wt dp wa i := by
  unfold wayE
  rw [hw, hd]
  rcases h with q | q | q
  · rw [if_pos q.1, if_pos q.1]
  · rw [if_neg (by omega), if_pos q.1, if_neg (by omega), if_pos q.1, ha _ q.2.2.1, ha _ q.2.2.2.1]
  · rw [if_neg (by omega), if_neg (by omega), if_neg (by omega), if_neg (by omega), ha _ q.2.2.1, ha _ q.2.2.2.1, ha _ q.2.2.2.2.1]
theorem adA_o {ar : Nat → Nat → Int32} {K k : Nat} {q a b c d : Int32} (h : 33 ≤ k ∨ k < 28) : adA ar K q a b c d k = ar k := by
  unfold adA
  rw [va_up_ne _ _ (by omega), va_up_ne _ _ (by omega), va_up_ne _ _ (by omega), va_up_ne _ _ (by omega), va_up_ne _ _ (by omega)]
theorem RW_add {wt : Nat → Nat → Nat} {dp : Nat → Nat} {K a b c d e D : Nat} {ar : Nat → Nat → Int32} (h : RW wt dp K ar) (hok : wOK (va_up wt K (w5 a b c d e)) (va_up dp K D) K) : RW (va_up wt K (w5 a b c d e)) (va_up dp K D) (K + 1) (adA (va_up ar 33 (upd (ar 33) K (nI D))) K (nI a) (nI b) (nI c) (nI d) (nI e)) := by
  intro i hi
  have e28 : adA (va_up ar 33 (upd (ar 33) K (nI D))) K (nI a) (nI b) (nI c) (nI d) (nI e) 28 = upd (ar 28) K (nI a) := rfl
  have e29 : adA (va_up ar 33 (upd (ar 33) K (nI D))) K (nI a) (nI b) (nI c) (nI d) (nI e) 29 = upd (ar 29) K (nI b) := rfl
  have e30 : adA (va_up ar 33 (upd (ar 33) K (nI D))) K (nI a) (nI b) (nI c) (nI d) (nI e) 30 = upd (ar 30) K (nI c) := rfl
  have e31 : adA (va_up ar 33 (upd (ar 33) K (nI D))) K (nI a) (nI b) (nI c) (nI d) (nI e) 31 = upd (ar 31) K (nI d) := rfl
  have e32 : adA (va_up ar 33 (upd (ar 33) K (nI D))) K (nI a) (nI b) (nI c) (nI d) (nI e) 32 = upd (ar 32) K (nI e) := rfl
  have e33 : adA (va_up ar 33 (upd (ar 33) K (nI D))) K (nI a) (nI b) (nI c) (nI d) (nI e) 33 = upd (ar 33) K (nI D) := by rw [adA_o (by omega), va_up_self]
  rw [e28, e29, e30, e31, e32, e33]
  by_cases hK : i = K
  · rw [hK, va_up_self, va_up_self, pk_us, pk_us, pk_us, pk_us, pk_us, pk_us]
    exact ⟨rfl, rfl, rfl, rfl, rfl, rfl, hok⟩
  · rw [va_up_ne _ _ hK, va_up_ne _ _ hK, pk_un hK, pk_un hK, pk_un hK, pk_un hK, pk_un hK, pk_un hK]
    obtain ⟨h1, h2, h3, h4, h5, h6, h7⟩ := h i (by omega)
    exact ⟨h1, h2, h3, h4, h5, h6, wOK_cg h7 (va_up_ne _ _ hK) (fun j hj => va_up_ne _ _ (by omega))⟩
theorem WT_add {v v1 : bV} {wt : Nat → Nat → Nat} {dp wa : Nat → Nat} {K D q : Nat} {w : Nat → Nat} {E : va_E} (h : WT v wt dp wa K) (hq : q ∉ v.2.2.1) (e1 : v1.2.2.1 = v.2.2.1 ++ [q]) (e2 : v1.2.2.2 = va_up v.2.2.2 q E) (hE : E = wayE (va_up wt K w) (va_up dp K D) (va_up wa K q) K) (hok : wOK (va_up wt K w) (va_up dp K D) K) : WT v1 (va_up wt K w) (va_up dp K D) (va_up wa K q) (K + 1) := by
  intro i hi
  rw [e1, e2]
  by_cases hK : i = K
  · subst hK
    rw [va_up_self, va_up_self]
    exact ⟨List.mem_append_right _ List.mem_cons_self, hE, hok⟩
  · obtain ⟨a1, a2, a3⟩ := h i (by omega)
    rw [va_up_ne _ _ hK]
    have hne : wa i ≠ q := fun e => hq (e ▸ a1)
    rw [va_up_ne _ _ hne]
    exact ⟨List.mem_append_left _ a1, by rw [a2]; exact (wayE_cg a3 (va_up_ne _ _ hK) (va_up_ne _ _ hK) (fun j hj => va_up_ne _ _ (by omega))).symm, wOK_cg a3 (va_up_ne _ _ hK) (fun j hj => va_up_ne _ _ (by omega))⟩
theorem addJ {K N n rf : Nat} {wt : Nat → Nat → Nat} {dp wa : Nat → Nat} {v v1 : bV} {sc : Nat → Int32} {ar : Nat → Nat → Int32} (hC : CJ K N n rf wt dp wa v sc) (hR : RJ K N n rf wt dp sc ar sc ar) (hK : K < 40) {a b c d e D q : Nat} {E : va_E} (hq : q ∉ v.2.2.1) (e0 : v1.1 = va_up v.1 K (some q)) (e1 : v1.2.2.1 = v.2.2.1 ++ [q]) (e2 : v1.2.2.2 = va_up v.2.2.2 q E) (hE : E = wayE (va_up wt K (w5 a b c d e)) (va_up dp K D) (va_up wa K q) K) (hok : wOK (va_up wt K (w5 a b c d e)) (va_up dp K D) K) :
    JI v1 (va_up (va_up (va_up sc 0 (nI (K + 1))) 20 (nI 0)) 21 (nI (K + 1))) (adA (va_up ar 33 (upd (ar 33) K (nI D))) K (nI a) (nI b) (nI c) (nI d) (nI e)) := by
  obtain ⟨c0, cK, cv, cW, c1, cN, c3, cn, c4, crf⟩ := hC
  obtain ⟨r21, rW, r22, r23, r24, ⟨r25, r26, r27, r28⟩, r34, r35⟩ := hR
  refine ⟨K + 1, N, n, rf, va_up wt K (w5 a b c d e), va_up dp K D, va_up wa K q, ⟨rfl, by omega, fun j hj => ?_, WT_add cW hq e1 e2 hE hok, c1, cN, c3, cn, c4, crf⟩, rfl, RW_add rW hok, r22, r23, r24, ⟨r25, r26, r27, r28⟩, fun i hi => ?_, fun j hj => ?_⟩
  · rw [e0]
    by_cases h : j = K
    · rw [h, va_up_self, va_up_self]
    · rw [va_up_ne _ _ h, va_up_ne _ _ h]; exact cv j (by omega)
  · rw [adA_o (by omega), adA_o (by omega), va_up_ne _ _ (by decide), va_up_ne _ _ (by decide)]; exact r34 i hi
  · rw [adA_o (by omega), adA_o (by omega), va_up_ne _ _ (by decide), va_up_ne _ _ (by decide)]; exact r35 j hj
theorem enc_256 {h : Nat} (hh : 1 ≤ h ∧ h ≤ 256) : ∀ (m c : Nat) (bs : List Nat), enc m h c = some bs → ∀ b ∈ bs, b < 256
  | 0, _, _, e => by cases e
  | 1, c, bs, e => by
    unfold enc at e
    split at e
    · cases e; intro b hb; rw [List.mem_singleton.mp hb]; assumption
    · cases e
  | m + 2, c, bs, e => by
    unfold enc at e
    split at e
    · cases e; intro b hb; rw [List.mem_singleton.mp hb]; omega
    · cases hr : enc (m + 1) h ((c - (256 - h)) / h) with
      | none => rw [hr] at e; cases e
      | some t =>
        rw [hr] at e
        have ih := enc_256 hh (m + 1) _ t hr
        cases e
        intro b hb
        rcases List.mem_cons.mp hb with e1 | e1
        · have := Nat.mod_lt (c - (256 - h)) (show 0 < h by omega); omega
        · exact ih b e1
theorem wrC_256 {cb ch cs cd : Nat} (hh : 1 ≤ ch ∧ ch ≤ 256) : ∀ (xs : List Int32) (b : Int32) (bs : List Nat), wrC cb ch cs cd b xs = some bs → ∀ y ∈ bs, y < 256
  | [], _, bs, h => by cases h; intro y hy; cases hy
  | x :: xs, b, bs, h => by
    unfold wrC at h
    cases h1 : (cdO cs (toldI cd x b)).bind (enc cb ch) with
    | none => rw [h1] at h; cases h
    | some t =>
      rw [h1] at h
      cases h2 : wrC cb ch cs cd x xs with
      | none => simp [h2] at h
      | some r =>
        simp [h2] at h
        have h3 := wrC_256 hh xs x r h2
        have h4 : ∀ y ∈ t, y < 256 := by
          cases h5 : cdO cs (toldI cd x b) with
          | none => rw [h5] at h1; cases h1
          | some c => rw [h5] at h1; exact enc_256 hh cb c t h1
        rw [← h]
        intro y hy
        rcases List.mem_append.mp hy with e | e
        · exact h4 y e
        · exact h3 y e
theorem WR_256 {wt : Nat → Nat → Nat} {dp : Nat → Nat} : ∀ (i : Nat), (∀ j, j ≤ i → wOK wt dp j) → ∀ (xs : List Int32) (bs : List Nat), WR wt dp i xs = some bs → ∀ y ∈ bs, y < 256 := by
  intro i
  induction i using Nat.strongRecOn with
  | ind i ih =>
    intro hok xs bs h
    have sub : ∀ j, j < i → ∀ (ys : List Int32) (c : List Nat), WR wt dp j ys = some c → ∀ y ∈ c, y < 256 := fun j hj => ih j hj (fun q hq => hok q (by omega))
    rcases hok i (Nat.le_refl _) with q | q | q
    · rw [WR_cod q.1] at h
      exact wrC_256 q.2.2.2.1 xs 0 bs h
    · rw [WR_run hok q.1] at h
      obtain ⟨a, b, ha, hb, rfl⟩ := cat2_some h
      intro y hy
      rcases List.mem_append.mp hy with e | e
      · exact sub _ q.2.2.1 _ _ ha y e
      · exact sub _ q.2.2.2.1 _ _ hb y e
    · rw [WR_pop hok q.1] at h
      obtain ⟨a, b, ha, hb, rfl⟩ := cat2_some h
      obtain ⟨b1, b2, hb1, hb2, rfl⟩ := cat2_some hb
      obtain ⟨b3, b4, hb3, hb4, rfl⟩ := cat2_some hb2
      intro y hy
      rcases List.mem_append.mp hy with e | e
      · exact sub _ q.2.2.1 _ _ ha y e
      · rcases List.mem_append.mp e with e | e
        · exact sub _ q.2.2.1 _ _ hb1 y e
        · rcases List.mem_append.mp e with e | e
          · exact sub _ q.2.2.2.1 _ _ hb3 y e
          · exact sub _ q.2.2.2.2.1 _ _ hb4 y e
theorem bN_wrB {f : Nat → Int32} {p i : Nat} {bs : List Nat} (hi : i < bs.length) (h8 : p + i < 8000) (hb : ∀ y ∈ bs, y < 256) : bN (wrB f p bs) (p + i) = bs.getD i 0 := by
  unfold bN wrB
  rw [if_pos ⟨by omega, by omega, h8⟩, Nat.add_sub_cancel_left]
  have h1 : bs.getD i 0 < 256 := by
    rw [List.getD_eq_getElem?_getD, List.getElem?_eq_getElem hi]
    exact hb _ (List.getElem_mem _)
  show (nI (bs.getD i 0)).toInt8.toInt32.toBitVec.toNat % 256 = _
  rw [bn8, show (nI (bs.getD i 0)).toBitVec.toNat = bs.getD i 0 from Nat.mod_eq_of_lt (by omega)]
  omega
theorem hdS_cg {bl : Int32 → Int32 → Option Nat} {R R' : Nat → Int32} : ∀ n, (∀ i, i < n → R i = R' i) → hdS bl R n = hdS bl R' n
  | 0, _ => rfl
  | n + 1, h => by
    show oadd (hdS bl R n) (bl (R n) (if n = 0 then 0 else R (n - 1))) = oadd (hdS bl R' n) (bl (R' n) (if n = 0 then 0 else R' (n - 1)))
    rw [hdS_cg n (fun i hi => h i (by omega)), h n (by omega)]
    by_cases e : n = 0
    · rw [if_pos e, if_pos e]
    · rw [if_neg e, if_neg e, h (n - 1) (by omega)]
theorem chS_cg {bl : Int32 → Int32 → Option Nat} {R R' : Nat → Int32} {N : Nat} : ∀ k, k < N → (∀ i, i < N → R i = R' i) → chS bl R N k = chS bl R' N k
  | 0, _, _ => rfl
  | k + 1, hk, h => by
    show oadd (chS bl R N k) (bl (R (N - (k + 1))) (R (N - (k + 1) - 1))) = oadd (chS bl R' N k) (bl (R' (N - (k + 1))) (R' (N - (k + 1) - 1)))
    rw [chS_cg k (by omega) h, h _ (by omega), h _ (by omega)]
theorem tlS_cg {bl : Int32 → Int32 → Option Nat} {R R' : Nat → Int32} {N n : Nat} (hn : n ≤ N) (h : ∀ i, i < N → R i = R' i) : tlS bl R N n = tlS bl R' N n := by
  unfold tlS
  by_cases e : n = N
  · rw [if_pos e, if_pos e]
  · rw [if_neg e, if_neg e, chS_cg _ (by omega) h, h n (by omega)]
theorem foN_cg {hd hd' tl tl' : Nat → Nat → Option Nat} {K : Nat} : ∀ n, (∀ i, i < n → hd i = hd' i ∧ tl i = tl' i) → foN hd tl K n = foN hd' tl' K n
  | 0, _ => rfl
  | n + 1, h => by
    show foA (hd n) (tl n) K n (foN hd tl K n) K = foA (hd' n) (tl' n) K n (foN hd' tl' K n) K
    rw [foN_cg n (fun i hi => h i (by omega)), (h n (by omega)).1, (h n (by omega)).2]
theorem bestCg {wt : Nat → Nat → Nat} {R R' : Nat → Int32} {K N : Nat} (h : ∀ i, i < N → R i = R' i) : foN (hdO wt R) (tlO wt R N) K (N + 1) = foN (hdO wt R') (tlO wt R' N) K (N + 1) := by
  refine foN_cg (N + 1) (fun i hi => ⟨?_, ?_⟩)
  · funext a
    unfold hdO
    rw [hdS_cg i (fun j hj => h j (by omega))]
  · funext a
    unfold tlO
    rw [tlS_cg (by omega) h]

theorem F_coding {K N n rf : Nat} {wt : Nat → Nat → Nat} {dp wa : Nat → Nat} {v v1 : bV} {sc sc1 : Nat → Int32} {ar ar1 : Nat → Nat → Int32} {k b : Int32} {u2 : bS} {b1 : Int32} {h1 : Int32} {s1 : Int32} {d1 : Int32} (hC : CJ K N n rf wt dp wa v sc) (hR : RJ K N n rf wt dp sc ar sc ar) (hw : wP2 (fun r u => ∃ cb ch cs cd q, (b1 = nI cb ∧ 1 ≤ cb ∧ cb ≤ 5) ∧ (h1 = nI ch ∧ 1 ≤ ch ∧ ch ≤ 256) ∧ (s1 = nI cs ∧ cs ≤ 2) ∧ (d1 = nI cd ∧ cd ≤ 1) ∧ K < 40 ∧ r = nI K ∧ q ∉ v.2.2.1 ∧ u = ((va_up v.1 K (some q), v.2.1, v.2.2.1 ++ [q], va_up v.2.2.2 q (.inr (1, [.int (nI (0)), .int (nI (cb)), .int (nI (ch)), .int (nI (cs)), .int (nI (cd)), .int (nI ((256) - (ch)))]))), va_up sc 0 (nI (K + 1)), ar)) (fun E u => (E = xIA ∧ u = (v, sc, ar) ∧ ¬ cdGood b1 h1 s1 d1) ∨ (E = xIS ∧ u = (v, sc, ar) ∧ cdGood b1 h1 s1 d1 ∧ 40 ≤ K)) k (v1, sc1, ar1)) : clF sc ar sc1 ar1 := by
  rcases hw with ⟨-, r, u0, hp, e⟩ | ⟨-, hp⟩ | ⟨-, hp⟩
  · obtain ⟨cb, ch, cs, cd, q, g1, g2, g3, g4, g5, g6, g7, e0⟩ := hp
    subst e0
    cases e
    exact ⟨fun i hi => va_up_ne _ _ (by omega), fun k hk => rfl⟩
  · rcases hp with ⟨-, e, -⟩ | ⟨h9, -⟩
    · cases e; exact clF.rf
    · exact absurd h9 neAS
  · rcases hp with ⟨h9, -⟩ | ⟨-, e, -⟩
    · exact absurd h9 neSA
    · cases e; exact clF.rf
set_option maxHeartbeats 1000000 in
theorem M_coding {K N n rf : Nat} {wt : Nat → Nat → Nat} {dp wa : Nat → Nat} {v v1 : bV} {sc sc1 : Nat → Int32} {ar ar1 : Nat → Nat → Int32} {k b : Int32} {u2 : bS} {b1 : Int32} {h1 : Int32} {s1 : Int32} {d1 : Int32} (hC : CJ K N n rf wt dp wa v sc) (hR : RJ K N n rf wt dp sc ar sc ar) (hw : wP2 (fun r u => ∃ cb ch cs cd q, (b1 = nI cb ∧ 1 ≤ cb ∧ cb ≤ 5) ∧ (h1 = nI ch ∧ 1 ≤ ch ∧ ch ≤ 256) ∧ (s1 = nI cs ∧ cs ≤ 2) ∧ (d1 = nI cd ∧ cd ≤ 1) ∧ K < 40 ∧ r = nI K ∧ q ∉ v.2.2.1 ∧ u = ((va_up v.1 K (some q), v.2.1, v.2.2.1 ++ [q], va_up v.2.2.2 q (.inr (1, [.int (nI (0)), .int (nI (cb)), .int (nI (ch)), .int (nI (cs)), .int (nI (cd)), .int (nI ((256) - (ch)))]))), va_up sc 0 (nI (K + 1)), ar)) (fun E u => (E = xIA ∧ u = (v, sc, ar) ∧ ¬ cdGood b1 h1 s1 d1) ∨ (E = xIS ∧ u = (v, sc, ar) ∧ cdGood b1 h1 s1 d1 ∧ 40 ≤ K)) k (v1, sc1, ar1)) (hr : (fun (v : bV) (sc : Nat → Int32) (ar : Nat → Nat → Int32) (t : Nat → Nat) (b1 : Int32) (h1 : Int32) (s1 : Int32) (d1 : Int32) => (fun r u => (¬ cdGood b1 h1 s1 d1 ∧ u = (v, va_up sc 20 (nI 1), ar)) ∨ (cdGood b1 h1 s1 d1 ∧ K = 40 ∧ u = (v, va_up sc 20 (nI 2), ar)) ∨ (cdGood b1 h1 s1 d1 ∧ K < 40 ∧ r = nI K ∧ u = (v, va_up (va_up sc 20 (nI 0)) 21 (nI (K + 1)), adA (va_up ar 33 (upd (ar 33) K (nI 0))) K (nI 0) b1 h1 s1 d1)))) v1 sc1 ar1 (bN (ar 11)) b1 h1 s1 d1 b u2) : mO k b u2 := by
  obtain ⟨c0, cK, cv, cW, c1, cN, c3, cn, c4, crf⟩ := id hC
  rcases hw with ⟨rfl, r, u0, hp, e⟩ | ⟨rfl, hp⟩ | ⟨rfl, hp⟩
  · obtain ⟨cb, ch, cs, cd, q, ⟨g1, g1a, g1b⟩, ⟨g2, g2a, g2b⟩, ⟨g3, g3b⟩, ⟨g4, g4b⟩, g5, g6, g7, e0⟩ := hp
    subst e0
    cases e
    have hg : cdGood b1 h1 s1 d1 := ⟨⟨cb, g1a, g1b, g1⟩, ⟨ch, g2a, g2b, g2⟩, ⟨cs, Nat.zero_le _, g3b, g3⟩, ⟨cd, Nat.zero_le _, g4b, g4⟩⟩
    rcases hr with ⟨h9, -⟩ | ⟨-, h9, -⟩ | ⟨-, -, hb, e⟩
    · exact absurd hg h9
    · omega
    · subst e
      refine ⟨0, by decide, rfl, rfl, fun _ => ?_, ?_⟩
      · rw [hb, ← g6]; rfl
      · rw [g1, g2, g3, g4]
        exact addJ hC hR g5 (a := 0) (b := cb) (c := ch) (d := cs) (e := cd) (D := 0) g7 rfl rfl rfl (by unfold wayE; rw [va_up_self]; rfl) (Or.inl (by rw [va_up_self, va_up_self]; exact ⟨rfl, rfl, ⟨g1a, g1b⟩, ⟨g2a, g2b⟩, g3b, g4b⟩))
  · rcases hp with ⟨-, e, hb⟩ | ⟨h9, -⟩
    · cases e
      rcases hr with ⟨-, e⟩ | ⟨h9, -⟩ | ⟨h9, -⟩
      · subst e; exact ⟨1, by decide, rfl, rfl, (fun e => absurd e (by decide)), keep20 _ _ hC hR⟩
      · exact absurd h9 hb
      · exact absurd h9 hb
    · exact absurd h9 neAS
  · rcases hp with ⟨h9, -⟩ | ⟨-, e, hb⟩
    · exact absurd h9 neSA
    · cases e
      rcases hr with ⟨h9, -⟩ | ⟨-, -, e⟩ | ⟨-, h9, -⟩
      · exact absurd hb.1 h9
      · subst e; exact ⟨2, by decide, rfl, rfl, (fun e => absurd e (by decide)), keep20 _ _ hC hR⟩
      · omega
theorem F_run {K N n rf : Nat} {wt : Nat → Nat → Nat} {dp wa : Nat → Nat} {v v1 : bV} {sc sc1 : Nat → Int32} {ar ar1 : Nat → Nat → Int32} {k b : Int32} {u2 : bS} {x : Int32} {y1 : Int32} {y2 : Int32} (hC : CJ K N n rf wt dp wa v sc) (hR : RJ K N n rf wt dp sc ar sc ar) (hw : wP2 (fun r u => ∃ n j1 j2 q, (x = nI n ∧ n ≤ 400) ∧ (y1 = nI j1 ∧ j1 < K) ∧ (y2 = nI j2 ∧ j2 < K) ∧ K < 40 ∧ (1) + (max (dp j1) (dp j2)) ≤ 4 ∧ r = nI K ∧ q ∉ v.2.2.1 ∧ u = ((va_up v.1 K (some q), v.2.1, v.2.2.1 ++ [q], va_up v.2.2.2 q (.inr (5, [.int (nI ((1) + (max (dp j1) (dp j2)))), .int (nI (n)), .ref (wa j1), .ref (wa j2)]))), va_up sc 0 (nI (K + 1)), ar)) (fun E u => (E = xIA ∧ u = (v, sc, ar) ∧ ¬ (inR 0 400 x ∧ isW K y1 ∧ isW K y2)) ∨ (E = xIS ∧ u = (v, sc, ar) ∧ inR 0 400 x ∧ ∃ j1 j2, (y1 = nI j1 ∧ j1 < K) ∧ (y2 = nI j2 ∧ j2 < K) ∧ (40 ≤ K ∨ 4 < (1) + (max (dp j1) (dp j2))))) k (v1, sc1, ar1)) : clF sc ar sc1 ar1 := by
  rcases hw with ⟨-, r, u0, hp, e⟩ | ⟨-, hp⟩ | ⟨-, hp⟩
  · obtain ⟨a, j1, j2, q, g1, g2, g3, g4, g5, g6, g7, e0⟩ := hp
    subst e0
    cases e
    exact ⟨fun i hi => va_up_ne _ _ (by omega), fun k hk => rfl⟩
  · rcases hp with ⟨-, e, -⟩ | ⟨h9, -⟩
    · cases e; exact clF.rf
    · exact absurd h9 neAS
  · rcases hp with ⟨h9, -⟩ | ⟨-, e, -⟩
    · exact absurd h9 neSA
    · cases e; exact clF.rf
set_option maxHeartbeats 1000000 in
theorem M_run {K N n rf : Nat} {wt : Nat → Nat → Nat} {dp wa : Nat → Nat} {v v1 : bV} {sc sc1 : Nat → Int32} {ar ar1 : Nat → Nat → Int32} {k b : Int32} {u2 : bS} {x : Int32} {y1 : Int32} {y2 : Int32} (hC : CJ K N n rf wt dp wa v sc) (hR : RJ K N n rf wt dp sc ar sc ar) (hw : wP2 (fun r u => ∃ n j1 j2 q, (x = nI n ∧ n ≤ 400) ∧ (y1 = nI j1 ∧ j1 < K) ∧ (y2 = nI j2 ∧ j2 < K) ∧ K < 40 ∧ (1) + (max (dp j1) (dp j2)) ≤ 4 ∧ r = nI K ∧ q ∉ v.2.2.1 ∧ u = ((va_up v.1 K (some q), v.2.1, v.2.2.1 ++ [q], va_up v.2.2.2 q (.inr (5, [.int (nI ((1) + (max (dp j1) (dp j2)))), .int (nI (n)), .ref (wa j1), .ref (wa j2)]))), va_up sc 0 (nI (K + 1)), ar)) (fun E u => (E = xIA ∧ u = (v, sc, ar) ∧ ¬ (inR 0 400 x ∧ isW K y1 ∧ isW K y2)) ∨ (E = xIS ∧ u = (v, sc, ar) ∧ inR 0 400 x ∧ ∃ j1 j2, (y1 = nI j1 ∧ j1 < K) ∧ (y2 = nI j2 ∧ j2 < K) ∧ (40 ≤ K ∨ 4 < (1) + (max (dp j1) (dp j2))))) k (v1, sc1, ar1)) (hr : (fun (v : bV) (sc : Nat → Int32) (ar : Nat → Nat → Int32) (t : Nat → Nat) (x : Int32) (y1 : Int32) (y2 : Int32) => (fun r u => (¬ (inR 0 400 x ∧ isW K y1 ∧ isW K y2) ∧ u = (v, va_up sc 20 (nI 1), ar)) ∨ (inR 0 400 x ∧ ∃ j1 j2, (y1 = nI j1 ∧ j1 < K) ∧ (y2 = nI j2 ∧ j2 < K) ∧ (((K = 40 ∨ max (dp j1) (dp j2) = 4) ∧ u = (v, va_up sc 20 (nI 2), ar)) ∨ (K < 40 ∧ max (dp j1) (dp j2) < 4 ∧ r = nI K ∧ u = (v, va_up (va_up sc 20 (nI 0)) 21 (nI (K + 1)), adA (va_up ar 33 (upd (ar 33) K (nI ((1) + (max (dp j1) (dp j2)))))) K (nI 1) x (nI j1) (nI j2) (nI 0))))))) v1 sc1 ar1 (bN (ar 11)) x y1 y2 b u2) : mO k b u2 := by
  obtain ⟨c0, cK, cv, cW, c1, cN, c3, cn, c4, crf⟩ := id hC
  rcases hw with ⟨rfl, r, u0, hp, e⟩ | ⟨rfl, hp⟩ | ⟨rfl, hp⟩
  · obtain ⟨a, j1, j2, q, ⟨g1, g1b⟩, ⟨g2, g2b⟩, ⟨g3, g3b⟩, g4, g5, g6, g7, e0⟩ := hp
    subst e0
    cases e
    have hg : inR 0 400 x ∧ isW K y1 ∧ isW K y2 := ⟨⟨a, Nat.zero_le _, g1b, g1⟩, ⟨j1, g2b, g2⟩, ⟨j2, g3b, g3⟩⟩
    rcases hr with ⟨h9, -⟩ | ⟨-, i1, i2, ⟨q1, q1b⟩, ⟨q2, q2b⟩, h9⟩
    · exact absurd hg h9
    · have e1 : i1 = j1 := (nI_eq (by omega) (by omega)).mp (q1.symm.trans g2)
      have e2 : i2 = j2 := (nI_eq (by omega) (by omega)).mp (q2.symm.trans g3)
      subst e1
      subst e2
      rcases h9 with ⟨h9, -⟩ | ⟨-, -, hb, e⟩
      · omega
      · subst e
        refine ⟨0, by decide, rfl, rfl, fun _ => ?_, ?_⟩
        · rw [hb, ← g6]; rfl
        · rw [g1]
          have n1 : i1 ≠ K := by omega
          have n2 : i2 ≠ K := by omega
          refine addJ hC hR g4 (a := 1) (b := a) (c := i1) (d := i2) (e := 0) (D := 1 + max (dp i1) (dp i2)) g7 rfl rfl rfl ?_ (Or.inr (Or.inl ?_))
          · unfold wayE; rw [va_up_self, va_up_self]; show _ = if (1 : Nat) = 0 then _ else if (1 : Nat) = 1 then Sum.inr (5, [Value.int (nI (1 + max (dp i1) (dp i2))), .int (nI a), .ref (va_up wa K q i1), .ref (va_up wa K q i2)]) else _; rw [if_neg (by decide), if_pos rfl, va_up_ne _ _ n1, va_up_ne _ _ n2]
          · rw [va_up_self, va_up_self]; show (1 : Nat) = 1 ∧ a ≤ 400 ∧ i1 < K ∧ i2 < K ∧ va_up dp K (1 + max (dp i1) (dp i2)) i1 < _ ∧ va_up dp K (1 + max (dp i1) (dp i2)) i2 < _ ∧ _; rw [va_up_ne _ _ n1, va_up_ne _ _ n2]; exact ⟨rfl, g1b, q1b, q2b, by omega, by omega, g5⟩
  · rcases hp with ⟨-, e, hb⟩ | ⟨h9, -⟩
    · cases e
      rcases hr with ⟨-, e⟩ | ⟨h9, i1, i2, q1, q2, -⟩
      · subst e; exact ⟨1, by decide, rfl, rfl, (fun e => absurd e (by decide)), keep20 _ _ hC hR⟩
      · exact absurd ⟨h9, ⟨i1, q1.2, q1.1⟩, ⟨i2, q2.2, q2.1⟩⟩ hb
    · exact absurd h9 neAS
  · rcases hp with ⟨h9, -⟩ | ⟨-, e, hb⟩
    · exact absurd h9 neSA
    · cases e
      obtain ⟨hx, j1, j2, ⟨g2, g2b⟩, ⟨g3, g3b⟩, hov⟩ := hb
      rcases hr with ⟨h9, -⟩ | ⟨-, i1, i2, ⟨q1, q1b⟩, ⟨q2, q2b⟩, h9⟩
      · exact absurd ⟨hx, ⟨j1, g2b, g2⟩, ⟨j2, g3b, g3⟩⟩ h9
      · have e1 : i1 = j1 := (nI_eq (by omega) (by omega)).mp (q1.symm.trans g2)
        have e2 : i2 = j2 := (nI_eq (by omega) (by omega)).mp (q2.symm.trans g3)
        subst e1
        subst e2
        rcases h9 with ⟨-, e⟩ | ⟨h9, h8, -⟩
        · subst e; exact ⟨2, by decide, rfl, rfl, (fun e => absurd e (by decide)), keep20 _ _ hC hR⟩
        · omega
theorem F_popular {K N n rf : Nat} {wt : Nat → Nat → Nat} {dp wa : Nat → Nat} {v v1 : bV} {sc sc1 : Nat → Int32} {ar ar1 : Nat → Nat → Int32} {k b : Int32} {u2 : bS} {x : Int32} {y1 : Int32} {y2 : Int32} {y3 : Int32} (hC : CJ K N n rf wt dp wa v sc) (hR : RJ K N n rf wt dp sc ar sc ar) (hw : wP2 (fun r u => ∃ n j1 j2 j3 q, (x = nI n ∧ 1 ≤ n ∧ n ≤ 50) ∧ (y1 = nI j1 ∧ j1 < K) ∧ (y2 = nI j2 ∧ j2 < K) ∧ (y3 = nI j3 ∧ j3 < K) ∧ K < 40 ∧ (1) + (max (dp j1) (max (dp j2) (dp j3))) ≤ 4 ∧ r = nI K ∧ q ∉ v.2.2.1 ∧ u = ((va_up v.1 K (some q), v.2.1, v.2.2.1 ++ [q], va_up v.2.2.2 q (.inr (4, [.int (nI ((1) + (max (dp j1) (max (dp j2) (dp j3))))), .int (nI (n)), .ref (wa j1), .ref (wa j2), .ref (wa j3)]))), va_up sc 0 (nI (K + 1)), ar)) (fun E u => (E = xIA ∧ u = (v, sc, ar) ∧ ¬ (inR 1 50 x ∧ isW K y1 ∧ isW K y2 ∧ isW K y3)) ∨ (E = xIS ∧ u = (v, sc, ar) ∧ inR 1 50 x ∧ ∃ j1 j2 j3, (y1 = nI j1 ∧ j1 < K) ∧ (y2 = nI j2 ∧ j2 < K) ∧ (y3 = nI j3 ∧ j3 < K) ∧ (40 ≤ K ∨ 4 < (1) + (max (dp j1) (max (dp j2) (dp j3)))))) k (v1, sc1, ar1)) : clF sc ar sc1 ar1 := by
  rcases hw with ⟨-, r, u0, hp, e⟩ | ⟨-, hp⟩ | ⟨-, hp⟩
  · obtain ⟨a, j1, j2, j3, q, g1, g2, g3, g3a, g4, g5, g6, g7, e0⟩ := hp
    subst e0
    cases e
    exact ⟨fun i hi => va_up_ne _ _ (by omega), fun k hk => rfl⟩
  · rcases hp with ⟨-, e, -⟩ | ⟨h9, -⟩
    · cases e; exact clF.rf
    · exact absurd h9 neAS
  · rcases hp with ⟨h9, -⟩ | ⟨-, e, -⟩
    · exact absurd h9 neSA
    · cases e; exact clF.rf
set_option maxHeartbeats 1000000 in
theorem M_popular {K N n rf : Nat} {wt : Nat → Nat → Nat} {dp wa : Nat → Nat} {v v1 : bV} {sc sc1 : Nat → Int32} {ar ar1 : Nat → Nat → Int32} {k b : Int32} {u2 : bS} {x : Int32} {y1 : Int32} {y2 : Int32} {y3 : Int32} (hC : CJ K N n rf wt dp wa v sc) (hR : RJ K N n rf wt dp sc ar sc ar) (hw : wP2 (fun r u => ∃ n j1 j2 j3 q, (x = nI n ∧ 1 ≤ n ∧ n ≤ 50) ∧ (y1 = nI j1 ∧ j1 < K) ∧ (y2 = nI j2 ∧ j2 < K) ∧ (y3 = nI j3 ∧ j3 < K) ∧ K < 40 ∧ (1) + (max (dp j1) (max (dp j2) (dp j3))) ≤ 4 ∧ r = nI K ∧ q ∉ v.2.2.1 ∧ u = ((va_up v.1 K (some q), v.2.1, v.2.2.1 ++ [q], va_up v.2.2.2 q (.inr (4, [.int (nI ((1) + (max (dp j1) (max (dp j2) (dp j3))))), .int (nI (n)), .ref (wa j1), .ref (wa j2), .ref (wa j3)]))), va_up sc 0 (nI (K + 1)), ar)) (fun E u => (E = xIA ∧ u = (v, sc, ar) ∧ ¬ (inR 1 50 x ∧ isW K y1 ∧ isW K y2 ∧ isW K y3)) ∨ (E = xIS ∧ u = (v, sc, ar) ∧ inR 1 50 x ∧ ∃ j1 j2 j3, (y1 = nI j1 ∧ j1 < K) ∧ (y2 = nI j2 ∧ j2 < K) ∧ (y3 = nI j3 ∧ j3 < K) ∧ (40 ≤ K ∨ 4 < (1) + (max (dp j1) (max (dp j2) (dp j3)))))) k (v1, sc1, ar1)) (hr : (fun (v : bV) (sc : Nat → Int32) (ar : Nat → Nat → Int32) (t : Nat → Nat) (x : Int32) (y1 : Int32) (y2 : Int32) (y3 : Int32) => (fun r u => (¬ (inR 1 50 x ∧ isW K y1 ∧ isW K y2 ∧ isW K y3) ∧ u = (v, va_up sc 20 (nI 1), ar)) ∨ (inR 1 50 x ∧ ∃ j1 j2 j3 D, (y1 = nI j1 ∧ j1 < K) ∧ (y2 = nI j2 ∧ j2 < K) ∧ (y3 = nI j3 ∧ j3 < K) ∧ D = max (max (dp j1) (dp j2)) (dp j3) ∧ (((K = 40 ∨ D = 4) ∧ u = (v, va_up sc 20 (nI 2), ar)) ∨ (K < 40 ∧ D < 4 ∧ r = nI K ∧ u = (v, va_up (va_up sc 20 (nI 0)) 21 (nI (K + 1)), adA (va_up ar 33 (upd (ar 33) K (nI ((1) + (D))))) K (nI 2) x (nI j1) (nI j2) (nI j3))))))) v1 sc1 ar1 (bN (ar 11)) x y1 y2 y3 b u2) : mO k b u2 := by
  obtain ⟨c0, cK, cv, cW, c1, cN, c3, cn, c4, crf⟩ := id hC
  rcases hw with ⟨rfl, r, u0, hp, e⟩ | ⟨rfl, hp⟩ | ⟨rfl, hp⟩
  · obtain ⟨a, j1, j2, j3, q, ⟨g1, g1a, g1b⟩, ⟨g2, g2b⟩, ⟨g3, g3b⟩, ⟨g8, g8b⟩, g4, g5, g6, g7, e0⟩ := hp
    subst e0
    cases e
    have hg : inR 1 50 x ∧ isW K y1 ∧ isW K y2 ∧ isW K y3 := ⟨⟨a, g1a, g1b, g1⟩, ⟨j1, g2b, g2⟩, ⟨j2, g3b, g3⟩, ⟨j3, g8b, g8⟩⟩
    rcases hr with ⟨h9, -⟩ | ⟨-, i1, i2, i3, D, ⟨q1, q1b⟩, ⟨q2, q2b⟩, ⟨q3, q3b⟩, hD, h9⟩
    · exact absurd hg h9
    · have e1 : i1 = j1 := (nI_eq (by omega) (by omega)).mp (q1.symm.trans g2)
      have e2 : i2 = j2 := (nI_eq (by omega) (by omega)).mp (q2.symm.trans g3)
      have e3 : i3 = j3 := (nI_eq (by omega) (by omega)).mp (q3.symm.trans g8)
      subst e1
      subst e2
      subst e3
      have hDD : max (dp i1) (max (dp i2) (dp i3)) = D := by omega
      rw [hDD] at g5
      rcases h9 with ⟨h9, -⟩ | ⟨-, -, hb, e⟩
      · omega
      · subst e
        refine ⟨0, by decide, rfl, rfl, fun _ => ?_, ?_⟩
        · rw [hb, ← g6]; rfl
        · rw [g1]
          have n1 : i1 ≠ K := by omega
          have n2 : i2 ≠ K := by omega
          have n3 : i3 ≠ K := by omega
          refine addJ hC hR g4 (a := 2) (b := a) (c := i1) (d := i2) (e := i3) (D := 1 + D) g7 rfl rfl rfl ?_ (Or.inr (Or.inr ?_))
          · unfold wayE; rw [va_up_self, va_up_self, hDD]; show _ = if (2 : Nat) = 0 then _ else if (2 : Nat) = 1 then _ else Sum.inr (4, [Value.int (nI (1 + D)), .int (nI a), .ref (va_up wa K q i1), .ref (va_up wa K q i2), .ref (va_up wa K q i3)]); rw [if_neg (by decide), if_neg (by decide), va_up_ne _ _ n1, va_up_ne _ _ n2, va_up_ne _ _ n3]
          · rw [va_up_self, va_up_self]; show (2 : Nat) = 2 ∧ (1 ≤ a ∧ a ≤ 50) ∧ i1 < K ∧ i2 < K ∧ i3 < K ∧ va_up dp K (1 + D) i1 < _ ∧ va_up dp K (1 + D) i2 < _ ∧ va_up dp K (1 + D) i3 < _ ∧ _; rw [va_up_ne _ _ n1, va_up_ne _ _ n2, va_up_ne _ _ n3]; exact ⟨rfl, ⟨g1a, g1b⟩, q1b, q2b, q3b, by omega, by omega, by omega, g5⟩
  · rcases hp with ⟨-, e, hb⟩ | ⟨h9, -⟩
    · cases e
      rcases hr with ⟨-, e⟩ | ⟨h9, i1, i2, i3, D, q1, q2, q3, -⟩
      · subst e; exact ⟨1, by decide, rfl, rfl, (fun e => absurd e (by decide)), keep20 _ _ hC hR⟩
      · exact absurd ⟨h9, ⟨i1, q1.2, q1.1⟩, ⟨i2, q2.2, q2.1⟩, ⟨i3, q3.2, q3.1⟩⟩ hb
    · exact absurd h9 neAS
  · rcases hp with ⟨h9, -⟩ | ⟨-, e, hb⟩
    · exact absurd h9 neSA
    · cases e
      obtain ⟨hx, j1, j2, j3, ⟨g2, g2b⟩, ⟨g3, g3b⟩, ⟨g8, g8b⟩, hov⟩ := hb
      rcases hr with ⟨h9, -⟩ | ⟨-, i1, i2, i3, D, ⟨q1, q1b⟩, ⟨q2, q2b⟩, ⟨q3, q3b⟩, hD, h9⟩
      · exact absurd ⟨hx, ⟨j1, g2b, g2⟩, ⟨j2, g3b, g3⟩, ⟨j3, g8b, g8⟩⟩ h9
      · have e1 : i1 = j1 := (nI_eq (by omega) (by omega)).mp (q1.symm.trans g2)
        have e2 : i2 = j2 := (nI_eq (by omega) (by omega)).mp (q2.symm.trans g3)
        have e3 : i3 = j3 := (nI_eq (by omega) (by omega)).mp (q3.symm.trans g8)
        subst e1
        subst e2
        subst e3
        rcases h9 with ⟨-, e⟩ | ⟨h9, h8, -⟩
        · subst e; exact ⟨2, by decide, rfl, rfl, (fun e => absurd e (by decide)), keep20 _ _ hC hR⟩
        · omega
theorem F_number {K N n rf : Nat} {wt : Nat → Nat → Nat} {dp wa : Nat → Nat} {v v1 : bV} {sc sc1 : Nat → Int32} {ar ar1 : Nat → Nat → Int32} {k b : Int32} {u2 : bS} {x : Int32} (hC : CJ K N n rf wt dp wa v sc) (hR : RJ K N n rf wt dp sc ar sc ar) (hw : wP1 (fun r u => N < 400 ∧ r = nI (N + 1) ∧ u = (v, va_up sc 1 (nI (N + 1)), va_up ar 12 (upd (ar 12) N x))) (fun E u => E = xIS ∧ u = (v, sc, ar) ∧ N = 400) k (v1, sc1, ar1)) : clF sc ar sc1 ar1 := by
  rcases hw with ⟨-, r, u0, hp, e⟩ | ⟨-, E, hp⟩
  · obtain ⟨g1, g2, e0⟩ := hp
    subst e0
    cases e
    exact ⟨fun i hi => va_up_ne _ _ (by omega), fun k hk => va_up_ne _ _ (by omega)⟩
  · obtain ⟨-, e, -⟩ := hp; cases e; exact clF.rf
set_option maxHeartbeats 1000000 in
theorem M_number {K N n rf : Nat} {wt : Nat → Nat → Nat} {dp wa : Nat → Nat} {v v1 : bV} {sc sc1 : Nat → Int32} {ar ar1 : Nat → Nat → Int32} {k b : Int32} {u2 : bS} {x : Int32} (hC : CJ K N n rf wt dp wa v sc) (hR : RJ K N n rf wt dp sc ar sc ar) (hw : wP1 (fun r u => N < 400 ∧ r = nI (N + 1) ∧ u = (v, va_up sc 1 (nI (N + 1)), va_up ar 12 (upd (ar 12) N x))) (fun E u => E = xIS ∧ u = (v, sc, ar) ∧ N = 400) k (v1, sc1, ar1)) (hr : (fun (v : bV) (sc : Nat → Int32) (ar : Nat → Nat → Int32) (t : Nat → Nat) (x : Int32) => (fun r u => (N = 400 ∧ u = (v, va_up sc 20 (nI 1), ar)) ∨ (N < 400 ∧ r = nI (N + 1) ∧ u = (v, va_up (va_up sc 20 (nI 0)) 22 (nI (N + 1)), va_up ar 34 (upd (ar 34) N x))))) v1 sc1 ar1 (bN (ar 11)) x b u2) : mO k b u2 := by
  obtain ⟨c0, cK, cv, cW, c1, cN, c3, cn, c4, crf⟩ := id hC
  obtain ⟨r21, rW, r22, r23, r24, ⟨r25, r26, r27, r28⟩, r34, r35⟩ := id hR
  rcases hw with ⟨rfl, r, u0, hp, e⟩ | ⟨rfl, E, hp⟩
  · obtain ⟨g1, g2, e0⟩ := hp
    subst e0
    cases e
    rcases hr with ⟨h9, -⟩ | ⟨-, hb, e⟩
    · omega
    · subst e
      refine ⟨0, by decide, rfl, rfl, (fun _ => by rw [hb, ← g2]; rfl), ⟨K, N + 1, n, rf, wt, dp, wa, ⟨c0, cK, cv, cW, rfl, by omega, c3, cn, c4, crf⟩, r21, rW.fr0 (fun k a b => (va_up_ne _ _ (by omega)).trans (va_up_ne _ _ (by omega))), rfl, r23, r24, ⟨r25, r26, r27, r28⟩, fun i hi => ?_, r35⟩⟩
      show upd (ar 34) N x i = upd (ar 12) N x i
      by_cases e : i = N
      · rw [e, pk_us, pk_us]
      · rw [pk_un e, pk_un e]; exact r34 i (by omega)
  · obtain ⟨-, e, h9⟩ := hp
    cases e
    rcases hr with ⟨-, e⟩ | ⟨h8, -⟩
    · subst e; exact ⟨1, by decide, rfl, rfl, (fun e => absurd e (by decide)), keep20 _ _ hC hR⟩
    · omega
theorem F_clear {K N n rf : Nat} {wt : Nat → Nat → Nat} {dp wa : Nat → Nat} {v v1 : bV} {sc sc1 : Nat → Int32} {ar ar1 : Nat → Nat → Int32} {k b : Int32} {u2 : bS} (hC : CJ K N n rf wt dp wa v sc) (hR : RJ K N n rf wt dp sc ar sc ar) (hw : (fun r u => r = nI N ∧ u = (v, va_up sc 1 (nI 0), ar)) k (v1, sc1, ar1)) : clF sc ar sc1 ar1 := by
  obtain ⟨-, e⟩ := hw
  cases e
  exact ⟨fun i hi => va_up_ne _ _ (by omega), fun k hk => rfl⟩
set_option maxHeartbeats 1000000 in
theorem M_clear {K N n rf : Nat} {wt : Nat → Nat → Nat} {dp wa : Nat → Nat} {v v1 : bV} {sc sc1 : Nat → Int32} {ar ar1 : Nat → Nat → Int32} {k b : Int32} {u2 : bS} (hC : CJ K N n rf wt dp wa v sc) (hR : RJ K N n rf wt dp sc ar sc ar) (hw : (fun r u => r = nI N ∧ u = (v, va_up sc 1 (nI 0), ar)) k (v1, sc1, ar1)) (hr : (fun (v : bV) (sc : Nat → Int32) (ar : Nat → Nat → Int32) (t : Nat → Nat) => (fun r u => r = nI N ∧ u = (v, va_up (va_up sc 20 (nI 0)) 22 (nI 0), ar))) v1 sc1 ar1 (bN (ar 11)) b u2) : k = b ∧ JI u2.1 u2.2.1 u2.2.2 := by
  obtain ⟨c0, cK, cv, cW, c1, cN, c3, cn, c4, crf⟩ := id hC
  obtain ⟨r21, rW, r22, r23, r24, ⟨r25, r26, r27, r28⟩, r34, r35⟩ := id hR
  obtain ⟨hk, e⟩ := hw
  cases e
  obtain ⟨hb, e⟩ := hr
  subst e
  exact ⟨hk.trans hb.symm, K, 0, n, rf, wt, dp, wa, ⟨c0, cK, cv, cW, rfl, by omega, c3, cn, c4, crf⟩, r21, rW, rfl, r23, r24, ⟨r25, r26, r27, r28⟩, fun i hi => absurd hi (Nat.not_lt_zero _), r35⟩
theorem F_row {K N n rf : Nat} {wt : Nat → Nat → Nat} {dp wa : Nat → Nat} {v v1 : bV} {sc sc1 : Nat → Int32} {ar ar1 : Nat → Nat → Int32} {k b : Int32} {u2 : bS} {i : Int32} (hC : CJ K N n rf wt dp wa v sc) (hR : RJ K N n rf wt dp sc ar sc ar) (hw : (fun r u => u = (v, sc, ar) ∧ (∀ j, j < N → i = nI j → r = ar 12 j) ∧ ((¬ ∃ j, j < N ∧ i = nI j) → r = 0)) k (v1, sc1, ar1)) : clF sc ar sc1 ar1 := by
  obtain ⟨e, -⟩ := hw
  cases e
  exact clF.rf
set_option maxHeartbeats 1000000 in
theorem M_row {K N n rf : Nat} {wt : Nat → Nat → Nat} {dp wa : Nat → Nat} {v v1 : bV} {sc sc1 : Nat → Int32} {ar ar1 : Nat → Nat → Int32} {k b : Int32} {u2 : bS} {i : Int32} (hC : CJ K N n rf wt dp wa v sc) (hR : RJ K N n rf wt dp sc ar sc ar) (hw : (fun r u => u = (v, sc, ar) ∧ (∀ j, j < N → i = nI j → r = ar 12 j) ∧ ((¬ ∃ j, j < N ∧ i = nI j) → r = 0)) k (v1, sc1, ar1)) (hr : (fun (v : bV) (sc : Nat → Int32) (ar : Nat → Nat → Int32) (t : Nat → Nat) (i : Int32) => (fun r u => u = (v, va_up sc 20 (nI 0), ar) ∧ (∀ j, j < N → i = nI j → r = ar 34 j) ∧ ((¬ ∃ j, j < N ∧ i = nI j) → r = 0))) v1 sc1 ar1 (bN (ar 11)) i b u2) : k = b ∧ JI u2.1 u2.2.1 u2.2.2 := by
  obtain ⟨c0, cK, cv, cW, c1, cN, c3, cn, c4, crf⟩ := id hC
  obtain ⟨r21, rW, r22, r23, r24, ⟨r25, r26, r27, r28⟩, r34, r35⟩ := id hR
  obtain ⟨e, ha, hn⟩ := hw
  cases e
  obtain ⟨e, ha2, hn2⟩ := hr
  subst e
  refine ⟨?_, keep20 _ _ hC hR⟩
  by_cases h : ∃ j, j < N ∧ i = nI j
  · obtain ⟨j, hj, e⟩ := h
    rw [ha j hj e, ha2 j hj e, r34 j hj]
  · rw [hn h, hn2 h]
theorem F_cost {K N n rf : Nat} {wt : Nat → Nat → Nat} {dp wa : Nat → Nat} {v v1 : bV} {sc sc1 : Nat → Int32} {ar ar1 : Nat → Nat → Int32} {k b : Int32} {u2 : bS} {y : Int32} (hC : CJ K N n rf wt dp wa v sc) (hR : RJ K N n rf wt dp sc ar sc ar) (hw : wP1 (fun r u => ∃ j, j < K ∧ y = nI j ∧ dR n v sc ar (WR wt dp j (rowL (ar 12) 0 N)) r u) (fun E u => E = xIA ∧ u = (v, sc, ar) ∧ ¬ isW K y) k (v1, sc1, ar1)) : clF sc ar sc1 ar1 := by
  rcases hw with ⟨-, r, u0, hp, e⟩ | ⟨-, E, hp⟩
  · obtain ⟨j, hj, hy, sc3, ar3, bs, e0, d, -⟩ := hp
    subst e0
    cases e
    exact ⟨fun i hi => d.1 i (by omega) (by omega) (by omega), fun k hk => d.2.1 k (by omega) (by omega) (by omega) (by omega) (by omega)⟩
  · obtain ⟨-, e, -⟩ := hp; cases e; exact clF.rf
set_option maxHeartbeats 1000000 in
theorem M_cost {K N n rf : Nat} {wt : Nat → Nat → Nat} {dp wa : Nat → Nat} {v v1 : bV} {sc sc1 : Nat → Int32} {ar ar1 : Nat → Nat → Int32} {k b : Int32} {u2 : bS} {y : Int32} (hC : CJ K N n rf wt dp wa v sc) (hR : RJ K N n rf wt dp sc ar sc ar) (hw : wP1 (fun r u => ∃ j, j < K ∧ y = nI j ∧ dR n v sc ar (WR wt dp j (rowL (ar 12) 0 N)) r u) (fun E u => E = xIA ∧ u = (v, sc, ar) ∧ ¬ isW K y) k (v1, sc1, ar1)) (hr : (fun (v : bV) (sc : Nat → Int32) (ar : Nat → Nat → Int32) (t : Nat → Nat) (y : Int32) => (fun r u => (¬ isW K y ∧ u = (v, va_up sc 20 (nI 1), ar)) ∨ (∃ j, j < K ∧ y = nI j ∧ r = lenI (WR wt dp j (rowL (ar 34) 0 N)) ∧ ∃ sc1 ar1, u = (v, sc1, ar1) ∧ wFr (va_up sc 20 (nI 0)) ar sc1 ar1))) v1 sc1 ar1 (bN (ar 11)) y b u2) : mO k b u2 := by
  obtain ⟨c0, cK, cv, cW, c1, cN, c3, cn, c4, crf⟩ := id hC
  obtain ⟨r21, rW, r22, r23, r24, ⟨r25, r26, r27, r28⟩, r34, r35⟩ := id hR
  rcases hw with ⟨rfl, r, u0, hp, e⟩ | ⟨rfl, E, hp⟩
  · obtain ⟨j, hj, hy, sc3, ar3, bs, e0, d, -, -, -, hl⟩ := hp
    subst e0
    cases e
    rcases hr with ⟨h9, -⟩ | ⟨j2, hj2, hy2, hb, sc4, ar4, e, w⟩
    · exact absurd ⟨j, hj, hy⟩ h9
    · subst e
      have e1 : j2 = j := (nI_eq (by omega) (by omega)).mp (hy2.symm.trans hy)
      subst e1
      rw [show ar1 34 = ar 34 from d.2.1 34 (by decide) (by decide) (by decide) (by decide) (by decide), rowL_cg (f := ar 34) (g := ar 12) N 0 (fun i hi => by rw [Nat.zero_add]; exact r34 i hi)] at hb
      refine ⟨0, by decide, rfl, (w.1 20 (by decide) (by decide) (by decide)).trans (va_up_self _ _ _), fun _ => ?_, keepJ hC hR rfl rfl (fun i a b c d9 => (w.1 i (by omega) (by omega) (by omega)).trans ((va_up_ne _ _ c).trans (d.1 i a (by omega) (by omega)))) (fun k a b c => (w.2 k (by omega)).trans (d.2.1 k a (by omega) (by omega) (by omega) (by omega))) (fun j hj => (congrFun (w.2 11 (by omega)) j).trans (d.2.2 j hj))⟩
      rw [hb]
      show r.toInt64 = _
      rcases hl with ⟨h1, h2⟩ | ⟨h1, h2⟩
      · rw [h1, h2]; rfl
      · rw [h1, h2]; rfl
  · obtain ⟨-, e, h9⟩ := hp
    cases e
    rcases hr with ⟨-, e⟩ | ⟨j2, hj2, hy2, -⟩
    · subst e; exact ⟨1, by decide, rfl, rfl, (fun e => absurd e (by decide)), keep20 _ _ hC hR⟩
    · exact absurd ⟨j2, hj2, hy2⟩ h9
theorem F_pack {K N n rf : Nat} {wt : Nat → Nat → Nat} {dp wa : Nat → Nat} {v v1 : bV} {sc sc1 : Nat → Int32} {ar ar1 : Nat → Nat → Int32} {k b : Int32} {u2 : bS} {y : Int32} (hC : CJ K N n rf wt dp wa v sc) (hR : RJ K N n rf wt dp sc ar sc ar) (hw : wP2 (fun r u => ∃ j, j < K ∧ y = nI j ∧ ((∃ sc1 ar1, u = (v, sc1, ar1) ∧ dX n sc ar sc1 ar1 ∧ r = -1 ∧ WR wt dp j (rowL (ar 12) 0 N) = none) ∨ (∃ sc1 ar1 bs, u = (v, va_up (va_up sc1 3 (nI (n + bs.length))) 5 (nI 0), ar1) ∧ dX n sc ar sc1 ar1 ∧ ar1 11 = wrB (ar 11) n bs ∧ n + bs.length ≤ 8000 ∧ r = nI bs.length ∧ WR wt dp j (rowL (ar 12) 0 N) = some bs))) (fun E u => (E = xIA ∧ u = (v, sc, ar) ∧ ¬ isW K y) ∨ (E = xIS ∧ ∃ j, j < K ∧ y = nI j ∧ ∃ sc1 ar1 bs, u = (v, sc1, ar1) ∧ dX n sc ar sc1 ar1 ∧ 8000 < n + bs.length ∧ WR wt dp j (rowL (ar 12) 0 N) = some bs)) k (v1, sc1, ar1)) : clF sc ar sc1 ar1 := by
  rcases hw with ⟨-, r, u0, hp, e⟩ | ⟨-, hp⟩ | ⟨-, hp⟩
  · obtain ⟨j, hj, hy, h⟩ := hp
    rcases h with ⟨sc3, ar3, e0, d, -⟩ | ⟨sc3, ar3, bs, e0, d, -⟩
    · subst e0; cases e; exact ⟨fun i hi => d.1 i (by omega) (by omega) (by omega), fun k hk => d.2.1 k (by omega) (by omega) (by omega) (by omega) (by omega)⟩
    · subst e0; cases e; exact ⟨fun i hi => (va_up_ne _ _ (by omega)).trans ((va_up_ne _ _ (by omega)).trans (d.1 i (by omega) (by omega) (by omega))), fun k hk => d.2.1 k (by omega) (by omega) (by omega) (by omega) (by omega)⟩
  · rcases hp with ⟨-, e, -⟩ | ⟨h9, -⟩
    · cases e; exact clF.rf
    · exact absurd h9 neAS
  · rcases hp with ⟨h9, -⟩ | ⟨-, j, hj, hy, sc3, ar3, bs, e, d, -⟩
    · exact absurd h9 neSA
    · cases e; exact ⟨fun i hi => d.1 i (by omega) (by omega) (by omega), fun k hk => d.2.1 k (by omega) (by omega) (by omega) (by omega) (by omega)⟩
set_option maxHeartbeats 1000000 in
theorem M_pack {K N n rf : Nat} {wt : Nat → Nat → Nat} {dp wa : Nat → Nat} {v v1 : bV} {sc sc1 : Nat → Int32} {ar ar1 : Nat → Nat → Int32} {k b : Int32} {u2 : bS} {y : Int32} (hC : CJ K N n rf wt dp wa v sc) (hR : RJ K N n rf wt dp sc ar sc ar) (hw : wP2 (fun r u => ∃ j, j < K ∧ y = nI j ∧ ((∃ sc1 ar1, u = (v, sc1, ar1) ∧ dX n sc ar sc1 ar1 ∧ r = -1 ∧ WR wt dp j (rowL (ar 12) 0 N) = none) ∨ (∃ sc1 ar1 bs, u = (v, va_up (va_up sc1 3 (nI (n + bs.length))) 5 (nI 0), ar1) ∧ dX n sc ar sc1 ar1 ∧ ar1 11 = wrB (ar 11) n bs ∧ n + bs.length ≤ 8000 ∧ r = nI bs.length ∧ WR wt dp j (rowL (ar 12) 0 N) = some bs))) (fun E u => (E = xIA ∧ u = (v, sc, ar) ∧ ¬ isW K y) ∨ (E = xIS ∧ ∃ j, j < K ∧ y = nI j ∧ ∃ sc1 ar1 bs, u = (v, sc1, ar1) ∧ dX n sc ar sc1 ar1 ∧ 8000 < n + bs.length ∧ WR wt dp j (rowL (ar 12) 0 N) = some bs)) k (v1, sc1, ar1)) (hr : (fun (v : bV) (sc : Nat → Int32) (ar : Nat → Nat → Int32) (t : Nat → Nat) (y : Int32) => (fun r u => (¬ isW K y ∧ u = (v, va_up sc 20 (nI 1), ar)) ∨ (∃ j, j < K ∧ y = nI j ∧ ∃ sc1 ar1, wFr (va_up sc 20 (nI 0)) ar sc1 ar1 ∧ ((WR wt dp j (rowL (ar 34) 0 N) = none ∧ r = -1 ∧ u = (v, sc1, ar1)) ∨ (∃ bs, WR wt dp j (rowL (ar 34) 0 N) = some bs ∧ ((8000 < n + bs.length ∧ u = (v, va_up sc1 20 (nI 2), ar1)) ∨ (n + bs.length ≤ 8000 ∧ r = nI bs.length ∧ ∃ g, u = (v, va_up (va_up sc1 20 (nI 0)) 23 (nI (n + bs.length)), va_up ar1 35 g) ∧ (∀ q, q < n → g q = ar 35 q) ∧ ∀ q, q < bs.length → g (n + q) = nI (bs.getD q 0)))))))) v1 sc1 ar1 (bN (ar 11)) y b u2) : mO k b u2 := by
  obtain ⟨c0, cK, cv, cW, c1, cN, c3, cn, c4, crf⟩ := id hC
  obtain ⟨r21, rW, r22, r23, r24, ⟨r25, r26, r27, r28⟩, r34, r35⟩ := id hR
  rcases hw with ⟨rfl, r, u0, hp, e⟩ | ⟨rfl, hp⟩ | ⟨rfl, hp⟩
  · obtain ⟨j, hj, hy, h⟩ := hp
    rcases hr with ⟨h9, -⟩ | ⟨j2, hj2, hy2, sc4, ar4, w, h5⟩
    · exact absurd ⟨j, hj, hy⟩ h9
    · have e1 : j2 = j := (nI_eq (by omega) (by omega)).mp (hy2.symm.trans hy)
      subst e1
      rcases h with ⟨sc3, ar3, e0, d, hrr, hW⟩ | ⟨sc3, ar3, bs, e0, d, h11, h8, hrr, hW⟩
      · subst e0
        cases e
        rw [show ar1 34 = ar 34 from d.2.1 34 (by decide) (by decide) (by decide) (by decide) (by decide), rowL_cg (f := ar 34) (g := ar 12) N 0 (fun i hi => by rw [Nat.zero_add]; exact r34 i hi), hW] at h5
        rcases h5 with ⟨-, hb, e⟩ | ⟨bs, h9, -⟩
        · subst e
          refine ⟨0, by decide, rfl, (w.1 20 (by decide) (by decide) (by decide)).trans (va_up_self _ _ _), (fun _ => by rw [hb, ← hrr]; rfl), keepJ hC hR rfl rfl (fun i a b c d9 => (w.1 i (by omega) (by omega) (by omega)).trans ((va_up_ne _ _ c).trans (d.1 i a (by omega) (by omega)))) (fun k a b c => (w.2 k (by omega)).trans (d.2.1 k a (by omega) (by omega) (by omega) (by omega))) (fun j hj => (congrFun (w.2 11 (by omega)) j).trans (d.2.2 j hj))⟩
        · cases h9
      · subst e0
        cases e
        rw [show ar1 34 = ar 34 from d.2.1 34 (by decide) (by decide) (by decide) (by decide) (by decide), rowL_cg (f := ar 34) (g := ar 12) N 0 (fun i hi => by rw [Nat.zero_add]; exact r34 i hi), hW] at h5
        rcases h5 with ⟨h9, -⟩ | ⟨bs2, h9, h10⟩
        · cases h9
        · cases h9
          rcases h10 with ⟨h10, -⟩ | ⟨-, hb, g, e, hg1, hg2⟩
          · omega
          · subst e
            have ws : ∀ i, i ≠ 20 → i ≠ 29 → i ≠ 30 → i ≠ 31 → i ≠ 3 → i ≠ 5 → i ≠ 9 → i ≠ 10 → sc4 i = sc i := fun i a b c d9 e f g9 h9 => (w.1 i b c d9).trans ((va_up_ne _ _ a).trans ((va_up_ne _ _ f).trans ((va_up_ne _ _ e).trans (d.1 i f g9 h9))))
            have wa4 : ∀ k, k ≠ 11 → k ≠ 14 → k ≠ 15 → k ≠ 16 → ¬ (19 ≤ k ∧ k < 27) → ¬ (36 ≤ k ∧ k ≤ 41) → ar4 k = ar k := fun k a b c d9 e f => (w.2 k f).trans (d.2.1 k a b c d9 e)
            have hb256 := WR_256 j2 (fun q hq => (rW q (by omega)).2.2.2.2.2.2) _ _ hW
            have hs4 : ∀ i, i < 20 → sc4 i = va_up (va_up sc3 3 (nI (n + bs.length))) 5 (nI 0) i := fun i hi => (w.1 i (by omega) (by omega) (by omega)).trans (va_up_ne _ _ (by omega))
            refine ⟨0, by decide, rfl, rfl, (fun _ => by rw [hb, ← hrr]; rfl), ⟨K, N, n + bs.length, rf, wt, dp, wa, ⟨(ws 0 (by decide) (by decide) (by decide) (by decide) (by decide) (by decide) (by decide) (by decide)).trans c0, cK, cv, cW, (ws 1 (by decide) (by decide) (by decide) (by decide) (by decide) (by decide) (by decide) (by decide)).trans c1, cN, hs4 3 (by decide), h8, (ws 4 (by decide) (by decide) (by decide) (by decide) (by decide) (by decide) (by decide) (by decide)).trans c4, by omega⟩, (ws 21 (by decide) (by decide) (by decide) (by decide) (by decide) (by decide) (by decide) (by decide)).trans r21, rW.fr0 (fun k a b => (va_up_ne _ _ (by omega)).trans (wa4 k (by omega) (by omega) (by omega) (by omega) (by omega) (by omega))), (ws 22 (by decide) (by decide) (by decide) (by decide) (by decide) (by decide) (by decide) (by decide)).trans r22, rfl, (ws 24 (by decide) (by decide) (by decide) (by decide) (by decide) (by decide) (by decide) (by decide)).trans r24, ⟨?_, ?_, ?_, ?_⟩, fun i hi => ?_, fun j hj => ?_⟩⟩
            · show sc4 25 = sc4 2; rw [ws 25 (by decide) (by decide) (by decide) (by decide) (by decide) (by decide) (by decide) (by decide), ws 2 (by decide) (by decide) (by decide) (by decide) (by decide) (by decide) (by decide) (by decide)]; exact r25
            · show sc4 26 = sc4 12; rw [ws 26 (by decide) (by decide) (by decide) (by decide) (by decide) (by decide) (by decide) (by decide), ws 12 (by decide) (by decide) (by decide) (by decide) (by decide) (by decide) (by decide) (by decide)]; exact r26
            · show sc4 27 = sc4 13; rw [ws 27 (by decide) (by decide) (by decide) (by decide) (by decide) (by decide) (by decide) (by decide), ws 13 (by decide) (by decide) (by decide) (by decide) (by decide) (by decide) (by decide) (by decide)]; exact r27
            · show sc4 28 = sc4 14; rw [ws 28 (by decide) (by decide) (by decide) (by decide) (by decide) (by decide) (by decide) (by decide), ws 14 (by decide) (by decide) (by decide) (by decide) (by decide) (by decide) (by decide) (by decide)]; exact r28
            · show ar4 34 i = ar4 12 i; rw [wa4 34 (by decide) (by decide) (by decide) (by decide) (by decide) (by decide), wa4 12 (by decide) (by decide) (by decide) (by decide) (by decide) (by decide)]; exact r34 i hi
            · show g j = nI (bN (ar4 11) j)
              rw [show ar4 11 = wrB (ar 11) n bs from (w.2 11 (by decide)).trans h11]
              by_cases hjn : j < n
              · rw [hg1 j hjn, d.2.1 35 (by decide) (by decide) (by decide) (by decide) (by decide), r35 j hjn]; unfold bN; rw [wrB_low hjn]
              · have e := hg2 (j - n) (by omega)
                have e2 := bN_wrB (f := ar 11) (p := n) (i := j - n) (bs := bs) (by omega) (by omega) hb256
                rw [show n + (j - n) = j by omega] at e e2
                rw [e, e2]
  · rcases hp with ⟨-, e, hb⟩ | ⟨h9, -⟩
    · cases e
      rcases hr with ⟨-, e⟩ | ⟨j2, hj2, hy2, -⟩
      · subst e; exact ⟨1, by decide, rfl, rfl, (fun e => absurd e (by decide)), keep20 _ _ hC hR⟩
      · exact absurd ⟨j2, hj2, hy2⟩ hb
    · exact absurd h9 neAS
  · rcases hp with ⟨h9, -⟩ | ⟨-, j, hj, hy, sc3, ar3, bs, e, d, h8, hW⟩
    · exact absurd h9 neSA
    · cases e
      rcases hr with ⟨h9, -⟩ | ⟨j2, hj2, hy2, sc4, ar4, w, h5⟩
      · exact absurd ⟨j, hj, hy⟩ h9
      · have e1 : j2 = j := (nI_eq (by omega) (by omega)).mp (hy2.symm.trans hy)
        subst e1
        rw [show ar1 34 = ar 34 from d.2.1 34 (by decide) (by decide) (by decide) (by decide) (by decide), rowL_cg (f := ar 34) (g := ar 12) N 0 (fun i hi => by rw [Nat.zero_add]; exact r34 i hi), hW] at h5
        rcases h5 with ⟨h9, -⟩ | ⟨bs2, h9, h10⟩
        · cases h9
        · cases h9
          rcases h10 with ⟨-, e⟩ | ⟨h10, -⟩
          · subst e
            refine ⟨2, by decide, rfl, rfl, (fun e => absurd e (by decide)), keepJ hC hR rfl rfl (fun i a b c d9 => (va_up_ne _ _ c).trans ((w.1 i (by omega) (by omega) (by omega)).trans ((va_up_ne _ _ c).trans (d.1 i a (by omega) (by omega))))) (fun k a b c => (w.2 k (by omega)).trans (d.2.1 k a (by omega) (by omega) (by omega) (by omega))) (fun j hj => (congrFun (w.2 11 (by omega)) j).trans (d.2.2 j hj))⟩
          · omega
