/-! Ways: what they are, how they write a row. wt i 0 .. wt i 4: the kind (0 coding, 1 run, 2 popular) and four numbers of way i; dp i its depth; wa i its address. -/
def wayE (wt : Nat → Nat → Nat) (dp wa : Nat → Nat) (i : Nat) : va_E :=
  if wt i 0 = 0 then .inr (1, [.int (nI 0), .int (nI (wt i 1)), .int (nI (wt i 2)), .int (nI (wt i 3)), .int (nI (wt i 4)), .int (nI (256 - wt i 2))])
  else if wt i 0 = 1 then .inr (5, [.int (nI (dp i)), .int (nI (wt i 1)), .ref (wa (wt i 2)), .ref (wa (wt i 3))])
  else .inr (4, [.int (nI (dp i)), .int (nI (wt i 1)), .ref (wa (wt i 2)), .ref (wa (wt i 3)), .ref (wa (wt i 4))])
def wOK (wt : Nat → Nat → Nat) (dp : Nat → Nat) (i : Nat) : Prop :=
  (wt i 0 = 0 ∧ dp i = 0 ∧ (1 ≤ wt i 1 ∧ wt i 1 ≤ 5) ∧ (1 ≤ wt i 2 ∧ wt i 2 ≤ 256) ∧ wt i 3 ≤ 2 ∧ wt i 4 ≤ 1)
  ∨ (wt i 0 = 1 ∧ wt i 1 ≤ 400 ∧ wt i 2 < i ∧ wt i 3 < i ∧ dp (wt i 2) < dp i ∧ dp (wt i 3) < dp i ∧ dp i ≤ 4)
  ∨ (wt i 0 = 2 ∧ (1 ≤ wt i 1 ∧ wt i 1 ≤ 50) ∧ wt i 2 < i ∧ wt i 3 < i ∧ wt i 4 < i ∧ dp (wt i 2) < dp i ∧ dp (wt i 3) < dp i ∧ dp (wt i 4) < dp i ∧ dp i ≤ 4)
def WT (v : bV) (wt : Nat → Nat → Nat) (dp wa : Nat → Nat) (K : Nat) : Prop := ∀ i, i < K → wa i ∈ v.2.2.1 ∧ v.2.2.2 (wa i) = wayE wt dp wa i ∧ wOK wt dp i
def cat2 (a b : Option (List Nat)) : Option (List Nat) := a.bind (fun x => b.map (fun y => x ++ y))
def favL (m : Nat) (xs : List Int32) : List Int32 := favs (fun i => xs.getD i 0) xs.length m
def tokL (F xs : List Int32) : List Int32 := xs.map (fun x => nI (tok F x))
def othL (F xs : List Int32) : List Int32 := xs.filter (fun x => tok F x == 0)
def wrW (wt : Nat → Nat → Nat) : Nat → Nat → List Int32 → Option (List Nat)
  | 0, _, _ => none
  | q + 1, i, xs =>
    if wt i 0 = 0 then wrC (wt i 1) (wt i 2) (wt i 3) (wt i 4) 0 xs
    else if wt i 0 = 1 then cat2 (wrW wt q (wt i 2) (xs.take (wt i 1))) (wrW wt q (wt i 3) (xs.drop (wt i 1)))
    else cat2 (wrW wt q (wt i 2) [nI (favL (wt i 1) xs).length]) (cat2 (wrW wt q (wt i 2) (favL (wt i 1) xs)) (cat2 (wrW wt q (wt i 3) (tokL (favL (wt i 1) xs) xs)) (wrW wt q (wt i 4) (othL (favL (wt i 1) xs) xs))))
theorem wrW_fuel {wt : Nat → Nat → Nat} {dp : Nat → Nat} : ∀ (i : Nat), (∀ j, j ≤ i → wOK wt dp j) → ∀ (f : Nat) (xs : List Int32), dp i < f → wrW wt f i xs = wrW wt (dp i + 1) i xs := by
  intro i
  induction i using Nat.strongRecOn with
  | ind i ih =>
    intro hok f xs hf
    obtain ⟨f, rfl⟩ : ∃ g, f = g + 1 := ⟨f - 1, by omega⟩
    have sub : ∀ j, j < i → dp j < dp i → ∀ ys, wrW wt f j ys = wrW wt (dp i) j ys := fun j hj hd ys => by
      rw [ih j hj (fun q hq => hok q (by omega)) f ys (by omega), ih j hj (fun q hq => hok q (by omega)) (dp i) ys hd]
    unfold wrW
    rcases hok i (Nat.le_refl _) with h | h | h
    · rw [if_pos h.1, if_pos h.1]
    · obtain ⟨h0, -, h2, h3, h4, h5, -⟩ := h
      rw [if_neg (by omega), if_pos h0, if_neg (by omega), if_pos h0, sub _ h2 h4, sub _ h3 h5]
    · obtain ⟨h0, -, h2, h3, h4, h5, h6, h7, -⟩ := h
      rw [if_neg (by omega), if_neg (by omega), if_neg (by omega), if_neg (by omega), sub _ h2 h5, sub _ h2 h5, sub _ h3 h6, sub _ h4 h7]
/-- how way i writes a row -/
def WR (wt : Nat → Nat → Nat) (dp : Nat → Nat) (i : Nat) (xs : List Int32) : Option (List Nat) := wrW wt (dp i + 1) i xs
theorem WR_sub {wt : Nat → Nat → Nat} {dp : Nat → Nat} {i j : Nat} (hok : ∀ q, q ≤ i → wOK wt dp q) (hj : j < i) (hd : dp j < dp i) (ys : List Int32) : wrW wt (dp i) j ys = WR wt dp j ys := wrW_fuel j (fun q hq => hok q (by omega)) _ _ hd
theorem WR_cod {wt : Nat → Nat → Nat} {dp : Nat → Nat} {i : Nat} {xs : List Int32} (h : wt i 0 = 0) : WR wt dp i xs = wrC (wt i 1) (wt i 2) (wt i 3) (wt i 4) 0 xs := by
  unfold WR wrW
  rw [if_pos h]
theorem WR_run {wt : Nat → Nat → Nat} {dp : Nat → Nat} {i : Nat} {xs : List Int32} (hok : ∀ q, q ≤ i → wOK wt dp q) (h : wt i 0 = 1) : WR wt dp i xs = cat2 (WR wt dp (wt i 2) (xs.take (wt i 1))) (WR wt dp (wt i 3) (xs.drop (wt i 1))) := by
  rcases hok i (Nat.le_refl _) with q | q | q
  · omega
  · obtain ⟨h0, -, h2, h3, h4, h5, -⟩ := q
    rw [← WR_sub hok h2 h4, ← WR_sub hok h3 h5]
    conv => lhs; unfold WR wrW
    rw [if_neg (by omega), if_pos h]
  · omega
theorem WR_pop {wt : Nat → Nat → Nat} {dp : Nat → Nat} {i : Nat} {xs : List Int32} (hok : ∀ q, q ≤ i → wOK wt dp q) (h : wt i 0 = 2) : WR wt dp i xs = cat2 (WR wt dp (wt i 2) [nI (favL (wt i 1) xs).length]) (cat2 (WR wt dp (wt i 2) (favL (wt i 1) xs)) (cat2 (WR wt dp (wt i 3) (tokL (favL (wt i 1) xs) xs)) (WR wt dp (wt i 4) (othL (favL (wt i 1) xs) xs)))) := by
  rcases hok i (Nat.le_refl _) with q | q | q
  · omega
  · omega
  · obtain ⟨h0, -, h2, h3, h4, h5, h6, h7, -⟩ := q
    rw [← WR_sub hok h2 h5, ← WR_sub hok h2 h5, ← WR_sub hok h3 h6, ← WR_sub hok h4 h7]
    conv => lhs; unfold WR wrW
    rw [if_neg (by omega), if_neg (by omega)]
/-- what a way's writing may change, and the bytes behind the tape -/
def wR (q : Nat) (sc : Nat → Int32) (ar : Nat → Nat → Int32) (n d : Nat) (bs : List Nat) (sc1 : Nat → Int32) (ar1 : Nat → Nat → Int32) : Prop :=
  (∀ i, i ≠ 5 → i ≠ 9 → i ≠ 10 → sc1 i = sc i) ∧ (∀ k, k ≠ 11 → k ≠ 14 → k ≠ 15 → k ≠ 16 → ¬ (19 ≤ k ∧ k < 19 + q) → ¬ (23 ≤ k ∧ k < 23 + q) → ar1 k = ar k) ∧ sc1 5 = nI (d + bs.length) ∧ ar1 11 = wrB (ar 11) (n + d) bs
theorem wR.trans {q : Nat} {sc sc1 sc2 : Nat → Int32} {ar ar1 ar2 : Nat → Nat → Int32} {n d : Nat} {b1 b2 : List Nat} (h : wR q sc ar n d b1 sc1 ar1) (h2 : wR q sc1 ar1 n (d + b1.length) b2 sc2 ar2) : wR q sc ar n d (b1 ++ b2) sc2 ar2 := by
  refine ⟨fun i a1 a2 a3 => (h2.1 i a1 a2 a3).trans (h.1 i a1 a2 a3), fun k a1 a2 a3 a4 a5 a6 => (h2.2.1 k a1 a2 a3 a4 a5 a6).trans (h.2.1 k a1 a2 a3 a4 a5 a6), ?_, ?_⟩
  · rw [h2.2.2.1, List.length_append, Nat.add_assoc]
  · rw [h2.2.2.2, h.2.2.2, ← Nat.add_assoc, wrB_app]
theorem wR.mono {q q' : Nat} {sc sc1 : Nat → Int32} {ar ar1 : Nat → Nat → Int32} {n d : Nat} {bs : List Nat} (h : wR q sc ar n d bs sc1 ar1) (hq : q ≤ q') : wR q' sc ar n d bs sc1 ar1 := ⟨h.1, fun k a1 a2 a3 a4 a5 a6 => h.2.1 k a1 a2 a3 a4 (by omega) (by omega), h.2.2⟩
def Bd (q c : Nat) : Nat := 5 * 5 ^ q * (c + 51)
theorem Bd_mono {q q' c c' : Nat} (h : q ≤ q') (hc : c ≤ c') : Bd q c ≤ Bd q' c' := Nat.mul_le_mul (Nat.mul_le_mul_left _ (Nat.pow_le_pow_right (by decide) h)) (by omega)
theorem Bd_le {q c : Nat} (hq : q ≤ 4) (hc : c ≤ 400) : Bd q c ≤ 1500000 := Nat.le_trans (Bd_mono hq hc) (by decide)
theorem Bd_run {q a b : Nat} : Bd q a + Bd q b ≤ Bd (q + 1) (a + b) := by
  unfold Bd
  rw [Nat.pow_succ, ← Nat.mul_add]
  have : 5 * (5 ^ q * 5) * (a + b + 51) = 5 * 5 ^ q * (5 * (a + b + 51)) := by simp [Nat.mul_comm, Nat.mul_left_comm, Nat.mul_assoc]
  rw [this]
  exact Nat.mul_le_mul_left _ (by omega)
theorem Bd_pop {q c o k : Nat} (hk : k ≤ 50) (ho : o ≤ c) : Bd q 1 + (Bd q k + (Bd q c + Bd q o)) ≤ Bd (q + 1) c := by
  unfold Bd
  rw [Nat.pow_succ, ← Nat.mul_add, ← Nat.mul_add, ← Nat.mul_add]
  have : 5 * (5 ^ q * 5) * (c + 51) = 5 * 5 ^ q * (5 * (c + 51)) := by simp [Nat.mul_comm, Nat.mul_left_comm, Nat.mul_assoc]
  rw [this]
  exact Nat.mul_le_mul_left _ (by omega)
/-- which rows a way of depth q may be handed -/
def kOK (q k : Nat) : Prop := isA k = true ∧ aL k < 2 ^ 31 ∧ k ≠ 11 ∧ k ≠ 14 ∧ k ≠ 15 ∧ k ≠ 16 ∧ ¬ (19 ≤ k ∧ k < 19 + q) ∧ ¬ (23 ≤ k ∧ k < 23 + q)
theorem kOK.mono {q q' k : Nat} (h : kOK q' k) (hq : q ≤ q') : kOK q k := ⟨h.1, h.2.1, h.2.2.1, h.2.2.2.1, h.2.2.2.2.1, h.2.2.2.2.2.1, by have := h.2.2.2.2.2.2.1; omega, by have := h.2.2.2.2.2.2.2; omega⟩
def wH (sc : Nat → Int32) (n d q k fr cnt : Nat) : Prop := sc 3 = nI n ∧ n ≤ 8000 ∧ sc 5 = nI d ∧ d + Bd q cnt < 2 ^ 29 ∧ kOK q k ∧ fr + cnt ≤ aL k ∧ cnt ≤ 400
def wQ (v : bV) (sc : Nat → Int32) (ar : Nat → Nat → Int32) (n d q cnt : Nat) (o : Option (List Nat)) (r : Int32) (u : bS) : Prop := ∃ (bs : List Nat) (sc1 : Nat → Int32) (ar1 : Nat → Nat → Int32), u = (v, sc1, ar1) ∧ wR q sc ar n d bs sc1 ar1 ∧ bs.length ≤ Bd q cnt ∧ ((r = 1 ∧ o = some bs) ∨ (r = 0 ∧ o = none))
def rmW (q : Nat) : Room := { frames := 4 * q + 8, cells := 0, slots := 0, locals := 60 * q + 100 }
abbrev wAv (z : bZ) (a k fr cnt : Nat) : List Value := [.ref a, .ref (zad z 1), .ref (zad z k), .int (nI fr), .int (nI cnt)]
/-- what is to be shown of way i: it writes as WR says -/
def wIH (l : Launch) (z : bZ) (wt : Nat → Nat → Nat) (dp wa : Nat → Nat) (v : bV) (i : Nat) : Prop := ∀ (sc : Nat → Int32) (ar : Nat → Nat → Int32) (n d k fr cnt : Nat), wH sc n d (dp i) k fr cnt →
  (wt i 0 = 1 → Met l yX5_write (Cond.code yX5_write cX5_write 6 (some .boolean) :: uW) (rmW (dp i)) (pC z v sc ar (wAv z (wa i) k fr cnt)) (qI z (wQ v sc ar n d (dp i) cnt (WR wt dp i (rowL (ar k) fr cnt)))) 0 0 (zA z)) ∧
  (wt i 0 = 2 → Met l yX4_write (Cond.code yX4_write cX4_write 7 (some .boolean) :: uW) (rmW (dp i)) (pC z v sc ar (wAv z (wa i) k fr cnt)) (qI z (wQ v sc ar n d (dp i) cnt (WR wt dp i (rowL (ar k) fr cnt)))) 0 0 (zA z))
abbrev yWw : MethodName := ⟨"BandMill$Way", "write", "(LBandMill$Desk;[III)Z"⟩
theorem WT_cod {v : bV} {wt : Nat → Nat → Nat} {dp wa : Nat → Nat} {K i : Nat} (h : WT v wt dp wa K) (hi : i < K) (h0 : wt i 0 = 0) : cdW v (wa i) (wt i 1) (wt i 2) (wt i 3) (wt i 4) ∧ dp i = 0 := by
  obtain ⟨h1, h2, h3⟩ := h i hi
  rcases h3 with q | q | q
  · refine ⟨⟨h1, ?_, q.2.2⟩, q.2.1⟩
    rw [h2]; unfold wayE; rw [if_pos h0]
  · omega
  · omega
def rnW (v : bV) (a q n a1 a2 : Nat) : Prop := a ∈ v.2.2.1 ∧ v.2.2.2 a = .inr (5, [.int (nI q), .int (nI n), .ref a1, .ref a2])
def poW (v : bV) (a q m a1 a2 a3 : Nat) : Prop := a ∈ v.2.2.1 ∧ v.2.2.2 a = .inr (4, [.int (nI q), .int (nI m), .ref a1, .ref a2, .ref a3])
theorem WT_run {v : bV} {wt : Nat → Nat → Nat} {dp wa : Nat → Nat} {K i : Nat} (h : WT v wt dp wa K) (hi : i < K) (h0 : wt i 0 = 1) : rnW v (wa i) (dp i) (wt i 1) (wa (wt i 2)) (wa (wt i 3)) ∧ wt i 1 ≤ 400 ∧ wt i 2 < i ∧ wt i 3 < i ∧ dp (wt i 2) < dp i ∧ dp (wt i 3) < dp i ∧ dp i ≤ 4 := by
  obtain ⟨h1, h2, h3⟩ := h i hi
  rcases h3 with q | q | q
  · omega
  · refine ⟨⟨h1, ?_⟩, q.2⟩
    rw [h2]; unfold wayE; rw [if_neg (by omega), if_pos h0]
  · omega
theorem WT_pop {v : bV} {wt : Nat → Nat → Nat} {dp wa : Nat → Nat} {K i : Nat} (h : WT v wt dp wa K) (hi : i < K) (h0 : wt i 0 = 2) : poW v (wa i) (dp i) (wt i 1) (wa (wt i 2)) (wa (wt i 3)) (wa (wt i 4)) ∧ (1 ≤ wt i 1 ∧ wt i 1 ≤ 50) ∧ wt i 2 < i ∧ wt i 3 < i ∧ wt i 4 < i ∧ dp (wt i 2) < dp i ∧ dp (wt i 3) < dp i ∧ dp (wt i 4) < dp i ∧ dp i ≤ 4 := by
  obtain ⟨h1, h2, h3⟩ := h i hi
  rcases h3 with q | q | q
  · omega
  · omega
  · refine ⟨⟨h1, ?_⟩, q.2⟩
    rw [h2]; unfold wayE; rw [if_neg (by omega), if_neg (by omega)]
theorem WT_ok {v : bV} {wt : Nat → Nat → Nat} {dp wa : Nat → Nat} {K i : Nat} (h : WT v wt dp wa K) (hi : i < K) : ∀ q, q ≤ i → wOK wt dp q := fun q hq => (h q (by omega)).2.2
abbrev yWr : MethodName := ⟨"BandMill$Way", "read", "(LBandMill$Desk;[III)Z"⟩
theorem gu_X4_50_X1 : GoodIn uW (va_wsU RX4 50 RX1 "BandMill$Way" yWw yX1_write (Cond.code yX1_write cX1_write 7 (some .boolean) :: uW)) := gI_U (uW_of (by decide +kernel) rfl) (uW_of (by decide +kernel) rfl) (uW_of (by decide +kernel) rfl) (uW_of (by decide +kernel) rfl) (uW_of (by decide +kernel) rfl) (uW_of (by decide +kernel) rfl)
theorem gu_X4_50_X5 : GoodIn uW (va_wsU RX4 50 RX5 "BandMill$Way" yWw yX5_write (Cond.code yX5_write cX5_write 6 (some .boolean) :: uW)) := gI_U (uW_of (by decide +kernel) rfl) (uW_of (by decide +kernel) rfl) (uW_of (by decide +kernel) rfl) (uW_of (by decide +kernel) rfl) (uW_of (by decide +kernel) rfl) (uW_of (by decide +kernel) rfl)
theorem gu_X4_50_X4 : GoodIn uW (va_wsU RX4 50 RX4 "BandMill$Way" yWw yX4_write (Cond.code yX4_write cX4_write 7 (some .boolean) :: uW)) := gI_U (uW_of (by decide +kernel) rfl) (uW_of (by decide +kernel) rfl) (uW_of (by decide +kernel) rfl) (uW_of (by decide +kernel) rfl) (uW_of (by decide +kernel) rfl) (uW_of (by decide +kernel) rfl)
theorem gu_X5_26_X1 : GoodIn uW (va_wsU RX5 26 RX1 "BandMill$Way" yWw yX1_write (Cond.code yX1_write cX1_write 7 (some .boolean) :: uW)) := gI_U (uW_of (by decide +kernel) rfl) (uW_of (by decide +kernel) rfl) (uW_of (by decide +kernel) rfl) (uW_of (by decide +kernel) rfl) (uW_of (by decide +kernel) rfl) (uW_of (by decide +kernel) rfl)
theorem gu_X5_26_X5 : GoodIn uW (va_wsU RX5 26 RX5 "BandMill$Way" yWw yX5_write (Cond.code yX5_write cX5_write 6 (some .boolean) :: uW)) := gI_U (uW_of (by decide +kernel) rfl) (uW_of (by decide +kernel) rfl) (uW_of (by decide +kernel) rfl) (uW_of (by decide +kernel) rfl) (uW_of (by decide +kernel) rfl) (uW_of (by decide +kernel) rfl)
theorem gu_X5_26_X4 : GoodIn uW (va_wsU RX5 26 RX4 "BandMill$Way" yWw yX4_write (Cond.code yX4_write cX4_write 7 (some .boolean) :: uW)) := gI_U (uW_of (by decide +kernel) rfl) (uW_of (by decide +kernel) rfl) (uW_of (by decide +kernel) rfl) (uW_of (by decide +kernel) rfl) (uW_of (by decide +kernel) rfl) (uW_of (by decide +kernel) rfl)
theorem gu_X9_188_X1 : GoodIn uW (va_wsU RX9 188 RX1 "BandMill$Way" yWw yX1_write (Cond.code yX1_write cX1_write 7 (some .boolean) :: uW)) := gI_U (uW_of (by decide +kernel) rfl) (uW_of (by decide +kernel) rfl) (uW_of (by decide +kernel) rfl) (uW_of (by decide +kernel) rfl) (uW_of (by decide +kernel) rfl) (uW_of (by decide +kernel) rfl)
theorem gu_X9_188_X5 : GoodIn uW (va_wsU RX9 188 RX5 "BandMill$Way" yWw yX5_write (Cond.code yX5_write cX5_write 6 (some .boolean) :: uW)) := gI_U (uW_of (by decide +kernel) rfl) (uW_of (by decide +kernel) rfl) (uW_of (by decide +kernel) rfl) (uW_of (by decide +kernel) rfl) (uW_of (by decide +kernel) rfl) (uW_of (by decide +kernel) rfl)
theorem gu_X9_188_X4 : GoodIn uW (va_wsU RX9 188 RX4 "BandMill$Way" yWw yX4_write (Cond.code yX4_write cX4_write 7 (some .boolean) :: uW)) := gI_U (uW_of (by decide +kernel) rfl) (uW_of (by decide +kernel) rfl) (uW_of (by decide +kernel) rfl) (uW_of (by decide +kernel) rfl) (uW_of (by decide +kernel) rfl) (uW_of (by decide +kernel) rfl)
theorem gu_X4_70_X1 : GoodIn uW (va_wsU RX4 70 RX1 "BandMill$Way" yWr yX1_read (Cond.code yX1_read cX1_read 13 (some .boolean) :: uW)) := gI_U (uW_of (by decide +kernel) rfl) (uW_of (by decide +kernel) rfl) (uW_of (by decide +kernel) rfl) (uW_of (by decide +kernel) rfl) (uW_of (by decide +kernel) rfl) (uW_of (by decide +kernel) rfl)
theorem gu_X4_70_X5 : GoodIn uW (va_wsU RX4 70 RX5 "BandMill$Way" yWr yX5_read (Cond.code yX5_read cX5_read 6 (some .boolean) :: uW)) := gI_U (uW_of (by decide +kernel) rfl) (uW_of (by decide +kernel) rfl) (uW_of (by decide +kernel) rfl) (uW_of (by decide +kernel) rfl) (uW_of (by decide +kernel) rfl) (uW_of (by decide +kernel) rfl)
theorem gu_X4_70_X4 : GoodIn uW (va_wsU RX4 70 RX4 "BandMill$Way" yWr yX4_read (Cond.code yX4_read cX4_read 10 (some .boolean) :: uW)) := gI_U (uW_of (by decide +kernel) rfl) (uW_of (by decide +kernel) rfl) (uW_of (by decide +kernel) rfl) (uW_of (by decide +kernel) rfl) (uW_of (by decide +kernel) rfl) (uW_of (by decide +kernel) rfl)
theorem gu_X5_30_X1 : GoodIn uW (va_wsU RX5 30 RX1 "BandMill$Way" yWr yX1_read (Cond.code yX1_read cX1_read 13 (some .boolean) :: uW)) := gI_U (uW_of (by decide +kernel) rfl) (uW_of (by decide +kernel) rfl) (uW_of (by decide +kernel) rfl) (uW_of (by decide +kernel) rfl) (uW_of (by decide +kernel) rfl) (uW_of (by decide +kernel) rfl)
theorem gu_X5_30_X5 : GoodIn uW (va_wsU RX5 30 RX5 "BandMill$Way" yWr yX5_read (Cond.code yX5_read cX5_read 6 (some .boolean) :: uW)) := gI_U (uW_of (by decide +kernel) rfl) (uW_of (by decide +kernel) rfl) (uW_of (by decide +kernel) rfl) (uW_of (by decide +kernel) rfl) (uW_of (by decide +kernel) rfl) (uW_of (by decide +kernel) rfl)
theorem gu_X5_30_X4 : GoodIn uW (va_wsU RX5 30 RX4 "BandMill$Way" yWr yX4_read (Cond.code yX4_read cX4_read 10 (some .boolean) :: uW)) := gI_U (uW_of (by decide +kernel) rfl) (uW_of (by decide +kernel) rfl) (uW_of (by decide +kernel) rfl) (uW_of (by decide +kernel) rfl) (uW_of (by decide +kernel) rfl) (uW_of (by decide +kernel) rfl)
theorem gu_X9_111_X1 : GoodIn uW (va_wsU RX9 111 RX1 "BandMill$Way" yWr yX1_read (Cond.code yX1_read cX1_read 13 (some .boolean) :: uW)) := gI_U (uW_of (by decide +kernel) rfl) (uW_of (by decide +kernel) rfl) (uW_of (by decide +kernel) rfl) (uW_of (by decide +kernel) rfl) (uW_of (by decide +kernel) rfl) (uW_of (by decide +kernel) rfl)
theorem gu_X9_111_X5 : GoodIn uW (va_wsU RX9 111 RX5 "BandMill$Way" yWr yX5_read (Cond.code yX5_read cX5_read 6 (some .boolean) :: uW)) := gI_U (uW_of (by decide +kernel) rfl) (uW_of (by decide +kernel) rfl) (uW_of (by decide +kernel) rfl) (uW_of (by decide +kernel) rfl) (uW_of (by decide +kernel) rfl) (uW_of (by decide +kernel) rfl)
theorem gu_X9_111_X4 : GoodIn uW (va_wsU RX9 111 RX4 "BandMill$Way" yWr yX4_read (Cond.code yX4_read cX4_read 10 (some .boolean) :: uW)) := gI_U (uW_of (by decide +kernel) rfl) (uW_of (by decide +kernel) rfl) (uW_of (by decide +kernel) rfl) (uW_of (by decide +kernel) rfl) (uW_of (by decide +kernel) rfl) (uW_of (by decide +kernel) rfl)
theorem okWw : ("BandMill$Way" : String) ≠ "java/lang/invoke/MethodHandle" ∧ ("BandMill$Way" : String) ≠ "java/lang/invoke/VarHandle" ∧ (parseMethodDescriptor yWw.desc).map (fun d => d.parameters.length) = some 4 := by decide +kernel
section WAYS
variable {p : Program} {l : Launch} {e : Env} {R : Room} {s : State} {m : MethodId} {args : Array Value} {below : List Frame} {meth : Method} {c : Code} {H : Heap} {locs : List Loc} {cells slots : Nat} {Q : State → Prop}
variable {z : bZ} {v : bV} {sc : Nat → Int32} {ar : Nat → Nat → Int32} {cc : ByteArray} {nL : Nat} {own : String} {pc : Nat} {ls : Array Slot} {rest : List Value}
theorem uw_X5_7 : Cond.fieldLink RX5 7 "BandMill$Run" "n" "I" ∈ uW := (uW_of (by decide +kernel) rfl)
theorem rw_X5_7 {a q n a1 a2 : Nat} (C : cX z p m c cc nL s args RX5) (h : hH z v sc ar s H locs) (hw : rnW v a q n a1 a2) (hd : decode cc pc = .ok (.getfield 7, 3)) (kk : W p l e R s m args below meth c H locs cells slots Q (F0 m (pc + 3) ls (.int (nI n) :: rest))) : W p l e R s m args below meth c H locs cells slots Q (F0 m pc ls (.ref a :: rest)) :=
  rgP (k := 1) (T := TX5) C h hw.1 hw.2 rfl (by decide) iX5 uw_X5_7 (fun _ q => q) rfl hd kk
theorem uw_X5_13 : Cond.fieldLink RX5 13 "BandMill$Run" "first" "LBandMill$Way;" ∈ uW := (uW_of (by decide +kernel) rfl)
theorem rw_X5_13 {a q n a1 a2 : Nat} (C : cX z p m c cc nL s args RX5) (h : hH z v sc ar s H locs) (hw : rnW v a q n a1 a2) (hd : decode cc pc = .ok (.getfield 13, 3)) (kk : W p l e R s m args below meth c H locs cells slots Q (F0 m (pc + 3) ls (.ref a1 :: rest))) : W p l e R s m args below meth c H locs cells slots Q (F0 m pc ls (.ref a :: rest)) :=
  rgP (k := 2) (T := TX5) C h hw.1 hw.2 rfl (by decide) iX5 uw_X5_13 (fun _ q => q) rfl hd kk
theorem uw_X5_17 : Cond.fieldLink RX5 17 "BandMill$Run" "other" "LBandMill$Way;" ∈ uW := (uW_of (by decide +kernel) rfl)
theorem rw_X5_17 {a q n a1 a2 : Nat} (C : cX z p m c cc nL s args RX5) (h : hH z v sc ar s H locs) (hw : rnW v a q n a1 a2) (hd : decode cc pc = .ok (.getfield 17, 3)) (kk : W p l e R s m args below meth c H locs cells slots Q (F0 m (pc + 3) ls (.ref a2 :: rest))) : W p l e R s m args below meth c H locs cells slots Q (F0 m pc ls (.ref a :: rest)) :=
  rgP (k := 3) (T := TX5) C h hw.1 hw.2 rfl (by decide) iX5 uw_X5_17 (fun _ q => q) rfl hd kk
theorem uw_X4_31 : Cond.fieldLink RX4 31 "BandMill$Popular" "depth" "I" ∈ uW := (uW_of (by decide +kernel) rfl)
theorem us_X4 : Cond.sameField "BandMill$Popular" "BandMill$Way" "depth" "I" ∈ uW := (uW_of (by decide +kernel) rfl)
theorem uw_X4_9 : Cond.fieldLink RX4 9 "BandMill$Popular" "m" "I" ∈ uW := (uW_of (by decide +kernel) rfl)
theorem rw_X4_9 {a q n a1 a2 a3 : Nat} (C : cX z p m c cc nL s args RX4) (h : hH z v sc ar s H locs) (hw : poW v a q n a1 a2 a3) (hd : decode cc pc = .ok (.getfield 9, 3)) (kk : W p l e R s m args below meth c H locs cells slots Q (F0 m (pc + 3) ls (.int (nI n) :: rest))) : W p l e R s m args below meth c H locs cells slots Q (F0 m pc ls (.ref a :: rest)) :=
  rgP (k := 1) (T := TX4) C h hw.1 hw.2 rfl (by decide) iX4 uw_X4_9 (fun _ q => q) rfl hd kk
theorem uw_X4_15 : Cond.fieldLink RX4 15 "BandMill$Popular" "forFavourites" "LBandMill$Way;" ∈ uW := (uW_of (by decide +kernel) rfl)
theorem rw_X4_15 {a q n a1 a2 a3 : Nat} (C : cX z p m c cc nL s args RX4) (h : hH z v sc ar s H locs) (hw : poW v a q n a1 a2 a3) (hd : decode cc pc = .ok (.getfield 15, 3)) (kk : W p l e R s m args below meth c H locs cells slots Q (F0 m (pc + 3) ls (.ref a1 :: rest))) : W p l e R s m args below meth c H locs cells slots Q (F0 m pc ls (.ref a :: rest)) :=
  rgP (k := 2) (T := TX4) C h hw.1 hw.2 rfl (by decide) iX4 uw_X4_15 (fun _ q => q) rfl hd kk
theorem uw_X4_19 : Cond.fieldLink RX4 19 "BandMill$Popular" "forTokens" "LBandMill$Way;" ∈ uW := (uW_of (by decide +kernel) rfl)
theorem rw_X4_19 {a q n a1 a2 a3 : Nat} (C : cX z p m c cc nL s args RX4) (h : hH z v sc ar s H locs) (hw : poW v a q n a1 a2 a3) (hd : decode cc pc = .ok (.getfield 19, 3)) (kk : W p l e R s m args below meth c H locs cells slots Q (F0 m (pc + 3) ls (.ref a2 :: rest))) : W p l e R s m args below meth c H locs cells slots Q (F0 m pc ls (.ref a :: rest)) :=
  rgP (k := 3) (T := TX4) C h hw.1 hw.2 rfl (by decide) iX4 uw_X4_19 (fun _ q => q) rfl hd kk
theorem uw_X4_22 : Cond.fieldLink RX4 22 "BandMill$Popular" "forOthers" "LBandMill$Way;" ∈ uW := (uW_of (by decide +kernel) rfl)
theorem rw_X4_22 {a q n a1 a2 a3 : Nat} (C : cX z p m c cc nL s args RX4) (h : hH z v sc ar s H locs) (hw : poW v a q n a1 a2 a3) (hd : decode cc pc = .ok (.getfield 22, 3)) (kk : W p l e R s m args below meth c H locs cells slots Q (F0 m (pc + 3) ls (.ref a3 :: rest))) : W p l e R s m args below meth c H locs cells slots Q (F0 m pc ls (.ref a :: rest)) :=
  rgP (k := 4) (T := TX4) C h hw.1 hw.2 rfl (by decide) iX4 uw_X4_22 (fun _ q => q) rfl hd kk
theorem rw_X4_31 {a q n a1 a2 a3 : Nat} (C : cX z p m c cc nL s args RX4) (h : hH z v sc ar s H locs) (hw : poW v a q n a1 a2 a3) (hd : decode cc pc = .ok (.getfield 31, 3)) (kk : W p l e R s m args below meth c H locs cells slots Q (F0 m (pc + 3) ls (.int (nI q) :: rest))) : W p l e R s m args below meth c H locs cells slots Q (F0 m pc ls (.ref a :: rest)) :=
  rgP (k := 0) (T := TX4) C h hw.1 hw.2 rfl (by decide) iX4 uw_X4_31 (u_same (C.1.2.2.2.2 _ us_X4)) rfl hd kk
theorem ldF {j : Nat} (hj : j < 4) (C : cX z p m c cc nL s args own) (h : hH z v sc ar s H locs) (hd : decode cc pc = .ok (.aaload, 1)) (kk : W p l e R s m args below meth c H locs cells slots Q (F0 m (pc + 1) ls (.ref (zad z (5 + j)) :: rest))) : W p l e R s m args below meth c H locs cells slots Q (F0 m pc ls (.int (nI j) :: .ref (zad z 10) :: rest)) := by
  refine va_aldq C.1.1 C.1.2.1 C.2.1 h.1.1 10 2 rfl rfl (vp_in_nI hj (by decide)) hd ?_
  rw [nI_clamp (by omega)]
  exact kk
set_option maxHeartbeats 4000000 in
/-- a way's write, whatever its kind -/
theorem vcW {wt : Nat → Nat → Nat} {dp wa : Nat → Nat} {K i n d k fr cnt ix : Nat} (C : cX z p m c cc nL s args own) (h : hH z v sc ar s H locs)
    (g1 : GoodIn uW (va_wsU own ix RX1 "BandMill$Way" yWw yX1_write (Cond.code yX1_write cX1_write 7 (some .boolean) :: uW))) (g5 : GoodIn uW (va_wsU own ix RX5 "BandMill$Way" yWw yX5_write (Cond.code yX5_write cX5_write 6 (some .boolean) :: uW))) (g4 : GoodIn uW (va_wsU own ix RX4 "BandMill$Way" yWw yX4_write (Cond.code yX4_write cX4_write 7 (some .boolean) :: uW)))
    (hWT : WT v wt dp wa K) (hi : i < K) (IH : wIH l z wt dp wa v i) (hw : wH sc n d (dp i) k fr cnt) (hl : ls.size = nL) (hW : (rest.map fun v => v.category).sum ≤ 8) (hdg : decode cc pc = .ok (.invokevirtual ix, 3))
    (hR : 4 * dp i + 9 ≤ R.frames ∧ 60 * dp i + 126 ≤ R.locals) (hc : cells ≤ R.cells) (hs : slots ≤ R.slots)
    (kk : ∀ (r : Int32) (bs : List Nat) (sc1 : Nat → Int32) (ar1 : Nat → Nat → Int32) (H1 : Heap) (locs1 : List Loc), wR (dp i) sc ar n d bs sc1 ar1 → bs.length ≤ Bd (dp i) cnt → ((r = 1 ∧ WR wt dp i (rowL (ar k) fr cnt) = some bs) ∨ (r = 0 ∧ WR wt dp i (rowL (ar k) fr cnt) = none)) → hH z v sc1 ar1 s H1 locs1 → W p l e R s m args below meth c H1 locs1 cells slots Q (F0 m (pc + 3) ls (.int r :: rest))) :
    W p l e R s m args below meth c H locs cells slots Q (F0 m pc ls (.int (nI cnt) :: .int (nI fr) :: .ref (zad z k) :: .ref (zad z 1) :: .ref (wa i) :: rest)) := by
  obtain ⟨w1, w2, w3, w4, w5, w6, w7⟩ := id hw
  have hz : va_Nw (.declares yWw) s := C.2.2.2.2.2.2.2.2.1 _ (List.mem_of_getElem? (i := 0) rfl)
  rcases (hWT i hi).2.2 with q | q | q
  · obtain ⟨hcd, hdp⟩ := WT_cod hWT hi q.1
    have hB : 5 * cnt ≤ Bd (dp i) cnt := by rw [hdp]; unfold Bd; omega
    refine backI h (runA (As := [.ref (zad z 1), .ref (zad z k), .int (nI fr), .int (nI cnt)]) (rest := rest) C h (k_cWrite l z v sc ar (wa i) (wt i 1) (wt i 2) (wt i 3) (wt i 4) n d k fr cnt hcd w1 w2 w3 (by omega) w5.1 w5.2.2.1 w5.2.1 w6) g1 hz okWw ⟨rfl, rfl⟩ (r_Cod C h hcd) rfl hl rfl hW hdg ⟨by show 2 + 1 ≤ _; omega, by show 8 + (7 + 11) + 48 ≤ _; omega⟩ ⟨hc, hs⟩) (fun r v1 sc1 ar1 H1 locs1 hp h1 => ?_)
    obtain ⟨bs, e1, e2, e3⟩ := hp
    have h2 := uEq e1 h1
    refine kk r bs _ _ H1 locs1 ⟨fun j a1 _ _ => va_up_ne _ _ a1, fun j a1 _ _ _ _ _ => va_up_ne _ _ a1, va_up_self _ _ _, va_up_self _ _ _⟩ (by omega) ?_ h2
    rw [WR_cod q.1]
    exact e3
  · obtain ⟨hrn, -⟩ := WT_run hWT hi q.1
    refine backI h (runA (As := [.ref (zad z 1), .ref (zad z k), .int (nI fr), .int (nI cnt)]) (rest := rest) C h ((IH sc ar n d k fr cnt hw).1 q.1) g5 hz okWw ⟨rfl, rfl⟩ (rcvP C h hrn.1 hrn.2 rfl) rfl hl rfl hW hdg ⟨by show 4 * dp i + 8 + 1 ≤ _; omega, by show 8 + (6 + 11) + (60 * dp i + 100) ≤ _; omega⟩ ⟨hc, hs⟩) (fun r v1 sc1 ar1 H1 locs1 hp h1 => ?_)
    obtain ⟨bs, sc2, ar2, e1, e2, e3, e4⟩ := hp
    exact kk r bs _ _ H1 locs1 e2 e3 e4 (uEq e1 h1)
  · obtain ⟨hpo, -⟩ := WT_pop hWT hi q.1
    refine backI h (runA (As := [.ref (zad z 1), .ref (zad z k), .int (nI fr), .int (nI cnt)]) (rest := rest) C h ((IH sc ar n d k fr cnt hw).2 q.1) g4 hz okWw ⟨rfl, rfl⟩ (rcvP C h hpo.1 hpo.2 rfl) rfl hl rfl hW hdg ⟨by show 4 * dp i + 8 + 1 ≤ _; omega, by show 8 + (7 + 11) + (60 * dp i + 100) ≤ _; omega⟩ ⟨hc, hs⟩) (fun r v1 sc1 ar1 H1 locs1 hp h1 => ?_)
    obtain ⟨bs, sc2, ar2, e1, e2, e3, e4⟩ := hp
    exact kk r bs _ _ H1 locs1 e2 e3 e4 (uEq e1 h1)
end WAYS
