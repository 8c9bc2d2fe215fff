section FRM
variable {p : Program} {l : Launch} {e : Env} {R : Room} {s : State} {m : MethodId} {args : Array Value} {below : List Frame} {meth : Method} {c : Code} {H : Heap} {locs : List Loc} {cells slots : Nat} {Q : State → Prop}
variable {z : bZ} {v : bV} {sc : Nat → Int32} {ar : Nat → Nat → Int32} {cc : ByteArray} {nL : Nat} {own : String} {pc : Nat} {ls : Array Slot} {rest : List Value}
theorem rf_X0_36 {f : Nat} (hf : f < 4) (C : cX z p m c cc nL s args RX0) (h : hH z v sc ar s H locs) (hd : decode cc pc = .ok (.getfield 36, 3)) (k : W p l e R s m args below meth c H locs cells slots Q (F0 m (pc + 3) ls (.ref (zad z (23 + f)) :: rest))) : W p l e R s m args below meth c H locs cells slots Q (F0 m pc ls (.ref (zad z (5 + f)) :: rest)) := by
  rcases (show f = 0 ∨ f = 1 ∨ f = 2 ∨ f = 3 by omega) with rfl | rfl | rfl | rfl
  · exact va_getN (D := zD z) (ci := 3) (C := RX3) (T := TX3) (N := 2) (v := .ref (zad z 23)) C.1.1 C.1.2.1 C.1.2.2.2.2 iX3 C.1.2.2.2.1 C.2.1 h.1.1 5 rfl rfl 1 (by decide) (va_Nw.use rfl (C.2.2.2.1 _ (List.mem_of_getElem? (i := 9) rfl))) (fun _ h9 => h9) rfl hd k
  · exact va_getN (D := zD z) (ci := 3) (C := RX3) (T := TX3) (N := 2) (v := .ref (zad z 24)) C.1.1 C.1.2.1 C.1.2.2.2.2 iX3 C.1.2.2.2.1 C.2.1 h.1.1 6 rfl rfl 1 (by decide) (va_Nw.use rfl (C.2.2.2.1 _ (List.mem_of_getElem? (i := 9) rfl))) (fun _ h9 => h9) rfl hd k
  · exact va_getN (D := zD z) (ci := 3) (C := RX3) (T := TX3) (N := 2) (v := .ref (zad z 25)) C.1.1 C.1.2.1 C.1.2.2.2.2 iX3 C.1.2.2.2.1 C.2.1 h.1.1 7 rfl rfl 1 (by decide) (va_Nw.use rfl (C.2.2.2.1 _ (List.mem_of_getElem? (i := 9) rfl))) (fun _ h9 => h9) rfl hd k
  · exact va_getN (D := zD z) (ci := 3) (C := RX3) (T := TX3) (N := 2) (v := .ref (zad z 26)) C.1.1 C.1.2.1 C.1.2.2.2.2 iX3 C.1.2.2.2.1 C.2.1 h.1.1 8 rfl rfl 1 (by decide) (va_Nw.use rfl (C.2.2.2.1 _ (List.mem_of_getElem? (i := 9) rfl))) (fun _ h9 => h9) rfl hd k
theorem rf_X0_41 {f : Nat} (hf : f < 4) (C : cX z p m c cc nL s args RX0) (h : hH z v sc ar s H locs) (hd : decode cc pc = .ok (.getfield 41, 3)) (k : W p l e R s m args below meth c H locs cells slots Q (F0 m (pc + 3) ls (.ref (zad z (19 + f)) :: rest))) : W p l e R s m args below meth c H locs cells slots Q (F0 m pc ls (.ref (zad z (5 + f)) :: rest)) := by
  rcases (show f = 0 ∨ f = 1 ∨ f = 2 ∨ f = 3 by omega) with rfl | rfl | rfl | rfl
  · exact va_getN (D := zD z) (ci := 3) (C := RX3) (T := TX3) (N := 2) (v := .ref (zad z 19)) C.1.1 C.1.2.1 C.1.2.2.2.2 iX3 C.1.2.2.2.1 C.2.1 h.1.1 5 rfl rfl 0 (by decide) (va_Nw.use rfl (C.2.2.2.1 _ (List.mem_of_getElem? (i := 10) rfl))) (fun _ h9 => h9) rfl hd k
  · exact va_getN (D := zD z) (ci := 3) (C := RX3) (T := TX3) (N := 2) (v := .ref (zad z 20)) C.1.1 C.1.2.1 C.1.2.2.2.2 iX3 C.1.2.2.2.1 C.2.1 h.1.1 6 rfl rfl 0 (by decide) (va_Nw.use rfl (C.2.2.2.1 _ (List.mem_of_getElem? (i := 10) rfl))) (fun _ h9 => h9) rfl hd k
  · exact va_getN (D := zD z) (ci := 3) (C := RX3) (T := TX3) (N := 2) (v := .ref (zad z 21)) C.1.1 C.1.2.1 C.1.2.2.2.2 iX3 C.1.2.2.2.1 C.2.1 h.1.1 7 rfl rfl 0 (by decide) (va_Nw.use rfl (C.2.2.2.1 _ (List.mem_of_getElem? (i := 10) rfl))) (fun _ h9 => h9) rfl hd k
  · exact va_getN (D := zD z) (ci := 3) (C := RX3) (T := TX3) (N := 2) (v := .ref (zad z 22)) C.1.1 C.1.2.1 C.1.2.2.2.2 iX3 C.1.2.2.2.1 C.2.1 h.1.1 8 rfl rfl 0 (by decide) (va_Nw.use rfl (C.2.2.2.1 _ (List.mem_of_getElem? (i := 10) rfl))) (fun _ h9 => h9) rfl hd k
theorem rf_X4_54 {f : Nat} (hf : f < 4) (C : cX z p m c cc nL s args RX4) (h : hH z v sc ar s H locs) (hd : decode cc pc = .ok (.getfield 54, 3)) (k : W p l e R s m args below meth c H locs cells slots Q (F0 m (pc + 3) ls (.ref (zad z (23 + f)) :: rest))) : W p l e R s m args below meth c H locs cells slots Q (F0 m pc ls (.ref (zad z (5 + f)) :: rest)) := by
  rcases (show f = 0 ∨ f = 1 ∨ f = 2 ∨ f = 3 by omega) with rfl | rfl | rfl | rfl
  · exact va_getN (D := zD z) (ci := 3) (C := RX3) (T := TX3) (N := 2) (v := .ref (zad z 23)) C.1.1 C.1.2.1 C.1.2.2.2.2 iX3 C.1.2.2.2.1 C.2.1 h.1.1 5 rfl rfl 1 (by decide) (va_Nw.use rfl (C.2.2.2.1 _ (List.mem_of_getElem? (i := 16) rfl))) (fun _ h9 => h9) rfl hd k
  · exact va_getN (D := zD z) (ci := 3) (C := RX3) (T := TX3) (N := 2) (v := .ref (zad z 24)) C.1.1 C.1.2.1 C.1.2.2.2.2 iX3 C.1.2.2.2.1 C.2.1 h.1.1 6 rfl rfl 1 (by decide) (va_Nw.use rfl (C.2.2.2.1 _ (List.mem_of_getElem? (i := 16) rfl))) (fun _ h9 => h9) rfl hd k
  · exact va_getN (D := zD z) (ci := 3) (C := RX3) (T := TX3) (N := 2) (v := .ref (zad z 25)) C.1.1 C.1.2.1 C.1.2.2.2.2 iX3 C.1.2.2.2.1 C.2.1 h.1.1 7 rfl rfl 1 (by decide) (va_Nw.use rfl (C.2.2.2.1 _ (List.mem_of_getElem? (i := 16) rfl))) (fun _ h9 => h9) rfl hd k
  · exact va_getN (D := zD z) (ci := 3) (C := RX3) (T := TX3) (N := 2) (v := .ref (zad z 26)) C.1.1 C.1.2.1 C.1.2.2.2.2 iX3 C.1.2.2.2.1 C.2.1 h.1.1 8 rfl rfl 1 (by decide) (va_Nw.use rfl (C.2.2.2.1 _ (List.mem_of_getElem? (i := 16) rfl))) (fun _ h9 => h9) rfl hd k
theorem rf_X4_44 {f : Nat} (hf : f < 4) (C : cX z p m c cc nL s args RX4) (h : hH z v sc ar s H locs) (hd : decode cc pc = .ok (.getfield 44, 3)) (k : W p l e R s m args below meth c H locs cells slots Q (F0 m (pc + 3) ls (.ref (zad z (19 + f)) :: rest))) : W p l e R s m args below meth c H locs cells slots Q (F0 m pc ls (.ref (zad z (5 + f)) :: rest)) := by
  rcases (show f = 0 ∨ f = 1 ∨ f = 2 ∨ f = 3 by omega) with rfl | rfl | rfl | rfl
  · exact va_getN (D := zD z) (ci := 3) (C := RX3) (T := TX3) (N := 2) (v := .ref (zad z 19)) C.1.1 C.1.2.1 C.1.2.2.2.2 iX3 C.1.2.2.2.1 C.2.1 h.1.1 5 rfl rfl 0 (by decide) (va_Nw.use rfl (C.2.2.2.1 _ (List.mem_of_getElem? (i := 15) rfl))) (fun _ h9 => h9) rfl hd k
  · exact va_getN (D := zD z) (ci := 3) (C := RX3) (T := TX3) (N := 2) (v := .ref (zad z 20)) C.1.1 C.1.2.1 C.1.2.2.2.2 iX3 C.1.2.2.2.1 C.2.1 h.1.1 6 rfl rfl 0 (by decide) (va_Nw.use rfl (C.2.2.2.1 _ (List.mem_of_getElem? (i := 15) rfl))) (fun _ h9 => h9) rfl hd k
  · exact va_getN (D := zD z) (ci := 3) (C := RX3) (T := TX3) (N := 2) (v := .ref (zad z 21)) C.1.1 C.1.2.1 C.1.2.2.2.2 iX3 C.1.2.2.2.1 C.2.1 h.1.1 7 rfl rfl 0 (by decide) (va_Nw.use rfl (C.2.2.2.1 _ (List.mem_of_getElem? (i := 15) rfl))) (fun _ h9 => h9) rfl hd k
  · exact va_getN (D := zD z) (ci := 3) (C := RX3) (T := TX3) (N := 2) (v := .ref (zad z 22)) C.1.1 C.1.2.1 C.1.2.2.2.2 iX3 C.1.2.2.2.1 C.2.1 h.1.1 8 rfl rfl 0 (by decide) (va_Nw.use rfl (C.2.2.2.1 _ (List.mem_of_getElem? (i := 15) rfl))) (fun _ h9 => h9) rfl hd k
end FRM
theorem isA_fr {f : Nat} (hf : f < 4) : isA (19 + f) = true ∧ aL (19 + f) = 51 ∧ isA (23 + f) = true ∧ aL (23 + f) = 400 := by
  rcases (show f = 0 ∨ f = 1 ∨ f = 2 ∨ f = 3 by omega) with rfl | rfl | rfl | rfl <;> exact ⟨rfl, rfl, rfl, rfl⟩
/-- how often x is among the first n -/
def cN (R : Nat → Int32) (x : Int32) : Nat → Nat
  | 0 => 0
  | n + 1 => cN R x n + if R n = x then 1 else 0
theorem cN_le (R : Nat → Int32) (x : Int32) : ∀ n, cN R x n ≤ n
  | 0 => Nat.le_refl _
  | n + 1 => by have := cN_le R x n; unfold cN; split <;> omega
theorem cN_0 {R : Nat → Int32} {x : Int32} : ∀ n, (∀ q, q < n → ¬ R q = x) → cN R x n = 0
  | 0, _ => rfl
  | n + 1, h => by
    unfold cN
    rw [cN_0 n (fun q hq => h q (by omega)), if_neg (h n (by omega))]
/-- x is not among the first i -/
def nw (R : Nat → Int32) (x : Int32) : Nat → Bool
  | 0 => true
  | i + 1 => nw R x i && !decide (R i = x)
theorem nw_iff {R : Nat → Int32} {x : Int32} : ∀ i, nw R x i = true ↔ ∀ q, q < i → ¬ R q = x
  | 0 => ⟨fun _ q hq => absurd hq (Nat.not_lt_zero _), fun _ => rfl⟩
  | i + 1 => by
    unfold nw
    rw [Bool.and_eq_true, nw_iff i]
    simp only [Bool.not_eq_true', decide_eq_false_iff_not]
    refine ⟨fun h q hq => ?_, fun h => ⟨fun q hq => h q (by omega), h i (by omega)⟩⟩
    by_cases e : q = i
    · rw [e]; exact h.2
    · exact h.1 q (by omega)
/-- how often the number at place i is there, at the first of its places; 0 at others -/
def oft (R : Nat → Int32) (n i : Nat) : Nat := if nw R (R i) i = true then cN R (R i) n else 0
/-- the favourites of a row -/
def favs (R : Nat → Int32) (n m : Nat) : List Int32 := (fv (oft R n) n m).map R
/-- which favourite x is: the first has 1 -/
def tk (F : List Int32) (x : Int32) : Nat → Nat
  | 0 => 0
  | j + 1 => if F.getD j 0 = x then j + 1 else tk F x j
def tok (F : List Int32) (x : Int32) : Nat := tk F x F.length
/-- places and kinds: the kinds in the order of their first places -/
theorem mp_im {o c : Nat → Nat} {po : Nat → Nat} : ∀ (n K : Nat), (∀ j, j < K → po j < n ∧ o (po j) = c j) → (∀ j j', j < j' → j' < K → po j < po j') → (∀ i, i < n → (∀ j, j < K → ¬ po j = i) → o i = 0) → mp o n = ((mp c K).1.map po, (mp c K).2)
  | 0, K, h1, _, _ => by
    rcases K with _ | K
    · rfl
    · exact absurd (h1 0 (by omega)).1 (Nat.not_lt_zero _)
  | n + 1, K, h1, h2, h3 => by
    by_cases hex : ∃ j, j < K ∧ po j = n
    · obtain ⟨j, hj, ej⟩ := hex
      have hK : j + 1 = K := by
        rcases Nat.lt_or_ge (j + 1) K with q | q
        · have a1 := h2 j (j + 1) (by omega) q
          have a2 := (h1 (j + 1) q).1
          omega
        · omega
      subst hK
      have ih := mp_im n j (fun i hi => ⟨by have := h2 i j hi (by omega); omega, (h1 i (by omega)).2⟩) (fun i i' hi hi' => h2 i i' hi (by omega)) (fun i hi hn => h3 i (by omega) (fun q hq e => by
        by_cases eq : q = j
        · rw [eq, ej] at e; omega
        · exact hn q (by omega) e))
      have e2 : o n = c j := by rw [← ej]; exact (h1 j (by omega)).2
      rw [show mp o (n + 1) = if (mp o n).2 < o n then (some n, o n) else mp o n from rfl, show mp c (j + 1) = if (mp c j).2 < c j then (some j, c j) else mp c j from rfl, ih, e2]
      simp only
      split
      · simp [ej]
      · rfl
    · have ih := mp_im n K (fun j hj => ⟨by have := (h1 j hj).1; have : po j ≠ n := fun e => hex ⟨j, hj, e⟩; omega, (h1 j hj).2⟩) h2 (fun i hi hn => h3 i (by omega) hn)
      have e2 : o n = 0 := h3 n (by omega) (fun j hj e => hex ⟨j, hj, e⟩)
      rw [show mp o (n + 1) = if (mp o n).2 < o n then (some n, o n) else mp o n from rfl, e2, if_neg (Nat.not_lt_zero _)]
      exact ih
theorem fv_im {po : Nat → Nat} {n K : Nat} (h2 : ∀ j j', j < j' → j' < K → po j < po j') (h0 : ∀ j, j < K → po j < n) : ∀ (m : Nat) (o c : Nat → Nat), (∀ j, j < K → o (po j) = c j) → (∀ i, i < n → (∀ j, j < K → ¬ po j = i) → o i = 0) → fv o n m = (fv c K m).map po
  | 0, _, _, _, _ => rfl
  | m + 1, o, c, h1, h3 => by
    have e := mp_im n K (fun j hj => ⟨h0 j hj, h1 j hj⟩) h2 h3
    have inj : ∀ i j, i < K → j < K → po i = po j → i = j := fun i j hi hj e => by
      rcases Nat.lt_trichotomy i j with q | q | q
      · have := h2 i j q hj; omega
      · exact q
      · have := h2 j i q hi; omega
    unfold fv
    rw [e]
    simp only
    cases hm : (mp c K).1 with
    | none => rfl
    | some j =>
      have hj := (mp_in K j hm).1
      simp only [Option.map_some, List.map_cons]
      congr 1
      refine fv_im h2 h0 m _ _ (fun i hi => ?_) (fun i hi hn => ?_)
      · by_cases q : i = j
        · rw [q, va_up_self, va_up_self]
        · rw [va_up_ne _ _ q, va_up_ne _ _ (fun e => q (inj i j hi hj e))]
          exact h1 i hi
      · rw [va_up_ne _ _ (fun e => hn j hj e.symm)]
        exact h3 i hi hn
theorem fv_lt {K : Nat} : ∀ (m : Nat) (c : Nat → Nat) (j : Nat), j ∈ fv c K m → j < K ∧ 1 < c j
  | 0, _, _, h => absurd h List.not_mem_nil
  | m + 1, c, j, h => by
    unfold fv at h
    cases hm : (mp c K).1 with
    | none => rw [hm] at h; exact absurd h List.not_mem_nil
    | some q =>
      rw [hm] at h
      simp only [List.mem_cons] at h
      rcases h with h | h
      · rw [h]; exact mp_in K q hm
      · have := fv_lt m _ j h
        by_cases e : j = q
        · rw [e, va_up_self] at this; omega
        · rw [va_up_ne _ _ e] at this; exact this
theorem fv_len {K : Nat} : ∀ (m : Nat) (c : Nat → Nat), (fv c K m).length ≤ m
  | 0, _ => Nat.le_refl _
  | m + 1, c => by
    unfold fv
    cases (mp c K).1 with
    | none => exact Nat.zero_le _
    | some q => have := fv_len (K := K) m (va_up c q 0); simp only [List.length_cons]; omega
theorem fv_nd {K : Nat} : ∀ (m : Nat) (c : Nat → Nat), (fv c K m).Nodup
  | 0, _ => List.nodup_nil
  | m + 1, c => by
    unfold fv
    cases hm : (mp c K).1 with
    | none => exact List.nodup_nil
    | some q =>
      simp only [List.nodup_cons]
      refine ⟨fun h => ?_, fv_nd m _⟩
      have := (fv_lt m _ q h).2
      rw [va_up_self] at this
      omega
