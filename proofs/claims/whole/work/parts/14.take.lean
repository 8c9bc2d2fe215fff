/-- the census' rows and a line -/
def A4 (ar : Nat → Nat → Int32) (L : Nat) (kd T sl g : Nat → Int32) : Nat → Nat → Int32 := va_up (va_up (va_up (va_up ar 15 kd) 16 T) 14 sl) L g
theorem A4_14 {ar : Nat → Nat → Int32} {L : Nat} {kd T sl g : Nat → Int32} (hL : 23 ≤ L) : A4 ar L kd T sl g 14 = sl := by
  unfold A4; rw [va_up_ne _ _ (by omega), va_up_self]
theorem A4_15 {ar : Nat → Nat → Int32} {L : Nat} {kd T sl g : Nat → Int32} (hL : 23 ≤ L) : A4 ar L kd T sl g 15 = kd := by
  unfold A4; rw [va_up_ne _ _ (by omega), va_up_ne _ _ (by omega), va_up_ne _ _ (by omega), va_up_self]
theorem A4_16 {ar : Nat → Nat → Int32} {L : Nat} {kd T sl g : Nat → Int32} (hL : 23 ≤ L) : A4 ar L kd T sl g 16 = T := by
  unfold A4; rw [va_up_ne _ _ (by omega), va_up_ne _ _ (by omega), va_up_self]
theorem A4_L {ar : Nat → Nat → Int32} {L : Nat} {kd T sl g : Nat → Int32} : A4 ar L kd T sl g L = g := by
  unfold A4; rw [va_up_self]
theorem A4_o {ar : Nat → Nat → Int32} {L q : Nat} {kd T sl g : Nat → Int32} (h1 : q ≠ 14) (h2 : q ≠ 15) (h3 : q ≠ 16) (h4 : q ≠ L) : A4 ar L kd T sl g q = ar q := by
  unfold A4; rw [va_up_ne _ _ h4, va_up_ne _ _ h1, va_up_ne _ _ h3, va_up_ne _ _ h2]
theorem A4_0 {ar : Nat → Nat → Int32} {L : Nat} {sl : Nat → Int32} (hL : 23 ≤ L) : A4 ar L (ar 15) (ar 16) sl (ar L) = va_up ar 14 sl := by
  unfold A4
  rw [va_us ar 15, va_us ar 16]
  exact va_ue (va_up_ne _ _ (by omega))
theorem A4_new {ar : Nat → Nat → Int32} {L : Nat} {kd T sl g kd' T' sl' : Nat → Int32} (hL : 23 ≤ L) : va_up (va_up (va_up (A4 ar L kd T sl g) 15 kd') 16 T') 14 sl' = A4 ar L kd' T' sl' g := by
  funext j
  simp only [A4, va_up]
  repeat' split
  all_goals first | rfl | (exfalso; omega) | (simp_all; done)
theorem A4_T {ar : Nat → Nat → Int32} {L : Nat} {kd T sl g T' : Nat → Int32} (hL : 23 ≤ L) : va_up (A4 ar L kd T sl g) 16 T' = A4 ar L kd T' sl g := by
  funext j
  simp only [A4, va_up]
  repeat' split
  all_goals first | rfl | (exfalso; omega) | (simp_all; done)
theorem A4_g {ar : Nat → Nat → Int32} {L : Nat} {kd T sl g g' : Nat → Int32} : va_up (A4 ar L kd T sl g) L g' = A4 ar L kd T sl g' := by
  unfold A4; rw [va_uu]
theorem A4_F {ar : Nat → Nat → Int32} {L F : Nat} {kd T sl g fa T' : Nat → Int32} (hL : 23 ≤ L) (h1 : F ≠ 14) (h2 : F ≠ 15) (h3 : F ≠ 16) (h4 : F ≠ L) : va_up (va_up (A4 ar L kd T sl g) F fa) 16 T' = A4 (va_up ar F fa) L kd T' sl g := by
  funext j
  simp only [A4, va_up]
  repeat' split
  all_goals first | rfl | (exfalso; omega) | (simp_all; done)
/-- what the census knows of the first i numbers of R -/
def cenI (R : Nat → Int32) (b i K : Nat) (sl kd T g : Nat → Int32) (kx po : Nat → Nat) : Prop := slI b sl kd K ∧ K ≤ i ∧ (∀ q, q < i → kx q < K ∧ g q = nI (kx q) ∧ kd (kx q) = R q) ∧ (∀ j, j < K → po j < i ∧ kx (po j) = j ∧ ∀ q, q < po j → ¬ R q = kd j) ∧ (∀ j j', j < j' → j' < K → po j < po j') ∧ ∀ j, j < K → T j = nI (cN R (kd j) i)
theorem cen_0 {R : Nat → Int32} {b : Nat} {sl kd T g : Nat → Int32} (h : ∀ q, q < 2 ^ b → sl q = nI 0) : cenI R b 0 0 sl kd T g (fun _ => 0) (fun _ => 0) := ⟨slI_0 h, Nat.le_refl _, fun _ q => absurd q (Nat.not_lt_zero _), fun _ q => absurd q (Nat.not_lt_zero _), fun _ _ _ q => absurd q (Nat.not_lt_zero _), fun _ q => absurd q (Nat.not_lt_zero _)⟩
theorem cen_old {R : Nat → Int32} {b i K j : Nat} {sl kd T g : Nat → Int32} {kx po : Nat → Nat} (h : cenI R b i K sl kd T g kx po) (hj : j < K) (e : kd j = R i) : cenI R b (i + 1) K sl kd (upd T j (nI (cN R (kd j) i + 1))) (upd g i (nI j)) (va_up kx i j) po := by
  obtain ⟨h1, h2, h3, h4, h5, h6⟩ := h
  refine ⟨h1, by omega, fun q hq => ?_, fun q hq => ?_, h5, fun q hq => ?_⟩
  · by_cases eq : q = i
    · rw [eq, va_up_self, pk_us]; exact ⟨hj, rfl, e⟩
    · rw [va_up_ne _ _ eq, pk_un eq]; exact h3 q (by omega)
  · obtain ⟨a1, a2, a3⟩ := h4 q hq
    exact ⟨by omega, by rw [va_up_ne _ _ (by omega)]; exact a2, a3⟩
  · rw [show cN R (kd q) (i + 1) = cN R (kd q) i + (if R i = kd q then 1 else 0) from rfl]
    by_cases eq : q = j
    · rw [eq, pk_us, if_pos e.symm]
    · rw [pk_un eq, if_neg (fun e2 => eq (h1.2.2.2 q j hq hj (e2.symm.trans e.symm)))]
      exact h6 q hq
theorem cen_new {R : Nat → Int32} {b i K : Nat} {sl sl' kd T g : Nat → Int32} {kx po : Nat → Nat} (h : cenI R b i K sl kd T g kx po) (hn : ∀ j, j < K → ¬ kd j = R i) (hs' : slI b sl' (upd kd K (R i)) (K + 1)) : cenI R b (i + 1) (K + 1) sl' (upd kd K (R i)) (upd (upd T K (nI 0)) K (nI (0 + 1))) (upd g i (nI K)) (va_up kx i K) (va_up po K i) := by
  obtain ⟨h1, h2, h3, h4, h5, h6⟩ := h
  refine ⟨hs', by omega, fun q hq => ?_, fun q hq => ?_, fun j j' hj hj' => ?_, fun q hq => ?_⟩
  · by_cases eq : q = i
    · rw [eq, va_up_self, pk_us, pk_us]; exact ⟨by omega, rfl, rfl⟩
    · obtain ⟨a1, a2, a3⟩ := h3 q (by omega)
      rw [va_up_ne _ _ eq, pk_un eq, pk_un (by omega)]; exact ⟨by omega, a2, a3⟩
  · by_cases eq : q = K
    · rw [eq, va_up_self, va_up_self, pk_us]
      refine ⟨by omega, rfl, fun r hr e => ?_⟩
      obtain ⟨a1, a2, a3⟩ := h3 r hr
      exact hn (kx r) a1 (a3.trans e)
    · obtain ⟨a1, a2, a3⟩ := h4 q (by omega)
      rw [va_up_ne _ _ eq, pk_un eq, va_up_ne _ _ (by omega)]
      exact ⟨by omega, a2, a3⟩
  · by_cases eq : j' = K
    · rw [eq, va_up_self, va_up_ne _ _ (by omega)]
      exact (h4 j (by omega)).1
    · rw [va_up_ne _ _ eq, va_up_ne _ _ (by omega)]
      exact h5 j j' hj (by omega)
  · rw [show cN R (upd kd K (R i) q) (i + 1) = cN R (upd kd K (R i) q) i + (if R i = upd kd K (R i) q then 1 else 0) from rfl]
    by_cases eq : q = K
    · rw [eq, pk_us, pk_us, if_pos rfl, cN_0 i (fun r hr e => by
        obtain ⟨a1, a2, a3⟩ := h3 r hr
        exact hn (kx r) a1 (a3.trans e))]
    · rw [pk_un eq, pk_un eq, pk_un eq, if_neg (fun e => hn q (by omega) e.symm)]
      exact h6 q (by omega)
theorem favs_eq {R : Nat → Int32} {b n K m : Nat} {sl kd T g : Nat → Int32} {kx po : Nat → Nat} (h : cenI R b n K sl kd T g kx po) : favs R n m = (fv (fun j => cN R (kd j) n) K m).map kd := by
  obtain ⟨h1, h2, h3, h4, h5, h6⟩ := h
  have hR : ∀ j, j < K → R (po j) = kd j := fun j hj => by
    obtain ⟨a1, a2, a3⟩ := h4 j hj
    rw [← (h3 (po j) a1).2.2, a2]
  unfold favs
  rw [fv_im (po := po) h5 (fun j hj => (h4 j hj).1) m (oft R n) (fun j => cN R (kd j) n) (fun j hj => ?_) (fun i hi hn => ?_), List.map_map]
  · apply List.map_congr_left
    intro j hj
    exact hR j (fv_lt m _ j hj).1
  · unfold oft
    rw [if_pos, hR j hj]
    rw [nw_iff, hR j hj]
    exact (h4 j hj).2.2
  · unfold oft
    apply if_neg
    intro q
    rw [nw_iff] at q
    obtain ⟨a1, a2, a3⟩ := h3 i hi
    obtain ⟨b1, b2, b3⟩ := h4 (kx i) a1
    apply hn (kx i) a1
    rcases Nat.lt_trichotomy (po (kx i)) i with c | c | c
    · exact absurd ((hR _ a1).trans a3) (q _ c)
    · exact c
    · exact absurd a3.symm (b3 i c)
theorem tk_none {F : List Int32} {x : Int32} : ∀ n, (∀ q, q < n → ¬ F.getD q 0 = x) → tk F x n = 0
  | 0, _ => rfl
  | n + 1, h => by unfold tk; rw [if_neg (h n (by omega)), tk_none n (fun q hq => h q (by omega))]
theorem tk_at {F : List Int32} {x : Int32} {q : Nat} : ∀ n, q < n → F.getD q 0 = x → (∀ r, r < n → F.getD r 0 = x → r = q) → tk F x n = q + 1
  | 0, h, _, _ => absurd h (Nat.not_lt_zero _)
  | n + 1, h, e, u => by
    unfold tk
    by_cases hq : q = n
    · rw [hq] at e ⊢; rw [if_pos e]
    · rw [if_neg (fun e2 => hq (u n (by omega) e2).symm), tk_at n (by omega) e (fun r hr => u r (by omega))]
theorem idx_get {j : Nat} : ∀ {js : List Nat}, j ∈ js → js.idxOf j < js.length ∧ js.getD (js.idxOf j) 0 = j
  | [], h => absurd h List.not_mem_nil
  | a :: l, h => by
    rw [idx_cons]
    by_cases q : a = j
    · rw [if_pos q]; simp [q]
    · rw [if_neg q]
      have := idx_get ((List.mem_cons.mp h).elim (fun e => absurd e.symm q) (fun e => e))
      simp only [List.length_cons, List.getD_cons_succ]
      exact ⟨by omega, this.2⟩
theorem nd_get : ∀ {js : List Nat}, js.Nodup → ∀ {a b : Nat}, a < js.length → b < js.length → js.getD a 0 = js.getD b 0 → a = b
  | [], _, _, _, ha, _, _ => absurd ha (Nat.not_lt_zero _)
  | x :: l, h, a, b, ha, hb, e => by
    rw [List.nodup_cons] at h
    have mem : ∀ q, q < l.length → l.getD q 0 ∈ l := fun q hq => by
      rw [List.getD_eq_getElem?_getD, List.getElem?_eq_getElem hq]
      exact List.getElem_mem hq
    rcases a with _ | a <;> rcases b with _ | b
    · rfl
    · rw [List.getD_cons_zero, List.getD_cons_succ] at e
      exact absurd (by rw [e]; exact mem b (by simpa using hb)) h.1
    · rw [List.getD_cons_zero, List.getD_cons_succ] at e
      exact absurd (by rw [← e]; exact mem a (by simpa using ha)) h.1
    · rw [List.getD_cons_succ, List.getD_cons_succ] at e
      rw [nd_get h.2 (by simpa using ha) (by simpa using hb) e]
theorem map_getD (js : List Nat) (kd : Nat → Int32) {q : Nat} (h : q < js.length) : (js.map kd).getD q 0 = kd (js.getD q 0) := by
  rw [List.getD_eq_getElem?_getD, List.getD_eq_getElem?_getD, List.getElem?_map, List.getElem?_eq_getElem h]
  rfl
theorem tok_eq {kd : Nat → Int32} {js : List Nat} {K j : Nat} (hnd : js.Nodup) (hjs : ∀ q, q ∈ js → q < K) (hj : j < K) (inj : ∀ a b, a < K → b < K → kd a = kd b → a = b) : tok (js.map kd) (kd j) = if j ∈ js then js.idxOf j + 1 else 0 := by
  unfold tok
  rw [List.length_map]
  have mem : ∀ q, q < js.length → js.getD q 0 ∈ js := fun q hq => by
    rw [List.getD_eq_getElem?_getD, List.getElem?_eq_getElem hq]
    exact List.getElem_mem hq
  by_cases h : j ∈ js
  · rw [if_pos h]
    obtain ⟨a1, a2⟩ := idx_get h
    refine tk_at _ a1 (by rw [map_getD js kd a1, a2]) (fun r hr e => ?_)
    rw [map_getD js kd hr] at e
    have := inj _ _ (hjs _ (mem r hr)) hj e
    exact nd_get hnd hr a1 (by rw [this, a2])
  · rw [if_neg h]
    refine tk_none _ (fun q hq e => h ?_)
    rw [map_getD js kd hq] at e
    have := inj _ _ (hjs _ (mem q hq)) hj e
    rw [← this]
    exact mem q hq
theorem max_tl {T : Nat → Int32} {js : List Nat} {j q : Nat} (hT : T j = nI q) (hq : q ≤ 400) (hl : js.length ≤ 50) : (if nI 0 < -(tlA T js j) then -(tlA T js j) else nI 0) = nI (if j ∈ js then js.idxOf j + 1 else 0) := by
  unfold tlA
  by_cases h : j ∈ js
  · rw [if_pos h, if_pos h]
    have := (idx_get h).1
    have e : - -(nI (js.idxOf j + 1)) = nI (js.idxOf j + 1) := Int32.neg_neg
    rw [e, if_pos ((nI_ltI (by decide) (by omega)).mpr (by omega))]
  · rw [if_neg h, if_neg h, hT]
    apply if_neg
    rw [Int32.lt_iff_toInt_lt, sb_negT (by omega), nI_toInt (by decide)]
    omega
theorem gv_X0_28 : GoodIn uW (wsV RX0 28 RX0 yX0_empty (Cond.code yX0_empty cX0_empty 3 none :: uW)) := gI_V (uW_of (by decide +kernel) rfl) (uW_of (by decide +kernel) rfl) (uW_of (by decide +kernel) rfl) (uW_of (by decide +kernel) rfl) (uW_of (by decide +kernel) rfl)
theorem gv_X0_28_n : okN yX0_empty 1 := by decide +kernel
theorem gv_X0_44 : GoodIn uW (wsV RX0 44 RX0 yX0_chooseFavourites (Cond.code yX0_chooseFavourites cX0_chooseFavourites 5 none :: uW)) := gI_V (uW_of (by decide +kernel) rfl) (uW_of (by decide +kernel) rfl) (uW_of (by decide +kernel) rfl) (uW_of (by decide +kernel) rfl) (uW_of (by decide +kernel) rfl)
theorem gv_X0_44_n : okN yX0_chooseFavourites 2 := by decide +kernel
theorem um_X0_48 : Cond.methodLink RX0 48 Lib.Math.max.name ∈ uW := uW_of (by decide +kernel) rfl
theorem gv_X0_32 : GoodIn uW (wsV RX0 32 RX0 yX0_kindOf (Cond.code yX0_kindOf cX0_kindOf 5 (some .int) :: uW)) := gI_V (uW_of (by decide +kernel) rfl) (uW_of (by decide +kernel) rfl) (uW_of (by decide +kernel) rfl) (uW_of (by decide +kernel) rfl) (uW_of (by decide +kernel) rfl)
theorem gv_X0_32_n : okN yX0_kindOf 1 := by decide +kernel
set_option maxHeartbeats 4000000 in
set_option maxRecDepth 100000 in
/-- Census.take -/
theorem k_take (l : Launch) (z : bZ) (v : bV) (sc : Nat → Int32) (ar : Nat → Nat → Int32) (k fr cnt m f : Nat) (hk : isA k = true) (hkL : aL k < 2 ^ 31) (hfc : fr + cnt ≤ aL k) (hc4 : cnt ≤ 400) (hm : m ≤ 50) (hf : f < 4) (hk1 : k ≠ 14) (hk2 : k ≠ 15) (hk3 : k ≠ 16) (hk5 : k ≠ 23 + f) : Met l yX0_take (Cond.code yX0_take cX0_take 8 none :: uW) { frames := 2, cells := 0, slots := 0, locals := 47 } (pC z v sc ar [.ref (zad z 3), .ref (zad z k), .int (nI (fr)), .int (nI (cnt)), .int (nI (m)), .ref (zad z (5 + f))]) (qV z (fun u => ∃ (sc1 : Nat → Int32) (ar1 : Nat → Nat → Int32), u = (v, sc1, ar1) ∧ (∀ i, i ≠ 9 → i ≠ 10 → sc1 i = sc i) ∧ (∀ q, q ≠ 14 → q ≠ 15 → q ≠ 16 → q ≠ 19 + f → q ≠ 23 + f → ar1 q = ar q) ∧ ar1 (19 + f) = wrR (ar (19 + f)) 0 (nI (favs (fun i => ar k (fr + i)) cnt m).length :: favs (fun i => ar k (fr + i)) cnt m) ∧ ∀ i, i < cnt → ar1 (23 + f) i = nI (tok (favs (fun i => ar k (fr + i)) cnt m) (ar k (fr + i))))) 0 0 (zA z) := by
  refine eM (by decide) (Nat.le_of_ble_eq_true rfl) ?_
  intro pP eE s mM below meth cC ls C hr hlk h hl
  have hx := C.1.1
  have hb := C.1.2.1
  have hl : lv_has ls 8 [(0, .ref (zad z 3)), (1, .ref (zad z k)), (2, .int (nI (fr))), (3, .int (nI (cnt))), (4, .int (nI (m))), (5, .ref (zad z (5 + f)))] := hl
  have hA4 := isA_fr hf
  obtain ⟨R, hR⟩ : ∃ R : Nat → Int32, R = (fun i => ar k (fr + i)) := ⟨_, rfl⟩
  refine lv_aload_n hx hb dX0_take_0 rfl (lv_at hl 0 rfl) ?_
  refine lv_iload_n hx hb dX0_take_1 rfl (lv_at hl 3 rfl) ?_
  refine backV h (runV (As := [.int (nI (cnt))]) (rest := []) C h (k_empty l z v sc ar cnt hc4) gv_X0_28 gv_X0_28_n ⟨rfl, rfl⟩ (r_Census C h) rfl hl.1 rfl (Nat.le_of_ble_eq_true rfl) dX0_take_2 ⟨Nat.le_of_ble_eq_true rfl, Nat.le_of_ble_eq_true rfl⟩ ⟨Nat.le_of_ble_eq_true rfl, Nat.le_of_ble_eq_true rfl⟩) (fun v_2 sc_2 ar_2 H locs p_2 h => ?_)
  obtain ⟨b, sl0, eu, hb1, hb9, hcb, hz⟩ := p_2
  have h : hH z v (va_up (va_up sc 9 (nI b)) 10 (nI 0)) (va_up ar 14 sl0) s H locs := uEq eu h
  refine lv_iconst (v := nI (0)) hx hb dX0_take_5 (by decide) ?_
  refine lv_istore (lv' := [(6, .int (nI (0))), (0, .ref (zad z 3)), (1, .ref (zad z k)), (2, .int (nI (fr))), (3, .int (nI (cnt))), (4, .int (nI (m))), (5, .ref (zad z (5 + f)))]) hx hb dX0_take_6 hl (by decide) rfl (fun ls hl => ?_)
  refine lpW6 (fun (i : Nat) (K : Nat) (sl : Nat → Int32) (kd : Nat → Int32) (T : Nat → Int32) (g : Nat → Int32) (H : Heap) (locs : List Loc) (ls : Array Slot) => (i ≤ cnt) ∧ (∃ kx po, cenI R b i K sl kd T g kx po) ∧ hH z v (va_up (va_up sc 9 (nI (b))) 10 (nI (K))) (A4 ar (23 + f) (kd) (T) (sl) (g)) s H locs ∧ lv_has ls 8 [(0, .ref (zad z 3)), (1, .ref (zad z k)), (2, .int (nI (fr))), (3, .int (nI (cnt))), (4, .int (nI (m))), (5, .ref (zad z (5 + f))), (6, .int (nI (i)))]) (fun (i : Nat) (K : Nat) (sl : Nat → Int32) (kd : Nat → Int32) (T : Nat → Int32) (g : Nat → Int32) => cnt - i) (fun i K sl kd T g ih_8 H locs ls hI => ?_) (0) (0) (sl0) (ar 15) (ar 16) (ar (23 + f)) ⟨Nat.zero_le _, ⟨_, _, cen_0 hz⟩, (by rw [A4_0 (show 23 ≤ 23 + f by omega)]; exact h), lv_sub hl [1, 2, 3, 4, 5, 6, 0] rfl⟩
  obtain ⟨h1, h3, h, hl⟩ := hI
  obtain ⟨kx, po, hce⟩ := h3
  have hKi := hce.2.1
  have hRi : R i = ar k (fr + i) := by rw [hR]
  refine lv_iload hx hb dX0_take_8 (lv_at hl 6 rfl) ?_
  refine lv_iload_n hx hb dX0_take_10 rfl (lv_at hl 3 rfl) ?_
  refine jN_ge (tgt := 53) (a := i) (b := cnt) C (by omega) (by omega) dX0_take_11 (by decide) (fun c_11 => ?_) (fun c_11 => ?_)
  · skip
    have hic : i = cnt := by omega
    rw [hic] at hce
    refine lv_aload_n hx hb dX0_take_53 rfl (lv_at hl 0 rfl) ?_
    refine lv_iload hx hb dX0_take_54 (lv_at hl 4 rfl) ?_
    refine lv_aload hx hb dX0_take_56 (lv_at hl 5 rfl) ?_
    refine rf_X0_41 hf C h dX0_take_58 ?_
    refine backV h (runV (As := [.int (nI (m)), .ref (zad z (19 + f))]) (rest := []) C h (k_chooseFav l z v (va_up (va_up sc 9 (nI (b))) 10 (nI (K))) (A4 ar (23 + f) (kd) (T) (sl) (g)) (fun j => cN R (kd j) cnt) K m (19 + f) rfl (by omega) (fun j hj => by rw [A4_16 (show 23 ≤ 23 + f by omega)]; exact Or.inl ⟨hce.2.2.2.2.2 j hj, by show cN R (kd j) cnt ≤ 1000; have := cN_le R (kd j) cnt; omega⟩) hm hA4.1 hA4.2.1 (by omega) (by omega)) gv_X0_44 gv_X0_44_n ⟨rfl, rfl⟩ (r_Census C h) rfl hl.1 rfl (Nat.le_of_ble_eq_true rfl) dX0_take_61 ⟨Nat.le_of_ble_eq_true rfl, Nat.le_of_ble_eq_true rfl⟩ ⟨Nat.le_of_ble_eq_true rfl, Nat.le_of_ble_eq_true rfl⟩) (fun v_61 sc_61 ar_61 H locs p_61 h => ?_)
    rw [A4_15 (show 23 ≤ 23 + f by omega), A4_16 (show 23 ≤ 23 + f by omega), A4_o (by omega) (by omega) (by omega) (by omega), A4_F (show 23 ≤ 23 + f by omega) (by omega) (by omega) (by omega) (by omega)] at p_61
    have h : hH z v (va_up (va_up sc 9 (nI (b))) 10 (nI (K))) (A4 (va_up ar (19 + f) (wrR (ar (19 + f)) 0 (nI (fv (fun j => cN R (kd j) cnt) K m).length :: (fv (fun j => cN R (kd j) cnt) K m).map kd))) (23 + f) (kd) (tlA T (fv (fun j => cN R (kd j) cnt) K m)) (sl) (g)) s H locs := uEq p_61 h
    refine lv_iconst (v := nI (0)) hx hb dX0_take_64 (by decide) ?_
    refine lv_istore (lv' := [(6, .int (nI (0))), (0, .ref (zad z 3)), (1, .ref (zad z k)), (2, .int (nI (fr))), (3, .int (nI (cnt))), (4, .int (nI (m))), (5, .ref (zad z (5 + f)))]) hx hb dX0_take_65 hl (by decide) rfl (fun ls hl => ?_)
    refine lpW2 (fun (i2 : Nat) (g2 : Nat → Int32) (H : Heap) (locs : List Loc) (ls : Array Slot) => (i2 ≤ cnt) ∧ (∀ q, q < i2 → g2 q = nI (if kx q ∈ (fv (fun j => cN R (kd j) cnt) K m) then (fv (fun j => cN R (kd j) cnt) K m).idxOf (kx q) + 1 else 0)) ∧ (∀ q, i2 ≤ q → g2 q = g q) ∧ hH z v (va_up (va_up sc 9 (nI (b))) 10 (nI (K))) (A4 (va_up ar (19 + f) (wrR (ar (19 + f)) 0 (nI (fv (fun j => cN R (kd j) cnt) K m).length :: (fv (fun j => cN R (kd j) cnt) K m).map kd))) (23 + f) (kd) (tlA T (fv (fun j => cN R (kd j) cnt) K m)) (sl) (g2)) s H locs ∧ lv_has ls 8 [(0, .ref (zad z 3)), (3, .int (nI (cnt))), (5, .ref (zad z (5 + f))), (6, .int (nI (i2)))]) (fun (i2 : Nat) (g2 : Nat → Int32) => cnt - i2) (fun i2 g2 ih_67 H locs ls hI => ?_) (0) (g) ⟨Nat.zero_le _, fun _ q => absurd q (Nat.not_lt_zero _), fun _ _ => rfl, h, lv_sub hl [1, 4, 6, 0] rfl⟩
    obtain ⟨h7, h8, h9, h, hl⟩ := hI
    refine lv_iload hx hb dX0_take_67 (lv_at hl 3 rfl) ?_
    refine lv_iload_n hx hb dX0_take_69 rfl (lv_at hl 1 rfl) ?_
    refine jN_ge (tgt := 105) (a := i2) (b := cnt) C (by omega) (by omega) dX0_take_70 (by decide) (fun c_70 => ?_) (fun c_70 => ?_)
    · skip
      exact rV C hr hlk h dX0_take_105 (Nat.le_of_ble_eq_true rfl) (Nat.le_of_ble_eq_true rfl) (⟨_, _, rfl, fun i h9 h10 => by rw [va_up_ne _ _ h10, va_up_ne _ _ h9], fun q a1 a2 a3 a4 a5 => by rw [A4_o a1 a2 a3 a5, va_up_ne _ _ a4], by rw [A4_o (by omega) (by omega) (by omega) (by omega), va_up_self, ← hR, favs_eq hce, List.length_map], fun i hi => by rw [A4_L, h8 i (by omega), ← hR, favs_eq hce, show ar k (fr + i) = R i by rw [hR], ← (hce.2.2.1 i (by omega)).2.2, tok_eq (fv_nd m _) (fun q hq => (fv_lt m _ q hq).1) (hce.2.2.1 i (by omega)).1 hce.1.2.2.2]⟩)
    · skip
      have hkx := (hce.2.2.1 i2 (by omega)).1
      refine lv_aload hx hb dX0_take_73 (lv_at hl 2 rfl) ?_
      refine rf_X0_36 hf C h dX0_take_75 ?_
      refine lv_iload hx hb dX0_take_78 (lv_at hl 3 rfl) ?_
      refine lv_iconst (v := nI (0)) hx hb dX0_take_80 (by decide) ?_
      refine lv_aload_n hx hb dX0_take_81 rfl (lv_at hl 0 rfl) ?_
      refine rg_X0_22 C h dX0_take_82 ?_
      refine lv_aload hx hb dX0_take_85 (lv_at hl 2 rfl) ?_
      refine rf_X0_36 hf C h dX0_take_87 ?_
      refine lv_iload hx hb dX0_take_90 (lv_at hl 3 rfl) ?_
      refine ldA (23 + f) hA4.2.2.1 (j := i2) (by rw [hA4.2.2.2]; omega) (by rw [hA4.2.2.2]; decide) C h dX0_take_92 ?_
      refine tI (y := nI (kx i2)) ((congrFun A4_L _).trans ((h9 i2 (Nat.le_refl _)).trans (hce.2.2.1 i2 (by omega)).2.1)) ?_
      refine ldA 16 rfl (j := kx i2) (show kx i2 < 400 by omega) (by decide) C h dX0_take_93 ?_
      refine tI (y := tlA T (fv (fun j => cN R (kd j) cnt) K m) (kx i2)) (congrFun (A4_16 (show 23 ≤ 23 + f by omega)) _) ?_
      refine lv_ineg hx hb dX0_take_94 ?_
      refine mmax C hl.1 um_X0_48 (Nat.le_of_ble_eq_true rfl) (Nat.le_of_ble_eq_true rfl) (Nat.zero_le _) (Nat.zero_le _) dX0_take_95 ?_
      refine tI (y := nI (if kx i2 ∈ (fv (fun j => cN R (kd j) cnt) K m) then (fv (fun j => cN R (kd j) cnt) K m).idxOf (kx i2) + 1 else 0)) (max_tl (hce.2.2.2.2.2 (kx i2) hkx) (by have := cN_le R (kd (kx i2)) cnt; omega) (Nat.le_trans (fv_len m _) hm)) ?_
      refine stA (23 + f) hA4.2.2.1 (j := i2) (x := nI (if kx i2 ∈ (fv (fun j => cN R (kd j) cnt) K m) then (fv (fun j => cN R (kd j) cnt) K m).idxOf (kx i2) + 1 else 0)) (by rw [hA4.2.2.2]; omega) (by rw [hA4.2.2.2]; decide) C h dX0_take_98 (fun H locs h => ?_)
      rw [A4_g, A4_L] at h
      have h : hH z v (va_up (va_up sc 9 (nI (b))) 10 (nI (K))) (A4 (va_up ar (19 + f) (wrR (ar (19 + f)) 0 (nI (fv (fun j => cN R (kd j) cnt) K m).length :: (fv (fun j => cN R (kd j) cnt) K m).map kd))) (23 + f) (kd) (tlA T (fv (fun j => cN R (kd j) cnt) K m)) (sl) (upd g2 i2 (nI (if kx i2 ∈ (fv (fun j => cN R (kd j) cnt) K m) then (fv (fun j => cN R (kd j) cnt) K m).idxOf (kx i2) + 1 else 0)))) s H locs := h
      refine lv_iinc (v := nI (i2 + 1)) (lv' := [(6, .int (nI (i2 + 1))), (0, .ref (zad z 3)), (3, .int (nI (cnt))), (5, .ref (zad z (5 + f)))]) hx hb dX0_take_99 hl (k := 3) rfl (nN_inc _) (by decide) rfl (fun ls hl => ?_)
      refine lv_goto (tgt := 67) hx hb dX0_take_102 (by decide) ?_
      exact ih_67 (i2 + 1) (upd g2 i2 (nI (if kx i2 ∈ (fv (fun j => cN R (kd j) cnt) K m) then (fv (fun j => cN R (kd j) cnt) K m).idxOf (kx i2) + 1 else 0))) (by omega) H locs ls ⟨by omega, fun q hq => by by_cases e : q = i2; rw [e, pk_us]; rw [pk_un e]; exact h8 q (by omega), fun q hq => by rw [pk_un (by omega)]; exact h9 q (by omega), h, lv_sub hl [1, 2, 3, 0] rfl⟩
  · skip
    refine lv_aload_n hx hb dX0_take_14 rfl (lv_at hl 0 rfl) ?_
    refine lv_aload_n hx hb dX0_take_15 rfl (lv_at hl 1 rfl) ?_
    refine lv_iload_n hx hb dX0_take_16 rfl (lv_at hl 2 rfl) ?_
    refine lv_iload hx hb dX0_take_17 (lv_at hl 6 rfl) ?_
    refine lv_iadd hx hb dX0_take_19 ?_
    refine tI (nI_add _ _) ?_
    refine ldA k hk (j := (fr) + (i)) (by omega) hkL C h dX0_take_20 ?_
    refine tI (y := ar k (fr + i)) (congrFun (A4_o hk1 hk2 hk3 hk5) _) ?_
    refine backI h (runV (As := [.int (ar k (fr + i))]) (rest := []) C h (k_kindOf l z v (va_up (va_up sc 9 (nI (b))) 10 (nI (K))) (A4 ar (23 + f) (kd) (T) (sl) (g)) b K (ar k (fr + i)) rfl hb1 hb9 rfl (by omega) (by omega) (by rw [A4_14 (show 23 ≤ 23 + f by omega), A4_15 (show 23 ≤ 23 + f by omega)]; exact hce.1)) gv_X0_32 gv_X0_32_n ⟨rfl, rfl⟩ (r_Census C h) rfl hl.1 rfl (Nat.le_of_ble_eq_true rfl) dX0_take_21 ⟨Nat.le_of_ble_eq_true rfl, Nat.le_of_ble_eq_true rfl⟩ ⟨Nat.le_of_ble_eq_true rfl, Nat.le_of_ble_eq_true rfl⟩) (fun r_21 v_21 sc_21 ar_21 H locs p_21 h => ?_)
    obtain ⟨j, er, hj⟩ := p_21
    rcases hj with ⟨hj, ej, eu⟩ | ⟨ej, hno, sl1, hsl, eu⟩
    · skip
      refine tI (y := nI j) er ?_
      rw [A4_15 (show 23 ≤ 23 + f by omega)] at ej
      have h : hH z v (va_up (va_up sc 9 (nI (b))) 10 (nI (K))) (A4 ar (23 + f) (kd) (T) (sl) (g)) s H locs := uEq eu h
      refine lv_istore (lv' := [(7, .int (nI (j))), (0, .ref (zad z 3)), (1, .ref (zad z k)), (2, .int (nI (fr))), (3, .int (nI (cnt))), (4, .int (nI (m))), (5, .ref (zad z (5 + f))), (6, .int (nI (i)))]) hx hb dX0_take_24 hl (by decide) rfl (fun ls hl => ?_)
      refine lv_aload_n hx hb dX0_take_26 rfl (lv_at hl 1 rfl) ?_
      refine rg_X0_22 C h dX0_take_27 ?_
      refine lv_iload hx hb dX0_take_30 (lv_at hl 0 rfl) ?_
      refine lv_dup2_11 hx hb dX0_take_32 rfl rfl ?_
      refine ldA 16 rfl (j := j) (show j < 400 by omega) (by decide) C h dX0_take_33 ?_
      refine tI (y := nI (cN R (kd j) i)) ((congrFun (A4_16 (show 23 ≤ 23 + f by omega)) _).trans (hce.2.2.2.2.2 j hj)) ?_
      refine lv_iconst (v := nI (1)) hx hb dX0_take_34 (by decide) ?_
      refine lv_iadd hx hb dX0_take_35 ?_
      refine tI (nI_add _ _) ?_
      refine stA 16 rfl (j := j) (x := nI ((cN R (kd j) i) + (1))) (show j < 400 by omega) (by decide) C h dX0_take_36 (fun H locs h => ?_)
      rw [A4_T (show 23 ≤ 23 + f by omega), A4_16 (show 23 ≤ 23 + f by omega)] at h
      have h : hH z v (va_up (va_up sc 9 (nI (b))) 10 (nI (K))) (A4 ar (23 + f) (kd) (upd T j (nI (cN R (kd j) i + 1))) (sl) (g)) s H locs := h
      refine lv_aload hx hb dX0_take_37 (lv_at hl 6 rfl) ?_
      refine rf_X0_36 hf C h dX0_take_39 ?_
      refine lv_iload hx hb dX0_take_42 (lv_at hl 7 rfl) ?_
      refine lv_iload hx hb dX0_take_44 (lv_at hl 0 rfl) ?_
      refine stA (23 + f) hA4.2.2.1 (j := i) (x := nI (j)) (by rw [hA4.2.2.2]; omega) (by rw [hA4.2.2.2]; decide) C h dX0_take_46 (fun H locs h => ?_)
      rw [A4_g, A4_L] at h
      have h : hH z v (va_up (va_up sc 9 (nI (b))) 10 (nI (K))) (A4 ar (23 + f) (kd) (upd T j (nI (cN R (kd j) i + 1))) (sl) (upd g i (nI j))) s H locs := h
      refine lv_iinc (v := nI (i + 1)) (lv' := [(6, .int (nI (i + 1))), (7, .int (nI (j))), (0, .ref (zad z 3)), (1, .ref (zad z k)), (2, .int (nI (fr))), (3, .int (nI (cnt))), (4, .int (nI (m))), (5, .ref (zad z (5 + f)))]) hx hb dX0_take_47 hl (k := 7) rfl (nN_inc _) (by decide) rfl (fun ls hl => ?_)
      refine lv_goto (tgt := 8) hx hb dX0_take_50 (by decide) ?_
      exact ih_8 (i + 1) (K) (sl) (kd) (upd T j (nI (cN R (kd j) i + 1))) (upd g i (nI j)) (by omega) H locs ls ⟨by omega, ⟨_, _, cen_old hce hj (ej.trans hRi.symm)⟩, h, lv_sub hl [2, 3, 4, 5, 6, 7, 0] rfl⟩
    · skip
      rw [A4_15 (show 23 ≤ 23 + f by omega)] at hno hsl eu
      rw [A4_16 (show 23 ≤ 23 + f by omega), A4_new (show 23 ≤ 23 + f by omega), va_uu] at eu
      refine tI (y := nI K) (by rw [er, ej]) ?_
      have h : hH z v (va_up (va_up sc 9 (nI (b))) 10 (nI (K + 1))) (A4 ar (23 + f) (upd kd K (ar k (fr + i))) (upd T K (nI 0)) (sl1) (g)) s H locs := uEq eu h
      refine lv_istore (lv' := [(7, .int (nI (K))), (0, .ref (zad z 3)), (1, .ref (zad z k)), (2, .int (nI (fr))), (3, .int (nI (cnt))), (4, .int (nI (m))), (5, .ref (zad z (5 + f))), (6, .int (nI (i)))]) hx hb dX0_take_24 hl (by decide) rfl (fun ls hl => ?_)
      refine lv_aload_n hx hb dX0_take_26 rfl (lv_at hl 1 rfl) ?_
      refine rg_X0_22 C h dX0_take_27 ?_
      refine lv_iload hx hb dX0_take_30 (lv_at hl 0 rfl) ?_
      refine lv_dup2_11 hx hb dX0_take_32 rfl rfl ?_
      refine ldA 16 rfl (j := K) (show K < 400 by omega) (by decide) C h dX0_take_33 ?_
      refine tI (y := nI (0)) ((congrFun (A4_16 (show 23 ≤ 23 + f by omega)) _).trans pk_us) ?_
      refine lv_iconst (v := nI (1)) hx hb dX0_take_34 (by decide) ?_
      refine lv_iadd hx hb dX0_take_35 ?_
      refine tI (y := nI (1)) (by decide) ?_
      refine stA 16 rfl (j := K) (x := nI (1)) (show K < 400 by omega) (by decide) C h dX0_take_36 (fun H locs h => ?_)
      rw [A4_T (show 23 ≤ 23 + f by omega), A4_16 (show 23 ≤ 23 + f by omega)] at h
      have h : hH z v (va_up (va_up sc 9 (nI (b))) 10 (nI (K + 1))) (A4 ar (23 + f) (upd kd K (ar k (fr + i))) (upd (upd T K (nI 0)) K (nI (0 + 1))) (sl1) (g)) s H locs := h
      refine lv_aload hx hb dX0_take_37 (lv_at hl 6 rfl) ?_
      refine rf_X0_36 hf C h dX0_take_39 ?_
      refine lv_iload hx hb dX0_take_42 (lv_at hl 7 rfl) ?_
      refine lv_iload hx hb dX0_take_44 (lv_at hl 0 rfl) ?_
      refine stA (23 + f) hA4.2.2.1 (j := i) (x := nI (K)) (by rw [hA4.2.2.2]; omega) (by rw [hA4.2.2.2]; decide) C h dX0_take_46 (fun H locs h => ?_)
      rw [A4_g, A4_L] at h
      have h : hH z v (va_up (va_up sc 9 (nI (b))) 10 (nI (K + 1))) (A4 ar (23 + f) (upd kd K (ar k (fr + i))) (upd (upd T K (nI 0)) K (nI (0 + 1))) (sl1) (upd g i (nI K))) s H locs := h
      refine lv_iinc (v := nI (i + 1)) (lv' := [(6, .int (nI (i + 1))), (7, .int (nI (K))), (0, .ref (zad z 3)), (1, .ref (zad z k)), (2, .int (nI (fr))), (3, .int (nI (cnt))), (4, .int (nI (m))), (5, .ref (zad z (5 + f)))]) hx hb dX0_take_47 hl (k := 7) rfl (nN_inc _) (by decide) rfl (fun ls hl => ?_)
      refine lv_goto (tgt := 8) hx hb dX0_take_50 (by decide) ?_
      exact ih_8 (i + 1) (K + 1) (sl1) (upd kd K (ar k (fr + i))) (upd (upd T K (nI 0)) K (nI (0 + 1))) (upd g i (nI K)) (by omega) H locs ls ⟨by omega, by rw [← hRi] at hno hsl ⊢; exact ⟨_, _, cen_new hce hno hsl⟩, h, lv_sub hl [2, 3, 4, 5, 6, 7, 0] rfl⟩
