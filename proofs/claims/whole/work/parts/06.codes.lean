/-! ===== lN n to 2^64: shifts, and, or, masks, one bit ===== -/
theorem wb_tb (n : Nat) : (lN n).toBitVec = BitVec.ofNat 64 n := rfl
theorem wb_inj {a b : Int64} (h : a.toBitVec = b.toBitVec) : a = b := Int64.toBitVec_inj.mp h
theorem wb_tn {n : Nat} (h : n < 2 ^ 64) : (lN n).toBitVec.toNat = n := by rw [wb_tb, BitVec.toNat_ofNat, Nat.mod_eq_of_lt h]
theorem wb_of (x : Int64) : ∃ n, n < 2 ^ 64 ∧ x = lN n := ⟨x.toBitVec.toNat, x.toBitVec.isLt, wb_inj (by rw [wb_tb]; simp)⟩
theorem wb_of32 (x : Int32) : ∃ n, n < 2 ^ 32 ∧ x = nI n := ⟨x.toBitVec.toNat, x.toBitVec.isLt, Int32.toBitVec_inj.mp (by show _ = BitVec.ofNat 32 _; simp)⟩
theorem wb_c : ∀ k, k < 64 → ((nI k).toInt64 &&& 63) = lN k := by decide +kernel
theorem wb_cu : ∀ k, k < 64 → ((nI k).toInt64.toUInt64 &&& Int64.toUInt64 63) = UInt64.ofNat k := by decide +kernel
theorem wb_sm : ∀ k, k < 64 → (BitVec.ofNat 64 k).smod 64 = BitVec.ofNat 64 k := by decide +kernel
theorem wb_pw {a b : Nat} (h : a ≤ b) : 2 ^ b = 2 ^ a * 2 ^ (b - a) := by rw [← Nat.pow_add]; congr 1; omega
theorem wb_mod (n : Nat) : lN n = lN (n % 2 ^ 64) := wb_inj (by rw [wb_tb, wb_tb]; apply BitVec.eq_of_toNat_eq; rw [BitVec.toNat_ofNat, BitVec.toNat_ofNat, Nat.mod_mod])
theorem wb_shl (n : Nat) {k : Nat} (hk : k < 64) : lN n <<< ((nI k).toInt64 &&& 63) = lN (n * 2 ^ k) := by
  rw [wb_c k hk]
  apply wb_inj
  rw [Int64.toBitVec_shiftLeft, wb_tb, wb_tb, wb_tb, wb_sm k hk]
  apply BitVec.eq_of_toNat_eq
  rw [BitVec.shiftLeft_eq', BitVec.toNat_shiftLeft, BitVec.toNat_ofNat, BitVec.toNat_ofNat, BitVec.toNat_ofNat, Nat.mod_eq_of_lt (show k < 2 ^ 64 by omega), Nat.shiftLeft_eq, Nat.mul_mod, Nat.mod_mod, ← Nat.mul_mod]
theorem pf_lI {a : Nat} (h : a < 2 ^ 63) : (lN a).toInt = (a : Int) := lg_ofNat_toInt h
theorem pf_shr {a d : Nat} {D : Int64} (hD : (D.toBitVec.smod 64).toNat = d) (h : a < 2 ^ 62) : lN a >>> D = lN (a / 2 ^ d) := by
  have hd : a / 2 ^ d ≤ a := Nat.div_le_self _ _
  apply Int64.toInt_inj.mp
  have e : (lN a >>> D).toInt = (lN a).toInt >>> d := by
    rw [← hD]
    exact BitVec.toInt_sshiftRight ..
  rw [e, Int.shiftRight_eq_div_pow, pf_lI (by omega), pf_lI (by omega)]
  rfl
/-! Numbers and codes: what a coding says, in words of its own. -/
def toldI (d : Nat) (x y : Int32) : Int32 := if d = 1 then x - y else x
/-- the code of a number, if it has one -/
def cdO (s : Nat) (t : Int32) : Option Nat :=
  if 0 ≤ t.toInt then some (if s = 0 then t.toInt.toNat else t.toInt.toNat + t.toInt.toNat / (2 ^ s - 1))
  else if s = 0 then none else if 2 ^ s * (-t.toInt).toNat - 1 < 4294967296 then some (2 ^ s * (-t.toInt).toNat - 1) else none
def oL (o : Option Nat) : Int64 := match o with
  | some c => lN c
  | none => -1
/-- the number of a code, if it is one -/
def nbO (s c : Nat) : Option Int :=
  if 4294967296 ≤ c then none
  else if s ≠ 0 ∧ (c + 1) % 2 ^ s = 0 then some (-(((c + 1) / 2 ^ s : Nat) : Int))
  else if (if s = 0 then c else c - c / 2 ^ s) < 2147483648 then some (((if s = 0 then c else c - c / 2 ^ s) : Nat) : Int) else none
def nL64 (o : Option Int) : Int64 := match o with
  | some i => Int64.ofInt i
  | none => lN 4294967296
/-- the bytes of a code -/
def enc : Nat → Nat → Nat → Option (List Nat)
  | 0, _, _ => none
  | 1, _, c => if c < 256 then some [c] else none
  | k + 2, h, c => if c < 256 - h then some [c] else (enc (k + 1) h ((c - (256 - h)) / h)).map (fun t => (256 - h + (c - (256 - h)) % h) :: t)
theorem i32_range (t : Int32) : -2147483648 ≤ t.toInt ∧ t.toInt < 2147483648 := ⟨Int32.le_toInt t, Int32.toInt_lt t⟩
theorem t_pos {t : Int32} (h : 0 ≤ t.toInt) : ∃ k : Nat, k < 2147483648 ∧ t = nI k ∧ t.toInt = k := by
  have hr := i32_range t
  refine ⟨t.toInt.toNat, by omega, ?_, by omega⟩
  apply Int32.toInt_inj.mp
  rw [nI_toInt (by omega)]
  omega
theorem t64 (t : Int32) : t.toInt64.toInt = t.toInt := Int32.toInt_toInt64 t
theorem t_posL {t : Int32} (h : ¬ t.toInt64 < lN 0) : ∃ k : Nat, k < 2147483648 ∧ t = nI k ∧ t.toInt = k := by
  apply t_pos
  rw [Int64.lt_iff_toInt_lt, t64, pk_lT (by decide)] at h
  omega
theorem t_negL {t : Int32} (h : t.toInt64 < lN 0) : ∃ k : Nat, 0 < k ∧ k ≤ 2147483648 ∧ t.toInt = -(k : Int) ∧ -t.toInt64 = lN k := by
  rw [Int64.lt_iff_toInt_lt, t64, pk_lT (by decide)] at h
  have hr := i32_range t
  refine ⟨(-t.toInt).toNat, by omega, by omega, by omega, ?_⟩
  apply Int64.toInt_inj.mp
  rw [pk_lT (by omega), Int64.toInt_neg, t64, Int.bmod_def]
  omega
theorem lshN (k : Nat) {s : Nat} (hs : s ≤ 2) : lN k <<< ((nI s).toInt64 &&& 63) = lN (k * 2 ^ s) := wb_shl k (by omega)
theorem lsrN {k s : Nat} (hk : k < 2 ^ 62) (hs : s ≤ 2) : lN k >>> ((nI s).toInt64 &&& 63) = lN (k / 2 ^ s) := by
  rw [wb_c s (by omega)]
  refine pf_shr ?_ hk
  rcases (show s = 0 ∨ s = 1 ∨ s = 2 by omega) with rfl | rfl | rfl <;> decide
theorem cdO_lt {s : Nat} {t : Int32} {c : Nat} (hs : s ≤ 2) (h : cdO s t = some c) : c < 4294967296 := by
  have hr := i32_range t
  have hk : t.toInt.toNat < 2147483648 := by omega
  unfold cdO at h
  generalize t.toInt.toNat = k at h hk
  split at h
  · cases h
    rcases (show s = 0 ∨ s = 1 ∨ s = 2 by omega) with rfl | rfl | rfl
    · rw [if_pos rfl]; omega
    · rw [if_neg (by decide), show (2 : Nat) ^ 1 - 1 = 1 from rfl, Nat.div_one]; omega
    · rw [if_neg (by decide), show (2 : Nat) ^ 2 - 1 = 3 from rfl]; omega
  · split at h
    · cases h
    · split at h
      · cases h; assumption
      · cases h
theorem lN_neg1 {c : Nat} (h : c < 2 ^ 63) : ¬ lN c = -1 := by
  intro q
  have h1 := congrArg Int64.toInt q
  rw [pk_lT h] at h1
  have : (-1 : Int64).toInt = -1 := by decide
  omega
/-- bytes behind place p -/
def wrB (b : Nat → Int32) (p : Nat) (bs : List Nat) : Nat → Int32 := fun j => if p ≤ j ∧ j < p + bs.length ∧ j < 8000 then sb_b (bs.getD (j - p) 0) else b j
theorem wrB_nil (b : Nat → Int32) (p : Nat) : wrB b p [] = b := by
  funext j
  unfold wrB
  rw [if_neg (by simp; omega)]
theorem wrB_app (b : Nat → Int32) (p : Nat) (xs ys : List Nat) : wrB (wrB b p xs) (p + xs.length) ys = wrB b p (xs ++ ys) := by
  funext j
  unfold wrB
  simp only [List.length_append]
  by_cases h1 : p + xs.length ≤ j ∧ j < p + xs.length + ys.length ∧ j < 8000
  · rw [if_pos h1, if_pos (by omega)]
    congr 1
    rw [List.getD_eq_getElem?_getD, List.getD_eq_getElem?_getD, List.getElem?_append_right (by omega)]
    congr 2
    omega
  · rw [if_neg h1]
    by_cases h2 : p ≤ j ∧ j < p + xs.length ∧ j < 8000
    · rw [if_pos h2, if_pos (by omega)]
      congr 1
      rw [List.getD_eq_getElem?_getD, List.getD_eq_getElem?_getD, List.getElem?_append_left (by omega)]
    · rw [if_neg h2, if_neg (by omega)]
theorem wrB_low {b : Nat → Int32} {p : Nat} {bs : List Nat} {j : Nat} (h : j < p) : wrB b p bs j = b j := by
  unfold wrB
  rw [if_neg (by omega)]
theorem wrB_one (b : Nat → Int32) (p x : Nat) : (if p < 8000 then upd b p (nI x).toInt8.toInt32 else b) = wrB b p [x] := by
  funext j
  unfold wrB
  by_cases h : p < 8000
  · rw [if_pos h]
    unfold upd
    by_cases hj : j = p
    · rw [if_pos hj, if_pos (by simp; omega), hj]
      simp [sb_b]
    · rw [if_neg hj, if_neg (by simp; omega)]
  · rw [if_neg h, if_neg (by simp; omega)]
theorem va_uu {α : Type} (f : Nat → α) (k : Nat) (x y : α) : va_up (va_up f k x) k y = va_up f k y := by
  funext j
  unfold va_up
  split <;> rfl
theorem va_us {α : Type} (f : Nat → α) (k : Nat) : va_up f k (f k) = f := by
  funext j
  unfold va_up
  split
  · rename_i h; rw [h]
  · rfl
theorem va_ue {α : Type} {f : Nat → α} {k : Nat} {x : α} (h : f k = x) : va_up f k x = f := by rw [← h, va_us]
theorem wr_start {sc : Nat → Int32} {ar : Nat → Nat → Int32} {n d : Nat} (hd : sc 5 = nI d) : va_up sc 5 (nI (d + ([] : List Nat).length)) = sc ∧ va_up ar 11 (wrB (ar 11) (n + d) []) = ar := ⟨va_ue hd, by rw [wrB_nil, va_us]⟩
theorem dr_eq (ar : Nat → Nat → Int32) (n d : Nat) (done : List Nat) (x : Nat) : (if n + (d + done.length) < 8000 then va_up (va_up ar 11 (wrB (ar 11) (n + d) done)) 11 (upd (va_up ar 11 (wrB (ar 11) (n + d) done) 11) (n + (d + done.length)) (nI x).toInt8.toInt32) else va_up ar 11 (wrB (ar 11) (n + d) done)) = va_up ar 11 (wrB (ar 11) (n + d) (done ++ [x])) := by
  rw [← wrB_app, ← wrB_one, va_up_self, show n + d + done.length = n + (d + done.length) by omega]
  split
  · rw [va_uu]
  · rfl
set_option maxHeartbeats 4000000 in
/-- Tape.draft behind what has been drafted -/
theorem k_drB (l : Launch) (z : bZ) (v : bV) (sc : Nat → Int32) (ar : Nat → Nat → Int32) (n d : Nat) (done : List Nat) (x : Nat) (hn : sc 3 = nI n) (hn8 : n ≤ 8000) (hd : d + done.length < 2 ^ 30) :
    Met l yX7_draft (Cond.code yX7_draft cX7_draft 3 none :: uW) { frames := 0, cells := 0, slots := 0, locals := 0 } (pC z v (va_up sc 5 (nI (d + done.length))) (va_up ar 11 (wrB (ar 11) (n + d) done)) [.ref (zad z 2), .int (nI x)]) (qV z (fun u => u = (v, va_up sc 5 (nI (d + (done ++ [x]).length)), va_up ar 11 (wrB (ar 11) (n + d) (done ++ [x]))))) 0 0 (zA z) := by
  have h := k_draft l z v (va_up sc 5 (nI (d + done.length))) (va_up ar 11 (wrB (ar 11) (n + d) done)) n (d + done.length) (nI x) hn hn8 rfl hd
  rw [dr_eq, va_uu] at h
  rw [show d + (done ++ [x]).length = d + done.length + 1 by simp; omega]
  exact h
/-- a way that is a coding -/
def cdW (v : bV) (a cb ch cs cd : Nat) : Prop := a ∈ v.2.2.1 ∧ v.2.2.2 a = .inr (1, [.int (nI 0), .int (nI cb), .int (nI ch), .int (nI cs), .int (nI cd), .int (nI (256 - ch))]) ∧ (1 ≤ cb ∧ cb ≤ 5) ∧ (1 ≤ ch ∧ ch ≤ 256) ∧ cs ≤ 2 ∧ cd ≤ 1
section POOL
variable {p : Program} {l : Launch} {e : Env} {R : Room} {s : State} {m : MethodId} {args : Array Value} {below : List Frame} {meth : Method} {c : Code} {H : Heap} {locs : List Loc} {cells slots : Nat} {Q : State → Prop}
variable {z : bZ} {v : bV} {sc : Nat → Int32} {ar : Nat → Nat → Int32} {cc : ByteArray} {nL : Nat} {own : String} {pc : Nat} {ls : Array Slot} {rest : List Value}
/-- a field of a way -/
theorem rgP {ci k N a ix : Nat} {Cn ref : String} {T : u_T} {fs : List Value} {x : Value} (C : cX z p m c cc nL s args own) (h : hH z v sc ar s H locs) (ha : a ∈ v.2.2.1) (hf : v.2.2.2 a = .inr (ci, fs)) (hc : vwCl[ci]? = some (Cn, T, N)) (hk : k < N) (hi : ∀ w ∈ u_ws Cn T N, w ∈ uW) (hl : Cond.fieldLink own ix ref (T k).2.1 (T k).2.2.1 ∈ uW)
    (hsame : ∀ x, s.fieldFound? (T k).1 (T k).2.1 (T k).2.2.1 = some x → s.fieldFound? ref (T k).2.1 (T k).2.2.1 = some x) (hv : fs[k]? = some x) (hd : decode cc pc = .ok (.getfield ix, 3)) (kk : W p l e R s m args below meth c H locs cells slots Q (F0 m (pc + 3) ls (x :: rest))) : W p l e R s m args below meth c H locs cells slots Q (F0 m pc ls (.ref a :: rest)) := by
  obtain ⟨q, hq⟩ := va_pl_get (X := gO z v sc ar) (f := v.2.2.2) ha
  rw [hf] at hq
  exact va_get (D := zD z) (ws := gW z v sc ar) C.1.1 C.1.2.1 C.1.2.2.2.2 hi C.1.2.2.2.1 C.2.1 h.1.1 q hq hc k hk (C.1.2.2.2.2 _ hl) hsame hv hd kk
theorem rcvP {ci a : Nat} {fs : List Value} {q : vw_C} (C : cX z p m c cc nL s args own) (h : hH z v sc ar s H locs) (ha : a ∈ v.2.2.1) (hf : v.2.2.2 a = .inr (ci, fs)) (hc : vwCl[ci]? = some q) : ∃ cell : Cell, H[a]? = some cell ∧ cell.vm.isStatics = false ∧ s.vm.findClass q.1 = some cell.cls := by
  obtain ⟨k, hk⟩ := va_pl_get (X := gO z v sc ar) (f := v.2.2.2) ha
  rw [hf] at hk
  exact va_recv (ws := gW z v sc ar) C.2.1 h.1.1 hc hk
theorem r_Cod {a cb ch cs cd : Nat} (C : cX z p m c cc nL s args own) (h : hH z v sc ar s H locs) (hw : cdW v a cb ch cs cd) : ∃ cell : Cell, H[a]? = some cell ∧ cell.vm.isStatics = false ∧ s.vm.findClass RX1 = some cell.cls := rcvP C h hw.1 hw.2.1 rfl
theorem uw_X1_9 : Cond.fieldLink RX1 9 "BandMill$Coding" "b" "I" ∈ uW := uW_of (by decide +kernel) rfl
theorem rw_X1_9 {a cb ch cs cd : Nat} (C : cX z p m c cc nL s args RX1) (h : hH z v sc ar s H locs) (hw : cdW v a cb ch cs cd) (hd : decode cc pc = .ok (.getfield 9, 3)) (kk : W p l e R s m args below meth c H locs cells slots Q (F0 m (pc + 3) ls (.int (nI (cb)) :: rest))) : W p l e R s m args below meth c H locs cells slots Q (F0 m pc ls (.ref a :: rest)) :=
  rgP (k := 1) (T := TX1) C h hw.1 hw.2.1 rfl (by decide) iX1 uw_X1_9 (fun _ q => q) rfl hd kk
theorem uw_X1_15 : Cond.fieldLink RX1 15 "BandMill$Coding" "h" "I" ∈ uW := uW_of (by decide +kernel) rfl
theorem rw_X1_15 {a cb ch cs cd : Nat} (C : cX z p m c cc nL s args RX1) (h : hH z v sc ar s H locs) (hw : cdW v a cb ch cs cd) (hd : decode cc pc = .ok (.getfield 15, 3)) (kk : W p l e R s m args below meth c H locs cells slots Q (F0 m (pc + 3) ls (.int (nI (ch)) :: rest))) : W p l e R s m args below meth c H locs cells slots Q (F0 m pc ls (.ref a :: rest)) :=
  rgP (k := 2) (T := TX1) C h hw.1 hw.2.1 rfl (by decide) iX1 uw_X1_15 (fun _ q => q) rfl hd kk
theorem uw_X1_18 : Cond.fieldLink RX1 18 "BandMill$Coding" "s" "I" ∈ uW := uW_of (by decide +kernel) rfl
theorem rw_X1_18 {a cb ch cs cd : Nat} (C : cX z p m c cc nL s args RX1) (h : hH z v sc ar s H locs) (hw : cdW v a cb ch cs cd) (hd : decode cc pc = .ok (.getfield 18, 3)) (kk : W p l e R s m args below meth c H locs cells slots Q (F0 m (pc + 3) ls (.int (nI (cs)) :: rest))) : W p l e R s m args below meth c H locs cells slots Q (F0 m pc ls (.ref a :: rest)) :=
  rgP (k := 3) (T := TX1) C h hw.1 hw.2.1 rfl (by decide) iX1 uw_X1_18 (fun _ q => q) rfl hd kk
theorem uw_X1_21 : Cond.fieldLink RX1 21 "BandMill$Coding" "d" "I" ∈ uW := uW_of (by decide +kernel) rfl
theorem rw_X1_21 {a cb ch cs cd : Nat} (C : cX z p m c cc nL s args RX1) (h : hH z v sc ar s H locs) (hw : cdW v a cb ch cs cd) (hd : decode cc pc = .ok (.getfield 21, 3)) (kk : W p l e R s m args below meth c H locs cells slots Q (F0 m (pc + 3) ls (.int (nI (cd)) :: rest))) : W p l e R s m args below meth c H locs cells slots Q (F0 m pc ls (.ref a :: rest)) :=
  rgP (k := 4) (T := TX1) C h hw.1 hw.2.1 rfl (by decide) iX1 uw_X1_21 (fun _ q => q) rfl hd kk
theorem uw_X1_24 : Cond.fieldLink RX1 24 "BandMill$Coding" "low" "I" ∈ uW := uW_of (by decide +kernel) rfl
theorem rw_X1_24 {a cb ch cs cd : Nat} (C : cX z p m c cc nL s args RX1) (h : hH z v sc ar s H locs) (hw : cdW v a cb ch cs cd) (hd : decode cc pc = .ok (.getfield 24, 3)) (kk : W p l e R s m args below meth c H locs cells slots Q (F0 m (pc + 3) ls (.int (nI (256 - ch)) :: rest))) : W p l e R s m args below meth c H locs cells slots Q (F0 m pc ls (.ref a :: rest)) :=
  rgP (k := 5) (T := TX1) C h hw.1 hw.2.1 rfl (by decide) iX1 uw_X1_24 (fun _ q => q) rfl hd kk
end POOL
