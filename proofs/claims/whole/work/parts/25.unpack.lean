/-! BandMill: reading back, the best run, feeding. -/
theorem ukc : Cond.methodLink RX9 119 arraycopyName ∈ uW := uW_of (by decide +kernel) rfl
theorem ukn : Cond.native arraycopyName ∈ uW := uW_of (by decide +kernel) rfl
theorem uks : Cond.static arraycopyName ∈ uW := uW_of (by decide +kernel) rfl
theorem uky : Cond.initialized "java/lang/System" ∈ uW := uW_of (by decide +kernel) rfl
theorem uk54 : Cond.classLink RX9 54 RX1 ∈ uW := uW_of (by decide +kernel) rfl
section CPY
variable {p : Program} {l : Launch} {e : Env} {R : Room} {s : State} {m : MethodId} {args : Array Value} {below : List Frame} {meth : Method} {c : Code} {H : Heap} {locs : List Loc} {cells slots : Nat} {Q : State → Prop}
variable {z : bZ} {v : bV} {sc : Nat → Int32} {ar : Nat → Nat → Int32} {cc : ByteArray} {nL : Nat} {own : String} {pc : Nat} {ls : Array Slot} {rest : List Value}
theorem rCpy {c0 : Nat} (hc : c0 ≤ 400) (C : cX z p m c cc nL s args RX9) (h : hH z v sc ar s H locs) (hl : ls.size = nL) (hfr : 1 ≤ R.frames) (hlo : (rest.map fun v => v.category).sum + 60 ≤ R.locals) (hd : decode cc pc = .ok (.invokestatic 119, 3))
    (kk : ∀ (H1 : Heap) (locs1 : List Loc), hH z v sc (va_up ar 12 (va_cpy (ar 13) (ar 12) 0 0 c0)) s H1 locs1 → W p l e R s m args below meth c H1 locs1 cells slots Q (F0 m (pc + 3) ls rest)) : W p l e R s m args below meth c H locs cells slots Q (F0 m pc ls (.int (nI c0) :: .int (nI 0) :: .ref (zad z 12) :: .int (nI 0) :: .ref (zad z 13) :: rest)) := by
  have e0 : (nI 0).toNatClampNeg = 0 := nI_clamp (by decide)
  have e1 : (nI c0).toNatClampNeg = c0 := nI_clamp (by omega)
  refine va_copyi (ws := gW z v sc ar) C.1.1 C.1.2.1 (C.1.2.2.1.trans hl.symm) C.1.2.2.2.1 (C.1.2.2.2.2 _ ukc) (C.1.2.2.2.2 _ ukn) (C.1.2.2.2.2 _ uks) (C.1.2.2.2.2 _ uky) C.2.1 h.1.1 h.1.2 h.2 13 12 1 1 (ty := .int) rfl rfl rfl rfl rfl (nI_pos (by decide)) (nI_pos (by decide)) (nI_pos (by omega)) (by rw [e0, e1]; omega) (by rw [e0, e1]; omega) (fun _ _ => rfl) hfr (Nat.le_trans (Nat.add_le_add_left (by decide +kernel) _) hlo) hd (fun H1 locs1 hP hD hS => ?_)
  rw [e0, e1] at hP hD
  exact kk H1 locs1 ⟨⟨hP, hD⟩, hS⟩
end CPY
/-- what reading leaves as it was -/
def rX (sc : Nat → Int32) (ar : Nat → Nat → Int32) (sc1 : Nat → Int32) (ar1 : Nat → Nat → Int32) : Prop := (∀ j, j ≠ 6 → j ≠ 7 → j ≠ 8 → sc1 j = sc j) ∧ ∀ k, k ≠ 13 → ¬ (19 ≤ k ∧ k < 27) → ar1 k = ar k
def uO (v : bV) (sc : Nat → Int32) (ar : Nat → Nat → Int32) (n rf c0 : Nat) (o : RdR) (r : Int32) (u : bS) : Prop := match o with
  | .inr (f, q) => ∃ sc1 ar1, rX sc ar sc1 ar1 ∧ r = -(nI f) ∧ u = (v, va_up sc1 2 (nI q), ar1)
  | .inl (xs, e) => ∃ sc1 ar1 g, rX sc ar sc1 ar1 ∧ r = nI (e - rf) ∧ rf ≤ e ∧ e ≤ n ∧ xs.length = c0 ∧ u = (v, va_up (va_up (va_up sc1 2 (-1)) 1 (nI c0)) 4 (nI e), va_up ar1 12 g) ∧ ∀ i, i < c0 → g i = xs.getD i 0
theorem gv_X9_108 : GoodIn uW (wsV RX9 108 RX7 yX7_startReading (Cond.code yX7_startReading cX7_startReading 1 none :: uW)) := gI_V (uW_of (by decide +kernel) rfl) (uW_of (by decide +kernel) rfl) (uW_of (by decide +kernel) rfl) (uW_of (by decide +kernel) rfl) (uW_of (by decide +kernel) rfl)
theorem gv_X9_108_n : okN yX7_startReading 0 := by decide +kernel
theorem gv_X9_125 : GoodIn uW (wsV RX9 125 RX7 yX7_keepReading (Cond.code yX7_keepReading cX7_keepReading 2 (some .int) :: uW)) := gI_V (uW_of (by decide +kernel) rfl) (uW_of (by decide +kernel) rfl) (uW_of (by decide +kernel) rfl) (uW_of (by decide +kernel) rfl) (uW_of (by decide +kernel) rfl)
theorem gv_X9_125_n : okN yX7_keepReading 0 := by decide +kernel
set_option maxHeartbeats 4000000 in
set_option maxRecDepth 100000 in
theorem k_unpack (l : Launch) (z : bZ) (v : bV) (sc : Nat → Int32) (ar : Nat → Nat → Int32) (hl0 : l.stackTraces = false) (K N n rf : Nat) (wt : Nat → Nat → Nat) (dp wa : Nat → Nat) (y x : Int32) (hK : sc 0 = nI K) (hK4 : K ≤ 40) (hw : ∀ j, j < K → v.1 j = some (wa j)) (hWT : WT v wt dp wa K) (hn : sc 3 = nI n) (hn8 : n ≤ 8000) (hN : sc 1 = nI N) (hN4 : N ≤ 400) (hf : sc 4 = nI rf) (hrf : rf ≤ n) : vx_Met l yX9_unpack (Cond.code yX9_unpack cX9_unpack 5 (some .int) :: uW) { frames := 25, cells := 2, slots := 12, locals := 370 } (pC z v sc ar [.ref (zad z 0), .int (y), .int (x)]) (qI z (fun r u => ∃ j c0, j < K ∧ y = nI j ∧ c0 ≤ 400 ∧ x = nI c0 ∧ uO v sc ar n rf c0 (RD wt dp (bN (ar 11)) n j c0 rf) r u)) (xX z (fun E u => E = xIA ∧ u = (v, sc, ar) ∧ ¬ (isW K y ∧ inR 0 400 x))) 2 12 (zA z) := by
  refine eX (by decide) (Nat.le_of_ble_eq_true rfl) ?_
  intro pP eE s mM below meth cC ls C hr hlk hT h hl
  have hx := C.1.1
  have hb := C.1.2.1
  have hl : lv_has ls 5 [(0, .ref (zad z 0)), (1, .int (y)), (2, .int (x))] := hl
  refine lv_aload_n hx hb dX9_unpack_0 rfl (lv_at hl 0 rfl) ?_
  refine lv_iload_n hx hb dX9_unpack_1 rfl (lv_at hl 1 rfl) ?_
  refine xbR h (xrV (As := [.int (y)]) (rest := []) C h (k_wayAt l z v sc ar hl0 K wa y hK hK4 hw) gv_X9_63 gv_X9_63_n ⟨rfl, rfl⟩ (r_BM C h) rfl hl.1 rfl (Nat.le_of_ble_eq_true rfl) dX9_unpack_2 ⟨Nat.le_of_ble_eq_true rfl, Nat.le_of_ble_eq_true rfl⟩ ⟨Nat.le_of_ble_eq_true rfl, Nat.le_of_ble_eq_true rfl⟩) (fun E' ce' q' v' sc' ar' H' locs' hp' h' c1' c2' c3' => xOut hT hlk h' c1' c2' c3' (Nat.le_of_ble_eq_true rfl) (Nat.le_of_ble_eq_true rfl) (⟨hp'.1, hp'.2.1, fun g => hp'.2.2 g.1⟩)) (fun r_2 v_2 sc_2 ar_2 H locs p_2 h => ?_)
  have h : hH z v sc ar s H locs := uEq p_2.1 h
  obtain ⟨j, hj, rfl, rfl⟩ := p_2.2
  refine lv_astore_n (lv' := [(3, .ref (wa j)), (0, .ref (zad z 0)), (1, .int (nI (j))), (2, .int (x))]) hx hb dX9_unpack_5 rfl hl (by decide) rfl (fun ls hl => ?_)
  refine lv_iload_n hx hb dX9_unpack_6 rfl (lv_at hl 3 rfl) ?_
  refine lv_iconst (v := nI (0)) hx hb dX9_unpack_7 (by decide) ?_
  refine lv_sipush (v := nI (400)) hx hb dX9_unpack_8 (by decide) ?_
  refine xbV h (xrS (As := [.int (x), .int (nI (0)), .int (nI (400))]) (rest := []) C h (k_checkRange l z v sc ar hl0 x (nI 0) (nI 400)) gv_X9_46 gv_X9_46_n ⟨rfl, rfl⟩ rfl hl.1 rfl (Nat.le_of_ble_eq_true rfl) dX9_unpack_11 ⟨Nat.le_of_ble_eq_true rfl, Nat.le_of_ble_eq_true rfl⟩ ⟨Nat.le_of_ble_eq_true rfl, Nat.le_of_ble_eq_true rfl⟩) (fun E' ce' q' v' sc' ar' H' locs' hp' h' c1' c2' c3' => xOut hT hlk h' c1' c2' c3' (Nat.le_of_ble_eq_true rfl) (Nat.le_of_ble_eq_true rfl) (⟨hp'.1, hp'.2.1, fun g => rNo (by decide) (by decide) hp'.2.2 g.2⟩)) (fun v_11 sc_11 ar_11 H locs p_11 h => ?_)
  have h : hH z v sc ar s H locs := uEq p_11.1 h
  obtain ⟨c0, c0l, c0h, rfl⟩ := rIn (lo := 0) (hi := 400) (by decide) (by decide) p_11.2.1 p_11.2.2
  have hd4 := dpLe hWT hj
  refine lv_aload_n hx hb dX9_unpack_14 rfl (lv_at hl 1 rfl) ?_
  refine rg_X9_32 C h dX9_unpack_15 ?_
  refine rg_X9_99 C h dX9_unpack_18 ?_
  refine lv_astore (lv' := [(4, .ref (zad z 2)), (3, .ref (wa j)), (0, .ref (zad z 0)), (1, .int (nI (j))), (2, .int (nI (c0)))]) hx hb dX9_unpack_21 hl (by decide) rfl (fun ls hl => ?_)
  refine lv_aload hx hb dX9_unpack_23 (lv_at hl 0 rfl) ?_
  refine backV h (runV (As := []) (rest := []) C h (k_startReading l z v sc ar ) gv_X9_108 gv_X9_108_n ⟨rfl, rfl⟩ (r_Tape C h) rfl hl.1 rfl (Nat.le_of_ble_eq_true rfl) dX9_unpack_25 ⟨Nat.le_of_ble_eq_true rfl, Nat.le_of_ble_eq_true rfl⟩ ⟨Nat.le_of_ble_eq_true rfl, Nat.le_of_ble_eq_true rfl⟩) (fun v_25 sc_25 ar_25 H locs p_25 h => ?_)
  have h : hH z v (va_up sc 6 (sc 4)) ar s H locs := uEq p_25 h
  refine lv_aload_n hx hb dX9_unpack_28 rfl (lv_at hl 1 rfl) ?_
  refine lv_aload_n hx hb dX9_unpack_29 rfl (lv_at hl 2 rfl) ?_
  refine rg_X9_32 C h dX9_unpack_30 ?_
  refine lv_aload_n hx hb dX9_unpack_33 rfl (lv_at hl 2 rfl) ?_
  refine rg_X9_26 C h dX9_unpack_34 ?_
  refine lv_iconst (v := nI (0)) hx hb dX9_unpack_37 (by decide) ?_
  refine lv_iload_n hx hb dX9_unpack_38 rfl (lv_at hl 4 rfl) ?_
  refine vcR (i := j) (n := n) (p0 := rf) (k := 13) (fr := 0) (cnt := c0) C h gu_X9_111_X1 gu_X9_111_X5 gu_X9_111_X4 hWT hj (all_read l z v wt dp wa K hWT j hj) ⟨hn, hn8, hf, hrf, ⟨rfl, by decide, by decide, by decide, by decide, by decide, by omega, by omega⟩, by show 0 + c0 ≤ 400; omega, c0h⟩ hl.1 (Nat.le_of_ble_eq_true rfl) dX9_unpack_39 ⟨Nat.le_trans (show 4 * dp j + 9 ≤ 25 by omega) (Nat.le_of_ble_eq_true rfl), Nat.le_trans (show 60 * dp j + 130 ≤ 370 by omega) (Nat.le_of_ble_eq_true rfl)⟩ (Nat.le_of_ble_eq_true rfl) (Nat.le_of_ble_eq_true rfl) (fun r_39 sc1 ar1 H locs hS hO h => ?_)
  have hX : rX sc ar sc1 ar1 := ⟨fun q a b c => (hS.1 q a b c).trans (va_up_ne _ _ a), fun k a b => hS.2 k a (by omega) (by omega)⟩
  rcases ho : RD wt dp (bN (ar 11)) n j c0 rf with ⟨xs, e0⟩ | ⟨f0, q0⟩
  · skip
    have hO : rO 13 0 ar sc1 ar1 (.inl (xs, e0)) r_39 := by rw [← ho]; exact hO
    obtain ⟨e1, e6, ek⟩ := hO
    obtain ⟨bl, bp, bn⟩ := RD_bd (bN_lt _) _ (WT_ok hWT hj) _ _ _ _ ho
    have bn := bn hrf
    refine tI (y := nI 1) e1 ?_
    refine zN_ne (tgt := 61) (a := 1) C (by decide) dX9_unpack_42 (by decide) (fun _ => ?_) (fun q => absurd q (by decide))
    refine lv_aload_n hx hb dX9_unpack_61 rfl (lv_at hl 2 rfl) ?_
    refine lv_iconst (v := (-1)) hx hb dX9_unpack_62 (by decide) ?_
    refine rp_X9_43 C h dX9_unpack_63 (fun H locs h => ?_)
    refine lv_aload_n hx hb dX9_unpack_66 rfl (lv_at hl 2 rfl) ?_
    refine rg_X9_26 C h dX9_unpack_67 ?_
    refine lv_iconst (v := nI (0)) hx hb dX9_unpack_70 (by decide) ?_
    refine lv_aload_n hx hb dX9_unpack_71 rfl (lv_at hl 2 rfl) ?_
    refine rg_X9_19 C h dX9_unpack_72 ?_
    refine lv_iconst (v := nI (0)) hx hb dX9_unpack_75 (by decide) ?_
    refine lv_iload_n hx hb dX9_unpack_76 rfl (lv_at hl 4 rfl) ?_
    refine rCpy (c0 := c0) c0h C h hl.1 (Nat.le_of_ble_eq_true rfl) (Nat.le_of_ble_eq_true rfl) dX9_unpack_77 (fun H locs h => ?_)
    refine lv_aload_n hx hb dX9_unpack_80 rfl (lv_at hl 2 rfl) ?_
    refine lv_iload_n hx hb dX9_unpack_81 rfl (lv_at hl 4 rfl) ?_
    refine rp_X9_23 C h dX9_unpack_82 (fun H locs h => ?_)
    refine lv_aload hx hb dX9_unpack_85 (lv_at hl 0 rfl) ?_
    refine backI h (runV (As := []) (rest := []) C h (k_keepReading l z v (va_up (va_up sc1 2 ((-1))) 1 (nI (c0))) (va_up ar1 12 (va_cpy (ar1 13) (ar1 12) 0 0 c0)) rf e0 ((hX.1 4 (by decide) (by decide) (by decide)).trans hf) e6 bp) gv_X9_125 gv_X9_125_n ⟨rfl, rfl⟩ (r_Tape C h) rfl hl.1 rfl (Nat.le_of_ble_eq_true rfl) dX9_unpack_87 ⟨Nat.le_of_ble_eq_true rfl, Nat.le_of_ble_eq_true rfl⟩ ⟨Nat.le_of_ble_eq_true rfl, Nat.le_of_ble_eq_true rfl⟩) (fun r_87 v_87 sc_87 ar_87 H locs p_87 h => ?_)
    have h : hH z v (va_up (va_up (va_up sc1 2 ((-1))) 1 (nI (c0))) 4 (nI (e0))) (va_up ar1 12 (va_cpy (ar1 13) (ar1 12) 0 0 c0)) s H locs := uEq p_87.2 h
    refine tI (y := nI (e0 - rf)) p_87.1 ?_
    exact vx_ret (rI C hr hlk h dX9_unpack_90 (Nat.le_of_ble_eq_true rfl) (Nat.le_of_ble_eq_true rfl) (⟨j, c0, hj, rfl, c0h, rfl, by rw [ho]; exact ⟨sc1, ar1, _, hX, rfl, bp, bn, bl, rfl, fun i hi => by rw [pk_cpy_in (Nat.zero_le _) (by omega), ek]; unfold wrR; rw [if_pos (by omega)]; congr 1; omega⟩⟩))
  · skip
    have hO : rO 13 0 ar sc1 ar1 (.inr (f0, q0)) r_39 := by rw [← ho]; exact hO
    obtain ⟨e1, e7, e8⟩ := hO
    refine tI (y := nI 0) e1 ?_
    refine zN_ne (tgt := 61) (a := 0) C (by decide) dX9_unpack_42 (by decide) (fun q => absurd q (by decide)) (fun _ => ?_)
    refine lv_aload_n hx hb dX9_unpack_45 rfl (lv_at hl 2 rfl) ?_
    refine lv_aload hx hb dX9_unpack_46 (lv_at hl 0 rfl) ?_
    refine rg_X9_115 C h dX9_unpack_48 ?_
    refine tI (y := nI (q0)) e8 ?_
    refine rp_X9_43 C h dX9_unpack_51 (fun H locs h => ?_)
    refine lv_aload hx hb dX9_unpack_54 (lv_at hl 0 rfl) ?_
    refine rg_X9_116 C h dX9_unpack_56 ?_
    refine tI (y := nI (f0)) e7 ?_
    refine lv_ineg hx hb dX9_unpack_59 ?_
    exact vx_ret (rI C hr hlk h dX9_unpack_60 (Nat.le_of_ble_eq_true rfl) (Nat.le_of_ble_eq_true rfl) (⟨j, c0, hj, rfl, c0h, rfl, by rw [ho]; exact ⟨sc1, ar1, hX, rfl, rfl⟩⟩))
/-- byte i of four -/
def fB (x : Int32) (i : Nat) : Nat := x.toBitVec.toNat / 2 ^ (24 - 8 * i) % 256
theorem bn8 (x : Int32) : x.toInt8.toInt32.toBitVec.toNat % 256 = x.toBitVec.toNat % 256 := by
  have h1 : x.toInt8.toInt32 &&& 255 = nI (x.toInt8.toInt32.toBitVec.toNat % 256) := pk_and _ 8 (by decide)
  have h2 : x &&& 255 = nI (x.toBitVec.toNat % 256) := pk_and _ 8 (by decide)
  have h3 : x.toInt8.toInt32 &&& 255 = x &&& 255 := by
    apply Int32.toBitVec_inj.mp
    simp only [Int32.toBitVec_and, Int8.toBitVec_toInt32, Int32.toBitVec_toInt8]
    apply BitVec.eq_of_getLsbD_eq
    intro i hi
    simp only [BitVec.getLsbD_and, BitVec.getLsbD_signExtend, BitVec.getLsbD_setWidth]
    by_cases h8 : i < 8
    · simp [h8, hi]
    · have : (Int32.toBitVec 255).getLsbD i = false := by
        rw [show Int32.toBitVec 255 = BitVec.ofNat 32 255 from rfl, BitVec.getLsbD_ofNat]
        simp only [Bool.and_eq_false_iff]
        right
        rw [show (255 : Nat) = 2 ^ 8 - 1 from rfl, Nat.testBit_two_pow_sub_one]
        simpa using h8
      rw [this, Bool.and_false, Bool.and_false]
  rw [h1, h2] at h3
  exact (nI_eq (by omega) (by omega)).mp h3
theorem fB_of (x : Int32) (i k : Nat) (hk : 24 - 8 * i = k) (hs : (((nI k).toUInt32 &&& Int32.toUInt32 31).toBitVec % 32).toNat = k) : (x.toUInt32 >>> ((nI k).toUInt32 &&& Int32.toUInt32 31)).toInt32.toInt8.toInt32.toBitVec.toNat % 256 = fB x i := by
  rw [bn8, pk_ushr x (nI k) k hs]
  unfold fB
  rw [hk]
theorem feedB {f : Nat → Int32} {n : Nat} {x : Int32} : ∀ i, i < 4 → bN (upd (upd (upd (upd f (n + 0) (x.toUInt32 >>> ((nI 24).toUInt32 &&& Int32.toUInt32 31)).toInt32.toInt8.toInt32) (n + 1) (x.toUInt32 >>> ((nI 16).toUInt32 &&& Int32.toUInt32 31)).toInt32.toInt8.toInt32) (n + 2) (x.toUInt32 >>> ((nI 8).toUInt32 &&& Int32.toUInt32 31)).toInt32.toInt8.toInt32) (n + 3) (x.toUInt32 >>> ((nI 0).toUInt32 &&& Int32.toUInt32 31)).toInt32.toInt8.toInt32) (n + i) = fB x i := by
  intro i hi
  have hi4 : i = 0 ∨ i = 1 ∨ i = 2 ∨ i = 3 := by omega
  unfold bN
  rcases hi4 with rfl | rfl | rfl | rfl
  · rw [pk_un (by omega), pk_un (by omega), pk_un (by omega), pk_us]; exact fB_of x 0 24 rfl rfl
  · rw [pk_un (by omega), pk_un (by omega), pk_us]; exact fB_of x 1 16 rfl rfl
  · rw [pk_un (by omega), pk_us]; exact fB_of x 2 8 rfl rfl
  · rw [pk_us]; exact fB_of x 3 0 rfl rfl
theorem gv_X9_159 : GoodIn uW (wsV RX9 159 RX7 yX7_draft (Cond.code yX7_draft cX7_draft 3 none :: uW)) := gI_V (uW_of (by decide +kernel) rfl) (uW_of (by decide +kernel) rfl) (uW_of (by decide +kernel) rfl) (uW_of (by decide +kernel) rfl) (uW_of (by decide +kernel) rfl)
theorem gv_X9_159_n : okN yX7_draft 1 := by decide +kernel
set_option maxHeartbeats 4000000 in
set_option maxRecDepth 100000 in
theorem k_feed (l : Launch) (z : bZ) (v : bV) (sc : Nat → Int32) (ar : Nat → Nat → Int32) (hl0 : l.stackTraces = false) (n : Nat) (x : Int32) (hn : sc 3 = nI n) (hn8 : n ≤ 8000) : vx_Met l yX9_feed (Cond.code yX9_feed cX9_feed 4 (some .int) :: uW) { frames := 7, cells := 1, slots := 6, locals := 111 } (pC z v sc ar [.ref (zad z 0), .int (x)]) (qI z (fun r u => n + 4 ≤ 8000 ∧ r = nI (n + 4) ∧ ∃ g, u = (v, va_up (va_up (va_up sc 5 (nI (3 + 1))) 3 (nI (n + 4))) 5 (nI 0), va_up ar 11 g) ∧ (∀ j, j < n → g j = ar 11 j) ∧ ∀ i, i < 4 → bN g (n + i) = fB x i)) (xX z (fun E u => E = xIS ∧ u = (v, sc, ar) ∧ 8000 < n + 4)) 1 6 (zA z) := by
  refine eX (by decide) (Nat.le_of_ble_eq_true rfl) ?_
  intro pP eE s mM below meth cC ls C hr hlk hT h hl
  have hx := C.1.1
  have hb := C.1.2.1
  have hl : lv_has ls 4 [(0, .ref (zad z 0)), (1, .int (x))] := hl
  refine lv_aload_n hx hb dX9_feed_0 rfl (lv_at hl 0 rfl) ?_
  refine lv_iconst (v := nI (4)) hx hb dX9_feed_1 (by decide) ?_
  refine xbV h (xrV (As := [.int (nI (4))]) (rest := []) C h (k_checkRoomOnTape l z v sc ar hl0 n 4 hn hn8 (by decide)) gv_X9_96 gv_X9_96_n ⟨rfl, rfl⟩ (r_BM C h) rfl hl.1 rfl (Nat.le_of_ble_eq_true rfl) dX9_feed_2 ⟨Nat.le_of_ble_eq_true rfl, Nat.le_of_ble_eq_true rfl⟩ ⟨Nat.le_of_ble_eq_true rfl, Nat.le_of_ble_eq_true rfl⟩) (fun E' ce' q' v' sc' ar' H' locs' hp' h' c1' c2' c3' => xOut hT hlk h' c1' c2' c3' (Nat.le_of_ble_eq_true rfl) (Nat.le_of_ble_eq_true rfl) (hp')) (fun v_2 sc_2 ar_2 H locs p_2 h => ?_)
  have h : hH z v sc ar s H locs := uEq p_2.1 h
  have hle := p_2.2
  refine lv_aload_n hx hb dX9_feed_5 rfl (lv_at hl 0 rfl) ?_
  refine rg_X9_32 C h dX9_feed_6 ?_
  refine rg_X9_99 C h dX9_feed_9 ?_
  refine lv_astore_n (lv' := [(2, .ref (zad z 2)), (0, .ref (zad z 0)), (1, .int (x))]) hx hb dX9_feed_12 rfl hl (by decide) rfl (fun ls hl => ?_)
  refine lv_aload_n hx hb dX9_feed_13 rfl (lv_at hl 0 rfl) ?_
  refine backV h (runV (As := []) (rest := []) C h (k_startDraft l z v sc ar ) gv_X9_156 gv_X9_156_n ⟨rfl, rfl⟩ (r_Tape C h) rfl hl.1 rfl (Nat.le_of_ble_eq_true rfl) dX9_feed_14 ⟨Nat.le_of_ble_eq_true rfl, Nat.le_of_ble_eq_true rfl⟩ ⟨Nat.le_of_ble_eq_true rfl, Nat.le_of_ble_eq_true rfl⟩) (fun v_14 sc_14 ar_14 H locs p_14 h => ?_)
  have h : hH z v (va_up sc 5 (nI (0))) ar s H locs := uEq p_14 h
  refine lv_bipush (v := nI (24)) hx hb dX9_feed_17 (by decide) ?_
  refine lv_istore_n (lv' := [(3, .int (nI (24))), (2, .ref (zad z 2)), (0, .ref (zad z 0)), (1, .int (x))]) hx hb dX9_feed_19 rfl hl (by decide) rfl (fun ls hl => ?_)
  refine lv_iload_n hx hb dX9_feed_20 rfl (lv_at hl 0 rfl) ?_
  refine zN_lt (tgt := 37) (a := 24) C (by decide) dX9_feed_21 (by decide) ?_
  refine lv_aload_n hx hb dX9_feed_24 rfl (lv_at hl 1 rfl) ?_
  refine lv_iload_n hx hb dX9_feed_25 rfl (lv_at hl 3 rfl) ?_
  refine lv_iload_n hx hb dX9_feed_26 rfl (lv_at hl 0 rfl) ?_
  refine lv_iushr (v := (x.toUInt32 >>> ((nI 24).toUInt32 &&& Int32.toUInt32 31)).toInt32) hx hb dX9_feed_27 rfl ?_
  refine backV h (runV (As := [.int ((x.toUInt32 >>> ((nI 24).toUInt32 &&& Int32.toUInt32 31)).toInt32)]) (rest := []) C h (k_draft l z v (va_up sc 5 (nI (0))) ar n 0 ((x.toUInt32 >>> ((nI 24).toUInt32 &&& Int32.toUInt32 31)).toInt32) hn hn8 rfl (by decide)) gv_X9_159 gv_X9_159_n ⟨rfl, rfl⟩ (r_Tape C h) rfl hl.1 rfl (Nat.le_of_ble_eq_true rfl) dX9_feed_28 ⟨Nat.le_of_ble_eq_true rfl, Nat.le_of_ble_eq_true rfl⟩ ⟨Nat.le_of_ble_eq_true rfl, Nat.le_of_ble_eq_true rfl⟩) (fun v_28 sc_28 ar_28 H locs p_28 h => ?_)
  rw [if_pos (by omega)] at p_28
  rw [va_uu] at p_28
  have h : hH z v (va_up sc 5 (nI (0 + 1))) (va_up ar 11 (upd (ar 11) (n + 0) ((x.toUInt32 >>> ((nI 24).toUInt32 &&& Int32.toUInt32 31)).toInt32.toInt8.toInt32))) s H locs := uEq p_28 h
  refine lv_iinc (v := nI (16)) (lv' := [(3, .int (nI (16))), (2, .ref (zad z 2)), (0, .ref (zad z 0)), (1, .int (x))]) hx hb dX9_feed_31 hl (k := 0) rfl (by decide) (by decide) rfl (fun ls hl => ?_)
  refine lv_goto (tgt := 20) hx hb dX9_feed_34 (by decide) ?_
  refine lv_iload_n hx hb dX9_feed_20 rfl (lv_at hl 0 rfl) ?_
  refine zN_lt (tgt := 37) (a := 16) C (by decide) dX9_feed_21 (by decide) ?_
  refine lv_aload_n hx hb dX9_feed_24 rfl (lv_at hl 1 rfl) ?_
  refine lv_iload_n hx hb dX9_feed_25 rfl (lv_at hl 3 rfl) ?_
  refine lv_iload_n hx hb dX9_feed_26 rfl (lv_at hl 0 rfl) ?_
  refine lv_iushr (v := (x.toUInt32 >>> ((nI 16).toUInt32 &&& Int32.toUInt32 31)).toInt32) hx hb dX9_feed_27 rfl ?_
  refine backV h (runV (As := [.int ((x.toUInt32 >>> ((nI 16).toUInt32 &&& Int32.toUInt32 31)).toInt32)]) (rest := []) C h (k_draft l z v (va_up sc 5 (nI (0 + 1))) (va_up ar 11 (upd (ar 11) (n + 0) ((x.toUInt32 >>> ((nI 24).toUInt32 &&& Int32.toUInt32 31)).toInt32.toInt8.toInt32))) n 1 ((x.toUInt32 >>> ((nI 16).toUInt32 &&& Int32.toUInt32 31)).toInt32) hn hn8 rfl (by decide)) gv_X9_159 gv_X9_159_n ⟨rfl, rfl⟩ (r_Tape C h) rfl hl.1 rfl (Nat.le_of_ble_eq_true rfl) dX9_feed_28 ⟨Nat.le_of_ble_eq_true rfl, Nat.le_of_ble_eq_true rfl⟩ ⟨Nat.le_of_ble_eq_true rfl, Nat.le_of_ble_eq_true rfl⟩) (fun v_28 sc_28 ar_28 H locs p_28 h => ?_)
  rw [if_pos (by omega)] at p_28
  rw [va_uu, va_up_self, va_uu] at p_28
  have h : hH z v (va_up sc 5 (nI (1 + 1))) (va_up ar 11 (upd (upd (ar 11) (n + 0) ((x.toUInt32 >>> ((nI 24).toUInt32 &&& Int32.toUInt32 31)).toInt32.toInt8.toInt32)) (n + 1) ((x.toUInt32 >>> ((nI 16).toUInt32 &&& Int32.toUInt32 31)).toInt32.toInt8.toInt32))) s H locs := uEq p_28 h
  refine lv_iinc (v := nI (8)) (lv' := [(3, .int (nI (8))), (2, .ref (zad z 2)), (0, .ref (zad z 0)), (1, .int (x))]) hx hb dX9_feed_31 hl (k := 0) rfl (by decide) (by decide) rfl (fun ls hl => ?_)
  refine lv_goto (tgt := 20) hx hb dX9_feed_34 (by decide) ?_
  refine lv_iload_n hx hb dX9_feed_20 rfl (lv_at hl 0 rfl) ?_
  refine zN_lt (tgt := 37) (a := 8) C (by decide) dX9_feed_21 (by decide) ?_
  refine lv_aload_n hx hb dX9_feed_24 rfl (lv_at hl 1 rfl) ?_
  refine lv_iload_n hx hb dX9_feed_25 rfl (lv_at hl 3 rfl) ?_
  refine lv_iload_n hx hb dX9_feed_26 rfl (lv_at hl 0 rfl) ?_
  refine lv_iushr (v := (x.toUInt32 >>> ((nI 8).toUInt32 &&& Int32.toUInt32 31)).toInt32) hx hb dX9_feed_27 rfl ?_
  refine backV h (runV (As := [.int ((x.toUInt32 >>> ((nI 8).toUInt32 &&& Int32.toUInt32 31)).toInt32)]) (rest := []) C h (k_draft l z v (va_up sc 5 (nI (1 + 1))) (va_up ar 11 (upd (upd (ar 11) (n + 0) ((x.toUInt32 >>> ((nI 24).toUInt32 &&& Int32.toUInt32 31)).toInt32.toInt8.toInt32)) (n + 1) ((x.toUInt32 >>> ((nI 16).toUInt32 &&& Int32.toUInt32 31)).toInt32.toInt8.toInt32))) n 2 ((x.toUInt32 >>> ((nI 8).toUInt32 &&& Int32.toUInt32 31)).toInt32) hn hn8 rfl (by decide)) gv_X9_159 gv_X9_159_n ⟨rfl, rfl⟩ (r_Tape C h) rfl hl.1 rfl (Nat.le_of_ble_eq_true rfl) dX9_feed_28 ⟨Nat.le_of_ble_eq_true rfl, Nat.le_of_ble_eq_true rfl⟩ ⟨Nat.le_of_ble_eq_true rfl, Nat.le_of_ble_eq_true rfl⟩) (fun v_28 sc_28 ar_28 H locs p_28 h => ?_)
  rw [if_pos (by omega)] at p_28
  rw [va_uu, va_up_self, va_uu] at p_28
  have h : hH z v (va_up sc 5 (nI (2 + 1))) (va_up ar 11 (upd (upd (upd (ar 11) (n + 0) ((x.toUInt32 >>> ((nI 24).toUInt32 &&& Int32.toUInt32 31)).toInt32.toInt8.toInt32)) (n + 1) ((x.toUInt32 >>> ((nI 16).toUInt32 &&& Int32.toUInt32 31)).toInt32.toInt8.toInt32)) (n + 2) ((x.toUInt32 >>> ((nI 8).toUInt32 &&& Int32.toUInt32 31)).toInt32.toInt8.toInt32))) s H locs := uEq p_28 h
  refine lv_iinc (v := nI (0)) (lv' := [(3, .int (nI (0))), (2, .ref (zad z 2)), (0, .ref (zad z 0)), (1, .int (x))]) hx hb dX9_feed_31 hl (k := 0) rfl (by decide) (by decide) rfl (fun ls hl => ?_)
  refine lv_goto (tgt := 20) hx hb dX9_feed_34 (by decide) ?_
  refine lv_iload_n hx hb dX9_feed_20 rfl (lv_at hl 0 rfl) ?_
  refine zN_lt (tgt := 37) (a := 0) C (by decide) dX9_feed_21 (by decide) ?_
  refine lv_aload_n hx hb dX9_feed_24 rfl (lv_at hl 1 rfl) ?_
  refine lv_iload_n hx hb dX9_feed_25 rfl (lv_at hl 3 rfl) ?_
  refine lv_iload_n hx hb dX9_feed_26 rfl (lv_at hl 0 rfl) ?_
  refine lv_iushr (v := (x.toUInt32 >>> ((nI 0).toUInt32 &&& Int32.toUInt32 31)).toInt32) hx hb dX9_feed_27 rfl ?_
  refine backV h (runV (As := [.int ((x.toUInt32 >>> ((nI 0).toUInt32 &&& Int32.toUInt32 31)).toInt32)]) (rest := []) C h (k_draft l z v (va_up sc 5 (nI (2 + 1))) (va_up ar 11 (upd (upd (upd (ar 11) (n + 0) ((x.toUInt32 >>> ((nI 24).toUInt32 &&& Int32.toUInt32 31)).toInt32.toInt8.toInt32)) (n + 1) ((x.toUInt32 >>> ((nI 16).toUInt32 &&& Int32.toUInt32 31)).toInt32.toInt8.toInt32)) (n + 2) ((x.toUInt32 >>> ((nI 8).toUInt32 &&& Int32.toUInt32 31)).toInt32.toInt8.toInt32))) n 3 ((x.toUInt32 >>> ((nI 0).toUInt32 &&& Int32.toUInt32 31)).toInt32) hn hn8 rfl (by decide)) gv_X9_159 gv_X9_159_n ⟨rfl, rfl⟩ (r_Tape C h) rfl hl.1 rfl (Nat.le_of_ble_eq_true rfl) dX9_feed_28 ⟨Nat.le_of_ble_eq_true rfl, Nat.le_of_ble_eq_true rfl⟩ ⟨Nat.le_of_ble_eq_true rfl, Nat.le_of_ble_eq_true rfl⟩) (fun v_28 sc_28 ar_28 H locs p_28 h => ?_)
  rw [if_pos (by omega)] at p_28
  rw [va_uu, va_up_self, va_uu] at p_28
  have h : hH z v (va_up sc 5 (nI (3 + 1))) (va_up ar 11 (upd (upd (upd (upd (ar 11) (n + 0) ((x.toUInt32 >>> ((nI 24).toUInt32 &&& Int32.toUInt32 31)).toInt32.toInt8.toInt32)) (n + 1) ((x.toUInt32 >>> ((nI 16).toUInt32 &&& Int32.toUInt32 31)).toInt32.toInt8.toInt32)) (n + 2) ((x.toUInt32 >>> ((nI 8).toUInt32 &&& Int32.toUInt32 31)).toInt32.toInt8.toInt32)) (n + 3) ((x.toUInt32 >>> ((nI 0).toUInt32 &&& Int32.toUInt32 31)).toInt32.toInt8.toInt32))) s H locs := uEq p_28 h
  refine lv_iinc (v := (-8)) (lv' := [(3, .int ((-8))), (2, .ref (zad z 2)), (0, .ref (zad z 0)), (1, .int (x))]) hx hb dX9_feed_31 hl (k := 0) rfl (by decide) (by decide) rfl (fun ls hl => ?_)
  refine lv_goto (tgt := 20) hx hb dX9_feed_34 (by decide) ?_
  refine lv_iload_n hx hb dX9_feed_20 rfl (lv_at hl 0 rfl) ?_
  refine lv_if_lt (tgt := 37) hx hb dX9_feed_21 (by decide) (fun c_21 => ?_) (fun c_21 => ?_)
  · skip
    refine lv_aload_n hx hb dX9_feed_37 rfl (lv_at hl 1 rfl) ?_
    refine backV h (runV (As := []) (rest := []) C h (k_keepDraft l z v (va_up sc 5 (nI (3 + 1))) (va_up ar 11 (upd (upd (upd (upd (ar 11) (n + 0) ((x.toUInt32 >>> ((nI 24).toUInt32 &&& Int32.toUInt32 31)).toInt32.toInt8.toInt32)) (n + 1) ((x.toUInt32 >>> ((nI 16).toUInt32 &&& Int32.toUInt32 31)).toInt32.toInt8.toInt32)) (n + 2) ((x.toUInt32 >>> ((nI 8).toUInt32 &&& Int32.toUInt32 31)).toInt32.toInt8.toInt32)) (n + 3) ((x.toUInt32 >>> ((nI 0).toUInt32 &&& Int32.toUInt32 31)).toInt32.toInt8.toInt32))) n 4 hn hn8 rfl (by decide)) gv_X9_103 gv_X9_103_n ⟨rfl, rfl⟩ (r_Tape C h) rfl hl.1 rfl (Nat.le_of_ble_eq_true rfl) dX9_feed_38 ⟨Nat.le_of_ble_eq_true rfl, Nat.le_of_ble_eq_true rfl⟩ ⟨Nat.le_of_ble_eq_true rfl, Nat.le_of_ble_eq_true rfl⟩) (fun v_38 sc_38 ar_38 H locs p_38 h => ?_)
    rw [Nat.min_eq_left hle] at p_38
    have h : hH z v (va_up (va_up (va_up sc 5 (nI (3 + 1))) 3 (nI (n + 4))) 5 (nI (0))) (va_up ar 11 (upd (upd (upd (upd (ar 11) (n + 0) ((x.toUInt32 >>> ((nI 24).toUInt32 &&& Int32.toUInt32 31)).toInt32.toInt8.toInt32)) (n + 1) ((x.toUInt32 >>> ((nI 16).toUInt32 &&& Int32.toUInt32 31)).toInt32.toInt8.toInt32)) (n + 2) ((x.toUInt32 >>> ((nI 8).toUInt32 &&& Int32.toUInt32 31)).toInt32.toInt8.toInt32)) (n + 3) ((x.toUInt32 >>> ((nI 0).toUInt32 &&& Int32.toUInt32 31)).toInt32.toInt8.toInt32))) s H locs := uEq p_38 h
    refine lv_aload_n hx hb dX9_feed_41 rfl (lv_at hl 1 rfl) ?_
    refine rg_X9_162 C h dX9_feed_42 ?_
    refine tI (y := nI (n + 4)) rfl ?_
    exact vx_ret (rI C hr hlk h dX9_feed_45 (Nat.le_of_ble_eq_true rfl) (Nat.le_of_ble_eq_true rfl) (⟨hle, rfl, _, rfl, fun j hj => by rw [pk_un (by omega), pk_un (by omega), pk_un (by omega), pk_un (by omega)], feedB⟩))
  · skip
    exact absurd (by decide) c_21
