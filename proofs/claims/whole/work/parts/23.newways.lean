/-! BandMill: new ways, and what they are. -/
def inR (lo hi : Nat) (x : Int32) : Prop := ∃ j, lo ≤ j ∧ j ≤ hi ∧ x = nI j
theorem rIn {lo hi : Nat} {x : Int32} (hh : hi < 2 ^ 31) (hlo : lo < 2 ^ 31) (h1 : ¬ x < nI lo) (h2 : ¬ nI hi < x) : inR lo hi x := by
  have h0 : ¬ x < 0 := fun q => h1 (by rw [Int32.lt_iff_toInt_lt] at q ⊢; rw [nI_toInt hlo]; exact Int.lt_of_lt_of_le q (Int.natCast_nonneg lo))
  obtain ⟨j, hj, rfl⟩ := nI_of h0
  rw [nI_ltI hj hlo] at h1
  rw [nI_ltI hh hj] at h2
  exact ⟨j, by omega, by omega, rfl⟩
theorem rNo {lo hi : Nat} {x : Int32} (hh : hi < 2 ^ 31) (hlo : lo < 2 ^ 31) (h : x < nI lo ∨ nI hi < x) : ¬ inR lo hi x := by
  rintro ⟨j, h1, h2, rfl⟩
  rcases h with h | h
  · rw [nI_ltI (by omega) hlo] at h; omega
  · rw [nI_ltI hh (by omega)] at h; omega
def cdGood (b h s d : Int32) : Prop := inR 1 5 b ∧ inR 1 256 h ∧ inR 0 2 s ∧ inR 0 1 d
def isW (K : Nat) (x : Int32) : Prop := ∃ j, j < K ∧ x = nI j
theorem dpLe {v : bV} {wt : Nat → Nat → Nat} {dp wa : Nat → Nat} {K i : Nat} (h : WT v wt dp wa K) (hi : i < K) : dp i ≤ 4 := by
  rcases (h i hi).2.2 with q | q | q
  · omega
  · exact q.2.2.2.2.2.2
  · exact q.2.2.2.2.2.2.2.2
/-- trait of way i -/
def trF (wt : Nat → Nat → Nat) (i q : Nat) : Int32 := if wt i 0 = 0 then nI (wt i (q + 1)) else -1
theorem ud_67 : Cond.fieldLink RX9 67 "BandMill$Way" "depth" "I" ∈ uW := uW_of (by decide +kernel) rfl
abbrev yWt : MethodName := ⟨"BandMill$Way", "trait", "(I)I"⟩
theorem okT : ("BandMill$Way" : String) ≠ "java/lang/invoke/MethodHandle" ∧ ("BandMill$Way" : String) ≠ "java/lang/invoke/VarHandle" ∧ (parseMethodDescriptor yWt.desc).map (fun d => d.parameters.length) = some 1 := by decide +kernel
theorem cwT : Cond.code yX8_trait cX8_trait 2 (some .int) ∈ uW := uW_of (by decide +kernel) rfl
theorem gt_X1 : GoodIn uW (va_wsO RX9 175 RX1 "BandMill$Way" yWt yX1_trait (Cond.code yX1_trait cX1_trait 2 (some .int) :: uW)) := gI_cons (uW_of (by decide +kernel) rfl) (gI_cons (uW_of (by decide +kernel) rfl) (gI_cons (uW_of (by decide +kernel) rfl) (gI_cons (uW_of (by decide +kernel) rfl) (gI_cons (uW_of (by decide +kernel) rfl) (gI_cons (uW_of (by decide +kernel) rfl) (gI_cons (uW_of (by decide +kernel) rfl) gI_all))))))
theorem gt_X5 : GoodIn uW (va_wsU RX9 175 RX5 "BandMill$Way" yWt yX8_trait (Cond.code yX8_trait cX8_trait 2 (some .int) :: uW)) := gI_cons (uW_of (by decide +kernel) rfl) (gI_cons (uW_of (by decide +kernel) rfl) (gI_cons (uW_of (by decide +kernel) rfl) (gI_cons (uW_of (by decide +kernel) rfl) (gI_cons (uW_of (by decide +kernel) rfl) (gI_cons (uW_of (by decide +kernel) rfl) gI_all)))))
theorem gt_X4 : GoodIn uW (va_wsU RX9 175 RX4 "BandMill$Way" yWt yX8_trait (Cond.code yX8_trait cX8_trait 2 (some .int) :: uW)) := gI_cons (uW_of (by decide +kernel) rfl) (gI_cons (uW_of (by decide +kernel) rfl) (gI_cons (uW_of (by decide +kernel) rfl) (gI_cons (uW_of (by decide +kernel) rfl) (gI_cons (uW_of (by decide +kernel) rfl) (gI_cons (uW_of (by decide +kernel) rfl) gI_all)))))
section WAYD
variable {p : Program} {l : Launch} {e : Env} {R : Room} {s : State} {m : MethodId} {args : Array Value} {below : List Frame} {meth : Method} {c : Code} {H : Heap} {locs : List Loc} {cells slots : Nat} {Q : State → Prop}
variable {z : bZ} {v : bV} {sc : Nat → Int32} {ar : Nat → Nat → Int32} {cc : ByteArray} {nL : Nat} {own : String} {pc : Nat} {ls : Array Slot} {rest : List Value}
theorem rDep {wt : Nat → Nat → Nat} {dp wa : Nat → Nat} {K i : Nat} (C : cX z p m c cc nL s args RX9) (h : hH z v sc ar s H locs) (hWT : WT v wt dp wa K) (hi : i < K) (hd : decode cc pc = .ok (.getfield 67, 3)) (kk : W p l e R s m args below meth c H locs cells slots Q (F0 m (pc + 3) ls (.int (nI (dp i)) :: rest))) : W p l e R s m args below meth c H locs cells slots Q (F0 m pc ls (.ref (wa i) :: rest)) := by
  rcases (hWT i hi).2.2 with q | q | q
  · obtain ⟨hcd, hdp⟩ := WT_cod hWT hi q.1
    rw [hdp] at kk
    exact rgP (k := 0) (T := TX1) C h hcd.1 hcd.2.1 rfl (by decide) iX1 ud_67 (fun _ q => q) rfl hd kk
  · obtain ⟨hrn, -⟩ := WT_run hWT hi q.1
    exact rgP (k := 0) (T := TX5) C h hrn.1 hrn.2 rfl (by decide) iX5 ud_67 (fun _ q => q) rfl hd kk
  · obtain ⟨hpo, -⟩ := WT_pop hWT hi q.1
    exact rgP (k := 0) (T := TX4) C h hpo.1 hpo.2 rfl (by decide) iX4 ud_67 (fun _ q => q) rfl hd kk
theorem vcT {wt : Nat → Nat → Nat} {dp wa : Nat → Nat} {K i q : Nat} (C : cX z p m c cc nL s args RX9) (h : hH z v sc ar s H locs) (hWT : WT v wt dp wa K) (hi : i < K) (hq : q ≤ 3) (hl : ls.size = nL) (hW : (rest.map fun v => v.category).sum ≤ 8) (hdg : decode cc pc = .ok (.invokevirtual 175, 3))
    (hR : 1 ≤ R.frames ∧ 21 ≤ R.locals) (hc : cells ≤ R.cells) (hs : slots ≤ R.slots)
    (kk : ∀ (H1 : Heap) (locs1 : List Loc), hH z v sc ar s H1 locs1 → W p l e R s m args below meth c H1 locs1 cells slots Q (F0 m (pc + 3) ls (.int (trF wt i q) :: rest))) :
    W p l e R s m args below meth c H locs cells slots Q (F0 m pc ls (.int (nI q) :: .ref (wa i) :: rest)) := by
  rcases (hWT i hi).2.2 with w | w | w
  · obtain ⟨hcd, hdp⟩ := WT_cod hWT hi w.1
    refine backI h (va_runU C.1 (k_trait l z v sc ar (wa i) (wt i 1) (wt i 2) (wt i 3) (wt i 4) (nI q) hcd) (va_cwO 1 C.1.2.2.2.2 gt_X1 rfl rfl rfl cwT okT ⟨by show 0 + 1 ≤ _; omega, by show 8 + (2 + 11) + 0 ≤ _; omega⟩) (preV (As := [.int (nI q)]) C h (rcvP C h hcd.1 hcd.2.1 rfl)) rfl rfl hl rfl (lv_room (m := m) (pc := pc) (ls := ls) (rest := _) hW) hdg ⟨hc, hs⟩) (fun r v1 sc1 ar1 H1 locs1 hp h1 => ?_)
    obtain ⟨e1, e2⟩ := hp
    have h2 := uEq e1 h1
    have e3 : r = trF wt i q := by
      unfold trF
      rw [if_pos w.1]
      have hne : ∀ a, a ≤ 3 → nI q = nI a → q = a := fun a ha e => (nI_eq (by omega) (by omega)).mp e
      rcases e2 with ⟨e, e'⟩ | ⟨e, e'⟩ | ⟨e, e'⟩ | ⟨e, e'⟩ | ⟨e, -⟩
      · rw [hne 0 (by omega) e, e']
      · rw [hne 1 (by omega) e, e']
      · rw [hne 2 (by omega) e, e']
      · rw [hne 3 (by omega) e, e']
      · exact absurd ⟨q, hq, rfl⟩ e
    rw [e3]
    exact kk H1 locs1 h2
  · obtain ⟨hrn, -⟩ := WT_run hWT hi w.1
    refine backI h (va_runU C.1 (k_traitN l z v sc ar (wa i) (nI q)) (va_cwU 1 C.1.2.2.2.2 gt_X5 rfl rfl rfl rfl okT ⟨by show 0 + 1 ≤ _; omega, by show 8 + (2 + 11) + 0 ≤ _; omega⟩) (preV (As := [.int (nI q)]) C h (rcvP C h hrn.1 hrn.2 rfl)) rfl rfl hl rfl (lv_room (m := m) (pc := pc) (ls := ls) (rest := _) hW) hdg ⟨hc, hs⟩) (fun r v1 sc1 ar1 H1 locs1 hp h1 => ?_)
    obtain ⟨e1, e2⟩ := hp
    rw [e2, show (-1 : Int32) = trF wt i q by unfold trF; rw [if_neg (by omega)]]
    exact kk H1 locs1 (uEq e1 h1)
  · obtain ⟨hpo, -⟩ := WT_pop hWT hi w.1
    refine backI h (va_runU C.1 (k_traitN l z v sc ar (wa i) (nI q)) (va_cwU 1 C.1.2.2.2.2 gt_X4 rfl rfl rfl rfl okT ⟨by show 0 + 1 ≤ _; omega, by show 8 + (2 + 11) + 0 ≤ _; omega⟩) (preV (As := [.int (nI q)]) C h (rcvP C h hpo.1 hpo.2 rfl)) rfl rfl hl rfl (lv_room (m := m) (pc := pc) (ls := ls) (rest := _) hW) hdg ⟨hc, hs⟩) (fun r v1 sc1 ar1 H1 locs1 hp h1 => ?_)
    obtain ⟨e1, e2⟩ := hp
    rw [e2, show (-1 : Int32) = trF wt i q by unfold trF; rw [if_neg (by omega)]]
    exact kk H1 locs1 (uEq e1 h1)
end WAYD
theorem gv_X9_50 : GoodIn uW (wsV RX9 50 RX9 yX9_checkRoomForWay (Cond.code yX9_checkRoomForWay cX9_checkRoomForWay 2 none :: uW)) := gI_V (uW_of (by decide +kernel) rfl) (uW_of (by decide +kernel) rfl) (uW_of (by decide +kernel) rfl) (uW_of (by decide +kernel) rfl) (uW_of (by decide +kernel) rfl)
theorem gv_X9_50_n : okN yX9_checkRoomForWay 1 := by decide +kernel
theorem un_X9_54 : Cond.classLink RX9 54 RX1 ∈ uW := uW_of (by decide +kernel) rfl
theorem uin_X1 : Cond.instantiable RX1 6 ∈ uW := uW_of (by decide +kernel) rfl
theorem uii_X1 : Cond.initialized RX1 ∈ uW := uW_of (by decide +kernel) rfl
theorem gv_X9_56 : GoodIn uW (Cond.code yX1_init cX1_init 5 none :: uW) := gI_cons (uW_of (by decide +kernel) rfl) gI_all
theorem gv_X9_56_k : Cond.methodLink RX9 56 yX1_init ∈ uW := (uW_of (by decide +kernel) rfl)
theorem gv_X9_56_i : Cond.instanceMethod yX1_init ∈ uW := (uW_of (by decide +kernel) rfl)
theorem gv_X9_56_o : Cond.initialized yX1_init.cls ∈ uW := (uW_of (by decide +kernel) rfl)
theorem gv_X9_56_n : okN yX1_init 4 := by decide +kernel
theorem gv_X9_59 : GoodIn uW (wsV RX9 59 RX9 yX9_addWay (Cond.code yX9_addWay cX9_addWay 2 (some .int) :: uW)) := gI_V (uW_of (by decide +kernel) rfl) (uW_of (by decide +kernel) rfl) (uW_of (by decide +kernel) rfl) (uW_of (by decide +kernel) rfl) (uW_of (by decide +kernel) rfl)
theorem gv_X9_59_n : okN yX9_addWay 1 := by decide +kernel
set_option maxHeartbeats 4000000 in
set_option maxRecDepth 100000 in
theorem k_coding (l : Launch) (z : bZ) (v : bV) (sc : Nat → Int32) (ar : Nat → Nat → Int32) (hl0 : l.stackTraces = false) (K : Nat) (b1 h1 s1 d1 : Int32) (hK : sc 0 = nI K) (hK4 : K ≤ 40) : vx_Met l yX9_coding (Cond.code yX9_coding cX9_coding 5 (some .int) :: uW) { frames := 7, cells := 9, slots := 60, locals := 112 } (pC z v sc ar [.ref (zad z 0), .int (b1), .int (h1), .int (s1), .int (d1)]) (qI z (fun r u => ∃ cb ch cs cd q, (b1 = nI cb ∧ 1 ≤ cb ∧ cb ≤ 5) ∧ (h1 = nI ch ∧ 1 ≤ ch ∧ ch ≤ 256) ∧ (s1 = nI cs ∧ cs ≤ 2) ∧ (d1 = nI cd ∧ cd ≤ 1) ∧ K < 40 ∧ r = nI K ∧ q ∉ v.2.2.1 ∧ u = ((va_up v.1 K (some q), v.2.1, v.2.2.1 ++ [q], va_up v.2.2.2 q (.inr (1, [.int (nI (0)), .int (nI (cb)), .int (nI (ch)), .int (nI (cs)), .int (nI (cd)), .int (nI ((256) - (ch)))]))), va_up sc 0 (nI (K + 1)), ar))) (xX z (fun E u => (E = xIA ∧ u = (v, sc, ar) ∧ ¬ cdGood b1 h1 s1 d1) ∨ (E = xIS ∧ u = (v, sc, ar) ∧ cdGood b1 h1 s1 d1 ∧ 40 ≤ K))) 9 60 (zA z) := by
  refine eX (by decide) (Nat.le_of_ble_eq_true rfl) ?_
  intro pP eE s mM below meth cC ls C hr hlk hT h hl
  have hx := C.1.1
  have hb := C.1.2.1
  have hl : lv_has ls 5 [(0, .ref (zad z 0)), (1, .int (b1)), (2, .int (h1)), (3, .int (s1)), (4, .int (d1))] := hl
  refine lv_iload_n hx hb dX9_coding_0 rfl (lv_at hl 1 rfl) ?_
  refine lv_iconst (v := nI (1)) hx hb dX9_coding_1 (by decide) ?_
  refine lv_iconst (v := nI (5)) hx hb dX9_coding_2 (by decide) ?_
  refine xbV h (xrS (As := [.int (b1), .int (nI (1)), .int (nI (5))]) (rest := []) C h (k_checkRange l z v sc ar hl0 b1 (nI 1) (nI 5)) gv_X9_46 gv_X9_46_n ⟨rfl, rfl⟩ rfl hl.1 rfl (Nat.le_of_ble_eq_true rfl) dX9_coding_3 ⟨Nat.le_of_ble_eq_true rfl, Nat.le_of_ble_eq_true rfl⟩ ⟨Nat.le_of_ble_eq_true rfl, Nat.le_of_ble_eq_true rfl⟩) (fun E' ce' q' v' sc' ar' H' locs' hp' h' c1' c2' c3' => xOut hT hlk h' c1' c2' c3' (Nat.le_of_ble_eq_true rfl) (Nat.le_of_ble_eq_true rfl) (Or.inl ⟨hp'.1, hp'.2.1, fun g => rNo (by decide) (by decide) hp'.2.2 g.1⟩)) (fun v_3 sc_3 ar_3 H locs p_3 h => ?_)
  have h : hH z v sc ar s H locs := uEq p_3.1 h
  obtain ⟨cb, cbl, cbh, rfl⟩ := rIn (lo := 1) (hi := 5) (by decide) (by decide) p_3.2.1 p_3.2.2
  refine lv_iload_n hx hb dX9_coding_6 rfl (lv_at hl 2 rfl) ?_
  refine lv_iconst (v := nI (1)) hx hb dX9_coding_7 (by decide) ?_
  refine lv_sipush (v := nI (256)) hx hb dX9_coding_8 (by decide) ?_
  refine xbV h (xrS (As := [.int (h1), .int (nI (1)), .int (nI (256))]) (rest := []) C h (k_checkRange l z v sc ar hl0 h1 (nI 1) (nI 256)) gv_X9_46 gv_X9_46_n ⟨rfl, rfl⟩ rfl hl.1 rfl (Nat.le_of_ble_eq_true rfl) dX9_coding_11 ⟨Nat.le_of_ble_eq_true rfl, Nat.le_of_ble_eq_true rfl⟩ ⟨Nat.le_of_ble_eq_true rfl, Nat.le_of_ble_eq_true rfl⟩) (fun E' ce' q' v' sc' ar' H' locs' hp' h' c1' c2' c3' => xOut hT hlk h' c1' c2' c3' (Nat.le_of_ble_eq_true rfl) (Nat.le_of_ble_eq_true rfl) (Or.inl ⟨hp'.1, hp'.2.1, fun g => rNo (by decide) (by decide) hp'.2.2 g.2.1⟩)) (fun v_11 sc_11 ar_11 H locs p_11 h => ?_)
  have h : hH z v sc ar s H locs := uEq p_11.1 h
  obtain ⟨ch, chl, chh, rfl⟩ := rIn (lo := 1) (hi := 256) (by decide) (by decide) p_11.2.1 p_11.2.2
  refine lv_iload_n hx hb dX9_coding_14 rfl (lv_at hl 3 rfl) ?_
  refine lv_iconst (v := nI (0)) hx hb dX9_coding_15 (by decide) ?_
  refine lv_iconst (v := nI (2)) hx hb dX9_coding_16 (by decide) ?_
  refine xbV h (xrS (As := [.int (s1), .int (nI (0)), .int (nI (2))]) (rest := []) C h (k_checkRange l z v sc ar hl0 s1 (nI 0) (nI 2)) gv_X9_46 gv_X9_46_n ⟨rfl, rfl⟩ rfl hl.1 rfl (Nat.le_of_ble_eq_true rfl) dX9_coding_17 ⟨Nat.le_of_ble_eq_true rfl, Nat.le_of_ble_eq_true rfl⟩ ⟨Nat.le_of_ble_eq_true rfl, Nat.le_of_ble_eq_true rfl⟩) (fun E' ce' q' v' sc' ar' H' locs' hp' h' c1' c2' c3' => xOut hT hlk h' c1' c2' c3' (Nat.le_of_ble_eq_true rfl) (Nat.le_of_ble_eq_true rfl) (Or.inl ⟨hp'.1, hp'.2.1, fun g => rNo (by decide) (by decide) hp'.2.2 g.2.2.1⟩)) (fun v_17 sc_17 ar_17 H locs p_17 h => ?_)
  have h : hH z v sc ar s H locs := uEq p_17.1 h
  obtain ⟨cs, csl, csh, rfl⟩ := rIn (lo := 0) (hi := 2) (by decide) (by decide) p_17.2.1 p_17.2.2
  refine lv_iload hx hb dX9_coding_20 (lv_at hl 4 rfl) ?_
  refine lv_iconst (v := nI (0)) hx hb dX9_coding_22 (by decide) ?_
  refine lv_iconst (v := nI (1)) hx hb dX9_coding_23 (by decide) ?_
  refine xbV h (xrS (As := [.int (d1), .int (nI (0)), .int (nI (1))]) (rest := []) C h (k_checkRange l z v sc ar hl0 d1 (nI 0) (nI 1)) gv_X9_46 gv_X9_46_n ⟨rfl, rfl⟩ rfl hl.1 rfl (Nat.le_of_ble_eq_true rfl) dX9_coding_24 ⟨Nat.le_of_ble_eq_true rfl, Nat.le_of_ble_eq_true rfl⟩ ⟨Nat.le_of_ble_eq_true rfl, Nat.le_of_ble_eq_true rfl⟩) (fun E' ce' q' v' sc' ar' H' locs' hp' h' c1' c2' c3' => xOut hT hlk h' c1' c2' c3' (Nat.le_of_ble_eq_true rfl) (Nat.le_of_ble_eq_true rfl) (Or.inl ⟨hp'.1, hp'.2.1, fun g => rNo (by decide) (by decide) hp'.2.2 g.2.2.2⟩)) (fun v_24 sc_24 ar_24 H locs p_24 h => ?_)
  have h : hH z v sc ar s H locs := uEq p_24.1 h
  obtain ⟨cd, cdl, cdh, rfl⟩ := rIn (lo := 0) (hi := 1) (by decide) (by decide) p_24.2.1 p_24.2.2
  refine lv_aload_n hx hb dX9_coding_27 rfl (lv_at hl 0 rfl) ?_
  refine lv_iconst (v := nI (0)) hx hb dX9_coding_28 (by decide) ?_
  refine xbV h (xrV (As := [.int (nI (0))]) (rest := []) C h (k_checkRoomForWay l z v sc ar hl0 K (0) hK hK4 (by omega)) gv_X9_50 gv_X9_50_n ⟨rfl, rfl⟩ (r_BM C h) rfl hl.1 rfl (Nat.le_of_ble_eq_true rfl) dX9_coding_29 ⟨Nat.le_of_ble_eq_true rfl, Nat.le_of_ble_eq_true rfl⟩ ⟨Nat.le_of_ble_eq_true rfl, Nat.le_of_ble_eq_true rfl⟩) (fun E' ce' q' v' sc' ar' H' locs' hp' h' c1' c2' c3' => xOut hT hlk h' c1' c2' c3' (Nat.le_of_ble_eq_true rfl) (Nat.le_of_ble_eq_true rfl) (Or.inr ⟨hp'.1, hp'.2.1, ⟨⟨_, cbl, cbh, rfl⟩, ⟨_, chl, chh, rfl⟩, ⟨_, csl, csh, rfl⟩, ⟨_, cdl, cdh, rfl⟩⟩, by have := hp'.2.2; omega⟩)) (fun v_29 sc_29 ar_29 H locs p_29 h => ?_)
  have h : hH z v sc ar s H locs := uEq p_29.1 h
  obtain ⟨-, hK5, hD4⟩ := p_29
  refine lv_aload_n hx hb dX9_coding_32 rfl (lv_at hl 0 rfl) ?_
  refine rNew (ci := 1) (T := TX1) (ty0 := tyX1) (fs := [.int 0, .int 0, .int 0, .int 0, .int 0, .int 0]) C h rfl iX1 tyX1_ok un_X9_54 uin_X1 uii_X1 (by decide) ⟨Nat.le_of_ble_eq_true rfl, Nat.le_of_ble_eq_true rfl⟩ dX9_coding_33 (fun q_33 H hq_33 h => ?_)
  refine lv_dup hx hb dX9_coding_36 rfl ?_
  refine lv_iload_n hx hb dX9_coding_37 rfl (lv_at hl 1 rfl) ?_
  refine lv_iload_n hx hb dX9_coding_38 rfl (lv_at hl 2 rfl) ?_
  refine lv_iload_n hx hb dX9_coding_39 rfl (lv_at hl 3 rfl) ?_
  refine lv_iload hx hb dX9_coding_40 (lv_at hl 4 rfl) ?_
  refine backV h (runI (As := [.int (nI (cb)), .int (nI (ch)), .int (nI (cs)), .int (nI (cd))]) (rest := [.ref (q_33), .ref (zad z 0)]) C h (k_codI l z (v.1, v.2.1, v.2.2.1 ++ [q_33], va_up v.2.2.2 q_33 (.inr (1, [.int 0, .int 0, .int 0, .int 0, .int 0, .int 0]))) sc ar q_33 cb ch cs cd (l_in_new _ _) (va_up_self _ _ _) chh) gv_X9_56 gv_X9_56_k gv_X9_56_i gv_X9_56_o rfl gv_X9_56_n ⟨rfl, rfl⟩ rfl hl.1 rfl (Nat.le_of_ble_eq_true rfl) dX9_coding_42 ⟨Nat.le_of_ble_eq_true rfl, Nat.le_of_ble_eq_true rfl⟩ ⟨Nat.le_of_ble_eq_true rfl, Nat.le_of_ble_eq_true rfl⟩) (fun v_42 sc_42 ar_42 H locs p_42 h => ?_)
  simp only [va_uu] at p_42
  have h : hH z (v.1, v.2.1, v.2.2.1 ++ [q_33], va_up v.2.2.2 q_33 (.inr (1, [.int (nI (0)), .int (nI (cb)), .int (nI (ch)), .int (nI (cs)), .int (nI (cd)), .int (nI ((256) - (ch)))]))) sc ar s H locs := uEq p_42 h
  refine backI h (runV (As := [.ref (q_33)]) (rest := []) C h (k_addWay l z (v.1, v.2.1, v.2.2.1 ++ [q_33], va_up v.2.2.2 q_33 (.inr (1, [.int (nI (0)), .int (nI (cb)), .int (nI (ch)), .int (nI (cs)), .int (nI (cd)), .int (nI ((256) - (ch)))]))) sc ar K q_33 1 [.int (nI (0)), .int (nI (cb)), .int (nI (ch)), .int (nI (cs)), .int (nI (cd)), .int (nI ((256) - (ch)))] hK hK5 (l_in_new _ _) (va_up_self _ _ _) ⟨_, 0, rfl, rfl⟩) gv_X9_59 gv_X9_59_n ⟨rfl, rfl⟩ (r_BM C h) rfl hl.1 rfl (Nat.le_of_ble_eq_true rfl) dX9_coding_45 ⟨Nat.le_of_ble_eq_true rfl, Nat.le_of_ble_eq_true rfl⟩ ⟨Nat.le_of_ble_eq_true rfl, Nat.le_of_ble_eq_true rfl⟩) (fun r_45 v_45 sc_45 ar_45 H locs p_45 h => ?_)
  have h : hH z (va_up v.1 K (some q_33), v.2.1, v.2.2.1 ++ [q_33], va_up v.2.2.2 q_33 (.inr (1, [.int (nI (0)), .int (nI (cb)), .int (nI (ch)), .int (nI (cs)), .int (nI (cd)), .int (nI ((256) - (ch)))]))) (va_up sc 0 (nI (K + 1))) ar s H locs := uEq p_45.2 h
  refine tI (y := nI K) p_45.1 ?_
  exact vx_ret (rI C hr hlk h dX9_coding_48 (Nat.le_of_ble_eq_true rfl) (Nat.le_of_ble_eq_true rfl) (⟨cb, ch, cs, cd, q_33, ⟨rfl, cbl, cbh⟩, ⟨rfl, chl, chh⟩, ⟨rfl, csh⟩, ⟨rfl, cdh⟩, hK5, rfl, hq_33, rfl⟩))
theorem gv_X9_63 : GoodIn uW (wsV RX9 63 RX9 yX9_wayAt (Cond.code yX9_wayAt cX9_wayAt 2 (some (.object "BandMill$Way")) :: uW)) := gI_V (uW_of (by decide +kernel) rfl) (uW_of (by decide +kernel) rfl) (uW_of (by decide +kernel) rfl) (uW_of (by decide +kernel) rfl) (uW_of (by decide +kernel) rfl)
theorem gv_X9_63_n : okN yX9_wayAt 1 := by decide +kernel
theorem um_X9_70 : Cond.methodLink RX9 70 Lib.Math.max.name ∈ uW := uW_of (by decide +kernel) rfl
theorem un_X9_76 : Cond.classLink RX9 76 RX5 ∈ uW := uW_of (by decide +kernel) rfl
theorem uin_X5 : Cond.instantiable RX5 4 ∈ uW := uW_of (by decide +kernel) rfl
theorem uii_X5 : Cond.initialized RX5 ∈ uW := uW_of (by decide +kernel) rfl
theorem gv_X9_78 : GoodIn uW (Cond.code yX5_init cX5_init 5 none :: uW) := gI_cons (uW_of (by decide +kernel) rfl) gI_all
theorem gv_X9_78_k : Cond.methodLink RX9 78 yX5_init ∈ uW := (uW_of (by decide +kernel) rfl)
theorem gv_X9_78_i : Cond.instanceMethod yX5_init ∈ uW := (uW_of (by decide +kernel) rfl)
theorem gv_X9_78_o : Cond.initialized yX5_init.cls ∈ uW := (uW_of (by decide +kernel) rfl)
theorem gv_X9_78_n : okN yX5_init 4 := by decide +kernel
set_option maxHeartbeats 4000000 in
set_option maxRecDepth 100000 in
theorem k_run (l : Launch) (z : bZ) (v : bV) (sc : Nat → Int32) (ar : Nat → Nat → Int32) (hl0 : l.stackTraces = false) (K : Nat) (wt : Nat → Nat → Nat) (dp wa : Nat → Nat) (x y1 y2 : Int32) (hK : sc 0 = nI K) (hK4 : K ≤ 40) (hw : ∀ j, j < K → v.1 j = some (wa j)) (hWT : WT v wt dp wa K) : vx_Met l yX9_run (Cond.code yX9_run cX9_run 7 (some .int) :: uW) { frames := 8, cells := 9, slots := 60, locals := 133 } (pC z v sc ar [.ref (zad z 0), .int (x), .int (y1), .int (y2)]) (qI z (fun r u => ∃ n j1 j2 q, (x = nI n ∧ n ≤ 400) ∧ (y1 = nI j1 ∧ j1 < K) ∧ (y2 = nI j2 ∧ j2 < K) ∧ K < 40 ∧ (1) + (max (dp j1) (dp j2)) ≤ 4 ∧ r = nI K ∧ q ∉ v.2.2.1 ∧ u = ((va_up v.1 K (some q), v.2.1, v.2.2.1 ++ [q], va_up v.2.2.2 q (.inr (5, [.int (nI ((1) + (max (dp j1) (dp j2)))), .int (nI (n)), .ref (wa j1), .ref (wa j2)]))), va_up sc 0 (nI (K + 1)), ar))) (xX z (fun E u => (E = xIA ∧ u = (v, sc, ar) ∧ ¬ (inR 0 400 x ∧ isW K y1 ∧ isW K y2)) ∨ (E = xIS ∧ u = (v, sc, ar) ∧ inR 0 400 x ∧ ∃ j1 j2, (y1 = nI j1 ∧ j1 < K) ∧ (y2 = nI j2 ∧ j2 < K) ∧ (40 ≤ K ∨ 4 < (1) + (max (dp j1) (dp j2)))))) 9 60 (zA z) := by
  refine eX (by decide) (Nat.le_of_ble_eq_true rfl) ?_
  intro pP eE s mM below meth cC ls C hr hlk hT h hl
  have hx := C.1.1
  have hb := C.1.2.1
  have hl : lv_has ls 7 [(0, .ref (zad z 0)), (1, .int (x)), (2, .int (y1)), (3, .int (y2))] := hl
  refine lv_iload_n hx hb dX9_run_0 rfl (lv_at hl 1 rfl) ?_
  refine lv_iconst (v := nI (0)) hx hb dX9_run_1 (by decide) ?_
  refine lv_sipush (v := nI (400)) hx hb dX9_run_2 (by decide) ?_
  refine xbV h (xrS (As := [.int (x), .int (nI (0)), .int (nI (400))]) (rest := []) C h (k_checkRange l z v sc ar hl0 x (nI 0) (nI 400)) gv_X9_46 gv_X9_46_n ⟨rfl, rfl⟩ rfl hl.1 rfl (Nat.le_of_ble_eq_true rfl) dX9_run_5 ⟨Nat.le_of_ble_eq_true rfl, Nat.le_of_ble_eq_true rfl⟩ ⟨Nat.le_of_ble_eq_true rfl, Nat.le_of_ble_eq_true rfl⟩) (fun E' ce' q' v' sc' ar' H' locs' hp' h' c1' c2' c3' => xOut hT hlk h' c1' c2' c3' (Nat.le_of_ble_eq_true rfl) (Nat.le_of_ble_eq_true rfl) (Or.inl ⟨hp'.1, hp'.2.1, fun g => rNo (by decide) (by decide) hp'.2.2 g.1⟩)) (fun v_5 sc_5 ar_5 H locs p_5 h => ?_)
  have h : hH z v sc ar s H locs := uEq p_5.1 h
  obtain ⟨n, nl, nh, rfl⟩ := rIn (lo := 0) (hi := 400) (by decide) (by decide) p_5.2.1 p_5.2.2
  refine lv_aload_n hx hb dX9_run_8 rfl (lv_at hl 0 rfl) ?_
  refine lv_iload_n hx hb dX9_run_9 rfl (lv_at hl 2 rfl) ?_
  refine xbR h (xrV (As := [.int (y1)]) (rest := []) C h (k_wayAt l z v sc ar hl0 K wa y1 hK hK4 hw) gv_X9_63 gv_X9_63_n ⟨rfl, rfl⟩ (r_BM C h) rfl hl.1 rfl (Nat.le_of_ble_eq_true rfl) dX9_run_10 ⟨Nat.le_of_ble_eq_true rfl, Nat.le_of_ble_eq_true rfl⟩ ⟨Nat.le_of_ble_eq_true rfl, Nat.le_of_ble_eq_true rfl⟩) (fun E' ce' q' v' sc' ar' H' locs' hp' h' c1' c2' c3' => xOut hT hlk h' c1' c2' c3' (Nat.le_of_ble_eq_true rfl) (Nat.le_of_ble_eq_true rfl) (Or.inl ⟨hp'.1, hp'.2.1, fun g => hp'.2.2 g.2.1⟩)) (fun r_10 v_10 sc_10 ar_10 H locs p_10 h => ?_)
  have h : hH z v sc ar s H locs := uEq p_10.1 h
  obtain ⟨j1, hj1, rfl, rfl⟩ := p_10.2
  refine lv_astore (lv' := [(4, .ref (wa j1)), (0, .ref (zad z 0)), (1, .int (nI (n))), (2, .int (nI (j1))), (3, .int (y2))]) hx hb dX9_run_13 hl (by decide) rfl (fun ls hl => ?_)
  refine lv_aload_n hx hb dX9_run_15 rfl (lv_at hl 1 rfl) ?_
  refine lv_iload_n hx hb dX9_run_16 rfl (lv_at hl 4 rfl) ?_
  refine xbR h (xrV (As := [.int (y2)]) (rest := []) C h (k_wayAt l z v sc ar hl0 K wa y2 hK hK4 hw) gv_X9_63 gv_X9_63_n ⟨rfl, rfl⟩ (r_BM C h) rfl hl.1 rfl (Nat.le_of_ble_eq_true rfl) dX9_run_17 ⟨Nat.le_of_ble_eq_true rfl, Nat.le_of_ble_eq_true rfl⟩ ⟨Nat.le_of_ble_eq_true rfl, Nat.le_of_ble_eq_true rfl⟩) (fun E' ce' q' v' sc' ar' H' locs' hp' h' c1' c2' c3' => xOut hT hlk h' c1' c2' c3' (Nat.le_of_ble_eq_true rfl) (Nat.le_of_ble_eq_true rfl) (Or.inl ⟨hp'.1, hp'.2.1, fun g => hp'.2.2 g.2.2⟩)) (fun r_17 v_17 sc_17 ar_17 H locs p_17 h => ?_)
  have h : hH z v sc ar s H locs := uEq p_17.1 h
  obtain ⟨j2, hj2, rfl, rfl⟩ := p_17.2
  refine lv_astore (lv' := [(5, .ref (wa j2)), (4, .ref (wa j1)), (0, .ref (zad z 0)), (1, .int (nI (n))), (2, .int (nI (j1))), (3, .int (nI (j2)))]) hx hb dX9_run_20 hl (by decide) rfl (fun ls hl => ?_)
  have hd1 := dpLe hWT hj1
  have hd2 := dpLe hWT hj2
  refine lv_iconst (v := nI (1)) hx hb dX9_run_22 (by decide) ?_
  refine lv_aload hx hb dX9_run_23 (lv_at hl 1 rfl) ?_
  refine rDep C h hWT hj1 dX9_run_25 ?_
  refine lv_aload hx hb dX9_run_28 (lv_at hl 0 rfl) ?_
  refine rDep C h hWT hj2 dX9_run_30 ?_
  refine mmax C hl.1 um_X9_70 (Nat.le_of_ble_eq_true rfl) (Nat.le_of_ble_eq_true rfl) (Nat.le_of_ble_eq_true rfl) (Nat.le_of_ble_eq_true rfl) dX9_run_33 ?_
  refine tI (nN_max (by omega) (by omega)) ?_
  refine lv_iadd hx hb dX9_run_36 ?_
  refine tI (nI_add _ _) ?_
  refine lv_istore (lv' := [(6, .int (nI ((1) + (max (dp j1) (dp j2))))), (5, .ref (wa j2)), (4, .ref (wa j1)), (0, .ref (zad z 0)), (1, .int (nI (n))), (2, .int (nI (j1))), (3, .int (nI (j2)))]) hx hb dX9_run_37 hl (by decide) rfl (fun ls hl => ?_)
  refine lv_aload_n hx hb dX9_run_39 rfl (lv_at hl 3 rfl) ?_
  refine lv_iload hx hb dX9_run_40 (lv_at hl 0 rfl) ?_
  refine xbV h (xrV (As := [.int (nI ((1) + (max (dp j1) (dp j2))))]) (rest := []) C h (k_checkRoomForWay l z v sc ar hl0 K ((1) + (max (dp j1) (dp j2))) hK hK4 (by omega)) gv_X9_50 gv_X9_50_n ⟨rfl, rfl⟩ (r_BM C h) rfl hl.1 rfl (Nat.le_of_ble_eq_true rfl) dX9_run_42 ⟨Nat.le_of_ble_eq_true rfl, Nat.le_of_ble_eq_true rfl⟩ ⟨Nat.le_of_ble_eq_true rfl, Nat.le_of_ble_eq_true rfl⟩) (fun E' ce' q' v' sc' ar' H' locs' hp' h' c1' c2' c3' => xOut hT hlk h' c1' c2' c3' (Nat.le_of_ble_eq_true rfl) (Nat.le_of_ble_eq_true rfl) (Or.inr ⟨hp'.1, hp'.2.1, ⟨_, nl, nh, rfl⟩, j1, j2, ⟨rfl, hj1⟩, ⟨rfl, hj2⟩, hp'.2.2⟩)) (fun v_42 sc_42 ar_42 H locs p_42 h => ?_)
  have h : hH z v sc ar s H locs := uEq p_42.1 h
  obtain ⟨-, hK5, hD4⟩ := p_42
  refine lv_aload_n hx hb dX9_run_45 rfl (lv_at hl 3 rfl) ?_
  refine rNew (ci := 5) (T := TX5) (ty0 := tyX5) (fs := [.int 0, .int 0, .null, .null]) C h rfl iX5 tyX5_ok un_X9_76 uin_X5 uii_X5 (by decide) ⟨Nat.le_of_ble_eq_true rfl, Nat.le_of_ble_eq_true rfl⟩ dX9_run_46 (fun q_46 H hq_46 h => ?_)
  refine lv_dup hx hb dX9_run_49 rfl ?_
  refine lv_iload hx hb dX9_run_50 (lv_at hl 0 rfl) ?_
  refine lv_iload_n hx hb dX9_run_52 rfl (lv_at hl 4 rfl) ?_
  refine lv_aload hx hb dX9_run_53 (lv_at hl 2 rfl) ?_
  refine lv_aload hx hb dX9_run_55 (lv_at hl 1 rfl) ?_
  refine backV h (runI (As := [.int (nI ((1) + (max (dp j1) (dp j2)))), .int (nI (n)), .ref (wa j1), .ref (wa j2)]) (rest := [.ref (q_46), .ref (zad z 0)]) C h (k_runI l z (v.1, v.2.1, v.2.2.1 ++ [q_46], va_up v.2.2.2 q_46 (.inr (5, [.int 0, .int 0, .null, .null]))) sc ar q_46 ((1) + (max (dp j1) (dp j2))) n (wa j1) (wa j2) (l_in_new _ _) (va_up_self _ _ _)) gv_X9_78 gv_X9_78_k gv_X9_78_i gv_X9_78_o rfl gv_X9_78_n ⟨rfl, rfl⟩ rfl hl.1 rfl (Nat.le_of_ble_eq_true rfl) dX9_run_57 ⟨Nat.le_of_ble_eq_true rfl, Nat.le_of_ble_eq_true rfl⟩ ⟨Nat.le_of_ble_eq_true rfl, Nat.le_of_ble_eq_true rfl⟩) (fun v_57 sc_57 ar_57 H locs p_57 h => ?_)
  simp only [va_uu] at p_57
  have h : hH z (v.1, v.2.1, v.2.2.1 ++ [q_46], va_up v.2.2.2 q_46 (.inr (5, [.int (nI ((1) + (max (dp j1) (dp j2)))), .int (nI (n)), .ref (wa j1), .ref (wa j2)]))) sc ar s H locs := uEq p_57 h
  refine backI h (runV (As := [.ref (q_46)]) (rest := []) C h (k_addWay l z (v.1, v.2.1, v.2.2.1 ++ [q_46], va_up v.2.2.2 q_46 (.inr (5, [.int (nI ((1) + (max (dp j1) (dp j2)))), .int (nI (n)), .ref (wa j1), .ref (wa j2)]))) sc ar K q_46 5 [.int (nI ((1) + (max (dp j1) (dp j2)))), .int (nI (n)), .ref (wa j1), .ref (wa j2)] hK hK5 (l_in_new _ _) (va_up_self _ _ _) ⟨_, 2, rfl, rfl⟩) gv_X9_59 gv_X9_59_n ⟨rfl, rfl⟩ (r_BM C h) rfl hl.1 rfl (Nat.le_of_ble_eq_true rfl) dX9_run_60 ⟨Nat.le_of_ble_eq_true rfl, Nat.le_of_ble_eq_true rfl⟩ ⟨Nat.le_of_ble_eq_true rfl, Nat.le_of_ble_eq_true rfl⟩) (fun r_60 v_60 sc_60 ar_60 H locs p_60 h => ?_)
  have h : hH z (va_up v.1 K (some q_46), v.2.1, v.2.2.1 ++ [q_46], va_up v.2.2.2 q_46 (.inr (5, [.int (nI ((1) + (max (dp j1) (dp j2)))), .int (nI (n)), .ref (wa j1), .ref (wa j2)]))) (va_up sc 0 (nI (K + 1))) ar s H locs := uEq p_60.2 h
  refine tI (y := nI K) p_60.1 ?_
  exact vx_ret (rI C hr hlk h dX9_run_63 (Nat.le_of_ble_eq_true rfl) (Nat.le_of_ble_eq_true rfl) (⟨n, j1, j2, q_46, ⟨rfl, nh⟩, ⟨rfl, hj1⟩, ⟨rfl, hj2⟩, hK5, hD4, rfl, hq_46, rfl⟩))
theorem un_X9_81 : Cond.classLink RX9 81 RX4 ∈ uW := uW_of (by decide +kernel) rfl
theorem uin_X4 : Cond.instantiable RX4 5 ∈ uW := uW_of (by decide +kernel) rfl
theorem uii_X4 : Cond.initialized RX4 ∈ uW := uW_of (by decide +kernel) rfl
theorem gv_X9_83 : GoodIn uW (Cond.code yX4_init cX4_init 6 none :: uW) := gI_cons (uW_of (by decide +kernel) rfl) gI_all
theorem gv_X9_83_k : Cond.methodLink RX9 83 yX4_init ∈ uW := (uW_of (by decide +kernel) rfl)
theorem gv_X9_83_i : Cond.instanceMethod yX4_init ∈ uW := (uW_of (by decide +kernel) rfl)
theorem gv_X9_83_o : Cond.initialized yX4_init.cls ∈ uW := (uW_of (by decide +kernel) rfl)
theorem gv_X9_83_n : okN yX4_init 5 := by decide +kernel
set_option maxHeartbeats 4000000 in
set_option maxRecDepth 100000 in
theorem k_popular (l : Launch) (z : bZ) (v : bV) (sc : Nat → Int32) (ar : Nat → Nat → Int32) (hl0 : l.stackTraces = false) (K : Nat) (wt : Nat → Nat → Nat) (dp wa : Nat → Nat) (x y1 y2 y3 : Int32) (hK : sc 0 = nI K) (hK4 : K ≤ 40) (hw : ∀ j, j < K → v.1 j = some (wa j)) (hWT : WT v wt dp wa K) : vx_Met l yX9_popular (Cond.code yX9_popular cX9_popular 9 (some .int) :: uW) { frames := 8, cells := 9, slots := 60, locals := 133 } (pC z v sc ar [.ref (zad z 0), .int (x), .int (y1), .int (y2), .int (y3)]) (qI z (fun r u => ∃ n j1 j2 j3 q, (x = nI n ∧ 1 ≤ n ∧ n ≤ 50) ∧ (y1 = nI j1 ∧ j1 < K) ∧ (y2 = nI j2 ∧ j2 < K) ∧ (y3 = nI j3 ∧ j3 < K) ∧ K < 40 ∧ (1) + (max (dp j1) (max (dp j2) (dp j3))) ≤ 4 ∧ r = nI K ∧ q ∉ v.2.2.1 ∧ u = ((va_up v.1 K (some q), v.2.1, v.2.2.1 ++ [q], va_up v.2.2.2 q (.inr (4, [.int (nI ((1) + (max (dp j1) (max (dp j2) (dp j3))))), .int (nI (n)), .ref (wa j1), .ref (wa j2), .ref (wa j3)]))), va_up sc 0 (nI (K + 1)), ar))) (xX z (fun E u => (E = xIA ∧ u = (v, sc, ar) ∧ ¬ (inR 1 50 x ∧ isW K y1 ∧ isW K y2 ∧ isW K y3)) ∨ (E = xIS ∧ u = (v, sc, ar) ∧ inR 1 50 x ∧ ∃ j1 j2 j3, (y1 = nI j1 ∧ j1 < K) ∧ (y2 = nI j2 ∧ j2 < K) ∧ (y3 = nI j3 ∧ j3 < K) ∧ (40 ≤ K ∨ 4 < (1) + (max (dp j1) (max (dp j2) (dp j3))))))) 9 60 (zA z) := by
  refine eX (by decide) (Nat.le_of_ble_eq_true rfl) ?_
  intro pP eE s mM below meth cC ls C hr hlk hT h hl
  have hx := C.1.1
  have hb := C.1.2.1
  have hl : lv_has ls 9 [(0, .ref (zad z 0)), (1, .int (x)), (2, .int (y1)), (3, .int (y2)), (4, .int (y3))] := hl
  refine lv_iload_n hx hb dX9_popular_0 rfl (lv_at hl 1 rfl) ?_
  refine lv_iconst (v := nI (1)) hx hb dX9_popular_1 (by decide) ?_
  refine lv_bipush (v := nI (50)) hx hb dX9_popular_2 (by decide) ?_
  refine xbV h (xrS (As := [.int (x), .int (nI (1)), .int (nI (50))]) (rest := []) C h (k_checkRange l z v sc ar hl0 x (nI 1) (nI 50)) gv_X9_46 gv_X9_46_n ⟨rfl, rfl⟩ rfl hl.1 rfl (Nat.le_of_ble_eq_true rfl) dX9_popular_4 ⟨Nat.le_of_ble_eq_true rfl, Nat.le_of_ble_eq_true rfl⟩ ⟨Nat.le_of_ble_eq_true rfl, Nat.le_of_ble_eq_true rfl⟩) (fun E' ce' q' v' sc' ar' H' locs' hp' h' c1' c2' c3' => xOut hT hlk h' c1' c2' c3' (Nat.le_of_ble_eq_true rfl) (Nat.le_of_ble_eq_true rfl) (Or.inl ⟨hp'.1, hp'.2.1, fun g => rNo (by decide) (by decide) hp'.2.2 g.1⟩)) (fun v_4 sc_4 ar_4 H locs p_4 h => ?_)
  have h : hH z v sc ar s H locs := uEq p_4.1 h
  obtain ⟨n, nl, nh, rfl⟩ := rIn (lo := 1) (hi := 50) (by decide) (by decide) p_4.2.1 p_4.2.2
  refine lv_aload_n hx hb dX9_popular_7 rfl (lv_at hl 0 rfl) ?_
  refine lv_iload_n hx hb dX9_popular_8 rfl (lv_at hl 2 rfl) ?_
  refine xbR h (xrV (As := [.int (y1)]) (rest := []) C h (k_wayAt l z v sc ar hl0 K wa y1 hK hK4 hw) gv_X9_63 gv_X9_63_n ⟨rfl, rfl⟩ (r_BM C h) rfl hl.1 rfl (Nat.le_of_ble_eq_true rfl) dX9_popular_9 ⟨Nat.le_of_ble_eq_true rfl, Nat.le_of_ble_eq_true rfl⟩ ⟨Nat.le_of_ble_eq_true rfl, Nat.le_of_ble_eq_true rfl⟩) (fun E' ce' q' v' sc' ar' H' locs' hp' h' c1' c2' c3' => xOut hT hlk h' c1' c2' c3' (Nat.le_of_ble_eq_true rfl) (Nat.le_of_ble_eq_true rfl) (Or.inl ⟨hp'.1, hp'.2.1, fun g => hp'.2.2 g.2.1⟩)) (fun r_9 v_9 sc_9 ar_9 H locs p_9 h => ?_)
  have h : hH z v sc ar s H locs := uEq p_9.1 h
  obtain ⟨j1, hj1, rfl, rfl⟩ := p_9.2
  refine lv_astore (lv' := [(5, .ref (wa j1)), (0, .ref (zad z 0)), (1, .int (nI (n))), (2, .int (nI (j1))), (3, .int (y2)), (4, .int (y3))]) hx hb dX9_popular_12 hl (by decide) rfl (fun ls hl => ?_)
  refine lv_aload_n hx hb dX9_popular_14 rfl (lv_at hl 1 rfl) ?_
  refine lv_iload_n hx hb dX9_popular_15 rfl (lv_at hl 4 rfl) ?_
  refine xbR h (xrV (As := [.int (y2)]) (rest := []) C h (k_wayAt l z v sc ar hl0 K wa y2 hK hK4 hw) gv_X9_63 gv_X9_63_n ⟨rfl, rfl⟩ (r_BM C h) rfl hl.1 rfl (Nat.le_of_ble_eq_true rfl) dX9_popular_16 ⟨Nat.le_of_ble_eq_true rfl, Nat.le_of_ble_eq_true rfl⟩ ⟨Nat.le_of_ble_eq_true rfl, Nat.le_of_ble_eq_true rfl⟩) (fun E' ce' q' v' sc' ar' H' locs' hp' h' c1' c2' c3' => xOut hT hlk h' c1' c2' c3' (Nat.le_of_ble_eq_true rfl) (Nat.le_of_ble_eq_true rfl) (Or.inl ⟨hp'.1, hp'.2.1, fun g => hp'.2.2 g.2.2.1⟩)) (fun r_16 v_16 sc_16 ar_16 H locs p_16 h => ?_)
  have h : hH z v sc ar s H locs := uEq p_16.1 h
  obtain ⟨j2, hj2, rfl, rfl⟩ := p_16.2
  refine lv_astore (lv' := [(6, .ref (wa j2)), (5, .ref (wa j1)), (0, .ref (zad z 0)), (1, .int (nI (n))), (2, .int (nI (j1))), (3, .int (nI (j2))), (4, .int (y3))]) hx hb dX9_popular_19 hl (by decide) rfl (fun ls hl => ?_)
  refine lv_aload_n hx hb dX9_popular_21 rfl (lv_at hl 2 rfl) ?_
  refine lv_iload hx hb dX9_popular_22 (lv_at hl 6 rfl) ?_
  refine xbR h (xrV (As := [.int (y3)]) (rest := []) C h (k_wayAt l z v sc ar hl0 K wa y3 hK hK4 hw) gv_X9_63 gv_X9_63_n ⟨rfl, rfl⟩ (r_BM C h) rfl hl.1 rfl (Nat.le_of_ble_eq_true rfl) dX9_popular_24 ⟨Nat.le_of_ble_eq_true rfl, Nat.le_of_ble_eq_true rfl⟩ ⟨Nat.le_of_ble_eq_true rfl, Nat.le_of_ble_eq_true rfl⟩) (fun E' ce' q' v' sc' ar' H' locs' hp' h' c1' c2' c3' => xOut hT hlk h' c1' c2' c3' (Nat.le_of_ble_eq_true rfl) (Nat.le_of_ble_eq_true rfl) (Or.inl ⟨hp'.1, hp'.2.1, fun g => hp'.2.2 g.2.2.2⟩)) (fun r_24 v_24 sc_24 ar_24 H locs p_24 h => ?_)
  have h : hH z v sc ar s H locs := uEq p_24.1 h
  obtain ⟨j3, hj3, rfl, rfl⟩ := p_24.2
  refine lv_astore (lv' := [(7, .ref (wa j3)), (6, .ref (wa j2)), (5, .ref (wa j1)), (0, .ref (zad z 0)), (1, .int (nI (n))), (2, .int (nI (j1))), (3, .int (nI (j2))), (4, .int (nI (j3)))]) hx hb dX9_popular_27 hl (by decide) rfl (fun ls hl => ?_)
  have hd1 := dpLe hWT hj1
  have hd2 := dpLe hWT hj2
  have hd3 := dpLe hWT hj3
  refine lv_iconst (v := nI (1)) hx hb dX9_popular_29 (by decide) ?_
  refine lv_aload hx hb dX9_popular_30 (lv_at hl 2 rfl) ?_
  refine rDep C h hWT hj1 dX9_popular_32 ?_
  refine lv_aload hx hb dX9_popular_35 (lv_at hl 1 rfl) ?_
  refine rDep C h hWT hj2 dX9_popular_37 ?_
  refine lv_aload hx hb dX9_popular_40 (lv_at hl 0 rfl) ?_
  refine rDep C h hWT hj3 dX9_popular_42 ?_
  refine mmax C hl.1 um_X9_70 (Nat.le_of_ble_eq_true rfl) (Nat.le_of_ble_eq_true rfl) (Nat.le_of_ble_eq_true rfl) (Nat.le_of_ble_eq_true rfl) dX9_popular_45 ?_
  refine tI (nN_max (by omega) (by omega)) ?_
  refine mmax C hl.1 um_X9_70 (Nat.le_of_ble_eq_true rfl) (Nat.le_of_ble_eq_true rfl) (Nat.le_of_ble_eq_true rfl) (Nat.le_of_ble_eq_true rfl) dX9_popular_48 ?_
  refine tI (nN_max (by omega) (by omega)) ?_
  refine lv_iadd hx hb dX9_popular_51 ?_
  refine tI (nI_add _ _) ?_
  refine lv_istore (lv' := [(8, .int (nI ((1) + (max (dp j1) (max (dp j2) (dp j3)))))), (7, .ref (wa j3)), (6, .ref (wa j2)), (5, .ref (wa j1)), (0, .ref (zad z 0)), (1, .int (nI (n))), (2, .int (nI (j1))), (3, .int (nI (j2))), (4, .int (nI (j3)))]) hx hb dX9_popular_52 hl (by decide) rfl (fun ls hl => ?_)
  refine lv_aload_n hx hb dX9_popular_54 rfl (lv_at hl 4 rfl) ?_
  refine lv_iload hx hb dX9_popular_55 (lv_at hl 0 rfl) ?_
  refine xbV h (xrV (As := [.int (nI ((1) + (max (dp j1) (max (dp j2) (dp j3)))))]) (rest := []) C h (k_checkRoomForWay l z v sc ar hl0 K ((1) + (max (dp j1) (max (dp j2) (dp j3)))) hK hK4 (by omega)) gv_X9_50 gv_X9_50_n ⟨rfl, rfl⟩ (r_BM C h) rfl hl.1 rfl (Nat.le_of_ble_eq_true rfl) dX9_popular_57 ⟨Nat.le_of_ble_eq_true rfl, Nat.le_of_ble_eq_true rfl⟩ ⟨Nat.le_of_ble_eq_true rfl, Nat.le_of_ble_eq_true rfl⟩) (fun E' ce' q' v' sc' ar' H' locs' hp' h' c1' c2' c3' => xOut hT hlk h' c1' c2' c3' (Nat.le_of_ble_eq_true rfl) (Nat.le_of_ble_eq_true rfl) (Or.inr ⟨hp'.1, hp'.2.1, ⟨_, nl, nh, rfl⟩, j1, j2, j3, ⟨rfl, hj1⟩, ⟨rfl, hj2⟩, ⟨rfl, hj3⟩, hp'.2.2⟩)) (fun v_57 sc_57 ar_57 H locs p_57 h => ?_)
  have h : hH z v sc ar s H locs := uEq p_57.1 h
  obtain ⟨-, hK5, hD4⟩ := p_57
  refine lv_aload_n hx hb dX9_popular_60 rfl (lv_at hl 4 rfl) ?_
  refine rNew (ci := 4) (T := TX4) (ty0 := tyX4) (fs := [.int 0, .int 0, .null, .null, .null]) C h rfl iX4 tyX4_ok un_X9_81 uin_X4 uii_X4 (by decide) ⟨Nat.le_of_ble_eq_true rfl, Nat.le_of_ble_eq_true rfl⟩ dX9_popular_61 (fun q_61 H hq_61 h => ?_)
  refine lv_dup hx hb dX9_popular_64 rfl ?_
  refine lv_iload hx hb dX9_popular_65 (lv_at hl 0 rfl) ?_
  refine lv_iload_n hx hb dX9_popular_67 rfl (lv_at hl 5 rfl) ?_
  refine lv_aload hx hb dX9_popular_68 (lv_at hl 3 rfl) ?_
  refine lv_aload hx hb dX9_popular_70 (lv_at hl 2 rfl) ?_
  refine lv_aload hx hb dX9_popular_72 (lv_at hl 1 rfl) ?_
  refine backV h (runI (As := [.int (nI ((1) + (max (dp j1) (max (dp j2) (dp j3))))), .int (nI (n)), .ref (wa j1), .ref (wa j2), .ref (wa j3)]) (rest := [.ref (q_61), .ref (zad z 0)]) C h (k_popI l z (v.1, v.2.1, v.2.2.1 ++ [q_61], va_up v.2.2.2 q_61 (.inr (4, [.int 0, .int 0, .null, .null, .null]))) sc ar q_61 ((1) + (max (dp j1) (max (dp j2) (dp j3)))) n (wa j1) (wa j2) (wa j3) (l_in_new _ _) (va_up_self _ _ _)) gv_X9_83 gv_X9_83_k gv_X9_83_i gv_X9_83_o rfl gv_X9_83_n ⟨rfl, rfl⟩ rfl hl.1 rfl (Nat.le_of_ble_eq_true rfl) dX9_popular_74 ⟨Nat.le_of_ble_eq_true rfl, Nat.le_of_ble_eq_true rfl⟩ ⟨Nat.le_of_ble_eq_true rfl, Nat.le_of_ble_eq_true rfl⟩) (fun v_74 sc_74 ar_74 H locs p_74 h => ?_)
  simp only [va_uu] at p_74
  have h : hH z (v.1, v.2.1, v.2.2.1 ++ [q_61], va_up v.2.2.2 q_61 (.inr (4, [.int (nI ((1) + (max (dp j1) (max (dp j2) (dp j3))))), .int (nI (n)), .ref (wa j1), .ref (wa j2), .ref (wa j3)]))) sc ar s H locs := uEq p_74 h
  refine backI h (runV (As := [.ref (q_61)]) (rest := []) C h (k_addWay l z (v.1, v.2.1, v.2.2.1 ++ [q_61], va_up v.2.2.2 q_61 (.inr (4, [.int (nI ((1) + (max (dp j1) (max (dp j2) (dp j3))))), .int (nI (n)), .ref (wa j1), .ref (wa j2), .ref (wa j3)]))) sc ar K q_61 4 [.int (nI ((1) + (max (dp j1) (max (dp j2) (dp j3))))), .int (nI (n)), .ref (wa j1), .ref (wa j2), .ref (wa j3)] hK hK5 (l_in_new _ _) (va_up_self _ _ _) ⟨_, 1, rfl, rfl⟩) gv_X9_59 gv_X9_59_n ⟨rfl, rfl⟩ (r_BM C h) rfl hl.1 rfl (Nat.le_of_ble_eq_true rfl) dX9_popular_77 ⟨Nat.le_of_ble_eq_true rfl, Nat.le_of_ble_eq_true rfl⟩ ⟨Nat.le_of_ble_eq_true rfl, Nat.le_of_ble_eq_true rfl⟩) (fun r_77 v_77 sc_77 ar_77 H locs p_77 h => ?_)
  have h : hH z (va_up v.1 K (some q_61), v.2.1, v.2.2.1 ++ [q_61], va_up v.2.2.2 q_61 (.inr (4, [.int (nI ((1) + (max (dp j1) (max (dp j2) (dp j3))))), .int (nI (n)), .ref (wa j1), .ref (wa j2), .ref (wa j3)]))) (va_up sc 0 (nI (K + 1))) ar s H locs := uEq p_77.2 h
  refine tI (y := nI K) p_77.1 ?_
  exact vx_ret (rI C hr hlk h dX9_popular_80 (Nat.le_of_ble_eq_true rfl) (Nat.le_of_ble_eq_true rfl) (⟨n, j1, j2, j3, q_61, ⟨rfl, nl, nh⟩, ⟨rfl, hj1⟩, ⟨rfl, hj2⟩, ⟨rfl, hj3⟩, hK5, hD4, rfl, hq_61, rfl⟩))
set_option maxHeartbeats 4000000 in
set_option maxRecDepth 100000 in
theorem k_way (l : Launch) (z : bZ) (v : bV) (sc : Nat → Int32) (ar : Nat → Nat → Int32) (hl0 : l.stackTraces = false) (K : Nat) (wt : Nat → Nat → Nat) (dp wa : Nat → Nat) (y1 x : Int32) (hK : sc 0 = nI K) (hK4 : K ≤ 40) (hw : ∀ j, j < K → v.1 j = some (wa j)) (hWT : WT v wt dp wa K) : vx_Met l yX9_way (Cond.code yX9_way cX9_way 4 (some .int) :: uW) { frames := 8, cells := 2, slots := 12, locals := 133 } (pC z v sc ar [.ref (zad z 0), .int (y1), .int (x)]) (qI z (fun r u => u = (v, sc, ar) ∧ ∃ j1 q, (y1 = nI j1 ∧ j1 < K) ∧ (x = nI q ∧ q ≤ 4) ∧ r = if q = 4 then nI (dp j1) else trF wt j1 q)) (xX z (fun E u => E = xIA ∧ u = (v, sc, ar) ∧ ¬ (isW K y1 ∧ inR 0 4 x))) 2 12 (zA z) := by
  refine eX (by decide) (Nat.le_of_ble_eq_true rfl) ?_
  intro pP eE s mM below meth cC ls C hr hlk hT h hl
  have hx := C.1.1
  have hb := C.1.2.1
  have hl : lv_has ls 4 [(0, .ref (zad z 0)), (1, .int (y1)), (2, .int (x))] := hl
  refine lv_aload_n hx hb dX9_way_0 rfl (lv_at hl 0 rfl) ?_
  refine lv_iload_n hx hb dX9_way_1 rfl (lv_at hl 1 rfl) ?_
  refine xbR h (xrV (As := [.int (y1)]) (rest := []) C h (k_wayAt l z v sc ar hl0 K wa y1 hK hK4 hw) gv_X9_63 gv_X9_63_n ⟨rfl, rfl⟩ (r_BM C h) rfl hl.1 rfl (Nat.le_of_ble_eq_true rfl) dX9_way_2 ⟨Nat.le_of_ble_eq_true rfl, Nat.le_of_ble_eq_true rfl⟩ ⟨Nat.le_of_ble_eq_true rfl, Nat.le_of_ble_eq_true rfl⟩) (fun E' ce' q' v' sc' ar' H' locs' hp' h' c1' c2' c3' => xOut hT hlk h' c1' c2' c3' (Nat.le_of_ble_eq_true rfl) (Nat.le_of_ble_eq_true rfl) (⟨hp'.1, hp'.2.1, fun g => hp'.2.2 g.1⟩)) (fun r_2 v_2 sc_2 ar_2 H locs p_2 h => ?_)
  have h : hH z v sc ar s H locs := uEq p_2.1 h
  obtain ⟨j1, hj1, rfl, rfl⟩ := p_2.2
  refine lv_astore_n (lv' := [(3, .ref (wa j1)), (0, .ref (zad z 0)), (1, .int (nI (j1))), (2, .int (x))]) hx hb dX9_way_5 rfl hl (by decide) rfl (fun ls hl => ?_)
  refine lv_iload_n hx hb dX9_way_6 rfl (lv_at hl 3 rfl) ?_
  refine lv_iconst (v := nI (0)) hx hb dX9_way_7 (by decide) ?_
  refine lv_iconst (v := nI (4)) hx hb dX9_way_8 (by decide) ?_
  refine xbV h (xrS (As := [.int (x), .int (nI (0)), .int (nI (4))]) (rest := []) C h (k_checkRange l z v sc ar hl0 x (nI 0) (nI 4)) gv_X9_46 gv_X9_46_n ⟨rfl, rfl⟩ rfl hl.1 rfl (Nat.le_of_ble_eq_true rfl) dX9_way_9 ⟨Nat.le_of_ble_eq_true rfl, Nat.le_of_ble_eq_true rfl⟩ ⟨Nat.le_of_ble_eq_true rfl, Nat.le_of_ble_eq_true rfl⟩) (fun E' ce' q' v' sc' ar' H' locs' hp' h' c1' c2' c3' => xOut hT hlk h' c1' c2' c3' (Nat.le_of_ble_eq_true rfl) (Nat.le_of_ble_eq_true rfl) (⟨hp'.1, hp'.2.1, fun g => rNo (by decide) (by decide) hp'.2.2 g.2⟩)) (fun v_9 sc_9 ar_9 H locs p_9 h => ?_)
  have h : hH z v sc ar s H locs := uEq p_9.1 h
  obtain ⟨q, ql, qh, rfl⟩ := rIn (lo := 0) (hi := 4) (by decide) (by decide) p_9.2.1 p_9.2.2
  refine lv_iload_n hx hb dX9_way_12 rfl (lv_at hl 3 rfl) ?_
  refine lv_iconst (v := nI (4)) hx hb dX9_way_13 (by decide) ?_
  refine jN_ne (tgt := 24) (a := q) (b := 4) C (by omega) (by omega) dX9_way_14 (by decide) (fun c_14 => ?_) (fun c_14 => ?_)
  · skip
    refine lv_aload_n hx hb dX9_way_24 rfl (lv_at hl 0 rfl) ?_
    refine lv_iload_n hx hb dX9_way_25 rfl (lv_at hl 3 rfl) ?_
    refine vcT (q := q) C h hWT hj1 (by omega) hl.1 (Nat.le_of_ble_eq_true rfl) dX9_way_26 ⟨Nat.le_of_ble_eq_true rfl, Nat.le_of_ble_eq_true rfl⟩ (Nat.le_of_ble_eq_true rfl) (Nat.le_of_ble_eq_true rfl) (fun H locs h => ?_)
    exact vx_ret (rI C hr hlk h dX9_way_29 (Nat.le_of_ble_eq_true rfl) (Nat.le_of_ble_eq_true rfl) (⟨rfl, j1, q, ⟨rfl, hj1⟩, ⟨rfl, qh⟩, (if_neg c_14).symm⟩))
  · skip
    refine lv_aload_n hx hb dX9_way_17 rfl (lv_at hl 0 rfl) ?_
    refine rDep C h hWT hj1 dX9_way_18 ?_
    refine lv_goto (tgt := 29) hx hb dX9_way_21 (by decide) ?_
    exact vx_ret (rI C hr hlk h dX9_way_29 (Nat.le_of_ble_eq_true rfl) (Nat.le_of_ble_eq_true rfl) (⟨rfl, j1, q, ⟨rfl, hj1⟩, ⟨rfl, qh⟩, (if_pos c_14).symm⟩))
