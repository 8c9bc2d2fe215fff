/-! The law: one call of each kind. -/
section LAWCALL
variable {p : Program} {l : Launch} {e : Env} {R : Room} {s : State} {m : MethodId} {args : Array Value} {below : List Frame} {meth : Method} {c : Code} {H : Heap} {locs : List Loc} {cells slots : Nat} {Q : State → Prop}
variable {z : bZ} {v : bV} {sc : Nat → Int32} {ar : Nat → Nat → Int32} {cc : ByteArray} {nL : Nat} {own : String} {pc : Nat} {ls : Array Slot} {rest : List Value}
theorem runH {y : MethodName} {bytes : ByteArray} {maxL mc ms n ix : Nat} {ret : Option FieldType} {rm : Room} {As : List Value} {hh : List (Nat × Nat × Nat × Nat)} {Qc : Array Value → State → Outcome → State → Prop} (C : cX z p m c cc nL s args own) (h : hH z v sc ar s H locs) (hM : Met l y (Cond.codeWith y bytes maxL ret hh :: uW) rm (pC z v sc ar As) Qc mc ms (zA z)) (hG : GoodIn uW (va_wsS own ix y (Cond.codeWith y bytes maxL ret hh :: uW))) (hd : okN y n)
    (hrm : rm.cells = mc ∧ rm.slots = ms) (hn : As.length = n) (hl : ls.size = nL) {st0 : List Value} (hst : st0 = As.reverse ++ rest) (hW : (rest.map fun v => v.category).sum ≤ 8) (hdg : decode cc pc = .ok (.invokestatic ix, 3))
    (hR : rm.frames + 1 ≤ R.frames ∧ 8 + (maxL + 11) + rm.locals ≤ R.locals) (hf : cells + mc ≤ R.cells ∧ slots + ms ≤ R.slots) : va_Run p l e R s m args below meth c H locs cells slots mc ms (F0 m pc ls st0) rest (Qc As.toArray) (zA z) :=
  vx_runSW C.1 hM (vx_cwSW n C.1.2.2.2.2 hG rfl hrm.1 hrm.2 hd hR) (preS C h) rfl hn hl hst (lv_room (m := m) (pc := pc) (ls := ls) (rest := st0) hW) hdg hf
theorem gI_H {own : String} {ix n : Nat} {y : MethodName} {b : ByteArray} {r : Option FieldType} {hh : List (Nat × Nat × Nat × Nat)} (h1 : Cond.methodLink own ix y ∈ uW) (h2 : Cond.static y ∈ uW) (h3 : Cond.initialized y.cls ∈ uW) (h5 : Cond.codeWith y b n r hh ∈ uW) : GoodIn uW (va_wsS own ix y (Cond.codeWith y b n r hh :: uW)) :=
  gI_cons h1 (gI_cons h2 (gI_cons h3 (gI_cons h5 gI_all)))
/-- a number of the script -/
theorem ldX {b L i : Nat} {xs : Nat → Int32} (C : cX z p m c cc nL s args own) (h : hH z v sc ar s H locs) (hX : va_X b L xs s s.heap ∧ b < s.heap.size ∧ ¬ zA z b ∧ L ≤ 2560) (hi : i < L) (hd : decode cc pc = .ok (.iaload, 1)) (kk : W p l e R s m args below meth c H locs cells slots Q (F0 m (pc + 1) ls (.int (xs i) :: rest))) : W p l e R s m args below meth c H locs cells slots Q (F0 m pc ls (.int (nI i) :: .ref b :: rest)) := by
  obtain ⟨h1, h2, h3, h4⟩ := hX
  refine va_sld C.1.1 C.1.2.1 h1 h2 h3 h.2 (vp_in_nI hi (by omega)) hd ?_
  rw [nI_clamp (by omega)]
  exact kk
end LAWCALL
abbrev lvL (z : bZ) (b i : Nat) : List (Nat × Value) := [(0, .ref b), (1, .ref (zad z 0)), (2, .ref (zad z 27)), (3, .ref (zad z 53)), (4, .int (nI i))]
/-- where the law goes on after a call -/
def lK (p : Program) (l : Launch) (e : Env) (s : State) (m : MethodId) (args : Array Value) (below : List Frame) (meth : Method) (c : Code) (Q : State → Prop) (z : bZ) (b i cells slots : Nat) : Prop := ∀ (v : bV) (sc : Nat → Int32) (ar : Nat → Nat → Int32) (H : Heap) (locs : List Loc) (ls : Array Slot) (cells1 slots1 : Nat), JI v sc ar → hH z v sc ar s H locs → lv_has ls 7 (lvL z b i) → cells1 ≤ cells + 9 → slots1 ≤ slots + 60 → W p l e room_1 s m args below meth c H locs cells1 slots1 Q (F0 m 1113 ls [])

theorem gv_L_69 : GoodIn uW (wsV RL 69 RX10 yX10_coding (Cond.code yX10_coding cX10_coding 6 (some .int) :: uW)) := gI_V (uW_of (by decide +kernel) rfl) (uW_of (by decide +kernel) rfl) (uW_of (by decide +kernel) rfl) (uW_of (by decide +kernel) rfl) (uW_of (by decide +kernel) rfl)
theorem gv_L_69_n : okN yX10_coding 4 := by decide +kernel
theorem gv_L_70 : GoodIn uW (wsV RL 70 RX10 yX10_thrown (Cond.code yX10_thrown cX10_thrown 1 (some .int) :: uW)) := gI_V (uW_of (by decide +kernel) rfl) (uW_of (by decide +kernel) rfl) (uW_of (by decide +kernel) rfl) (uW_of (by decide +kernel) rfl) (uW_of (by decide +kernel) rfl)
theorem gv_L_70_n : okN yX10_thrown 0 := by decide +kernel
theorem gh_64 : GoodIn uW (va_wsS RL 64 yL_coding (Cond.codeWith yL_coding cL_coding 7 (some .int) [(0, 14, 17, 13), (0, 14, 21, 15)] :: uW)) := gI_H (uW_of (by decide +kernel) rfl) (uW_of (by decide +kernel) rfl) (uW_of (by decide +kernel) rfl) (uW_of (by decide +kernel) rfl)
theorem gh_64_n : okN yL_coding 6 := by decide +kernel
set_option maxHeartbeats 4000000 in
set_option maxRecDepth 100000 in
theorem lc_coding {p : Program} {l : Launch} {e : Env} {s : State} {m : MethodId} {args : Array Value} {below : List Frame} {meth : Method} {c : Code} {Q : State → Prop} {z : bZ} {v : bV} {sc : Nat → Int32} {ar : Nat → Nat → Int32} {H : Heap} {locs : List Loc} {ls : Array Slot} {b L i cells slots : Nat} {xs : Nat → Int32} (C : cX z p m c cL_law 7 s args RL) (hl0 : l.stackTraces = false) (hX : va_X b L xs s s.heap ∧ b < s.heap.size ∧ ¬ zA z b ∧ L ≤ 2560) (hi : i + 5 ≤ L) (J : JI v sc ar) (h : hH z v sc ar s H locs) (hl : lv_has ls 7 (lvL z b i)) (hce : cells + 9 ≤ room_1.cells) (hsl : slots + 60 ≤ room_1.slots) (kk : lK p l e s m args below meth c Q z b i cells slots) : W p l e room_1 s m args below meth c H locs cells slots Q (F0 m 128 ls []) := by
  have hx := C.1.1
  have hb := C.1.2.1
  have hi0 := hX.2.2.2
  obtain ⟨K, N, n, rf, wt, dp, wa, hC, hR⟩ := J
  obtain ⟨c0, cK, cv, cW, c1, cN, c3, cn, c4, crf⟩ := id hC
  have hl : lv_has ls 7 [(0, .ref (b)), (1, .ref (zad z 0)), (2, .ref (zad z 27)), (3, .ref (zad z 53)), (4, .int (nI (i)))] := hl
  refine lv_aload_n hx hb dL_law_128 rfl (lv_at hl 1 rfl) ?_
  refine lv_aload_n hx hb dL_law_129 rfl (lv_at hl 0 rfl) ?_
  refine lv_iload hx hb dL_law_130 (lv_at hl 4 rfl) ?_
  refine lv_iconst (v := nI (1)) hx hb dL_law_132 (by decide) ?_
  refine lv_iadd hx hb dL_law_133 ?_
  refine tI (y := nI (i + 1)) (nI_add _ _) ?_
  refine ldX C h hX (i := i + 1) (by omega) dL_law_134 ?_
  refine lv_aload_n hx hb dL_law_135 rfl (lv_at hl 0 rfl) ?_
  refine lv_iload hx hb dL_law_136 (lv_at hl 4 rfl) ?_
  refine lv_iconst (v := nI (2)) hx hb dL_law_138 (by decide) ?_
  refine lv_iadd hx hb dL_law_139 ?_
  refine tI (y := nI (i + 2)) (nI_add _ _) ?_
  refine ldX C h hX (i := i + 2) (by omega) dL_law_140 ?_
  refine lv_aload_n hx hb dL_law_141 rfl (lv_at hl 0 rfl) ?_
  refine lv_iload hx hb dL_law_142 (lv_at hl 4 rfl) ?_
  refine lv_iconst (v := nI (3)) hx hb dL_law_144 (by decide) ?_
  refine lv_iadd hx hb dL_law_145 ?_
  refine tI (y := nI (i + 3)) (nI_add _ _) ?_
  refine ldX C h hX (i := i + 3) (by omega) dL_law_146 ?_
  refine lv_aload_n hx hb dL_law_147 rfl (lv_at hl 0 rfl) ?_
  refine lv_iload hx hb dL_law_148 (lv_at hl 4 rfl) ?_
  refine lv_iconst (v := nI (4)) hx hb dL_law_150 (by decide) ?_
  refine lv_iadd hx hb dL_law_151 ?_
  refine tI (y := nI (i + 4)) (nI_add _ _) ?_
  refine ldX C h hX (i := i + 4) (by omega) dL_law_152 ?_
  refine lv_aload_n hx hb dL_law_153 rfl (lv_at hl 3 rfl) ?_
  refine backI h (runH (As := [.ref (zad z 0), .int (xs (i + 1)), .int (xs (i + 2)), .int (xs (i + 3)), .int (xs (i + 4)), .ref (zad z 53)]) (rest := []) C h (w_coding l z v sc ar hl0 K (xs (i + 1)) (xs (i + 2)) (xs (i + 3)) (xs (i + 4)) c0 cK) gh_64 gh_64_n ⟨rfl, rfl⟩ rfl hl.1 rfl (Nat.le_of_ble_eq_true rfl) dL_law_154 ⟨Nat.le_of_ble_eq_true rfl, Nat.le_of_ble_eq_true rfl⟩ ⟨by omega, by omega⟩) (fun k v1 sc1 ar1 H locs hw h => ?_)
  have hF := F_coding (b := 0) (u2 := (v, sc, ar)) hC hR hw
  obtain ⟨q21, qW, q22, q23, q24, -, -, q35⟩ := hR.fr hF
  refine lv_istore (lv' := [(5, .int (k)), (0, .ref (b)), (1, .ref (zad z 0)), (2, .ref (zad z 27)), (3, .ref (zad z 53)), (4, .int (nI (i)))]) hx hb dL_law_157 hl (by decide) rfl (fun ls hl => ?_)
  refine lv_aload_n hx hb dL_law_159 rfl (lv_at hl 3 rfl) ?_
  refine lv_aload_n hx hb dL_law_160 rfl (lv_at hl 1 rfl) ?_
  refine lv_iload hx hb dL_law_161 (lv_at hl 5 rfl) ?_
  refine lv_iconst (v := nI (1)) hx hb dL_law_163 (by decide) ?_
  refine lv_iadd hx hb dL_law_164 ?_
  refine tI (y := nI (i + 1)) (nI_add _ _) ?_
  refine ldX C h hX (i := i + 1) (by omega) dL_law_165 ?_
  refine lv_aload_n hx hb dL_law_166 rfl (lv_at hl 1 rfl) ?_
  refine lv_iload hx hb dL_law_167 (lv_at hl 5 rfl) ?_
  refine lv_iconst (v := nI (2)) hx hb dL_law_169 (by decide) ?_
  refine lv_iadd hx hb dL_law_170 ?_
  refine tI (y := nI (i + 2)) (nI_add _ _) ?_
  refine ldX C h hX (i := i + 2) (by omega) dL_law_171 ?_
  refine lv_aload_n hx hb dL_law_172 rfl (lv_at hl 1 rfl) ?_
  refine lv_iload hx hb dL_law_173 (lv_at hl 5 rfl) ?_
  refine lv_iconst (v := nI (3)) hx hb dL_law_175 (by decide) ?_
  refine lv_iadd hx hb dL_law_176 ?_
  refine tI (y := nI (i + 3)) (nI_add _ _) ?_
  refine ldX C h hX (i := i + 3) (by omega) dL_law_177 ?_
  refine lv_aload_n hx hb dL_law_178 rfl (lv_at hl 1 rfl) ?_
  refine lv_iload hx hb dL_law_179 (lv_at hl 5 rfl) ?_
  refine lv_iconst (v := nI (4)) hx hb dL_law_181 (by decide) ?_
  refine lv_iadd hx hb dL_law_182 ?_
  refine tI (y := nI (i + 4)) (nI_add _ _) ?_
  refine ldX C h hX (i := i + 4) (by omega) dL_law_183 ?_
  refine backI h (runV (As := [.int (xs (i + 1)), .int (xs (i + 2)), .int (xs (i + 3)), .int (xs (i + 4))]) (rest := []) C h (r_coding l z v1 sc1 ar1 K (xs (i + 1)) (xs (i + 2)) (xs (i + 3)) (xs (i + 4)) q21 cK) gv_L_69 gv_L_69_n ⟨rfl, rfl⟩ (r_Ref C h) rfl hl.1 rfl (Nat.le_of_ble_eq_true rfl) dL_law_184 ⟨Nat.le_of_ble_eq_true rfl, Nat.le_of_ble_eq_true rfl⟩ ⟨by omega, by omega⟩) (fun b2 v2 sc2 ar2 H locs hr h => ?_)
  obtain ⟨kc, hkc, rfl, e20, eb, J2⟩ := M_coding (u2 := (v2, sc2, ar2)) hC hR hw hr
  have J2 : JI v2 sc2 ar2 := J2
  refine lv_istore (lv' := [(6, .int (b2)), (5, .int (nI (kc))), (0, .ref (b)), (1, .ref (zad z 0)), (2, .ref (zad z 27)), (3, .ref (zad z 53)), (4, .int (nI (i)))]) hx hb dL_law_187 hl (by decide) rfl (fun ls hl => ?_)
  refine lv_aload_n hx hb dL_law_189 rfl (lv_at hl 4 rfl) ?_
  refine backI h (runV (As := []) (rest := []) C h (r_thrown l z v2 sc2 ar2) gv_L_70 gv_L_70_n ⟨rfl, rfl⟩ (r_Ref C h) rfl hl.1 rfl (Nat.le_of_ble_eq_true rfl) dL_law_190 ⟨Nat.le_of_ble_eq_true rfl, Nat.le_of_ble_eq_true rfl⟩ ⟨by omega, by omega⟩) (fun t v3 sc3 ar3 H locs ht h => ?_)
  have h : hH z v2 sc2 ar2 s H locs := uEq ht.2 h
  refine tI (y := nI kc) (ht.1.trans e20) ?_
  refine lv_iload hx hb dL_law_193 (lv_at hl 1 rfl) ?_
  refine jN_eq (tgt := 200) (a := kc) (b := kc) C (by omega) (by omega) dL_law_195 (by decide) (fun c_195 => ?_) (fun c_195 => absurd rfl c_195)
  refine lv_iload hx hb dL_law_200 (lv_at hl 1 rfl) ?_
  refine zN_ne (tgt := 217) (a := kc) C (by omega) dL_law_202 (by decide) (fun c_202 => ?_) (fun c_202 => ?_)
  · skip
    refine lv_goto (tgt := 1113) hx hb dL_law_217 (by decide) ?_
    exact kk v2 sc2 ar2 H locs ls _ _ J2 h (lv_sub hl [2, 3, 4, 5, 6] rfl) (by omega) (by omega)
  · skip
    refine lv_aload_n hx hb dL_law_205 rfl (lv_at hl 5 rfl) ?_
    refine lv_iconst (v := nI (0)) hx hb dL_law_206 (by decide) ?_
    refine ldJ C h dL_law_207 ?_
    refine tL (y := (b2).toInt64) (eb c_202) ?_
    refine lv_iload hx hb dL_law_208 (lv_at hl 0 rfl) ?_
    refine lv_i2l (v := (b2).toInt64) hx hb dL_law_210 rfl ?_
    refine W.lcmp hx hb dL_law_211 ?_
    refine lv_if_eq (tgt := 217) hx hb dL_law_212 (by decide) (fun c_212 => ?_) (fun c_212 => absurd ((lg_cmp_eq _ _).mpr rfl) c_212)
    refine lv_goto (tgt := 1113) hx hb dL_law_217 (by decide) ?_
    exact kk v2 sc2 ar2 H locs ls _ _ J2 h (lv_sub hl [2, 3, 4, 5, 6] rfl) (by omega) (by omega)
theorem gv_L_77 : GoodIn uW (wsV RL 77 RX10 yX10_run (Cond.code yX10_run cX10_run 4 (some .int) :: uW)) := gI_V (uW_of (by decide +kernel) rfl) (uW_of (by decide +kernel) rfl) (uW_of (by decide +kernel) rfl) (uW_of (by decide +kernel) rfl) (uW_of (by decide +kernel) rfl)
theorem gv_L_77_n : okN yX10_run 3 := by decide +kernel
theorem gh_74 : GoodIn uW (va_wsS RL 74 yL_run (Cond.codeWith yL_run cL_run 6 (some .int) [(0, 12, 15, 13), (0, 12, 19, 15)] :: uW)) := gI_H (uW_of (by decide +kernel) rfl) (uW_of (by decide +kernel) rfl) (uW_of (by decide +kernel) rfl) (uW_of (by decide +kernel) rfl)
theorem gh_74_n : okN yL_run 5 := by decide +kernel
set_option maxHeartbeats 4000000 in
set_option maxRecDepth 100000 in
theorem lc_run {p : Program} {l : Launch} {e : Env} {s : State} {m : MethodId} {args : Array Value} {below : List Frame} {meth : Method} {c : Code} {Q : State → Prop} {z : bZ} {v : bV} {sc : Nat → Int32} {ar : Nat → Nat → Int32} {H : Heap} {locs : List Loc} {ls : Array Slot} {b L i cells slots : Nat} {xs : Nat → Int32} (C : cX z p m c cL_law 7 s args RL) (hl0 : l.stackTraces = false) (hX : va_X b L xs s s.heap ∧ b < s.heap.size ∧ ¬ zA z b ∧ L ≤ 2560) (hi : i + 5 ≤ L) (J : JI v sc ar) (h : hH z v sc ar s H locs) (hl : lv_has ls 7 (lvL z b i)) (hce : cells + 9 ≤ room_1.cells) (hsl : slots + 60 ≤ room_1.slots) (kk : lK p l e s m args below meth c Q z b i cells slots) : W p l e room_1 s m args below meth c H locs cells slots Q (F0 m 220 ls []) := by
  have hx := C.1.1
  have hb := C.1.2.1
  have hi0 := hX.2.2.2
  obtain ⟨K, N, n, rf, wt, dp, wa, hC, hR⟩ := J
  obtain ⟨c0, cK, cv, cW, c1, cN, c3, cn, c4, crf⟩ := id hC
  have hl : lv_has ls 7 [(0, .ref (b)), (1, .ref (zad z 0)), (2, .ref (zad z 27)), (3, .ref (zad z 53)), (4, .int (nI (i)))] := hl
  refine lv_aload_n hx hb dL_law_220 rfl (lv_at hl 1 rfl) ?_
  refine lv_aload_n hx hb dL_law_221 rfl (lv_at hl 0 rfl) ?_
  refine lv_iload hx hb dL_law_222 (lv_at hl 4 rfl) ?_
  refine lv_iconst (v := nI (1)) hx hb dL_law_224 (by decide) ?_
  refine lv_iadd hx hb dL_law_225 ?_
  refine tI (y := nI (i + 1)) (nI_add _ _) ?_
  refine ldX C h hX (i := i + 1) (by omega) dL_law_226 ?_
  refine lv_aload_n hx hb dL_law_227 rfl (lv_at hl 0 rfl) ?_
  refine lv_iload hx hb dL_law_228 (lv_at hl 4 rfl) ?_
  refine lv_iconst (v := nI (2)) hx hb dL_law_230 (by decide) ?_
  refine lv_iadd hx hb dL_law_231 ?_
  refine tI (y := nI (i + 2)) (nI_add _ _) ?_
  refine ldX C h hX (i := i + 2) (by omega) dL_law_232 ?_
  refine lv_aload_n hx hb dL_law_233 rfl (lv_at hl 0 rfl) ?_
  refine lv_iload hx hb dL_law_234 (lv_at hl 4 rfl) ?_
  refine lv_iconst (v := nI (3)) hx hb dL_law_236 (by decide) ?_
  refine lv_iadd hx hb dL_law_237 ?_
  refine tI (y := nI (i + 3)) (nI_add _ _) ?_
  refine ldX C h hX (i := i + 3) (by omega) dL_law_238 ?_
  refine lv_aload_n hx hb dL_law_239 rfl (lv_at hl 3 rfl) ?_
  refine backI h (runH (As := [.ref (zad z 0), .int (xs (i + 1)), .int (xs (i + 2)), .int (xs (i + 3)), .ref (zad z 53)]) (rest := []) C h (w_run l z v sc ar hl0 K wt dp wa (xs (i + 1)) (xs (i + 2)) (xs (i + 3)) c0 cK cv cW) gh_74 gh_74_n ⟨rfl, rfl⟩ rfl hl.1 rfl (Nat.le_of_ble_eq_true rfl) dL_law_240 ⟨Nat.le_of_ble_eq_true rfl, Nat.le_of_ble_eq_true rfl⟩ ⟨by omega, by omega⟩) (fun k v1 sc1 ar1 H locs hw h => ?_)
  have hF := F_run (b := 0) (u2 := (v, sc, ar)) hC hR hw
  obtain ⟨q21, qW, q22, q23, q24, -, -, q35⟩ := hR.fr hF
  refine lv_istore (lv' := [(5, .int (k)), (0, .ref (b)), (1, .ref (zad z 0)), (2, .ref (zad z 27)), (3, .ref (zad z 53)), (4, .int (nI (i)))]) hx hb dL_law_243 hl (by decide) rfl (fun ls hl => ?_)
  refine lv_aload_n hx hb dL_law_245 rfl (lv_at hl 3 rfl) ?_
  refine lv_aload_n hx hb dL_law_246 rfl (lv_at hl 1 rfl) ?_
  refine lv_iload hx hb dL_law_247 (lv_at hl 5 rfl) ?_
  refine lv_iconst (v := nI (1)) hx hb dL_law_249 (by decide) ?_
  refine lv_iadd hx hb dL_law_250 ?_
  refine tI (y := nI (i + 1)) (nI_add _ _) ?_
  refine ldX C h hX (i := i + 1) (by omega) dL_law_251 ?_
  refine lv_aload_n hx hb dL_law_252 rfl (lv_at hl 1 rfl) ?_
  refine lv_iload hx hb dL_law_253 (lv_at hl 5 rfl) ?_
  refine lv_iconst (v := nI (2)) hx hb dL_law_255 (by decide) ?_
  refine lv_iadd hx hb dL_law_256 ?_
  refine tI (y := nI (i + 2)) (nI_add _ _) ?_
  refine ldX C h hX (i := i + 2) (by omega) dL_law_257 ?_
  refine lv_aload_n hx hb dL_law_258 rfl (lv_at hl 1 rfl) ?_
  refine lv_iload hx hb dL_law_259 (lv_at hl 5 rfl) ?_
  refine lv_iconst (v := nI (3)) hx hb dL_law_261 (by decide) ?_
  refine lv_iadd hx hb dL_law_262 ?_
  refine tI (y := nI (i + 3)) (nI_add _ _) ?_
  refine ldX C h hX (i := i + 3) (by omega) dL_law_263 ?_
  refine backI h (runV (As := [.int (xs (i + 1)), .int (xs (i + 2)), .int (xs (i + 3))]) (rest := []) C h (r_run l z v1 sc1 ar1 K wt dp (xs (i + 1)) (xs (i + 2)) (xs (i + 3)) q21 cK qW) gv_L_77 gv_L_77_n ⟨rfl, rfl⟩ (r_Ref C h) rfl hl.1 rfl (Nat.le_of_ble_eq_true rfl) dL_law_264 ⟨Nat.le_of_ble_eq_true rfl, Nat.le_of_ble_eq_true rfl⟩ ⟨by omega, by omega⟩) (fun b2 v2 sc2 ar2 H locs hr h => ?_)
  obtain ⟨kc, hkc, rfl, e20, eb, J2⟩ := M_run (u2 := (v2, sc2, ar2)) hC hR hw hr
  have J2 : JI v2 sc2 ar2 := J2
  refine lv_istore (lv' := [(6, .int (b2)), (5, .int (nI (kc))), (0, .ref (b)), (1, .ref (zad z 0)), (2, .ref (zad z 27)), (3, .ref (zad z 53)), (4, .int (nI (i)))]) hx hb dL_law_267 hl (by decide) rfl (fun ls hl => ?_)
  refine lv_aload_n hx hb dL_law_269 rfl (lv_at hl 4 rfl) ?_
  refine backI h (runV (As := []) (rest := []) C h (r_thrown l z v2 sc2 ar2) gv_L_70 gv_L_70_n ⟨rfl, rfl⟩ (r_Ref C h) rfl hl.1 rfl (Nat.le_of_ble_eq_true rfl) dL_law_270 ⟨Nat.le_of_ble_eq_true rfl, Nat.le_of_ble_eq_true rfl⟩ ⟨by omega, by omega⟩) (fun t v3 sc3 ar3 H locs ht h => ?_)
  have h : hH z v2 sc2 ar2 s H locs := uEq ht.2 h
  refine tI (y := nI kc) (ht.1.trans e20) ?_
  refine lv_iload hx hb dL_law_273 (lv_at hl 1 rfl) ?_
  refine jN_eq (tgt := 280) (a := kc) (b := kc) C (by omega) (by omega) dL_law_275 (by decide) (fun c_275 => ?_) (fun c_275 => absurd rfl c_275)
  refine lv_iload hx hb dL_law_280 (lv_at hl 1 rfl) ?_
  refine zN_ne (tgt := 297) (a := kc) C (by omega) dL_law_282 (by decide) (fun c_282 => ?_) (fun c_282 => ?_)
  · skip
    refine lv_goto (tgt := 1113) hx hb dL_law_297 (by decide) ?_
    exact kk v2 sc2 ar2 H locs ls _ _ J2 h (lv_sub hl [2, 3, 4, 5, 6] rfl) (by omega) (by omega)
  · skip
    refine lv_aload_n hx hb dL_law_285 rfl (lv_at hl 5 rfl) ?_
    refine lv_iconst (v := nI (0)) hx hb dL_law_286 (by decide) ?_
    refine ldJ C h dL_law_287 ?_
    refine tL (y := (b2).toInt64) (eb c_282) ?_
    refine lv_iload hx hb dL_law_288 (lv_at hl 0 rfl) ?_
    refine lv_i2l (v := (b2).toInt64) hx hb dL_law_290 rfl ?_
    refine W.lcmp hx hb dL_law_291 ?_
    refine lv_if_eq (tgt := 297) hx hb dL_law_292 (by decide) (fun c_292 => ?_) (fun c_292 => absurd ((lg_cmp_eq _ _).mpr rfl) c_292)
    refine lv_goto (tgt := 1113) hx hb dL_law_297 (by decide) ?_
    exact kk v2 sc2 ar2 H locs ls _ _ J2 h (lv_sub hl [2, 3, 4, 5, 6] rfl) (by omega) (by omega)
theorem gv_L_80 : GoodIn uW (wsV RL 80 RX10 yX10_popular (Cond.code yX10_popular cX10_popular 6 (some .int) :: uW)) := gI_V (uW_of (by decide +kernel) rfl) (uW_of (by decide +kernel) rfl) (uW_of (by decide +kernel) rfl) (uW_of (by decide +kernel) rfl) (uW_of (by decide +kernel) rfl)
theorem gv_L_80_n : okN yX10_popular 4 := by decide +kernel
theorem gh_78 : GoodIn uW (va_wsS RL 78 yL_popular (Cond.codeWith yL_popular cL_popular 7 (some .int) [(0, 14, 17, 13), (0, 14, 21, 15)] :: uW)) := gI_H (uW_of (by decide +kernel) rfl) (uW_of (by decide +kernel) rfl) (uW_of (by decide +kernel) rfl) (uW_of (by decide +kernel) rfl)
theorem gh_78_n : okN yL_popular 6 := by decide +kernel
set_option maxHeartbeats 4000000 in
set_option maxRecDepth 100000 in
theorem lc_popular {p : Program} {l : Launch} {e : Env} {s : State} {m : MethodId} {args : Array Value} {below : List Frame} {meth : Method} {c : Code} {Q : State → Prop} {z : bZ} {v : bV} {sc : Nat → Int32} {ar : Nat → Nat → Int32} {H : Heap} {locs : List Loc} {ls : Array Slot} {b L i cells slots : Nat} {xs : Nat → Int32} (C : cX z p m c cL_law 7 s args RL) (hl0 : l.stackTraces = false) (hX : va_X b L xs s s.heap ∧ b < s.heap.size ∧ ¬ zA z b ∧ L ≤ 2560) (hi : i + 5 ≤ L) (J : JI v sc ar) (h : hH z v sc ar s H locs) (hl : lv_has ls 7 (lvL z b i)) (hce : cells + 9 ≤ room_1.cells) (hsl : slots + 60 ≤ room_1.slots) (kk : lK p l e s m args below meth c Q z b i cells slots) : W p l e room_1 s m args below meth c H locs cells slots Q (F0 m 300 ls []) := by
  have hx := C.1.1
  have hb := C.1.2.1
  have hi0 := hX.2.2.2
  obtain ⟨K, N, n, rf, wt, dp, wa, hC, hR⟩ := J
  obtain ⟨c0, cK, cv, cW, c1, cN, c3, cn, c4, crf⟩ := id hC
  have hl : lv_has ls 7 [(0, .ref (b)), (1, .ref (zad z 0)), (2, .ref (zad z 27)), (3, .ref (zad z 53)), (4, .int (nI (i)))] := hl
  refine lv_aload_n hx hb dL_law_300 rfl (lv_at hl 1 rfl) ?_
  refine lv_aload_n hx hb dL_law_301 rfl (lv_at hl 0 rfl) ?_
  refine lv_iload hx hb dL_law_302 (lv_at hl 4 rfl) ?_
  refine lv_iconst (v := nI (1)) hx hb dL_law_304 (by decide) ?_
  refine lv_iadd hx hb dL_law_305 ?_
  refine tI (y := nI (i + 1)) (nI_add _ _) ?_
  refine ldX C h hX (i := i + 1) (by omega) dL_law_306 ?_
  refine lv_aload_n hx hb dL_law_307 rfl (lv_at hl 0 rfl) ?_
  refine lv_iload hx hb dL_law_308 (lv_at hl 4 rfl) ?_
  refine lv_iconst (v := nI (2)) hx hb dL_law_310 (by decide) ?_
  refine lv_iadd hx hb dL_law_311 ?_
  refine tI (y := nI (i + 2)) (nI_add _ _) ?_
  refine ldX C h hX (i := i + 2) (by omega) dL_law_312 ?_
  refine lv_aload_n hx hb dL_law_313 rfl (lv_at hl 0 rfl) ?_
  refine lv_iload hx hb dL_law_314 (lv_at hl 4 rfl) ?_
  refine lv_iconst (v := nI (3)) hx hb dL_law_316 (by decide) ?_
  refine lv_iadd hx hb dL_law_317 ?_
  refine tI (y := nI (i + 3)) (nI_add _ _) ?_
  refine ldX C h hX (i := i + 3) (by omega) dL_law_318 ?_
  refine lv_aload_n hx hb dL_law_319 rfl (lv_at hl 0 rfl) ?_
  refine lv_iload hx hb dL_law_320 (lv_at hl 4 rfl) ?_
  refine lv_iconst (v := nI (4)) hx hb dL_law_322 (by decide) ?_
  refine lv_iadd hx hb dL_law_323 ?_
  refine tI (y := nI (i + 4)) (nI_add _ _) ?_
  refine ldX C h hX (i := i + 4) (by omega) dL_law_324 ?_
  refine lv_aload_n hx hb dL_law_325 rfl (lv_at hl 3 rfl) ?_
  refine backI h (runH (As := [.ref (zad z 0), .int (xs (i + 1)), .int (xs (i + 2)), .int (xs (i + 3)), .int (xs (i + 4)), .ref (zad z 53)]) (rest := []) C h (w_popular l z v sc ar hl0 K wt dp wa (xs (i + 1)) (xs (i + 2)) (xs (i + 3)) (xs (i + 4)) c0 cK cv cW) gh_78 gh_78_n ⟨rfl, rfl⟩ rfl hl.1 rfl (Nat.le_of_ble_eq_true rfl) dL_law_326 ⟨Nat.le_of_ble_eq_true rfl, Nat.le_of_ble_eq_true rfl⟩ ⟨by omega, by omega⟩) (fun k v1 sc1 ar1 H locs hw h => ?_)
  have hF := F_popular (b := 0) (u2 := (v, sc, ar)) hC hR hw
  obtain ⟨q21, qW, q22, q23, q24, -, -, q35⟩ := hR.fr hF
  refine lv_istore (lv' := [(5, .int (k)), (0, .ref (b)), (1, .ref (zad z 0)), (2, .ref (zad z 27)), (3, .ref (zad z 53)), (4, .int (nI (i)))]) hx hb dL_law_329 hl (by decide) rfl (fun ls hl => ?_)
  refine lv_aload_n hx hb dL_law_331 rfl (lv_at hl 3 rfl) ?_
  refine lv_aload_n hx hb dL_law_332 rfl (lv_at hl 1 rfl) ?_
  refine lv_iload hx hb dL_law_333 (lv_at hl 5 rfl) ?_
  refine lv_iconst (v := nI (1)) hx hb dL_law_335 (by decide) ?_
  refine lv_iadd hx hb dL_law_336 ?_
  refine tI (y := nI (i + 1)) (nI_add _ _) ?_
  refine ldX C h hX (i := i + 1) (by omega) dL_law_337 ?_
  refine lv_aload_n hx hb dL_law_338 rfl (lv_at hl 1 rfl) ?_
  refine lv_iload hx hb dL_law_339 (lv_at hl 5 rfl) ?_
  refine lv_iconst (v := nI (2)) hx hb dL_law_341 (by decide) ?_
  refine lv_iadd hx hb dL_law_342 ?_
  refine tI (y := nI (i + 2)) (nI_add _ _) ?_
  refine ldX C h hX (i := i + 2) (by omega) dL_law_343 ?_
  refine lv_aload_n hx hb dL_law_344 rfl (lv_at hl 1 rfl) ?_
  refine lv_iload hx hb dL_law_345 (lv_at hl 5 rfl) ?_
  refine lv_iconst (v := nI (3)) hx hb dL_law_347 (by decide) ?_
  refine lv_iadd hx hb dL_law_348 ?_
  refine tI (y := nI (i + 3)) (nI_add _ _) ?_
  refine ldX C h hX (i := i + 3) (by omega) dL_law_349 ?_
  refine lv_aload_n hx hb dL_law_350 rfl (lv_at hl 1 rfl) ?_
  refine lv_iload hx hb dL_law_351 (lv_at hl 5 rfl) ?_
  refine lv_iconst (v := nI (4)) hx hb dL_law_353 (by decide) ?_
  refine lv_iadd hx hb dL_law_354 ?_
  refine tI (y := nI (i + 4)) (nI_add _ _) ?_
  refine ldX C h hX (i := i + 4) (by omega) dL_law_355 ?_
  refine backI h (runV (As := [.int (xs (i + 1)), .int (xs (i + 2)), .int (xs (i + 3)), .int (xs (i + 4))]) (rest := []) C h (r_popular l z v1 sc1 ar1 K wt dp (xs (i + 1)) (xs (i + 2)) (xs (i + 3)) (xs (i + 4)) q21 cK qW) gv_L_80 gv_L_80_n ⟨rfl, rfl⟩ (r_Ref C h) rfl hl.1 rfl (Nat.le_of_ble_eq_true rfl) dL_law_356 ⟨Nat.le_of_ble_eq_true rfl, Nat.le_of_ble_eq_true rfl⟩ ⟨by omega, by omega⟩) (fun b2 v2 sc2 ar2 H locs hr h => ?_)
  obtain ⟨kc, hkc, rfl, e20, eb, J2⟩ := M_popular (u2 := (v2, sc2, ar2)) hC hR hw hr
  have J2 : JI v2 sc2 ar2 := J2
  refine lv_istore (lv' := [(6, .int (b2)), (5, .int (nI (kc))), (0, .ref (b)), (1, .ref (zad z 0)), (2, .ref (zad z 27)), (3, .ref (zad z 53)), (4, .int (nI (i)))]) hx hb dL_law_359 hl (by decide) rfl (fun ls hl => ?_)
  refine lv_aload_n hx hb dL_law_361 rfl (lv_at hl 4 rfl) ?_
  refine backI h (runV (As := []) (rest := []) C h (r_thrown l z v2 sc2 ar2) gv_L_70 gv_L_70_n ⟨rfl, rfl⟩ (r_Ref C h) rfl hl.1 rfl (Nat.le_of_ble_eq_true rfl) dL_law_362 ⟨Nat.le_of_ble_eq_true rfl, Nat.le_of_ble_eq_true rfl⟩ ⟨by omega, by omega⟩) (fun t v3 sc3 ar3 H locs ht h => ?_)
  have h : hH z v2 sc2 ar2 s H locs := uEq ht.2 h
  refine tI (y := nI kc) (ht.1.trans e20) ?_
  refine lv_iload hx hb dL_law_365 (lv_at hl 1 rfl) ?_
  refine jN_eq (tgt := 372) (a := kc) (b := kc) C (by omega) (by omega) dL_law_367 (by decide) (fun c_367 => ?_) (fun c_367 => absurd rfl c_367)
  refine lv_iload hx hb dL_law_372 (lv_at hl 1 rfl) ?_
  refine zN_ne (tgt := 389) (a := kc) C (by omega) dL_law_374 (by decide) (fun c_374 => ?_) (fun c_374 => ?_)
  · skip
    refine lv_goto (tgt := 1113) hx hb dL_law_389 (by decide) ?_
    exact kk v2 sc2 ar2 H locs ls _ _ J2 h (lv_sub hl [2, 3, 4, 5, 6] rfl) (by omega) (by omega)
  · skip
    refine lv_aload_n hx hb dL_law_377 rfl (lv_at hl 5 rfl) ?_
    refine lv_iconst (v := nI (0)) hx hb dL_law_378 (by decide) ?_
    refine ldJ C h dL_law_379 ?_
    refine tL (y := (b2).toInt64) (eb c_374) ?_
    refine lv_iload hx hb dL_law_380 (lv_at hl 0 rfl) ?_
    refine lv_i2l (v := (b2).toInt64) hx hb dL_law_382 rfl ?_
    refine W.lcmp hx hb dL_law_383 ?_
    refine lv_if_eq (tgt := 389) hx hb dL_law_384 (by decide) (fun c_384 => ?_) (fun c_384 => absurd ((lg_cmp_eq _ _).mpr rfl) c_384)
    refine lv_goto (tgt := 1113) hx hb dL_law_389 (by decide) ?_
    exact kk v2 sc2 ar2 H locs ls _ _ J2 h (lv_sub hl [2, 3, 4, 5, 6] rfl) (by omega) (by omega)
theorem gv_L_84 : GoodIn uW (wsV RL 84 RX10 yX10_number (Cond.code yX10_number cX10_number 2 (some .int) :: uW)) := gI_V (uW_of (by decide +kernel) rfl) (uW_of (by decide +kernel) rfl) (uW_of (by decide +kernel) rfl) (uW_of (by decide +kernel) rfl) (uW_of (by decide +kernel) rfl)
theorem gv_L_84_n : okN yX10_number 1 := by decide +kernel
theorem gh_81 : GoodIn uW (va_wsS RL 81 yL_number (Cond.codeWith yL_number cL_number 4 (some .int) [(0, 9, 12, 15)] :: uW)) := gI_H (uW_of (by decide +kernel) rfl) (uW_of (by decide +kernel) rfl) (uW_of (by decide +kernel) rfl) (uW_of (by decide +kernel) rfl)
theorem gh_81_n : okN yL_number 3 := by decide +kernel
set_option maxHeartbeats 4000000 in
set_option maxRecDepth 100000 in
theorem lc_number {p : Program} {l : Launch} {e : Env} {s : State} {m : MethodId} {args : Array Value} {below : List Frame} {meth : Method} {c : Code} {Q : State → Prop} {z : bZ} {v : bV} {sc : Nat → Int32} {ar : Nat → Nat → Int32} {H : Heap} {locs : List Loc} {ls : Array Slot} {b L i cells slots : Nat} {xs : Nat → Int32} (C : cX z p m c cL_law 7 s args RL) (hl0 : l.stackTraces = false) (hX : va_X b L xs s s.heap ∧ b < s.heap.size ∧ ¬ zA z b ∧ L ≤ 2560) (hi : i + 5 ≤ L) (J : JI v sc ar) (h : hH z v sc ar s H locs) (hl : lv_has ls 7 (lvL z b i)) (hce : cells + 9 ≤ room_1.cells) (hsl : slots + 60 ≤ room_1.slots) (kk : lK p l e s m args below meth c Q z b i cells slots) : W p l e room_1 s m args below meth c H locs cells slots Q (F0 m 392 ls []) := by
  have hx := C.1.1
  have hb := C.1.2.1
  have hi0 := hX.2.2.2
  obtain ⟨K, N, n, rf, wt, dp, wa, hC, hR⟩ := J
  obtain ⟨c0, cK, cv, cW, c1, cN, c3, cn, c4, crf⟩ := id hC
  have hl : lv_has ls 7 [(0, .ref (b)), (1, .ref (zad z 0)), (2, .ref (zad z 27)), (3, .ref (zad z 53)), (4, .int (nI (i)))] := hl
  refine lv_aload_n hx hb dL_law_392 rfl (lv_at hl 1 rfl) ?_
  refine lv_aload_n hx hb dL_law_393 rfl (lv_at hl 0 rfl) ?_
  refine lv_iload hx hb dL_law_394 (lv_at hl 4 rfl) ?_
  refine lv_iconst (v := nI (1)) hx hb dL_law_396 (by decide) ?_
  refine lv_iadd hx hb dL_law_397 ?_
  refine tI (y := nI (i + 1)) (nI_add _ _) ?_
  refine ldX C h hX (i := i + 1) (by omega) dL_law_398 ?_
  refine lv_aload_n hx hb dL_law_399 rfl (lv_at hl 3 rfl) ?_
  refine backI h (runH (As := [.ref (zad z 0), .int (xs (i + 1)), .ref (zad z 53)]) (rest := []) C h (w_number l z v sc ar hl0 N (xs (i + 1)) c1 cN) gh_81 gh_81_n ⟨rfl, rfl⟩ rfl hl.1 rfl (Nat.le_of_ble_eq_true rfl) dL_law_400 ⟨Nat.le_of_ble_eq_true rfl, Nat.le_of_ble_eq_true rfl⟩ ⟨by omega, by omega⟩) (fun k v1 sc1 ar1 H locs hw h => ?_)
  have hF := F_number (b := 0) (u2 := (v, sc, ar)) hC hR hw
  obtain ⟨q21, qW, q22, q23, q24, -, -, q35⟩ := hR.fr hF
  refine lv_istore (lv' := [(5, .int (k)), (0, .ref (b)), (1, .ref (zad z 0)), (2, .ref (zad z 27)), (3, .ref (zad z 53)), (4, .int (nI (i)))]) hx hb dL_law_403 hl (by decide) rfl (fun ls hl => ?_)
  refine lv_aload_n hx hb dL_law_405 rfl (lv_at hl 3 rfl) ?_
  refine lv_aload_n hx hb dL_law_406 rfl (lv_at hl 1 rfl) ?_
  refine lv_iload hx hb dL_law_407 (lv_at hl 5 rfl) ?_
  refine lv_iconst (v := nI (1)) hx hb dL_law_409 (by decide) ?_
  refine lv_iadd hx hb dL_law_410 ?_
  refine tI (y := nI (i + 1)) (nI_add _ _) ?_
  refine ldX C h hX (i := i + 1) (by omega) dL_law_411 ?_
  refine backI h (runV (As := [.int (xs (i + 1))]) (rest := []) C h (r_number l z v1 sc1 ar1 N (xs (i + 1)) q22 cN) gv_L_84 gv_L_84_n ⟨rfl, rfl⟩ (r_Ref C h) rfl hl.1 rfl (Nat.le_of_ble_eq_true rfl) dL_law_412 ⟨Nat.le_of_ble_eq_true rfl, Nat.le_of_ble_eq_true rfl⟩ ⟨by omega, by omega⟩) (fun b2 v2 sc2 ar2 H locs hr h => ?_)
  obtain ⟨kc, hkc, rfl, e20, eb, J2⟩ := M_number (u2 := (v2, sc2, ar2)) hC hR hw hr
  have J2 : JI v2 sc2 ar2 := J2
  refine lv_istore (lv' := [(6, .int (b2)), (5, .int (nI (kc))), (0, .ref (b)), (1, .ref (zad z 0)), (2, .ref (zad z 27)), (3, .ref (zad z 53)), (4, .int (nI (i)))]) hx hb dL_law_415 hl (by decide) rfl (fun ls hl => ?_)
  refine lv_aload_n hx hb dL_law_417 rfl (lv_at hl 4 rfl) ?_
  refine backI h (runV (As := []) (rest := []) C h (r_thrown l z v2 sc2 ar2) gv_L_70 gv_L_70_n ⟨rfl, rfl⟩ (r_Ref C h) rfl hl.1 rfl (Nat.le_of_ble_eq_true rfl) dL_law_418 ⟨Nat.le_of_ble_eq_true rfl, Nat.le_of_ble_eq_true rfl⟩ ⟨by omega, by omega⟩) (fun t v3 sc3 ar3 H locs ht h => ?_)
  have h : hH z v2 sc2 ar2 s H locs := uEq ht.2 h
  refine tI (y := nI kc) (ht.1.trans e20) ?_
  refine lv_iload hx hb dL_law_421 (lv_at hl 1 rfl) ?_
  refine jN_eq (tgt := 428) (a := kc) (b := kc) C (by omega) (by omega) dL_law_423 (by decide) (fun c_423 => ?_) (fun c_423 => absurd rfl c_423)
  refine lv_iload hx hb dL_law_428 (lv_at hl 1 rfl) ?_
  refine zN_ne (tgt := 445) (a := kc) C (by omega) dL_law_430 (by decide) (fun c_430 => ?_) (fun c_430 => ?_)
  · skip
    refine lv_goto (tgt := 1113) hx hb dL_law_445 (by decide) ?_
    exact kk v2 sc2 ar2 H locs ls _ _ J2 h (lv_sub hl [2, 3, 4, 5, 6] rfl) (by omega) (by omega)
  · skip
    refine lv_aload_n hx hb dL_law_433 rfl (lv_at hl 5 rfl) ?_
    refine lv_iconst (v := nI (0)) hx hb dL_law_434 (by decide) ?_
    refine ldJ C h dL_law_435 ?_
    refine tL (y := (b2).toInt64) (eb c_430) ?_
    refine lv_iload hx hb dL_law_436 (lv_at hl 0 rfl) ?_
    refine lv_i2l (v := (b2).toInt64) hx hb dL_law_438 rfl ?_
    refine W.lcmp hx hb dL_law_439 ?_
    refine lv_if_eq (tgt := 445) hx hb dL_law_440 (by decide) (fun c_440 => ?_) (fun c_440 => absurd ((lg_cmp_eq _ _).mpr rfl) c_440)
    refine lv_goto (tgt := 1113) hx hb dL_law_445 (by decide) ?_
    exact kk v2 sc2 ar2 H locs ls _ _ J2 h (lv_sub hl [2, 3, 4, 5, 6] rfl) (by omega) (by omega)
theorem gv_L_85 : GoodIn uW (wsV RL 85 RX9 yX9_clear (Cond.code yX9_clear cX9_clear 2 (some .int) :: uW)) := gI_V (uW_of (by decide +kernel) rfl) (uW_of (by decide +kernel) rfl) (uW_of (by decide +kernel) rfl) (uW_of (by decide +kernel) rfl) (uW_of (by decide +kernel) rfl)
theorem gv_L_85_n : okN yX9_clear 0 := by decide +kernel
theorem gv_L_88 : GoodIn uW (wsV RL 88 RX10 yX10_clear (Cond.code yX10_clear cX10_clear 2 (some .int) :: uW)) := gI_V (uW_of (by decide +kernel) rfl) (uW_of (by decide +kernel) rfl) (uW_of (by decide +kernel) rfl) (uW_of (by decide +kernel) rfl) (uW_of (by decide +kernel) rfl)
theorem gv_L_88_n : okN yX10_clear 0 := by decide +kernel
set_option maxHeartbeats 4000000 in
set_option maxRecDepth 100000 in
theorem lc_clear {p : Program} {l : Launch} {e : Env} {s : State} {m : MethodId} {args : Array Value} {below : List Frame} {meth : Method} {c : Code} {Q : State → Prop} {z : bZ} {v : bV} {sc : Nat → Int32} {ar : Nat → Nat → Int32} {H : Heap} {locs : List Loc} {ls : Array Slot} {b L i cells slots : Nat} {xs : Nat → Int32} (C : cX z p m c cL_law 7 s args RL) (hl0 : l.stackTraces = false) (hX : va_X b L xs s s.heap ∧ b < s.heap.size ∧ ¬ zA z b ∧ L ≤ 2560) (hi : i + 5 ≤ L) (J : JI v sc ar) (h : hH z v sc ar s H locs) (hl : lv_has ls 7 (lvL z b i)) (hce : cells + 9 ≤ room_1.cells) (hsl : slots + 60 ≤ room_1.slots) (kk : lK p l e s m args below meth c Q z b i cells slots) : W p l e room_1 s m args below meth c H locs cells slots Q (F0 m 448 ls []) := by
  have hx := C.1.1
  have hb := C.1.2.1
  have hi0 := hX.2.2.2
  obtain ⟨K, N, n, rf, wt, dp, wa, hC, hR⟩ := J
  obtain ⟨c0, cK, cv, cW, c1, cN, c3, cn, c4, crf⟩ := id hC
  have hl : lv_has ls 7 [(0, .ref (b)), (1, .ref (zad z 0)), (2, .ref (zad z 27)), (3, .ref (zad z 53)), (4, .int (nI (i)))] := hl
  refine lv_aload_n hx hb dL_law_448 rfl (lv_at hl 1 rfl) ?_
  refine backI h (runV (As := []) (rest := []) C h (k_clear l z v sc ar N c1) gv_L_85 gv_L_85_n ⟨rfl, rfl⟩ (r_BM C h) rfl hl.1 rfl (Nat.le_of_ble_eq_true rfl) dL_law_449 ⟨Nat.le_of_ble_eq_true rfl, Nat.le_of_ble_eq_true rfl⟩ ⟨by omega, by omega⟩) (fun k v1 sc1 ar1 H locs hw h => ?_)
  have hF := F_clear (b := 0) (u2 := (v, sc, ar)) hC hR hw
  obtain ⟨q21, qW, q22, q23, q24, -, -, q35⟩ := hR.fr hF
  refine lv_aload_n hx hb dL_law_452 rfl (lv_at hl 2 rfl) ?_
  refine backI h (runV (As := []) (rest := [.int (k)]) C h (r_clear l z v1 sc1 ar1 N q22) gv_L_88 gv_L_88_n ⟨rfl, rfl⟩ (r_Ref C h) rfl hl.1 rfl (Nat.le_of_ble_eq_true rfl) dL_law_453 ⟨Nat.le_of_ble_eq_true rfl, Nat.le_of_ble_eq_true rfl⟩ ⟨by omega, by omega⟩) (fun b2 v2 sc2 ar2 H locs hr h => ?_)
  obtain ⟨rfl, J2⟩ := M_clear (u2 := (v2, sc2, ar2)) hC hR hw hr
  have J2 : JI v2 sc2 ar2 := J2
  refine lv_icmp_eq (tgt := 1113) hx hb dL_law_456 (by decide) (fun c_456 => ?_) (fun c_456 => absurd rfl c_456)
  exact kk v2 sc2 ar2 H locs ls _ _ J2 h (lv_sub hl [0, 1, 2, 3, 4] rfl) (by omega) (by omega)
theorem gv_L_89 : GoodIn uW (wsV RL 89 RX9 yX9_row (Cond.code yX9_row cX9_row 2 (some .int) :: uW)) := gI_V (uW_of (by decide +kernel) rfl) (uW_of (by decide +kernel) rfl) (uW_of (by decide +kernel) rfl) (uW_of (by decide +kernel) rfl) (uW_of (by decide +kernel) rfl)
theorem gv_L_89_n : okN yX9_row 1 := by decide +kernel
theorem gv_L_92 : GoodIn uW (wsV RL 92 RX10 yX10_row (Cond.code yX10_row cX10_row 2 (some .int) :: uW)) := gI_V (uW_of (by decide +kernel) rfl) (uW_of (by decide +kernel) rfl) (uW_of (by decide +kernel) rfl) (uW_of (by decide +kernel) rfl) (uW_of (by decide +kernel) rfl)
theorem gv_L_92_n : okN yX10_row 1 := by decide +kernel
set_option maxHeartbeats 4000000 in
set_option maxRecDepth 100000 in
theorem lc_row {p : Program} {l : Launch} {e : Env} {s : State} {m : MethodId} {args : Array Value} {below : List Frame} {meth : Method} {c : Code} {Q : State → Prop} {z : bZ} {v : bV} {sc : Nat → Int32} {ar : Nat → Nat → Int32} {H : Heap} {locs : List Loc} {ls : Array Slot} {b L i cells slots : Nat} {xs : Nat → Int32} (C : cX z p m c cL_law 7 s args RL) (hl0 : l.stackTraces = false) (hX : va_X b L xs s s.heap ∧ b < s.heap.size ∧ ¬ zA z b ∧ L ≤ 2560) (hi : i + 5 ≤ L) (J : JI v sc ar) (h : hH z v sc ar s H locs) (hl : lv_has ls 7 (lvL z b i)) (hce : cells + 9 ≤ room_1.cells) (hsl : slots + 60 ≤ room_1.slots) (kk : lK p l e s m args below meth c Q z b i cells slots) : W p l e room_1 s m args below meth c H locs cells slots Q (F0 m 461 ls []) := by
  have hx := C.1.1
  have hb := C.1.2.1
  have hi0 := hX.2.2.2
  obtain ⟨K, N, n, rf, wt, dp, wa, hC, hR⟩ := J
  obtain ⟨c0, cK, cv, cW, c1, cN, c3, cn, c4, crf⟩ := id hC
  have hl : lv_has ls 7 [(0, .ref (b)), (1, .ref (zad z 0)), (2, .ref (zad z 27)), (3, .ref (zad z 53)), (4, .int (nI (i)))] := hl
  refine lv_aload_n hx hb dL_law_461 rfl (lv_at hl 1 rfl) ?_
  refine lv_aload_n hx hb dL_law_462 rfl (lv_at hl 0 rfl) ?_
  refine lv_iload hx hb dL_law_463 (lv_at hl 4 rfl) ?_
  refine lv_iconst (v := nI (1)) hx hb dL_law_465 (by decide) ?_
  refine lv_iadd hx hb dL_law_466 ?_
  refine tI (y := nI (i + 1)) (nI_add _ _) ?_
  refine ldX C h hX (i := i + 1) (by omega) dL_law_467 ?_
  refine backI h (runV (As := [.int (xs (i + 1))]) (rest := []) C h (k_row l z v sc ar N (xs (i + 1)) c1 cN) gv_L_89 gv_L_89_n ⟨rfl, rfl⟩ (r_BM C h) rfl hl.1 rfl (Nat.le_of_ble_eq_true rfl) dL_law_468 ⟨Nat.le_of_ble_eq_true rfl, Nat.le_of_ble_eq_true rfl⟩ ⟨by omega, by omega⟩) (fun k v1 sc1 ar1 H locs hw h => ?_)
  have hF := F_row (b := 0) (u2 := (v, sc, ar)) hC hR hw
  obtain ⟨q21, qW, q22, q23, q24, -, -, q35⟩ := hR.fr hF
  refine lv_aload_n hx hb dL_law_471 rfl (lv_at hl 2 rfl) ?_
  refine lv_aload_n hx hb dL_law_472 rfl (lv_at hl 0 rfl) ?_
  refine lv_iload hx hb dL_law_473 (lv_at hl 4 rfl) ?_
  refine lv_iconst (v := nI (1)) hx hb dL_law_475 (by decide) ?_
  refine lv_iadd hx hb dL_law_476 ?_
  refine tI (y := nI (i + 1)) (nI_add _ _) ?_
  refine ldX C h hX (i := i + 1) (by omega) dL_law_477 ?_
  refine backI h (runV (As := [.int (xs (i + 1))]) (rest := [.int (k)]) C h (r_row l z v1 sc1 ar1 N (xs (i + 1)) q22 cN) gv_L_92 gv_L_92_n ⟨rfl, rfl⟩ (r_Ref C h) rfl hl.1 rfl (Nat.le_of_ble_eq_true rfl) dL_law_478 ⟨Nat.le_of_ble_eq_true rfl, Nat.le_of_ble_eq_true rfl⟩ ⟨by omega, by omega⟩) (fun b2 v2 sc2 ar2 H locs hr h => ?_)
  obtain ⟨rfl, J2⟩ := M_row (u2 := (v2, sc2, ar2)) hC hR hw hr
  have J2 : JI v2 sc2 ar2 := J2
  refine lv_icmp_eq (tgt := 1113) hx hb dL_law_481 (by decide) (fun c_481 => ?_) (fun c_481 => absurd rfl c_481)
  exact kk v2 sc2 ar2 H locs ls _ _ J2 h (lv_sub hl [0, 1, 2, 3, 4] rfl) (by omega) (by omega)
theorem gv_L_95 : GoodIn uW (wsV RL 95 RX10 yX10_cost (Cond.code yX10_cost cX10_cost 2 (some .int) :: uW)) := gI_V (uW_of (by decide +kernel) rfl) (uW_of (by decide +kernel) rfl) (uW_of (by decide +kernel) rfl) (uW_of (by decide +kernel) rfl) (uW_of (by decide +kernel) rfl)
theorem gv_L_95_n : okN yX10_cost 1 := by decide +kernel
theorem gh_93 : GoodIn uW (va_wsS RL 93 yL_cost (Cond.codeWith yL_cost cL_cost 4 (some .int) [(0, 9, 12, 13)] :: uW)) := gI_H (uW_of (by decide +kernel) rfl) (uW_of (by decide +kernel) rfl) (uW_of (by decide +kernel) rfl) (uW_of (by decide +kernel) rfl)
theorem gh_93_n : okN yL_cost 3 := by decide +kernel
set_option maxHeartbeats 4000000 in
set_option maxRecDepth 100000 in
theorem lc_cost {p : Program} {l : Launch} {e : Env} {s : State} {m : MethodId} {args : Array Value} {below : List Frame} {meth : Method} {c : Code} {Q : State → Prop} {z : bZ} {v : bV} {sc : Nat → Int32} {ar : Nat → Nat → Int32} {H : Heap} {locs : List Loc} {ls : Array Slot} {b L i cells slots : Nat} {xs : Nat → Int32} (C : cX z p m c cL_law 7 s args RL) (hl0 : l.stackTraces = false) (hX : va_X b L xs s s.heap ∧ b < s.heap.size ∧ ¬ zA z b ∧ L ≤ 2560) (hi : i + 5 ≤ L) (J : JI v sc ar) (h : hH z v sc ar s H locs) (hl : lv_has ls 7 (lvL z b i)) (hce : cells + 9 ≤ room_1.cells) (hsl : slots + 60 ≤ room_1.slots) (kk : lK p l e s m args below meth c Q z b i cells slots) : W p l e room_1 s m args below meth c H locs cells slots Q (F0 m 486 ls []) := by
  have hx := C.1.1
  have hb := C.1.2.1
  have hi0 := hX.2.2.2
  obtain ⟨K, N, n, rf, wt, dp, wa, hC, hR⟩ := J
  obtain ⟨c0, cK, cv, cW, c1, cN, c3, cn, c4, crf⟩ := id hC
  have hl : lv_has ls 7 [(0, .ref (b)), (1, .ref (zad z 0)), (2, .ref (zad z 27)), (3, .ref (zad z 53)), (4, .int (nI (i)))] := hl
  refine lv_aload_n hx hb dL_law_486 rfl (lv_at hl 1 rfl) ?_
  refine lv_aload_n hx hb dL_law_487 rfl (lv_at hl 0 rfl) ?_
  refine lv_iload hx hb dL_law_488 (lv_at hl 4 rfl) ?_
  refine lv_iconst (v := nI (1)) hx hb dL_law_490 (by decide) ?_
  refine lv_iadd hx hb dL_law_491 ?_
  refine tI (y := nI (i + 1)) (nI_add _ _) ?_
  refine ldX C h hX (i := i + 1) (by omega) dL_law_492 ?_
  refine lv_aload_n hx hb dL_law_493 rfl (lv_at hl 3 rfl) ?_
  refine backI h (runH (As := [.ref (zad z 0), .int (xs (i + 1)), .ref (zad z 53)]) (rest := []) C h (w_cost l z v sc ar hl0 K N n wt dp wa (xs (i + 1)) c0 cK cv cW c3 cn c1 cN) gh_93 gh_93_n ⟨rfl, rfl⟩ rfl hl.1 rfl (Nat.le_of_ble_eq_true rfl) dL_law_494 ⟨Nat.le_of_ble_eq_true rfl, Nat.le_of_ble_eq_true rfl⟩ ⟨by omega, by omega⟩) (fun k v1 sc1 ar1 H locs hw h => ?_)
  have hF := F_cost (b := 0) (u2 := (v, sc, ar)) hC hR hw
  obtain ⟨q21, qW, q22, q23, q24, -, -, q35⟩ := hR.fr hF
  refine lv_istore (lv' := [(5, .int (k)), (0, .ref (b)), (1, .ref (zad z 0)), (2, .ref (zad z 27)), (3, .ref (zad z 53)), (4, .int (nI (i)))]) hx hb dL_law_497 hl (by decide) rfl (fun ls hl => ?_)
  refine lv_aload_n hx hb dL_law_499 rfl (lv_at hl 3 rfl) ?_
  refine lv_aload_n hx hb dL_law_500 rfl (lv_at hl 1 rfl) ?_
  refine lv_iload hx hb dL_law_501 (lv_at hl 5 rfl) ?_
  refine lv_iconst (v := nI (1)) hx hb dL_law_503 (by decide) ?_
  refine lv_iadd hx hb dL_law_504 ?_
  refine tI (y := nI (i + 1)) (nI_add _ _) ?_
  refine ldX C h hX (i := i + 1) (by omega) dL_law_505 ?_
  refine backI h (runV (As := [.int (xs (i + 1))]) (rest := []) C h (r_cost l z v1 sc1 ar1 K N wt dp (xs (i + 1)) q21 cK qW q22 cN) gv_L_95 gv_L_95_n ⟨rfl, rfl⟩ (r_Ref C h) rfl hl.1 rfl (Nat.le_of_ble_eq_true rfl) dL_law_506 ⟨Nat.le_of_ble_eq_true rfl, Nat.le_of_ble_eq_true rfl⟩ ⟨by omega, by omega⟩) (fun b2 v2 sc2 ar2 H locs hr h => ?_)
  obtain ⟨kc, hkc, rfl, e20, eb, J2⟩ := M_cost (u2 := (v2, sc2, ar2)) hC hR hw hr
  have J2 : JI v2 sc2 ar2 := J2
  refine lv_istore (lv' := [(6, .int (b2)), (5, .int (nI (kc))), (0, .ref (b)), (1, .ref (zad z 0)), (2, .ref (zad z 27)), (3, .ref (zad z 53)), (4, .int (nI (i)))]) hx hb dL_law_509 hl (by decide) rfl (fun ls hl => ?_)
  refine lv_aload_n hx hb dL_law_511 rfl (lv_at hl 4 rfl) ?_
  refine backI h (runV (As := []) (rest := []) C h (r_thrown l z v2 sc2 ar2) gv_L_70 gv_L_70_n ⟨rfl, rfl⟩ (r_Ref C h) rfl hl.1 rfl (Nat.le_of_ble_eq_true rfl) dL_law_512 ⟨Nat.le_of_ble_eq_true rfl, Nat.le_of_ble_eq_true rfl⟩ ⟨by omega, by omega⟩) (fun t v3 sc3 ar3 H locs ht h => ?_)
  have h : hH z v2 sc2 ar2 s H locs := uEq ht.2 h
  refine tI (y := nI kc) (ht.1.trans e20) ?_
  refine lv_iload hx hb dL_law_515 (lv_at hl 1 rfl) ?_
  refine jN_eq (tgt := 522) (a := kc) (b := kc) C (by omega) (by omega) dL_law_517 (by decide) (fun c_517 => ?_) (fun c_517 => absurd rfl c_517)
  refine lv_iload hx hb dL_law_522 (lv_at hl 1 rfl) ?_
  refine zN_ne (tgt := 539) (a := kc) C (by omega) dL_law_524 (by decide) (fun c_524 => ?_) (fun c_524 => ?_)
  · skip
    refine lv_goto (tgt := 1113) hx hb dL_law_539 (by decide) ?_
    exact kk v2 sc2 ar2 H locs ls _ _ J2 h (lv_sub hl [2, 3, 4, 5, 6] rfl) (by omega) (by omega)
  · skip
    refine lv_aload_n hx hb dL_law_527 rfl (lv_at hl 5 rfl) ?_
    refine lv_iconst (v := nI (0)) hx hb dL_law_528 (by decide) ?_
    refine ldJ C h dL_law_529 ?_
    refine tL (y := (b2).toInt64) (eb c_524) ?_
    refine lv_iload hx hb dL_law_530 (lv_at hl 0 rfl) ?_
    refine lv_i2l (v := (b2).toInt64) hx hb dL_law_532 rfl ?_
    refine W.lcmp hx hb dL_law_533 ?_
    refine lv_if_eq (tgt := 539) hx hb dL_law_534 (by decide) (fun c_534 => ?_) (fun c_534 => absurd ((lg_cmp_eq _ _).mpr rfl) c_534)
    refine lv_goto (tgt := 1113) hx hb dL_law_539 (by decide) ?_
    exact kk v2 sc2 ar2 H locs ls _ _ J2 h (lv_sub hl [2, 3, 4, 5, 6] rfl) (by omega) (by omega)
theorem gv_L_98 : GoodIn uW (wsV RL 98 RX10 yX10_pack (Cond.code yX10_pack cX10_pack 3 (some .int) :: uW)) := gI_V (uW_of (by decide +kernel) rfl) (uW_of (by decide +kernel) rfl) (uW_of (by decide +kernel) rfl) (uW_of (by decide +kernel) rfl) (uW_of (by decide +kernel) rfl)
theorem gv_L_98_n : okN yX10_pack 1 := by decide +kernel
theorem gh_96 : GoodIn uW (va_wsS RL 96 yL_pack (Cond.codeWith yL_pack cL_pack 4 (some .int) [(0, 9, 12, 13), (0, 9, 15, 15)] :: uW)) := gI_H (uW_of (by decide +kernel) rfl) (uW_of (by decide +kernel) rfl) (uW_of (by decide +kernel) rfl) (uW_of (by decide +kernel) rfl)
theorem gh_96_n : okN yL_pack 3 := by decide +kernel
set_option maxHeartbeats 4000000 in
set_option maxRecDepth 100000 in
theorem lc_pack {p : Program} {l : Launch} {e : Env} {s : State} {m : MethodId} {args : Array Value} {below : List Frame} {meth : Method} {c : Code} {Q : State → Prop} {z : bZ} {v : bV} {sc : Nat → Int32} {ar : Nat → Nat → Int32} {H : Heap} {locs : List Loc} {ls : Array Slot} {b L i cells slots : Nat} {xs : Nat → Int32} (C : cX z p m c cL_law 7 s args RL) (hl0 : l.stackTraces = false) (hX : va_X b L xs s s.heap ∧ b < s.heap.size ∧ ¬ zA z b ∧ L ≤ 2560) (hi : i + 5 ≤ L) (J : JI v sc ar) (h : hH z v sc ar s H locs) (hl : lv_has ls 7 (lvL z b i)) (hce : cells + 9 ≤ room_1.cells) (hsl : slots + 60 ≤ room_1.slots) (kk : lK p l e s m args below meth c Q z b i cells slots) : W p l e room_1 s m args below meth c H locs cells slots Q (F0 m 542 ls []) := by
  have hx := C.1.1
  have hb := C.1.2.1
  have hi0 := hX.2.2.2
  obtain ⟨K, N, n, rf, wt, dp, wa, hC, hR⟩ := J
  obtain ⟨c0, cK, cv, cW, c1, cN, c3, cn, c4, crf⟩ := id hC
  have hl : lv_has ls 7 [(0, .ref (b)), (1, .ref (zad z 0)), (2, .ref (zad z 27)), (3, .ref (zad z 53)), (4, .int (nI (i)))] := hl
  refine lv_aload_n hx hb dL_law_542 rfl (lv_at hl 1 rfl) ?_
  refine lv_aload_n hx hb dL_law_543 rfl (lv_at hl 0 rfl) ?_
  refine lv_iload hx hb dL_law_544 (lv_at hl 4 rfl) ?_
  refine lv_iconst (v := nI (1)) hx hb dL_law_546 (by decide) ?_
  refine lv_iadd hx hb dL_law_547 ?_
  refine tI (y := nI (i + 1)) (nI_add _ _) ?_
  refine ldX C h hX (i := i + 1) (by omega) dL_law_548 ?_
  refine lv_aload_n hx hb dL_law_549 rfl (lv_at hl 3 rfl) ?_
  refine backI h (runH (As := [.ref (zad z 0), .int (xs (i + 1)), .ref (zad z 53)]) (rest := []) C h (w_pack l z v sc ar hl0 K N n wt dp wa (xs (i + 1)) c0 cK cv cW c3 cn c1 cN) gh_96 gh_96_n ⟨rfl, rfl⟩ rfl hl.1 rfl (Nat.le_of_ble_eq_true rfl) dL_law_550 ⟨Nat.le_of_ble_eq_true rfl, Nat.le_of_ble_eq_true rfl⟩ ⟨by omega, by omega⟩) (fun k v1 sc1 ar1 H locs hw h => ?_)
  have hF := F_pack (b := 0) (u2 := (v, sc, ar)) hC hR hw
  obtain ⟨q21, qW, q22, q23, q24, -, -, q35⟩ := hR.fr hF
  refine lv_istore (lv' := [(5, .int (k)), (0, .ref (b)), (1, .ref (zad z 0)), (2, .ref (zad z 27)), (3, .ref (zad z 53)), (4, .int (nI (i)))]) hx hb dL_law_553 hl (by decide) rfl (fun ls hl => ?_)
  refine lv_aload_n hx hb dL_law_555 rfl (lv_at hl 3 rfl) ?_
  refine lv_aload_n hx hb dL_law_556 rfl (lv_at hl 1 rfl) ?_
  refine lv_iload hx hb dL_law_557 (lv_at hl 5 rfl) ?_
  refine lv_iconst (v := nI (1)) hx hb dL_law_559 (by decide) ?_
  refine lv_iadd hx hb dL_law_560 ?_
  refine tI (y := nI (i + 1)) (nI_add _ _) ?_
  refine ldX C h hX (i := i + 1) (by omega) dL_law_561 ?_
  refine backI h (runV (As := [.int (xs (i + 1))]) (rest := []) C h (r_pack l z v1 sc1 ar1 K N n wt dp (xs (i + 1)) q21 cK qW q22 cN q23 cn) gv_L_98 gv_L_98_n ⟨rfl, rfl⟩ (r_Ref C h) rfl hl.1 rfl (Nat.le_of_ble_eq_true rfl) dL_law_562 ⟨Nat.le_of_ble_eq_true rfl, Nat.le_of_ble_eq_true rfl⟩ ⟨by omega, by omega⟩) (fun b2 v2 sc2 ar2 H locs hr h => ?_)
  obtain ⟨kc, hkc, rfl, e20, eb, J2⟩ := M_pack (u2 := (v2, sc2, ar2)) hC hR hw hr
  have J2 : JI v2 sc2 ar2 := J2
  refine lv_istore (lv' := [(6, .int (b2)), (5, .int (nI (kc))), (0, .ref (b)), (1, .ref (zad z 0)), (2, .ref (zad z 27)), (3, .ref (zad z 53)), (4, .int (nI (i)))]) hx hb dL_law_565 hl (by decide) rfl (fun ls hl => ?_)
  refine lv_aload_n hx hb dL_law_567 rfl (lv_at hl 4 rfl) ?_
  refine backI h (runV (As := []) (rest := []) C h (r_thrown l z v2 sc2 ar2) gv_L_70 gv_L_70_n ⟨rfl, rfl⟩ (r_Ref C h) rfl hl.1 rfl (Nat.le_of_ble_eq_true rfl) dL_law_568 ⟨Nat.le_of_ble_eq_true rfl, Nat.le_of_ble_eq_true rfl⟩ ⟨by omega, by omega⟩) (fun t v3 sc3 ar3 H locs ht h => ?_)
  have h : hH z v2 sc2 ar2 s H locs := uEq ht.2 h
  refine tI (y := nI kc) (ht.1.trans e20) ?_
  refine lv_iload hx hb dL_law_571 (lv_at hl 1 rfl) ?_
  refine jN_eq (tgt := 578) (a := kc) (b := kc) C (by omega) (by omega) dL_law_573 (by decide) (fun c_573 => ?_) (fun c_573 => absurd rfl c_573)
  refine lv_iload hx hb dL_law_578 (lv_at hl 1 rfl) ?_
  refine zN_ne (tgt := 595) (a := kc) C (by omega) dL_law_580 (by decide) (fun c_580 => ?_) (fun c_580 => ?_)
  · skip
    refine lv_goto (tgt := 1113) hx hb dL_law_595 (by decide) ?_
    exact kk v2 sc2 ar2 H locs ls _ _ J2 h (lv_sub hl [2, 3, 4, 5, 6] rfl) (by omega) (by omega)
  · skip
    refine lv_aload_n hx hb dL_law_583 rfl (lv_at hl 5 rfl) ?_
    refine lv_iconst (v := nI (0)) hx hb dL_law_584 (by decide) ?_
    refine ldJ C h dL_law_585 ?_
    refine tL (y := (b2).toInt64) (eb c_580) ?_
    refine lv_iload hx hb dL_law_586 (lv_at hl 0 rfl) ?_
    refine lv_i2l (v := (b2).toInt64) hx hb dL_law_588 rfl ?_
    refine W.lcmp hx hb dL_law_589 ?_
    refine lv_if_eq (tgt := 595) hx hb dL_law_590 (by decide) (fun c_590 => ?_) (fun c_590 => absurd ((lg_cmp_eq _ _).mpr rfl) c_590)
    refine lv_goto (tgt := 1113) hx hb dL_law_595 (by decide) ?_
    exact kk v2 sc2 ar2 H locs ls _ _ J2 h (lv_sub hl [2, 3, 4, 5, 6] rfl) (by omega) (by omega)
theorem gv_L_102 : GoodIn uW (wsV RL 102 RX10 yX10_unpack (Cond.code yX10_unpack cX10_unpack 4 (some .int) :: uW)) := gI_V (uW_of (by decide +kernel) rfl) (uW_of (by decide +kernel) rfl) (uW_of (by decide +kernel) rfl) (uW_of (by decide +kernel) rfl) (uW_of (by decide +kernel) rfl)
theorem gv_L_102_n : okN yX10_unpack 2 := by decide +kernel
theorem gh_99 : GoodIn uW (va_wsS RL 99 yL_unpack (Cond.codeWith yL_unpack cL_unpack 5 (some .int) [(0, 10, 13, 13)] :: uW)) := gI_H (uW_of (by decide +kernel) rfl) (uW_of (by decide +kernel) rfl) (uW_of (by decide +kernel) rfl) (uW_of (by decide +kernel) rfl)
theorem gh_99_n : okN yL_unpack 4 := by decide +kernel
set_option maxHeartbeats 4000000 in
set_option maxRecDepth 100000 in
theorem lc_unpack {p : Program} {l : Launch} {e : Env} {s : State} {m : MethodId} {args : Array Value} {below : List Frame} {meth : Method} {c : Code} {Q : State → Prop} {z : bZ} {v : bV} {sc : Nat → Int32} {ar : Nat → Nat → Int32} {H : Heap} {locs : List Loc} {ls : Array Slot} {b L i cells slots : Nat} {xs : Nat → Int32} (C : cX z p m c cL_law 7 s args RL) (hl0 : l.stackTraces = false) (hX : va_X b L xs s s.heap ∧ b < s.heap.size ∧ ¬ zA z b ∧ L ≤ 2560) (hi : i + 5 ≤ L) (J : JI v sc ar) (h : hH z v sc ar s H locs) (hl : lv_has ls 7 (lvL z b i)) (hce : cells + 9 ≤ room_1.cells) (hsl : slots + 60 ≤ room_1.slots) (kk : lK p l e s m args below meth c Q z b i cells slots) : W p l e room_1 s m args below meth c H locs cells slots Q (F0 m 598 ls []) := by
  have hx := C.1.1
  have hb := C.1.2.1
  have hi0 := hX.2.2.2
  obtain ⟨K, N, n, rf, wt, dp, wa, hC, hR⟩ := J
  obtain ⟨c0, cK, cv, cW, c1, cN, c3, cn, c4, crf⟩ := id hC
  have hl : lv_has ls 7 [(0, .ref (b)), (1, .ref (zad z 0)), (2, .ref (zad z 27)), (3, .ref (zad z 53)), (4, .int (nI (i)))] := hl
  refine lv_aload_n hx hb dL_law_598 rfl (lv_at hl 1 rfl) ?_
  refine lv_aload_n hx hb dL_law_599 rfl (lv_at hl 0 rfl) ?_
  refine lv_iload hx hb dL_law_600 (lv_at hl 4 rfl) ?_
  refine lv_iconst (v := nI (1)) hx hb dL_law_602 (by decide) ?_
  refine lv_iadd hx hb dL_law_603 ?_
  refine tI (y := nI (i + 1)) (nI_add _ _) ?_
  refine ldX C h hX (i := i + 1) (by omega) dL_law_604 ?_
  refine lv_aload_n hx hb dL_law_605 rfl (lv_at hl 0 rfl) ?_
  refine lv_iload hx hb dL_law_606 (lv_at hl 4 rfl) ?_
  refine lv_iconst (v := nI (2)) hx hb dL_law_608 (by decide) ?_
  refine lv_iadd hx hb dL_law_609 ?_
  refine tI (y := nI (i + 2)) (nI_add _ _) ?_
  refine ldX C h hX (i := i + 2) (by omega) dL_law_610 ?_
  refine lv_aload_n hx hb dL_law_611 rfl (lv_at hl 3 rfl) ?_
  refine backI h (runH (As := [.ref (zad z 0), .int (xs (i + 1)), .int (xs (i + 2)), .ref (zad z 53)]) (rest := []) C h (w_unpack l z v sc ar hl0 K N n rf wt dp wa (xs (i + 1)) (xs (i + 2)) c0 cK cv cW c3 cn c1 cN c4 crf) gh_99 gh_99_n ⟨rfl, rfl⟩ rfl hl.1 rfl (Nat.le_of_ble_eq_true rfl) dL_law_612 ⟨Nat.le_of_ble_eq_true rfl, Nat.le_of_ble_eq_true rfl⟩ ⟨by omega, by omega⟩) (fun k v1 sc1 ar1 H locs hw h => ?_)
  have hF := F_unpack (b := 0) (u2 := (v, sc, ar)) hC hR hw
  obtain ⟨q21, qW, q22, q23, q24, -, -, q35⟩ := hR.fr hF
  refine lv_istore (lv' := [(5, .int (k)), (0, .ref (b)), (1, .ref (zad z 0)), (2, .ref (zad z 27)), (3, .ref (zad z 53)), (4, .int (nI (i)))]) hx hb dL_law_615 hl (by decide) rfl (fun ls hl => ?_)
  refine lv_aload_n hx hb dL_law_617 rfl (lv_at hl 3 rfl) ?_
  refine lv_aload_n hx hb dL_law_618 rfl (lv_at hl 1 rfl) ?_
  refine lv_iload hx hb dL_law_619 (lv_at hl 5 rfl) ?_
  refine lv_iconst (v := nI (1)) hx hb dL_law_621 (by decide) ?_
  refine lv_iadd hx hb dL_law_622 ?_
  refine tI (y := nI (i + 1)) (nI_add _ _) ?_
  refine ldX C h hX (i := i + 1) (by omega) dL_law_623 ?_
  refine lv_aload_n hx hb dL_law_624 rfl (lv_at hl 1 rfl) ?_
  refine lv_iload hx hb dL_law_625 (lv_at hl 5 rfl) ?_
  refine lv_iconst (v := nI (2)) hx hb dL_law_627 (by decide) ?_
  refine lv_iadd hx hb dL_law_628 ?_
  refine tI (y := nI (i + 2)) (nI_add _ _) ?_
  refine ldX C h hX (i := i + 2) (by omega) dL_law_629 ?_
  refine backI h (runV (As := [.int (xs (i + 1)), .int (xs (i + 2))]) (rest := []) C h (r_unpack l z v1 sc1 ar1 K n rf wt dp (bN (ar 11)) (xs (i + 1)) (xs (i + 2)) q21 cK qW q23 cn q24 crf (fun j => bN_lt _ j) q35) gv_L_102 gv_L_102_n ⟨rfl, rfl⟩ (r_Ref C h) rfl hl.1 rfl (Nat.le_of_ble_eq_true rfl) dL_law_630 ⟨Nat.le_of_ble_eq_true rfl, Nat.le_of_ble_eq_true rfl⟩ ⟨by omega, by omega⟩) (fun b2 v2 sc2 ar2 H locs hr h => ?_)
  obtain ⟨kc, hkc, rfl, e20, eb, J2⟩ := M_unpack (u2 := (v2, sc2, ar2)) hC hR hw hr
  have J2 : JI v2 sc2 ar2 := J2
  refine lv_istore (lv' := [(6, .int (b2)), (5, .int (nI (kc))), (0, .ref (b)), (1, .ref (zad z 0)), (2, .ref (zad z 27)), (3, .ref (zad z 53)), (4, .int (nI (i)))]) hx hb dL_law_633 hl (by decide) rfl (fun ls hl => ?_)
  refine lv_aload_n hx hb dL_law_635 rfl (lv_at hl 4 rfl) ?_
  refine backI h (runV (As := []) (rest := []) C h (r_thrown l z v2 sc2 ar2) gv_L_70 gv_L_70_n ⟨rfl, rfl⟩ (r_Ref C h) rfl hl.1 rfl (Nat.le_of_ble_eq_true rfl) dL_law_636 ⟨Nat.le_of_ble_eq_true rfl, Nat.le_of_ble_eq_true rfl⟩ ⟨by omega, by omega⟩) (fun t v3 sc3 ar3 H locs ht h => ?_)
  have h : hH z v2 sc2 ar2 s H locs := uEq ht.2 h
  refine tI (y := nI kc) (ht.1.trans e20) ?_
  refine lv_iload hx hb dL_law_639 (lv_at hl 1 rfl) ?_
  refine jN_eq (tgt := 646) (a := kc) (b := kc) C (by omega) (by omega) dL_law_641 (by decide) (fun c_641 => ?_) (fun c_641 => absurd rfl c_641)
  refine lv_iload hx hb dL_law_646 (lv_at hl 1 rfl) ?_
  refine zN_ne (tgt := 663) (a := kc) C (by omega) dL_law_648 (by decide) (fun c_648 => ?_) (fun c_648 => ?_)
  · skip
    refine lv_goto (tgt := 1113) hx hb dL_law_663 (by decide) ?_
    exact kk v2 sc2 ar2 H locs ls _ _ J2 h (lv_sub hl [2, 3, 4, 5, 6] rfl) (by omega) (by omega)
  · skip
    refine lv_aload_n hx hb dL_law_651 rfl (lv_at hl 5 rfl) ?_
    refine lv_iconst (v := nI (0)) hx hb dL_law_652 (by decide) ?_
    refine ldJ C h dL_law_653 ?_
    refine tL (y := (b2).toInt64) (eb c_648) ?_
    refine lv_iload hx hb dL_law_654 (lv_at hl 0 rfl) ?_
    refine lv_i2l (v := (b2).toInt64) hx hb dL_law_656 rfl ?_
    refine W.lcmp hx hb dL_law_657 ?_
    refine lv_if_eq (tgt := 663) hx hb dL_law_658 (by decide) (fun c_658 => ?_) (fun c_658 => absurd ((lg_cmp_eq _ _).mpr rfl) c_658)
    refine lv_goto (tgt := 1113) hx hb dL_law_663 (by decide) ?_
    exact kk v2 sc2 ar2 H locs ls _ _ J2 h (lv_sub hl [2, 3, 4, 5, 6] rfl) (by omega) (by omega)
theorem gv_L_103 : GoodIn uW (wsV RL 103 RX9 yX9_place (Cond.code yX9_place cX9_place 1 (some .int) :: uW)) := gI_V (uW_of (by decide +kernel) rfl) (uW_of (by decide +kernel) rfl) (uW_of (by decide +kernel) rfl) (uW_of (by decide +kernel) rfl) (uW_of (by decide +kernel) rfl)
theorem gv_L_103_n : okN yX9_place 0 := by decide +kernel
theorem gv_L_106 : GoodIn uW (wsV RL 106 RX10 yX10_place (Cond.code yX10_place cX10_place 1 (some .int) :: uW)) := gI_V (uW_of (by decide +kernel) rfl) (uW_of (by decide +kernel) rfl) (uW_of (by decide +kernel) rfl) (uW_of (by decide +kernel) rfl) (uW_of (by decide +kernel) rfl)
theorem gv_L_106_n : okN yX10_place 0 := by decide +kernel
set_option maxHeartbeats 4000000 in
set_option maxRecDepth 100000 in
theorem lc_place {p : Program} {l : Launch} {e : Env} {s : State} {m : MethodId} {args : Array Value} {below : List Frame} {meth : Method} {c : Code} {Q : State → Prop} {z : bZ} {v : bV} {sc : Nat → Int32} {ar : Nat → Nat → Int32} {H : Heap} {locs : List Loc} {ls : Array Slot} {b L i cells slots : Nat} {xs : Nat → Int32} (C : cX z p m c cL_law 7 s args RL) (hl0 : l.stackTraces = false) (hX : va_X b L xs s s.heap ∧ b < s.heap.size ∧ ¬ zA z b ∧ L ≤ 2560) (hi : i + 5 ≤ L) (J : JI v sc ar) (h : hH z v sc ar s H locs) (hl : lv_has ls 7 (lvL z b i)) (hce : cells + 9 ≤ room_1.cells) (hsl : slots + 60 ≤ room_1.slots) (kk : lK p l e s m args below meth c Q z b i cells slots) : W p l e room_1 s m args below meth c H locs cells slots Q (F0 m 666 ls []) := by
  have hx := C.1.1
  have hb := C.1.2.1
  have hi0 := hX.2.2.2
  obtain ⟨K, N, n, rf, wt, dp, wa, hC, hR⟩ := J
  obtain ⟨c0, cK, cv, cW, c1, cN, c3, cn, c4, crf⟩ := id hC
  have hl : lv_has ls 7 [(0, .ref (b)), (1, .ref (zad z 0)), (2, .ref (zad z 27)), (3, .ref (zad z 53)), (4, .int (nI (i)))] := hl
  refine lv_aload_n hx hb dL_law_666 rfl (lv_at hl 1 rfl) ?_
  refine backI h (runV (As := []) (rest := []) C h (k_place l z v sc ar ) gv_L_103 gv_L_103_n ⟨rfl, rfl⟩ (r_BM C h) rfl hl.1 rfl (Nat.le_of_ble_eq_true rfl) dL_law_667 ⟨Nat.le_of_ble_eq_true rfl, Nat.le_of_ble_eq_true rfl⟩ ⟨by omega, by omega⟩) (fun k v1 sc1 ar1 H locs hw h => ?_)
  have hF := F_place (b := 0) (u2 := (v, sc, ar)) hC hR hw
  obtain ⟨q21, qW, q22, q23, q24, -, -, q35⟩ := hR.fr hF
  refine lv_aload_n hx hb dL_law_670 rfl (lv_at hl 2 rfl) ?_
  refine backI h (runV (As := []) (rest := [.int (k)]) C h (r_place l z v1 sc1 ar1 ) gv_L_106 gv_L_106_n ⟨rfl, rfl⟩ (r_Ref C h) rfl hl.1 rfl (Nat.le_of_ble_eq_true rfl) dL_law_671 ⟨Nat.le_of_ble_eq_true rfl, Nat.le_of_ble_eq_true rfl⟩ ⟨by omega, by omega⟩) (fun b2 v2 sc2 ar2 H locs hr h => ?_)
  obtain ⟨rfl, J2⟩ := M_place (u2 := (v2, sc2, ar2)) hC hR hw hr
  have J2 : JI v2 sc2 ar2 := J2
  refine lv_icmp_eq (tgt := 1113) hx hb dL_law_674 (by decide) (fun c_674 => ?_) (fun c_674 => absurd rfl c_674)
  exact kk v2 sc2 ar2 H locs ls _ _ J2 h (lv_sub hl [0, 1, 2, 3, 4] rfl) (by omega) (by omega)
theorem gv_L_109 : GoodIn uW (wsV RL 109 RX10 yX10_best (Cond.code yX10_best cX10_best 6 (some .int) :: uW)) := gI_V (uW_of (by decide +kernel) rfl) (uW_of (by decide +kernel) rfl) (uW_of (by decide +kernel) rfl) (uW_of (by decide +kernel) rfl) (uW_of (by decide +kernel) rfl)
theorem gv_L_109_n : okN yX10_best 2 := by decide +kernel
theorem gh_107 : GoodIn uW (va_wsS RL 107 yL_best (Cond.codeWith yL_best cL_best 5 (some .int) [(0, 10, 13, 13)] :: uW)) := gI_H (uW_of (by decide +kernel) rfl) (uW_of (by decide +kernel) rfl) (uW_of (by decide +kernel) rfl) (uW_of (by decide +kernel) rfl)
theorem gh_107_n : okN yL_best 4 := by decide +kernel
set_option maxHeartbeats 4000000 in
set_option maxRecDepth 100000 in
theorem lc_best {p : Program} {l : Launch} {e : Env} {s : State} {m : MethodId} {args : Array Value} {below : List Frame} {meth : Method} {c : Code} {Q : State → Prop} {z : bZ} {v : bV} {sc : Nat → Int32} {ar : Nat → Nat → Int32} {H : Heap} {locs : List Loc} {ls : Array Slot} {b L i cells slots : Nat} {xs : Nat → Int32} (C : cX z p m c cL_law 7 s args RL) (hl0 : l.stackTraces = false) (hX : va_X b L xs s s.heap ∧ b < s.heap.size ∧ ¬ zA z b ∧ L ≤ 2560) (hi : i + 5 ≤ L) (J : JI v sc ar) (h : hH z v sc ar s H locs) (hl : lv_has ls 7 (lvL z b i)) (hce : cells + 9 ≤ room_1.cells) (hsl : slots + 60 ≤ room_1.slots) (kk : lK p l e s m args below meth c Q z b i cells slots) : W p l e room_1 s m args below meth c H locs cells slots Q (F0 m 679 ls []) := by
  have hx := C.1.1
  have hb := C.1.2.1
  have hi0 := hX.2.2.2
  obtain ⟨K, N, n, rf, wt, dp, wa, hC, hR⟩ := J
  obtain ⟨c0, cK, cv, cW, c1, cN, c3, cn, c4, crf⟩ := id hC
  have hl : lv_has ls 7 [(0, .ref (b)), (1, .ref (zad z 0)), (2, .ref (zad z 27)), (3, .ref (zad z 53)), (4, .int (nI (i)))] := hl
  refine lv_aload_n hx hb dL_law_679 rfl (lv_at hl 1 rfl) ?_
  refine lv_aload_n hx hb dL_law_680 rfl (lv_at hl 0 rfl) ?_
  refine lv_iload hx hb dL_law_681 (lv_at hl 4 rfl) ?_
  refine lv_iconst (v := nI (1)) hx hb dL_law_683 (by decide) ?_
  refine lv_iadd hx hb dL_law_684 ?_
  refine tI (y := nI (i + 1)) (nI_add _ _) ?_
  refine ldX C h hX (i := i + 1) (by omega) dL_law_685 ?_
  refine lv_aload_n hx hb dL_law_686 rfl (lv_at hl 0 rfl) ?_
  refine lv_iload hx hb dL_law_687 (lv_at hl 4 rfl) ?_
  refine lv_iconst (v := nI (2)) hx hb dL_law_689 (by decide) ?_
  refine lv_iadd hx hb dL_law_690 ?_
  refine tI (y := nI (i + 2)) (nI_add _ _) ?_
  refine ldX C h hX (i := i + 2) (by omega) dL_law_691 ?_
  refine lv_aload_n hx hb dL_law_692 rfl (lv_at hl 3 rfl) ?_
  refine backI h (runH (As := [.ref (zad z 0), .int (xs (i + 1)), .int (xs (i + 2)), .ref (zad z 53)]) (rest := []) C h (w_best l z v sc ar hl0 K N n wt dp wa (xs (i + 1)) (xs (i + 2)) c0 cK cv cW c3 cn c1 cN) gh_107 gh_107_n ⟨rfl, rfl⟩ rfl hl.1 rfl (Nat.le_of_ble_eq_true rfl) dL_law_693 ⟨Nat.le_of_ble_eq_true rfl, Nat.le_of_ble_eq_true rfl⟩ ⟨by omega, by omega⟩) (fun k v1 sc1 ar1 H locs hw h => ?_)
  have hF := F_best (b := 0) (u2 := (v, sc, ar)) hC hR hw
  obtain ⟨q21, qW, q22, q23, q24, -, -, q35⟩ := hR.fr hF
  refine lv_istore (lv' := [(5, .int (k)), (0, .ref (b)), (1, .ref (zad z 0)), (2, .ref (zad z 27)), (3, .ref (zad z 53)), (4, .int (nI (i)))]) hx hb dL_law_696 hl (by decide) rfl (fun ls hl => ?_)
  refine lv_aload_n hx hb dL_law_698 rfl (lv_at hl 3 rfl) ?_
  refine lv_aload_n hx hb dL_law_699 rfl (lv_at hl 1 rfl) ?_
  refine lv_iload hx hb dL_law_700 (lv_at hl 5 rfl) ?_
  refine lv_iconst (v := nI (1)) hx hb dL_law_702 (by decide) ?_
  refine lv_iadd hx hb dL_law_703 ?_
  refine tI (y := nI (i + 1)) (nI_add _ _) ?_
  refine ldX C h hX (i := i + 1) (by omega) dL_law_704 ?_
  refine lv_aload_n hx hb dL_law_705 rfl (lv_at hl 1 rfl) ?_
  refine lv_iload hx hb dL_law_706 (lv_at hl 5 rfl) ?_
  refine lv_iconst (v := nI (2)) hx hb dL_law_708 (by decide) ?_
  refine lv_iadd hx hb dL_law_709 ?_
  refine tI (y := nI (i + 2)) (nI_add _ _) ?_
  refine ldX C h hX (i := i + 2) (by omega) dL_law_710 ?_
  refine backI h (runV (As := [.int (xs (i + 1)), .int (xs (i + 2))]) (rest := []) C h (r_best l z v1 sc1 ar1 K N wt dp (xs (i + 1)) (xs (i + 2)) q21 cK qW q22 cN) gv_L_109 gv_L_109_n ⟨rfl, rfl⟩ (r_Ref C h) rfl hl.1 rfl (Nat.le_of_ble_eq_true rfl) dL_law_711 ⟨Nat.le_of_ble_eq_true rfl, Nat.le_of_ble_eq_true rfl⟩ ⟨by omega, by omega⟩) (fun b2 v2 sc2 ar2 H locs hr h => ?_)
  obtain ⟨kc, hkc, rfl, e20, eb, J2⟩ := M_best (u2 := (v2, sc2, ar2)) hC hR hw hr
  have J2 : JI v2 sc2 ar2 := J2
  refine lv_istore (lv' := [(6, .int (b2)), (5, .int (nI (kc))), (0, .ref (b)), (1, .ref (zad z 0)), (2, .ref (zad z 27)), (3, .ref (zad z 53)), (4, .int (nI (i)))]) hx hb dL_law_714 hl (by decide) rfl (fun ls hl => ?_)
  refine lv_aload_n hx hb dL_law_716 rfl (lv_at hl 4 rfl) ?_
  refine backI h (runV (As := []) (rest := []) C h (r_thrown l z v2 sc2 ar2) gv_L_70 gv_L_70_n ⟨rfl, rfl⟩ (r_Ref C h) rfl hl.1 rfl (Nat.le_of_ble_eq_true rfl) dL_law_717 ⟨Nat.le_of_ble_eq_true rfl, Nat.le_of_ble_eq_true rfl⟩ ⟨by omega, by omega⟩) (fun t v3 sc3 ar3 H locs ht h => ?_)
  have h : hH z v2 sc2 ar2 s H locs := uEq ht.2 h
  refine tI (y := nI kc) (ht.1.trans e20) ?_
  refine lv_iload hx hb dL_law_720 (lv_at hl 1 rfl) ?_
  refine jN_eq (tgt := 727) (a := kc) (b := kc) C (by omega) (by omega) dL_law_722 (by decide) (fun c_722 => ?_) (fun c_722 => absurd rfl c_722)
  refine lv_iload hx hb dL_law_727 (lv_at hl 1 rfl) ?_
  refine zN_ne (tgt := 744) (a := kc) C (by omega) dL_law_729 (by decide) (fun c_729 => ?_) (fun c_729 => ?_)
  · skip
    refine lv_goto (tgt := 1113) hx hb dL_law_744 (by decide) ?_
    exact kk v2 sc2 ar2 H locs ls _ _ J2 h (lv_sub hl [2, 3, 4, 5, 6] rfl) (by omega) (by omega)
  · skip
    refine lv_aload_n hx hb dL_law_732 rfl (lv_at hl 5 rfl) ?_
    refine lv_iconst (v := nI (0)) hx hb dL_law_733 (by decide) ?_
    refine ldJ C h dL_law_734 ?_
    refine tL (y := (b2).toInt64) (eb c_729) ?_
    refine lv_iload hx hb dL_law_735 (lv_at hl 0 rfl) ?_
    refine lv_i2l (v := (b2).toInt64) hx hb dL_law_737 rfl ?_
    refine W.lcmp hx hb dL_law_738 ?_
    refine lv_if_eq (tgt := 744) hx hb dL_law_739 (by decide) (fun c_739 => ?_) (fun c_739 => absurd ((lg_cmp_eq _ _).mpr rfl) c_739)
    refine lv_goto (tgt := 1113) hx hb dL_law_744 (by decide) ?_
    exact kk v2 sc2 ar2 H locs ls _ _ J2 h (lv_sub hl [2, 3, 4, 5, 6] rfl) (by omega) (by omega)
theorem gv_L_110 : GoodIn uW (wsV RL 110 RX9 yX9_bestRun (Cond.code yX9_bestRun cX9_bestRun 4 (some .int) :: uW)) := gI_V (uW_of (by decide +kernel) rfl) (uW_of (by decide +kernel) rfl) (uW_of (by decide +kernel) rfl) (uW_of (by decide +kernel) rfl) (uW_of (by decide +kernel) rfl)
theorem gv_L_110_n : okN yX9_bestRun 0 := by decide +kernel
theorem gv_L_113 : GoodIn uW (wsV RL 113 RX10 yX10_bestRun (Cond.code yX10_bestRun cX10_bestRun 6 (some .int) :: uW)) := gI_V (uW_of (by decide +kernel) rfl) (uW_of (by decide +kernel) rfl) (uW_of (by decide +kernel) rfl) (uW_of (by decide +kernel) rfl) (uW_of (by decide +kernel) rfl)
theorem gv_L_113_n : okN yX10_bestRun 0 := by decide +kernel
set_option maxHeartbeats 4000000 in
set_option maxRecDepth 100000 in
theorem lc_bestRun {p : Program} {l : Launch} {e : Env} {s : State} {m : MethodId} {args : Array Value} {below : List Frame} {meth : Method} {c : Code} {Q : State → Prop} {z : bZ} {v : bV} {sc : Nat → Int32} {ar : Nat → Nat → Int32} {H : Heap} {locs : List Loc} {ls : Array Slot} {b L i cells slots : Nat} {xs : Nat → Int32} (C : cX z p m c cL_law 7 s args RL) (hl0 : l.stackTraces = false) (hX : va_X b L xs s s.heap ∧ b < s.heap.size ∧ ¬ zA z b ∧ L ≤ 2560) (hi : i + 5 ≤ L) (J : JI v sc ar) (h : hH z v sc ar s H locs) (hl : lv_has ls 7 (lvL z b i)) (hce : cells + 9 ≤ room_1.cells) (hsl : slots + 60 ≤ room_1.slots) (kk : lK p l e s m args below meth c Q z b i cells slots) : W p l e room_1 s m args below meth c H locs cells slots Q (F0 m 747 ls []) := by
  have hx := C.1.1
  have hb := C.1.2.1
  have hi0 := hX.2.2.2
  obtain ⟨K, N, n, rf, wt, dp, wa, hC, hR⟩ := J
  obtain ⟨c0, cK, cv, cW, c1, cN, c3, cn, c4, crf⟩ := id hC
  have hl : lv_has ls 7 [(0, .ref (b)), (1, .ref (zad z 0)), (2, .ref (zad z 27)), (3, .ref (zad z 53)), (4, .int (nI (i)))] := hl
  refine lv_aload_n hx hb dL_law_747 rfl (lv_at hl 1 rfl) ?_
  refine backI h (runV (As := []) (rest := []) C h (k_bestRun l z v sc ar K N wt dp wa c0 cK cv cW c1 cN) gv_L_110 gv_L_110_n ⟨rfl, rfl⟩ (r_BM C h) rfl hl.1 rfl (Nat.le_of_ble_eq_true rfl) dL_law_748 ⟨Nat.le_of_ble_eq_true rfl, Nat.le_of_ble_eq_true rfl⟩ ⟨by omega, by omega⟩) (fun k v1 sc1 ar1 H locs hw h => ?_)
  have hF := F_bestRun (b := 0) (u2 := (v, sc, ar)) hC hR hw
  obtain ⟨q21, qW, q22, q23, q24, -, -, q35⟩ := hR.fr hF
  refine lv_aload_n hx hb dL_law_751 rfl (lv_at hl 2 rfl) ?_
  refine backI h (runV (As := []) (rest := [.int (k)]) C h (r_bestRun l z v1 sc1 ar1 K N wt dp cK qW q21 q22 cN) gv_L_113 gv_L_113_n ⟨rfl, rfl⟩ (r_Ref C h) rfl hl.1 rfl (Nat.le_of_ble_eq_true rfl) dL_law_752 ⟨Nat.le_of_ble_eq_true rfl, Nat.le_of_ble_eq_true rfl⟩ ⟨by omega, by omega⟩) (fun b2 v2 sc2 ar2 H locs hr h => ?_)
  obtain ⟨rfl, J2⟩ := M_bestRun (u2 := (v2, sc2, ar2)) hC hR hw hr
  have J2 : JI v2 sc2 ar2 := J2
  refine lv_icmp_eq (tgt := 1113) hx hb dL_law_755 (by decide) (fun c_755 => ?_) (fun c_755 => absurd rfl c_755)
  exact kk v2 sc2 ar2 H locs ls _ _ J2 h (lv_sub hl [0, 1, 2, 3, 4] rfl) (by omega) (by omega)
theorem gv_L_116 : GoodIn uW (wsV RL 116 RX10 yX10_chosen (Cond.code yX10_chosen cX10_chosen 2 (some .int) :: uW)) := gI_V (uW_of (by decide +kernel) rfl) (uW_of (by decide +kernel) rfl) (uW_of (by decide +kernel) rfl) (uW_of (by decide +kernel) rfl) (uW_of (by decide +kernel) rfl)
theorem gv_L_116_n : okN yX10_chosen 1 := by decide +kernel
theorem gh_114 : GoodIn uW (va_wsS RL 114 yL_chosen (Cond.codeWith yL_chosen cL_chosen 4 (some .int) [(0, 9, 12, 13)] :: uW)) := gI_H (uW_of (by decide +kernel) rfl) (uW_of (by decide +kernel) rfl) (uW_of (by decide +kernel) rfl) (uW_of (by decide +kernel) rfl)
theorem gh_114_n : okN yL_chosen 3 := by decide +kernel
set_option maxHeartbeats 4000000 in
set_option maxRecDepth 100000 in
theorem lc_chosen {p : Program} {l : Launch} {e : Env} {s : State} {m : MethodId} {args : Array Value} {below : List Frame} {meth : Method} {c : Code} {Q : State → Prop} {z : bZ} {v : bV} {sc : Nat → Int32} {ar : Nat → Nat → Int32} {H : Heap} {locs : List Loc} {ls : Array Slot} {b L i cells slots : Nat} {xs : Nat → Int32} (C : cX z p m c cL_law 7 s args RL) (hl0 : l.stackTraces = false) (hX : va_X b L xs s s.heap ∧ b < s.heap.size ∧ ¬ zA z b ∧ L ≤ 2560) (hi : i + 5 ≤ L) (J : JI v sc ar) (h : hH z v sc ar s H locs) (hl : lv_has ls 7 (lvL z b i)) (hce : cells + 9 ≤ room_1.cells) (hsl : slots + 60 ≤ room_1.slots) (kk : lK p l e s m args below meth c Q z b i cells slots) : W p l e room_1 s m args below meth c H locs cells slots Q (F0 m 760 ls []) := by
  have hx := C.1.1
  have hb := C.1.2.1
  have hi0 := hX.2.2.2
  obtain ⟨K, N, n, rf, wt, dp, wa, hC, hR⟩ := J
  obtain ⟨c0, cK, cv, cW, c1, cN, c3, cn, c4, crf⟩ := id hC
  have hl : lv_has ls 7 [(0, .ref (b)), (1, .ref (zad z 0)), (2, .ref (zad z 27)), (3, .ref (zad z 53)), (4, .int (nI (i)))] := hl
  refine lv_aload_n hx hb dL_law_760 rfl (lv_at hl 1 rfl) ?_
  refine lv_aload_n hx hb dL_law_761 rfl (lv_at hl 0 rfl) ?_
  refine lv_iload hx hb dL_law_762 (lv_at hl 4 rfl) ?_
  refine lv_iconst (v := nI (1)) hx hb dL_law_764 (by decide) ?_
  refine lv_iadd hx hb dL_law_765 ?_
  refine tI (y := nI (i + 1)) (nI_add _ _) ?_
  refine ldX C h hX (i := i + 1) (by omega) dL_law_766 ?_
  refine lv_aload_n hx hb dL_law_767 rfl (lv_at hl 3 rfl) ?_
  refine backI h (runH (As := [.ref (zad z 0), .int (xs (i + 1)), .ref (zad z 53)]) (rest := []) C h (w_chosen l z v sc ar hl0 (xs (i + 1))) gh_114 gh_114_n ⟨rfl, rfl⟩ rfl hl.1 rfl (Nat.le_of_ble_eq_true rfl) dL_law_768 ⟨Nat.le_of_ble_eq_true rfl, Nat.le_of_ble_eq_true rfl⟩ ⟨by omega, by omega⟩) (fun k v1 sc1 ar1 H locs hw h => ?_)
  have hF := F_chosen (b := 0) (u2 := (v, sc, ar)) hC hR hw
  obtain ⟨q21, qW, q22, q23, q24, -, -, q35⟩ := hR.fr hF
  refine lv_istore (lv' := [(5, .int (k)), (0, .ref (b)), (1, .ref (zad z 0)), (2, .ref (zad z 27)), (3, .ref (zad z 53)), (4, .int (nI (i)))]) hx hb dL_law_771 hl (by decide) rfl (fun ls hl => ?_)
  refine lv_aload_n hx hb dL_law_773 rfl (lv_at hl 3 rfl) ?_
  refine lv_aload_n hx hb dL_law_774 rfl (lv_at hl 1 rfl) ?_
  refine lv_iload hx hb dL_law_775 (lv_at hl 5 rfl) ?_
  refine lv_iconst (v := nI (1)) hx hb dL_law_777 (by decide) ?_
  refine lv_iadd hx hb dL_law_778 ?_
  refine tI (y := nI (i + 1)) (nI_add _ _) ?_
  refine ldX C h hX (i := i + 1) (by omega) dL_law_779 ?_
  refine backI h (runV (As := [.int (xs (i + 1))]) (rest := []) C h (r_chosen l z v1 sc1 ar1 (xs (i + 1))) gv_L_116 gv_L_116_n ⟨rfl, rfl⟩ (r_Ref C h) rfl hl.1 rfl (Nat.le_of_ble_eq_true rfl) dL_law_780 ⟨Nat.le_of_ble_eq_true rfl, Nat.le_of_ble_eq_true rfl⟩ ⟨by omega, by omega⟩) (fun b2 v2 sc2 ar2 H locs hr h => ?_)
  obtain ⟨kc, hkc, rfl, e20, eb, J2⟩ := M_chosen (u2 := (v2, sc2, ar2)) hC hR hw hr
  have J2 : JI v2 sc2 ar2 := J2
  refine lv_istore (lv' := [(6, .int (b2)), (5, .int (nI (kc))), (0, .ref (b)), (1, .ref (zad z 0)), (2, .ref (zad z 27)), (3, .ref (zad z 53)), (4, .int (nI (i)))]) hx hb dL_law_783 hl (by decide) rfl (fun ls hl => ?_)
  refine lv_aload_n hx hb dL_law_785 rfl (lv_at hl 4 rfl) ?_
  refine backI h (runV (As := []) (rest := []) C h (r_thrown l z v2 sc2 ar2) gv_L_70 gv_L_70_n ⟨rfl, rfl⟩ (r_Ref C h) rfl hl.1 rfl (Nat.le_of_ble_eq_true rfl) dL_law_786 ⟨Nat.le_of_ble_eq_true rfl, Nat.le_of_ble_eq_true rfl⟩ ⟨by omega, by omega⟩) (fun t v3 sc3 ar3 H locs ht h => ?_)
  have h : hH z v2 sc2 ar2 s H locs := uEq ht.2 h
  refine tI (y := nI kc) (ht.1.trans e20) ?_
  refine lv_iload hx hb dL_law_789 (lv_at hl 1 rfl) ?_
  refine jN_eq (tgt := 796) (a := kc) (b := kc) C (by omega) (by omega) dL_law_791 (by decide) (fun c_791 => ?_) (fun c_791 => absurd rfl c_791)
  refine lv_iload hx hb dL_law_796 (lv_at hl 1 rfl) ?_
  refine zN_ne (tgt := 813) (a := kc) C (by omega) dL_law_798 (by decide) (fun c_798 => ?_) (fun c_798 => ?_)
  · skip
    refine lv_goto (tgt := 1113) hx hb dL_law_813 (by decide) ?_
    exact kk v2 sc2 ar2 H locs ls _ _ J2 h (lv_sub hl [2, 3, 4, 5, 6] rfl) (by omega) (by omega)
  · skip
    refine lv_aload_n hx hb dL_law_801 rfl (lv_at hl 5 rfl) ?_
    refine lv_iconst (v := nI (0)) hx hb dL_law_802 (by decide) ?_
    refine ldJ C h dL_law_803 ?_
    refine tL (y := (b2).toInt64) (eb c_798) ?_
    refine lv_iload hx hb dL_law_804 (lv_at hl 0 rfl) ?_
    refine lv_i2l (v := (b2).toInt64) hx hb dL_law_806 rfl ?_
    refine W.lcmp hx hb dL_law_807 ?_
    refine lv_if_eq (tgt := 813) hx hb dL_law_808 (by decide) (fun c_808 => ?_) (fun c_808 => absurd ((lg_cmp_eq _ _).mpr rfl) c_808)
    refine lv_goto (tgt := 1113) hx hb dL_law_813 (by decide) ?_
    exact kk v2 sc2 ar2 H locs ls _ _ J2 h (lv_sub hl [2, 3, 4, 5, 6] rfl) (by omega) (by omega)
theorem gv_L_119 : GoodIn uW (wsV RL 119 RX10 yX10_feed (Cond.code yX10_feed cX10_feed 3 (some .int) :: uW)) := gI_V (uW_of (by decide +kernel) rfl) (uW_of (by decide +kernel) rfl) (uW_of (by decide +kernel) rfl) (uW_of (by decide +kernel) rfl) (uW_of (by decide +kernel) rfl)
theorem gv_L_119_n : okN yX10_feed 1 := by decide +kernel
theorem gh_117 : GoodIn uW (va_wsS RL 117 yL_feed (Cond.codeWith yL_feed cL_feed 4 (some .int) [(0, 9, 12, 15)] :: uW)) := gI_H (uW_of (by decide +kernel) rfl) (uW_of (by decide +kernel) rfl) (uW_of (by decide +kernel) rfl) (uW_of (by decide +kernel) rfl)
theorem gh_117_n : okN yL_feed 3 := by decide +kernel
set_option maxHeartbeats 4000000 in
set_option maxRecDepth 100000 in
theorem lc_feed {p : Program} {l : Launch} {e : Env} {s : State} {m : MethodId} {args : Array Value} {below : List Frame} {meth : Method} {c : Code} {Q : State → Prop} {z : bZ} {v : bV} {sc : Nat → Int32} {ar : Nat → Nat → Int32} {H : Heap} {locs : List Loc} {ls : Array Slot} {b L i cells slots : Nat} {xs : Nat → Int32} (C : cX z p m c cL_law 7 s args RL) (hl0 : l.stackTraces = false) (hX : va_X b L xs s s.heap ∧ b < s.heap.size ∧ ¬ zA z b ∧ L ≤ 2560) (hi : i + 5 ≤ L) (J : JI v sc ar) (h : hH z v sc ar s H locs) (hl : lv_has ls 7 (lvL z b i)) (hce : cells + 9 ≤ room_1.cells) (hsl : slots + 60 ≤ room_1.slots) (kk : lK p l e s m args below meth c Q z b i cells slots) : W p l e room_1 s m args below meth c H locs cells slots Q (F0 m 816 ls []) := by
  have hx := C.1.1
  have hb := C.1.2.1
  have hi0 := hX.2.2.2
  obtain ⟨K, N, n, rf, wt, dp, wa, hC, hR⟩ := J
  obtain ⟨c0, cK, cv, cW, c1, cN, c3, cn, c4, crf⟩ := id hC
  have hl : lv_has ls 7 [(0, .ref (b)), (1, .ref (zad z 0)), (2, .ref (zad z 27)), (3, .ref (zad z 53)), (4, .int (nI (i)))] := hl
  refine lv_aload_n hx hb dL_law_816 rfl (lv_at hl 1 rfl) ?_
  refine lv_aload_n hx hb dL_law_817 rfl (lv_at hl 0 rfl) ?_
  refine lv_iload hx hb dL_law_818 (lv_at hl 4 rfl) ?_
  refine lv_iconst (v := nI (1)) hx hb dL_law_820 (by decide) ?_
  refine lv_iadd hx hb dL_law_821 ?_
  refine tI (y := nI (i + 1)) (nI_add _ _) ?_
  refine ldX C h hX (i := i + 1) (by omega) dL_law_822 ?_
  refine lv_aload_n hx hb dL_law_823 rfl (lv_at hl 3 rfl) ?_
  refine backI h (runH (As := [.ref (zad z 0), .int (xs (i + 1)), .ref (zad z 53)]) (rest := []) C h (w_feed l z v sc ar hl0 n (xs (i + 1)) c3 cn) gh_117 gh_117_n ⟨rfl, rfl⟩ rfl hl.1 rfl (Nat.le_of_ble_eq_true rfl) dL_law_824 ⟨Nat.le_of_ble_eq_true rfl, Nat.le_of_ble_eq_true rfl⟩ ⟨by omega, by omega⟩) (fun k v1 sc1 ar1 H locs hw h => ?_)
  have hF := F_feed (b := 0) (u2 := (v, sc, ar)) hC hR hw
  obtain ⟨q21, qW, q22, q23, q24, -, -, q35⟩ := hR.fr hF
  refine lv_istore (lv' := [(5, .int (k)), (0, .ref (b)), (1, .ref (zad z 0)), (2, .ref (zad z 27)), (3, .ref (zad z 53)), (4, .int (nI (i)))]) hx hb dL_law_827 hl (by decide) rfl (fun ls hl => ?_)
  refine lv_aload_n hx hb dL_law_829 rfl (lv_at hl 3 rfl) ?_
  refine lv_aload_n hx hb dL_law_830 rfl (lv_at hl 1 rfl) ?_
  refine lv_iload hx hb dL_law_831 (lv_at hl 5 rfl) ?_
  refine lv_iconst (v := nI (1)) hx hb dL_law_833 (by decide) ?_
  refine lv_iadd hx hb dL_law_834 ?_
  refine tI (y := nI (i + 1)) (nI_add _ _) ?_
  refine ldX C h hX (i := i + 1) (by omega) dL_law_835 ?_
  refine backI h (runV (As := [.int (xs (i + 1))]) (rest := []) C h (r_feed l z v1 sc1 ar1 n (xs (i + 1)) q23 cn) gv_L_119 gv_L_119_n ⟨rfl, rfl⟩ (r_Ref C h) rfl hl.1 rfl (Nat.le_of_ble_eq_true rfl) dL_law_836 ⟨Nat.le_of_ble_eq_true rfl, Nat.le_of_ble_eq_true rfl⟩ ⟨by omega, by omega⟩) (fun b2 v2 sc2 ar2 H locs hr h => ?_)
  obtain ⟨kc, hkc, rfl, e20, eb, J2⟩ := M_feed (u2 := (v2, sc2, ar2)) hC hR hw hr
  have J2 : JI v2 sc2 ar2 := J2
  refine lv_istore (lv' := [(6, .int (b2)), (5, .int (nI (kc))), (0, .ref (b)), (1, .ref (zad z 0)), (2, .ref (zad z 27)), (3, .ref (zad z 53)), (4, .int (nI (i)))]) hx hb dL_law_839 hl (by decide) rfl (fun ls hl => ?_)
  refine lv_aload_n hx hb dL_law_841 rfl (lv_at hl 4 rfl) ?_
  refine backI h (runV (As := []) (rest := []) C h (r_thrown l z v2 sc2 ar2) gv_L_70 gv_L_70_n ⟨rfl, rfl⟩ (r_Ref C h) rfl hl.1 rfl (Nat.le_of_ble_eq_true rfl) dL_law_842 ⟨Nat.le_of_ble_eq_true rfl, Nat.le_of_ble_eq_true rfl⟩ ⟨by omega, by omega⟩) (fun t v3 sc3 ar3 H locs ht h => ?_)
  have h : hH z v2 sc2 ar2 s H locs := uEq ht.2 h
  refine tI (y := nI kc) (ht.1.trans e20) ?_
  refine lv_iload hx hb dL_law_845 (lv_at hl 1 rfl) ?_
  refine jN_eq (tgt := 852) (a := kc) (b := kc) C (by omega) (by omega) dL_law_847 (by decide) (fun c_847 => ?_) (fun c_847 => absurd rfl c_847)
  refine lv_iload hx hb dL_law_852 (lv_at hl 1 rfl) ?_
  refine zN_ne (tgt := 869) (a := kc) C (by omega) dL_law_854 (by decide) (fun c_854 => ?_) (fun c_854 => ?_)
  · skip
    refine lv_goto (tgt := 1113) hx hb dL_law_869 (by decide) ?_
    exact kk v2 sc2 ar2 H locs ls _ _ J2 h (lv_sub hl [2, 3, 4, 5, 6] rfl) (by omega) (by omega)
  · skip
    refine lv_aload_n hx hb dL_law_857 rfl (lv_at hl 5 rfl) ?_
    refine lv_iconst (v := nI (0)) hx hb dL_law_858 (by decide) ?_
    refine ldJ C h dL_law_859 ?_
    refine tL (y := (b2).toInt64) (eb c_854) ?_
    refine lv_iload hx hb dL_law_860 (lv_at hl 0 rfl) ?_
    refine lv_i2l (v := (b2).toInt64) hx hb dL_law_862 rfl ?_
    refine W.lcmp hx hb dL_law_863 ?_
    refine lv_if_eq (tgt := 869) hx hb dL_law_864 (by decide) (fun c_864 => ?_) (fun c_864 => absurd ((lg_cmp_eq _ _).mpr rfl) c_864)
    refine lv_goto (tgt := 1113) hx hb dL_law_869 (by decide) ?_
    exact kk v2 sc2 ar2 H locs ls _ _ J2 h (lv_sub hl [2, 3, 4, 5, 6] rfl) (by omega) (by omega)
theorem gv_L_123 : GoodIn uW (wsV RL 123 RX10 yX10_end (Cond.code yX10_end cX10_end 2 none :: uW)) := gI_V (uW_of (by decide +kernel) rfl) (uW_of (by decide +kernel) rfl) (uW_of (by decide +kernel) rfl) (uW_of (by decide +kernel) rfl) (uW_of (by decide +kernel) rfl)
theorem gv_L_123_n : okN yX10_end 1 := by decide +kernel
theorem gh_120 : GoodIn uW (va_wsS RL 120 yL_end (Cond.codeWith yL_end cL_end 3 (some .int) [(0, 5, 8, 13)] :: uW)) := gI_H (uW_of (by decide +kernel) rfl) (uW_of (by decide +kernel) rfl) (uW_of (by decide +kernel) rfl) (uW_of (by decide +kernel) rfl)
theorem gh_120_n : okN yL_end 2 := by decide +kernel
set_option maxHeartbeats 4000000 in
set_option maxRecDepth 100000 in
theorem lc_end {p : Program} {l : Launch} {e : Env} {s : State} {m : MethodId} {args : Array Value} {below : List Frame} {meth : Method} {c : Code} {Q : State → Prop} {z : bZ} {v : bV} {sc : Nat → Int32} {ar : Nat → Nat → Int32} {H : Heap} {locs : List Loc} {ls : Array Slot} {b L i cells slots : Nat} {xs : Nat → Int32} (C : cX z p m c cL_law 7 s args RL) (hl0 : l.stackTraces = false) (hX : va_X b L xs s s.heap ∧ b < s.heap.size ∧ ¬ zA z b ∧ L ≤ 2560) (hi : i + 5 ≤ L) (J : JI v sc ar) (h : hH z v sc ar s H locs) (hl : lv_has ls 7 (lvL z b i)) (hce : cells + 9 ≤ room_1.cells) (hsl : slots + 60 ≤ room_1.slots) (kk : lK p l e s m args below meth c Q z b i cells slots) : W p l e room_1 s m args below meth c H locs cells slots Q (F0 m 872 ls []) := by
  have hx := C.1.1
  have hb := C.1.2.1
  have hi0 := hX.2.2.2
  obtain ⟨K, N, n, rf, wt, dp, wa, hC, hR⟩ := J
  obtain ⟨c0, cK, cv, cW, c1, cN, c3, cn, c4, crf⟩ := id hC
  have hl : lv_has ls 7 [(0, .ref (b)), (1, .ref (zad z 0)), (2, .ref (zad z 27)), (3, .ref (zad z 53)), (4, .int (nI (i)))] := hl
  refine lv_aload_n hx hb dL_law_872 rfl (lv_at hl 1 rfl) ?_
  refine lv_aload_n hx hb dL_law_873 rfl (lv_at hl 0 rfl) ?_
  refine lv_iload hx hb dL_law_874 (lv_at hl 4 rfl) ?_
  refine lv_iconst (v := nI (1)) hx hb dL_law_876 (by decide) ?_
  refine lv_iadd hx hb dL_law_877 ?_
  refine tI (y := nI (i + 1)) (nI_add _ _) ?_
  refine ldX C h hX (i := i + 1) (by omega) dL_law_878 ?_
  refine backI h (runH (As := [.ref (zad z 0), .int (xs (i + 1))]) (rest := []) C h (w_end l z v sc ar hl0 n rf (xs (i + 1)) c3 cn c4 crf) gh_120 gh_120_n ⟨rfl, rfl⟩ rfl hl.1 rfl (Nat.le_of_ble_eq_true rfl) dL_law_879 ⟨Nat.le_of_ble_eq_true rfl, Nat.le_of_ble_eq_true rfl⟩ ⟨by omega, by omega⟩) (fun k v1 sc1 ar1 H locs hw h => ?_)
  have hF := F_end (b := 0) (u2 := (v, sc, ar)) hC hR hw
  obtain ⟨q21, qW, q22, q23, q24, -, -, q35⟩ := hR.fr hF
  refine lv_istore (lv' := [(5, .int (k)), (0, .ref (b)), (1, .ref (zad z 0)), (2, .ref (zad z 27)), (3, .ref (zad z 53)), (4, .int (nI (i)))]) hx hb dL_law_882 hl (by decide) rfl (fun ls hl => ?_)
  refine lv_aload_n hx hb dL_law_884 rfl (lv_at hl 3 rfl) ?_
  refine lv_aload_n hx hb dL_law_885 rfl (lv_at hl 1 rfl) ?_
  refine lv_iload hx hb dL_law_886 (lv_at hl 5 rfl) ?_
  refine lv_iconst (v := nI (1)) hx hb dL_law_888 (by decide) ?_
  refine lv_iadd hx hb dL_law_889 ?_
  refine tI (y := nI (i + 1)) (nI_add _ _) ?_
  refine ldX C h hX (i := i + 1) (by omega) dL_law_890 ?_
  refine backV h (runV (As := [.int (xs (i + 1))]) (rest := []) C h (r_end l z v1 sc1 ar1 n rf (xs (i + 1)) q23 cn q24 crf) gv_L_123 gv_L_123_n ⟨rfl, rfl⟩ (r_Ref C h) rfl hl.1 rfl (Nat.le_of_ble_eq_true rfl) dL_law_891 ⟨Nat.le_of_ble_eq_true rfl, Nat.le_of_ble_eq_true rfl⟩ ⟨by omega, by omega⟩) (fun v2 sc2 ar2 H locs hr h => ?_)
  obtain ⟨kc, hkc, rfl, e20, J2⟩ := M_end (u2 := (v2, sc2, ar2)) (b := 0) hC hR hw hr
  have J2 : JI v2 sc2 ar2 := J2
  refine lv_aload_n hx hb dL_law_894 rfl (lv_at hl 3 rfl) ?_
  refine backI h (runV (As := []) (rest := []) C h (r_thrown l z v2 sc2 ar2) gv_L_70 gv_L_70_n ⟨rfl, rfl⟩ (r_Ref C h) rfl hl.1 rfl (Nat.le_of_ble_eq_true rfl) dL_law_895 ⟨Nat.le_of_ble_eq_true rfl, Nat.le_of_ble_eq_true rfl⟩ ⟨by omega, by omega⟩) (fun t v3 sc3 ar3 H locs ht h => ?_)
  have h : hH z v2 sc2 ar2 s H locs := uEq ht.2 h
  refine tI (y := nI kc) (ht.1.trans e20) ?_
  refine lv_iload hx hb dL_law_898 (lv_at hl 0 rfl) ?_
  refine jN_eq (tgt := 905) (a := kc) (b := kc) C (by omega) (by omega) dL_law_900 (by decide) (fun c_900 => ?_) (fun c_900 => absurd rfl c_900)
  refine lv_goto (tgt := 1113) hx hb dL_law_905 (by decide) ?_
  exact kk v2 sc2 ar2 H locs ls _ _ J2 h (lv_sub hl [1, 2, 3, 4, 5] rfl) (by omega) (by omega)
theorem gv_L_126 : GoodIn uW (wsV RL 126 RX10 yX10_seek (Cond.code yX10_seek cX10_seek 3 (some .int) :: uW)) := gI_V (uW_of (by decide +kernel) rfl) (uW_of (by decide +kernel) rfl) (uW_of (by decide +kernel) rfl) (uW_of (by decide +kernel) rfl) (uW_of (by decide +kernel) rfl)
theorem gv_L_126_n : okN yX10_seek 1 := by decide +kernel
theorem gh_124 : GoodIn uW (va_wsS RL 124 yL_seek (Cond.codeWith yL_seek cL_seek 4 (some .int) [(0, 9, 12, 13)] :: uW)) := gI_H (uW_of (by decide +kernel) rfl) (uW_of (by decide +kernel) rfl) (uW_of (by decide +kernel) rfl) (uW_of (by decide +kernel) rfl)
theorem gh_124_n : okN yL_seek 3 := by decide +kernel
set_option maxHeartbeats 4000000 in
set_option maxRecDepth 100000 in
theorem lc_seek {p : Program} {l : Launch} {e : Env} {s : State} {m : MethodId} {args : Array Value} {below : List Frame} {meth : Method} {c : Code} {Q : State → Prop} {z : bZ} {v : bV} {sc : Nat → Int32} {ar : Nat → Nat → Int32} {H : Heap} {locs : List Loc} {ls : Array Slot} {b L i cells slots : Nat} {xs : Nat → Int32} (C : cX z p m c cL_law 7 s args RL) (hl0 : l.stackTraces = false) (hX : va_X b L xs s s.heap ∧ b < s.heap.size ∧ ¬ zA z b ∧ L ≤ 2560) (hi : i + 5 ≤ L) (J : JI v sc ar) (h : hH z v sc ar s H locs) (hl : lv_has ls 7 (lvL z b i)) (hce : cells + 9 ≤ room_1.cells) (hsl : slots + 60 ≤ room_1.slots) (kk : lK p l e s m args below meth c Q z b i cells slots) : W p l e room_1 s m args below meth c H locs cells slots Q (F0 m 908 ls []) := by
  have hx := C.1.1
  have hb := C.1.2.1
  have hi0 := hX.2.2.2
  obtain ⟨K, N, n, rf, wt, dp, wa, hC, hR⟩ := J
  obtain ⟨c0, cK, cv, cW, c1, cN, c3, cn, c4, crf⟩ := id hC
  have hl : lv_has ls 7 [(0, .ref (b)), (1, .ref (zad z 0)), (2, .ref (zad z 27)), (3, .ref (zad z 53)), (4, .int (nI (i)))] := hl
  refine lv_aload_n hx hb dL_law_908 rfl (lv_at hl 1 rfl) ?_
  refine lv_aload_n hx hb dL_law_909 rfl (lv_at hl 0 rfl) ?_
  refine lv_iload hx hb dL_law_910 (lv_at hl 4 rfl) ?_
  refine lv_iconst (v := nI (1)) hx hb dL_law_912 (by decide) ?_
  refine lv_iadd hx hb dL_law_913 ?_
  refine tI (y := nI (i + 1)) (nI_add _ _) ?_
  refine ldX C h hX (i := i + 1) (by omega) dL_law_914 ?_
  refine lv_aload_n hx hb dL_law_915 rfl (lv_at hl 3 rfl) ?_
  refine backI h (runH (As := [.ref (zad z 0), .int (xs (i + 1)), .ref (zad z 53)]) (rest := []) C h (w_seek l z v sc ar hl0 n rf (xs (i + 1)) c3 cn c4 crf) gh_124 gh_124_n ⟨rfl, rfl⟩ rfl hl.1 rfl (Nat.le_of_ble_eq_true rfl) dL_law_916 ⟨Nat.le_of_ble_eq_true rfl, Nat.le_of_ble_eq_true rfl⟩ ⟨by omega, by omega⟩) (fun k v1 sc1 ar1 H locs hw h => ?_)
  have hF := F_seek (b := 0) (u2 := (v, sc, ar)) hC hR hw
  obtain ⟨q21, qW, q22, q23, q24, -, -, q35⟩ := hR.fr hF
  refine lv_istore (lv' := [(5, .int (k)), (0, .ref (b)), (1, .ref (zad z 0)), (2, .ref (zad z 27)), (3, .ref (zad z 53)), (4, .int (nI (i)))]) hx hb dL_law_919 hl (by decide) rfl (fun ls hl => ?_)
  refine lv_aload_n hx hb dL_law_921 rfl (lv_at hl 3 rfl) ?_
  refine lv_aload_n hx hb dL_law_922 rfl (lv_at hl 1 rfl) ?_
  refine lv_iload hx hb dL_law_923 (lv_at hl 5 rfl) ?_
  refine lv_iconst (v := nI (1)) hx hb dL_law_925 (by decide) ?_
  refine lv_iadd hx hb dL_law_926 ?_
  refine tI (y := nI (i + 1)) (nI_add _ _) ?_
  refine ldX C h hX (i := i + 1) (by omega) dL_law_927 ?_
  refine backI h (runV (As := [.int (xs (i + 1))]) (rest := []) C h (r_seek l z v1 sc1 ar1 n rf (xs (i + 1)) q23 cn q24 crf) gv_L_126 gv_L_126_n ⟨rfl, rfl⟩ (r_Ref C h) rfl hl.1 rfl (Nat.le_of_ble_eq_true rfl) dL_law_928 ⟨Nat.le_of_ble_eq_true rfl, Nat.le_of_ble_eq_true rfl⟩ ⟨by omega, by omega⟩) (fun b2 v2 sc2 ar2 H locs hr h => ?_)
  obtain ⟨kc, hkc, rfl, e20, eb, J2⟩ := M_seek (u2 := (v2, sc2, ar2)) hC hR hw hr
  have J2 : JI v2 sc2 ar2 := J2
  refine lv_istore (lv' := [(6, .int (b2)), (5, .int (nI (kc))), (0, .ref (b)), (1, .ref (zad z 0)), (2, .ref (zad z 27)), (3, .ref (zad z 53)), (4, .int (nI (i)))]) hx hb dL_law_931 hl (by decide) rfl (fun ls hl => ?_)
  refine lv_aload_n hx hb dL_law_933 rfl (lv_at hl 4 rfl) ?_
  refine backI h (runV (As := []) (rest := []) C h (r_thrown l z v2 sc2 ar2) gv_L_70 gv_L_70_n ⟨rfl, rfl⟩ (r_Ref C h) rfl hl.1 rfl (Nat.le_of_ble_eq_true rfl) dL_law_934 ⟨Nat.le_of_ble_eq_true rfl, Nat.le_of_ble_eq_true rfl⟩ ⟨by omega, by omega⟩) (fun t v3 sc3 ar3 H locs ht h => ?_)
  have h : hH z v2 sc2 ar2 s H locs := uEq ht.2 h
  refine tI (y := nI kc) (ht.1.trans e20) ?_
  refine lv_iload hx hb dL_law_937 (lv_at hl 1 rfl) ?_
  refine jN_eq (tgt := 944) (a := kc) (b := kc) C (by omega) (by omega) dL_law_939 (by decide) (fun c_939 => ?_) (fun c_939 => absurd rfl c_939)
  refine lv_iload hx hb dL_law_944 (lv_at hl 1 rfl) ?_
  refine zN_ne (tgt := 961) (a := kc) C (by omega) dL_law_946 (by decide) (fun c_946 => ?_) (fun c_946 => ?_)
  · skip
    refine lv_goto (tgt := 1113) hx hb dL_law_961 (by decide) ?_
    exact kk v2 sc2 ar2 H locs ls _ _ J2 h (lv_sub hl [2, 3, 4, 5, 6] rfl) (by omega) (by omega)
  · skip
    refine lv_aload_n hx hb dL_law_949 rfl (lv_at hl 5 rfl) ?_
    refine lv_iconst (v := nI (0)) hx hb dL_law_950 (by decide) ?_
    refine ldJ C h dL_law_951 ?_
    refine tL (y := (b2).toInt64) (eb c_946) ?_
    refine lv_iload hx hb dL_law_952 (lv_at hl 0 rfl) ?_
    refine lv_i2l (v := (b2).toInt64) hx hb dL_law_954 rfl ?_
    refine W.lcmp hx hb dL_law_955 ?_
    refine lv_if_eq (tgt := 961) hx hb dL_law_956 (by decide) (fun c_956 => ?_) (fun c_956 => absurd ((lg_cmp_eq _ _).mpr rfl) c_956)
    refine lv_goto (tgt := 1113) hx hb dL_law_961 (by decide) ?_
    exact kk v2 sc2 ar2 H locs ls _ _ J2 h (lv_sub hl [2, 3, 4, 5, 6] rfl) (by omega) (by omega)
theorem gv_L_127 : GoodIn uW (wsV RL 127 RX9 yX9_tape (Cond.code yX9_tape cX9_tape 2 (some .int) :: uW)) := gI_V (uW_of (by decide +kernel) rfl) (uW_of (by decide +kernel) rfl) (uW_of (by decide +kernel) rfl) (uW_of (by decide +kernel) rfl) (uW_of (by decide +kernel) rfl)
theorem gv_L_127_n : okN yX9_tape 1 := by decide +kernel
theorem gv_L_130 : GoodIn uW (wsV RL 130 RX10 yX10_tape (Cond.code yX10_tape cX10_tape 2 (some .int) :: uW)) := gI_V (uW_of (by decide +kernel) rfl) (uW_of (by decide +kernel) rfl) (uW_of (by decide +kernel) rfl) (uW_of (by decide +kernel) rfl) (uW_of (by decide +kernel) rfl)
theorem gv_L_130_n : okN yX10_tape 1 := by decide +kernel
set_option maxHeartbeats 4000000 in
set_option maxRecDepth 100000 in
theorem lc_tape {p : Program} {l : Launch} {e : Env} {s : State} {m : MethodId} {args : Array Value} {below : List Frame} {meth : Method} {c : Code} {Q : State → Prop} {z : bZ} {v : bV} {sc : Nat → Int32} {ar : Nat → Nat → Int32} {H : Heap} {locs : List Loc} {ls : Array Slot} {b L i cells slots : Nat} {xs : Nat → Int32} (C : cX z p m c cL_law 7 s args RL) (hl0 : l.stackTraces = false) (hX : va_X b L xs s s.heap ∧ b < s.heap.size ∧ ¬ zA z b ∧ L ≤ 2560) (hi : i + 5 ≤ L) (J : JI v sc ar) (h : hH z v sc ar s H locs) (hl : lv_has ls 7 (lvL z b i)) (hce : cells + 9 ≤ room_1.cells) (hsl : slots + 60 ≤ room_1.slots) (kk : lK p l e s m args below meth c Q z b i cells slots) : W p l e room_1 s m args below meth c H locs cells slots Q (F0 m 964 ls []) := by
  have hx := C.1.1
  have hb := C.1.2.1
  have hi0 := hX.2.2.2
  obtain ⟨K, N, n, rf, wt, dp, wa, hC, hR⟩ := J
  obtain ⟨c0, cK, cv, cW, c1, cN, c3, cn, c4, crf⟩ := id hC
  have hl : lv_has ls 7 [(0, .ref (b)), (1, .ref (zad z 0)), (2, .ref (zad z 27)), (3, .ref (zad z 53)), (4, .int (nI (i)))] := hl
  refine lv_aload_n hx hb dL_law_964 rfl (lv_at hl 1 rfl) ?_
  refine lv_aload_n hx hb dL_law_965 rfl (lv_at hl 0 rfl) ?_
  refine lv_iload hx hb dL_law_966 (lv_at hl 4 rfl) ?_
  refine lv_iconst (v := nI (1)) hx hb dL_law_968 (by decide) ?_
  refine lv_iadd hx hb dL_law_969 ?_
  refine tI (y := nI (i + 1)) (nI_add _ _) ?_
  refine ldX C h hX (i := i + 1) (by omega) dL_law_970 ?_
  refine backI h (runV (As := [.int (xs (i + 1))]) (rest := []) C h (k_tape l z v sc ar n (xs (i + 1)) c3 cn) gv_L_127 gv_L_127_n ⟨rfl, rfl⟩ (r_BM C h) rfl hl.1 rfl (Nat.le_of_ble_eq_true rfl) dL_law_971 ⟨Nat.le_of_ble_eq_true rfl, Nat.le_of_ble_eq_true rfl⟩ ⟨by omega, by omega⟩) (fun k v1 sc1 ar1 H locs hw h => ?_)
  have hF := F_tape (b := 0) (u2 := (v, sc, ar)) hC hR hw
  obtain ⟨q21, qW, q22, q23, q24, -, -, q35⟩ := hR.fr hF
  refine lv_aload_n hx hb dL_law_974 rfl (lv_at hl 2 rfl) ?_
  refine lv_aload_n hx hb dL_law_975 rfl (lv_at hl 0 rfl) ?_
  refine lv_iload hx hb dL_law_976 (lv_at hl 4 rfl) ?_
  refine lv_iconst (v := nI (1)) hx hb dL_law_978 (by decide) ?_
  refine lv_iadd hx hb dL_law_979 ?_
  refine tI (y := nI (i + 1)) (nI_add _ _) ?_
  refine ldX C h hX (i := i + 1) (by omega) dL_law_980 ?_
  refine backI h (runV (As := [.int (xs (i + 1))]) (rest := [.int (k)]) C h (r_tape l z v1 sc1 ar1 n (xs (i + 1)) q23 cn) gv_L_130 gv_L_130_n ⟨rfl, rfl⟩ (r_Ref C h) rfl hl.1 rfl (Nat.le_of_ble_eq_true rfl) dL_law_981 ⟨Nat.le_of_ble_eq_true rfl, Nat.le_of_ble_eq_true rfl⟩ ⟨by omega, by omega⟩) (fun b2 v2 sc2 ar2 H locs hr h => ?_)
  obtain ⟨rfl, J2⟩ := M_tape (u2 := (v2, sc2, ar2)) hC hR hw hr
  have J2 : JI v2 sc2 ar2 := J2
  refine lv_icmp_eq (tgt := 1113) hx hb dL_law_984 (by decide) (fun c_984 => ?_) (fun c_984 => absurd rfl c_984)
  exact kk v2 sc2 ar2 H locs ls _ _ J2 h (lv_sub hl [0, 1, 2, 3, 4] rfl) (by omega) (by omega)
theorem gv_L_133 : GoodIn uW (wsV RL 133 RX10 yX10_way (Cond.code yX10_way cX10_way 3 (some .int) :: uW)) := gI_V (uW_of (by decide +kernel) rfl) (uW_of (by decide +kernel) rfl) (uW_of (by decide +kernel) rfl) (uW_of (by decide +kernel) rfl) (uW_of (by decide +kernel) rfl)
theorem gv_L_133_n : okN yX10_way 2 := by decide +kernel
theorem gh_131 : GoodIn uW (va_wsS RL 131 yL_way (Cond.codeWith yL_way cL_way 5 (some .int) [(0, 10, 13, 13)] :: uW)) := gI_H (uW_of (by decide +kernel) rfl) (uW_of (by decide +kernel) rfl) (uW_of (by decide +kernel) rfl) (uW_of (by decide +kernel) rfl)
theorem gh_131_n : okN yL_way 4 := by decide +kernel
set_option maxHeartbeats 4000000 in
set_option maxRecDepth 100000 in
theorem lc_way {p : Program} {l : Launch} {e : Env} {s : State} {m : MethodId} {args : Array Value} {below : List Frame} {meth : Method} {c : Code} {Q : State → Prop} {z : bZ} {v : bV} {sc : Nat → Int32} {ar : Nat → Nat → Int32} {H : Heap} {locs : List Loc} {ls : Array Slot} {b L i cells slots : Nat} {xs : Nat → Int32} (C : cX z p m c cL_law 7 s args RL) (hl0 : l.stackTraces = false) (hX : va_X b L xs s s.heap ∧ b < s.heap.size ∧ ¬ zA z b ∧ L ≤ 2560) (hi : i + 5 ≤ L) (J : JI v sc ar) (h : hH z v sc ar s H locs) (hl : lv_has ls 7 (lvL z b i)) (hce : cells + 9 ≤ room_1.cells) (hsl : slots + 60 ≤ room_1.slots) (kk : lK p l e s m args below meth c Q z b i cells slots) : W p l e room_1 s m args below meth c H locs cells slots Q (F0 m 989 ls []) := by
  have hx := C.1.1
  have hb := C.1.2.1
  have hi0 := hX.2.2.2
  obtain ⟨K, N, n, rf, wt, dp, wa, hC, hR⟩ := J
  obtain ⟨c0, cK, cv, cW, c1, cN, c3, cn, c4, crf⟩ := id hC
  have hl : lv_has ls 7 [(0, .ref (b)), (1, .ref (zad z 0)), (2, .ref (zad z 27)), (3, .ref (zad z 53)), (4, .int (nI (i)))] := hl
  refine lv_aload_n hx hb dL_law_989 rfl (lv_at hl 1 rfl) ?_
  refine lv_aload_n hx hb dL_law_990 rfl (lv_at hl 0 rfl) ?_
  refine lv_iload hx hb dL_law_991 (lv_at hl 4 rfl) ?_
  refine lv_iconst (v := nI (1)) hx hb dL_law_993 (by decide) ?_
  refine lv_iadd hx hb dL_law_994 ?_
  refine tI (y := nI (i + 1)) (nI_add _ _) ?_
  refine ldX C h hX (i := i + 1) (by omega) dL_law_995 ?_
  refine lv_aload_n hx hb dL_law_996 rfl (lv_at hl 0 rfl) ?_
  refine lv_iload hx hb dL_law_997 (lv_at hl 4 rfl) ?_
  refine lv_iconst (v := nI (2)) hx hb dL_law_999 (by decide) ?_
  refine lv_iadd hx hb dL_law_1000 ?_
  refine tI (y := nI (i + 2)) (nI_add _ _) ?_
  refine ldX C h hX (i := i + 2) (by omega) dL_law_1001 ?_
  refine lv_aload_n hx hb dL_law_1002 rfl (lv_at hl 3 rfl) ?_
  refine backI h (runH (As := [.ref (zad z 0), .int (xs (i + 1)), .int (xs (i + 2)), .ref (zad z 53)]) (rest := []) C h (w_way l z v sc ar hl0 K wt dp wa (xs (i + 1)) (xs (i + 2)) c0 cK cv cW) gh_131 gh_131_n ⟨rfl, rfl⟩ rfl hl.1 rfl (Nat.le_of_ble_eq_true rfl) dL_law_1003 ⟨Nat.le_of_ble_eq_true rfl, Nat.le_of_ble_eq_true rfl⟩ ⟨by omega, by omega⟩) (fun k v1 sc1 ar1 H locs hw h => ?_)
  have hF := F_way (b := 0) (u2 := (v, sc, ar)) hC hR hw
  obtain ⟨q21, qW, q22, q23, q24, -, -, q35⟩ := hR.fr hF
  refine lv_istore (lv' := [(5, .int (k)), (0, .ref (b)), (1, .ref (zad z 0)), (2, .ref (zad z 27)), (3, .ref (zad z 53)), (4, .int (nI (i)))]) hx hb dL_law_1006 hl (by decide) rfl (fun ls hl => ?_)
  refine lv_aload_n hx hb dL_law_1008 rfl (lv_at hl 3 rfl) ?_
  refine lv_aload_n hx hb dL_law_1009 rfl (lv_at hl 1 rfl) ?_
  refine lv_iload hx hb dL_law_1010 (lv_at hl 5 rfl) ?_
  refine lv_iconst (v := nI (1)) hx hb dL_law_1012 (by decide) ?_
  refine lv_iadd hx hb dL_law_1013 ?_
  refine tI (y := nI (i + 1)) (nI_add _ _) ?_
  refine ldX C h hX (i := i + 1) (by omega) dL_law_1014 ?_
  refine lv_aload_n hx hb dL_law_1015 rfl (lv_at hl 1 rfl) ?_
  refine lv_iload hx hb dL_law_1016 (lv_at hl 5 rfl) ?_
  refine lv_iconst (v := nI (2)) hx hb dL_law_1018 (by decide) ?_
  refine lv_iadd hx hb dL_law_1019 ?_
  refine tI (y := nI (i + 2)) (nI_add _ _) ?_
  refine ldX C h hX (i := i + 2) (by omega) dL_law_1020 ?_
  refine backI h (runV (As := [.int (xs (i + 1)), .int (xs (i + 2))]) (rest := []) C h (r_way l z v1 sc1 ar1 K wt dp (xs (i + 1)) (xs (i + 2)) q21 cK qW) gv_L_133 gv_L_133_n ⟨rfl, rfl⟩ (r_Ref C h) rfl hl.1 rfl (Nat.le_of_ble_eq_true rfl) dL_law_1021 ⟨Nat.le_of_ble_eq_true rfl, Nat.le_of_ble_eq_true rfl⟩ ⟨by omega, by omega⟩) (fun b2 v2 sc2 ar2 H locs hr h => ?_)
  obtain ⟨kc, hkc, rfl, e20, eb, J2⟩ := M_way (u2 := (v2, sc2, ar2)) hC hR hw hr
  have J2 : JI v2 sc2 ar2 := J2
  refine lv_istore (lv' := [(6, .int (b2)), (5, .int (nI (kc))), (0, .ref (b)), (1, .ref (zad z 0)), (2, .ref (zad z 27)), (3, .ref (zad z 53)), (4, .int (nI (i)))]) hx hb dL_law_1024 hl (by decide) rfl (fun ls hl => ?_)
  refine lv_aload_n hx hb dL_law_1026 rfl (lv_at hl 4 rfl) ?_
  refine backI h (runV (As := []) (rest := []) C h (r_thrown l z v2 sc2 ar2) gv_L_70 gv_L_70_n ⟨rfl, rfl⟩ (r_Ref C h) rfl hl.1 rfl (Nat.le_of_ble_eq_true rfl) dL_law_1027 ⟨Nat.le_of_ble_eq_true rfl, Nat.le_of_ble_eq_true rfl⟩ ⟨by omega, by omega⟩) (fun t v3 sc3 ar3 H locs ht h => ?_)
  have h : hH z v2 sc2 ar2 s H locs := uEq ht.2 h
  refine tI (y := nI kc) (ht.1.trans e20) ?_
  refine lv_iload hx hb dL_law_1030 (lv_at hl 1 rfl) ?_
  refine jN_eq (tgt := 1037) (a := kc) (b := kc) C (by omega) (by omega) dL_law_1032 (by decide) (fun c_1032 => ?_) (fun c_1032 => absurd rfl c_1032)
  refine lv_iload hx hb dL_law_1037 (lv_at hl 1 rfl) ?_
  refine zN_ne (tgt := 1054) (a := kc) C (by omega) dL_law_1039 (by decide) (fun c_1039 => ?_) (fun c_1039 => ?_)
  · skip
    refine lv_goto (tgt := 1113) hx hb dL_law_1054 (by decide) ?_
    exact kk v2 sc2 ar2 H locs ls _ _ J2 h (lv_sub hl [2, 3, 4, 5, 6] rfl) (by omega) (by omega)
  · skip
    refine lv_aload_n hx hb dL_law_1042 rfl (lv_at hl 5 rfl) ?_
    refine lv_iconst (v := nI (0)) hx hb dL_law_1043 (by decide) ?_
    refine ldJ C h dL_law_1044 ?_
    refine tL (y := (b2).toInt64) (eb c_1039) ?_
    refine lv_iload hx hb dL_law_1045 (lv_at hl 0 rfl) ?_
    refine lv_i2l (v := (b2).toInt64) hx hb dL_law_1047 rfl ?_
    refine W.lcmp hx hb dL_law_1048 ?_
    refine lv_if_eq (tgt := 1054) hx hb dL_law_1049 (by decide) (fun c_1049 => ?_) (fun c_1049 => absurd ((lg_cmp_eq _ _).mpr rfl) c_1049)
    refine lv_goto (tgt := 1113) hx hb dL_law_1054 (by decide) ?_
    exact kk v2 sc2 ar2 H locs ls _ _ J2 h (lv_sub hl [2, 3, 4, 5, 6] rfl) (by omega) (by omega)
theorem gv_L_136 : GoodIn uW (wsV RL 136 RX10 yX10_about (Cond.code yX10_about cX10_about 2 (some .int) :: uW)) := gI_V (uW_of (by decide +kernel) rfl) (uW_of (by decide +kernel) rfl) (uW_of (by decide +kernel) rfl) (uW_of (by decide +kernel) rfl) (uW_of (by decide +kernel) rfl)
theorem gv_L_136_n : okN yX10_about 1 := by decide +kernel
theorem gh_134 : GoodIn uW (va_wsS RL 134 yL_about (Cond.codeWith yL_about cL_about 4 (some .int) [(0, 9, 12, 13)] :: uW)) := gI_H (uW_of (by decide +kernel) rfl) (uW_of (by decide +kernel) rfl) (uW_of (by decide +kernel) rfl) (uW_of (by decide +kernel) rfl)
theorem gh_134_n : okN yL_about 3 := by decide +kernel
set_option maxHeartbeats 4000000 in
set_option maxRecDepth 100000 in
theorem lc_about {p : Program} {l : Launch} {e : Env} {s : State} {m : MethodId} {args : Array Value} {below : List Frame} {meth : Method} {c : Code} {Q : State → Prop} {z : bZ} {v : bV} {sc : Nat → Int32} {ar : Nat → Nat → Int32} {H : Heap} {locs : List Loc} {ls : Array Slot} {b L i cells slots : Nat} {xs : Nat → Int32} (C : cX z p m c cL_law 7 s args RL) (hl0 : l.stackTraces = false) (hX : va_X b L xs s s.heap ∧ b < s.heap.size ∧ ¬ zA z b ∧ L ≤ 2560) (hi : i + 5 ≤ L) (J : JI v sc ar) (h : hH z v sc ar s H locs) (hl : lv_has ls 7 (lvL z b i)) (hce : cells + 9 ≤ room_1.cells) (hsl : slots + 60 ≤ room_1.slots) (kk : lK p l e s m args below meth c Q z b i cells slots) : W p l e room_1 s m args below meth c H locs cells slots Q (F0 m 1057 ls []) := by
  have hx := C.1.1
  have hb := C.1.2.1
  have hi0 := hX.2.2.2
  obtain ⟨K, N, n, rf, wt, dp, wa, hC, hR⟩ := J
  obtain ⟨c0, cK, cv, cW, c1, cN, c3, cn, c4, crf⟩ := id hC
  have hl : lv_has ls 7 [(0, .ref (b)), (1, .ref (zad z 0)), (2, .ref (zad z 27)), (3, .ref (zad z 53)), (4, .int (nI (i)))] := hl
  refine lv_aload_n hx hb dL_law_1057 rfl (lv_at hl 1 rfl) ?_
  refine lv_aload_n hx hb dL_law_1058 rfl (lv_at hl 0 rfl) ?_
  refine lv_iload hx hb dL_law_1059 (lv_at hl 4 rfl) ?_
  refine lv_iconst (v := nI (1)) hx hb dL_law_1061 (by decide) ?_
  refine lv_iadd hx hb dL_law_1062 ?_
  refine tI (y := nI (i + 1)) (nI_add _ _) ?_
  refine ldX C h hX (i := i + 1) (by omega) dL_law_1063 ?_
  refine lv_aload_n hx hb dL_law_1064 rfl (lv_at hl 3 rfl) ?_
  refine backI h (runH (As := [.ref (zad z 0), .int (xs (i + 1)), .ref (zad z 53)]) (rest := []) C h (w_about l z v sc ar hl0 (xs (i + 1))) gh_134 gh_134_n ⟨rfl, rfl⟩ rfl hl.1 rfl (Nat.le_of_ble_eq_true rfl) dL_law_1065 ⟨Nat.le_of_ble_eq_true rfl, Nat.le_of_ble_eq_true rfl⟩ ⟨by omega, by omega⟩) (fun k v1 sc1 ar1 H locs hw h => ?_)
  have hF := F_about (b := 0) (u2 := (v, sc, ar)) hC hR hw
  obtain ⟨q21, qW, q22, q23, q24, -, -, q35⟩ := hR.fr hF
  refine lv_istore (lv' := [(5, .int (k)), (0, .ref (b)), (1, .ref (zad z 0)), (2, .ref (zad z 27)), (3, .ref (zad z 53)), (4, .int (nI (i)))]) hx hb dL_law_1068 hl (by decide) rfl (fun ls hl => ?_)
  refine lv_aload_n hx hb dL_law_1070 rfl (lv_at hl 3 rfl) ?_
  refine lv_aload_n hx hb dL_law_1071 rfl (lv_at hl 1 rfl) ?_
  refine lv_iload hx hb dL_law_1072 (lv_at hl 5 rfl) ?_
  refine lv_iconst (v := nI (1)) hx hb dL_law_1074 (by decide) ?_
  refine lv_iadd hx hb dL_law_1075 ?_
  refine tI (y := nI (i + 1)) (nI_add _ _) ?_
  refine ldX C h hX (i := i + 1) (by omega) dL_law_1076 ?_
  refine backI h (runV (As := [.int (xs (i + 1))]) (rest := []) C h (r_about l z v1 sc1 ar1 (xs (i + 1))) gv_L_136 gv_L_136_n ⟨rfl, rfl⟩ (r_Ref C h) rfl hl.1 rfl (Nat.le_of_ble_eq_true rfl) dL_law_1077 ⟨Nat.le_of_ble_eq_true rfl, Nat.le_of_ble_eq_true rfl⟩ ⟨by omega, by omega⟩) (fun b2 v2 sc2 ar2 H locs hr h => ?_)
  obtain ⟨kc, hkc, rfl, e20, eb, J2⟩ := M_about (u2 := (v2, sc2, ar2)) hC hR hw hr
  have J2 : JI v2 sc2 ar2 := J2
  refine lv_istore (lv' := [(6, .int (b2)), (5, .int (nI (kc))), (0, .ref (b)), (1, .ref (zad z 0)), (2, .ref (zad z 27)), (3, .ref (zad z 53)), (4, .int (nI (i)))]) hx hb dL_law_1080 hl (by decide) rfl (fun ls hl => ?_)
  refine lv_aload_n hx hb dL_law_1082 rfl (lv_at hl 4 rfl) ?_
  refine backI h (runV (As := []) (rest := []) C h (r_thrown l z v2 sc2 ar2) gv_L_70 gv_L_70_n ⟨rfl, rfl⟩ (r_Ref C h) rfl hl.1 rfl (Nat.le_of_ble_eq_true rfl) dL_law_1083 ⟨Nat.le_of_ble_eq_true rfl, Nat.le_of_ble_eq_true rfl⟩ ⟨by omega, by omega⟩) (fun t v3 sc3 ar3 H locs ht h => ?_)
  have h : hH z v2 sc2 ar2 s H locs := uEq ht.2 h
  refine tI (y := nI kc) (ht.1.trans e20) ?_
  refine lv_iload hx hb dL_law_1086 (lv_at hl 1 rfl) ?_
  refine jN_eq (tgt := 1093) (a := kc) (b := kc) C (by omega) (by omega) dL_law_1088 (by decide) (fun c_1088 => ?_) (fun c_1088 => absurd rfl c_1088)
  refine lv_iload hx hb dL_law_1093 (lv_at hl 1 rfl) ?_
  refine zN_ne (tgt := 1110) (a := kc) C (by omega) dL_law_1095 (by decide) (fun c_1095 => ?_) (fun c_1095 => ?_)
  · skip
    refine lv_goto (tgt := 1113) hx hb dL_law_1110 (by decide) ?_
    exact kk v2 sc2 ar2 H locs ls _ _ J2 h (lv_sub hl [2, 3, 4, 5, 6] rfl) (by omega) (by omega)
  · skip
    refine lv_aload_n hx hb dL_law_1098 rfl (lv_at hl 5 rfl) ?_
    refine lv_iconst (v := nI (0)) hx hb dL_law_1099 (by decide) ?_
    refine ldJ C h dL_law_1100 ?_
    refine tL (y := (b2).toInt64) (eb c_1095) ?_
    refine lv_iload hx hb dL_law_1101 (lv_at hl 0 rfl) ?_
    refine lv_i2l (v := (b2).toInt64) hx hb dL_law_1103 rfl ?_
    refine W.lcmp hx hb dL_law_1104 ?_
    refine lv_if_eq (tgt := 1110) hx hb dL_law_1105 (by decide) (fun c_1105 => ?_) (fun c_1105 => absurd ((lg_cmp_eq _ _).mpr rfl) c_1105)
    refine lv_goto (tgt := 1113) hx hb dL_law_1110 (by decide) ?_
    exact kk v2 sc2 ar2 H locs ls _ _ J2 h (lv_sub hl [2, 3, 4, 5, 6] rfl) (by omega) (by omega)
