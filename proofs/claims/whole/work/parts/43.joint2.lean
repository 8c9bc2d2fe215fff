/-! Both sides: the other calls. -/
theorem F_unpack {K N n rf : Nat} {wt : Nat → Nat → Nat} {dp wa : Nat → Nat} {v v1 : bV} {sc sc1 : Nat → Int32} {ar ar1 : Nat → Nat → Int32} {k b : Int32} {u2 : bS} {y : Int32} {x : Int32} (hC : CJ K N n rf wt dp wa v sc) (hR : RJ K N n rf wt dp sc ar sc ar) (hw : wP1 (fun r u => ∃ j c0, j < K ∧ y = nI j ∧ c0 ≤ 400 ∧ x = nI c0 ∧ uO v sc ar n rf c0 (RD wt dp (bN (ar 11)) n j c0 rf) r u) (fun E u => E = xIA ∧ u = (v, sc, ar) ∧ ¬ (isW K y ∧ inR 0 400 x)) k (v1, sc1, ar1)) : clF sc ar sc1 ar1 := by
  rcases hw with ⟨-, r, u0, hp, e⟩ | ⟨-, E, hp⟩
  · obtain ⟨j, c0, hj, hy, hc, hx, h⟩ := hp
    unfold uO at h
    split at h
    · obtain ⟨sc3, ar3, d, -, e0⟩ := h
      subst e0; cases e
      exact ⟨fun i hi => (va_up_ne _ _ (by omega)).trans (d.1 i (by omega) (by omega) (by omega)), fun k hk => d.2 k (by omega) (by omega)⟩
    · obtain ⟨sc3, ar3, g, d, -, -, -, -, e0, -⟩ := h
      subst e0; cases e
      exact ⟨fun i hi => (va_up_ne _ _ (by omega)).trans ((va_up_ne _ _ (by omega)).trans ((va_up_ne _ _ (by omega)).trans (d.1 i (by omega) (by omega) (by omega)))), fun k hk => (va_up_ne _ _ (by omega)).trans (d.2 k (by omega) (by omega))⟩
  · obtain ⟨-, e, -⟩ := hp; cases e; exact clF.rf
set_option maxHeartbeats 1000000 in
theorem M_unpack {K N n rf : Nat} {wt : Nat → Nat → Nat} {dp wa : Nat → Nat} {v v1 : bV} {sc sc1 : Nat → Int32} {ar ar1 : Nat → Nat → Int32} {k b : Int32} {u2 : bS} {y : Int32} {x : Int32} (hC : CJ K N n rf wt dp wa v sc) (hR : RJ K N n rf wt dp sc ar sc ar) (hw : wP1 (fun r u => ∃ j c0, j < K ∧ y = nI j ∧ c0 ≤ 400 ∧ x = nI c0 ∧ uO v sc ar n rf c0 (RD wt dp (bN (ar 11)) n j c0 rf) r u) (fun E u => E = xIA ∧ u = (v, sc, ar) ∧ ¬ (isW K y ∧ inR 0 400 x)) k (v1, sc1, ar1)) (hr : (fun (v : bV) (sc : Nat → Int32) (ar : Nat → Nat → Int32) (t : Nat → Nat) (y : Int32) (x : Int32) => (fun r u => (¬ (isW K y ∧ inR 0 400 x) ∧ u = (v, va_up sc 20 (nI 1), ar)) ∨ (∃ j c0, (y = nI j ∧ j < K) ∧ (x = nI c0 ∧ c0 ≤ 400) ∧ ruO v (va_up sc 20 (nI 0)) ar rf c0 (RD wt dp t n j c0 rf) r u))) v1 sc1 ar1 (bN (ar 11)) y x b u2) : mO k b u2 := by
  obtain ⟨c0, cK, cv, cW, c1, cN, c3, cn, c4, crf⟩ := id hC
  obtain ⟨r21, rW, r22, r23, r24, ⟨r25, r26, r27, r28⟩, r34, r35⟩ := id hR
  rcases hw with ⟨rfl, r, u0, hp, e⟩ | ⟨rfl, E, hp⟩
  · obtain ⟨j, c9, hj, hy, hc, hx, h⟩ := hp
    rcases hr with ⟨h9, -⟩ | ⟨j2, c8, ⟨hy2, hj2⟩, ⟨hx2, hc2⟩, h5⟩
    · exact absurd ⟨⟨j, hj, hy⟩, ⟨c9, Nat.zero_le _, hc, hx⟩⟩ h9
    · have e1 : j2 = j := (nI_eq (by omega) (by omega)).mp (hy2.symm.trans hy)
      have e2 : c8 = c9 := (nI_eq (by omega) (by omega)).mp (hx2.symm.trans hx)
      subst e1
      subst e2
      unfold uO at h
      unfold ruO at h5
      rcases ho : RD wt dp (bN (ar 11)) n j2 c8 rf with ⟨xs, e9⟩ | ⟨f, q⟩
      · rw [ho] at h h5
        obtain ⟨sc3, ar3, g, d, hr3, hre, hen, hxl, e0, hg⟩ := h
        subst e0
        cases e
        obtain ⟨sc4, ar4, g4, w, hb, e, hg4⟩ := h5
        subst e
        have ws : ∀ i, i < 29 → i ≠ 20 → i ≠ 1 → i ≠ 2 → i ≠ 4 → i ≠ 6 → i ≠ 7 → i ≠ 8 → sc4 i = sc i := fun i h0 a b c d9 e f h9 => (w.1 i (by omega) (by omega) (by omega) (by omega)).trans ((va_up_ne _ _ a).trans ((va_up_ne _ _ d9).trans ((va_up_ne _ _ b).trans ((va_up_ne _ _ c).trans (d.1 i e f h9)))))
        have ws1 : ∀ i, i < 20 → sc4 i = va_up (va_up (va_up sc3 2 (-1)) 1 (nI c8)) 4 (nI e9) i := fun i hi => (w.1 i (by omega) (by omega) (by omega) (by omega)).trans (va_up_ne _ _ (by omega))
        have wa4 : ∀ k, k < 36 → k ≠ 12 → k ≠ 13 → ¬ (19 ≤ k ∧ k < 27) → ar4 k = ar k := fun k h0 a b c => (w.2 k (by omega) (by omega)).trans ((va_up_ne _ _ a).trans (d.2 k b c))
        refine ⟨0, by decide, rfl, (w.1 20 (by decide) (by decide) (by decide) (by decide)).trans (va_up_self _ _ _), (fun _ => by rw [hb, ← hr3]; rfl), ⟨K, c8, n, e9, wt, dp, wa, ⟨(ws 0 (by decide) (by decide) (by decide) (by decide) (by decide) (by decide) (by decide) (by decide)).trans c0, cK, cv, cW, ws1 1 (by decide), hc, (ws 3 (by decide) (by decide) (by decide) (by decide) (by decide) (by decide) (by decide) (by decide)).trans c3, cn, ws1 4 (by decide), hen⟩, (ws 21 (by decide) (by decide) (by decide) (by decide) (by decide) (by decide) (by decide) (by decide)).trans r21, rW.fr0 (fun k a b => (va_up_ne _ _ (by omega)).trans (wa4 k (by omega) (by omega) (by omega) (by omega))), rfl, (ws 23 (by decide) (by decide) (by decide) (by decide) (by decide) (by decide) (by decide) (by decide)).trans r23, rfl, ⟨(ws1 2 (by decide)).symm, ?_, ?_, ?_⟩, fun i hi => ?_, fun j hj => ?_⟩⟩
        · show sc4 26 = sc4 12; rw [ws 26 (by decide) (by decide) (by decide) (by decide) (by decide) (by decide) (by decide) (by decide), ws 12 (by decide) (by decide) (by decide) (by decide) (by decide) (by decide) (by decide) (by decide)]; exact r26
        · show sc4 27 = sc4 13; rw [ws 27 (by decide) (by decide) (by decide) (by decide) (by decide) (by decide) (by decide) (by decide), ws 13 (by decide) (by decide) (by decide) (by decide) (by decide) (by decide) (by decide) (by decide)]; exact r27
        · show sc4 28 = sc4 14; rw [ws 28 (by decide) (by decide) (by decide) (by decide) (by decide) (by decide) (by decide) (by decide), ws 14 (by decide) (by decide) (by decide) (by decide) (by decide) (by decide) (by decide) (by decide)]; exact r28
        · show g4 i = ar4 12 i
          rw [hg4 i hi, show ar4 12 = g from (w.2 12 (by decide) (by decide)).trans (va_up_self _ _ _), hg i hi]
        · show ar4 35 j = nI (bN (ar4 11) j)
          rw [wa4 35 (by decide) (by decide) (by decide) (by decide), r35 j hj]
          unfold bN
          rw [wa4 11 (by decide) (by decide) (by decide) (by decide)]
      · rw [ho] at h h5
        obtain ⟨sc3, ar3, d, hr3, e0⟩ := h
        subst e0
        cases e
        obtain ⟨sc4, ar4, w, hb, e⟩ := h5
        subst e
        have ws : ∀ i, i < 29 → i ≠ 20 → i ≠ 2 → i ≠ 6 → i ≠ 7 → i ≠ 8 → sc4 i = sc i := fun i h0 a b c d9 e => (w.1 i (by omega) (by omega) (by omega) (by omega)).trans ((va_up_ne _ _ a).trans ((va_up_ne _ _ b).trans (d.1 i c d9 e)))
        have wa4 : ∀ k, k < 36 → k ≠ 13 → ¬ (19 ≤ k ∧ k < 27) → ar4 k = ar k := fun k h0 a b => (w.2 k (by omega) (by omega)).trans (d.2 k a b)
        have w2 : sc4 2 = nI q := (w.1 2 (by decide) (by decide) (by decide) (by decide)).trans rfl
        refine ⟨0, by decide, rfl, (w.1 20 (by decide) (by decide) (by decide) (by decide)).trans (va_up_self _ _ _), (fun _ => by rw [hb, ← hr3]; rfl), ⟨K, N, n, rf, wt, dp, wa, ⟨(ws 0 (by decide) (by decide) (by decide) (by decide) (by decide) (by decide)).trans c0, cK, cv, cW, (ws 1 (by decide) (by decide) (by decide) (by decide) (by decide) (by decide)).trans c1, cN, (ws 3 (by decide) (by decide) (by decide) (by decide) (by decide) (by decide)).trans c3, cn, (ws 4 (by decide) (by decide) (by decide) (by decide) (by decide) (by decide)).trans c4, crf⟩, (ws 21 (by decide) (by decide) (by decide) (by decide) (by decide) (by decide)).trans r21, rW.fr0 (fun k a b => wa4 k (by omega) (by omega) (by omega)), (ws 22 (by decide) (by decide) (by decide) (by decide) (by decide) (by decide)).trans r22, (ws 23 (by decide) (by decide) (by decide) (by decide) (by decide) (by decide)).trans r23, (ws 24 (by decide) (by decide) (by decide) (by decide) (by decide) (by decide)).trans r24, ⟨w2.symm, ?_, ?_, ?_⟩, fun i hi => ?_, fun j hj => ?_⟩⟩
        · show sc4 26 = sc4 12; rw [ws 26 (by decide) (by decide) (by decide) (by decide) (by decide) (by decide), ws 12 (by decide) (by decide) (by decide) (by decide) (by decide) (by decide)]; exact r26
        · show sc4 27 = sc4 13; rw [ws 27 (by decide) (by decide) (by decide) (by decide) (by decide) (by decide), ws 13 (by decide) (by decide) (by decide) (by decide) (by decide) (by decide)]; exact r27
        · show sc4 28 = sc4 14; rw [ws 28 (by decide) (by decide) (by decide) (by decide) (by decide) (by decide), ws 14 (by decide) (by decide) (by decide) (by decide) (by decide) (by decide)]; exact r28
        · show ar4 34 i = ar4 12 i; rw [wa4 34 (by decide) (by decide) (by decide), wa4 12 (by decide) (by decide) (by decide)]; exact r34 i hi
        · show ar4 35 j = nI (bN (ar4 11) j)
          rw [wa4 35 (by decide) (by decide) (by decide), r35 j hj]
          unfold bN
          rw [wa4 11 (by decide) (by decide) (by decide)]
  · obtain ⟨-, e, h9⟩ := hp
    cases e
    rcases hr with ⟨-, e⟩ | ⟨j2, c8, ⟨hy2, hj2⟩, ⟨hx2, hc2⟩, -⟩
    · subst e; exact ⟨1, by decide, rfl, rfl, (fun e => absurd e (by decide)), keep20 _ _ hC hR⟩
    · exact absurd ⟨⟨j2, hj2, hy2⟩, ⟨c8, Nat.zero_le _, hc2, hx2⟩⟩ h9
theorem F_place {K N n rf : Nat} {wt : Nat → Nat → Nat} {dp wa : Nat → Nat} {v v1 : bV} {sc sc1 : Nat → Int32} {ar ar1 : Nat → Nat → Int32} {k b : Int32} {u2 : bS} (hC : CJ K N n rf wt dp wa v sc) (hR : RJ K N n rf wt dp sc ar sc ar) (hw : (fun r u => r = sc 2 ∧ u = (v, sc, ar)) k (v1, sc1, ar1)) : clF sc ar sc1 ar1 := by
  obtain ⟨-, e⟩ := hw
  cases e
  exact clF.rf
set_option maxHeartbeats 1000000 in
theorem M_place {K N n rf : Nat} {wt : Nat → Nat → Nat} {dp wa : Nat → Nat} {v v1 : bV} {sc sc1 : Nat → Int32} {ar ar1 : Nat → Nat → Int32} {k b : Int32} {u2 : bS} (hC : CJ K N n rf wt dp wa v sc) (hR : RJ K N n rf wt dp sc ar sc ar) (hw : (fun r u => r = sc 2 ∧ u = (v, sc, ar)) k (v1, sc1, ar1)) (hr : (fun (v : bV) (sc : Nat → Int32) (ar : Nat → Nat → Int32) (t : Nat → Nat) => (fun r u => r = sc 25 ∧ u = (v, va_up sc 20 (nI 0), ar))) v1 sc1 ar1 (bN (ar 11)) b u2) : k = b ∧ JI u2.1 u2.2.1 u2.2.2 := by
  obtain ⟨r21, rW, r22, r23, r24, ⟨r25, r26, r27, r28⟩, r34, r35⟩ := id hR
  obtain ⟨hk, e⟩ := hw
  cases e
  obtain ⟨hb, e⟩ := hr
  subst e
  exact ⟨hk.trans (r25.symm.trans hb.symm), keep20 _ _ hC hR⟩
theorem F_best {K N n rf : Nat} {wt : Nat → Nat → Nat} {dp wa : Nat → Nat} {v v1 : bV} {sc sc1 : Nat → Int32} {ar ar1 : Nat → Nat → Int32} {k b : Int32} {u2 : bS} {y1 : Int32} {y2 : Int32} (hC : CJ K N n rf wt dp wa v sc) (hR : RJ K N n rf wt dp sc ar sc ar) (hw : wP1 (fun r u => ∃ j1 j2, y1 = nI j1 ∧ y2 = nI j2 ∧ j1 ≤ j2 ∧ j2 < K ∧ r = oI ((bst (wLen wt dp (rowL (ar 12) 0 N)) j1 (j2 + 1 - j1)).map Prod.fst) ∧ ∃ sc1 ar1, u = (v, sc1, ar1) ∧ dX n sc ar sc1 ar1) (fun E u => E = xIA ∧ u = (v, sc, ar) ∧ ¬ ∃ a b, y1 = nI a ∧ y2 = nI b ∧ a ≤ b ∧ b < K) k (v1, sc1, ar1)) : clF sc ar sc1 ar1 := by
  rcases hw with ⟨-, r, u0, hp, e⟩ | ⟨-, E, hp⟩
  · obtain ⟨j1, j2, h1, h2, h3, h4, h5, sc3, ar3, e0, d⟩ := hp
    subst e0
    cases e
    exact ⟨fun i hi => d.1 i (by omega) (by omega) (by omega), fun k hk => d.2.1 k (by omega) (by omega) (by omega) (by omega) (by omega)⟩
  · obtain ⟨-, e, -⟩ := hp; cases e; exact clF.rf
set_option maxHeartbeats 1000000 in
theorem M_best {K N n rf : Nat} {wt : Nat → Nat → Nat} {dp wa : Nat → Nat} {v v1 : bV} {sc sc1 : Nat → Int32} {ar ar1 : Nat → Nat → Int32} {k b : Int32} {u2 : bS} {y1 : Int32} {y2 : Int32} (hC : CJ K N n rf wt dp wa v sc) (hR : RJ K N n rf wt dp sc ar sc ar) (hw : wP1 (fun r u => ∃ j1 j2, y1 = nI j1 ∧ y2 = nI j2 ∧ j1 ≤ j2 ∧ j2 < K ∧ r = oI ((bst (wLen wt dp (rowL (ar 12) 0 N)) j1 (j2 + 1 - j1)).map Prod.fst) ∧ ∃ sc1 ar1, u = (v, sc1, ar1) ∧ dX n sc ar sc1 ar1) (fun E u => E = xIA ∧ u = (v, sc, ar) ∧ ¬ ∃ a b, y1 = nI a ∧ y2 = nI b ∧ a ≤ b ∧ b < K) k (v1, sc1, ar1)) (hr : (fun (v : bV) (sc : Nat → Int32) (ar : Nat → Nat → Int32) (t : Nat → Nat) (y1 : Int32) (y2 : Int32) => (fun r u => (¬ (∃ a b, y1 = nI a ∧ y2 = nI b ∧ a ≤ b ∧ b < K) ∧ u = (v, va_up sc 20 (nI 1), ar)) ∨ (∃ j1 j2, y1 = nI j1 ∧ y2 = nI j2 ∧ j1 ≤ j2 ∧ j2 < K ∧ r = oI ((bst (wLen wt dp (rowL (ar 34) 0 N)) j1 (j2 + 1 - j1)).map Prod.fst) ∧ ∃ sc1 ar1, u = (v, sc1, ar1) ∧ wFr (va_up sc 20 (nI 0)) ar sc1 ar1))) v1 sc1 ar1 (bN (ar 11)) y1 y2 b u2) : mO k b u2 := by
  obtain ⟨c0, cK, cv, cW, c1, cN, c3, cn, c4, crf⟩ := id hC
  obtain ⟨r21, rW, r22, r23, r24, ⟨r25, r26, r27, r28⟩, r34, r35⟩ := id hR
  rcases hw with ⟨rfl, r, u0, hp, e⟩ | ⟨rfl, E, hp⟩
  · obtain ⟨j1, j2, h1, h2, h3, h4, h5, sc3, ar3, e0, d⟩ := hp
    subst e0
    cases e
    rcases hr with ⟨h9, -⟩ | ⟨i1, i2, q1, q2, q3, q4, hb, sc4, ar4, e, w⟩
    · exact absurd ⟨j1, j2, h1, h2, h3, h4⟩ h9
    · subst e
      have e1 : i1 = j1 := (nI_eq (by omega) (by omega)).mp (q1.symm.trans h1)
      have e2 : i2 = j2 := (nI_eq (by omega) (by omega)).mp (q2.symm.trans h2)
      subst e1
      subst e2
      rw [show ar1 34 = ar 34 from d.2.1 34 (by decide) (by decide) (by decide) (by decide) (by decide), rowL_cg (f := ar 34) (g := ar 12) N 0 (fun i hi => by rw [Nat.zero_add]; exact r34 i hi)] at hb
      refine ⟨0, by decide, rfl, (w.1 20 (by decide) (by decide) (by decide)).trans (va_up_self _ _ _), fun _ => ?_, keepJ hC hR rfl rfl (fun i a b c d9 => (w.1 i (by omega) (by omega) (by omega)).trans ((va_up_ne _ _ c).trans (d.1 i a (by omega) (by omega)))) (fun k a b c => (w.2 k (by omega)).trans (d.2.1 k a (by omega) (by omega) (by omega) (by omega))) (fun j hj => (congrFun (w.2 11 (by omega)) j).trans (d.2.2 j hj))⟩
      rw [hb, ← h5]; rfl
  · obtain ⟨-, e, h9⟩ := hp
    cases e
    rcases hr with ⟨-, e⟩ | ⟨i1, i2, q1, q2, q3, q4, -⟩
    · subst e; exact ⟨1, by decide, rfl, rfl, (fun e => absurd e (by decide)), keep20 _ _ hC hR⟩
    · exact absurd ⟨i1, i2, q1, q2, q3, q4⟩ h9
theorem chW_o {sc : Nat → Int32} {A T : Nat → Nat} {o : Option (Nat × Nat)} {i : Nat} (h : i ≠ 12) (h2 : i ≠ 13) (h3 : i ≠ 14) : chW sc A T o i = sc i := by
  cases o with
  | none => rfl
  | some x => show va_up (va_up (va_up sc 12 _) 13 _) 14 _ i = _; rw [va_up_ne _ _ h3, va_up_ne _ _ h2, va_up_ne _ _ h]
theorem bW_o2 {sc : Nat → Int32} {o : Option B4} {i : Nat} (h : i ≠ 26) (h2 : i ≠ 27) (h3 : i ≠ 28) : bW sc o i = sc i := by
  cases o with
  | none => rfl
  | some q => show va_up (va_up (va_up sc 26 _) 27 _) 28 _ i = _; rw [va_up_ne _ _ h3, va_up_ne _ _ h2, va_up_ne _ _ h]
theorem F_bestRun {K N n rf : Nat} {wt : Nat → Nat → Nat} {dp wa : Nat → Nat} {v v1 : bV} {sc sc1 : Nat → Int32} {ar ar1 : Nat → Nat → Int32} {k b : Int32} {u2 : bS} (hC : CJ K N n rf wt dp wa v sc) (hR : RJ K N n rf wt dp sc ar sc ar) (hw : (fun r u => r = oI ((chF (hdA wt (ar 12) K) (tlB wt (ar 12) N K) (N + 1)).map Prod.fst) ∧ ∃ hh tt, u = (v, chW (va_up (va_up (va_up (va_up sc 11 (nI N)) 12 (-1)) 13 (-1)) 14 (-1)) (hdA wt (ar 12) K) (tlB wt (ar 12) N K) (chF (hdA wt (ar 12) K) (tlB wt (ar 12) N K) (N + 1)), va_up (va_up ar 17 hh) 18 tt)) k (v1, sc1, ar1)) : clF sc ar sc1 ar1 := by
  obtain ⟨-, hh, tt, e⟩ := hw
  cases e
  exact ⟨fun i hi => (chW_o (by omega) (by omega) (by omega)).trans ((va_up_ne _ _ (by omega)).trans ((va_up_ne _ _ (by omega)).trans ((va_up_ne _ _ (by omega)).trans (va_up_ne _ _ (by omega))))), fun k hk => (va_up_ne _ _ (by omega)).trans (va_up_ne _ _ (by omega))⟩
set_option maxHeartbeats 1000000 in
theorem M_bestRun {K N n rf : Nat} {wt : Nat → Nat → Nat} {dp wa : Nat → Nat} {v v1 : bV} {sc sc1 : Nat → Int32} {ar ar1 : Nat → Nat → Int32} {k b : Int32} {u2 : bS} (hC : CJ K N n rf wt dp wa v sc) (hR : RJ K N n rf wt dp sc ar sc ar) (hw : (fun r u => r = oI ((chF (hdA wt (ar 12) K) (tlB wt (ar 12) N K) (N + 1)).map Prod.fst) ∧ ∃ hh tt, u = (v, chW (va_up (va_up (va_up (va_up sc 11 (nI N)) 12 (-1)) 13 (-1)) 14 (-1)) (hdA wt (ar 12) K) (tlB wt (ar 12) N K) (chF (hdA wt (ar 12) K) (tlB wt (ar 12) N K) (N + 1)), va_up (va_up ar 17 hh) 18 tt)) k (v1, sc1, ar1)) (hr : (fun (v : bV) (sc : Nat → Int32) (ar : Nat → Nat → Int32) (t : Nat → Nat) => (fun r u => r = oI ((foN (hdO wt (ar 34)) (tlO wt (ar 34) N) K (N + 1)).map Prod.fst) ∧ ∃ A B, u = (v, bW (va_up (va_up (va_up (va_up sc 20 (nI 0)) 26 (-1)) 27 (-1)) 28 (-1)) (foN (hdO wt (ar 34)) (tlO wt (ar 34) N) K (N + 1)), va_up (va_up ar 51 A) 52 B))) v1 sc1 ar1 (bN (ar 11)) b u2) : k = b ∧ JI u2.1 u2.2.1 u2.2.2 := by
  obtain ⟨c0, cK, cv, cW, c1, cN, c3, cn, c4, crf⟩ := id hC
  obtain ⟨r21, rW, r22, r23, r24, ⟨r25, r26, r27, r28⟩, r34, r35⟩ := id hR
  obtain ⟨hk, hh, tt, e⟩ := hw
  cases e
  have eB : foN (hdO wt (ar 34)) (tlO wt (ar 34) N) K (N + 1) = _ := (bestCg r34).trans (bestEq (dp := dp) cK cN (fun i hi => (cW i hi).2.2))
  obtain ⟨hb, A9, B9, e⟩ := hr
  have hb : b = oI ((foN (hdO wt (ar 34)) (tlO wt (ar 34) N) K (N + 1)).map Prod.fst) := hb
  have e : u2 = (v, bW (va_up (va_up (va_up (va_up (chW (va_up (va_up (va_up (va_up sc 11 (nI N)) 12 (-1)) 13 (-1)) 14 (-1)) (hdA wt (ar 12) K) (tlB wt (ar 12) N K) (chF (hdA wt (ar 12) K) (tlB wt (ar 12) N K) (N + 1))) 20 (nI 0)) 26 (-1)) 27 (-1)) 28 (-1)) (foN (hdO wt (ar 34)) (tlO wt (ar 34) N) K (N + 1)), va_up (va_up (va_up (va_up ar 17 hh) 18 tt) 51 A9) 52 B9) := e
  subst e
  rw [eB] at hb ⊢
  generalize chF (hdA wt (ar 12) K) (tlB wt (ar 12) N K) (N + 1) = o at hk hb ⊢
  refine ⟨?_, ?_⟩
  · rw [hk, hb]
    cases o <;> rfl
  · have ge : ∀ i, i < 26 → i ≠ 11 → i ≠ 12 → i ≠ 13 → i ≠ 14 → i ≠ 20 → bW (va_up (va_up (va_up (va_up (chW (va_up (va_up (va_up (va_up sc 11 (nI N)) 12 (-1)) 13 (-1)) 14 (-1)) (hdA wt (ar 12) K) (tlB wt (ar 12) N K) o) 20 (nI 0)) 26 (-1)) 27 (-1)) 28 (-1)) (o.map (fun x => (x.1, x.2, hdA wt (ar 12) K x.2 % 40, tlB wt (ar 12) N K x.2 % 40))) i = sc i := fun i h0 h1 h2 h3 h4 h5 => (bW_o h0).trans ((va_up_ne _ _ (by omega)).trans ((va_up_ne _ _ (by omega)).trans ((va_up_ne _ _ (by omega)).trans ((va_up_ne _ _ h5).trans ((chW_o h2 h3 h4).trans ((va_up_ne _ _ h4).trans ((va_up_ne _ _ h3).trans ((va_up_ne _ _ h2).trans (va_up_ne _ _ h1)))))))))
    refine ⟨K, N, n, rf, wt, dp, wa, ⟨(ge 0 (by decide) (by decide) (by decide) (by decide) (by decide) (by decide)).trans c0, cK, cv, cW, (ge 1 (by decide) (by decide) (by decide) (by decide) (by decide) (by decide)).trans c1, cN, (ge 3 (by decide) (by decide) (by decide) (by decide) (by decide) (by decide)).trans c3, cn, (ge 4 (by decide) (by decide) (by decide) (by decide) (by decide) (by decide)).trans c4, crf⟩, (ge 21 (by decide) (by decide) (by decide) (by decide) (by decide) (by decide)).trans r21, rW.fr0 (fun k a b => (va_up_ne _ _ (by omega)).trans ((va_up_ne _ _ (by omega)).trans ((va_up_ne _ _ (by omega)).trans (va_up_ne _ _ (by omega))))), (ge 22 (by decide) (by decide) (by decide) (by decide) (by decide) (by decide)).trans r22, (ge 23 (by decide) (by decide) (by decide) (by decide) (by decide) (by decide)).trans r23, (ge 24 (by decide) (by decide) (by decide) (by decide) (by decide) (by decide)).trans r24, ⟨(ge 25 (by decide) (by decide) (by decide) (by decide) (by decide) (by decide)).trans (r25.trans (ge 2 (by decide) (by decide) (by decide) (by decide) (by decide) (by decide)).symm), ?_, ?_, ?_⟩, r34, r35⟩
    · cases o <;> rfl
    · cases o <;> rfl
    · cases o <;> rfl
theorem F_chosen {K N n rf : Nat} {wt : Nat → Nat → Nat} {dp wa : Nat → Nat} {v v1 : bV} {sc sc1 : Nat → Int32} {ar ar1 : Nat → Nat → Int32} {k b : Int32} {u2 : bS} {x : Int32} (hC : CJ K N n rf wt dp wa v sc) (hR : RJ K N n rf wt dp sc ar sc ar) (hw : wP1 (fun r u => u = (v, sc, ar) ∧ ((x = nI 0 ∧ r = sc 12) ∨ (x = nI 1 ∧ r = sc 13) ∨ (x = nI 2 ∧ r = sc 14))) (fun E u => E = xIA ∧ u = (v, sc, ar) ∧ ¬ ∃ j, j ≤ 2 ∧ x = nI j) k (v1, sc1, ar1)) : clF sc ar sc1 ar1 := by
  rcases hw with ⟨-, r, u0, hp, e⟩ | ⟨-, E, hp⟩
  · obtain ⟨e0, -⟩ := hp
    subst e0
    cases e
    exact clF.rf
  · obtain ⟨-, e, -⟩ := hp; cases e; exact clF.rf
set_option maxHeartbeats 1000000 in
theorem M_chosen {K N n rf : Nat} {wt : Nat → Nat → Nat} {dp wa : Nat → Nat} {v v1 : bV} {sc sc1 : Nat → Int32} {ar ar1 : Nat → Nat → Int32} {k b : Int32} {u2 : bS} {x : Int32} (hC : CJ K N n rf wt dp wa v sc) (hR : RJ K N n rf wt dp sc ar sc ar) (hw : wP1 (fun r u => u = (v, sc, ar) ∧ ((x = nI 0 ∧ r = sc 12) ∨ (x = nI 1 ∧ r = sc 13) ∨ (x = nI 2 ∧ r = sc 14))) (fun E u => E = xIA ∧ u = (v, sc, ar) ∧ ¬ ∃ j, j ≤ 2 ∧ x = nI j) k (v1, sc1, ar1)) (hr : (fun (v : bV) (sc : Nat → Int32) (ar : Nat → Nat → Int32) (t : Nat → Nat) (x : Int32) => (fun r u => ((¬ ∃ j, j ≤ 2 ∧ x = nI j) ∧ u = (v, va_up sc 20 (nI 1), ar)) ∨ (u = (v, va_up sc 20 (nI 0), ar) ∧ ((x = nI 0 ∧ r = sc 26) ∨ (x = nI 1 ∧ r = sc 27) ∨ (x = nI 2 ∧ r = sc 28))))) v1 sc1 ar1 (bN (ar 11)) x b u2) : mO k b u2 := by
  obtain ⟨r21, rW, r22, r23, r24, ⟨r25, r26, r27, r28⟩, r34, r35⟩ := id hR
  rcases hw with ⟨rfl, r, u0, hp, e⟩ | ⟨rfl, E, hp⟩
  · obtain ⟨e0, h⟩ := hp
    subst e0
    cases e
    rcases hr with ⟨h9, -⟩ | ⟨e, h5⟩
    · rcases h with ⟨h1, -⟩ | ⟨h1, -⟩ | ⟨h1, -⟩
      · exact absurd ⟨0, by decide, h1⟩ h9
      · exact absurd ⟨1, by decide, h1⟩ h9
      · exact absurd ⟨2, by decide, h1⟩ h9
    · subst e
      refine ⟨0, by decide, rfl, rfl, fun _ => ?_, keep20 _ _ hC hR⟩
      show r.toInt64 = b.toInt64
      congr 1
      rcases h with ⟨h1, h2⟩ | ⟨h1, h2⟩ | ⟨h1, h2⟩ <;> rcases h5 with ⟨g1, g2⟩ | ⟨g1, g2⟩ | ⟨g1, g2⟩
      · rw [h2, g2]; exact r26.symm
      · exact absurd (h1.symm.trans g1) (by decide)
      · exact absurd (h1.symm.trans g1) (by decide)
      · exact absurd (h1.symm.trans g1) (by decide)
      · rw [h2, g2]; exact r27.symm
      · exact absurd (h1.symm.trans g1) (by decide)
      · exact absurd (h1.symm.trans g1) (by decide)
      · exact absurd (h1.symm.trans g1) (by decide)
      · rw [h2, g2]; exact r28.symm
  · obtain ⟨-, e, h9⟩ := hp
    cases e
    rcases hr with ⟨-, e⟩ | ⟨-, h5⟩
    · subst e; exact ⟨1, by decide, rfl, rfl, (fun e => absurd e (by decide)), keep20 _ _ hC hR⟩
    · rcases h5 with ⟨h1, -⟩ | ⟨h1, -⟩ | ⟨h1, -⟩
      · exact absurd ⟨0, by decide, h1⟩ h9
      · exact absurd ⟨1, by decide, h1⟩ h9
      · exact absurd ⟨2, by decide, h1⟩ h9
theorem F_about {K N n rf : Nat} {wt : Nat → Nat → Nat} {dp wa : Nat → Nat} {v v1 : bV} {sc sc1 : Nat → Int32} {ar ar1 : Nat → Nat → Int32} {k b : Int32} {u2 : bS} {x : Int32} (hC : CJ K N n rf wt dp wa v sc) (hR : RJ K N n rf wt dp sc ar sc ar) (hw : wP1 (fun r u => u = (v, sc, ar) ∧ ((x = nI 0 ∧ r = sc 0) ∨ (x = nI 1 ∧ r = sc 1) ∨ (x = nI 2 ∧ r = sc 3) ∨ (x = nI 3 ∧ r = sc 4))) (fun E u => E = xIA ∧ u = (v, sc, ar) ∧ ¬ ∃ j, j ≤ 3 ∧ x = nI j) k (v1, sc1, ar1)) : clF sc ar sc1 ar1 := by
  rcases hw with ⟨-, r, u0, hp, e⟩ | ⟨-, E, hp⟩
  · obtain ⟨e0, -⟩ := hp
    subst e0
    cases e
    exact clF.rf
  · obtain ⟨-, e, -⟩ := hp; cases e; exact clF.rf
set_option maxHeartbeats 1000000 in
theorem M_about {K N n rf : Nat} {wt : Nat → Nat → Nat} {dp wa : Nat → Nat} {v v1 : bV} {sc sc1 : Nat → Int32} {ar ar1 : Nat → Nat → Int32} {k b : Int32} {u2 : bS} {x : Int32} (hC : CJ K N n rf wt dp wa v sc) (hR : RJ K N n rf wt dp sc ar sc ar) (hw : wP1 (fun r u => u = (v, sc, ar) ∧ ((x = nI 0 ∧ r = sc 0) ∨ (x = nI 1 ∧ r = sc 1) ∨ (x = nI 2 ∧ r = sc 3) ∨ (x = nI 3 ∧ r = sc 4))) (fun E u => E = xIA ∧ u = (v, sc, ar) ∧ ¬ ∃ j, j ≤ 3 ∧ x = nI j) k (v1, sc1, ar1)) (hr : (fun (v : bV) (sc : Nat → Int32) (ar : Nat → Nat → Int32) (t : Nat → Nat) (x : Int32) => (fun r u => ((¬ ∃ j, j ≤ 3 ∧ x = nI j) ∧ u = (v, va_up sc 20 (nI 1), ar)) ∨ (u = (v, va_up sc 20 (nI 0), ar) ∧ ((x = nI 0 ∧ r = sc 21) ∨ (x = nI 1 ∧ r = sc 22) ∨ (x = nI 2 ∧ r = sc 23) ∨ (x = nI 3 ∧ r = sc 24))))) v1 sc1 ar1 (bN (ar 11)) x b u2) : mO k b u2 := by
  obtain ⟨c0, cK, cv, cW, c1, cN, c3, cn, c4, crf⟩ := id hC
  obtain ⟨r21, rW, r22, r23, r24, ⟨r25, r26, r27, r28⟩, r34, r35⟩ := id hR
  rcases hw with ⟨rfl, r, u0, hp, e⟩ | ⟨rfl, E, hp⟩
  · obtain ⟨e0, h⟩ := hp
    subst e0
    cases e
    rcases hr with ⟨h9, -⟩ | ⟨e, h5⟩
    · rcases h with ⟨h1, -⟩ | ⟨h1, -⟩ | ⟨h1, -⟩ | ⟨h1, -⟩
      · exact absurd ⟨0, by decide, h1⟩ h9
      · exact absurd ⟨1, by decide, h1⟩ h9
      · exact absurd ⟨2, by decide, h1⟩ h9
      · exact absurd ⟨3, by decide, h1⟩ h9
    · subst e
      refine ⟨0, by decide, rfl, rfl, fun _ => ?_, keep20 _ _ hC hR⟩
      show r.toInt64 = b.toInt64
      congr 1
      rcases h with ⟨h1, h2⟩ | ⟨h1, h2⟩ | ⟨h1, h2⟩ | ⟨h1, h2⟩ <;> rcases h5 with ⟨g1, g2⟩ | ⟨g1, g2⟩ | ⟨g1, g2⟩ | ⟨g1, g2⟩
      · rw [h2, g2]; exact c0.trans r21.symm
      · exact absurd (h1.symm.trans g1) (by decide)
      · exact absurd (h1.symm.trans g1) (by decide)
      · exact absurd (h1.symm.trans g1) (by decide)
      · exact absurd (h1.symm.trans g1) (by decide)
      · rw [h2, g2]; exact c1.trans r22.symm
      · exact absurd (h1.symm.trans g1) (by decide)
      · exact absurd (h1.symm.trans g1) (by decide)
      · exact absurd (h1.symm.trans g1) (by decide)
      · exact absurd (h1.symm.trans g1) (by decide)
      · rw [h2, g2]; exact c3.trans r23.symm
      · exact absurd (h1.symm.trans g1) (by decide)
      · exact absurd (h1.symm.trans g1) (by decide)
      · exact absurd (h1.symm.trans g1) (by decide)
      · exact absurd (h1.symm.trans g1) (by decide)
      · rw [h2, g2]; exact c4.trans r24.symm
  · obtain ⟨-, e, h9⟩ := hp
    cases e
    rcases hr with ⟨-, e⟩ | ⟨-, h5⟩
    · subst e; exact ⟨1, by decide, rfl, rfl, (fun e => absurd e (by decide)), keep20 _ _ hC hR⟩
    · rcases h5 with ⟨h1, -⟩ | ⟨h1, -⟩ | ⟨h1, -⟩ | ⟨h1, -⟩
      · exact absurd ⟨0, by decide, h1⟩ h9
      · exact absurd ⟨1, by decide, h1⟩ h9
      · exact absurd ⟨2, by decide, h1⟩ h9
      · exact absurd ⟨3, by decide, h1⟩ h9
theorem F_feed {K N n rf : Nat} {wt : Nat → Nat → Nat} {dp wa : Nat → Nat} {v v1 : bV} {sc sc1 : Nat → Int32} {ar ar1 : Nat → Nat → Int32} {k b : Int32} {u2 : bS} {x : Int32} (hC : CJ K N n rf wt dp wa v sc) (hR : RJ K N n rf wt dp sc ar sc ar) (hw : wP1 (fun r u => n + 4 ≤ 8000 ∧ r = nI (n + 4) ∧ ∃ g, u = (v, va_up (va_up (va_up sc 5 (nI (3 + 1))) 3 (nI (n + 4))) 5 (nI 0), va_up ar 11 g) ∧ (∀ j, j < n → g j = ar 11 j) ∧ ∀ i, i < 4 → bN g (n + i) = fB x i) (fun E u => E = xIS ∧ u = (v, sc, ar) ∧ 8000 < n + 4) k (v1, sc1, ar1)) : clF sc ar sc1 ar1 := by
  rcases hw with ⟨-, r, u0, hp, e⟩ | ⟨-, E, hp⟩
  · obtain ⟨h1, h2, g, e0, -⟩ := hp
    subst e0
    cases e
    exact ⟨fun i hi => (va_up_ne _ _ (by omega)).trans ((va_up_ne _ _ (by omega)).trans (va_up_ne _ _ (by omega))), fun k hk => va_up_ne _ _ (by omega)⟩
  · obtain ⟨-, e, -⟩ := hp; cases e; exact clF.rf
set_option maxHeartbeats 1000000 in
theorem M_feed {K N n rf : Nat} {wt : Nat → Nat → Nat} {dp wa : Nat → Nat} {v v1 : bV} {sc sc1 : Nat → Int32} {ar ar1 : Nat → Nat → Int32} {k b : Int32} {u2 : bS} {x : Int32} (hC : CJ K N n rf wt dp wa v sc) (hR : RJ K N n rf wt dp sc ar sc ar) (hw : wP1 (fun r u => n + 4 ≤ 8000 ∧ r = nI (n + 4) ∧ ∃ g, u = (v, va_up (va_up (va_up sc 5 (nI (3 + 1))) 3 (nI (n + 4))) 5 (nI 0), va_up ar 11 g) ∧ (∀ j, j < n → g j = ar 11 j) ∧ ∀ i, i < 4 → bN g (n + i) = fB x i) (fun E u => E = xIS ∧ u = (v, sc, ar) ∧ 8000 < n + 4) k (v1, sc1, ar1)) (hr : (fun (v : bV) (sc : Nat → Int32) (ar : Nat → Nat → Int32) (t : Nat → Nat) (x : Int32) => (fun r u => (8000 < n + 4 ∧ u = (v, va_up sc 20 (nI 1), ar)) ∨ (n + 4 ≤ 8000 ∧ r = nI (n + 4) ∧ ∃ g, u = (v, va_up (va_up sc 20 (nI 0)) 23 (nI (n + 4)), va_up ar 35 g) ∧ (∀ j, j < n → g j = ar 35 j) ∧ ∀ i, i < 4 → g (n + i) = nI (fB x i)))) v1 sc1 ar1 (bN (ar 11)) x b u2) : mO k b u2 := by
  obtain ⟨c0, cK, cv, cW, c1, cN, c3, cn, c4, crf⟩ := id hC
  obtain ⟨r21, rW, r22, r23, r24, ⟨r25, r26, r27, r28⟩, r34, r35⟩ := id hR
  rcases hw with ⟨rfl, r, u0, hp, e⟩ | ⟨rfl, E, hp⟩
  · obtain ⟨h1, h2, g, e0, hg1, hg2⟩ := hp
    subst e0
    cases e
    rcases hr with ⟨h9, -⟩ | ⟨-, hb, g4, e, hg3, hg4⟩
    · omega
    · subst e
      refine ⟨0, by decide, rfl, rfl, (fun _ => by rw [hb, ← h2]; rfl), ⟨K, N, n + 4, rf, wt, dp, wa, ⟨c0, cK, cv, cW, c1, cN, rfl, h1, c4, by omega⟩, r21, rW.fr0 (fun k a b => (va_up_ne _ _ (by omega)).trans (va_up_ne _ _ (by omega))), r22, rfl, r24, ⟨r25, r26, r27, r28⟩, r34, fun j hj => ?_⟩⟩
      show g4 j = nI (bN g j)
      by_cases hjn : j < n
      · rw [hg3 j hjn]
        show ar 35 j = _
        rw [r35 j hjn]
        unfold bN
        rw [hg1 j hjn]
      · have e1 := hg4 (j - n) (by omega)
        have e2 := hg2 (j - n) (by omega)
        rw [show n + (j - n) = j by omega] at e1 e2
        rw [e1, e2]
  · obtain ⟨-, e, h9⟩ := hp
    cases e
    rcases hr with ⟨-, e⟩ | ⟨h8, -⟩
    · subst e; exact ⟨1, by decide, rfl, rfl, (fun e => absurd e (by decide)), keep20 _ _ hC hR⟩
    · omega
theorem F_end {K N n rf : Nat} {wt : Nat → Nat → Nat} {dp wa : Nat → Nat} {v v1 : bV} {sc sc1 : Nat → Int32} {ar ar1 : Nat → Nat → Int32} {k b : Int32} {u2 : bS} {x : Int32} (hC : CJ K N n rf wt dp wa v sc) (hR : RJ K N n rf wt dp sc ar sc ar) (hw : wPv (fun u => ∃ j, j ≤ n ∧ x = nI j ∧ u = (v, va_up (va_up sc 3 (nI j)) 4 (nI (min rf j)), ar)) (fun E u => E = xIA ∧ u = (v, sc, ar) ∧ ¬ ∃ j, j ≤ n ∧ x = nI j) k (v1, sc1, ar1)) : clF sc ar sc1 ar1 := by
  rcases hw with ⟨-, hp⟩ | ⟨-, E, hp⟩
  · obtain ⟨j, hj, hx, e⟩ := hp
    cases e
    exact ⟨fun i hi => (va_up_ne _ _ (by omega)).trans (va_up_ne _ _ (by omega)), fun k hk => rfl⟩
  · obtain ⟨-, e, -⟩ := hp; cases e; exact clF.rf
set_option maxHeartbeats 1000000 in
theorem M_end {K N n rf : Nat} {wt : Nat → Nat → Nat} {dp wa : Nat → Nat} {v v1 : bV} {sc sc1 : Nat → Int32} {ar ar1 : Nat → Nat → Int32} {k b : Int32} {u2 : bS} {x : Int32} (hC : CJ K N n rf wt dp wa v sc) (hR : RJ K N n rf wt dp sc ar sc ar) (hw : wPv (fun u => ∃ j, j ≤ n ∧ x = nI j ∧ u = (v, va_up (va_up sc 3 (nI j)) 4 (nI (min rf j)), ar)) (fun E u => E = xIA ∧ u = (v, sc, ar) ∧ ¬ ∃ j, j ≤ n ∧ x = nI j) k (v1, sc1, ar1)) (hr : (fun (v : bV) (sc : Nat → Int32) (ar : Nat → Nat → Int32) (t : Nat → Nat) (x : Int32) => (fun u => ((¬ ∃ j, j ≤ n ∧ x = nI j) ∧ u = (v, va_up sc 20 (nI 1), ar)) ∨ (∃ j, j ≤ n ∧ x = nI j ∧ u = (v, va_up (va_up (va_up sc 20 (nI 0)) 23 (nI j)) 24 (nI (min rf j)), ar)))) v1 sc1 ar1 (bN (ar 11)) x u2) : ∃ kc, kc ≤ 2 ∧ k = nI kc ∧ u2.2.1 20 = nI kc ∧ JI u2.1 u2.2.1 u2.2.2 := by
  obtain ⟨c0, cK, cv, cW, c1, cN, c3, cn, c4, crf⟩ := id hC
  obtain ⟨r21, rW, r22, r23, r24, ⟨r25, r26, r27, r28⟩, r34, r35⟩ := id hR
  rcases hw with ⟨rfl, hp⟩ | ⟨rfl, E, hp⟩
  · obtain ⟨j, hj, hx, e⟩ := hp
    cases e
    rcases hr with ⟨h9, -⟩ | ⟨j2, hj2, hx2, e⟩
    · exact absurd ⟨j, hj, hx⟩ h9
    · subst e
      have e1 : j2 = j := (nI_eq (by omega) (by omega)).mp (hx2.symm.trans hx)
      subst e1
      exact ⟨0, by decide, rfl, rfl, ⟨K, N, j2, min rf j2, wt, dp, wa, ⟨c0, cK, cv, cW, c1, cN, rfl, by omega, rfl, by omega⟩, r21, rW, r22, rfl, rfl, ⟨r25, r26, r27, r28⟩, r34, fun j hj => r35 j (by omega)⟩⟩
  · obtain ⟨-, e, h9⟩ := hp
    cases e
    rcases hr with ⟨-, e⟩ | ⟨j2, hj2, hx2, -⟩
    · subst e; exact ⟨1, by decide, rfl, rfl, keep20 _ _ hC hR⟩
    · exact absurd ⟨j2, hj2, hx2⟩ h9
theorem F_seek {K N n rf : Nat} {wt : Nat → Nat → Nat} {dp wa : Nat → Nat} {v v1 : bV} {sc sc1 : Nat → Int32} {ar ar1 : Nat → Nat → Int32} {k b : Int32} {u2 : bS} {x : Int32} (hC : CJ K N n rf wt dp wa v sc) (hR : RJ K N n rf wt dp sc ar sc ar) (hw : wP1 (fun r u => ∃ j, j ≤ n ∧ x = nI j ∧ r = nI rf ∧ u = (v, va_up sc 4 (nI j), ar)) (fun E u => E = xIA ∧ u = (v, sc, ar) ∧ ¬ ∃ j, j ≤ n ∧ x = nI j) k (v1, sc1, ar1)) : clF sc ar sc1 ar1 := by
  rcases hw with ⟨-, r, u0, hp, e⟩ | ⟨-, E, hp⟩
  · obtain ⟨j, hj, hx, h2, e0⟩ := hp
    subst e0
    cases e
    exact ⟨fun i hi => va_up_ne _ _ (by omega), fun k hk => rfl⟩
  · obtain ⟨-, e, -⟩ := hp; cases e; exact clF.rf
set_option maxHeartbeats 1000000 in
theorem M_seek {K N n rf : Nat} {wt : Nat → Nat → Nat} {dp wa : Nat → Nat} {v v1 : bV} {sc sc1 : Nat → Int32} {ar ar1 : Nat → Nat → Int32} {k b : Int32} {u2 : bS} {x : Int32} (hC : CJ K N n rf wt dp wa v sc) (hR : RJ K N n rf wt dp sc ar sc ar) (hw : wP1 (fun r u => ∃ j, j ≤ n ∧ x = nI j ∧ r = nI rf ∧ u = (v, va_up sc 4 (nI j), ar)) (fun E u => E = xIA ∧ u = (v, sc, ar) ∧ ¬ ∃ j, j ≤ n ∧ x = nI j) k (v1, sc1, ar1)) (hr : (fun (v : bV) (sc : Nat → Int32) (ar : Nat → Nat → Int32) (t : Nat → Nat) (x : Int32) => (fun r u => ((¬ ∃ j, j ≤ n ∧ x = nI j) ∧ u = (v, va_up sc 20 (nI 1), ar)) ∨ (∃ j, j ≤ n ∧ x = nI j ∧ r = nI rf ∧ u = (v, va_up (va_up sc 20 (nI 0)) 24 (nI j), ar)))) v1 sc1 ar1 (bN (ar 11)) x b u2) : mO k b u2 := by
  obtain ⟨c0, cK, cv, cW, c1, cN, c3, cn, c4, crf⟩ := id hC
  obtain ⟨r21, rW, r22, r23, r24, ⟨r25, r26, r27, r28⟩, r34, r35⟩ := id hR
  rcases hw with ⟨rfl, r, u0, hp, e⟩ | ⟨rfl, E, hp⟩
  · obtain ⟨j, hj, hx, h2, e0⟩ := hp
    subst e0
    cases e
    rcases hr with ⟨h9, -⟩ | ⟨j2, hj2, hx2, hb, e⟩
    · exact absurd ⟨j, hj, hx⟩ h9
    · subst e
      have e1 : j2 = j := (nI_eq (by omega) (by omega)).mp (hx2.symm.trans hx)
      subst e1
      exact ⟨0, by decide, rfl, rfl, (fun _ => by rw [hb, ← h2]; rfl), ⟨K, N, n, j2, wt, dp, wa, ⟨c0, cK, cv, cW, c1, cN, c3, cn, rfl, hj⟩, r21, rW, r22, r23, rfl, ⟨r25, r26, r27, r28⟩, r34, r35⟩⟩
  · obtain ⟨-, e, h9⟩ := hp
    cases e
    rcases hr with ⟨-, e⟩ | ⟨j2, hj2, hx2, -⟩
    · subst e; exact ⟨1, by decide, rfl, rfl, (fun e => absurd e (by decide)), keep20 _ _ hC hR⟩
    · exact absurd ⟨j2, hj2, hx2⟩ h9
theorem F_tape {K N n rf : Nat} {wt : Nat → Nat → Nat} {dp wa : Nat → Nat} {v v1 : bV} {sc sc1 : Nat → Int32} {ar ar1 : Nat → Nat → Int32} {k b : Int32} {u2 : bS} {x : Int32} (hC : CJ K N n rf wt dp wa v sc) (hR : RJ K N n rf wt dp sc ar sc ar) (hw : (fun r u => r = tpAt (ar 11) n x ∧ u = (v, sc, ar)) k (v1, sc1, ar1)) : clF sc ar sc1 ar1 := by
  obtain ⟨-, e⟩ := hw
  cases e
  exact clF.rf
set_option maxHeartbeats 1000000 in
theorem M_tape {K N n rf : Nat} {wt : Nat → Nat → Nat} {dp wa : Nat → Nat} {v v1 : bV} {sc sc1 : Nat → Int32} {ar ar1 : Nat → Nat → Int32} {k b : Int32} {u2 : bS} {x : Int32} (hC : CJ K N n rf wt dp wa v sc) (hR : RJ K N n rf wt dp sc ar sc ar) (hw : (fun r u => r = tpAt (ar 11) n x ∧ u = (v, sc, ar)) k (v1, sc1, ar1)) (hr : (fun (v : bV) (sc : Nat → Int32) (ar : Nat → Nat → Int32) (t : Nat → Nat) (i : Int32) => (fun r u => u = (v, va_up sc 20 (nI 0), ar) ∧ (∀ j, j < n → i = nI j → r = ar 35 j) ∧ ((¬ ∃ j, j < n ∧ i = nI j) → r = -1))) v1 sc1 ar1 (bN (ar 11)) x b u2) : k = b ∧ JI u2.1 u2.2.1 u2.2.2 := by
  obtain ⟨c0, cK, cv, cW, c1, cN, c3, cn, c4, crf⟩ := id hC
  obtain ⟨r21, rW, r22, r23, r24, ⟨r25, r26, r27, r28⟩, r34, r35⟩ := id hR
  obtain ⟨hk, e⟩ := hw
  cases e
  obtain ⟨e, ha2, hn2⟩ := hr
  subst e
  refine ⟨?_, keep20 _ _ hC hR⟩
  rw [hk]
  by_cases h : ∃ j, j < n ∧ x = nI j
  · obtain ⟨j, hj, e⟩ := h
    rw [ha2 j hj e, e, tpAt_nI (by omega), if_pos hj, bN_eq]
    exact (r35 j hj).symm
  · rw [hn2 h]
    unfold tpAt
    rw [if_pos]
    by_cases h0 : x < 0
    · exact Or.inl h0
    · obtain ⟨q, hq, e⟩ := nI_of h0
      refine Or.inr ?_
      rw [e, nI_clamp hq]
      exact Nat.le_of_not_lt (fun h2 => h ⟨q, h2, e⟩)
theorem F_way {K N n rf : Nat} {wt : Nat → Nat → Nat} {dp wa : Nat → Nat} {v v1 : bV} {sc sc1 : Nat → Int32} {ar ar1 : Nat → Nat → Int32} {k b : Int32} {u2 : bS} {y1 : Int32} {x : Int32} (hC : CJ K N n rf wt dp wa v sc) (hR : RJ K N n rf wt dp sc ar sc ar) (hw : wP1 (fun r u => u = (v, sc, ar) ∧ ∃ j1 q, (y1 = nI j1 ∧ j1 < K) ∧ (x = nI q ∧ q ≤ 4) ∧ r = if q = 4 then nI (dp j1) else trF wt j1 q) (fun E u => E = xIA ∧ u = (v, sc, ar) ∧ ¬ (isW K y1 ∧ inR 0 4 x)) k (v1, sc1, ar1)) : clF sc ar sc1 ar1 := by
  rcases hw with ⟨-, r, u0, hp, e⟩ | ⟨-, E, hp⟩
  · obtain ⟨e0, -⟩ := hp
    subst e0
    cases e
    exact clF.rf
  · obtain ⟨-, e, -⟩ := hp; cases e; exact clF.rf
set_option maxHeartbeats 1000000 in
theorem M_way {K N n rf : Nat} {wt : Nat → Nat → Nat} {dp wa : Nat → Nat} {v v1 : bV} {sc sc1 : Nat → Int32} {ar ar1 : Nat → Nat → Int32} {k b : Int32} {u2 : bS} {y1 : Int32} {x : Int32} (hC : CJ K N n rf wt dp wa v sc) (hR : RJ K N n rf wt dp sc ar sc ar) (hw : wP1 (fun r u => u = (v, sc, ar) ∧ ∃ j1 q, (y1 = nI j1 ∧ j1 < K) ∧ (x = nI q ∧ q ≤ 4) ∧ r = if q = 4 then nI (dp j1) else trF wt j1 q) (fun E u => E = xIA ∧ u = (v, sc, ar) ∧ ¬ (isW K y1 ∧ inR 0 4 x)) k (v1, sc1, ar1)) (hr : (fun (v : bV) (sc : Nat → Int32) (ar : Nat → Nat → Int32) (t : Nat → Nat) (y1 : Int32) (x : Int32) => (fun r u => (¬ (isW K y1 ∧ inR 0 4 x) ∧ u = (v, va_up sc 20 (nI 1), ar)) ∨ (∃ j1 q, (y1 = nI j1 ∧ j1 < K) ∧ (x = nI q ∧ q ≤ 4) ∧ u = (v, va_up sc 20 (nI 0), ar) ∧ r = if q = 4 then nI (dp j1) else trF wt j1 q))) v1 sc1 ar1 (bN (ar 11)) y1 x b u2) : mO k b u2 := by
  obtain ⟨c0, cK, cv, cW, c1, cN, c3, cn, c4, crf⟩ := id hC
  obtain ⟨r21, rW, r22, r23, r24, ⟨r25, r26, r27, r28⟩, r34, r35⟩ := id hR
  rcases hw with ⟨rfl, r, u0, hp, e⟩ | ⟨rfl, E, hp⟩
  · obtain ⟨e0, j1, q, ⟨h1, h2⟩, ⟨h3, h4⟩, h5⟩ := hp
    subst e0
    cases e
    rcases hr with ⟨h9, -⟩ | ⟨i1, q1, ⟨g1, g2⟩, ⟨g3, g4⟩, e, hb⟩
    · exact absurd ⟨⟨j1, h2, h1⟩, ⟨q, Nat.zero_le _, h4, h3⟩⟩ h9
    · subst e
      have e1 : i1 = j1 := (nI_eq (by omega) (by omega)).mp (g1.symm.trans h1)
      have e2 : q1 = q := (nI_eq (by omega) (by omega)).mp (g3.symm.trans h3)
      subst e1
      subst e2
      exact ⟨0, by decide, rfl, rfl, (fun _ => by rw [hb, ← h5]; rfl), keep20 _ _ hC hR⟩
  · obtain ⟨-, e, h9⟩ := hp
    cases e
    rcases hr with ⟨-, e⟩ | ⟨i1, q1, ⟨g1, g2⟩, ⟨g3, g4⟩, -⟩
    · subst e; exact ⟨1, by decide, rfl, rfl, (fun e => absurd e (by decide)), keep20 _ _ hC hR⟩
    · exact absurd ⟨⟨i1, g2, g1⟩, ⟨q1, Nat.zero_le _, g4, g3⟩⟩ h9
