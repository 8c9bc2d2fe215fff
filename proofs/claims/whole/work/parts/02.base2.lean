/-- the cells: the class's 0 .. 26, the reference's 27 .. 52, the law's 53 -/
def gO (z : bZ) (v : bV) (sc : Nat → Int32) (ar : Nat → Nat → Int32) : va_W := [
  (zad z 0, .inr (8, [.ref (zad z 9), .int (sc 0), .ref (zad z 12), .int (sc 1), .ref (zad z 13), .ref (zad z 1), .ref (zad z 4), .int (sc 2)])),
  (zad z 1, .inr (2, [.ref (zad z 2), .ref (zad z 3), .ref (zad z 10)])),
  (zad z 2, .inr (7, [.ref (zad z 11), .int (sc 3), .int (sc 4), .int (sc 5), .int (sc 6), .int (sc 7), .int (sc 8)])),
  (zad z 3, .inr (0, [.ref (zad z 14), .int (sc 9), .ref (zad z 15), .ref (zad z 16), .int (sc 10)])),
  (zad z 4, .inr (6, [.ref (zad z 17), .ref (zad z 18), .int (sc 11), .int (sc 12), .int (sc 13), .int (sc 14)])),
  (zad z 5, .inr (3, [.ref (zad z 19), .ref (zad z 23)])),
  (zad z 6, .inr (3, [.ref (zad z 20), .ref (zad z 24)])),
  (zad z 7, .inr (3, [.ref (zad z 21), .ref (zad z 25)])),
  (zad z 8, .inr (3, [.ref (zad z 22), .ref (zad z 26)])),
  (zad z 9, .inl (zW z, 40, .inr (.inr (.inr (.inr v.1))))),
  (zad z 10, .inl (zF z, 4, .inr (.inr (.inr (.inr (fun i => some (zad z (5 + i)))))))),
  (zad z 11, .inl (zB z, 8000, .inl (ar 11))),
  (zad z 12, .inl (zI z, 400, .inl (ar 12))),
  (zad z 13, .inl (zI z, 400, .inl (ar 13))),
  (zad z 14, .inl (zI z, 512, .inl (ar 14))),
  (zad z 15, .inl (zI z, 400, .inl (ar 15))),
  (zad z 16, .inl (zI z, 400, .inl (ar 16))),
  (zad z 17, .inl (zI z, 401, .inl (ar 17))),
  (zad z 18, .inl (zI z, 401, .inl (ar 18))),
  (zad z 19, .inl (zI z, 51, .inl (ar 19))),
  (zad z 20, .inl (zI z, 51, .inl (ar 20))),
  (zad z 21, .inl (zI z, 51, .inl (ar 21))),
  (zad z 22, .inl (zI z, 51, .inl (ar 22))),
  (zad z 23, .inl (zI z, 400, .inl (ar 23))),
  (zad z 24, .inl (zI z, 400, .inl (ar 24))),
  (zad z 25, .inl (zI z, 400, .inl (ar 25))),
  (zad z 26, .inl (zI z, 400, .inl (ar 26))),
  (zad z 27, .inr (9, [.int (sc 20), .int (sc 21), .ref (zad z 28), .ref (zad z 29), .ref (zad z 30), .ref (zad z 31), .ref (zad z 32), .ref (zad z 33), .int (sc 22), .ref (zad z 34), .int (sc 23), .int (sc 24), .ref (zad z 35), .int (sc 25), .int (sc 26), .int (sc 27), .int (sc 28), .ref (zad z 36), .int (sc 29), .ref (zad z 37), .ref (zad z 38), .ref (zad z 39), .int (sc 30), .ref (zad z 40), .int (sc 31), .ref (zad z 41), .ref (zad z 42), .ref (zad z 43), .ref (zad z 44), .ref (zad z 45), .ref (zad z 46), .ref (zad z 47), .ref (zad z 48), .ref (zad z 49), .ref (zad z 50), .int (sc 32), .int (sc 33), .int (sc 34), .ref (zad z 51), .ref (zad z 52)])),
  (zad z 28, .inl (zI z, 40, .inl (ar 28))),
  (zad z 29, .inl (zI z, 40, .inl (ar 29))),
  (zad z 30, .inl (zI z, 40, .inl (ar 30))),
  (zad z 31, .inl (zI z, 40, .inl (ar 31))),
  (zad z 32, .inl (zI z, 40, .inl (ar 32))),
  (zad z 33, .inl (zI z, 40, .inl (ar 33))),
  (zad z 34, .inl (zI z, 400, .inl (ar 34))),
  (zad z 35, .inl (zI z, 8000, .inl (ar 35))),
  (zad z 36, .inl (zI z, 40000, .inl (ar 36))),
  (zad z 37, .inl (zI z, 80, .inl (ar 37))),
  (zad z 38, .inl (zI z, 80, .inl (ar 38))),
  (zad z 39, .inl (zI z, 80, .inl (ar 39))),
  (zad z 40, .inl (zI z, 400, .inl (ar 40))),
  (zad z 41, .inl (zI z, 8000, .inl (ar 41))),
  (zad z 42, .inl (zI z, 8, .inl (ar 42))),
  (zad z 43, .inl (zI z, 8, .inl (ar 43))),
  (zad z 44, .inl (zI z, 8, .inl (ar 44))),
  (zad z 45, .inl (zI z, 8, .inl (ar 45))),
  (zad z 46, .inl (zI z, 8, .inl (ar 46))),
  (zad z 47, .inl (zI z, 8, .inl (ar 47))),
  (zad z 48, .inl (zI z, 8, .inl (ar 48))),
  (zad z 49, .inl (zI z, 8, .inl (ar 49))),
  (zad z 50, .inl (zI z, 8, .inl (ar 50))),
  (zad z 51, .inl (zI z, 16040, .inl (ar 51))),
  (zad z 52, .inl (zI z, 16040, .inl (ar 52))),
  (zad z 53, .inl (zJ z, 1, .inr (.inl v.2.1)))]
def gW (z : bZ) (v : bV) (sc : Nat → Int32) (ar : Nat → Nat → Int32) : va_W := gO z v sc ar ++ va_pl v.2.2.1 v.2.2.2
def nwF : List Cond := [.fieldLinkNest "BandMill" 115 "BandMill$Tape" "faultPlace" "I" "BandMill", .fieldLinkNest "BandMill" 116 "BandMill$Tape" "fault" "I" "BandMill", .fieldLinkNest "BandMill" 142 "BandMill$RunSearch" "chosenN" "I" "BandMill", .fieldLinkNest "BandMill" 145 "BandMill$RunSearch" "chosenFirst" "I" "BandMill", .fieldLinkNest "BandMill" 148 "BandMill$RunSearch" "chosenOther" "I" "BandMill", .fieldLinkNest "BandMill" 162 "BandMill$Tape" "length" "I" "BandMill", .fieldLinkNest "BandMill" 165 "BandMill$Tape" "readFrom" "I" "BandMill", .fieldLinkNest "BandMill" 191 "BandMill$Tape" "drafted" "I" "BandMill", .fieldLinkNest "BandMill" 99 "BandMill$Desk" "tape" "LBandMill$Tape;" "BandMill", .fieldLinkNest "BandMill$Census" 36 "BandMill$Frame" "line" "[I" "BandMill", .fieldLinkNest "BandMill$Census" 41 "BandMill$Frame" "favourites" "[I" "BandMill", .fieldLinkNest "BandMill$Coding" 31 "BandMill$Desk" "tape" "LBandMill$Tape;" "BandMill", .fieldLinkNest "BandMill$Coding" 41 "BandMill$Tape" "cursor" "I" "BandMill", .fieldLinkNest "BandMill$Popular" 25 "BandMill$Desk" "frames" "[LBandMill$Frame;" "BandMill", .fieldLinkNest "BandMill$Popular" 34 "BandMill$Desk" "census" "LBandMill$Census;" "BandMill", .fieldLinkNest "BandMill$Popular" 44 "BandMill$Frame" "favourites" "[I" "BandMill", .fieldLinkNest "BandMill$Popular" 54 "BandMill$Frame" "line" "[I" "BandMill", .fieldLinkNest "BandMill$Popular" 61 "BandMill$Desk" "tape" "LBandMill$Tape;" "BandMill", .fieldLinkNest "BandMill$Popular" 65 "BandMill$Tape" "cursor" "I" "BandMill"]
def nwM : List Cond := [.methodLinkNest "BandMill" 38 ⟨"BandMill$RunSearch", "<init>", "()V"⟩ "BandMill", .methodLinkNest "BandMill$Desk" 11 ⟨"BandMill$Tape", "<init>", "()V"⟩ "BandMill", .methodLinkNest "BandMill$Desk" 20 ⟨"BandMill$Census", "<init>", "()V"⟩ "BandMill", .methodLinkNest "BandMill$Desk" 31 ⟨"BandMill$Frame", "<init>", "()V"⟩ "BandMill"]
theorem nwF_warm {s U : State} (hW : s.WarmedH U.vm) (h : ∀ w ∈ nwF, va_Nw w s) : ∀ w ∈ nwF, va_Nw w U := by
  unfold nwF at h ⊢
  simp only [List.forall_mem_cons] at h ⊢
  obtain ⟨h0, h1, h2, h3, h4, h5, h6, h7, h8, h9, h10, h11, h12, h13, h14, h15, h16, h17, h18, -⟩ := h
  exact ⟨va_Nw.warmF hW h0, va_Nw.warmF hW h1, va_Nw.warmF hW h2, va_Nw.warmF hW h3, va_Nw.warmF hW h4, va_Nw.warmF hW h5, va_Nw.warmF hW h6, va_Nw.warmF hW h7, va_Nw.warmF hW h8, va_Nw.warmF hW h9, va_Nw.warmF hW h10, va_Nw.warmF hW h11, va_Nw.warmF hW h12, va_Nw.warmF hW h13, va_Nw.warmF hW h14, va_Nw.warmF hW h15, va_Nw.warmF hW h16, va_Nw.warmF hW h17, va_Nw.warmF hW h18, fun _ h => nomatch h⟩
theorem nwM_warm {s U : State} (hW : s.WarmedH U.vm) (h : ∀ w ∈ nwM, va_Nw w s) : ∀ w ∈ nwM, va_Nw w U := by
  unfold nwM at h ⊢
  simp only [List.forall_mem_cons] at h ⊢
  obtain ⟨h0, h1, h2, h3, -⟩ := h
  exact ⟨va_Nw.warmM hW h0, va_Nw.warmM hW h1, va_Nw.warmM hW h2, va_Nw.warmM hW h3, fun _ h => nomatch h⟩
def nwD : List Cond := [.declares ⟨"BandMill$Way", "write", "(LBandMill$Desk;[III)Z"⟩, .declares ⟨"BandMill$Way", "read", "(LBandMill$Desk;[III)Z"⟩, .declares ⟨"java/lang/RuntimeException", "<init>", "(Ljava/lang/String;)V"⟩, .declares ⟨"java/lang/Exception", "<init>", "(Ljava/lang/String;)V"⟩, .declares ⟨"java/lang/Throwable", "<init>", "(Ljava/lang/String;)V"⟩]
def nwC : List Cond := [.castable "BandMill$Coding" "BandMill$Way", .castable "BandMill$Popular" "BandMill$Way", .castable "BandMill$Run" "BandMill$Way", .castable "java/lang/IllegalArgumentException" "java/lang/IllegalArgumentException", .castable "java/lang/IllegalStateException" "java/lang/IllegalStateException"]
theorem nwD_warm {s U : State} (hW : s.WarmedH U.vm) (h : ∀ w ∈ nwD, va_Nw w s) : ∀ w ∈ nwD, va_Nw w U := by
  unfold nwD at h ⊢
  simp only [List.forall_mem_cons] at h ⊢
  obtain ⟨h0, h1, h2, h3, h4, -⟩ := h
  exact ⟨va_Nw.warmD hW h0, va_Nw.warmD hW h1, va_Nw.warmD hW h2, va_Nw.warmD hW h3, va_Nw.warmD hW h4, fun _ h => nomatch h⟩
theorem nwC_warm {s U : State} (hW : s.WarmedH U.vm) (h : ∀ w ∈ nwC, va_Nw w s) : ∀ w ∈ nwC, va_Nw w U := by
  unfold nwC at h ⊢
  simp only [List.forall_mem_cons] at h ⊢
  obtain ⟨h0, h1, h2, h3, h4, -⟩ := h
  exact ⟨va_Nw.warmC hW h0, va_Nw.warmC hW h1, va_Nw.warmC hW h2, va_Nw.warmC hW h3, va_Nw.warmC hW h4, fun _ h => nomatch h⟩
theorem nwD_tab : ∀ w ∈ nwD, w.onTables = true := by decide +kernel
theorem nwC_tab : ∀ w ∈ nwC, w.onTables = true := by decide +kernel
theorem nwF_tab : ∀ w ∈ nwF, w.onTables = true := by decide +kernel
theorem nwM_tab : ∀ w ∈ nwM, w.onTables = true := by decide +kernel
