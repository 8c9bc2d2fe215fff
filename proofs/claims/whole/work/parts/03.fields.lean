theorem iX0 : ∀ w ∈ wsX00, w ∈ uW := by decide +kernel
theorem iX1 : ∀ w ∈ wsX10, w ∈ uW := by decide +kernel
theorem iX2 : ∀ w ∈ wsX20, w ∈ uW := by decide +kernel
theorem iX3 : ∀ w ∈ wsX30, w ∈ uW := by decide +kernel
theorem iX4 : ∀ w ∈ wsX40, w ∈ uW := by decide +kernel
theorem iX5 : ∀ w ∈ wsX50, w ∈ uW := by decide +kernel
theorem iX6 : ∀ w ∈ wsX60, w ∈ uW := by decide +kernel
theorem iX7 : ∀ w ∈ wsX70, w ∈ uW := by decide +kernel
theorem iX9 : ∀ w ∈ wsX90, w ∈ uW := by decide +kernel
theorem iX10 : ∀ w ∈ wsX100, w ∈ uW := by decide +kernel
theorem uw_X0_11 : Cond.fieldLink RX0 11 "BandMill$Census" "slots" "[I" ∈ uW := uW_of (by decide +kernel) rfl
theorem uw_X0_15 : Cond.fieldLink RX0 15 "BandMill$Census" "bits" "I" ∈ uW := uW_of (by decide +kernel) rfl
theorem uw_X0_19 : Cond.fieldLink RX0 19 "BandMill$Census" "kinds" "[I" ∈ uW := uW_of (by decide +kernel) rfl
theorem uw_X0_22 : Cond.fieldLink RX0 22 "BandMill$Census" "tallies" "[I" ∈ uW := uW_of (by decide +kernel) rfl
theorem uw_X0_25 : Cond.fieldLink RX0 25 "BandMill$Census" "kindCount" "I" ∈ uW := uW_of (by decide +kernel) rfl
theorem uw_X10_7 : Cond.fieldLink RX10 7 "BandMillModel" "sort" "[I" ∈ uW := uW_of (by decide +kernel) rfl
theorem uw_X10_13 : Cond.fieldLink RX10 13 "BandMillModel" "one" "[I" ∈ uW := uW_of (by decide +kernel) rfl
theorem uw_X10_16 : Cond.fieldLink RX10 16 "BandMillModel" "two" "[I" ∈ uW := uW_of (by decide +kernel) rfl
theorem uw_X10_19 : Cond.fieldLink RX10 19 "BandMillModel" "three" "[I" ∈ uW := uW_of (by decide +kernel) rfl
theorem uw_X10_22 : Cond.fieldLink RX10 22 "BandMillModel" "four" "[I" ∈ uW := uW_of (by decide +kernel) rfl
theorem uw_X10_25 : Cond.fieldLink RX10 25 "BandMillModel" "depth" "[I" ∈ uW := uW_of (by decide +kernel) rfl
theorem uw_X10_28 : Cond.fieldLink RX10 28 "BandMillModel" "row" "[I" ∈ uW := uW_of (by decide +kernel) rfl
theorem uw_X10_31 : Cond.fieldLink RX10 31 "BandMillModel" "tape" "[I" ∈ uW := uW_of (by decide +kernel) rfl
theorem uw_X10_34 : Cond.fieldLink RX10 34 "BandMillModel" "place" "I" ∈ uW := uW_of (by decide +kernel) rfl
theorem uw_X10_38 : Cond.fieldLink RX10 38 "BandMillModel" "chosenN" "I" ∈ uW := uW_of (by decide +kernel) rfl
theorem uw_X10_41 : Cond.fieldLink RX10 41 "BandMillModel" "chosenFirst" "I" ∈ uW := uW_of (by decide +kernel) rfl
theorem uw_X10_44 : Cond.fieldLink RX10 44 "BandMillModel" "chosenOther" "I" ∈ uW := uW_of (by decide +kernel) rfl
theorem uw_X10_48 : Cond.fieldLink RX10 48 "BandMillModel" "pool" "[I" ∈ uW := uW_of (by decide +kernel) rfl
theorem uw_X10_51 : Cond.fieldLink RX10 51 "BandMillModel" "taskWay" "[I" ∈ uW := uW_of (by decide +kernel) rfl
theorem uw_X10_54 : Cond.fieldLink RX10 54 "BandMillModel" "taskFirst" "[I" ∈ uW := uW_of (by decide +kernel) rfl
theorem uw_X10_57 : Cond.fieldLink RX10 57 "BandMillModel" "taskMany" "[I" ∈ uW := uW_of (by decide +kernel) rfl
theorem uw_X10_60 : Cond.fieldLink RX10 60 "BandMillModel" "often" "[I" ∈ uW := uW_of (by decide +kernel) rfl
theorem uw_X10_63 : Cond.fieldLink RX10 63 "BandMillModel" "out" "[I" ∈ uW := uW_of (by decide +kernel) rfl
theorem uw_X10_66 : Cond.fieldLink RX10 66 "BandMillModel" "inWay" "[I" ∈ uW := uW_of (by decide +kernel) rfl
theorem uw_X10_69 : Cond.fieldLink RX10 69 "BandMillModel" "inMany" "[I" ∈ uW := uW_of (by decide +kernel) rfl
theorem uw_X10_72 : Cond.fieldLink RX10 72 "BandMillModel" "inTo" "[I" ∈ uW := uW_of (by decide +kernel) rfl
theorem uw_X10_75 : Cond.fieldLink RX10 75 "BandMillModel" "inState" "[I" ∈ uW := uW_of (by decide +kernel) rfl
theorem uw_X10_78 : Cond.fieldLink RX10 78 "BandMillModel" "inRow" "[I" ∈ uW := uW_of (by decide +kernel) rfl
theorem uw_X10_81 : Cond.fieldLink RX10 81 "BandMillModel" "inFavourites" "[I" ∈ uW := uW_of (by decide +kernel) rfl
theorem uw_X10_84 : Cond.fieldLink RX10 84 "BandMillModel" "inTokens" "[I" ∈ uW := uW_of (by decide +kernel) rfl
theorem uw_X10_87 : Cond.fieldLink RX10 87 "BandMillModel" "inOthers" "[I" ∈ uW := uW_of (by decide +kernel) rfl
theorem uw_X10_90 : Cond.fieldLink RX10 90 "BandMillModel" "inByte" "[I" ∈ uW := uW_of (by decide +kernel) rfl
theorem uw_X10_93 : Cond.fieldLink RX10 93 "BandMillModel" "ahead" "[I" ∈ uW := uW_of (by decide +kernel) rfl
theorem uw_X10_96 : Cond.fieldLink RX10 96 "BandMillModel" "behind" "[I" ∈ uW := uW_of (by decide +kernel) rfl
theorem uw_X10_99 : Cond.fieldLink RX10 99 "BandMillModel" "code" "I" ∈ uW := uW_of (by decide +kernel) rfl
theorem uw_X10_102 : Cond.fieldLink RX10 102 "BandMillModel" "ways" "I" ∈ uW := uW_of (by decide +kernel) rfl
theorem uw_X10_120 : Cond.fieldLink RX10 120 "BandMillModel" "many" "I" ∈ uW := uW_of (by decide +kernel) rfl
theorem uw_X10_141 : Cond.fieldLink RX10 141 "BandMillModel" "written" "I" ∈ uW := uW_of (by decide +kernel) rfl
theorem uw_X10_144 : Cond.fieldLink RX10 144 "BandMillModel" "tasks" "I" ∈ uW := uW_of (by decide +kernel) rfl
theorem uw_X10_147 : Cond.fieldLink RX10 147 "BandMillModel" "used" "I" ∈ uW := uW_of (by decide +kernel) rfl
theorem uw_X10_168 : Cond.fieldLink RX10 168 "BandMillModel" "length" "I" ∈ uW := uW_of (by decide +kernel) rfl
theorem uw_X10_171 : Cond.fieldLink RX10 171 "BandMillModel" "fault" "I" ∈ uW := uW_of (by decide +kernel) rfl
theorem uw_X10_174 : Cond.fieldLink RX10 174 "BandMillModel" "faultAt" "I" ∈ uW := uW_of (by decide +kernel) rfl
theorem uw_X10_177 : Cond.fieldLink RX10 177 "BandMillModel" "at" "I" ∈ uW := uW_of (by decide +kernel) rfl
theorem uw_X10_186 : Cond.fieldLink RX10 186 "BandMillModel" "reading" "I" ∈ uW := uW_of (by decide +kernel) rfl
theorem uw_X2_12 : Cond.fieldLink RX2 12 "BandMill$Desk" "tape" "LBandMill$Tape;" ∈ uW := uW_of (by decide +kernel) rfl
theorem uw_X2_21 : Cond.fieldLink RX2 21 "BandMill$Desk" "census" "LBandMill$Census;" ∈ uW := uW_of (by decide +kernel) rfl
theorem uw_X2_27 : Cond.fieldLink RX2 27 "BandMill$Desk" "frames" "[LBandMill$Frame;" ∈ uW := uW_of (by decide +kernel) rfl
theorem uw_X6_9 : Cond.fieldLink RX6 9 "BandMill$RunSearch" "heads" "[I" ∈ uW := uW_of (by decide +kernel) rfl
theorem uw_X6_15 : Cond.fieldLink RX6 15 "BandMill$RunSearch" "tails" "[I" ∈ uW := uW_of (by decide +kernel) rfl
theorem uw_X6_18 : Cond.fieldLink RX6 18 "BandMill$RunSearch" "count" "I" ∈ uW := uW_of (by decide +kernel) rfl
theorem uw_X6_22 : Cond.fieldLink RX6 22 "BandMill$RunSearch" "chosenN" "I" ∈ uW := uW_of (by decide +kernel) rfl
theorem uw_X6_25 : Cond.fieldLink RX6 25 "BandMill$RunSearch" "chosenFirst" "I" ∈ uW := uW_of (by decide +kernel) rfl
theorem uw_X6_28 : Cond.fieldLink RX6 28 "BandMill$RunSearch" "chosenOther" "I" ∈ uW := uW_of (by decide +kernel) rfl
theorem uw_X7_9 : Cond.fieldLink RX7 9 "BandMill$Tape" "bytes" "[B" ∈ uW := uW_of (by decide +kernel) rfl
theorem uw_X7_15 : Cond.fieldLink RX7 15 "BandMill$Tape" "length" "I" ∈ uW := uW_of (by decide +kernel) rfl
theorem uw_X7_19 : Cond.fieldLink RX7 19 "BandMill$Tape" "readFrom" "I" ∈ uW := uW_of (by decide +kernel) rfl
theorem uw_X7_22 : Cond.fieldLink RX7 22 "BandMill$Tape" "drafted" "I" ∈ uW := uW_of (by decide +kernel) rfl
theorem uw_X7_25 : Cond.fieldLink RX7 25 "BandMill$Tape" "cursor" "I" ∈ uW := uW_of (by decide +kernel) rfl
theorem uw_X7_28 : Cond.fieldLink RX7 28 "BandMill$Tape" "fault" "I" ∈ uW := uW_of (by decide +kernel) rfl
theorem uw_X7_31 : Cond.fieldLink RX7 31 "BandMill$Tape" "faultPlace" "I" ∈ uW := uW_of (by decide +kernel) rfl
theorem uw_X9_11 : Cond.fieldLink RX9 11 "BandMill" "ways" "[LBandMill$Way;" ∈ uW := uW_of (by decide +kernel) rfl
theorem uw_X9_15 : Cond.fieldLink RX9 15 "BandMill" "wayCount" "I" ∈ uW := uW_of (by decide +kernel) rfl
theorem uw_X9_19 : Cond.fieldLink RX9 19 "BandMill" "numbers" "[I" ∈ uW := uW_of (by decide +kernel) rfl
theorem uw_X9_23 : Cond.fieldLink RX9 23 "BandMill" "numberCount" "I" ∈ uW := uW_of (by decide +kernel) rfl
theorem uw_X9_26 : Cond.fieldLink RX9 26 "BandMill" "unpacked" "[I" ∈ uW := uW_of (by decide +kernel) rfl
theorem uw_X9_32 : Cond.fieldLink RX9 32 "BandMill" "desk" "LBandMill$Desk;" ∈ uW := uW_of (by decide +kernel) rfl
theorem uw_X9_39 : Cond.fieldLink RX9 39 "BandMill" "search" "LBandMill$RunSearch;" ∈ uW := uW_of (by decide +kernel) rfl
theorem uw_X9_43 : Cond.fieldLink RX9 43 "BandMill" "faultPlace" "I" ∈ uW := uW_of (by decide +kernel) rfl
/-- how long the rows of numbers are -/
def aL (k : Nat) : Nat := match k with
  | 12 => 400
  | 13 => 400
  | 14 => 512
  | 15 => 400
  | 16 => 400
  | 17 => 401
  | 18 => 401
  | 19 => 51
  | 20 => 51
  | 21 => 51
  | 22 => 51
  | 23 => 400
  | 24 => 400
  | 25 => 400
  | 26 => 400
  | 28 => 40
  | 29 => 40
  | 30 => 40
  | 31 => 40
  | 32 => 40
  | 33 => 40
  | 34 => 400
  | 35 => 8000
  | 36 => 40000
  | 37 => 80
  | 38 => 80
  | 39 => 80
  | 40 => 400
  | 41 => 8000
  | 42 => 8
  | 43 => 8
  | 44 => 8
  | 45 => 8
  | 46 => 8
  | 47 => 8
  | 48 => 8
  | 49 => 8
  | 50 => 8
  | 51 => 16040
  | 52 => 16040
  | _ => 0
def isA (k : Nat) : Bool := (Nat.ble 12 k && Nat.ble k 26) || (Nat.ble 28 k && Nat.ble k 52)
theorem isA_or {k : Nat} (h : isA k = true) : k = 12 ∨ k = 13 ∨ k = 14 ∨ k = 15 ∨ k = 16 ∨ k = 17 ∨ k = 18 ∨ k = 19 ∨ k = 20 ∨ k = 21 ∨ k = 22 ∨ k = 23 ∨ k = 24 ∨ k = 25 ∨ k = 26 ∨ k = 28 ∨ k = 29 ∨ k = 30 ∨ k = 31 ∨ k = 32 ∨ k = 33 ∨ k = 34 ∨ k = 35 ∨ k = 36 ∨ k = 37 ∨ k = 38 ∨ k = 39 ∨ k = 40 ∨ k = 41 ∨ k = 42 ∨ k = 43 ∨ k = 44 ∨ k = 45 ∨ k = 46 ∨ k = 47 ∨ k = 48 ∨ k = 49 ∨ k = 50 ∨ k = 51 ∨ k = 52 := by
  simp only [isA, Bool.or_eq_true, Bool.and_eq_true, Nat.ble_eq] at h
  omega
theorem gW_arr {z : bZ} {v : bV} {sc : Nat → Int32} {ar : Nat → Nat → Int32} {k : Nat} (h : isA k = true) : (gW z v sc ar)[k]? = some (zad z k, .inl (zI z, aL k, .inl (ar k))) := by
  rcases isA_or h with rfl | rfl | rfl | rfl | rfl | rfl | rfl | rfl | rfl | rfl | rfl | rfl | rfl | rfl | rfl | rfl | rfl | rfl | rfl | rfl | rfl | rfl | rfl | rfl | rfl | rfl | rfl | rfl | rfl | rfl | rfl | rfl | rfl | rfl | rfl | rfl | rfl | rfl | rfl | rfl <;> rfl
theorem gW_set {z : bZ} {v : bV} {sc : Nat → Int32} {ar : Nat → Nat → Int32} {k : Nat} (h : isA k = true) (g : Nat → Int32) : (gW z v sc ar).set k (zad z k, .inl (zI z, aL k, .inl g)) = gW z v sc (va_up ar k g) := by
  rcases isA_or h with rfl | rfl | rfl | rfl | rfl | rfl | rfl | rfl | rfl | rfl | rfl | rfl | rfl | rfl | rfl | rfl | rfl | rfl | rfl | rfl | rfl | rfl | rfl | rfl | rfl | rfl | rfl | rfl | rfl | rfl | rfl | rfl | rfl | rfl | rfl | rfl | rfl | rfl | rfl | rfl <;> rfl
section FLD
variable {p : Program} {l : Launch} {e : Env} {R : Room} {s : State} {m : MethodId} {args : Array Value} {below : List Frame} {meth : Method} {c : Code} {H : Heap} {locs : List Loc} {cells slots : Nat} {Q : State → Prop}
variable {z : bZ} {v : bV} {sc : Nat → Int32} {ar : Nat → Nat → Int32} {cc : ByteArray} {nL : Nat} {own : String} {pc : Nat} {ls : Array Slot} {rest : List Value}
/-- BandMill$Census.slots -/
theorem rg_X0_11 (C : cX z p m c cc nL s args RX0) (h : hH z v sc ar s H locs) (hd : decode cc pc = .ok (.getfield 11, 3)) (k : W p l e R s m args below meth c H locs cells slots Q (F0 m (pc + 3) ls (.ref (zad z 14) :: rest))) : W p l e R s m args below meth c H locs cells slots Q (F0 m pc ls (.ref (zad z 3) :: rest)) :=
  va_get (D := zD z) (ci := 0) (C := RX0) (T := TX0) (N := 5) (v := .ref (zad z 14)) C.1.1 C.1.2.1 C.1.2.2.2.2 iX0 C.1.2.2.2.1 C.2.1 h.1.1 3 rfl rfl 0 (by decide) (C.1.2.2.2.2 _ uw_X0_11) (fun _ h9 => h9) rfl hd k
/-- BandMill$Census.bits -/
theorem rg_X0_15 (C : cX z p m c cc nL s args RX0) (h : hH z v sc ar s H locs) (hd : decode cc pc = .ok (.getfield 15, 3)) (k : W p l e R s m args below meth c H locs cells slots Q (F0 m (pc + 3) ls (.int (sc 9) :: rest))) : W p l e R s m args below meth c H locs cells slots Q (F0 m pc ls (.ref (zad z 3) :: rest)) :=
  va_get (D := zD z) (ci := 0) (C := RX0) (T := TX0) (N := 5) (v := .int (sc 9)) C.1.1 C.1.2.1 C.1.2.2.2.2 iX0 C.1.2.2.2.1 C.2.1 h.1.1 3 rfl rfl 1 (by decide) (C.1.2.2.2.2 _ uw_X0_15) (fun _ h9 => h9) rfl hd k
/-- BandMill$Census.bits := -/
theorem rp_X0_15 {x : Int32} (C : cX z p m c cc nL s args RX0) (h : hH z v sc ar s H locs) (hd : decode cc pc = .ok (.putfield 15, 3)) (k : ∀ (H1 : Heap) (locs1 : List Loc), hH z v (va_up sc 9 x) ar s H1 locs1 → W p l e R s m args below meth c H1 locs1 cells slots Q (F0 m (pc + 3) ls rest)) : W p l e R s m args below meth c H locs cells slots Q (F0 m pc ls (.int x :: .ref (zad z 3) :: rest)) :=
  va_put (D := zD z) (ci := 0) (ty := .int) (C := RX0) (T := TX0) (N := 5) (v := .int x) C.1.1 C.1.2.1 C.1.2.2.2.2 iX0 tyX0 tyX0_ok nmX0 C.1.2.2.2.1 C.2.1 h.1.1 h.1.2 h.2 3 rfl rfl 1 (by decide) (C.1.2.2.2.2 _ uw_X0_15) (fun _ h9 => h9) rfl (by decide +kernel) rfl rfl (Nat.le_of_ble_eq_true rfl) hd (fun H1 locs1 hP hD hS => k H1 locs1 ⟨⟨hP, hD⟩, hS⟩)
/-- BandMill$Census.kinds -/
theorem rg_X0_19 (C : cX z p m c cc nL s args RX0) (h : hH z v sc ar s H locs) (hd : decode cc pc = .ok (.getfield 19, 3)) (k : W p l e R s m args below meth c H locs cells slots Q (F0 m (pc + 3) ls (.ref (zad z 15) :: rest))) : W p l e R s m args below meth c H locs cells slots Q (F0 m pc ls (.ref (zad z 3) :: rest)) :=
  va_get (D := zD z) (ci := 0) (C := RX0) (T := TX0) (N := 5) (v := .ref (zad z 15)) C.1.1 C.1.2.1 C.1.2.2.2.2 iX0 C.1.2.2.2.1 C.2.1 h.1.1 3 rfl rfl 2 (by decide) (C.1.2.2.2.2 _ uw_X0_19) (fun _ h9 => h9) rfl hd k
/-- BandMill$Census.tallies -/
theorem rg_X0_22 (C : cX z p m c cc nL s args RX0) (h : hH z v sc ar s H locs) (hd : decode cc pc = .ok (.getfield 22, 3)) (k : W p l e R s m args below meth c H locs cells slots Q (F0 m (pc + 3) ls (.ref (zad z 16) :: rest))) : W p l e R s m args below meth c H locs cells slots Q (F0 m pc ls (.ref (zad z 3) :: rest)) :=
  va_get (D := zD z) (ci := 0) (C := RX0) (T := TX0) (N := 5) (v := .ref (zad z 16)) C.1.1 C.1.2.1 C.1.2.2.2.2 iX0 C.1.2.2.2.1 C.2.1 h.1.1 3 rfl rfl 3 (by decide) (C.1.2.2.2.2 _ uw_X0_22) (fun _ h9 => h9) rfl hd k
/-- BandMill$Census.kindCount -/
theorem rg_X0_25 (C : cX z p m c cc nL s args RX0) (h : hH z v sc ar s H locs) (hd : decode cc pc = .ok (.getfield 25, 3)) (k : W p l e R s m args below meth c H locs cells slots Q (F0 m (pc + 3) ls (.int (sc 10) :: rest))) : W p l e R s m args below meth c H locs cells slots Q (F0 m pc ls (.ref (zad z 3) :: rest)) :=
  va_get (D := zD z) (ci := 0) (C := RX0) (T := TX0) (N := 5) (v := .int (sc 10)) C.1.1 C.1.2.1 C.1.2.2.2.2 iX0 C.1.2.2.2.1 C.2.1 h.1.1 3 rfl rfl 4 (by decide) (C.1.2.2.2.2 _ uw_X0_25) (fun _ h9 => h9) rfl hd k
/-- BandMill$Census.kindCount := -/
theorem rp_X0_25 {x : Int32} (C : cX z p m c cc nL s args RX0) (h : hH z v sc ar s H locs) (hd : decode cc pc = .ok (.putfield 25, 3)) (k : ∀ (H1 : Heap) (locs1 : List Loc), hH z v (va_up sc 10 x) ar s H1 locs1 → W p l e R s m args below meth c H1 locs1 cells slots Q (F0 m (pc + 3) ls rest)) : W p l e R s m args below meth c H locs cells slots Q (F0 m pc ls (.int x :: .ref (zad z 3) :: rest)) :=
  va_put (D := zD z) (ci := 0) (ty := .int) (C := RX0) (T := TX0) (N := 5) (v := .int x) C.1.1 C.1.2.1 C.1.2.2.2.2 iX0 tyX0 tyX0_ok nmX0 C.1.2.2.2.1 C.2.1 h.1.1 h.1.2 h.2 3 rfl rfl 4 (by decide) (C.1.2.2.2.2 _ uw_X0_25) (fun _ h9 => h9) rfl (by decide +kernel) rfl rfl (Nat.le_of_ble_eq_true rfl) hd (fun H1 locs1 hP hD hS => k H1 locs1 ⟨⟨hP, hD⟩, hS⟩)
/-- BandMill$Desk.tape -/
theorem rg_X1_31 (C : cX z p m c cc nL s args RX1) (h : hH z v sc ar s H locs) (hd : decode cc pc = .ok (.getfield 31, 3)) (k : W p l e R s m args below meth c H locs cells slots Q (F0 m (pc + 3) ls (.ref (zad z 2) :: rest))) : W p l e R s m args below meth c H locs cells slots Q (F0 m pc ls (.ref (zad z 1) :: rest)) :=
  va_getN (D := zD z) (ci := 2) (C := RX2) (T := TX2) (N := 3) (v := .ref (zad z 2)) C.1.1 C.1.2.1 C.1.2.2.2.2 iX2 C.1.2.2.2.1 C.2.1 h.1.1 1 rfl rfl 0 (by decide) (va_Nw.use rfl (C.2.2.2.1 _ (List.mem_of_getElem? (i := 11) rfl))) (fun _ h9 => h9) rfl hd k
/-- BandMill$Tape.cursor -/
theorem rg_X1_41 (C : cX z p m c cc nL s args RX1) (h : hH z v sc ar s H locs) (hd : decode cc pc = .ok (.getfield 41, 3)) (k : W p l e R s m args below meth c H locs cells slots Q (F0 m (pc + 3) ls (.int (sc 6) :: rest))) : W p l e R s m args below meth c H locs cells slots Q (F0 m pc ls (.ref (zad z 2) :: rest)) :=
  va_getN (D := zD z) (ci := 7) (C := RX7) (T := TX7) (N := 7) (v := .int (sc 6)) C.1.1 C.1.2.1 C.1.2.2.2.2 iX7 C.1.2.2.2.1 C.2.1 h.1.1 2 rfl rfl 4 (by decide) (va_Nw.use rfl (C.2.2.2.1 _ (List.mem_of_getElem? (i := 12) rfl))) (fun _ h9 => h9) rfl hd k
/-- BandMillModel.sort -/
theorem rg_X10_7 (C : cX z p m c cc nL s args RX10) (h : hH z v sc ar s H locs) (hd : decode cc pc = .ok (.getfield 7, 3)) (k : W p l e R s m args below meth c H locs cells slots Q (F0 m (pc + 3) ls (.ref (zad z 28) :: rest))) : W p l e R s m args below meth c H locs cells slots Q (F0 m pc ls (.ref (zad z 27) :: rest)) :=
  va_get (D := zD z) (ci := 9) (C := RX10) (T := TX10) (N := 40) (v := .ref (zad z 28)) C.1.1 C.1.2.1 C.1.2.2.2.2 iX10 C.1.2.2.2.1 C.2.1 h.1.1 27 rfl rfl 2 (by decide) (C.1.2.2.2.2 _ uw_X10_7) (fun _ h9 => h9) rfl hd k
/-- BandMillModel.one -/
theorem rg_X10_13 (C : cX z p m c cc nL s args RX10) (h : hH z v sc ar s H locs) (hd : decode cc pc = .ok (.getfield 13, 3)) (k : W p l e R s m args below meth c H locs cells slots Q (F0 m (pc + 3) ls (.ref (zad z 29) :: rest))) : W p l e R s m args below meth c H locs cells slots Q (F0 m pc ls (.ref (zad z 27) :: rest)) :=
  va_get (D := zD z) (ci := 9) (C := RX10) (T := TX10) (N := 40) (v := .ref (zad z 29)) C.1.1 C.1.2.1 C.1.2.2.2.2 iX10 C.1.2.2.2.1 C.2.1 h.1.1 27 rfl rfl 3 (by decide) (C.1.2.2.2.2 _ uw_X10_13) (fun _ h9 => h9) rfl hd k
/-- BandMillModel.two -/
theorem rg_X10_16 (C : cX z p m c cc nL s args RX10) (h : hH z v sc ar s H locs) (hd : decode cc pc = .ok (.getfield 16, 3)) (k : W p l e R s m args below meth c H locs cells slots Q (F0 m (pc + 3) ls (.ref (zad z 30) :: rest))) : W p l e R s m args below meth c H locs cells slots Q (F0 m pc ls (.ref (zad z 27) :: rest)) :=
  va_get (D := zD z) (ci := 9) (C := RX10) (T := TX10) (N := 40) (v := .ref (zad z 30)) C.1.1 C.1.2.1 C.1.2.2.2.2 iX10 C.1.2.2.2.1 C.2.1 h.1.1 27 rfl rfl 4 (by decide) (C.1.2.2.2.2 _ uw_X10_16) (fun _ h9 => h9) rfl hd k
/-- BandMillModel.three -/
theorem rg_X10_19 (C : cX z p m c cc nL s args RX10) (h : hH z v sc ar s H locs) (hd : decode cc pc = .ok (.getfield 19, 3)) (k : W p l e R s m args below meth c H locs cells slots Q (F0 m (pc + 3) ls (.ref (zad z 31) :: rest))) : W p l e R s m args below meth c H locs cells slots Q (F0 m pc ls (.ref (zad z 27) :: rest)) :=
  va_get (D := zD z) (ci := 9) (C := RX10) (T := TX10) (N := 40) (v := .ref (zad z 31)) C.1.1 C.1.2.1 C.1.2.2.2.2 iX10 C.1.2.2.2.1 C.2.1 h.1.1 27 rfl rfl 5 (by decide) (C.1.2.2.2.2 _ uw_X10_19) (fun _ h9 => h9) rfl hd k
/-- BandMillModel.four -/
theorem rg_X10_22 (C : cX z p m c cc nL s args RX10) (h : hH z v sc ar s H locs) (hd : decode cc pc = .ok (.getfield 22, 3)) (k : W p l e R s m args below meth c H locs cells slots Q (F0 m (pc + 3) ls (.ref (zad z 32) :: rest))) : W p l e R s m args below meth c H locs cells slots Q (F0 m pc ls (.ref (zad z 27) :: rest)) :=
  va_get (D := zD z) (ci := 9) (C := RX10) (T := TX10) (N := 40) (v := .ref (zad z 32)) C.1.1 C.1.2.1 C.1.2.2.2.2 iX10 C.1.2.2.2.1 C.2.1 h.1.1 27 rfl rfl 6 (by decide) (C.1.2.2.2.2 _ uw_X10_22) (fun _ h9 => h9) rfl hd k
/-- BandMillModel.depth -/
theorem rg_X10_25 (C : cX z p m c cc nL s args RX10) (h : hH z v sc ar s H locs) (hd : decode cc pc = .ok (.getfield 25, 3)) (k : W p l e R s m args below meth c H locs cells slots Q (F0 m (pc + 3) ls (.ref (zad z 33) :: rest))) : W p l e R s m args below meth c H locs cells slots Q (F0 m pc ls (.ref (zad z 27) :: rest)) :=
  va_get (D := zD z) (ci := 9) (C := RX10) (T := TX10) (N := 40) (v := .ref (zad z 33)) C.1.1 C.1.2.1 C.1.2.2.2.2 iX10 C.1.2.2.2.1 C.2.1 h.1.1 27 rfl rfl 7 (by decide) (C.1.2.2.2.2 _ uw_X10_25) (fun _ h9 => h9) rfl hd k
/-- BandMillModel.row -/
theorem rg_X10_28 (C : cX z p m c cc nL s args RX10) (h : hH z v sc ar s H locs) (hd : decode cc pc = .ok (.getfield 28, 3)) (k : W p l e R s m args below meth c H locs cells slots Q (F0 m (pc + 3) ls (.ref (zad z 34) :: rest))) : W p l e R s m args below meth c H locs cells slots Q (F0 m pc ls (.ref (zad z 27) :: rest)) :=
  va_get (D := zD z) (ci := 9) (C := RX10) (T := TX10) (N := 40) (v := .ref (zad z 34)) C.1.1 C.1.2.1 C.1.2.2.2.2 iX10 C.1.2.2.2.1 C.2.1 h.1.1 27 rfl rfl 9 (by decide) (C.1.2.2.2.2 _ uw_X10_28) (fun _ h9 => h9) rfl hd k
/-- BandMillModel.tape -/
theorem rg_X10_31 (C : cX z p m c cc nL s args RX10) (h : hH z v sc ar s H locs) (hd : decode cc pc = .ok (.getfield 31, 3)) (k : W p l e R s m args below meth c H locs cells slots Q (F0 m (pc + 3) ls (.ref (zad z 35) :: rest))) : W p l e R s m args below meth c H locs cells slots Q (F0 m pc ls (.ref (zad z 27) :: rest)) :=
  va_get (D := zD z) (ci := 9) (C := RX10) (T := TX10) (N := 40) (v := .ref (zad z 35)) C.1.1 C.1.2.1 C.1.2.2.2.2 iX10 C.1.2.2.2.1 C.2.1 h.1.1 27 rfl rfl 12 (by decide) (C.1.2.2.2.2 _ uw_X10_31) (fun _ h9 => h9) rfl hd k
/-- BandMillModel.place -/
theorem rg_X10_34 (C : cX z p m c cc nL s args RX10) (h : hH z v sc ar s H locs) (hd : decode cc pc = .ok (.getfield 34, 3)) (k : W p l e R s m args below meth c H locs cells slots Q (F0 m (pc + 3) ls (.int (sc 25) :: rest))) : W p l e R s m args below meth c H locs cells slots Q (F0 m pc ls (.ref (zad z 27) :: rest)) :=
  va_get (D := zD z) (ci := 9) (C := RX10) (T := TX10) (N := 40) (v := .int (sc 25)) C.1.1 C.1.2.1 C.1.2.2.2.2 iX10 C.1.2.2.2.1 C.2.1 h.1.1 27 rfl rfl 13 (by decide) (C.1.2.2.2.2 _ uw_X10_34) (fun _ h9 => h9) rfl hd k
/-- BandMillModel.place := -/
theorem rp_X10_34 {x : Int32} (C : cX z p m c cc nL s args RX10) (h : hH z v sc ar s H locs) (hd : decode cc pc = .ok (.putfield 34, 3)) (k : ∀ (H1 : Heap) (locs1 : List Loc), hH z v (va_up sc 25 x) ar s H1 locs1 → W p l e R s m args below meth c H1 locs1 cells slots Q (F0 m (pc + 3) ls rest)) : W p l e R s m args below meth c H locs cells slots Q (F0 m pc ls (.int x :: .ref (zad z 27) :: rest)) :=
  va_put (D := zD z) (ci := 9) (ty := .int) (C := RX10) (T := TX10) (N := 40) (v := .int x) C.1.1 C.1.2.1 C.1.2.2.2.2 iX10 tyX10 tyX10_ok nmX10 C.1.2.2.2.1 C.2.1 h.1.1 h.1.2 h.2 27 rfl rfl 13 (by decide) (C.1.2.2.2.2 _ uw_X10_34) (fun _ h9 => h9) rfl (by decide +kernel) rfl rfl (Nat.le_of_ble_eq_true rfl) hd (fun H1 locs1 hP hD hS => k H1 locs1 ⟨⟨hP, hD⟩, hS⟩)
/-- BandMillModel.chosenN -/
theorem rg_X10_38 (C : cX z p m c cc nL s args RX10) (h : hH z v sc ar s H locs) (hd : decode cc pc = .ok (.getfield 38, 3)) (k : W p l e R s m args below meth c H locs cells slots Q (F0 m (pc + 3) ls (.int (sc 26) :: rest))) : W p l e R s m args below meth c H locs cells slots Q (F0 m pc ls (.ref (zad z 27) :: rest)) :=
  va_get (D := zD z) (ci := 9) (C := RX10) (T := TX10) (N := 40) (v := .int (sc 26)) C.1.1 C.1.2.1 C.1.2.2.2.2 iX10 C.1.2.2.2.1 C.2.1 h.1.1 27 rfl rfl 14 (by decide) (C.1.2.2.2.2 _ uw_X10_38) (fun _ h9 => h9) rfl hd k
/-- BandMillModel.chosenN := -/
theorem rp_X10_38 {x : Int32} (C : cX z p m c cc nL s args RX10) (h : hH z v sc ar s H locs) (hd : decode cc pc = .ok (.putfield 38, 3)) (k : ∀ (H1 : Heap) (locs1 : List Loc), hH z v (va_up sc 26 x) ar s H1 locs1 → W p l e R s m args below meth c H1 locs1 cells slots Q (F0 m (pc + 3) ls rest)) : W p l e R s m args below meth c H locs cells slots Q (F0 m pc ls (.int x :: .ref (zad z 27) :: rest)) :=
  va_put (D := zD z) (ci := 9) (ty := .int) (C := RX10) (T := TX10) (N := 40) (v := .int x) C.1.1 C.1.2.1 C.1.2.2.2.2 iX10 tyX10 tyX10_ok nmX10 C.1.2.2.2.1 C.2.1 h.1.1 h.1.2 h.2 27 rfl rfl 14 (by decide) (C.1.2.2.2.2 _ uw_X10_38) (fun _ h9 => h9) rfl (by decide +kernel) rfl rfl (Nat.le_of_ble_eq_true rfl) hd (fun H1 locs1 hP hD hS => k H1 locs1 ⟨⟨hP, hD⟩, hS⟩)
/-- BandMillModel.chosenFirst -/
theorem rg_X10_41 (C : cX z p m c cc nL s args RX10) (h : hH z v sc ar s H locs) (hd : decode cc pc = .ok (.getfield 41, 3)) (k : W p l e R s m args below meth c H locs cells slots Q (F0 m (pc + 3) ls (.int (sc 27) :: rest))) : W p l e R s m args below meth c H locs cells slots Q (F0 m pc ls (.ref (zad z 27) :: rest)) :=
  va_get (D := zD z) (ci := 9) (C := RX10) (T := TX10) (N := 40) (v := .int (sc 27)) C.1.1 C.1.2.1 C.1.2.2.2.2 iX10 C.1.2.2.2.1 C.2.1 h.1.1 27 rfl rfl 15 (by decide) (C.1.2.2.2.2 _ uw_X10_41) (fun _ h9 => h9) rfl hd k
/-- BandMillModel.chosenFirst := -/
theorem rp_X10_41 {x : Int32} (C : cX z p m c cc nL s args RX10) (h : hH z v sc ar s H locs) (hd : decode cc pc = .ok (.putfield 41, 3)) (k : ∀ (H1 : Heap) (locs1 : List Loc), hH z v (va_up sc 27 x) ar s H1 locs1 → W p l e R s m args below meth c H1 locs1 cells slots Q (F0 m (pc + 3) ls rest)) : W p l e R s m args below meth c H locs cells slots Q (F0 m pc ls (.int x :: .ref (zad z 27) :: rest)) :=
  va_put (D := zD z) (ci := 9) (ty := .int) (C := RX10) (T := TX10) (N := 40) (v := .int x) C.1.1 C.1.2.1 C.1.2.2.2.2 iX10 tyX10 tyX10_ok nmX10 C.1.2.2.2.1 C.2.1 h.1.1 h.1.2 h.2 27 rfl rfl 15 (by decide) (C.1.2.2.2.2 _ uw_X10_41) (fun _ h9 => h9) rfl (by decide +kernel) rfl rfl (Nat.le_of_ble_eq_true rfl) hd (fun H1 locs1 hP hD hS => k H1 locs1 ⟨⟨hP, hD⟩, hS⟩)
/-- BandMillModel.chosenOther -/
theorem rg_X10_44 (C : cX z p m c cc nL s args RX10) (h : hH z v sc ar s H locs) (hd : decode cc pc = .ok (.getfield 44, 3)) (k : W p l e R s m args below meth c H locs cells slots Q (F0 m (pc + 3) ls (.int (sc 28) :: rest))) : W p l e R s m args below meth c H locs cells slots Q (F0 m pc ls (.ref (zad z 27) :: rest)) :=
  va_get (D := zD z) (ci := 9) (C := RX10) (T := TX10) (N := 40) (v := .int (sc 28)) C.1.1 C.1.2.1 C.1.2.2.2.2 iX10 C.1.2.2.2.1 C.2.1 h.1.1 27 rfl rfl 16 (by decide) (C.1.2.2.2.2 _ uw_X10_44) (fun _ h9 => h9) rfl hd k
/-- BandMillModel.chosenOther := -/
theorem rp_X10_44 {x : Int32} (C : cX z p m c cc nL s args RX10) (h : hH z v sc ar s H locs) (hd : decode cc pc = .ok (.putfield 44, 3)) (k : ∀ (H1 : Heap) (locs1 : List Loc), hH z v (va_up sc 28 x) ar s H1 locs1 → W p l e R s m args below meth c H1 locs1 cells slots Q (F0 m (pc + 3) ls rest)) : W p l e R s m args below meth c H locs cells slots Q (F0 m pc ls (.int x :: .ref (zad z 27) :: rest)) :=
  va_put (D := zD z) (ci := 9) (ty := .int) (C := RX10) (T := TX10) (N := 40) (v := .int x) C.1.1 C.1.2.1 C.1.2.2.2.2 iX10 tyX10 tyX10_ok nmX10 C.1.2.2.2.1 C.2.1 h.1.1 h.1.2 h.2 27 rfl rfl 16 (by decide) (C.1.2.2.2.2 _ uw_X10_44) (fun _ h9 => h9) rfl (by decide +kernel) rfl rfl (Nat.le_of_ble_eq_true rfl) hd (fun H1 locs1 hP hD hS => k H1 locs1 ⟨⟨hP, hD⟩, hS⟩)
/-- BandMillModel.pool -/
theorem rg_X10_48 (C : cX z p m c cc nL s args RX10) (h : hH z v sc ar s H locs) (hd : decode cc pc = .ok (.getfield 48, 3)) (k : W p l e R s m args below meth c H locs cells slots Q (F0 m (pc + 3) ls (.ref (zad z 36) :: rest))) : W p l e R s m args below meth c H locs cells slots Q (F0 m pc ls (.ref (zad z 27) :: rest)) :=
  va_get (D := zD z) (ci := 9) (C := RX10) (T := TX10) (N := 40) (v := .ref (zad z 36)) C.1.1 C.1.2.1 C.1.2.2.2.2 iX10 C.1.2.2.2.1 C.2.1 h.1.1 27 rfl rfl 17 (by decide) (C.1.2.2.2.2 _ uw_X10_48) (fun _ h9 => h9) rfl hd k
/-- BandMillModel.taskWay -/
theorem rg_X10_51 (C : cX z p m c cc nL s args RX10) (h : hH z v sc ar s H locs) (hd : decode cc pc = .ok (.getfield 51, 3)) (k : W p l e R s m args below meth c H locs cells slots Q (F0 m (pc + 3) ls (.ref (zad z 37) :: rest))) : W p l e R s m args below meth c H locs cells slots Q (F0 m pc ls (.ref (zad z 27) :: rest)) :=
  va_get (D := zD z) (ci := 9) (C := RX10) (T := TX10) (N := 40) (v := .ref (zad z 37)) C.1.1 C.1.2.1 C.1.2.2.2.2 iX10 C.1.2.2.2.1 C.2.1 h.1.1 27 rfl rfl 19 (by decide) (C.1.2.2.2.2 _ uw_X10_51) (fun _ h9 => h9) rfl hd k
/-- BandMillModel.taskFirst -/
theorem rg_X10_54 (C : cX z p m c cc nL s args RX10) (h : hH z v sc ar s H locs) (hd : decode cc pc = .ok (.getfield 54, 3)) (k : W p l e R s m args below meth c H locs cells slots Q (F0 m (pc + 3) ls (.ref (zad z 38) :: rest))) : W p l e R s m args below meth c H locs cells slots Q (F0 m pc ls (.ref (zad z 27) :: rest)) :=
  va_get (D := zD z) (ci := 9) (C := RX10) (T := TX10) (N := 40) (v := .ref (zad z 38)) C.1.1 C.1.2.1 C.1.2.2.2.2 iX10 C.1.2.2.2.1 C.2.1 h.1.1 27 rfl rfl 20 (by decide) (C.1.2.2.2.2 _ uw_X10_54) (fun _ h9 => h9) rfl hd k
/-- BandMillModel.taskMany -/
theorem rg_X10_57 (C : cX z p m c cc nL s args RX10) (h : hH z v sc ar s H locs) (hd : decode cc pc = .ok (.getfield 57, 3)) (k : W p l e R s m args below meth c H locs cells slots Q (F0 m (pc + 3) ls (.ref (zad z 39) :: rest))) : W p l e R s m args below meth c H locs cells slots Q (F0 m pc ls (.ref (zad z 27) :: rest)) :=
  va_get (D := zD z) (ci := 9) (C := RX10) (T := TX10) (N := 40) (v := .ref (zad z 39)) C.1.1 C.1.2.1 C.1.2.2.2.2 iX10 C.1.2.2.2.1 C.2.1 h.1.1 27 rfl rfl 21 (by decide) (C.1.2.2.2.2 _ uw_X10_57) (fun _ h9 => h9) rfl hd k
/-- BandMillModel.often -/
theorem rg_X10_60 (C : cX z p m c cc nL s args RX10) (h : hH z v sc ar s H locs) (hd : decode cc pc = .ok (.getfield 60, 3)) (k : W p l e R s m args below meth c H locs cells slots Q (F0 m (pc + 3) ls (.ref (zad z 40) :: rest))) : W p l e R s m args below meth c H locs cells slots Q (F0 m pc ls (.ref (zad z 27) :: rest)) :=
  va_get (D := zD z) (ci := 9) (C := RX10) (T := TX10) (N := 40) (v := .ref (zad z 40)) C.1.1 C.1.2.1 C.1.2.2.2.2 iX10 C.1.2.2.2.1 C.2.1 h.1.1 27 rfl rfl 23 (by decide) (C.1.2.2.2.2 _ uw_X10_60) (fun _ h9 => h9) rfl hd k
/-- BandMillModel.out -/
theorem rg_X10_63 (C : cX z p m c cc nL s args RX10) (h : hH z v sc ar s H locs) (hd : decode cc pc = .ok (.getfield 63, 3)) (k : W p l e R s m args below meth c H locs cells slots Q (F0 m (pc + 3) ls (.ref (zad z 41) :: rest))) : W p l e R s m args below meth c H locs cells slots Q (F0 m pc ls (.ref (zad z 27) :: rest)) :=
  va_get (D := zD z) (ci := 9) (C := RX10) (T := TX10) (N := 40) (v := .ref (zad z 41)) C.1.1 C.1.2.1 C.1.2.2.2.2 iX10 C.1.2.2.2.1 C.2.1 h.1.1 27 rfl rfl 25 (by decide) (C.1.2.2.2.2 _ uw_X10_63) (fun _ h9 => h9) rfl hd k
/-- BandMillModel.inWay -/
theorem rg_X10_66 (C : cX z p m c cc nL s args RX10) (h : hH z v sc ar s H locs) (hd : decode cc pc = .ok (.getfield 66, 3)) (k : W p l e R s m args below meth c H locs cells slots Q (F0 m (pc + 3) ls (.ref (zad z 42) :: rest))) : W p l e R s m args below meth c H locs cells slots Q (F0 m pc ls (.ref (zad z 27) :: rest)) :=
  va_get (D := zD z) (ci := 9) (C := RX10) (T := TX10) (N := 40) (v := .ref (zad z 42)) C.1.1 C.1.2.1 C.1.2.2.2.2 iX10 C.1.2.2.2.1 C.2.1 h.1.1 27 rfl rfl 26 (by decide) (C.1.2.2.2.2 _ uw_X10_66) (fun _ h9 => h9) rfl hd k
/-- BandMillModel.inMany -/
theorem rg_X10_69 (C : cX z p m c cc nL s args RX10) (h : hH z v sc ar s H locs) (hd : decode cc pc = .ok (.getfield 69, 3)) (k : W p l e R s m args below meth c H locs cells slots Q (F0 m (pc + 3) ls (.ref (zad z 43) :: rest))) : W p l e R s m args below meth c H locs cells slots Q (F0 m pc ls (.ref (zad z 27) :: rest)) :=
  va_get (D := zD z) (ci := 9) (C := RX10) (T := TX10) (N := 40) (v := .ref (zad z 43)) C.1.1 C.1.2.1 C.1.2.2.2.2 iX10 C.1.2.2.2.1 C.2.1 h.1.1 27 rfl rfl 27 (by decide) (C.1.2.2.2.2 _ uw_X10_69) (fun _ h9 => h9) rfl hd k
/-- BandMillModel.inTo -/
theorem rg_X10_72 (C : cX z p m c cc nL s args RX10) (h : hH z v sc ar s H locs) (hd : decode cc pc = .ok (.getfield 72, 3)) (k : W p l e R s m args below meth c H locs cells slots Q (F0 m (pc + 3) ls (.ref (zad z 44) :: rest))) : W p l e R s m args below meth c H locs cells slots Q (F0 m pc ls (.ref (zad z 27) :: rest)) :=
  va_get (D := zD z) (ci := 9) (C := RX10) (T := TX10) (N := 40) (v := .ref (zad z 44)) C.1.1 C.1.2.1 C.1.2.2.2.2 iX10 C.1.2.2.2.1 C.2.1 h.1.1 27 rfl rfl 28 (by decide) (C.1.2.2.2.2 _ uw_X10_72) (fun _ h9 => h9) rfl hd k
/-- BandMillModel.inState -/
theorem rg_X10_75 (C : cX z p m c cc nL s args RX10) (h : hH z v sc ar s H locs) (hd : decode cc pc = .ok (.getfield 75, 3)) (k : W p l e R s m args below meth c H locs cells slots Q (F0 m (pc + 3) ls (.ref (zad z 45) :: rest))) : W p l e R s m args below meth c H locs cells slots Q (F0 m pc ls (.ref (zad z 27) :: rest)) :=
  va_get (D := zD z) (ci := 9) (C := RX10) (T := TX10) (N := 40) (v := .ref (zad z 45)) C.1.1 C.1.2.1 C.1.2.2.2.2 iX10 C.1.2.2.2.1 C.2.1 h.1.1 27 rfl rfl 29 (by decide) (C.1.2.2.2.2 _ uw_X10_75) (fun _ h9 => h9) rfl hd k
/-- BandMillModel.inRow -/
theorem rg_X10_78 (C : cX z p m c cc nL s args RX10) (h : hH z v sc ar s H locs) (hd : decode cc pc = .ok (.getfield 78, 3)) (k : W p l e R s m args below meth c H locs cells slots Q (F0 m (pc + 3) ls (.ref (zad z 46) :: rest))) : W p l e R s m args below meth c H locs cells slots Q (F0 m pc ls (.ref (zad z 27) :: rest)) :=
  va_get (D := zD z) (ci := 9) (C := RX10) (T := TX10) (N := 40) (v := .ref (zad z 46)) C.1.1 C.1.2.1 C.1.2.2.2.2 iX10 C.1.2.2.2.1 C.2.1 h.1.1 27 rfl rfl 30 (by decide) (C.1.2.2.2.2 _ uw_X10_78) (fun _ h9 => h9) rfl hd k
/-- BandMillModel.inFavourites -/
theorem rg_X10_81 (C : cX z p m c cc nL s args RX10) (h : hH z v sc ar s H locs) (hd : decode cc pc = .ok (.getfield 81, 3)) (k : W p l e R s m args below meth c H locs cells slots Q (F0 m (pc + 3) ls (.ref (zad z 47) :: rest))) : W p l e R s m args below meth c H locs cells slots Q (F0 m pc ls (.ref (zad z 27) :: rest)) :=
  va_get (D := zD z) (ci := 9) (C := RX10) (T := TX10) (N := 40) (v := .ref (zad z 47)) C.1.1 C.1.2.1 C.1.2.2.2.2 iX10 C.1.2.2.2.1 C.2.1 h.1.1 27 rfl rfl 31 (by decide) (C.1.2.2.2.2 _ uw_X10_81) (fun _ h9 => h9) rfl hd k
/-- BandMillModel.inTokens -/
theorem rg_X10_84 (C : cX z p m c cc nL s args RX10) (h : hH z v sc ar s H locs) (hd : decode cc pc = .ok (.getfield 84, 3)) (k : W p l e R s m args below meth c H locs cells slots Q (F0 m (pc + 3) ls (.ref (zad z 48) :: rest))) : W p l e R s m args below meth c H locs cells slots Q (F0 m pc ls (.ref (zad z 27) :: rest)) :=
  va_get (D := zD z) (ci := 9) (C := RX10) (T := TX10) (N := 40) (v := .ref (zad z 48)) C.1.1 C.1.2.1 C.1.2.2.2.2 iX10 C.1.2.2.2.1 C.2.1 h.1.1 27 rfl rfl 32 (by decide) (C.1.2.2.2.2 _ uw_X10_84) (fun _ h9 => h9) rfl hd k
/-- BandMillModel.inOthers -/
theorem rg_X10_87 (C : cX z p m c cc nL s args RX10) (h : hH z v sc ar s H locs) (hd : decode cc pc = .ok (.getfield 87, 3)) (k : W p l e R s m args below meth c H locs cells slots Q (F0 m (pc + 3) ls (.ref (zad z 49) :: rest))) : W p l e R s m args below meth c H locs cells slots Q (F0 m pc ls (.ref (zad z 27) :: rest)) :=
  va_get (D := zD z) (ci := 9) (C := RX10) (T := TX10) (N := 40) (v := .ref (zad z 49)) C.1.1 C.1.2.1 C.1.2.2.2.2 iX10 C.1.2.2.2.1 C.2.1 h.1.1 27 rfl rfl 33 (by decide) (C.1.2.2.2.2 _ uw_X10_87) (fun _ h9 => h9) rfl hd k
/-- BandMillModel.inByte -/
theorem rg_X10_90 (C : cX z p m c cc nL s args RX10) (h : hH z v sc ar s H locs) (hd : decode cc pc = .ok (.getfield 90, 3)) (k : W p l e R s m args below meth c H locs cells slots Q (F0 m (pc + 3) ls (.ref (zad z 50) :: rest))) : W p l e R s m args below meth c H locs cells slots Q (F0 m pc ls (.ref (zad z 27) :: rest)) :=
  va_get (D := zD z) (ci := 9) (C := RX10) (T := TX10) (N := 40) (v := .ref (zad z 50)) C.1.1 C.1.2.1 C.1.2.2.2.2 iX10 C.1.2.2.2.1 C.2.1 h.1.1 27 rfl rfl 34 (by decide) (C.1.2.2.2.2 _ uw_X10_90) (fun _ h9 => h9) rfl hd k
/-- BandMillModel.ahead -/
theorem rg_X10_93 (C : cX z p m c cc nL s args RX10) (h : hH z v sc ar s H locs) (hd : decode cc pc = .ok (.getfield 93, 3)) (k : W p l e R s m args below meth c H locs cells slots Q (F0 m (pc + 3) ls (.ref (zad z 51) :: rest))) : W p l e R s m args below meth c H locs cells slots Q (F0 m pc ls (.ref (zad z 27) :: rest)) :=
  va_get (D := zD z) (ci := 9) (C := RX10) (T := TX10) (N := 40) (v := .ref (zad z 51)) C.1.1 C.1.2.1 C.1.2.2.2.2 iX10 C.1.2.2.2.1 C.2.1 h.1.1 27 rfl rfl 38 (by decide) (C.1.2.2.2.2 _ uw_X10_93) (fun _ h9 => h9) rfl hd k
/-- BandMillModel.behind -/
theorem rg_X10_96 (C : cX z p m c cc nL s args RX10) (h : hH z v sc ar s H locs) (hd : decode cc pc = .ok (.getfield 96, 3)) (k : W p l e R s m args below meth c H locs cells slots Q (F0 m (pc + 3) ls (.ref (zad z 52) :: rest))) : W p l e R s m args below meth c H locs cells slots Q (F0 m pc ls (.ref (zad z 27) :: rest)) :=
  va_get (D := zD z) (ci := 9) (C := RX10) (T := TX10) (N := 40) (v := .ref (zad z 52)) C.1.1 C.1.2.1 C.1.2.2.2.2 iX10 C.1.2.2.2.1 C.2.1 h.1.1 27 rfl rfl 39 (by decide) (C.1.2.2.2.2 _ uw_X10_96) (fun _ h9 => h9) rfl hd k
/-- BandMillModel.code -/
theorem rg_X10_99 (C : cX z p m c cc nL s args RX10) (h : hH z v sc ar s H locs) (hd : decode cc pc = .ok (.getfield 99, 3)) (k : W p l e R s m args below meth c H locs cells slots Q (F0 m (pc + 3) ls (.int (sc 20) :: rest))) : W p l e R s m args below meth c H locs cells slots Q (F0 m pc ls (.ref (zad z 27) :: rest)) :=
  va_get (D := zD z) (ci := 9) (C := RX10) (T := TX10) (N := 40) (v := .int (sc 20)) C.1.1 C.1.2.1 C.1.2.2.2.2 iX10 C.1.2.2.2.1 C.2.1 h.1.1 27 rfl rfl 0 (by decide) (C.1.2.2.2.2 _ uw_X10_99) (fun _ h9 => h9) rfl hd k
/-- BandMillModel.code := -/
theorem rp_X10_99 {x : Int32} (C : cX z p m c cc nL s args RX10) (h : hH z v sc ar s H locs) (hd : decode cc pc = .ok (.putfield 99, 3)) (k : ∀ (H1 : Heap) (locs1 : List Loc), hH z v (va_up sc 20 x) ar s H1 locs1 → W p l e R s m args below meth c H1 locs1 cells slots Q (F0 m (pc + 3) ls rest)) : W p l e R s m args below meth c H locs cells slots Q (F0 m pc ls (.int x :: .ref (zad z 27) :: rest)) :=
  va_put (D := zD z) (ci := 9) (ty := .int) (C := RX10) (T := TX10) (N := 40) (v := .int x) C.1.1 C.1.2.1 C.1.2.2.2.2 iX10 tyX10 tyX10_ok nmX10 C.1.2.2.2.1 C.2.1 h.1.1 h.1.2 h.2 27 rfl rfl 0 (by decide) (C.1.2.2.2.2 _ uw_X10_99) (fun _ h9 => h9) rfl (by decide +kernel) rfl rfl (Nat.le_of_ble_eq_true rfl) hd (fun H1 locs1 hP hD hS => k H1 locs1 ⟨⟨hP, hD⟩, hS⟩)
/-- BandMillModel.ways -/
theorem rg_X10_102 (C : cX z p m c cc nL s args RX10) (h : hH z v sc ar s H locs) (hd : decode cc pc = .ok (.getfield 102, 3)) (k : W p l e R s m args below meth c H locs cells slots Q (F0 m (pc + 3) ls (.int (sc 21) :: rest))) : W p l e R s m args below meth c H locs cells slots Q (F0 m pc ls (.ref (zad z 27) :: rest)) :=
  va_get (D := zD z) (ci := 9) (C := RX10) (T := TX10) (N := 40) (v := .int (sc 21)) C.1.1 C.1.2.1 C.1.2.2.2.2 iX10 C.1.2.2.2.1 C.2.1 h.1.1 27 rfl rfl 1 (by decide) (C.1.2.2.2.2 _ uw_X10_102) (fun _ h9 => h9) rfl hd k
/-- BandMillModel.ways := -/
theorem rp_X10_102 {x : Int32} (C : cX z p m c cc nL s args RX10) (h : hH z v sc ar s H locs) (hd : decode cc pc = .ok (.putfield 102, 3)) (k : ∀ (H1 : Heap) (locs1 : List Loc), hH z v (va_up sc 21 x) ar s H1 locs1 → W p l e R s m args below meth c H1 locs1 cells slots Q (F0 m (pc + 3) ls rest)) : W p l e R s m args below meth c H locs cells slots Q (F0 m pc ls (.int x :: .ref (zad z 27) :: rest)) :=
  va_put (D := zD z) (ci := 9) (ty := .int) (C := RX10) (T := TX10) (N := 40) (v := .int x) C.1.1 C.1.2.1 C.1.2.2.2.2 iX10 tyX10 tyX10_ok nmX10 C.1.2.2.2.1 C.2.1 h.1.1 h.1.2 h.2 27 rfl rfl 1 (by decide) (C.1.2.2.2.2 _ uw_X10_102) (fun _ h9 => h9) rfl (by decide +kernel) rfl rfl (Nat.le_of_ble_eq_true rfl) hd (fun H1 locs1 hP hD hS => k H1 locs1 ⟨⟨hP, hD⟩, hS⟩)
/-- BandMillModel.many -/
theorem rg_X10_120 (C : cX z p m c cc nL s args RX10) (h : hH z v sc ar s H locs) (hd : decode cc pc = .ok (.getfield 120, 3)) (k : W p l e R s m args below meth c H locs cells slots Q (F0 m (pc + 3) ls (.int (sc 22) :: rest))) : W p l e R s m args below meth c H locs cells slots Q (F0 m pc ls (.ref (zad z 27) :: rest)) :=
  va_get (D := zD z) (ci := 9) (C := RX10) (T := TX10) (N := 40) (v := .int (sc 22)) C.1.1 C.1.2.1 C.1.2.2.2.2 iX10 C.1.2.2.2.1 C.2.1 h.1.1 27 rfl rfl 8 (by decide) (C.1.2.2.2.2 _ uw_X10_120) (fun _ h9 => h9) rfl hd k
/-- BandMillModel.many := -/
theorem rp_X10_120 {x : Int32} (C : cX z p m c cc nL s args RX10) (h : hH z v sc ar s H locs) (hd : decode cc pc = .ok (.putfield 120, 3)) (k : ∀ (H1 : Heap) (locs1 : List Loc), hH z v (va_up sc 22 x) ar s H1 locs1 → W p l e R s m args below meth c H1 locs1 cells slots Q (F0 m (pc + 3) ls rest)) : W p l e R s m args below meth c H locs cells slots Q (F0 m pc ls (.int x :: .ref (zad z 27) :: rest)) :=
  va_put (D := zD z) (ci := 9) (ty := .int) (C := RX10) (T := TX10) (N := 40) (v := .int x) C.1.1 C.1.2.1 C.1.2.2.2.2 iX10 tyX10 tyX10_ok nmX10 C.1.2.2.2.1 C.2.1 h.1.1 h.1.2 h.2 27 rfl rfl 8 (by decide) (C.1.2.2.2.2 _ uw_X10_120) (fun _ h9 => h9) rfl (by decide +kernel) rfl rfl (Nat.le_of_ble_eq_true rfl) hd (fun H1 locs1 hP hD hS => k H1 locs1 ⟨⟨hP, hD⟩, hS⟩)
/-- BandMillModel.written -/
theorem rg_X10_141 (C : cX z p m c cc nL s args RX10) (h : hH z v sc ar s H locs) (hd : decode cc pc = .ok (.getfield 141, 3)) (k : W p l e R s m args below meth c H locs cells slots Q (F0 m (pc + 3) ls (.int (sc 31) :: rest))) : W p l e R s m args below meth c H locs cells slots Q (F0 m pc ls (.ref (zad z 27) :: rest)) :=
  va_get (D := zD z) (ci := 9) (C := RX10) (T := TX10) (N := 40) (v := .int (sc 31)) C.1.1 C.1.2.1 C.1.2.2.2.2 iX10 C.1.2.2.2.1 C.2.1 h.1.1 27 rfl rfl 24 (by decide) (C.1.2.2.2.2 _ uw_X10_141) (fun _ h9 => h9) rfl hd k
/-- BandMillModel.written := -/
theorem rp_X10_141 {x : Int32} (C : cX z p m c cc nL s args RX10) (h : hH z v sc ar s H locs) (hd : decode cc pc = .ok (.putfield 141, 3)) (k : ∀ (H1 : Heap) (locs1 : List Loc), hH z v (va_up sc 31 x) ar s H1 locs1 → W p l e R s m args below meth c H1 locs1 cells slots Q (F0 m (pc + 3) ls rest)) : W p l e R s m args below meth c H locs cells slots Q (F0 m pc ls (.int x :: .ref (zad z 27) :: rest)) :=
  va_put (D := zD z) (ci := 9) (ty := .int) (C := RX10) (T := TX10) (N := 40) (v := .int x) C.1.1 C.1.2.1 C.1.2.2.2.2 iX10 tyX10 tyX10_ok nmX10 C.1.2.2.2.1 C.2.1 h.1.1 h.1.2 h.2 27 rfl rfl 24 (by decide) (C.1.2.2.2.2 _ uw_X10_141) (fun _ h9 => h9) rfl (by decide +kernel) rfl rfl (Nat.le_of_ble_eq_true rfl) hd (fun H1 locs1 hP hD hS => k H1 locs1 ⟨⟨hP, hD⟩, hS⟩)
/-- BandMillModel.tasks -/
theorem rg_X10_144 (C : cX z p m c cc nL s args RX10) (h : hH z v sc ar s H locs) (hd : decode cc pc = .ok (.getfield 144, 3)) (k : W p l e R s m args below meth c H locs cells slots Q (F0 m (pc + 3) ls (.int (sc 30) :: rest))) : W p l e R s m args below meth c H locs cells slots Q (F0 m pc ls (.ref (zad z 27) :: rest)) :=
  va_get (D := zD z) (ci := 9) (C := RX10) (T := TX10) (N := 40) (v := .int (sc 30)) C.1.1 C.1.2.1 C.1.2.2.2.2 iX10 C.1.2.2.2.1 C.2.1 h.1.1 27 rfl rfl 22 (by decide) (C.1.2.2.2.2 _ uw_X10_144) (fun _ h9 => h9) rfl hd k
/-- BandMillModel.tasks := -/
theorem rp_X10_144 {x : Int32} (C : cX z p m c cc nL s args RX10) (h : hH z v sc ar s H locs) (hd : decode cc pc = .ok (.putfield 144, 3)) (k : ∀ (H1 : Heap) (locs1 : List Loc), hH z v (va_up sc 30 x) ar s H1 locs1 → W p l e R s m args below meth c H1 locs1 cells slots Q (F0 m (pc + 3) ls rest)) : W p l e R s m args below meth c H locs cells slots Q (F0 m pc ls (.int x :: .ref (zad z 27) :: rest)) :=
  va_put (D := zD z) (ci := 9) (ty := .int) (C := RX10) (T := TX10) (N := 40) (v := .int x) C.1.1 C.1.2.1 C.1.2.2.2.2 iX10 tyX10 tyX10_ok nmX10 C.1.2.2.2.1 C.2.1 h.1.1 h.1.2 h.2 27 rfl rfl 22 (by decide) (C.1.2.2.2.2 _ uw_X10_144) (fun _ h9 => h9) rfl (by decide +kernel) rfl rfl (Nat.le_of_ble_eq_true rfl) hd (fun H1 locs1 hP hD hS => k H1 locs1 ⟨⟨hP, hD⟩, hS⟩)
/-- BandMillModel.used -/
theorem rg_X10_147 (C : cX z p m c cc nL s args RX10) (h : hH z v sc ar s H locs) (hd : decode cc pc = .ok (.getfield 147, 3)) (k : W p l e R s m args below meth c H locs cells slots Q (F0 m (pc + 3) ls (.int (sc 29) :: rest))) : W p l e R s m args below meth c H locs cells slots Q (F0 m pc ls (.ref (zad z 27) :: rest)) :=
  va_get (D := zD z) (ci := 9) (C := RX10) (T := TX10) (N := 40) (v := .int (sc 29)) C.1.1 C.1.2.1 C.1.2.2.2.2 iX10 C.1.2.2.2.1 C.2.1 h.1.1 27 rfl rfl 18 (by decide) (C.1.2.2.2.2 _ uw_X10_147) (fun _ h9 => h9) rfl hd k
/-- BandMillModel.used := -/
theorem rp_X10_147 {x : Int32} (C : cX z p m c cc nL s args RX10) (h : hH z v sc ar s H locs) (hd : decode cc pc = .ok (.putfield 147, 3)) (k : ∀ (H1 : Heap) (locs1 : List Loc), hH z v (va_up sc 29 x) ar s H1 locs1 → W p l e R s m args below meth c H1 locs1 cells slots Q (F0 m (pc + 3) ls rest)) : W p l e R s m args below meth c H locs cells slots Q (F0 m pc ls (.int x :: .ref (zad z 27) :: rest)) :=
  va_put (D := zD z) (ci := 9) (ty := .int) (C := RX10) (T := TX10) (N := 40) (v := .int x) C.1.1 C.1.2.1 C.1.2.2.2.2 iX10 tyX10 tyX10_ok nmX10 C.1.2.2.2.1 C.2.1 h.1.1 h.1.2 h.2 27 rfl rfl 18 (by decide) (C.1.2.2.2.2 _ uw_X10_147) (fun _ h9 => h9) rfl (by decide +kernel) rfl rfl (Nat.le_of_ble_eq_true rfl) hd (fun H1 locs1 hP hD hS => k H1 locs1 ⟨⟨hP, hD⟩, hS⟩)
/-- BandMillModel.length -/
theorem rg_X10_168 (C : cX z p m c cc nL s args RX10) (h : hH z v sc ar s H locs) (hd : decode cc pc = .ok (.getfield 168, 3)) (k : W p l e R s m args below meth c H locs cells slots Q (F0 m (pc + 3) ls (.int (sc 23) :: rest))) : W p l e R s m args below meth c H locs cells slots Q (F0 m pc ls (.ref (zad z 27) :: rest)) :=
  va_get (D := zD z) (ci := 9) (C := RX10) (T := TX10) (N := 40) (v := .int (sc 23)) C.1.1 C.1.2.1 C.1.2.2.2.2 iX10 C.1.2.2.2.1 C.2.1 h.1.1 27 rfl rfl 10 (by decide) (C.1.2.2.2.2 _ uw_X10_168) (fun _ h9 => h9) rfl hd k
/-- BandMillModel.length := -/
theorem rp_X10_168 {x : Int32} (C : cX z p m c cc nL s args RX10) (h : hH z v sc ar s H locs) (hd : decode cc pc = .ok (.putfield 168, 3)) (k : ∀ (H1 : Heap) (locs1 : List Loc), hH z v (va_up sc 23 x) ar s H1 locs1 → W p l e R s m args below meth c H1 locs1 cells slots Q (F0 m (pc + 3) ls rest)) : W p l e R s m args below meth c H locs cells slots Q (F0 m pc ls (.int x :: .ref (zad z 27) :: rest)) :=
  va_put (D := zD z) (ci := 9) (ty := .int) (C := RX10) (T := TX10) (N := 40) (v := .int x) C.1.1 C.1.2.1 C.1.2.2.2.2 iX10 tyX10 tyX10_ok nmX10 C.1.2.2.2.1 C.2.1 h.1.1 h.1.2 h.2 27 rfl rfl 10 (by decide) (C.1.2.2.2.2 _ uw_X10_168) (fun _ h9 => h9) rfl (by decide +kernel) rfl rfl (Nat.le_of_ble_eq_true rfl) hd (fun H1 locs1 hP hD hS => k H1 locs1 ⟨⟨hP, hD⟩, hS⟩)
/-- BandMillModel.fault -/
theorem rg_X10_171 (C : cX z p m c cc nL s args RX10) (h : hH z v sc ar s H locs) (hd : decode cc pc = .ok (.getfield 171, 3)) (k : W p l e R s m args below meth c H locs cells slots Q (F0 m (pc + 3) ls (.int (sc 33) :: rest))) : W p l e R s m args below meth c H locs cells slots Q (F0 m pc ls (.ref (zad z 27) :: rest)) :=
  va_get (D := zD z) (ci := 9) (C := RX10) (T := TX10) (N := 40) (v := .int (sc 33)) C.1.1 C.1.2.1 C.1.2.2.2.2 iX10 C.1.2.2.2.1 C.2.1 h.1.1 27 rfl rfl 36 (by decide) (C.1.2.2.2.2 _ uw_X10_171) (fun _ h9 => h9) rfl hd k
/-- BandMillModel.fault := -/
theorem rp_X10_171 {x : Int32} (C : cX z p m c cc nL s args RX10) (h : hH z v sc ar s H locs) (hd : decode cc pc = .ok (.putfield 171, 3)) (k : ∀ (H1 : Heap) (locs1 : List Loc), hH z v (va_up sc 33 x) ar s H1 locs1 → W p l e R s m args below meth c H1 locs1 cells slots Q (F0 m (pc + 3) ls rest)) : W p l e R s m args below meth c H locs cells slots Q (F0 m pc ls (.int x :: .ref (zad z 27) :: rest)) :=
  va_put (D := zD z) (ci := 9) (ty := .int) (C := RX10) (T := TX10) (N := 40) (v := .int x) C.1.1 C.1.2.1 C.1.2.2.2.2 iX10 tyX10 tyX10_ok nmX10 C.1.2.2.2.1 C.2.1 h.1.1 h.1.2 h.2 27 rfl rfl 36 (by decide) (C.1.2.2.2.2 _ uw_X10_171) (fun _ h9 => h9) rfl (by decide +kernel) rfl rfl (Nat.le_of_ble_eq_true rfl) hd (fun H1 locs1 hP hD hS => k H1 locs1 ⟨⟨hP, hD⟩, hS⟩)
/-- BandMillModel.faultAt -/
theorem rg_X10_174 (C : cX z p m c cc nL s args RX10) (h : hH z v sc ar s H locs) (hd : decode cc pc = .ok (.getfield 174, 3)) (k : W p l e R s m args below meth c H locs cells slots Q (F0 m (pc + 3) ls (.int (sc 34) :: rest))) : W p l e R s m args below meth c H locs cells slots Q (F0 m pc ls (.ref (zad z 27) :: rest)) :=
  va_get (D := zD z) (ci := 9) (C := RX10) (T := TX10) (N := 40) (v := .int (sc 34)) C.1.1 C.1.2.1 C.1.2.2.2.2 iX10 C.1.2.2.2.1 C.2.1 h.1.1 27 rfl rfl 37 (by decide) (C.1.2.2.2.2 _ uw_X10_174) (fun _ h9 => h9) rfl hd k
/-- BandMillModel.faultAt := -/
theorem rp_X10_174 {x : Int32} (C : cX z p m c cc nL s args RX10) (h : hH z v sc ar s H locs) (hd : decode cc pc = .ok (.putfield 174, 3)) (k : ∀ (H1 : Heap) (locs1 : List Loc), hH z v (va_up sc 34 x) ar s H1 locs1 → W p l e R s m args below meth c H1 locs1 cells slots Q (F0 m (pc + 3) ls rest)) : W p l e R s m args below meth c H locs cells slots Q (F0 m pc ls (.int x :: .ref (zad z 27) :: rest)) :=
  va_put (D := zD z) (ci := 9) (ty := .int) (C := RX10) (T := TX10) (N := 40) (v := .int x) C.1.1 C.1.2.1 C.1.2.2.2.2 iX10 tyX10 tyX10_ok nmX10 C.1.2.2.2.1 C.2.1 h.1.1 h.1.2 h.2 27 rfl rfl 37 (by decide) (C.1.2.2.2.2 _ uw_X10_174) (fun _ h9 => h9) rfl (by decide +kernel) rfl rfl (Nat.le_of_ble_eq_true rfl) hd (fun H1 locs1 hP hD hS => k H1 locs1 ⟨⟨hP, hD⟩, hS⟩)
/-- BandMillModel.at -/
theorem rg_X10_177 (C : cX z p m c cc nL s args RX10) (h : hH z v sc ar s H locs) (hd : decode cc pc = .ok (.getfield 177, 3)) (k : W p l e R s m args below meth c H locs cells slots Q (F0 m (pc + 3) ls (.int (sc 32) :: rest))) : W p l e R s m args below meth c H locs cells slots Q (F0 m pc ls (.ref (zad z 27) :: rest)) :=
  va_get (D := zD z) (ci := 9) (C := RX10) (T := TX10) (N := 40) (v := .int (sc 32)) C.1.1 C.1.2.1 C.1.2.2.2.2 iX10 C.1.2.2.2.1 C.2.1 h.1.1 27 rfl rfl 35 (by decide) (C.1.2.2.2.2 _ uw_X10_177) (fun _ h9 => h9) rfl hd k
/-- BandMillModel.at := -/
theorem rp_X10_177 {x : Int32} (C : cX z p m c cc nL s args RX10) (h : hH z v sc ar s H locs) (hd : decode cc pc = .ok (.putfield 177, 3)) (k : ∀ (H1 : Heap) (locs1 : List Loc), hH z v (va_up sc 32 x) ar s H1 locs1 → W p l e R s m args below meth c H1 locs1 cells slots Q (F0 m (pc + 3) ls rest)) : W p l e R s m args below meth c H locs cells slots Q (F0 m pc ls (.int x :: .ref (zad z 27) :: rest)) :=
  va_put (D := zD z) (ci := 9) (ty := .int) (C := RX10) (T := TX10) (N := 40) (v := .int x) C.1.1 C.1.2.1 C.1.2.2.2.2 iX10 tyX10 tyX10_ok nmX10 C.1.2.2.2.1 C.2.1 h.1.1 h.1.2 h.2 27 rfl rfl 35 (by decide) (C.1.2.2.2.2 _ uw_X10_177) (fun _ h9 => h9) rfl (by decide +kernel) rfl rfl (Nat.le_of_ble_eq_true rfl) hd (fun H1 locs1 hP hD hS => k H1 locs1 ⟨⟨hP, hD⟩, hS⟩)
/-- BandMillModel.reading -/
theorem rg_X10_186 (C : cX z p m c cc nL s args RX10) (h : hH z v sc ar s H locs) (hd : decode cc pc = .ok (.getfield 186, 3)) (k : W p l e R s m args below meth c H locs cells slots Q (F0 m (pc + 3) ls (.int (sc 24) :: rest))) : W p l e R s m args below meth c H locs cells slots Q (F0 m pc ls (.ref (zad z 27) :: rest)) :=
  va_get (D := zD z) (ci := 9) (C := RX10) (T := TX10) (N := 40) (v := .int (sc 24)) C.1.1 C.1.2.1 C.1.2.2.2.2 iX10 C.1.2.2.2.1 C.2.1 h.1.1 27 rfl rfl 11 (by decide) (C.1.2.2.2.2 _ uw_X10_186) (fun _ h9 => h9) rfl hd k
/-- BandMillModel.reading := -/
theorem rp_X10_186 {x : Int32} (C : cX z p m c cc nL s args RX10) (h : hH z v sc ar s H locs) (hd : decode cc pc = .ok (.putfield 186, 3)) (k : ∀ (H1 : Heap) (locs1 : List Loc), hH z v (va_up sc 24 x) ar s H1 locs1 → W p l e R s m args below meth c H1 locs1 cells slots Q (F0 m (pc + 3) ls rest)) : W p l e R s m args below meth c H locs cells slots Q (F0 m pc ls (.int x :: .ref (zad z 27) :: rest)) :=
  va_put (D := zD z) (ci := 9) (ty := .int) (C := RX10) (T := TX10) (N := 40) (v := .int x) C.1.1 C.1.2.1 C.1.2.2.2.2 iX10 tyX10 tyX10_ok nmX10 C.1.2.2.2.1 C.2.1 h.1.1 h.1.2 h.2 27 rfl rfl 11 (by decide) (C.1.2.2.2.2 _ uw_X10_186) (fun _ h9 => h9) rfl (by decide +kernel) rfl rfl (Nat.le_of_ble_eq_true rfl) hd (fun H1 locs1 hP hD hS => k H1 locs1 ⟨⟨hP, hD⟩, hS⟩)
/-- BandMill$Desk.frames -/
theorem rg_X2_27 (C : cX z p m c cc nL s args RX2) (h : hH z v sc ar s H locs) (hd : decode cc pc = .ok (.getfield 27, 3)) (k : W p l e R s m args below meth c H locs cells slots Q (F0 m (pc + 3) ls (.ref (zad z 10) :: rest))) : W p l e R s m args below meth c H locs cells slots Q (F0 m pc ls (.ref (zad z 1) :: rest)) :=
  va_get (D := zD z) (ci := 2) (C := RX2) (T := TX2) (N := 3) (v := .ref (zad z 10)) C.1.1 C.1.2.1 C.1.2.2.2.2 iX2 C.1.2.2.2.1 C.2.1 h.1.1 1 rfl rfl 2 (by decide) (C.1.2.2.2.2 _ uw_X2_27) (fun _ h9 => h9) rfl hd k
/-- BandMill$Desk.frames -/
theorem rg_X4_25 (C : cX z p m c cc nL s args RX4) (h : hH z v sc ar s H locs) (hd : decode cc pc = .ok (.getfield 25, 3)) (k : W p l e R s m args below meth c H locs cells slots Q (F0 m (pc + 3) ls (.ref (zad z 10) :: rest))) : W p l e R s m args below meth c H locs cells slots Q (F0 m pc ls (.ref (zad z 1) :: rest)) :=
  va_getN (D := zD z) (ci := 2) (C := RX2) (T := TX2) (N := 3) (v := .ref (zad z 10)) C.1.1 C.1.2.1 C.1.2.2.2.2 iX2 C.1.2.2.2.1 C.2.1 h.1.1 1 rfl rfl 2 (by decide) (va_Nw.use rfl (C.2.2.2.1 _ (List.mem_of_getElem? (i := 13) rfl))) (fun _ h9 => h9) rfl hd k
/-- BandMill$Desk.census -/
theorem rg_X4_34 (C : cX z p m c cc nL s args RX4) (h : hH z v sc ar s H locs) (hd : decode cc pc = .ok (.getfield 34, 3)) (k : W p l e R s m args below meth c H locs cells slots Q (F0 m (pc + 3) ls (.ref (zad z 3) :: rest))) : W p l e R s m args below meth c H locs cells slots Q (F0 m pc ls (.ref (zad z 1) :: rest)) :=
  va_getN (D := zD z) (ci := 2) (C := RX2) (T := TX2) (N := 3) (v := .ref (zad z 3)) C.1.1 C.1.2.1 C.1.2.2.2.2 iX2 C.1.2.2.2.1 C.2.1 h.1.1 1 rfl rfl 1 (by decide) (va_Nw.use rfl (C.2.2.2.1 _ (List.mem_of_getElem? (i := 14) rfl))) (fun _ h9 => h9) rfl hd k
/-- BandMill$Desk.tape -/
theorem rg_X4_61 (C : cX z p m c cc nL s args RX4) (h : hH z v sc ar s H locs) (hd : decode cc pc = .ok (.getfield 61, 3)) (k : W p l e R s m args below meth c H locs cells slots Q (F0 m (pc + 3) ls (.ref (zad z 2) :: rest))) : W p l e R s m args below meth c H locs cells slots Q (F0 m pc ls (.ref (zad z 1) :: rest)) :=
  va_getN (D := zD z) (ci := 2) (C := RX2) (T := TX2) (N := 3) (v := .ref (zad z 2)) C.1.1 C.1.2.1 C.1.2.2.2.2 iX2 C.1.2.2.2.1 C.2.1 h.1.1 1 rfl rfl 0 (by decide) (va_Nw.use rfl (C.2.2.2.1 _ (List.mem_of_getElem? (i := 17) rfl))) (fun _ h9 => h9) rfl hd k
/-- BandMill$Tape.cursor -/
theorem rg_X4_65 (C : cX z p m c cc nL s args RX4) (h : hH z v sc ar s H locs) (hd : decode cc pc = .ok (.getfield 65, 3)) (k : W p l e R s m args below meth c H locs cells slots Q (F0 m (pc + 3) ls (.int (sc 6) :: rest))) : W p l e R s m args below meth c H locs cells slots Q (F0 m pc ls (.ref (zad z 2) :: rest)) :=
  va_getN (D := zD z) (ci := 7) (C := RX7) (T := TX7) (N := 7) (v := .int (sc 6)) C.1.1 C.1.2.1 C.1.2.2.2.2 iX7 C.1.2.2.2.1 C.2.1 h.1.1 2 rfl rfl 4 (by decide) (va_Nw.use rfl (C.2.2.2.1 _ (List.mem_of_getElem? (i := 18) rfl))) (fun _ h9 => h9) rfl hd k
/-- BandMill$RunSearch.heads -/
theorem rg_X6_9 (C : cX z p m c cc nL s args RX6) (h : hH z v sc ar s H locs) (hd : decode cc pc = .ok (.getfield 9, 3)) (k : W p l e R s m args below meth c H locs cells slots Q (F0 m (pc + 3) ls (.ref (zad z 17) :: rest))) : W p l e R s m args below meth c H locs cells slots Q (F0 m pc ls (.ref (zad z 4) :: rest)) :=
  va_get (D := zD z) (ci := 6) (C := RX6) (T := TX6) (N := 6) (v := .ref (zad z 17)) C.1.1 C.1.2.1 C.1.2.2.2.2 iX6 C.1.2.2.2.1 C.2.1 h.1.1 4 rfl rfl 0 (by decide) (C.1.2.2.2.2 _ uw_X6_9) (fun _ h9 => h9) rfl hd k
/-- BandMill$RunSearch.tails -/
theorem rg_X6_15 (C : cX z p m c cc nL s args RX6) (h : hH z v sc ar s H locs) (hd : decode cc pc = .ok (.getfield 15, 3)) (k : W p l e R s m args below meth c H locs cells slots Q (F0 m (pc + 3) ls (.ref (zad z 18) :: rest))) : W p l e R s m args below meth c H locs cells slots Q (F0 m pc ls (.ref (zad z 4) :: rest)) :=
  va_get (D := zD z) (ci := 6) (C := RX6) (T := TX6) (N := 6) (v := .ref (zad z 18)) C.1.1 C.1.2.1 C.1.2.2.2.2 iX6 C.1.2.2.2.1 C.2.1 h.1.1 4 rfl rfl 1 (by decide) (C.1.2.2.2.2 _ uw_X6_15) (fun _ h9 => h9) rfl hd k
/-- BandMill$RunSearch.count -/
theorem rg_X6_18 (C : cX z p m c cc nL s args RX6) (h : hH z v sc ar s H locs) (hd : decode cc pc = .ok (.getfield 18, 3)) (k : W p l e R s m args below meth c H locs cells slots Q (F0 m (pc + 3) ls (.int (sc 11) :: rest))) : W p l e R s m args below meth c H locs cells slots Q (F0 m pc ls (.ref (zad z 4) :: rest)) :=
  va_get (D := zD z) (ci := 6) (C := RX6) (T := TX6) (N := 6) (v := .int (sc 11)) C.1.1 C.1.2.1 C.1.2.2.2.2 iX6 C.1.2.2.2.1 C.2.1 h.1.1 4 rfl rfl 2 (by decide) (C.1.2.2.2.2 _ uw_X6_18) (fun _ h9 => h9) rfl hd k
/-- BandMill$RunSearch.count := -/
theorem rp_X6_18 {x : Int32} (C : cX z p m c cc nL s args RX6) (h : hH z v sc ar s H locs) (hd : decode cc pc = .ok (.putfield 18, 3)) (k : ∀ (H1 : Heap) (locs1 : List Loc), hH z v (va_up sc 11 x) ar s H1 locs1 → W p l e R s m args below meth c H1 locs1 cells slots Q (F0 m (pc + 3) ls rest)) : W p l e R s m args below meth c H locs cells slots Q (F0 m pc ls (.int x :: .ref (zad z 4) :: rest)) :=
  va_put (D := zD z) (ci := 6) (ty := .int) (C := RX6) (T := TX6) (N := 6) (v := .int x) C.1.1 C.1.2.1 C.1.2.2.2.2 iX6 tyX6 tyX6_ok nmX6 C.1.2.2.2.1 C.2.1 h.1.1 h.1.2 h.2 4 rfl rfl 2 (by decide) (C.1.2.2.2.2 _ uw_X6_18) (fun _ h9 => h9) rfl (by decide +kernel) rfl rfl (Nat.le_of_ble_eq_true rfl) hd (fun H1 locs1 hP hD hS => k H1 locs1 ⟨⟨hP, hD⟩, hS⟩)
/-- BandMill$RunSearch.chosenN := -/
theorem rp_X6_22 {x : Int32} (C : cX z p m c cc nL s args RX6) (h : hH z v sc ar s H locs) (hd : decode cc pc = .ok (.putfield 22, 3)) (k : ∀ (H1 : Heap) (locs1 : List Loc), hH z v (va_up sc 12 x) ar s H1 locs1 → W p l e R s m args below meth c H1 locs1 cells slots Q (F0 m (pc + 3) ls rest)) : W p l e R s m args below meth c H locs cells slots Q (F0 m pc ls (.int x :: .ref (zad z 4) :: rest)) :=
  va_put (D := zD z) (ci := 6) (ty := .int) (C := RX6) (T := TX6) (N := 6) (v := .int x) C.1.1 C.1.2.1 C.1.2.2.2.2 iX6 tyX6 tyX6_ok nmX6 C.1.2.2.2.1 C.2.1 h.1.1 h.1.2 h.2 4 rfl rfl 3 (by decide) (C.1.2.2.2.2 _ uw_X6_22) (fun _ h9 => h9) rfl (by decide +kernel) rfl rfl (Nat.le_of_ble_eq_true rfl) hd (fun H1 locs1 hP hD hS => k H1 locs1 ⟨⟨hP, hD⟩, hS⟩)
/-- BandMill$RunSearch.chosenFirst := -/
theorem rp_X6_25 {x : Int32} (C : cX z p m c cc nL s args RX6) (h : hH z v sc ar s H locs) (hd : decode cc pc = .ok (.putfield 25, 3)) (k : ∀ (H1 : Heap) (locs1 : List Loc), hH z v (va_up sc 13 x) ar s H1 locs1 → W p l e R s m args below meth c H1 locs1 cells slots Q (F0 m (pc + 3) ls rest)) : W p l e R s m args below meth c H locs cells slots Q (F0 m pc ls (.int x :: .ref (zad z 4) :: rest)) :=
  va_put (D := zD z) (ci := 6) (ty := .int) (C := RX6) (T := TX6) (N := 6) (v := .int x) C.1.1 C.1.2.1 C.1.2.2.2.2 iX6 tyX6 tyX6_ok nmX6 C.1.2.2.2.1 C.2.1 h.1.1 h.1.2 h.2 4 rfl rfl 4 (by decide) (C.1.2.2.2.2 _ uw_X6_25) (fun _ h9 => h9) rfl (by decide +kernel) rfl rfl (Nat.le_of_ble_eq_true rfl) hd (fun H1 locs1 hP hD hS => k H1 locs1 ⟨⟨hP, hD⟩, hS⟩)
/-- BandMill$RunSearch.chosenOther := -/
theorem rp_X6_28 {x : Int32} (C : cX z p m c cc nL s args RX6) (h : hH z v sc ar s H locs) (hd : decode cc pc = .ok (.putfield 28, 3)) (k : ∀ (H1 : Heap) (locs1 : List Loc), hH z v (va_up sc 14 x) ar s H1 locs1 → W p l e R s m args below meth c H1 locs1 cells slots Q (F0 m (pc + 3) ls rest)) : W p l e R s m args below meth c H locs cells slots Q (F0 m pc ls (.int x :: .ref (zad z 4) :: rest)) :=
  va_put (D := zD z) (ci := 6) (ty := .int) (C := RX6) (T := TX6) (N := 6) (v := .int x) C.1.1 C.1.2.1 C.1.2.2.2.2 iX6 tyX6 tyX6_ok nmX6 C.1.2.2.2.1 C.2.1 h.1.1 h.1.2 h.2 4 rfl rfl 5 (by decide) (C.1.2.2.2.2 _ uw_X6_28) (fun _ h9 => h9) rfl (by decide +kernel) rfl rfl (Nat.le_of_ble_eq_true rfl) hd (fun H1 locs1 hP hD hS => k H1 locs1 ⟨⟨hP, hD⟩, hS⟩)
/-- BandMill$Tape.bytes -/
theorem rg_X7_9 (C : cX z p m c cc nL s args RX7) (h : hH z v sc ar s H locs) (hd : decode cc pc = .ok (.getfield 9, 3)) (k : W p l e R s m args below meth c H locs cells slots Q (F0 m (pc + 3) ls (.ref (zad z 11) :: rest))) : W p l e R s m args below meth c H locs cells slots Q (F0 m pc ls (.ref (zad z 2) :: rest)) :=
  va_get (D := zD z) (ci := 7) (C := RX7) (T := TX7) (N := 7) (v := .ref (zad z 11)) C.1.1 C.1.2.1 C.1.2.2.2.2 iX7 C.1.2.2.2.1 C.2.1 h.1.1 2 rfl rfl 0 (by decide) (C.1.2.2.2.2 _ uw_X7_9) (fun _ h9 => h9) rfl hd k
/-- BandMill$Tape.length -/
theorem rg_X7_15 (C : cX z p m c cc nL s args RX7) (h : hH z v sc ar s H locs) (hd : decode cc pc = .ok (.getfield 15, 3)) (k : W p l e R s m args below meth c H locs cells slots Q (F0 m (pc + 3) ls (.int (sc 3) :: rest))) : W p l e R s m args below meth c H locs cells slots Q (F0 m pc ls (.ref (zad z 2) :: rest)) :=
  va_get (D := zD z) (ci := 7) (C := RX7) (T := TX7) (N := 7) (v := .int (sc 3)) C.1.1 C.1.2.1 C.1.2.2.2.2 iX7 C.1.2.2.2.1 C.2.1 h.1.1 2 rfl rfl 1 (by decide) (C.1.2.2.2.2 _ uw_X7_15) (fun _ h9 => h9) rfl hd k
/-- BandMill$Tape.length := -/
theorem rp_X7_15 {x : Int32} (C : cX z p m c cc nL s args RX7) (h : hH z v sc ar s H locs) (hd : decode cc pc = .ok (.putfield 15, 3)) (k : ∀ (H1 : Heap) (locs1 : List Loc), hH z v (va_up sc 3 x) ar s H1 locs1 → W p l e R s m args below meth c H1 locs1 cells slots Q (F0 m (pc + 3) ls rest)) : W p l e R s m args below meth c H locs cells slots Q (F0 m pc ls (.int x :: .ref (zad z 2) :: rest)) :=
  va_put (D := zD z) (ci := 7) (ty := .int) (C := RX7) (T := TX7) (N := 7) (v := .int x) C.1.1 C.1.2.1 C.1.2.2.2.2 iX7 tyX7 tyX7_ok nmX7 C.1.2.2.2.1 C.2.1 h.1.1 h.1.2 h.2 2 rfl rfl 1 (by decide) (C.1.2.2.2.2 _ uw_X7_15) (fun _ h9 => h9) rfl (by decide +kernel) rfl rfl (Nat.le_of_ble_eq_true rfl) hd (fun H1 locs1 hP hD hS => k H1 locs1 ⟨⟨hP, hD⟩, hS⟩)
/-- BandMill$Tape.readFrom -/
theorem rg_X7_19 (C : cX z p m c cc nL s args RX7) (h : hH z v sc ar s H locs) (hd : decode cc pc = .ok (.getfield 19, 3)) (k : W p l e R s m args below meth c H locs cells slots Q (F0 m (pc + 3) ls (.int (sc 4) :: rest))) : W p l e R s m args below meth c H locs cells slots Q (F0 m pc ls (.ref (zad z 2) :: rest)) :=
  va_get (D := zD z) (ci := 7) (C := RX7) (T := TX7) (N := 7) (v := .int (sc 4)) C.1.1 C.1.2.1 C.1.2.2.2.2 iX7 C.1.2.2.2.1 C.2.1 h.1.1 2 rfl rfl 2 (by decide) (C.1.2.2.2.2 _ uw_X7_19) (fun _ h9 => h9) rfl hd k
/-- BandMill$Tape.readFrom := -/
theorem rp_X7_19 {x : Int32} (C : cX z p m c cc nL s args RX7) (h : hH z v sc ar s H locs) (hd : decode cc pc = .ok (.putfield 19, 3)) (k : ∀ (H1 : Heap) (locs1 : List Loc), hH z v (va_up sc 4 x) ar s H1 locs1 → W p l e R s m args below meth c H1 locs1 cells slots Q (F0 m (pc + 3) ls rest)) : W p l e R s m args below meth c H locs cells slots Q (F0 m pc ls (.int x :: .ref (zad z 2) :: rest)) :=
  va_put (D := zD z) (ci := 7) (ty := .int) (C := RX7) (T := TX7) (N := 7) (v := .int x) C.1.1 C.1.2.1 C.1.2.2.2.2 iX7 tyX7 tyX7_ok nmX7 C.1.2.2.2.1 C.2.1 h.1.1 h.1.2 h.2 2 rfl rfl 2 (by decide) (C.1.2.2.2.2 _ uw_X7_19) (fun _ h9 => h9) rfl (by decide +kernel) rfl rfl (Nat.le_of_ble_eq_true rfl) hd (fun H1 locs1 hP hD hS => k H1 locs1 ⟨⟨hP, hD⟩, hS⟩)
/-- BandMill$Tape.drafted -/
theorem rg_X7_22 (C : cX z p m c cc nL s args RX7) (h : hH z v sc ar s H locs) (hd : decode cc pc = .ok (.getfield 22, 3)) (k : W p l e R s m args below meth c H locs cells slots Q (F0 m (pc + 3) ls (.int (sc 5) :: rest))) : W p l e R s m args below meth c H locs cells slots Q (F0 m pc ls (.ref (zad z 2) :: rest)) :=
  va_get (D := zD z) (ci := 7) (C := RX7) (T := TX7) (N := 7) (v := .int (sc 5)) C.1.1 C.1.2.1 C.1.2.2.2.2 iX7 C.1.2.2.2.1 C.2.1 h.1.1 2 rfl rfl 3 (by decide) (C.1.2.2.2.2 _ uw_X7_22) (fun _ h9 => h9) rfl hd k
/-- BandMill$Tape.drafted := -/
theorem rp_X7_22 {x : Int32} (C : cX z p m c cc nL s args RX7) (h : hH z v sc ar s H locs) (hd : decode cc pc = .ok (.putfield 22, 3)) (k : ∀ (H1 : Heap) (locs1 : List Loc), hH z v (va_up sc 5 x) ar s H1 locs1 → W p l e R s m args below meth c H1 locs1 cells slots Q (F0 m (pc + 3) ls rest)) : W p l e R s m args below meth c H locs cells slots Q (F0 m pc ls (.int x :: .ref (zad z 2) :: rest)) :=
  va_put (D := zD z) (ci := 7) (ty := .int) (C := RX7) (T := TX7) (N := 7) (v := .int x) C.1.1 C.1.2.1 C.1.2.2.2.2 iX7 tyX7 tyX7_ok nmX7 C.1.2.2.2.1 C.2.1 h.1.1 h.1.2 h.2 2 rfl rfl 3 (by decide) (C.1.2.2.2.2 _ uw_X7_22) (fun _ h9 => h9) rfl (by decide +kernel) rfl rfl (Nat.le_of_ble_eq_true rfl) hd (fun H1 locs1 hP hD hS => k H1 locs1 ⟨⟨hP, hD⟩, hS⟩)
/-- BandMill$Tape.cursor -/
theorem rg_X7_25 (C : cX z p m c cc nL s args RX7) (h : hH z v sc ar s H locs) (hd : decode cc pc = .ok (.getfield 25, 3)) (k : W p l e R s m args below meth c H locs cells slots Q (F0 m (pc + 3) ls (.int (sc 6) :: rest))) : W p l e R s m args below meth c H locs cells slots Q (F0 m pc ls (.ref (zad z 2) :: rest)) :=
  va_get (D := zD z) (ci := 7) (C := RX7) (T := TX7) (N := 7) (v := .int (sc 6)) C.1.1 C.1.2.1 C.1.2.2.2.2 iX7 C.1.2.2.2.1 C.2.1 h.1.1 2 rfl rfl 4 (by decide) (C.1.2.2.2.2 _ uw_X7_25) (fun _ h9 => h9) rfl hd k
/-- BandMill$Tape.cursor := -/
theorem rp_X7_25 {x : Int32} (C : cX z p m c cc nL s args RX7) (h : hH z v sc ar s H locs) (hd : decode cc pc = .ok (.putfield 25, 3)) (k : ∀ (H1 : Heap) (locs1 : List Loc), hH z v (va_up sc 6 x) ar s H1 locs1 → W p l e R s m args below meth c H1 locs1 cells slots Q (F0 m (pc + 3) ls rest)) : W p l e R s m args below meth c H locs cells slots Q (F0 m pc ls (.int x :: .ref (zad z 2) :: rest)) :=
  va_put (D := zD z) (ci := 7) (ty := .int) (C := RX7) (T := TX7) (N := 7) (v := .int x) C.1.1 C.1.2.1 C.1.2.2.2.2 iX7 tyX7 tyX7_ok nmX7 C.1.2.2.2.1 C.2.1 h.1.1 h.1.2 h.2 2 rfl rfl 4 (by decide) (C.1.2.2.2.2 _ uw_X7_25) (fun _ h9 => h9) rfl (by decide +kernel) rfl rfl (Nat.le_of_ble_eq_true rfl) hd (fun H1 locs1 hP hD hS => k H1 locs1 ⟨⟨hP, hD⟩, hS⟩)
/-- BandMill$Tape.fault := -/
theorem rp_X7_28 {x : Int32} (C : cX z p m c cc nL s args RX7) (h : hH z v sc ar s H locs) (hd : decode cc pc = .ok (.putfield 28, 3)) (k : ∀ (H1 : Heap) (locs1 : List Loc), hH z v (va_up sc 7 x) ar s H1 locs1 → W p l e R s m args below meth c H1 locs1 cells slots Q (F0 m (pc + 3) ls rest)) : W p l e R s m args below meth c H locs cells slots Q (F0 m pc ls (.int x :: .ref (zad z 2) :: rest)) :=
  va_put (D := zD z) (ci := 7) (ty := .int) (C := RX7) (T := TX7) (N := 7) (v := .int x) C.1.1 C.1.2.1 C.1.2.2.2.2 iX7 tyX7 tyX7_ok nmX7 C.1.2.2.2.1 C.2.1 h.1.1 h.1.2 h.2 2 rfl rfl 5 (by decide) (C.1.2.2.2.2 _ uw_X7_28) (fun _ h9 => h9) rfl (by decide +kernel) rfl rfl (Nat.le_of_ble_eq_true rfl) hd (fun H1 locs1 hP hD hS => k H1 locs1 ⟨⟨hP, hD⟩, hS⟩)
/-- BandMill$Tape.faultPlace := -/
theorem rp_X7_31 {x : Int32} (C : cX z p m c cc nL s args RX7) (h : hH z v sc ar s H locs) (hd : decode cc pc = .ok (.putfield 31, 3)) (k : ∀ (H1 : Heap) (locs1 : List Loc), hH z v (va_up sc 8 x) ar s H1 locs1 → W p l e R s m args below meth c H1 locs1 cells slots Q (F0 m (pc + 3) ls rest)) : W p l e R s m args below meth c H locs cells slots Q (F0 m pc ls (.int x :: .ref (zad z 2) :: rest)) :=
  va_put (D := zD z) (ci := 7) (ty := .int) (C := RX7) (T := TX7) (N := 7) (v := .int x) C.1.1 C.1.2.1 C.1.2.2.2.2 iX7 tyX7 tyX7_ok nmX7 C.1.2.2.2.1 C.2.1 h.1.1 h.1.2 h.2 2 rfl rfl 6 (by decide) (C.1.2.2.2.2 _ uw_X7_31) (fun _ h9 => h9) rfl (by decide +kernel) rfl rfl (Nat.le_of_ble_eq_true rfl) hd (fun H1 locs1 hP hD hS => k H1 locs1 ⟨⟨hP, hD⟩, hS⟩)
/-- BandMill.ways -/
theorem rg_X9_11 (C : cX z p m c cc nL s args RX9) (h : hH z v sc ar s H locs) (hd : decode cc pc = .ok (.getfield 11, 3)) (k : W p l e R s m args below meth c H locs cells slots Q (F0 m (pc + 3) ls (.ref (zad z 9) :: rest))) : W p l e R s m args below meth c H locs cells slots Q (F0 m pc ls (.ref (zad z 0) :: rest)) :=
  va_get (D := zD z) (ci := 8) (C := RX9) (T := TX9) (N := 8) (v := .ref (zad z 9)) C.1.1 C.1.2.1 C.1.2.2.2.2 iX9 C.1.2.2.2.1 C.2.1 h.1.1 0 rfl rfl 0 (by decide) (C.1.2.2.2.2 _ uw_X9_11) (fun _ h9 => h9) rfl hd k
/-- BandMill.wayCount -/
theorem rg_X9_15 (C : cX z p m c cc nL s args RX9) (h : hH z v sc ar s H locs) (hd : decode cc pc = .ok (.getfield 15, 3)) (k : W p l e R s m args below meth c H locs cells slots Q (F0 m (pc + 3) ls (.int (sc 0) :: rest))) : W p l e R s m args below meth c H locs cells slots Q (F0 m pc ls (.ref (zad z 0) :: rest)) :=
  va_get (D := zD z) (ci := 8) (C := RX9) (T := TX9) (N := 8) (v := .int (sc 0)) C.1.1 C.1.2.1 C.1.2.2.2.2 iX9 C.1.2.2.2.1 C.2.1 h.1.1 0 rfl rfl 1 (by decide) (C.1.2.2.2.2 _ uw_X9_15) (fun _ h9 => h9) rfl hd k
/-- BandMill.wayCount := -/
theorem rp_X9_15 {x : Int32} (C : cX z p m c cc nL s args RX9) (h : hH z v sc ar s H locs) (hd : decode cc pc = .ok (.putfield 15, 3)) (k : ∀ (H1 : Heap) (locs1 : List Loc), hH z v (va_up sc 0 x) ar s H1 locs1 → W p l e R s m args below meth c H1 locs1 cells slots Q (F0 m (pc + 3) ls rest)) : W p l e R s m args below meth c H locs cells slots Q (F0 m pc ls (.int x :: .ref (zad z 0) :: rest)) :=
  va_put (D := zD z) (ci := 8) (ty := .int) (C := RX9) (T := TX9) (N := 8) (v := .int x) C.1.1 C.1.2.1 C.1.2.2.2.2 iX9 tyX9 tyX9_ok nmX9 C.1.2.2.2.1 C.2.1 h.1.1 h.1.2 h.2 0 rfl rfl 1 (by decide) (C.1.2.2.2.2 _ uw_X9_15) (fun _ h9 => h9) rfl (by decide +kernel) rfl rfl (Nat.le_of_ble_eq_true rfl) hd (fun H1 locs1 hP hD hS => k H1 locs1 ⟨⟨hP, hD⟩, hS⟩)
/-- BandMill.numbers -/
theorem rg_X9_19 (C : cX z p m c cc nL s args RX9) (h : hH z v sc ar s H locs) (hd : decode cc pc = .ok (.getfield 19, 3)) (k : W p l e R s m args below meth c H locs cells slots Q (F0 m (pc + 3) ls (.ref (zad z 12) :: rest))) : W p l e R s m args below meth c H locs cells slots Q (F0 m pc ls (.ref (zad z 0) :: rest)) :=
  va_get (D := zD z) (ci := 8) (C := RX9) (T := TX9) (N := 8) (v := .ref (zad z 12)) C.1.1 C.1.2.1 C.1.2.2.2.2 iX9 C.1.2.2.2.1 C.2.1 h.1.1 0 rfl rfl 2 (by decide) (C.1.2.2.2.2 _ uw_X9_19) (fun _ h9 => h9) rfl hd k
/-- BandMill.numberCount -/
theorem rg_X9_23 (C : cX z p m c cc nL s args RX9) (h : hH z v sc ar s H locs) (hd : decode cc pc = .ok (.getfield 23, 3)) (k : W p l e R s m args below meth c H locs cells slots Q (F0 m (pc + 3) ls (.int (sc 1) :: rest))) : W p l e R s m args below meth c H locs cells slots Q (F0 m pc ls (.ref (zad z 0) :: rest)) :=
  va_get (D := zD z) (ci := 8) (C := RX9) (T := TX9) (N := 8) (v := .int (sc 1)) C.1.1 C.1.2.1 C.1.2.2.2.2 iX9 C.1.2.2.2.1 C.2.1 h.1.1 0 rfl rfl 3 (by decide) (C.1.2.2.2.2 _ uw_X9_23) (fun _ h9 => h9) rfl hd k
/-- BandMill.numberCount := -/
theorem rp_X9_23 {x : Int32} (C : cX z p m c cc nL s args RX9) (h : hH z v sc ar s H locs) (hd : decode cc pc = .ok (.putfield 23, 3)) (k : ∀ (H1 : Heap) (locs1 : List Loc), hH z v (va_up sc 1 x) ar s H1 locs1 → W p l e R s m args below meth c H1 locs1 cells slots Q (F0 m (pc + 3) ls rest)) : W p l e R s m args below meth c H locs cells slots Q (F0 m pc ls (.int x :: .ref (zad z 0) :: rest)) :=
  va_put (D := zD z) (ci := 8) (ty := .int) (C := RX9) (T := TX9) (N := 8) (v := .int x) C.1.1 C.1.2.1 C.1.2.2.2.2 iX9 tyX9 tyX9_ok nmX9 C.1.2.2.2.1 C.2.1 h.1.1 h.1.2 h.2 0 rfl rfl 3 (by decide) (C.1.2.2.2.2 _ uw_X9_23) (fun _ h9 => h9) rfl (by decide +kernel) rfl rfl (Nat.le_of_ble_eq_true rfl) hd (fun H1 locs1 hP hD hS => k H1 locs1 ⟨⟨hP, hD⟩, hS⟩)
/-- BandMill.unpacked -/
theorem rg_X9_26 (C : cX z p m c cc nL s args RX9) (h : hH z v sc ar s H locs) (hd : decode cc pc = .ok (.getfield 26, 3)) (k : W p l e R s m args below meth c H locs cells slots Q (F0 m (pc + 3) ls (.ref (zad z 13) :: rest))) : W p l e R s m args below meth c H locs cells slots Q (F0 m pc ls (.ref (zad z 0) :: rest)) :=
  va_get (D := zD z) (ci := 8) (C := RX9) (T := TX9) (N := 8) (v := .ref (zad z 13)) C.1.1 C.1.2.1 C.1.2.2.2.2 iX9 C.1.2.2.2.1 C.2.1 h.1.1 0 rfl rfl 4 (by decide) (C.1.2.2.2.2 _ uw_X9_26) (fun _ h9 => h9) rfl hd k
/-- BandMill.desk -/
theorem rg_X9_32 (C : cX z p m c cc nL s args RX9) (h : hH z v sc ar s H locs) (hd : decode cc pc = .ok (.getfield 32, 3)) (k : W p l e R s m args below meth c H locs cells slots Q (F0 m (pc + 3) ls (.ref (zad z 1) :: rest))) : W p l e R s m args below meth c H locs cells slots Q (F0 m pc ls (.ref (zad z 0) :: rest)) :=
  va_get (D := zD z) (ci := 8) (C := RX9) (T := TX9) (N := 8) (v := .ref (zad z 1)) C.1.1 C.1.2.1 C.1.2.2.2.2 iX9 C.1.2.2.2.1 C.2.1 h.1.1 0 rfl rfl 5 (by decide) (C.1.2.2.2.2 _ uw_X9_32) (fun _ h9 => h9) rfl hd k
/-- BandMill.search -/
theorem rg_X9_39 (C : cX z p m c cc nL s args RX9) (h : hH z v sc ar s H locs) (hd : decode cc pc = .ok (.getfield 39, 3)) (k : W p l e R s m args below meth c H locs cells slots Q (F0 m (pc + 3) ls (.ref (zad z 4) :: rest))) : W p l e R s m args below meth c H locs cells slots Q (F0 m pc ls (.ref (zad z 0) :: rest)) :=
  va_get (D := zD z) (ci := 8) (C := RX9) (T := TX9) (N := 8) (v := .ref (zad z 4)) C.1.1 C.1.2.1 C.1.2.2.2.2 iX9 C.1.2.2.2.1 C.2.1 h.1.1 0 rfl rfl 6 (by decide) (C.1.2.2.2.2 _ uw_X9_39) (fun _ h9 => h9) rfl hd k
/-- BandMill.faultPlace -/
theorem rg_X9_43 (C : cX z p m c cc nL s args RX9) (h : hH z v sc ar s H locs) (hd : decode cc pc = .ok (.getfield 43, 3)) (k : W p l e R s m args below meth c H locs cells slots Q (F0 m (pc + 3) ls (.int (sc 2) :: rest))) : W p l e R s m args below meth c H locs cells slots Q (F0 m pc ls (.ref (zad z 0) :: rest)) :=
  va_get (D := zD z) (ci := 8) (C := RX9) (T := TX9) (N := 8) (v := .int (sc 2)) C.1.1 C.1.2.1 C.1.2.2.2.2 iX9 C.1.2.2.2.1 C.2.1 h.1.1 0 rfl rfl 7 (by decide) (C.1.2.2.2.2 _ uw_X9_43) (fun _ h9 => h9) rfl hd k
/-- BandMill.faultPlace := -/
theorem rp_X9_43 {x : Int32} (C : cX z p m c cc nL s args RX9) (h : hH z v sc ar s H locs) (hd : decode cc pc = .ok (.putfield 43, 3)) (k : ∀ (H1 : Heap) (locs1 : List Loc), hH z v (va_up sc 2 x) ar s H1 locs1 → W p l e R s m args below meth c H1 locs1 cells slots Q (F0 m (pc + 3) ls rest)) : W p l e R s m args below meth c H locs cells slots Q (F0 m pc ls (.int x :: .ref (zad z 0) :: rest)) :=
  va_put (D := zD z) (ci := 8) (ty := .int) (C := RX9) (T := TX9) (N := 8) (v := .int x) C.1.1 C.1.2.1 C.1.2.2.2.2 iX9 tyX9 tyX9_ok nmX9 C.1.2.2.2.1 C.2.1 h.1.1 h.1.2 h.2 0 rfl rfl 7 (by decide) (C.1.2.2.2.2 _ uw_X9_43) (fun _ h9 => h9) rfl (by decide +kernel) rfl rfl (Nat.le_of_ble_eq_true rfl) hd (fun H1 locs1 hP hD hS => k H1 locs1 ⟨⟨hP, hD⟩, hS⟩)
/-- BandMill$Desk.tape -/
theorem rg_X9_99 (C : cX z p m c cc nL s args RX9) (h : hH z v sc ar s H locs) (hd : decode cc pc = .ok (.getfield 99, 3)) (k : W p l e R s m args below meth c H locs cells slots Q (F0 m (pc + 3) ls (.ref (zad z 2) :: rest))) : W p l e R s m args below meth c H locs cells slots Q (F0 m pc ls (.ref (zad z 1) :: rest)) :=
  va_getN (D := zD z) (ci := 2) (C := RX2) (T := TX2) (N := 3) (v := .ref (zad z 2)) C.1.1 C.1.2.1 C.1.2.2.2.2 iX2 C.1.2.2.2.1 C.2.1 h.1.1 1 rfl rfl 0 (by decide) (va_Nw.use rfl (C.2.2.2.1 _ (List.mem_of_getElem? (i := 8) rfl))) (fun _ h9 => h9) rfl hd k
/-- BandMill$Tape.faultPlace -/
theorem rg_X9_115 (C : cX z p m c cc nL s args RX9) (h : hH z v sc ar s H locs) (hd : decode cc pc = .ok (.getfield 115, 3)) (k : W p l e R s m args below meth c H locs cells slots Q (F0 m (pc + 3) ls (.int (sc 8) :: rest))) : W p l e R s m args below meth c H locs cells slots Q (F0 m pc ls (.ref (zad z 2) :: rest)) :=
  va_getN (D := zD z) (ci := 7) (C := RX7) (T := TX7) (N := 7) (v := .int (sc 8)) C.1.1 C.1.2.1 C.1.2.2.2.2 iX7 C.1.2.2.2.1 C.2.1 h.1.1 2 rfl rfl 6 (by decide) (va_Nw.use rfl (C.2.2.2.1 _ (List.mem_of_getElem? (i := 0) rfl))) (fun _ h9 => h9) rfl hd k
/-- BandMill$Tape.fault -/
theorem rg_X9_116 (C : cX z p m c cc nL s args RX9) (h : hH z v sc ar s H locs) (hd : decode cc pc = .ok (.getfield 116, 3)) (k : W p l e R s m args below meth c H locs cells slots Q (F0 m (pc + 3) ls (.int (sc 7) :: rest))) : W p l e R s m args below meth c H locs cells slots Q (F0 m pc ls (.ref (zad z 2) :: rest)) :=
  va_getN (D := zD z) (ci := 7) (C := RX7) (T := TX7) (N := 7) (v := .int (sc 7)) C.1.1 C.1.2.1 C.1.2.2.2.2 iX7 C.1.2.2.2.1 C.2.1 h.1.1 2 rfl rfl 5 (by decide) (va_Nw.use rfl (C.2.2.2.1 _ (List.mem_of_getElem? (i := 1) rfl))) (fun _ h9 => h9) rfl hd k
/-- BandMill$RunSearch.chosenN -/
theorem rg_X9_142 (C : cX z p m c cc nL s args RX9) (h : hH z v sc ar s H locs) (hd : decode cc pc = .ok (.getfield 142, 3)) (k : W p l e R s m args below meth c H locs cells slots Q (F0 m (pc + 3) ls (.int (sc 12) :: rest))) : W p l e R s m args below meth c H locs cells slots Q (F0 m pc ls (.ref (zad z 4) :: rest)) :=
  va_getN (D := zD z) (ci := 6) (C := RX6) (T := TX6) (N := 6) (v := .int (sc 12)) C.1.1 C.1.2.1 C.1.2.2.2.2 iX6 C.1.2.2.2.1 C.2.1 h.1.1 4 rfl rfl 3 (by decide) (va_Nw.use rfl (C.2.2.2.1 _ (List.mem_of_getElem? (i := 2) rfl))) (fun _ h9 => h9) rfl hd k
/-- BandMill$RunSearch.chosenFirst -/
theorem rg_X9_145 (C : cX z p m c cc nL s args RX9) (h : hH z v sc ar s H locs) (hd : decode cc pc = .ok (.getfield 145, 3)) (k : W p l e R s m args below meth c H locs cells slots Q (F0 m (pc + 3) ls (.int (sc 13) :: rest))) : W p l e R s m args below meth c H locs cells slots Q (F0 m pc ls (.ref (zad z 4) :: rest)) :=
  va_getN (D := zD z) (ci := 6) (C := RX6) (T := TX6) (N := 6) (v := .int (sc 13)) C.1.1 C.1.2.1 C.1.2.2.2.2 iX6 C.1.2.2.2.1 C.2.1 h.1.1 4 rfl rfl 4 (by decide) (va_Nw.use rfl (C.2.2.2.1 _ (List.mem_of_getElem? (i := 3) rfl))) (fun _ h9 => h9) rfl hd k
/-- BandMill$RunSearch.chosenOther -/
theorem rg_X9_148 (C : cX z p m c cc nL s args RX9) (h : hH z v sc ar s H locs) (hd : decode cc pc = .ok (.getfield 148, 3)) (k : W p l e R s m args below meth c H locs cells slots Q (F0 m (pc + 3) ls (.int (sc 14) :: rest))) : W p l e R s m args below meth c H locs cells slots Q (F0 m pc ls (.ref (zad z 4) :: rest)) :=
  va_getN (D := zD z) (ci := 6) (C := RX6) (T := TX6) (N := 6) (v := .int (sc 14)) C.1.1 C.1.2.1 C.1.2.2.2.2 iX6 C.1.2.2.2.1 C.2.1 h.1.1 4 rfl rfl 5 (by decide) (va_Nw.use rfl (C.2.2.2.1 _ (List.mem_of_getElem? (i := 4) rfl))) (fun _ h9 => h9) rfl hd k
/-- BandMill$Tape.length -/
theorem rg_X9_162 (C : cX z p m c cc nL s args RX9) (h : hH z v sc ar s H locs) (hd : decode cc pc = .ok (.getfield 162, 3)) (k : W p l e R s m args below meth c H locs cells slots Q (F0 m (pc + 3) ls (.int (sc 3) :: rest))) : W p l e R s m args below meth c H locs cells slots Q (F0 m pc ls (.ref (zad z 2) :: rest)) :=
  va_getN (D := zD z) (ci := 7) (C := RX7) (T := TX7) (N := 7) (v := .int (sc 3)) C.1.1 C.1.2.1 C.1.2.2.2.2 iX7 C.1.2.2.2.1 C.2.1 h.1.1 2 rfl rfl 1 (by decide) (va_Nw.use rfl (C.2.2.2.1 _ (List.mem_of_getElem? (i := 5) rfl))) (fun _ h9 => h9) rfl hd k
/-- BandMill$Tape.length := -/
theorem rp_X9_162 {x : Int32} (C : cX z p m c cc nL s args RX9) (h : hH z v sc ar s H locs) (hd : decode cc pc = .ok (.putfield 162, 3)) (k : ∀ (H1 : Heap) (locs1 : List Loc), hH z v (va_up sc 3 x) ar s H1 locs1 → W p l e R s m args below meth c H1 locs1 cells slots Q (F0 m (pc + 3) ls rest)) : W p l e R s m args below meth c H locs cells slots Q (F0 m pc ls (.int x :: .ref (zad z 2) :: rest)) :=
  va_putN (D := zD z) (ci := 7) (ty := .int) (C := RX7) (T := TX7) (N := 7) (v := .int x) C.1.1 C.1.2.1 C.1.2.2.2.2 iX7 tyX7 tyX7_ok nmX7 C.1.2.2.2.1 C.2.1 h.1.1 h.1.2 h.2 2 rfl rfl 1 (by decide) (va_Nw.use rfl (C.2.2.2.1 _ (List.mem_of_getElem? (i := 5) rfl))) (fun _ h9 => h9) rfl (by decide +kernel) rfl rfl (Nat.le_of_ble_eq_true rfl) hd (fun H1 locs1 hP hD hS => k H1 locs1 ⟨⟨hP, hD⟩, hS⟩)
/-- BandMill$Tape.readFrom -/
theorem rg_X9_165 (C : cX z p m c cc nL s args RX9) (h : hH z v sc ar s H locs) (hd : decode cc pc = .ok (.getfield 165, 3)) (k : W p l e R s m args below meth c H locs cells slots Q (F0 m (pc + 3) ls (.int (sc 4) :: rest))) : W p l e R s m args below meth c H locs cells slots Q (F0 m pc ls (.ref (zad z 2) :: rest)) :=
  va_getN (D := zD z) (ci := 7) (C := RX7) (T := TX7) (N := 7) (v := .int (sc 4)) C.1.1 C.1.2.1 C.1.2.2.2.2 iX7 C.1.2.2.2.1 C.2.1 h.1.1 2 rfl rfl 2 (by decide) (va_Nw.use rfl (C.2.2.2.1 _ (List.mem_of_getElem? (i := 6) rfl))) (fun _ h9 => h9) rfl hd k
/-- BandMill$Tape.readFrom := -/
theorem rp_X9_165 {x : Int32} (C : cX z p m c cc nL s args RX9) (h : hH z v sc ar s H locs) (hd : decode cc pc = .ok (.putfield 165, 3)) (k : ∀ (H1 : Heap) (locs1 : List Loc), hH z v (va_up sc 4 x) ar s H1 locs1 → W p l e R s m args below meth c H1 locs1 cells slots Q (F0 m (pc + 3) ls rest)) : W p l e R s m args below meth c H locs cells slots Q (F0 m pc ls (.int x :: .ref (zad z 2) :: rest)) :=
  va_putN (D := zD z) (ci := 7) (ty := .int) (C := RX7) (T := TX7) (N := 7) (v := .int x) C.1.1 C.1.2.1 C.1.2.2.2.2 iX7 tyX7 tyX7_ok nmX7 C.1.2.2.2.1 C.2.1 h.1.1 h.1.2 h.2 2 rfl rfl 2 (by decide) (va_Nw.use rfl (C.2.2.2.1 _ (List.mem_of_getElem? (i := 6) rfl))) (fun _ h9 => h9) rfl (by decide +kernel) rfl rfl (Nat.le_of_ble_eq_true rfl) hd (fun H1 locs1 hP hD hS => k H1 locs1 ⟨⟨hP, hD⟩, hS⟩)
/-- BandMill$Tape.drafted -/
theorem rg_X9_191 (C : cX z p m c cc nL s args RX9) (h : hH z v sc ar s H locs) (hd : decode cc pc = .ok (.getfield 191, 3)) (k : W p l e R s m args below meth c H locs cells slots Q (F0 m (pc + 3) ls (.int (sc 5) :: rest))) : W p l e R s m args below meth c H locs cells slots Q (F0 m pc ls (.ref (zad z 2) :: rest)) :=
  va_getN (D := zD z) (ci := 7) (C := RX7) (T := TX7) (N := 7) (v := .int (sc 5)) C.1.1 C.1.2.1 C.1.2.2.2.2 iX7 C.1.2.2.2.1 C.2.1 h.1.1 2 rfl rfl 3 (by decide) (va_Nw.use rfl (C.2.2.2.1 _ (List.mem_of_getElem? (i := 7) rfl))) (fun _ h9 => h9) rfl hd k
theorem ldA (k : Nat) (hk : isA k = true) {j : Nat} (hj : j < aL k) (hL : aL k < 2 ^ 31) (C : cX z p m c cc nL s args own) (h : hH z v sc ar s H locs) (hd : decode cc pc = .ok (.iaload, 1)) (kk : W p l e R s m args below meth c H locs cells slots Q (F0 m (pc + 1) ls (.int (ar k j) :: rest))) : W p l e R s m args below meth c H locs cells slots Q (F0 m pc ls (.int (nI j) :: .ref (zad z k) :: rest)) := by
  refine va_iald C.1.1 C.1.2.1 C.2.1 h.1.1 k 1 (gW_arr hk) rfl (vp_in_nI hj hL) hd ?_
  rw [nI_clamp (Nat.lt_trans hj hL)]
  exact kk
theorem stA (k : Nat) (hk : isA k = true) {j : Nat} {x : Int32} (hj : j < aL k) (hL : aL k < 2 ^ 31) (C : cX z p m c cc nL s args own) (h : hH z v sc ar s H locs) (hd : decode cc pc = .ok (.iastore, 1)) (kk : ∀ (H1 : Heap) (locs1 : List Loc), hH z v sc (va_up ar k (upd (ar k) j x)) s H1 locs1 → W p l e R s m args below meth c H1 locs1 cells slots Q (F0 m (pc + 1) ls rest)) : W p l e R s m args below meth c H locs cells slots Q (F0 m pc ls (.int x :: .int (nI j) :: .ref (zad z k) :: rest)) := by
  refine va_iast C.1.1 C.1.2.1 C.2.1 h.1.1 h.1.2 h.2 k 1 (gW_arr hk) rfl (vp_in_nI hj hL) hd (fun H1 locs1 hP hD hS => ?_)
  rw [nI_clamp (Nat.lt_trans hj hL), gW_set hk] at hP hD
  exact kk H1 locs1 ⟨⟨hP, hD⟩, hS⟩
theorem ldB {j : Nat} (hj : j < 8000) (C : cX z p m c cc nL s args own) (h : hH z v sc ar s H locs) (hd : decode cc pc = .ok (.baload, 1)) (kk : W p l e R s m args below meth c H locs cells slots Q (F0 m (pc + 1) ls (.int (ar 11 j) :: rest))) : W p l e R s m args below meth c H locs cells slots Q (F0 m pc ls (.int (nI j) :: .ref (zad z 11) :: rest)) := by
  refine va_bald C.1.1 C.1.2.1 C.2.1 h.1.1 11 0 rfl rfl (vp_in_nI hj (by decide)) hd ?_
  rw [nI_clamp (by omega)]
  exact kk
theorem stB {j : Nat} {x : Int32} (hj : j < 8000) (C : cX z p m c cc nL s args own) (h : hH z v sc ar s H locs) (hd : decode cc pc = .ok (.bastore, 1)) (kk : ∀ (H1 : Heap) (locs1 : List Loc), hH z v sc (va_up ar 11 (upd (ar 11) j (vp_nar .byte x))) s H1 locs1 → W p l e R s m args below meth c H1 locs1 cells slots Q (F0 m (pc + 1) ls rest)) : W p l e R s m args below meth c H locs cells slots Q (F0 m pc ls (.int x :: .int (nI j) :: .ref (zad z 11) :: rest)) := by
  refine va_bast C.1.1 C.1.2.1 C.2.1 h.1.1 h.1.2 h.2 11 0 rfl rfl (vp_in_nI hj (by decide)) hd (fun H1 locs1 hP hD hS => ?_)
  rw [nI_clamp (by omega)] at hP hD
  exact kk H1 locs1 ⟨⟨hP, hD⟩, hS⟩
end FLD
