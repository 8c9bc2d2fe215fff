/-! The law's start: what is known there, and the two objects made. -/
theorem nwF_sub : ∀ w ∈ nwF, w ∈ lw_tbl := by decide +kernel
theorem nwM_sub : ∀ w ∈ nwM, w ∈ lw_tbl := by decide +kernel
theorem nwD_sub : ∀ w ∈ nwD, w ∈ lw_tbl := by decide +kernel
theorem nwC_sub : ∀ w ∈ nwC, w ∈ lw_tbl := by decide +kernel
theorem strL_sub : ∀ q ∈ strL, Cond.stringRef RX9 q.1 q.2 ∈ lw_tbl := by decide +kernel
theorem prAr {s : State} {args : Array Value} {ty : FieldType} (h : (Cond.arrayClass ty).before args s = true) (hty : ∀ C, ty ≠ .object C) : ∃ cA : ClassId, ArrOfT s cA ty ∧ va_RA s cA ty := by
  obtain ⟨cA, kA, comp, h1, h2, h3⟩ := Cond.arrayClass_spec h
  refine ⟨cA, fun n z => ⟨fun k h => (by cases h), kA, h2, comp, h3⟩, ?_⟩
  unfold va_RA
  cases ty <;> first | exact absurd rfl (hty _) | exact h1
theorem obAr {s : State} {args : Array Value} {Cn : String} (h : (Cond.arrayOver (.object Cn)).before args s = true) : ∃ cA : ClassId, ArrOfT s cA (.object Cn) ∧ va_RA s cA (.object Cn) := by
  obtain ⟨comp, cA, kA, h1, -, h3, h4, h5⟩ := Cond.arrayOver_spec h
  exact ⟨cA, fun n z => ⟨fun k h => (by cases h), kA, h3, comp, h4⟩, kA, comp, h3, h4, h1, h5⟩
set_option maxHeartbeats 4000000 in
theorem lw_EV {s : State} {args : Array Value} (hts : ∀ w ∈ lw_tbl, w.before args s = true) (hgv : (Jvm.Cond.and given_1 narrow_1).before args s = true) : ∃ (D : va_G) (c5 : ClassId × ClassId × ClassId × ClassId × ClassId), ∀ ad : Nat → Nat, EV (D, c5, ad, fun q => s.heap.size ≤ q) s := by
  have hw : ∀ w ∈ uW, w.before args s = true := fun w h => hts w (uW_in h)
  have hfl := flat_of_before _ hgv
  obtain ⟨cX0, iX0f, kX0⟩ := u_known (C := RX0) (T := TX0) (N := 5) hw iX0 (hts (Cond.instantiable RX0 5) (by decide +kernel))
  obtain ⟨cX1, iX1f, kX1⟩ := u_known (C := RX1) (T := TX1) (N := 6) hw iX1 (hts (Cond.instantiable RX1 6) (by decide +kernel))
  obtain ⟨cX2, iX2f, kX2⟩ := u_known (C := RX2) (T := TX2) (N := 3) hw iX2 (hts (Cond.instantiable RX2 3) (by decide +kernel))
  obtain ⟨cX3, iX3f, kX3⟩ := u_known (C := RX3) (T := TX3) (N := 2) hw iX3 (hts (Cond.instantiable RX3 2) (by decide +kernel))
  obtain ⟨cX4, iX4f, kX4⟩ := u_known (C := RX4) (T := TX4) (N := 5) hw iX4 (hts (Cond.instantiable RX4 5) (by decide +kernel))
  obtain ⟨cX5, iX5f, kX5⟩ := u_known (C := RX5) (T := TX5) (N := 4) hw iX5 (hts (Cond.instantiable RX5 4) (by decide +kernel))
  obtain ⟨cX6, iX6f, kX6⟩ := u_known (C := RX6) (T := TX6) (N := 6) hw iX6 (hts (Cond.instantiable RX6 6) (by decide +kernel))
  obtain ⟨cX7, iX7f, kX7⟩ := u_known (C := RX7) (T := TX7) (N := 7) hw iX7 (hts (Cond.instantiable RX7 7) (by decide +kernel))
  obtain ⟨cX9, iX9f, kX9⟩ := u_known (C := RX9) (T := TX9) (N := 8) hw iX9 (hts (Cond.instantiable RX9 8) (by decide +kernel))
  obtain ⟨cX10, iX10f, kX10⟩ := u_known (C := RX10) (T := TX10) (N := 40) hw iX10 (hts (Cond.instantiable RX10 40) (by decide +kernel))
  obtain ⟨aB, aB1, aB2⟩ := prAr (hts (Cond.arrayClass .byte) (by decide +kernel)) (fun _ h => by cases h)
  obtain ⟨aI, aI1, aI2⟩ := prAr (hts (Cond.arrayClass .int) (by decide +kernel)) (fun _ h => by cases h)
  obtain ⟨aJ, aJ1, aJ2⟩ := prAr (hts (Cond.arrayClass .long) (by decide +kernel)) (fun _ h => by cases h)
  obtain ⟨aF, aF1, aF2⟩ := obAr (hts (Cond.arrayOver (.object "BandMill$Frame")) (by decide +kernel))
  obtain ⟨aW, aW1, aW2⟩ := obAr (hts (Cond.arrayOver (.object "BandMill$Way")) (by decide +kernel))
  refine ⟨(fun c => [cX0, cX1, cX2, cX3, cX4, cX5, cX6, cX7, cX9, cX10].getD c 0, fun c => [iX0f, iX1f, iX2f, iX3f, iX4f, iX5f, iX6f, iX7f, iX9f, iX10f].getD c (fun _ => 0)), (aB, aI, aF, aW, aJ), fun ad => ⟨⟨fun c q hq => ?_, fun k q hq => ?_⟩, fun q hq => hq, fun w h => va_Nw.of (nwF_tab w h) (hts w (nwF_sub w h)), fun w h => va_Nw.of (nwM_tab w h) (hts w (nwM_sub w h)), ⟨va_Nc.of (hfl (.not (.castable RX4 RX1)) (by decide +kernel)), va_Nc.of (hfl (.not (.castable RX5 RX1)) (by decide +kernel)), va_Nc.of (hfl (.not (.castable xIS xIA)) (by decide +kernel))⟩, ⟨vx_Zqof (hts (.laysStatic Bundle.tN "UNASSIGNED_STACK" Bundle.steD) (by decide +kernel)) (hts (.initialized Bundle.tN) (by decide +kernel)) (hfl (.isRef (.static Bundle.tN "UNASSIGNED_STACK" Bundle.steD)) (by decide +kernel)) (fun a ha h => absurd ha (Nat.not_lt.mpr h)), vx_Zqof (hts (.laysStatic Bundle.tN "SUPPRESSED_SENTINEL" Bundle.listD) (by decide +kernel)) (hts (.initialized Bundle.tN) (by decide +kernel)) (hfl (.isRef (.static Bundle.tN "SUPPRESSED_SENTINEL" Bundle.listD)) (by decide +kernel)) (fun a ha h => absurd ha (Nat.not_lt.mpr h))⟩, fun q hq => ?_, fun w h => va_Nw.of (nwD_tab w h) (hts w (nwD_sub w h)), fun w h => va_Nw.of (nwC_tab w h) (hts w (nwC_sub w h)), va_AO.of (hts (Cond.arrayOver (.object "BandMill$Way")) (by decide +kernel)), va_AO.of (hts (Cond.arrayOver (.object "BandMill$Frame")) (by decide +kernel))⟩⟩
  · have hc : c < 10 := (List.getElem?_eq_some_iff.mp hq).1
    have h10 : c = 0 ∨ c = 1 ∨ c = 2 ∨ c = 3 ∨ c = 4 ∨ c = 5 ∨ c = 6 ∨ c = 7 ∨ c = 8 ∨ c = 9 := by omega
    rcases h10 with rfl | rfl | rfl | rfl | rfl | rfl | rfl | rfl | rfl | rfl
    · cases hq; exact kX0
    · cases hq; exact kX1
    · cases hq; exact kX2
    · cases hq; exact kX3
    · cases hq; exact kX4
    · cases hq; exact kX5
    · cases hq; exact kX6
    · cases hq; exact kX7
    · cases hq; exact kX9
    · cases hq; exact kX10
  · have hc : k < 5 := (List.getElem?_eq_some_iff.mp hq).1
    have h5 : k = 0 ∨ k = 1 ∨ k = 2 ∨ k = 3 ∨ k = 4 := by omega
    rcases h5 with rfl | rfl | rfl | rfl | rfl
    · cases hq; exact ⟨aB1, aB2⟩
    · cases hq; exact ⟨aI1, aI2⟩
    · cases hq; exact ⟨aF1, aF2⟩
    · cases hq; exact ⟨aW1, aW2⟩
    · cases hq; exact ⟨aJ1, aJ2⟩
  · have h1 := hts _ (strL_sub q hq)
    obtain ⟨cur, -, hcur, -⟩ := Cond.instantiable_spec (hts (Cond.instantiable RX9 8) (by decide +kernel))
    obtain ⟨_, _, _, a, _, _, _, _, _, he⟩ := Cond.stringRef_spec hcur h1
    exact ⟨a, vk_R.of h1 he⟩
theorem frP {D : va_G} {cl : List vw_C} {ws : va_W} {H : Heap} {cA : ClassId} {n a k : Nat} {f g : Nat → Option Nat} (h : va_P D cl ws H) (hk : ws[k]? = some (a, .inl (cA, n, .inr (.inr (.inr (.inr f)))))) (e : ∀ j, j < n → f j = g j) : va_P D cl (ws.set k (a, .inl (cA, n, .inr (.inr (.inr (.inr g)))))) H := by
  intro i q hi
  by_cases hik : i = k
  · subst hik
    have hl : i < ws.length := (List.getElem?_eq_some_iff.mp hk).1
    rw [List.getElem?_set_self hl] at hi
    cases hi
    have h0 : H[a]? = some (vp_cell cA (n, .inr (.inr (.inr (.inr f))))) := h i _ hk
    show H[a]? = some (vp_cell cA (n, .inr (.inr (.inr (.inr g)))))
    rw [h0, vp_cell_q, vp_cell_q]
    unfold arrV
    congr 3
    funext j
    show va_rf (f j.val) = va_rf (g j.val)
    rw [e j.val j.isLt]
  · rw [List.getElem?_set_ne (fun h => hik h.symm)] at hi
    exact h i q hi
theorem ucl_L_8 : Cond.classLink RL 8 "BandMill" ∈ uW := (uW_of (by decide +kernel) rfl)
theorem uin_X9 : Cond.instantiable RX9 8 ∈ uW := (uW_of (by decide +kernel) rfl)
theorem uii_X9 : Cond.initialized RX9 ∈ uW := (uW_of (by decide +kernel) rfl)
theorem gi_X9 : GoodIn uW (Cond.code yX9_init cX9_init 1 none :: uW) := gI_cons (uW_of (by decide +kernel) rfl) gI_all
theorem gii_X9 : Cond.instanceMethod yX9_init ∈ uW := (uW_of (by decide +kernel) rfl)
theorem gio_X9 : Cond.initialized yX9_init.cls ∈ uW := (uW_of (by decide +kernel) rfl)
theorem gin_X9 : okN yX9_init 0 := by decide +kernel
theorem gik_L_60 : Cond.methodLink RL 60 yX9_init ∈ uW := (uW_of (by decide +kernel) rfl)
theorem ucl_L_61 : Cond.classLink RL 61 "BandMillModel" ∈ uW := (uW_of (by decide +kernel) rfl)
theorem uin_X10 : Cond.instantiable RX10 40 ∈ uW := (uW_of (by decide +kernel) rfl)
theorem uii_X10 : Cond.initialized RX10 ∈ uW := (uW_of (by decide +kernel) rfl)
theorem gi_X10 : GoodIn uW (Cond.code yX10_init cX10_init 1 none :: uW) := gI_cons (uW_of (by decide +kernel) rfl) gI_all
theorem gii_X10 : Cond.instanceMethod yX10_init ∈ uW := (uW_of (by decide +kernel) rfl)
theorem gio_X10 : Cond.initialized yX10_init.cls ∈ uW := (uW_of (by decide +kernel) rfl)
theorem gin_X10 : okN yX10_init 0 := by decide +kernel
theorem gik_L_63 : Cond.methodLink RL 63 yX10_init ∈ uW := (uW_of (by decide +kernel) rfl)
