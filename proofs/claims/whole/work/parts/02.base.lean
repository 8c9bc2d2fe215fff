/-! The base: one list of words for all methods, one world for all of them. -/
def uW : List Cond := lw_tbl.filter goodWord
theorem uW_of {w : Cond} (h : w ∈ lw_tbl) (hg : goodWord w = true) : w ∈ uW := List.mem_filter.mpr ⟨h, hg⟩
theorem uW_in {w : Cond} (h : w ∈ uW) : w ∈ lw_tbl := (List.mem_filter.mp h).1
theorem uW_good {w : Cond} (h : w ∈ uW) : (w.onTables && w.keeps) = true ∨ ∃ ty, w = .arrayClass ty := good_of_word (List.mem_filter.mp h).2
theorem gI_cons {w : Cond} {ws : List Cond} (h : w ∈ uW) (k : GoodIn uW ws) : GoodIn uW (w :: ws) := fun x hx => (List.mem_cons.mp hx).elim (fun e => by rw [e]; exact ⟨h, uW_good h⟩) (k x)
theorem gI_all : GoodIn uW uW := fun _ h => ⟨h, uW_good h⟩
theorem gI_V {own C : String} {ix n : Nat} {y : MethodName} {b : ByteArray} {r : Option FieldType} (h1 : Cond.methodLink own ix y ∈ uW) (h2 : Cond.instanceMethod y ∈ uW) (h3 : Cond.selects C y y ∈ uW) (h4 : Cond.initialized C ∈ uW) (h5 : Cond.code y b n r ∈ uW) : GoodIn uW (wsV own ix C y (Cond.code y b n r :: uW)) :=
  gI_cons h1 (gI_cons h2 (gI_cons h3 (gI_cons h4 (gI_cons h5 gI_all))))
theorem gI_S {own : String} {ix n : Nat} {y : MethodName} {b : ByteArray} {r : Option FieldType} (h1 : Cond.methodLink own ix y ∈ uW) (h2 : Cond.static y ∈ uW) (h3 : Cond.initialized y.cls ∈ uW) (h5 : Cond.code y b n r ∈ uW) : GoodIn uW (va_wsS own ix y (Cond.code y b n r :: uW)) :=
  gI_cons h1 (gI_cons h2 (gI_cons h3 (gI_cons h5 gI_all)))
/-- what stays: class numbers and slots, array classes (byte, int, Frame, Way, long), addresses, the cells that may change -/
abbrev bZ : Type := va_G × (ClassId × ClassId × ClassId × ClassId × ClassId) × (Nat → Nat) × (Nat → Prop)
abbrev zD (z : bZ) : va_G := z.1
abbrev zB (z : bZ) : ClassId := z.2.1.1
abbrev zI (z : bZ) : ClassId := z.2.1.2.1
abbrev zF (z : bZ) : ClassId := z.2.1.2.2.1
abbrev zW (z : bZ) : ClassId := z.2.1.2.2.2.1
abbrev zJ (z : bZ) : ClassId := z.2.1.2.2.2.2
abbrev zad (z : bZ) : Nat → Nat := z.2.2.1
abbrev zA (z : bZ) : Nat → Prop := z.2.2.2
/-- what moves beside numbers: the row of ways, the law's out, the ways' addresses and what they hold -/
abbrev bV : Type := (Nat → Option Nat) × (Nat → Int64) × List Nat × (Nat → va_E)
abbrev bS : Type := bV × (Nat → Int32) × (Nat → Nat → Int32)
abbrev zT (z : bZ) : List (ClassId × FieldType) := [(zB z, .byte), (zI z, .int), (zF z, .object "BandMill$Frame"), (zW z, .object "BandMill$Way"), (zJ z, .long)]
