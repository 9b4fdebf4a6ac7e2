/-! KEEP, AGAIN, NEED -/
theorem slot_in (x : Int32) : decide ((0 : Int64) ≤ x.toInt64 ∧ x.toInt64 ≤ 1) = inR x 2 := inL (x := x) (n := 2) (by decide)
theorem ti2 : (2 : Int32).toInt = 2 := rfl
theorem ti0 : (0 : Int32).toInt = 0 := rfl
theorem nar_1 : vp_nar .boolean (1 : Int32) = 1 := by decide
theorem cp6 {f g : Nat → Int32} {p : Nat} (h : p < 6) : cpN 6 f g p = f p := if_pos h
