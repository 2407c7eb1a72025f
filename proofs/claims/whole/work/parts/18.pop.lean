theorem fd_half (v : Int64) : fd v 2 = v >>> ((1 : Int32).toInt64 &&& 63) := by
  sorry
theorem bc_ones (v : Int64) : (bc v : Int32).toInt64 = on_go v 64 := by
  sorry
