/-! the class's small methods: what they answer -/
abbrev ac_ok (a v : Int32) : Prop := (0 ≤ a ∧ a < 9) ∧ (a = 6 → 0 ≤ v ∧ v < 8) ∧ (a = 7 ∨ a = 8 → 0 ≤ v ∧ v < 4)
theorem takes_out {a : Int32} (h : a.toInt < ((2 : Nat) : Int) ∨ ((2 + 6 - 1 : Nat) : Int) < a.toInt) : takes a = 0 := by
  unfold takes
  rw [if_neg, if_neg]
  · rintro (h9 | h9)
    · rw [h9] at h; revert h; decide
    · rw [h9] at h; revert h; decide
  · intro h9
    have h1 := Int32.le_iff_toInt_le.mp h9.1
    have h2 := Int32.le_iff_toInt_le.mp h9.2
    rw [show (2 : Int32).toInt = 2 from rfl] at h1
    rw [show (5 : Int32).toInt = 5 from rfl] at h2
    omega
theorem ac_out {a v : Int32} (h : a.toInt < ((6 : Nat) : Int) ∨ ((6 + 3 - 1 : Nat) : Int) < a.toInt) : (0 ≤ a ∧ a < 9) ↔ ac_ok a v := by
  refine ⟨fun h1 => ⟨h1, fun h2 => ?_, fun h2 => ?_⟩, fun h1 => h1.1⟩
  · rw [h2] at h; exact absurd h (by decide)
  · rcases h2 with h2 | h2
    · rw [h2] at h; exact absurd h (by decide)
    · rw [h2] at h; exact absurd h (by decide)
/-- floorDiv, as the JDK has it -/
def fd (x y : Int64) : Int64 := if 0 ≤ x ^^^ y then x / y else if x / y * y = x then x / y else x / y - 1
def sh (v : Int64) (k : Int32) : Int64 := (v.toUInt64 >>> (k.toInt64.toUInt64 &&& Int64.toUInt64 63)).toInt64
/-- bitCount, as the JDK has it -/
def bc1 (v : Int64) : Int64 := v - (sh v 1 &&& 6148914691236517205)
def bc2 (v : Int64) : Int64 := (v &&& 3689348814741910323) + (sh v 2 &&& 3689348814741910323)
def bc3 (v : Int64) : Int64 := (v + sh v 4) &&& 1085102592571150095
def bc4 (v : Int64) : Int64 := v + sh v 8
def bc5 (v : Int64) : Int64 := v + sh v 16
def bc6 (v : Int64) : Int64 := v + sh v 32
def bc (v : Int64) : Int32 := (bc6 (bc5 (bc4 (bc3 (bc2 (bc1 v)))))).toInt32 &&& 127
