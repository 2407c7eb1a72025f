section RFS
variable {p : Program} {l : Launch} {e : Env} {R : Room} {s : State} {m : MethodId} {args : Array Value} {below : List Frame} {meth : Method} {c : Code} {H : Heap} {locs : List Loc} {cells slots : Nat} {Q : State → Prop}
variable {pc : Nat} {ls : Array Slot} {rest : List Value}
theorem mm_rfS {r : Option Nat} {q : Nat} (h : r = some q) (k : W p l e R s m args below meth c H locs cells slots Q (F0 m pc ls (.ref q :: rest))) : W p l e R s m args below meth c H locs cells slots Q (F0 m pc ls (va_rf r :: rest)) := by rw [h]; exact k
theorem mm_rfN {r : Option Nat} (h : r = none) (k : W p l e R s m args below meth c H locs cells slots Q (F0 m pc ls (.null :: rest))) : W p l e R s m args below meth c H locs cells slots Q (F0 m pc ls (va_rf r :: rest)) := by rw [h]; exact k
end RFS
/-- the thing with a number, if there is one -/
def atR (n : Int32) (f : Nat → Nat) (x : Int32) : Option Nat := if 0 ≤ x ∧ x < n then some (f (cl x)) else none
theorem rfs_at {x n : Int32} {N k : Nat} (f : Nat → Nat) (hn : n = nI k) (hk : k ≤ N) (hN : N < 2 ^ 31) (hx : 0 ≤ x ∧ x < nI N) : rfs (cl n) f (cl x) = atR n f x := by
  unfold rfs atR
  by_cases h : 0 ≤ x ∧ x < n
  · rw [if_pos h, if_pos]
    rw [hn, cl_n (by omega)]
    exact cl_lt hn (by omega) h
  · rw [if_neg h, if_neg]
    intro h9
    rw [hn, cl_n (by omega)] at h9
    apply h
    rw [nI_cl hx.1, hn]
    exact in_lt h9 (by omega)
theorem atR_out {x n : Int32} {N k : Nat} (f : Nat → Nat) (hn : n = nI k) (hk : k ≤ N) (hN : N < 2 ^ 31) (hx : ¬ (0 ≤ x ∧ x < nI N)) : atR n f x = none := by
  unfold atR
  rw [if_neg]
  intro h
  apply hx
  refine ⟨h.1, ?_⟩
  have h2 := Int32.lt_iff_toInt_lt.mp h.2
  rw [hn, nI_toInt (by omega)] at h2
  rw [Int32.lt_iff_toInt_lt, nI_toInt (by omega)]
  omega
theorem atR_s {x n : Int32} {f : Nat → Nat} (h : 0 ≤ x ∧ x < n) : atR n f x = some (f (cl x)) := if_pos h
theorem atR_n {x n : Int32} {f : Nat → Nat} (h : ¬ (0 ≤ x ∧ x < n)) : atR n f x = none := if_neg h
theorem rfs_s {n k : Nat} {f : Nat → Nat} (h : k < n) : rfs n f k = some (f k) := if_pos h
theorem rfs_n {n k : Nat} {f : Nat → Nat} (h : ¬ k < n) : rfs n f k = none := if_neg h
theorem tr_at {n j : Nat} {f : Nat → Int32} (h : j < n) : tr n f j = f j := if_pos h
theorem trL_at {n j : Nat} {f : Nat → Int64} (h : j < n) : trL n f j = f j := if_pos h
theorem lt_le9 {y : Int32} : y < 9 ↔ y ≤ 8 := by
  rw [Int32.lt_iff_toInt_lt, Int32.le_iff_toInt_le, show (9 : Int32).toInt = 9 from rfl, show (8 : Int32).toInt = 8 from rfl]; omega
theorem lt_le8 {y : Int32} : y < 8 ↔ y ≤ 7 := by
  rw [Int32.lt_iff_toInt_lt, Int32.le_iff_toInt_le, show (8 : Int32).toInt = 8 from rfl, show (7 : Int32).toInt = 7 from rfl]; omega
theorem lt_le6 {y : Int32} : y < 6 ↔ y ≤ 5 := by
  rw [Int32.lt_iff_toInt_lt, Int32.le_iff_toInt_le, show (6 : Int32).toInt = 6 from rfl, show (5 : Int32).toInt = 5 from rfl]; omega
theorem lt_le4 {y : Int32} : y < 4 ↔ y ≤ 3 := by
  rw [Int32.lt_iff_toInt_lt, Int32.le_iff_toInt_le, show (4 : Int32).toInt = 4 from rfl, show (3 : Int32).toInt = 3 from rfl]; omega
theorem m1_le {v : Int32} (h : v = -1 ∨ (0 ≤ v ∧ v < 6)) : -1 ≤ v ∧ v ≤ 5 := by
  rcases h with rfl | h
  · decide
  · exact ⟨i32_le_trans (by decide) h.1, lt_le6.mp h.2⟩
theorem m1_le' {v : Int32} (h : -1 ≤ v ∧ v ≤ 5) : v = -1 ∨ (0 ≤ v ∧ v < 6) := by
  by_cases h0 : 0 ≤ v
  · exact Or.inr ⟨h0, lt_le6.mpr h.2⟩
  · left
    have h1 := Int32.le_iff_toInt_le.mp h.1
    have h2 : ¬ (0 : Int32).toInt ≤ v.toInt := fun q => h0 (Int32.le_iff_toInt_le.mpr q)
    rw [show (-1 : Int32).toInt = -1 from rfl] at h1
    rw [show (0 : Int32).toInt = 0 from rfl] at h2
    rw [← Int32.toInt_inj, show (-1 : Int32).toInt = -1 from rfl]
    omega
