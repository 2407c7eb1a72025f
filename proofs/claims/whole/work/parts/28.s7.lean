/-! bits -/
theorem b_set {e e' : Nat} (he : e < 10) (he' : e' < 10) (V : Int32) : (V ||| ((1 : Int32) <<< (nI e &&& 31))) &&& ((1 : Int32) <<< (nI e' &&& 31)) = 0 ↔ (e ≠ e' ∧ V &&& ((1 : Int32) <<< (nI e' &&& 31)) = 0) := by
  sorry
theorem b_clr {e e' : Nat} (he : e < 10) (he' : e' < 10) (V : Int32) : (V &&& (((1 : Int32) <<< (nI e &&& 31)) ^^^ (-1))) &&& ((1 : Int32) <<< (nI e' &&& 31)) = 0 ↔ (e = e' ∨ V &&& ((1 : Int32) <<< (nI e' &&& 31)) = 0) := by
  sorry
theorem b_sh {e : Nat} (he : e < 10) (b : Int32) : b &&& ((1 : Int32) <<< (nI e &&& 31)) = 0 ↔ (b >>> (nI e &&& 31)) &&& 1 = 0 := by
  sorry
theorem VR.vote {S : sS} {V : Nat → Int32} (h : VR S V) {n e : Nat} (hn : n < 12) (he : e < 10) {v : Int32} (hv : v = 0 ∨ v = 1) : VR (va_up S 11 (upd (S 11) (12 * e + n) v)) (upd V n (if v = 0 then V n &&& (((1 : Int32) <<< (nI e &&& 31)) ^^^ (-1)) else V n ||| ((1 : Int32) <<< (nI e &&& 31)))) := by
  intro n' hn' e' he'
  rw [va_up_self]
  by_cases h1 : n' = n
  · subst h1
    rw [pk_us]
    by_cases h2 : e' = e
    · subst h2
      rw [pk_us]
      rcases hv with rfl | rfl
      · rw [if_pos rfl, b_clr he he']
        exact ⟨fun _ => rfl, fun _ => Or.inl rfl⟩
      · rw [if_neg (by decide), b_set he he']
        exact ⟨fun q => absurd rfl q.1, fun q => absurd q (by decide)⟩
    · rw [pk_un (by omega)]
      rcases hv with rfl | rfl
      · rw [if_pos rfl, b_clr he he']
        exact ⟨fun q => (h n' hn' e' he').mp (q.resolve_left (Ne.symm h2)), fun q => Or.inr ((h n' hn' e' he').mpr q)⟩
      · rw [if_neg (by decide), b_set he he']
        exact ⟨fun q => (h n' hn' e' he').mp q.2, fun q => ⟨Ne.symm h2, (h n' hn' e' he').mpr q⟩⟩
  · rw [pk_un h1, pk_un (by omega)]
    exact h n' hn' e' he'
def rbv (d : Int32) : Int32 := if d = 0 then 0 else -10 - d
def MR (S : sS) (ne : Nat) : Prop := ∀ e, e < ne → ∀ j, j < 8 → S 2 (8 * e + j) = -1 ∨ ∃ m, m ≤ 5 ∧ S 2 (8 * e + j) = nI m
theorem neg_iff {x : Int32} (h : x = -1 ∨ ∃ m, m ≤ 5 ∧ x = nI m) : 0 ≤ x ↔ ¬ x = -1 := by
  rcases h with rfl | ⟨m, hm, rfl⟩
  · decide
  · exact ⟨fun _ => nI_ne_m1 (by omega), fun _ => nI_pos' (by omega)⟩
