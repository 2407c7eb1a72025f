/-! bits -/
theorem b_key {e : Nat} (he : e < 10) (W : Int32) : W &&& ((1 : Int32) <<< (nI e &&& 31)) = 0 ↔ W.toBitVec.getLsbD e = false := by
  have hm : ((1 : Int32) <<< (nI e &&& 31)).toBitVec = BitVec.twoPow 32 e := by
    rcases (show e = 0 ∨ e = 1 ∨ e = 2 ∨ e = 3 ∨ e = 4 ∨ e = 5 ∨ e = 6 ∨ e = 7 ∨ e = 8 ∨ e = 9 by omega) with rfl | rfl | rfl | rfl | rfl | rfl | rfl | rfl | rfl | rfl <;> decide
  rw [← Int32.toBitVec_inj, Int32.toBitVec_and, hm, BitVec.and_twoPow]
  by_cases h : W.toBitVec.getLsbD e = true
  · rw [if_pos h, h]
    constructor
    · intro h9
      have h8 := congrArg (fun z : BitVec 32 => z.getLsbD e) h9
      simp at h8
      omega
    · intro h9; cases h9
  · rw [if_neg h]
    exact ⟨fun _ => by simpa using h, fun _ => rfl⟩
theorem b_set {e e' : Nat} (he : e < 10) (he' : e' < 10) (V : Int32) : (V ||| ((1 : Int32) <<< (nI e &&& 31))) &&& ((1 : Int32) <<< (nI e' &&& 31)) = 0 ↔ (e ≠ e' ∧ V &&& ((1 : Int32) <<< (nI e' &&& 31)) = 0) := by
  have hm : ((1 : Int32) <<< (nI e &&& 31)).toBitVec = BitVec.twoPow 32 e := by
    rcases (show e = 0 ∨ e = 1 ∨ e = 2 ∨ e = 3 ∨ e = 4 ∨ e = 5 ∨ e = 6 ∨ e = 7 ∨ e = 8 ∨ e = 9 by omega) with rfl | rfl | rfl | rfl | rfl | rfl | rfl | rfl | rfl | rfl <;> decide
  rw [b_key he', b_key he', Int32.toBitVec_or, hm, BitVec.getLsbD_or, BitVec.getLsbD_twoPow]
  by_cases h : e = e'
  · subst h
    simp
    omega
  · simp [h]
theorem b_clr {e e' : Nat} (he : e < 10) (he' : e' < 10) (V : Int32) : (V &&& (((1 : Int32) <<< (nI e &&& 31)) ^^^ (-1))) &&& ((1 : Int32) <<< (nI e' &&& 31)) = 0 ↔ (e = e' ∨ V &&& ((1 : Int32) <<< (nI e' &&& 31)) = 0) := by
  have hm : ((1 : Int32) <<< (nI e &&& 31)).toBitVec = BitVec.twoPow 32 e := by
    rcases (show e = 0 ∨ e = 1 ∨ e = 2 ∨ e = 3 ∨ e = 4 ∨ e = 5 ∨ e = 6 ∨ e = 7 ∨ e = 8 ∨ e = 9 by omega) with rfl | rfl | rfl | rfl | rfl | rfl | rfl | rfl | rfl | rfl <;> decide
  have h1 : (-1 : Int32).toBitVec = BitVec.allOnes 32 := by decide
  rw [b_key he', b_key he', Int32.toBitVec_and, Int32.toBitVec_xor, hm, h1, BitVec.getLsbD_and, BitVec.getLsbD_xor, BitVec.getLsbD_twoPow, BitVec.getLsbD_allOnes]
  have h32 : e' < 32 := by omega
  by_cases h : e = e'
  · subst h
    simp [h32]
  · simp [h, h32]
theorem b_sh {e : Nat} (he : e < 10) (b : Int32) : b &&& ((1 : Int32) <<< (nI e &&& 31)) = 0 ↔ (b >>> (nI e &&& 31)) &&& 1 = 0 := by
  rw [b_key he]
  have h2 : (b >>> (nI e &&& 31)) &&& 1 = 0 ↔ (b >>> (nI e &&& 31)).toBitVec.getLsbD 0 = false := b_key (e := 0) (by decide) _
  rw [h2]
  have h3 : (b >>> (nI e &&& 31)).toBitVec = b.toBitVec.sshiftRight e := by
    rw [Int32.toBitVec_shiftRight]
    rcases (show e = 0 ∨ e = 1 ∨ e = 2 ∨ e = 3 ∨ e = 4 ∨ e = 5 ∨ e = 6 ∨ e = 7 ∨ e = 8 ∨ e = 9 by omega) with rfl | rfl | rfl | rfl | rfl | rfl | rfl | rfl | rfl | rfl <;> rfl
  rw [h3, BitVec.getLsbD_sshiftRight]
  simp
  intro h9
  omega
theorem VR.vote {S : sS} {V : Nat → Int32} (h : VR S V) {n e : Nat} (hn : n < 12) (he : e < 10) {v : Int32} (hv : v = 0 ∨ v = 1) : VR (va_up S 11 (upd (S 11) (12 * e + n) v)) (upd V n (if v = 0 then V n &&& (((1 : Int32) <<< (nI e &&& 31)) ^^^ (-1)) else V n ||| ((1 : Int32) <<< (nI e &&& 31)))) := by
  intro n' hn' e' he'
  rw [va_up_self]
  by_cases h1 : n' = n
  · subst h1
    rw [pk_us]
    by_cases h2 : e' = e
    · subst h2
      rw [pk_us]
      rcases hv with rfl | rfl
      · rw [if_pos rfl, b_clr he he']
        exact ⟨fun _ => rfl, fun _ => Or.inl rfl⟩
      · rw [if_neg (by decide), b_set he he']
        exact ⟨fun q => absurd rfl q.1, fun q => absurd q (by decide)⟩
    · rw [pk_un (by omega)]
      rcases hv with rfl | rfl
      · rw [if_pos rfl, b_clr he he']
        exact ⟨fun q => (h n' hn' e' he').mp (q.resolve_left (Ne.symm h2)), fun q => Or.inr ((h n' hn' e' he').mpr q)⟩
      · rw [if_neg (by decide), b_set he he']
        exact ⟨fun q => (h n' hn' e' he').mp q.2, fun q => ⟨Ne.symm h2, (h n' hn' e' he').mpr q⟩⟩
  · rw [pk_un h1, pk_un (by omega)]
    exact h n' hn' e' he'
def rbv (d : Int32) : Int32 := if d = 0 then 0 else -10 - d
def MR (S : sS) (ne : Nat) : Prop := ∀ e, e < ne → ∀ j, j < 8 → S 2 (8 * e + j) = -1 ∨ ∃ m, m ≤ 5 ∧ S 2 (8 * e + j) = nI m
theorem neg_iff {x : Int32} (h : x = -1 ∨ ∃ m, m ≤ 5 ∧ x = nI m) : 0 ≤ x ↔ ¬ x = -1 := by
  rcases h with rfl | ⟨m, hm, rfl⟩
  · decide
  · exact ⟨fun _ => nI_ne_m1 (by omega), fun _ => nI_pos' (by omega)⟩
