/-! proposals are decided one by one -/
def ce (S : sS) : Nat → sS
  | 0 => S
  | k + 1 => if ce S k 4 k = 1 ∧ ce S k 3 k = ce S k 5 0 then sp_agrees (ce S k) k else ce S k
theorem ce_s (S : sS) (k : Nat) : ce S (k + 1) = if ce S k 4 k = 1 ∧ ce S k 3 k = ce S k 5 0 then sp_agrees (ce S k) k else ce S k := rfl
theorem ce_co (S : sS) : ∀ k, co_e S k = ce (co_1 S) k
  | 0 => rfl
  | k + 1 => by rw [co_e_s, ce_s, ce_co S k]
theorem NM.ce {S : sS} {ne nn nc nl ht : Nat} (h : NM S ne nn nc nl ht) : ∀ k, NM (ce S k) ne nn nc nl ht
  | 0 => h
  | k + 1 => by
    rw [ce_s]
    split
    · exact (NM.ce h k).agrees k
    · exact NM.ce h k
theorem VR.of {S T : sS} {V : Nat → Int32} (h : VR S V) (e : T 11 = S 11) : VR T V := fun n hn q hq => by rw [e]; exact h n hn q hq
theorem ag_11 (S : sS) (e : Nat) : sp_agrees S e 11 = S 11 := by
  unfold sp_agrees
  split <;> rfl
theorem ce_11 (S : sS) : ∀ k, ce S k 11 = S 11
  | 0 => rfl
  | k + 1 => by
    rw [ce_s]
    split
    · rw [ag_11]; exact ce_11 S k
    · exact ce_11 S k
theorem cn_row (S : sS) {r : Nat} (hr : r ≠ 10) : ∀ k, co_n S k r = S r
  | 0 => rfl
  | k + 1 => by
    rw [co_n_s]
    split
    · rw [va_up_ne _ _ hr]; exact cn_row S hr k
    · exact cn_row S hr k
theorem co_11 (S : sS) : sp_comes S 11 = S 11 := by
  unfold sp_comes
  rw [cn_row _ (by decide), ce_co, ce_11]
  rfl
theorem ri_11 (S : sS) : ∀ k, ri_k S k 11 = S 11
  | 0 => rfl
  | k + 1 => by
    show sp_comes (ri_k S k) 11 = _
    rw [co_11]; exact ri_11 S k
