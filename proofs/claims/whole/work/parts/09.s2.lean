theorem ag_its_s (S : sS) (e n : Nat) : ag_its S e (n + 1) = ag_its S e n + (if S 11 (12 * e + n) = 0 then 0 else if S 10 n = -1 then S 8 n else 0) := rfl
theorem ag_all_s (S : sS) (n : Nat) : ag_all S (n + 1) = ag_all S n + S 8 n := rfl
/-- a height more: what comes with it -/
def co_1 (S : sS) : sS := va_up (va_up S 5 (fun _ => S 5 0 + 1)) 6 (upd (S 6) (cl (S 5 0 + 1)) (S 6 (cl (S 5 0))))
def co_e (S : sS) : Nat → sS
  | 0 => co_1 S
  | k + 1 => if co_e S k 4 k = 1 ∧ co_e S k 3 k = co_e S k 5 0 then sp_agrees (co_e S k) k else co_e S k
def co_n (S : sS) : Nat → sS
  | 0 => S
  | k + 1 => if co_n S k 10 k = -1 ∧ (co_n S k 9 k >>> (co_n S k 6 (cl (co_n S k 5 0)) &&& 31)) &&& 1 = 0 then va_up (co_n S k) 10 (upd (co_n S k 10) k (co_n S k 5 0)) else co_n S k
def sp_comes (S : sS) : sS := co_n (co_e S (cl (S 0 0))) (cl (S 7 0))
theorem co_e_s (S : sS) (k : Nat) : co_e S (k + 1) = if co_e S k 4 k = 1 ∧ co_e S k 3 k = co_e S k 5 0 then sp_agrees (co_e S k) k else co_e S k := rfl
theorem co_n_s (S : sS) (k : Nat) : co_n S (k + 1) = if co_n S k 10 k = -1 ∧ (co_n S k 9 k >>> (co_n S k 6 (cl (co_n S k 5 0)) &&& 31)) &&& 1 = 0 then va_up (co_n S k) 10 (upd (co_n S k 10) k (co_n S k 5 0)) else co_n S k := rfl
def ri_k (S : sS) : Nat → sS
  | 0 => S
  | k + 1 => sp_comes (ri_k S k)
def sp_rise (S : sS) (x : Int32) : Int32 × sS :=
  if ¬ (1 ≤ x ∧ x ≤ 100) then (-2, S) else if ¬ (S 5 0 + x ≤ 1000) then (-4, S) else (ri_k S (cl x) 5 0, ri_k S (cl x))
/-- numbers that stay where other rows change -/
theorem NM.up {S : sS} {ne nn nc nl ht k : Nat} (h : NM S ne nn nc nl ht) (f : Nat → Int32) (hk : k ≠ 0 ∧ k ≠ 7 ∧ k ≠ 12 ∧ k ≠ 18 ∧ k ≠ 5) : NM (va_up S k f) ne nn nc nl ht := by
  obtain ⟨k0, k7, k12, k18, k5⟩ := hk
  unfold NM
  rw [va_up_ne _ _ (Ne.symm k0), va_up_ne _ _ (Ne.symm k7), va_up_ne _ _ (Ne.symm k12), va_up_ne _ _ (Ne.symm k18), va_up_ne _ _ (Ne.symm k5)]
  exact h
theorem NM.agrees {S : sS} {ne nn nc nl ht : Nat} (h : NM S ne nn nc nl ht) (e : Nat) : NM (sp_agrees S e) ne nn nc nl ht := by
  unfold sp_agrees
  split
  · exact (h.up _ (by decide)).up _ (by decide)
  · exact (h.up _ (by decide)).up _ (by decide)
theorem NM.co1 {S : sS} {ne nn nc nl ht : Nat} (h : NM S ne nn nc nl ht) (hh : ht < 1000) : NM (co_1 S) ne nn nc nl (ht + 1) := by
  unfold co_1
  refine NM.up ?_ _ (by decide)
  obtain ⟨h0, h1, h2, h7, h8, h12, h13, h18, h19, h5, h6⟩ := h
  exact ⟨h0, h1, h2, h7, h8, h12, h13, h18, h19, by show S 5 0 + 1 = _; rw [h5, nI_s], by omega⟩
theorem NM.coe {S : sS} {ne nn nc nl ht : Nat} (h : NM S ne nn nc nl ht) (hh : ht < 1000) : ∀ k, NM (co_e S k) ne nn nc nl (ht + 1)
  | 0 => h.co1 hh
  | k + 1 => by
    rw [co_e_s]
    split
    · exact (NM.coe h hh k).agrees k
    · exact NM.coe h hh k
theorem NM.con {S : sS} {ne nn nc nl ht : Nat} (h : NM S ne nn nc nl ht) : ∀ k, NM (co_n S k) ne nn nc nl ht
  | 0 => h
  | k + 1 => by
    rw [co_n_s]
    split
    · exact (NM.con h k).up _ (by decide)
    · exact NM.con h k
theorem NM.comes {S : sS} {ne nn nc nl ht : Nat} (h : NM S ne nn nc nl ht) (hh : ht < 1000) : NM (sp_comes S) ne nn nc nl (ht + 1) := (h.coe hh _).con _
theorem NM.rise {S : sS} {ne nn nc nl ht : Nat} (h : NM S ne nn nc nl ht) : ∀ k, ht + k ≤ 1000 → NM (ri_k S k) ne nn nc nl (ht + k)
  | 0, _ => h
  | k + 1, hk => (NM.rise h k (by omega)).comes (by omega)
