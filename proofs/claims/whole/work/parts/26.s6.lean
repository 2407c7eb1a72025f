/-! the highest height of a proposal; the edition in force, as the class finds it; what ties them to the reference's rows -/
def hp_go (S : sS) : Nat → Int32
  | 0 => 0
  | k + 1 => if hp_go S k < S 3 k then S 3 k else hp_go S k
def if_go (S : sS) (a : Int32) : Nat → Nat
  | 0 => 0
  | k + 1 => if S 4 k = 2 ∧ S 3 k ≤ a ∧ S 3 (if_go S a k) < S 3 k then k else if_go S a k
theorem if_go_s (S : sS) (a : Int32) (k : Nat) : if_go S a (k + 1) = if S 4 k = 2 ∧ S 3 k ≤ a ∧ S 3 (if_go S a k) < S 3 k then k else if_go S a k := rfl
theorem if_go_lt (S : sS) (a : Int32) : ∀ n, 1 ≤ n → if_go S a n < n
  | 0, h => absurd h (by decide)
  | 1, _ => by
    rw [if_go_s]
    split
    · exact Nat.zero_lt_one
    · exact Nat.zero_lt_one
  | n + 2, _ => by
    rw [if_go_s]
    have := if_go_lt S a (n + 1) (by omega)
    split
    · omega
    · omega
/-- what was proposed for a height that is come to is decided -/
def PI (S : sS) (ne : Nat) : Prop := ∀ e, e < ne → S 4 e = 1 ∨ S 3 e ≤ S 5 0
theorem hp_lt (S : sS) (h : Int32) : ∀ n, hp_go S n < h ↔ (0 < h ∧ ∀ e, e < n → S 3 e < h)
  | 0 => ⟨fun h1 => ⟨h1, fun e he => absurd he (by omega)⟩, fun h1 => h1.1⟩
  | n + 1 => by
    have ih := hp_lt S h n
    have tr : ∀ {a b c : Int32}, ¬ a < b → a < c → b < c := fun {a b c} h1 h2 => by
      rw [Int32.lt_iff_toInt_lt] at *
      omega
    have tr2 : ∀ {a b c : Int32}, a < b → b < c → a < c := fun {a b c} h1 h2 => by
      rw [Int32.lt_iff_toInt_lt] at *
      omega
    show (if hp_go S n < S 3 n then S 3 n else hp_go S n) < h ↔ _
    by_cases c : hp_go S n < S 3 n
    · rw [if_pos c]
      constructor
      · intro h1
        have h2 := ih.mp (tr2 c h1)
        refine ⟨h2.1, fun e he => ?_⟩
        rcases Nat.lt_succ_iff_lt_or_eq.mp he with h9 | h9
        · exact h2.2 e h9
        · rw [h9]; exact h1
      · intro h1
        exact h1.2 n (by omega)
    · rw [if_neg c]
      constructor
      · intro h1
        have h2 := ih.mp h1
        refine ⟨h2.1, fun e he => ?_⟩
        rcases Nat.lt_succ_iff_lt_or_eq.mp he with h9 | h9
        · exact h2.2 e h9
        · rw [h9]; exact tr c h1
      · intro h1
        exact ih.mpr ⟨h1.1, fun e he => h1.2 e (by omega)⟩
theorem may_iff {S : sS} {ne ht : Nat} {x h : Int32} (hP : PI S ne) (h5 : S 5 0 = nI ht) (ht2 : ht < 2 ^ 31) (h0 : cl (S 0 0) = ne) : pr_may S x h (cl (S 0 0)) ↔ (S 4 (cl x) = 0 ∧ S 5 0 < h ∧ hp_go S ne < h) := by
  rw [h0]
  constructor
  · intro h1
    refine ⟨h1.1, h1.2.1, (hp_lt S h ne).mpr ⟨?_, fun e he => ?_⟩⟩
    · have := h1.2.1
      have p : (0 : Int32) ≤ S 5 0 := by rw [h5]; exact nI_pos' ht2
      rw [Int32.lt_iff_toInt_lt] at *
      rw [Int32.le_iff_toInt_le] at p
      omega
    · rcases h1.2.2 e he with h2 | h2
      · have h3 := (hP e he).resolve_left h2
        have h4 := h1.2.1
        rw [Int32.lt_iff_toInt_lt] at *
        rw [Int32.le_iff_toInt_le] at h3
        omega
      · exact h2
  · intro h1
    exact ⟨h1.1, h1.2.1, fun e he => Or.inr (((hp_lt S h ne).mp h1.2.2).2 e he)⟩
/-- rows 6 and 11 stand in no cell of the class -/
theorem EV.r6 {G : mG} {L : Nat → Nat → Nat} {S : sS} {cs ar : Nat → Int64} {J : eJ} {M : mM} (h : EV G L S cs ar J M) {k : Nat} (hk : k = 6 ∨ k = 11) (f : Nat → Int32) : EV G L (va_up S k f) cs ar J M := by
  have hl : ∀ a b, lvs (va_up S k f) a b = lvs S a b := fun a b => by rcases hk with rfl | rfl <;> rfl
  refine ⟨fun a b hab => ?_, fun a b a' b' h1 h2 e => h.2 a b a' b' (by rw [← hl]; exact h1) (by rw [← hl]; exact h2) e⟩
  rw [hl] at hab
  rw [h.1 a b hab]
  congr 1
  revert a b
  rcases hk with rfl | rfl
  · exact lv_ind (cE_0 G L S cs ar J _) (cE_1 G L S cs ar J _) (cE_2 G L S cs ar J _) (cE_3 G L S cs ar J _) (cE_4 G L S cs ar J _) (cE_5 G L S cs ar J _) (cE_6 G L S cs ar J _) (cE_7 G L S cs ar J _) (cE_8 G L S cs ar J _) (fun i _ => cE_10 G L S cs ar J i) (fun i _ => cE_11 G L S cs ar J i) (fun i _ => cE_12 G L S cs ar J i) (fun i _ => cE_20 G L S cs ar J i) (fun i _ => cE_30 G L S cs ar J i) (fun i _ => cE_31 G L S cs ar J i) (fun i _ => cE_32 G L S cs ar J i) (fun i _ => cE_33 G L S cs ar J i) (fun i _ => cE_34 G L S cs ar J i) (fun i _ => cE_35 G L S cs ar J i) (fun i _ => cE_36 G L S cs ar J i) (fun i _ => cE_40 G L S cs ar J i)
  · exact lv_ind (cE_0 G L S cs ar J _) (cE_1 G L S cs ar J _) (cE_2 G L S cs ar J _) (cE_3 G L S cs ar J _) (cE_4 G L S cs ar J _) (cE_5 G L S cs ar J _) (cE_6 G L S cs ar J _) (cE_7 G L S cs ar J _) (cE_8 G L S cs ar J _) (fun i _ => cE_10 G L S cs ar J i) (fun i _ => cE_11 G L S cs ar J i) (fun i _ => cE_12 G L S cs ar J i) (fun i _ => cE_20 G L S cs ar J i) (fun i _ => cE_30 G L S cs ar J i) (fun i _ => cE_31 G L S cs ar J i) (fun i _ => cE_32 G L S cs ar J i) (fun i _ => cE_33 G L S cs ar J i) (fun i _ => cE_34 G L S cs ar J i) (fun i _ => cE_35 G L S cs ar J i) (fun i _ => cE_36 G L S cs ar J i) (fun i _ => cE_40 G L S cs ar J i)
/-- votes: the class's bits and the reference's row say the same -/
def VR (S : sS) (V : Nat → Int32) : Prop := ∀ n, n < 12 → ∀ e, e < 10 → (V n &&& ((1 : Int32) <<< (nI e &&& 31)) = 0 ↔ S 11 (12 * e + n) = 0)
