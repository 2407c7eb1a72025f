/-! THE CLASS'S WORLD: its cells by kind and number at L kind number; what they hold: S, cs, ar as the reference has them; J: votes as bits, the machine's depth, stack and draft, the replays' cells -/
abbrev eJ : Type := (Nat → Int32) × Int32 × (Nat → Int64) × (Nat → Int64) × (Nat → Nat → Int64)
def tr (n : Nat) (f : Nat → Int32) : Nat → Int32 := fun j => if j < n then f j else 0
def trL (n : Nat) (f : Nat → Int64) : Nat → Int64 := fun j => if j < n then f j else 0
def rfs (n : Nat) (f : Nat → Nat) : Nat → Option Nat := fun j => if j < n then some (f j) else none
noncomputable def kpt (L : Nat → Nat → Nat) (x : Int32) : Option Nat := @ite _ (x = -1) (Classical.propDecidable _) none (some (L 10 (cl x)))
theorem kpt_n (L : Nat → Nat → Nat) {x : Int32} (h : x = -1) : kpt L x = none := @if_pos _ (Classical.propDecidable _) h _ _ _
theorem kpt_s (L : Nat → Nat → Nat) {x : Int32} (h : ¬ x = -1) : kpt L x = some (L 10 (cl x)) := @if_neg _ (Classical.propDecidable _) h _ _ _
noncomputable def cE (G : mG) (L : Nat → Nat → Nat) (S : sS) (cs ar : Nat → Int64) (J : eJ) (k i : Nat) : va_E := match k with
  | 0 => .inr (6, [.ref (L 1 0), .ref (L 2 0), .ref (L 3 0), .ref (L 4 0), .ref (L 10 0), .ref (L 5 0), .int (S 0 0), .int (S 7 0), .int (S 12 0), .int (S 18 0), .int (S 5 0), .int (S 24 0)])
  | 1 => aQ G 3 10 (rfs (cl (S 0 0)) (L 10))
  | 2 => aQ G 4 12 (rfs (cl (S 7 0)) (L 20))
  | 3 => aQ G 5 12 (rfs (cl (S 12 0)) (L 30))
  | 4 => aQ G 6 64 (rfs (cl (S 18 0)) (L 40))
  | 5 => oMa (L 6 0) (L 7 0) J.2.1
  | 6 => aJ G 24 J.2.2.1
  | 7 => oCe (L 8 0)
  | 8 => aJ G 4 J.2.2.2.1
  | 10 => oEd (nI i) (L 11 i) (L 12 i) (S 3 i) (S 4 i)
  | 11 => aI G 9 (tr 9 (fun j => S 1 (9 * i + j)))
  | 12 => aI G 8 (tr 8 (fun j => S 2 (8 * i + j)))
  | 20 => oNo (S 8 i) (S 9 i) (J.1 i) (S 10 i)
  | 30 => oCo (L 31 i) (L 32 i) (L 33 i) (L 35 i) (S 14 i) (kpt L (S 13 i))
  | 31 => aI G 24 (tr 24 (fun j => S 15 (24 * i + j)))
  | 32 => aI G 24 (tr 24 (fun j => S 16 (24 * i + j)))
  | 33 => oCe (L 34 i)
  | 34 => aJ G 4 (trL 4 (fun j => cs (4 * i + j)))
  | 35 => oCe (L 36 i)
  | 36 => aJ G 4 (J.2.2.2.2 i)
  | _ => oEn (S 19 i) (ar i) (S 22 i) (S 20 i) (S 23 i)
theorem cE_0 (G : mG) (L : Nat → Nat → Nat) (S : sS) (cs ar : Nat → Int64) (J : eJ) (i : Nat) : cE G L S cs ar J 0 i = .inr (6, [.ref (L 1 0), .ref (L 2 0), .ref (L 3 0), .ref (L 4 0), .ref (L 10 0), .ref (L 5 0), .int (S 0 0), .int (S 7 0), .int (S 12 0), .int (S 18 0), .int (S 5 0), .int (S 24 0)]) := rfl
theorem cE_1 (G : mG) (L : Nat → Nat → Nat) (S : sS) (cs ar : Nat → Int64) (J : eJ) (i : Nat) : cE G L S cs ar J 1 i = aQ G 3 10 (rfs (cl (S 0 0)) (L 10)) := rfl
theorem cE_2 (G : mG) (L : Nat → Nat → Nat) (S : sS) (cs ar : Nat → Int64) (J : eJ) (i : Nat) : cE G L S cs ar J 2 i = aQ G 4 12 (rfs (cl (S 7 0)) (L 20)) := rfl
theorem cE_3 (G : mG) (L : Nat → Nat → Nat) (S : sS) (cs ar : Nat → Int64) (J : eJ) (i : Nat) : cE G L S cs ar J 3 i = aQ G 5 12 (rfs (cl (S 12 0)) (L 30)) := rfl
theorem cE_4 (G : mG) (L : Nat → Nat → Nat) (S : sS) (cs ar : Nat → Int64) (J : eJ) (i : Nat) : cE G L S cs ar J 4 i = aQ G 6 64 (rfs (cl (S 18 0)) (L 40)) := rfl
theorem cE_5 (G : mG) (L : Nat → Nat → Nat) (S : sS) (cs ar : Nat → Int64) (J : eJ) (i : Nat) : cE G L S cs ar J 5 i = oMa (L 6 0) (L 7 0) J.2.1 := rfl
theorem cE_6 (G : mG) (L : Nat → Nat → Nat) (S : sS) (cs ar : Nat → Int64) (J : eJ) (i : Nat) : cE G L S cs ar J 6 i = aJ G 24 J.2.2.1 := rfl
theorem cE_7 (G : mG) (L : Nat → Nat → Nat) (S : sS) (cs ar : Nat → Int64) (J : eJ) (i : Nat) : cE G L S cs ar J 7 i = oCe (L 8 0) := rfl
theorem cE_8 (G : mG) (L : Nat → Nat → Nat) (S : sS) (cs ar : Nat → Int64) (J : eJ) (i : Nat) : cE G L S cs ar J 8 i = aJ G 4 J.2.2.2.1 := rfl
theorem cE_10 (G : mG) (L : Nat → Nat → Nat) (S : sS) (cs ar : Nat → Int64) (J : eJ) (i : Nat) : cE G L S cs ar J 10 i = oEd (nI i) (L 11 i) (L 12 i) (S 3 i) (S 4 i) := rfl
theorem cE_11 (G : mG) (L : Nat → Nat → Nat) (S : sS) (cs ar : Nat → Int64) (J : eJ) (i : Nat) : cE G L S cs ar J 11 i = aI G 9 (tr 9 (fun j => S 1 (9 * i + j))) := rfl
theorem cE_12 (G : mG) (L : Nat → Nat → Nat) (S : sS) (cs ar : Nat → Int64) (J : eJ) (i : Nat) : cE G L S cs ar J 12 i = aI G 8 (tr 8 (fun j => S 2 (8 * i + j))) := rfl
theorem cE_20 (G : mG) (L : Nat → Nat → Nat) (S : sS) (cs ar : Nat → Int64) (J : eJ) (i : Nat) : cE G L S cs ar J 20 i = oNo (S 8 i) (S 9 i) (J.1 i) (S 10 i) := rfl
theorem cE_30 (G : mG) (L : Nat → Nat → Nat) (S : sS) (cs ar : Nat → Int64) (J : eJ) (i : Nat) : cE G L S cs ar J 30 i = oCo (L 31 i) (L 32 i) (L 33 i) (L 35 i) (S 14 i) (kpt L (S 13 i)) := rfl
theorem cE_31 (G : mG) (L : Nat → Nat → Nat) (S : sS) (cs ar : Nat → Int64) (J : eJ) (i : Nat) : cE G L S cs ar J 31 i = aI G 24 (tr 24 (fun j => S 15 (24 * i + j))) := rfl
theorem cE_32 (G : mG) (L : Nat → Nat → Nat) (S : sS) (cs ar : Nat → Int64) (J : eJ) (i : Nat) : cE G L S cs ar J 32 i = aI G 24 (tr 24 (fun j => S 16 (24 * i + j))) := rfl
theorem cE_33 (G : mG) (L : Nat → Nat → Nat) (S : sS) (cs ar : Nat → Int64) (J : eJ) (i : Nat) : cE G L S cs ar J 33 i = oCe (L 34 i) := rfl
theorem cE_34 (G : mG) (L : Nat → Nat → Nat) (S : sS) (cs ar : Nat → Int64) (J : eJ) (i : Nat) : cE G L S cs ar J 34 i = aJ G 4 (trL 4 (fun j => cs (4 * i + j))) := rfl
theorem cE_35 (G : mG) (L : Nat → Nat → Nat) (S : sS) (cs ar : Nat → Int64) (J : eJ) (i : Nat) : cE G L S cs ar J 35 i = oCe (L 36 i) := rfl
theorem cE_36 (G : mG) (L : Nat → Nat → Nat) (S : sS) (cs ar : Nat → Int64) (J : eJ) (i : Nat) : cE G L S cs ar J 36 i = aJ G 4 (J.2.2.2.2 i) := rfl
theorem cE_40 (G : mG) (L : Nat → Nat → Nat) (S : sS) (cs ar : Nat → Int64) (J : eJ) (i : Nat) : cE G L S cs ar J 40 i = oEn (S 19 i) (ar i) (S 22 i) (S 20 i) (S 23 i) := rfl
/-- which cells are there -/
def lvq (ne nn nc nl k i : Nat) : Prop := (k ≤ 8 ∧ i = 0) ∨ ((k = 10 ∨ k = 11 ∨ k = 12) ∧ i < ne) ∨ (k = 20 ∧ i < nn) ∨ ((k = 30 ∨ k = 31 ∨ k = 32 ∨ k = 33 ∨ k = 34 ∨ k = 35 ∨ k = 36) ∧ i < nc) ∨ (k = 40 ∧ i < nl)
abbrev lvs (S : sS) (k i : Nat) : Prop := lvq (cl (S 0 0)) (cl (S 7 0)) (cl (S 12 0)) (cl (S 18 0)) k i
def EV (G : mG) (L : Nat → Nat → Nat) (S : sS) (cs ar : Nat → Int64) (J : eJ) (M : mM) : Prop :=
  (∀ k i, lvs S k i → M (L k i) = some (cE G L S cs ar J k i)) ∧ ∀ k i k' i', lvs S k i → lvs S k' i' → L k i = L k' i' → k = k' ∧ i = i'
theorem lv_ind {ne nn nc nl : Nat} {P : Nat → Nat → Prop} (h0 : P 0 0) (h1 : P 1 0) (h2 : P 2 0) (h3 : P 3 0) (h4 : P 4 0) (h5 : P 5 0) (h6 : P 6 0) (h7 : P 7 0) (h8 : P 8 0) (h10 : ∀ i, i < ne → P 10 i) (h11 : ∀ i, i < ne → P 11 i) (h12 : ∀ i, i < ne → P 12 i) (h20 : ∀ i, i < nn → P 20 i)
    (h30 : ∀ i, i < nc → P 30 i) (h31 : ∀ i, i < nc → P 31 i) (h32 : ∀ i, i < nc → P 32 i) (h33 : ∀ i, i < nc → P 33 i) (h34 : ∀ i, i < nc → P 34 i) (h35 : ∀ i, i < nc → P 35 i) (h36 : ∀ i, i < nc → P 36 i) (h40 : ∀ i, i < nl → P 40 i) : ∀ k i, lvq ne nn nc nl k i → P k i := by
  intro k i h
  rcases h with ⟨hk, rfl⟩ | ⟨rfl | rfl | rfl, hi⟩ | ⟨rfl, hi⟩ | ⟨rfl | rfl | rfl | rfl | rfl | rfl | rfl, hi⟩ | ⟨rfl, hi⟩
  · match k, hk with
    | 0, _ => exact h0
    | 1, _ => exact h1
    | 2, _ => exact h2
    | 3, _ => exact h3
    | 4, _ => exact h4
    | 5, _ => exact h5
    | 6, _ => exact h6
    | 7, _ => exact h7
    | 8, _ => exact h8
    | 9, h => exact absurd h (by decide)
  · exact h10 i hi
  · exact h11 i hi
  · exact h12 i hi
  · exact h20 i hi
  · exact h30 i hi
  · exact h31 i hi
  · exact h32 i hi
  · exact h33 i hi
  · exact h34 i hi
  · exact h35 i hi
  · exact h36 i hi
  · exact h40 i hi
section EVA
variable {G : mG} {L : Nat → Nat → Nat} {S : sS} {cs ar : Nat → Int64} {J : eJ} {M : mM}
theorem lv_0 (S : sS) (k : Nat) (h : k ≤ 8) : lvs S k 0 := Or.inl ⟨h, rfl⟩
theorem lv_e (S : sS) {k i : Nat} (h : k = 10 ∨ k = 11 ∨ k = 12) (hi : i < cl (S 0 0)) : lvs S k i := Or.inr (Or.inl ⟨h, hi⟩)
theorem lv_n (S : sS) {i : Nat} (hi : i < cl (S 7 0)) : lvs S 20 i := Or.inr (Or.inr (Or.inl ⟨rfl, hi⟩))
theorem lv_c (S : sS) {k i : Nat} (h : k = 30 ∨ k = 31 ∨ k = 32 ∨ k = 33 ∨ k = 34 ∨ k = 35 ∨ k = 36) (hi : i < cl (S 12 0)) : lvs S k i := Or.inr (Or.inr (Or.inr (Or.inl ⟨h, hi⟩)))
theorem lv_l (S : sS) {i : Nat} (hi : i < cl (S 18 0)) : lvs S 40 i := Or.inr (Or.inr (Or.inr (Or.inr ⟨rfl, hi⟩)))
theorem EV.k0 (h : EV G L S cs ar J M) : M (L 0 0) = some (.inr (6, [.ref (L 1 0), .ref (L 2 0), .ref (L 3 0), .ref (L 4 0), .ref (L 10 0), .ref (L 5 0), .int (S 0 0), .int (S 7 0), .int (S 12 0), .int (S 18 0), .int (S 5 0), .int (S 24 0)])) := h.1 0 0 (lv_0 S 0 (by decide))
theorem EV.k1 (h : EV G L S cs ar J M) : M (L 1 0) = some (aQ G 3 10 (rfs (cl (S 0 0)) (L 10))) := h.1 1 0 (lv_0 S 1 (by decide))
theorem EV.k2 (h : EV G L S cs ar J M) : M (L 2 0) = some (aQ G 4 12 (rfs (cl (S 7 0)) (L 20))) := h.1 2 0 (lv_0 S 2 (by decide))
theorem EV.k3 (h : EV G L S cs ar J M) : M (L 3 0) = some (aQ G 5 12 (rfs (cl (S 12 0)) (L 30))) := h.1 3 0 (lv_0 S 3 (by decide))
theorem EV.k4 (h : EV G L S cs ar J M) : M (L 4 0) = some (aQ G 6 64 (rfs (cl (S 18 0)) (L 40))) := h.1 4 0 (lv_0 S 4 (by decide))
theorem EV.k5 (h : EV G L S cs ar J M) : M (L 5 0) = some (oMa (L 6 0) (L 7 0) J.2.1) := h.1 5 0 (lv_0 S 5 (by decide))
theorem EV.k6 (h : EV G L S cs ar J M) : M (L 6 0) = some (aJ G 24 J.2.2.1) := h.1 6 0 (lv_0 S 6 (by decide))
theorem EV.k7 (h : EV G L S cs ar J M) : M (L 7 0) = some (oCe (L 8 0)) := h.1 7 0 (lv_0 S 7 (by decide))
theorem EV.k8 (h : EV G L S cs ar J M) : M (L 8 0) = some (aJ G 4 J.2.2.2.1) := h.1 8 0 (lv_0 S 8 (by decide))
theorem EV.k10 (h : EV G L S cs ar J M) {i : Nat} (hi : i < cl (S 0 0)) : M (L 10 i) = some (oEd (nI i) (L 11 i) (L 12 i) (S 3 i) (S 4 i)) := h.1 10 i (lv_e S (by decide) hi)
theorem EV.k11 (h : EV G L S cs ar J M) {i : Nat} (hi : i < cl (S 0 0)) : M (L 11 i) = some (aI G 9 (tr 9 (fun j => S 1 (9 * i + j)))) := h.1 11 i (lv_e S (by decide) hi)
theorem EV.k12 (h : EV G L S cs ar J M) {i : Nat} (hi : i < cl (S 0 0)) : M (L 12 i) = some (aI G 8 (tr 8 (fun j => S 2 (8 * i + j)))) := h.1 12 i (lv_e S (by decide) hi)
theorem EV.k20 (h : EV G L S cs ar J M) {i : Nat} (hi : i < cl (S 7 0)) : M (L 20 i) = some (oNo (S 8 i) (S 9 i) (J.1 i) (S 10 i)) := h.1 20 i (lv_n S hi)
theorem EV.k30 (h : EV G L S cs ar J M) {i : Nat} (hi : i < cl (S 12 0)) : M (L 30 i) = some (oCo (L 31 i) (L 32 i) (L 33 i) (L 35 i) (S 14 i) (kpt L (S 13 i))) := h.1 30 i (lv_c S (by decide) hi)
theorem EV.k31 (h : EV G L S cs ar J M) {i : Nat} (hi : i < cl (S 12 0)) : M (L 31 i) = some (aI G 24 (tr 24 (fun j => S 15 (24 * i + j)))) := h.1 31 i (lv_c S (by decide) hi)
theorem EV.k32 (h : EV G L S cs ar J M) {i : Nat} (hi : i < cl (S 12 0)) : M (L 32 i) = some (aI G 24 (tr 24 (fun j => S 16 (24 * i + j)))) := h.1 32 i (lv_c S (by decide) hi)
theorem EV.k33 (h : EV G L S cs ar J M) {i : Nat} (hi : i < cl (S 12 0)) : M (L 33 i) = some (oCe (L 34 i)) := h.1 33 i (lv_c S (by decide) hi)
theorem EV.k34 (h : EV G L S cs ar J M) {i : Nat} (hi : i < cl (S 12 0)) : M (L 34 i) = some (aJ G 4 (trL 4 (fun j => cs (4 * i + j)))) := h.1 34 i (lv_c S (by decide) hi)
theorem EV.k35 (h : EV G L S cs ar J M) {i : Nat} (hi : i < cl (S 12 0)) : M (L 35 i) = some (oCe (L 36 i)) := h.1 35 i (lv_c S (by decide) hi)
theorem EV.k36 (h : EV G L S cs ar J M) {i : Nat} (hi : i < cl (S 12 0)) : M (L 36 i) = some (aJ G 4 (J.2.2.2.2 i)) := h.1 36 i (lv_c S (by decide) hi)
theorem EV.k40 (h : EV G L S cs ar J M) {i : Nat} (hi : i < cl (S 18 0)) : M (L 40 i) = some (oEn (S 19 i) (ar i) (S 22 i) (S 20 i) (S 23 i)) := h.1 40 i (lv_l S hi)
theorem EV.ne (h : EV G L S cs ar J M) {k i k' i' : Nat} (h1 : lvs S k i) (h2 : lvs S k' i') (hn : ¬ (k = k' ∧ i = i')) : L k i ≠ L k' i' := fun e => hn (h.2 k i k' i' h1 h2 e)
/-- one cell was written -/
theorem EV.one (h : EV G L S cs ar J M) {k0 i0 : Nat} {S' : sS} {cs' ar' : Nat → Int64} {J' : eJ} {M' : mM} (h0 : lvs S k0 i0) (hS : S' 0 0 = S 0 0 ∧ S' 7 0 = S 7 0 ∧ S' 12 0 = S 12 0 ∧ S' 18 0 = S 18 0)
    (hc : ∀ k i, lvs S k i → ¬ (k = k0 ∧ i = i0) → cE G L S' cs' ar' J' k i = cE G L S cs ar J k i) (hM : M' (L k0 i0) = some (cE G L S' cs' ar' J' k0 i0)) (hq : ∀ q, q ≠ L k0 i0 → M' q = M q) : EV G L S' cs' ar' J' M' := by
  have hl : ∀ k i, lvs S' k i = lvs S k i := fun k i => by unfold lvs; rw [hS.1, hS.2.1, hS.2.2.1, hS.2.2.2]
  refine ⟨fun k i hk => ?_, fun k i k' i' h1 h2 e => h.2 k i k' i' (by rw [← hl]; exact h1) (by rw [← hl]; exact h2) e⟩
  rw [hl] at hk
  by_cases e : k = k0 ∧ i = i0
  · obtain ⟨rfl, rfl⟩ := e
    exact hM
  · rw [hq _ (h.ne hk h0 e), hc k i hk e]
    exact h.1 k i hk
end EVA
