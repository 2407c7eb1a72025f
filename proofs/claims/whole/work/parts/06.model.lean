/-! The reference's world: its object g, its rows at L k (k: the field's slot), what they hold: S (ints), c (cells), a (arguments of the log), K (rows of its own use) -/
abbrev aI (G : mG) (n : Nat) (f : Nat → Int32) : va_E := .inl (G.2 0, n, .inl f)
abbrev aJ (G : mG) (n : Nat) (f : Nat → Int64) : va_E := .inl (G.2 1, n, .inr (.inl f))
abbrev aZ (G : mG) (n : Nat) (f : Nat → Int32) : va_E := .inl (G.2 2, n, .inl f)
abbrev aQ (G : mG) (t n : Nat) (f : Nat → Option Nat) : va_E := .inl (G.2 t, n, .inr (.inr (.inr (.inr f))))
abbrev sS : Type := Nat → Nat → Int32
abbrev oMd (L : Nat → Nat) (S : sS) : va_E := .inr (7, [.int (S 0 0), .ref (L 1), .ref (L 2), .ref (L 3), .ref (L 4), .int (S 5 0), .ref (L 6), .int (S 7 0), .ref (L 8), .ref (L 9), .ref (L 10), .ref (L 11), .int (S 12 0), .ref (L 13), .ref (L 14), .ref (L 15), .ref (L 16), .ref (L 17), .int (S 18 0), .ref (L 19), .ref (L 20), .ref (L 21), .ref (L 22), .ref (L 23), .int (S 24 0), .ref (L 25), .ref (L 26), .ref (L 27)])
/-- the int rows, with their lengths -/
def ia (k : Nat) : Option Nat := match k with
  | 1 => some 90
  | 2 => some 80
  | 3 => some 10
  | 4 => some 10
  | 6 => some 1001
  | 8 => some 12
  | 9 => some 12
  | 10 => some 12
  | 13 => some 12
  | 14 => some 12
  | 15 => some 288
  | 16 => some 288
  | 19 => some 64
  | 20 => some 64
  | 22 => some 64
  | 23 => some 64
  | _ => none
/-- the int fields -/
def fi (k : Nat) : Bool := match k with
  | 0 => true
  | 5 => true
  | 7 => true
  | 12 => true
  | 18 => true
  | 24 => true
  | _ => false
def RV (G : mG) (g : Nat) (L : Nat → Nat) (S : sS) (c a : Nat → Int64) (K : Nat → Nat → Int64) (M : mM) : Prop :=
  M g = some (oMd L S) ∧ (∀ k n, ia k = some n → M (L k) = some (aI G n (S k))) ∧ M (L 11) = some (aZ G 120 (S 11)) ∧ M (L 17) = some (aJ G 48 c) ∧ M (L 21) = some (aJ G 64 a) ∧ M (L 25) = some (aJ G 24 (K 25)) ∧ M (L 26) = some (aJ G 4 (K 26)) ∧ M (L 27) = some (aJ G 48 (K 27)) ∧
  (∀ i j, i < 28 → fi i = false → j < 28 → fi j = false → L i = L j → i = j) ∧ ∀ i, i < 28 → fi i = false → L i ≠ g
theorem ia_lt {k n : Nat} (h : ia k = some n) : k < 28 ∧ fi k = false ∧ k ≠ 11 ∧ k ≠ 17 ∧ k ≠ 21 ∧ k ≠ 25 ∧ k ≠ 26 ∧ k ≠ 27 ∧ k ≠ 0 ∧ k ≠ 5 ∧ k ≠ 7 ∧ k ≠ 12 ∧ k ≠ 18 ∧ k ≠ 24 := by
  unfold ia at h
  split at h <;> first | (cases h; done) | decide
theorem oMd_up {L : Nat → Nat} {S : sS} {k n : Nat} (h : ia k = some n) (f : Nat → Int32) : oMd L (va_up S k f) = oMd L S := by
  obtain ⟨-, -, -, -, -, -, -, -, h0, h5, h7, h12, h18, h24⟩ := ia_lt h
  simp only [oMd, va_up, if_neg (Ne.symm h0), if_neg (Ne.symm h5), if_neg (Ne.symm h7), if_neg (Ne.symm h12), if_neg (Ne.symm h18), if_neg (Ne.symm h24)]
theorem RV.setI {G : mG} {g : Nat} {L : Nat → Nat} {S : sS} {c a : Nat → Int64} {K : Nat → Nat → Int64} {M : mM} (h : RV G g L S c a K M) {k n : Nat} (hk : ia k = some n) (f : Nat → Int32) : RV G g L (va_up S k f) c a K (mm_up M (L k) (aI G n f)) := by
  obtain ⟨h1, h2, h3, h4, h5, h6, h7, h8, h9, h10⟩ := h
  obtain ⟨q1, q2, q3, q4, q5, q6, q7, q8, -⟩ := ia_lt hk
  have ne : ∀ j, j < 28 → fi j = false → j ≠ k → L j ≠ L k := fun j a1 a2 a3 a4 => a3 (h9 j k a1 a2 q1 q2 a4)
  refine ⟨?_, fun k' n' hk' => ?_, ?_, ?_, ?_, ?_, ?_, ?_, h9, h10⟩
  · rw [mm_up_n _ _ (fun z => h10 k q1 q2 z.symm), oMd_up hk]; exact h1
  · by_cases e : k' = k
    · subst e
      rw [mm_up_s, va_up_self]
      cases hk.symm.trans hk'
      rfl
    · rw [mm_up_n _ _ (ne k' (ia_lt hk').1 (ia_lt hk').2.1 e), va_up_ne _ _ e]; exact h2 k' n' hk'
  · rw [mm_up_n _ _ (ne 11 (by decide) rfl (Ne.symm q3)), va_up_ne _ _ (Ne.symm q3)]; exact h3
  · rw [mm_up_n _ _ (ne 17 (by decide) rfl (Ne.symm q4))]; exact h4
  · rw [mm_up_n _ _ (ne 21 (by decide) rfl (Ne.symm q5))]; exact h5
  · rw [mm_up_n _ _ (ne 25 (by decide) rfl (Ne.symm q6))]; exact h6
  · rw [mm_up_n _ _ (ne 26 (by decide) rfl (Ne.symm q7))]; exact h7
  · rw [mm_up_n _ _ (ne 27 (by decide) rfl (Ne.symm q8))]; exact h8
theorem RV.setF {G : mG} {g : Nat} {L : Nat → Nat} {S : sS} {c a : Nat → Int64} {K : Nat → Nat → Int64} {M : mM} (h : RV G g L S c a K M) {k : Nat} (hk : fi k = true) (f : Nat → Int32) : RV G g L (va_up S k f) c a K (mm_up M g (oMd L (va_up S k f))) := by
  obtain ⟨h1, h2, h3, h4, h5, h6, h7, h8, h9, h10⟩ := h
  have ne : ∀ j, j < 28 → fi j = false → j ≠ k ∧ L j ≠ g := fun j a1 a2 => ⟨fun z => (by rw [z, hk] at a2; cases a2), h10 j a1 a2⟩
  refine ⟨mm_up_s _ _ _, fun k' n' hk' => ?_, ?_, ?_, ?_, ?_, ?_, ?_, h9, h10⟩
  · rw [mm_up_n _ _ (ne k' (ia_lt hk').1 (ia_lt hk').2.1).2, va_up_ne _ _ (ne k' (ia_lt hk').1 (ia_lt hk').2.1).1]; exact h2 k' n' hk'
  · rw [mm_up_n _ _ (ne 11 (by decide) rfl).2, va_up_ne _ _ (ne 11 (by decide) rfl).1]; exact h3
  · rw [mm_up_n _ _ (ne 17 (by decide) rfl).2]; exact h4
  · rw [mm_up_n _ _ (ne 21 (by decide) rfl).2]; exact h5
  · rw [mm_up_n _ _ (ne 25 (by decide) rfl).2]; exact h6
  · rw [mm_up_n _ _ (ne 26 (by decide) rfl).2]; exact h7
  · rw [mm_up_n _ _ (ne 27 (by decide) rfl).2]; exact h8
theorem RV.setZ {G : mG} {g : Nat} {L : Nat → Nat} {S : sS} {c a : Nat → Int64} {K : Nat → Nat → Int64} {M : mM} (h : RV G g L S c a K M) (f : Nat → Int32) : RV G g L (va_up S 11 f) c a K (mm_up M (L 11) (aZ G 120 f)) := by
  obtain ⟨h1, h2, h3, h4, h5, h6, h7, h8, h9, h10⟩ := h
  have ne : ∀ j, j < 28 → fi j = false → j ≠ 11 → L j ≠ L 11 := fun j a1 a2 a3 a4 => a3 (h9 j 11 a1 a2 (by decide) rfl a4)
  refine ⟨?_, fun k' n' hk' => ?_, ?_, ?_, ?_, ?_, ?_, ?_, h9, h10⟩
  · rw [mm_up_n _ _ (fun z => h10 11 (by decide) rfl z.symm), h1]
    simp [oMd, va_up]
  · rw [mm_up_n _ _ (ne k' (ia_lt hk').1 (ia_lt hk').2.1 (ia_lt hk').2.2.1), va_up_ne _ _ (ia_lt hk').2.2.1]; exact h2 k' n' hk'
  · rw [mm_up_s, va_up_self]
  · rw [mm_up_n _ _ (ne 17 (by decide) rfl (by decide))]; exact h4
  · rw [mm_up_n _ _ (ne 21 (by decide) rfl (by decide))]; exact h5
  · rw [mm_up_n _ _ (ne 25 (by decide) rfl (by decide))]; exact h6
  · rw [mm_up_n _ _ (ne 26 (by decide) rfl (by decide))]; exact h7
  · rw [mm_up_n _ _ (ne 27 (by decide) rfl (by decide))]; exact h8
theorem RV.setC {G : mG} {g : Nat} {L : Nat → Nat} {S : sS} {c a : Nat → Int64} {K : Nat → Nat → Int64} {M : mM} (h : RV G g L S c a K M) (f : Nat → Int64) : RV G g L S f a K (mm_up M (L 17) (aJ G 48 f)) := by
  obtain ⟨h1, h2, h3, h4, h5, h6, h7, h8, h9, h10⟩ := h
  have ne : ∀ j, j < 28 → fi j = false → j ≠ 17 → L j ≠ L 17 := fun j a1 a2 a3 a4 => a3 (h9 j 17 a1 a2 (by decide) rfl a4)
  refine ⟨?_, fun k' n' hk' => ?_, ?_, ?_, ?_, ?_, ?_, ?_, h9, h10⟩
  · rw [mm_up_n _ _ (fun z => h10 17 (by decide) rfl z.symm)]; exact h1
  · rw [mm_up_n _ _ (ne k' (ia_lt hk').1 (ia_lt hk').2.1 (ia_lt hk').2.2.2.1)]; exact h2 k' n' hk'
  · rw [mm_up_n _ _ (ne 11 (by decide) rfl (by decide))]; exact h3
  · rw [mm_up_s]
  · rw [mm_up_n _ _ (ne 21 (by decide) rfl (by decide))]; exact h5
  · rw [mm_up_n _ _ (ne 25 (by decide) rfl (by decide))]; exact h6
  · rw [mm_up_n _ _ (ne 26 (by decide) rfl (by decide))]; exact h7
  · rw [mm_up_n _ _ (ne 27 (by decide) rfl (by decide))]; exact h8
theorem RV.setA {G : mG} {g : Nat} {L : Nat → Nat} {S : sS} {c a : Nat → Int64} {K : Nat → Nat → Int64} {M : mM} (h : RV G g L S c a K M) (f : Nat → Int64) : RV G g L S c f K (mm_up M (L 21) (aJ G 64 f)) := by
  obtain ⟨h1, h2, h3, h4, h5, h6, h7, h8, h9, h10⟩ := h
  have ne : ∀ j, j < 28 → fi j = false → j ≠ 21 → L j ≠ L 21 := fun j a1 a2 a3 a4 => a3 (h9 j 21 a1 a2 (by decide) rfl a4)
  refine ⟨?_, fun k' n' hk' => ?_, ?_, ?_, ?_, ?_, ?_, ?_, h9, h10⟩
  · rw [mm_up_n _ _ (fun z => h10 21 (by decide) rfl z.symm)]; exact h1
  · rw [mm_up_n _ _ (ne k' (ia_lt hk').1 (ia_lt hk').2.1 (ia_lt hk').2.2.2.2.1)]; exact h2 k' n' hk'
  · rw [mm_up_n _ _ (ne 11 (by decide) rfl (by decide))]; exact h3
  · rw [mm_up_n _ _ (ne 17 (by decide) rfl (by decide))]; exact h4
  · rw [mm_up_s]
  · rw [mm_up_n _ _ (ne 25 (by decide) rfl (by decide))]; exact h6
  · rw [mm_up_n _ _ (ne 26 (by decide) rfl (by decide))]; exact h7
  · rw [mm_up_n _ _ (ne 27 (by decide) rfl (by decide))]; exact h8
theorem RV.setK {G : mG} {g : Nat} {L : Nat → Nat} {S : sS} {c a : Nat → Int64} {K : Nat → Nat → Int64} {M : mM} (h : RV G g L S c a K M) {k n : Nat} (hk : (k = 25 ∧ n = 24) ∨ (k = 26 ∧ n = 4) ∨ (k = 27 ∧ n = 48)) (f : Nat → Int64) : RV G g L S c a (va_up K k f) (mm_up M (L k) (aJ G n f)) := by
  obtain ⟨h1, h2, h3, h4, h5, h6, h7, h8, h9, h10⟩ := h
  have hk2 : k < 28 ∧ fi k = false ∧ k ≠ 11 ∧ k ≠ 17 ∧ k ≠ 21 ∧ ia k = none := by rcases hk with ⟨rfl, -⟩ | ⟨rfl, -⟩ | ⟨rfl, -⟩ <;> decide
  have ne : ∀ j, j < 28 → fi j = false → j ≠ k → L j ≠ L k := fun j a1 a2 a3 a4 => a3 (h9 j k a1 a2 hk2.1 hk2.2.1 a4)
  have key : ∀ k' n', M (L k') = some (aJ G n' (K k')) → ((k' = 25 ∧ n' = 24) ∨ (k' = 26 ∧ n' = 4) ∨ (k' = 27 ∧ n' = 48)) → mm_up M (L k) (aJ G n f) (L k') = some (aJ G n' (va_up K k f k')) := by
    intro k' n' hm hk'
    by_cases e : k' = k
    · subst e
      rw [mm_up_s, va_up_self]
      have : n = n' := by omega
      rw [this]
    · have h28 : k' < 28 ∧ fi k' = false := by rcases hk' with ⟨rfl, -⟩ | ⟨rfl, -⟩ | ⟨rfl, -⟩ <;> decide
      rw [mm_up_n _ _ (ne k' h28.1 h28.2 e), va_up_ne _ _ e]; exact hm
  refine ⟨?_, fun k' n' hk' => ?_, ?_, ?_, ?_, key 25 24 h6 (by omega), key 26 4 h7 (by omega), key 27 48 h8 (by omega), h9, h10⟩
  · rw [mm_up_n _ _ (fun z => h10 k hk2.1 hk2.2.1 z.symm)]; exact h1
  · rw [mm_up_n _ _ (ne k' (ia_lt hk').1 (ia_lt hk').2.1 (fun z => by rw [z, hk2.2.2.2.2.2] at hk'; cases hk'))]; exact h2 k' n' hk'
  · rw [mm_up_n _ _ (ne 11 (by decide) rfl (Ne.symm hk2.2.2.1))]; exact h3
  · rw [mm_up_n _ _ (ne 17 (by decide) rfl (Ne.symm hk2.2.2.2.1))]; exact h4
  · rw [mm_up_n _ _ (ne 21 (by decide) rfl (Ne.symm hk2.2.2.2.2.1))]; exact h5
section RVR
variable {p : Program} {l : Launch} {e : Env} {R : Room} {s : State} {m : MethodId} {args : Array Value} {below : List Frame} {meth : Method} {c : Code} {H : Heap} {locs : List Loc} {cells slots : Nat} {Q : State → Prop}
variable {cc : ByteArray} {pc : Nat} {ls : Array Slot} {rest : List Value} {G : mG} {A : Nat → Prop} {H0 : Heap} {M : mM} {own : String} {nL : Nat} {rt : Option FieldType}
variable {g : Nat} {L : Nat → Nat} {S : sS} {cs ar : Nat → Int64} {K : Nat → Nat → Int64}
theorem vin_n {i : Int32} {j n : Nat} (hi : i = nI j) (hj : j < n) (hn : n < 2 ^ 31) : vp_in i n := by rw [hi]; exact vp_in_nI hj hn
theorem ria_lt {k n : Nat} (h : ia k = some n) : n < 2 ^ 31 := by
  unfold ia at h
  split at h <;> first | (cases h; done) | (cases h; decide)
theorem ri_iald (X : mm_Cx p s m args meth c G own cc nL rt) (hw : mm_W G.1 vwCl A H0 M H locs) (hR : RV G g L S cs ar K M) (k : Nat) {n : Nat} (h : ia k = some n) {i : Int32} (j : Nat) (hi : i = nI j) (hj : j < n) (hdg : decode cc pc = .ok (.iaload, 1))
    (kk : W p l e R s m args below meth c H locs cells slots Q (F0 m (pc + 1) ls (.int (S k j) :: rest))) : W p l e R s m args below meth c H locs cells slots Q (F0 m pc ls (.int i :: .ref (L k) :: rest)) := by
  refine mm_iald X.1 X.2.1 X.2.2.2.2.2.1.1 hw 0 (hR.2.1 k n h) rfl (vin_n hi hj (ria_lt h)) hdg ?_
  rw [hi, nI_clamp (Nat.lt_trans hj (ria_lt h))]
  exact kk
theorem ri_iast (X : mm_Cx p s m args meth c G own cc nL rt) (hw : mm_W G.1 vwCl A H0 M H locs) (hR : RV G g L S cs ar K M) (k : Nat) {n : Nat} (h : ia k = some n) {i x : Int32} (j : Nat) (hi : i = nI j) (hj : j < n) (hdg : decode cc pc = .ok (.iastore, 1))
    (kk : ∀ (M1 : mM) (H1 : Heap) (locs1 : List Loc), mm_W G.1 vwCl A H0 M1 H1 locs1 → RV G g L (va_up S k (upd (S k) j x)) cs ar K M1 → W p l e R s m args below meth c H1 locs1 cells slots Q (F0 m (pc + 1) ls rest)) : W p l e R s m args below meth c H locs cells slots Q (F0 m pc ls (.int x :: .int i :: .ref (L k) :: rest)) := by
  refine mm_iast X.1 X.2.1 X.2.2.2.2.2.1.1 hw 0 (hR.2.1 k n h) rfl (vin_n hi hj (ria_lt h)) hdg (fun H1 locs1 hw => ?_)
  rw [hi, nI_clamp (Nat.lt_trans hj (ria_lt h))] at hw
  exact kk _ H1 locs1 hw (hR.setI h _)
theorem rz_zald (X : mm_Cx p s m args meth c G own cc nL rt) (hw : mm_W G.1 vwCl A H0 M H locs) (hR : RV G g L S cs ar K M) {i : Int32} (j : Nat) (hi : i = nI j) (hj : j < 120) (hdg : decode cc pc = .ok (.baload, 1))
    (kk : W p l e R s m args below meth c H locs cells slots Q (F0 m (pc + 1) ls (.int (S 11 j) :: rest))) : W p l e R s m args below meth c H locs cells slots Q (F0 m pc ls (.int i :: .ref (L 11) :: rest)) := by
  refine mm_zald X.1 X.2.1 X.2.2.2.2.2.1.1 hw 2 hR.2.2.1 rfl (vin_n hi hj (by decide)) hdg ?_
  rw [hi, nI_clamp (Nat.lt_trans hj (by decide))]
  exact kk
theorem rc_lald (X : mm_Cx p s m args meth c G own cc nL rt) (hw : mm_W G.1 vwCl A H0 M H locs) (hR : RV G g L S cs ar K M) {i : Int32} (j : Nat) (hi : i = nI j) (hj : j < 48) (hdg : decode cc pc = .ok (.laload, 1))
    (kk : W p l e R s m args below meth c H locs cells slots Q (F0 m (pc + 1) ls (.long (cs j) :: rest))) : W p l e R s m args below meth c H locs cells slots Q (F0 m pc ls (.int i :: .ref (L 17) :: rest)) := by
  refine mm_lald X.1 X.2.1 X.2.2.2.2.2.1.1 hw 1 hR.2.2.2.1 rfl (vin_n hi hj (by decide)) hdg ?_
  rw [hi, nI_clamp (Nat.lt_trans hj (by decide))]
  exact kk
theorem rc_last (X : mm_Cx p s m args meth c G own cc nL rt) (hw : mm_W G.1 vwCl A H0 M H locs) (hR : RV G g L S cs ar K M) {i : Int32} {x : Int64} (j : Nat) (hi : i = nI j) (hj : j < 48) (hdg : decode cc pc = .ok (.lastore, 1))
    (kk : ∀ (M1 : mM) (H1 : Heap) (locs1 : List Loc), mm_W G.1 vwCl A H0 M1 H1 locs1 → RV G g L S (vp_updL cs j x) ar K M1 → W p l e R s m args below meth c H1 locs1 cells slots Q (F0 m (pc + 1) ls rest)) : W p l e R s m args below meth c H locs cells slots Q (F0 m pc ls (.long x :: .int i :: .ref (L 17) :: rest)) := by
  refine mm_last X.1 X.2.1 X.2.2.2.2.2.1.1 hw 1 hR.2.2.2.1 rfl (vin_n hi hj (by decide)) hdg (fun H1 locs1 hw => ?_)
  rw [hi, nI_clamp (Nat.lt_trans hj (by decide))] at hw
  exact kk _ H1 locs1 hw (hR.setC _)
theorem ra_lald (X : mm_Cx p s m args meth c G own cc nL rt) (hw : mm_W G.1 vwCl A H0 M H locs) (hR : RV G g L S cs ar K M) {i : Int32} (j : Nat) (hi : i = nI j) (hj : j < 64) (hdg : decode cc pc = .ok (.laload, 1))
    (kk : W p l e R s m args below meth c H locs cells slots Q (F0 m (pc + 1) ls (.long (ar j) :: rest))) : W p l e R s m args below meth c H locs cells slots Q (F0 m pc ls (.int i :: .ref (L 21) :: rest)) := by
  refine mm_lald X.1 X.2.1 X.2.2.2.2.2.1.1 hw 1 hR.2.2.2.2.1 rfl (vin_n hi hj (by decide)) hdg ?_
  rw [hi, nI_clamp (Nat.lt_trans hj (by decide))]
  exact kk
theorem ra_last (X : mm_Cx p s m args meth c G own cc nL rt) (hw : mm_W G.1 vwCl A H0 M H locs) (hR : RV G g L S cs ar K M) {i : Int32} {x : Int64} (j : Nat) (hi : i = nI j) (hj : j < 64) (hdg : decode cc pc = .ok (.lastore, 1))
    (kk : ∀ (M1 : mM) (H1 : Heap) (locs1 : List Loc), mm_W G.1 vwCl A H0 M1 H1 locs1 → RV G g L S cs (vp_updL ar j x) K M1 → W p l e R s m args below meth c H1 locs1 cells slots Q (F0 m (pc + 1) ls rest)) : W p l e R s m args below meth c H locs cells slots Q (F0 m pc ls (.long x :: .int i :: .ref (L 21) :: rest)) := by
  refine mm_last X.1 X.2.1 X.2.2.2.2.2.1.1 hw 1 hR.2.2.2.2.1 rfl (vin_n hi hj (by decide)) hdg (fun H1 locs1 hw => ?_)
  rw [hi, nI_clamp (Nat.lt_trans hj (by decide))] at hw
  exact kk _ H1 locs1 hw (hR.setA _)
theorem rk_at (hR : RV G g L S cs ar K M) {k n : Nat} (hk : (k = 25 ∧ n = 24) ∨ (k = 26 ∧ n = 4) ∨ (k = 27 ∧ n = 48)) : M (L k) = some (aJ G n (K k)) := by
  rcases hk with ⟨rfl, rfl⟩ | ⟨rfl, rfl⟩ | ⟨rfl, rfl⟩
  · exact hR.2.2.2.2.2.1
  · exact hR.2.2.2.2.2.2.1
  · exact hR.2.2.2.2.2.2.2.1
theorem rk_lald (X : mm_Cx p s m args meth c G own cc nL rt) (hw : mm_W G.1 vwCl A H0 M H locs) (hR : RV G g L S cs ar K M) (k : Nat) {n : Nat} (hk : (k = 25 ∧ n = 24) ∨ (k = 26 ∧ n = 4) ∨ (k = 27 ∧ n = 48)) {i : Int32} (j : Nat) (hi : i = nI j) (hj : j < n) (hdg : decode cc pc = .ok (.laload, 1))
    (kk : W p l e R s m args below meth c H locs cells slots Q (F0 m (pc + 1) ls (.long (K k j) :: rest))) : W p l e R s m args below meth c H locs cells slots Q (F0 m pc ls (.int i :: .ref (L k) :: rest)) := by
  refine mm_lald X.1 X.2.1 X.2.2.2.2.2.1.1 hw 1 (rk_at hR hk) rfl (vin_n hi hj (by omega)) hdg ?_
  rw [hi, nI_clamp (show j < 2 ^ 31 by omega)]
  exact kk
theorem rk_last (X : mm_Cx p s m args meth c G own cc nL rt) (hw : mm_W G.1 vwCl A H0 M H locs) (hR : RV G g L S cs ar K M) (k : Nat) {n : Nat} (hk : (k = 25 ∧ n = 24) ∨ (k = 26 ∧ n = 4) ∨ (k = 27 ∧ n = 48)) {i : Int32} {x : Int64} (j : Nat) (hi : i = nI j) (hj : j < n) (hdg : decode cc pc = .ok (.lastore, 1))
    (kk : ∀ (M1 : mM) (H1 : Heap) (locs1 : List Loc), mm_W G.1 vwCl A H0 M1 H1 locs1 → RV G g L S cs ar (va_up K k (vp_updL (K k) j x)) M1 → W p l e R s m args below meth c H1 locs1 cells slots Q (F0 m (pc + 1) ls rest)) : W p l e R s m args below meth c H locs cells slots Q (F0 m pc ls (.long x :: .int i :: .ref (L k) :: rest)) := by
  refine mm_last X.1 X.2.1 X.2.2.2.2.2.1.1 hw 1 (rk_at hR hk) rfl (vin_n hi hj (by omega)) hdg (fun H1 locs1 hw => ?_)
  rw [hi, nI_clamp (show j < 2 ^ 31 by omega)] at hw
  exact kk _ H1 locs1 hw (hR.setK hk _)
theorem nar_b {x : Int32} (h : x = 0 ∨ x = 1) : narrow .boolean (.int x) = .int x := by rcases h with rfl | rfl <;> rfl
theorem mm_zast {D : va_G} {cl : List vw_C} {tys : List (ClassId × FieldType)} {a : Nat} (hexec : p.tables.exec = Jvm.exec) (hb : c.code = cc) (hK : va_K D cl tys s) (hw : mm_W D cl A H0 M H locs) (t0 : Nat) {cA : ClassId} {n : Nat} {f : Nat → Int32} (ha : M a = some (.inl (cA, n, .inl f))) (ht : tys[t0]? = some (cA, .boolean)) {i x : Int32} (hx : x = 0 ∨ x = 1) (hin : vp_in i n) (hdg : decode cc pc = .ok (.bastore, 1))
    (kk : ∀ (H1 : Heap) (locs1 : List Loc), mm_W D cl A H0 (mm_up M a (.inl (cA, n, .inl (upd f i.toNatClampNeg x)))) H1 locs1 → W p l e R s m args below meth c H1 locs1 cells slots Q (F0 m (pc + 1) ls rest)) : W p l e R s m args below meth c H locs cells slots Q (F0 m pc ls (.int x :: .int i :: .ref a :: rest)) := by
  refine W.zast hexec hb (hw.1 a _ ha) ((hK.2 t0 _ ht).1 n (fun j => .int (f j))) (fun q => by cases q) (by show ¬ (i < 0 ∨ (arrV _ _ _).slots.size ≤ _); rw [arrV_size]; exact hin) rfl rfl hdg fun H1 e z oq => ?_
  refine kk H1 _ (hw.set ha ?_ z oq _)
  show H1[a]? = some (vp_cell cA (n, .inl (upd f i.toNatClampNeg x)))
  rw [e, nar_b hx]
  show some ((vp_cell cA (n, .inl f)).setSlot _ _) = _
  rw [vp_cell_i, vp_cell_i, arrV_store]
  congr 2
  funext q
  by_cases hq : q = i.toNatClampNeg
  · subst hq
    simp [updV, upd]
  · simp [updV, upd, hq]
theorem rz_zast (X : mm_Cx p s m args meth c G own cc nL rt) (hw : mm_W G.1 vwCl A H0 M H locs) (hR : RV G g L S cs ar K M) {i x : Int32} (hx : x = 0 ∨ x = 1) (j : Nat) (hi : i = nI j) (hj : j < 120) (hdg : decode cc pc = .ok (.bastore, 1))
    (kk : ∀ (M1 : mM) (H1 : Heap) (locs1 : List Loc), mm_W G.1 vwCl A H0 M1 H1 locs1 → RV G g L (va_up S 11 (upd (S 11) j x)) cs ar K M1 → W p l e R s m args below meth c H1 locs1 cells slots Q (F0 m (pc + 1) ls rest)) : W p l e R s m args below meth c H locs cells slots Q (F0 m pc ls (.int x :: .int i :: .ref (L 11) :: rest)) := by
  refine mm_zast X.1 X.2.1 X.2.2.2.2.2.1.1 hw 2 hR.2.2.1 rfl hx (vin_n hi hj (by decide)) hdg (fun H1 locs1 hw => ?_)
  rw [hi, nI_clamp (Nat.lt_trans hj (by decide))] at hw
  exact kk _ H1 locs1 hw (hR.setZ _)
theorem rg_7 (X : mm_Cx p s m args meth c G RX7 cc nL rt) (hw : mm_W G.1 vwCl A H0 M H locs) (hR : RV G g L S cs ar K M) (hdg : decode cc pc = .ok (.getfield 7, 3)) (kk : W p l e R s m args below meth c H locs cells slots Q (F0 m (pc + 3) ls (.int (S 0 0) :: rest))) : W p l e R s m args below meth c H locs cells slots Q (F0 m pc ls (.ref g :: rest)) := gf_X7_7 X hw hR.1 rfl hdg kk
theorem rp_7 (X : mm_Cx p s m args meth c G RX7 cc nL rt) (hw : mm_W G.1 vwCl A H0 M H locs) (hR : RV G g L S cs ar K M) {x : Int32} (hdg : decode cc pc = .ok (.putfield 7, 3)) (kk : ∀ (M1 : mM) (H1 : Heap) (locs1 : List Loc), mm_W G.1 vwCl A H0 M1 H1 locs1 → RV G g L (va_up S 0 (fun _ => x)) cs ar K M1 → W p l e R s m args below meth c H1 locs1 cells slots Q (F0 m (pc + 3) ls rest)) : W p l e R s m args below meth c H locs cells slots Q (F0 m pc ls (.int x :: .ref g :: rest)) := pf_X7_7 X hw hR.1 (Nat.le_of_ble_eq_true rfl) hdg (fun H1 locs1 hw => kk _ H1 locs1 hw (by have h := hR.setF (k := 0) rfl (fun _ => x); simp only [oMd, va_up] at h; exact h))
theorem rg_13 (X : mm_Cx p s m args meth c G RX7 cc nL rt) (hw : mm_W G.1 vwCl A H0 M H locs) (hR : RV G g L S cs ar K M) (hdg : decode cc pc = .ok (.getfield 13, 3)) (kk : W p l e R s m args below meth c H locs cells slots Q (F0 m (pc + 3) ls (.ref (L 1) :: rest))) : W p l e R s m args below meth c H locs cells slots Q (F0 m pc ls (.ref g :: rest)) := gf_X7_13 X hw hR.1 rfl hdg kk
theorem rg_17 (X : mm_Cx p s m args meth c G RX7 cc nL rt) (hw : mm_W G.1 vwCl A H0 M H locs) (hR : RV G g L S cs ar K M) (hdg : decode cc pc = .ok (.getfield 17, 3)) (kk : W p l e R s m args below meth c H locs cells slots Q (F0 m (pc + 3) ls (.ref (L 2) :: rest))) : W p l e R s m args below meth c H locs cells slots Q (F0 m pc ls (.ref g :: rest)) := gf_X7_17 X hw hR.1 rfl hdg kk
theorem rg_20 (X : mm_Cx p s m args meth c G RX7 cc nL rt) (hw : mm_W G.1 vwCl A H0 M H locs) (hR : RV G g L S cs ar K M) (hdg : decode cc pc = .ok (.getfield 20, 3)) (kk : W p l e R s m args below meth c H locs cells slots Q (F0 m (pc + 3) ls (.ref (L 3) :: rest))) : W p l e R s m args below meth c H locs cells slots Q (F0 m pc ls (.ref g :: rest)) := gf_X7_20 X hw hR.1 rfl hdg kk
theorem rg_23 (X : mm_Cx p s m args meth c G RX7 cc nL rt) (hw : mm_W G.1 vwCl A H0 M H locs) (hR : RV G g L S cs ar K M) (hdg : decode cc pc = .ok (.getfield 23, 3)) (kk : W p l e R s m args below meth c H locs cells slots Q (F0 m (pc + 3) ls (.ref (L 4) :: rest))) : W p l e R s m args below meth c H locs cells slots Q (F0 m pc ls (.ref g :: rest)) := gf_X7_23 X hw hR.1 rfl hdg kk
theorem rg_99 (X : mm_Cx p s m args meth c G RX7 cc nL rt) (hw : mm_W G.1 vwCl A H0 M H locs) (hR : RV G g L S cs ar K M) (hdg : decode cc pc = .ok (.getfield 99, 3)) (kk : W p l e R s m args below meth c H locs cells slots Q (F0 m (pc + 3) ls (.int (S 5 0) :: rest))) : W p l e R s m args below meth c H locs cells slots Q (F0 m pc ls (.ref g :: rest)) := gf_X7_99 X hw hR.1 rfl hdg kk
theorem rp_99 (X : mm_Cx p s m args meth c G RX7 cc nL rt) (hw : mm_W G.1 vwCl A H0 M H locs) (hR : RV G g L S cs ar K M) {x : Int32} (hdg : decode cc pc = .ok (.putfield 99, 3)) (kk : ∀ (M1 : mM) (H1 : Heap) (locs1 : List Loc), mm_W G.1 vwCl A H0 M1 H1 locs1 → RV G g L (va_up S 5 (fun _ => x)) cs ar K M1 → W p l e R s m args below meth c H1 locs1 cells slots Q (F0 m (pc + 3) ls rest)) : W p l e R s m args below meth c H locs cells slots Q (F0 m pc ls (.int x :: .ref g :: rest)) := pf_X7_99 X hw hR.1 (Nat.le_of_ble_eq_true rfl) hdg (fun H1 locs1 hw => kk _ H1 locs1 hw (by have h := hR.setF (k := 5) rfl (fun _ => x); simp only [oMd, va_up] at h; exact h))
theorem rg_26 (X : mm_Cx p s m args meth c G RX7 cc nL rt) (hw : mm_W G.1 vwCl A H0 M H locs) (hR : RV G g L S cs ar K M) (hdg : decode cc pc = .ok (.getfield 26, 3)) (kk : W p l e R s m args below meth c H locs cells slots Q (F0 m (pc + 3) ls (.ref (L 6) :: rest))) : W p l e R s m args below meth c H locs cells slots Q (F0 m pc ls (.ref g :: rest)) := gf_X7_26 X hw hR.1 rfl hdg kk
theorem rg_86 (X : mm_Cx p s m args meth c G RX7 cc nL rt) (hw : mm_W G.1 vwCl A H0 M H locs) (hR : RV G g L S cs ar K M) (hdg : decode cc pc = .ok (.getfield 86, 3)) (kk : W p l e R s m args below meth c H locs cells slots Q (F0 m (pc + 3) ls (.int (S 7 0) :: rest))) : W p l e R s m args below meth c H locs cells slots Q (F0 m pc ls (.ref g :: rest)) := gf_X7_86 X hw hR.1 rfl hdg kk
theorem rp_86 (X : mm_Cx p s m args meth c G RX7 cc nL rt) (hw : mm_W G.1 vwCl A H0 M H locs) (hR : RV G g L S cs ar K M) {x : Int32} (hdg : decode cc pc = .ok (.putfield 86, 3)) (kk : ∀ (M1 : mM) (H1 : Heap) (locs1 : List Loc), mm_W G.1 vwCl A H0 M1 H1 locs1 → RV G g L (va_up S 7 (fun _ => x)) cs ar K M1 → W p l e R s m args below meth c H1 locs1 cells slots Q (F0 m (pc + 3) ls rest)) : W p l e R s m args below meth c H locs cells slots Q (F0 m pc ls (.int x :: .ref g :: rest)) := pf_X7_86 X hw hR.1 (Nat.le_of_ble_eq_true rfl) hdg (fun H1 locs1 hw => kk _ H1 locs1 hw (by have h := hR.setF (k := 7) rfl (fun _ => x); simp only [oMd, va_up] at h; exact h))
theorem rg_29 (X : mm_Cx p s m args meth c G RX7 cc nL rt) (hw : mm_W G.1 vwCl A H0 M H locs) (hR : RV G g L S cs ar K M) (hdg : decode cc pc = .ok (.getfield 29, 3)) (kk : W p l e R s m args below meth c H locs cells slots Q (F0 m (pc + 3) ls (.ref (L 8) :: rest))) : W p l e R s m args below meth c H locs cells slots Q (F0 m pc ls (.ref g :: rest)) := gf_X7_29 X hw hR.1 rfl hdg kk
theorem rg_32 (X : mm_Cx p s m args meth c G RX7 cc nL rt) (hw : mm_W G.1 vwCl A H0 M H locs) (hR : RV G g L S cs ar K M) (hdg : decode cc pc = .ok (.getfield 32, 3)) (kk : W p l e R s m args below meth c H locs cells slots Q (F0 m (pc + 3) ls (.ref (L 9) :: rest))) : W p l e R s m args below meth c H locs cells slots Q (F0 m pc ls (.ref g :: rest)) := gf_X7_32 X hw hR.1 rfl hdg kk
theorem rg_35 (X : mm_Cx p s m args meth c G RX7 cc nL rt) (hw : mm_W G.1 vwCl A H0 M H locs) (hR : RV G g L S cs ar K M) (hdg : decode cc pc = .ok (.getfield 35, 3)) (kk : W p l e R s m args below meth c H locs cells slots Q (F0 m (pc + 3) ls (.ref (L 10) :: rest))) : W p l e R s m args below meth c H locs cells slots Q (F0 m pc ls (.ref g :: rest)) := gf_X7_35 X hw hR.1 rfl hdg kk
theorem rg_38 (X : mm_Cx p s m args meth c G RX7 cc nL rt) (hw : mm_W G.1 vwCl A H0 M H locs) (hR : RV G g L S cs ar K M) (hdg : decode cc pc = .ok (.getfield 38, 3)) (kk : W p l e R s m args below meth c H locs cells slots Q (F0 m (pc + 3) ls (.ref (L 11) :: rest))) : W p l e R s m args below meth c H locs cells slots Q (F0 m pc ls (.ref g :: rest)) := gf_X7_38 X hw hR.1 rfl hdg kk
theorem rg_89 (X : mm_Cx p s m args meth c G RX7 cc nL rt) (hw : mm_W G.1 vwCl A H0 M H locs) (hR : RV G g L S cs ar K M) (hdg : decode cc pc = .ok (.getfield 89, 3)) (kk : W p l e R s m args below meth c H locs cells slots Q (F0 m (pc + 3) ls (.int (S 12 0) :: rest))) : W p l e R s m args below meth c H locs cells slots Q (F0 m pc ls (.ref g :: rest)) := gf_X7_89 X hw hR.1 rfl hdg kk
theorem rp_89 (X : mm_Cx p s m args meth c G RX7 cc nL rt) (hw : mm_W G.1 vwCl A H0 M H locs) (hR : RV G g L S cs ar K M) {x : Int32} (hdg : decode cc pc = .ok (.putfield 89, 3)) (kk : ∀ (M1 : mM) (H1 : Heap) (locs1 : List Loc), mm_W G.1 vwCl A H0 M1 H1 locs1 → RV G g L (va_up S 12 (fun _ => x)) cs ar K M1 → W p l e R s m args below meth c H1 locs1 cells slots Q (F0 m (pc + 3) ls rest)) : W p l e R s m args below meth c H locs cells slots Q (F0 m pc ls (.int x :: .ref g :: rest)) := pf_X7_89 X hw hR.1 (Nat.le_of_ble_eq_true rfl) hdg (fun H1 locs1 hw => kk _ H1 locs1 hw (by have h := hR.setF (k := 12) rfl (fun _ => x); simp only [oMd, va_up] at h; exact h))
theorem rg_42 (X : mm_Cx p s m args meth c G RX7 cc nL rt) (hw : mm_W G.1 vwCl A H0 M H locs) (hR : RV G g L S cs ar K M) (hdg : decode cc pc = .ok (.getfield 42, 3)) (kk : W p l e R s m args below meth c H locs cells slots Q (F0 m (pc + 3) ls (.ref (L 13) :: rest))) : W p l e R s m args below meth c H locs cells slots Q (F0 m pc ls (.ref g :: rest)) := gf_X7_42 X hw hR.1 rfl hdg kk
theorem rg_45 (X : mm_Cx p s m args meth c G RX7 cc nL rt) (hw : mm_W G.1 vwCl A H0 M H locs) (hR : RV G g L S cs ar K M) (hdg : decode cc pc = .ok (.getfield 45, 3)) (kk : W p l e R s m args below meth c H locs cells slots Q (F0 m (pc + 3) ls (.ref (L 14) :: rest))) : W p l e R s m args below meth c H locs cells slots Q (F0 m pc ls (.ref g :: rest)) := gf_X7_45 X hw hR.1 rfl hdg kk
theorem rg_48 (X : mm_Cx p s m args meth c G RX7 cc nL rt) (hw : mm_W G.1 vwCl A H0 M H locs) (hR : RV G g L S cs ar K M) (hdg : decode cc pc = .ok (.getfield 48, 3)) (kk : W p l e R s m args below meth c H locs cells slots Q (F0 m (pc + 3) ls (.ref (L 15) :: rest))) : W p l e R s m args below meth c H locs cells slots Q (F0 m pc ls (.ref g :: rest)) := gf_X7_48 X hw hR.1 rfl hdg kk
theorem rg_51 (X : mm_Cx p s m args meth c G RX7 cc nL rt) (hw : mm_W G.1 vwCl A H0 M H locs) (hR : RV G g L S cs ar K M) (hdg : decode cc pc = .ok (.getfield 51, 3)) (kk : W p l e R s m args below meth c H locs cells slots Q (F0 m (pc + 3) ls (.ref (L 16) :: rest))) : W p l e R s m args below meth c H locs cells slots Q (F0 m pc ls (.ref g :: rest)) := gf_X7_51 X hw hR.1 rfl hdg kk
theorem rg_54 (X : mm_Cx p s m args meth c G RX7 cc nL rt) (hw : mm_W G.1 vwCl A H0 M H locs) (hR : RV G g L S cs ar K M) (hdg : decode cc pc = .ok (.getfield 54, 3)) (kk : W p l e R s m args below meth c H locs cells slots Q (F0 m (pc + 3) ls (.ref (L 17) :: rest))) : W p l e R s m args below meth c H locs cells slots Q (F0 m pc ls (.ref g :: rest)) := gf_X7_54 X hw hR.1 rfl hdg kk
theorem rg_126 (X : mm_Cx p s m args meth c G RX7 cc nL rt) (hw : mm_W G.1 vwCl A H0 M H locs) (hR : RV G g L S cs ar K M) (hdg : decode cc pc = .ok (.getfield 126, 3)) (kk : W p l e R s m args below meth c H locs cells slots Q (F0 m (pc + 3) ls (.int (S 18 0) :: rest))) : W p l e R s m args below meth c H locs cells slots Q (F0 m pc ls (.ref g :: rest)) := gf_X7_126 X hw hR.1 rfl hdg kk
theorem rp_126 (X : mm_Cx p s m args meth c G RX7 cc nL rt) (hw : mm_W G.1 vwCl A H0 M H locs) (hR : RV G g L S cs ar K M) {x : Int32} (hdg : decode cc pc = .ok (.putfield 126, 3)) (kk : ∀ (M1 : mM) (H1 : Heap) (locs1 : List Loc), mm_W G.1 vwCl A H0 M1 H1 locs1 → RV G g L (va_up S 18 (fun _ => x)) cs ar K M1 → W p l e R s m args below meth c H1 locs1 cells slots Q (F0 m (pc + 3) ls rest)) : W p l e R s m args below meth c H locs cells slots Q (F0 m pc ls (.int x :: .ref g :: rest)) := pf_X7_126 X hw hR.1 (Nat.le_of_ble_eq_true rfl) hdg (fun H1 locs1 hw => kk _ H1 locs1 hw (by have h := hR.setF (k := 18) rfl (fun _ => x); simp only [oMd, va_up] at h; exact h))
theorem rg_58 (X : mm_Cx p s m args meth c G RX7 cc nL rt) (hw : mm_W G.1 vwCl A H0 M H locs) (hR : RV G g L S cs ar K M) (hdg : decode cc pc = .ok (.getfield 58, 3)) (kk : W p l e R s m args below meth c H locs cells slots Q (F0 m (pc + 3) ls (.ref (L 19) :: rest))) : W p l e R s m args below meth c H locs cells slots Q (F0 m pc ls (.ref g :: rest)) := gf_X7_58 X hw hR.1 rfl hdg kk
theorem rg_61 (X : mm_Cx p s m args meth c G RX7 cc nL rt) (hw : mm_W G.1 vwCl A H0 M H locs) (hR : RV G g L S cs ar K M) (hdg : decode cc pc = .ok (.getfield 61, 3)) (kk : W p l e R s m args below meth c H locs cells slots Q (F0 m (pc + 3) ls (.ref (L 20) :: rest))) : W p l e R s m args below meth c H locs cells slots Q (F0 m pc ls (.ref g :: rest)) := gf_X7_61 X hw hR.1 rfl hdg kk
theorem rg_64 (X : mm_Cx p s m args meth c G RX7 cc nL rt) (hw : mm_W G.1 vwCl A H0 M H locs) (hR : RV G g L S cs ar K M) (hdg : decode cc pc = .ok (.getfield 64, 3)) (kk : W p l e R s m args below meth c H locs cells slots Q (F0 m (pc + 3) ls (.ref (L 21) :: rest))) : W p l e R s m args below meth c H locs cells slots Q (F0 m pc ls (.ref g :: rest)) := gf_X7_64 X hw hR.1 rfl hdg kk
theorem rg_67 (X : mm_Cx p s m args meth c G RX7 cc nL rt) (hw : mm_W G.1 vwCl A H0 M H locs) (hR : RV G g L S cs ar K M) (hdg : decode cc pc = .ok (.getfield 67, 3)) (kk : W p l e R s m args below meth c H locs cells slots Q (F0 m (pc + 3) ls (.ref (L 22) :: rest))) : W p l e R s m args below meth c H locs cells slots Q (F0 m pc ls (.ref g :: rest)) := gf_X7_67 X hw hR.1 rfl hdg kk
theorem rg_70 (X : mm_Cx p s m args meth c G RX7 cc nL rt) (hw : mm_W G.1 vwCl A H0 M H locs) (hR : RV G g L S cs ar K M) (hdg : decode cc pc = .ok (.getfield 70, 3)) (kk : W p l e R s m args below meth c H locs cells slots Q (F0 m (pc + 3) ls (.ref (L 23) :: rest))) : W p l e R s m args below meth c H locs cells slots Q (F0 m pc ls (.ref g :: rest)) := gf_X7_70 X hw hR.1 rfl hdg kk
theorem rg_133 (X : mm_Cx p s m args meth c G RX7 cc nL rt) (hw : mm_W G.1 vwCl A H0 M H locs) (hR : RV G g L S cs ar K M) (hdg : decode cc pc = .ok (.getfield 133, 3)) (kk : W p l e R s m args below meth c H locs cells slots Q (F0 m (pc + 3) ls (.int (S 24 0) :: rest))) : W p l e R s m args below meth c H locs cells slots Q (F0 m pc ls (.ref g :: rest)) := gf_X7_133 X hw hR.1 rfl hdg kk
theorem rp_133 (X : mm_Cx p s m args meth c G RX7 cc nL rt) (hw : mm_W G.1 vwCl A H0 M H locs) (hR : RV G g L S cs ar K M) {x : Int32} (hdg : decode cc pc = .ok (.putfield 133, 3)) (kk : ∀ (M1 : mM) (H1 : Heap) (locs1 : List Loc), mm_W G.1 vwCl A H0 M1 H1 locs1 → RV G g L (va_up S 24 (fun _ => x)) cs ar K M1 → W p l e R s m args below meth c H1 locs1 cells slots Q (F0 m (pc + 3) ls rest)) : W p l e R s m args below meth c H locs cells slots Q (F0 m pc ls (.int x :: .ref g :: rest)) := pf_X7_133 X hw hR.1 (Nat.le_of_ble_eq_true rfl) hdg (fun H1 locs1 hw => kk _ H1 locs1 hw (by have h := hR.setF (k := 24) rfl (fun _ => x); simp only [oMd, va_up] at h; exact h))
theorem rg_73 (X : mm_Cx p s m args meth c G RX7 cc nL rt) (hw : mm_W G.1 vwCl A H0 M H locs) (hR : RV G g L S cs ar K M) (hdg : decode cc pc = .ok (.getfield 73, 3)) (kk : W p l e R s m args below meth c H locs cells slots Q (F0 m (pc + 3) ls (.ref (L 25) :: rest))) : W p l e R s m args below meth c H locs cells slots Q (F0 m pc ls (.ref g :: rest)) := gf_X7_73 X hw hR.1 rfl hdg kk
theorem rg_76 (X : mm_Cx p s m args meth c G RX7 cc nL rt) (hw : mm_W G.1 vwCl A H0 M H locs) (hR : RV G g L S cs ar K M) (hdg : decode cc pc = .ok (.getfield 76, 3)) (kk : W p l e R s m args below meth c H locs cells slots Q (F0 m (pc + 3) ls (.ref (L 26) :: rest))) : W p l e R s m args below meth c H locs cells slots Q (F0 m pc ls (.ref g :: rest)) := gf_X7_76 X hw hR.1 rfl hdg kk
theorem rg_79 (X : mm_Cx p s m args meth c G RX7 cc nL rt) (hw : mm_W G.1 vwCl A H0 M H locs) (hR : RV G g L S cs ar K M) (hdg : decode cc pc = .ok (.getfield 79, 3)) (kk : W p l e R s m args below meth c H locs cells slots Q (F0 m (pc + 3) ls (.ref (L 27) :: rest))) : W p l e R s m args below meth c H locs cells slots Q (F0 m pc ls (.ref g :: rest)) := gf_X7_79 X hw hR.1 rfl hdg kk
end RVR
