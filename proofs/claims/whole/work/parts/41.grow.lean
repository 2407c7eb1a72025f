theorem EV.grow {G : mG} {L L' : Nat → Nat → Nat} {S S' : sS} {cs ar cs' ar' : Nat → Int64} {J J' : eJ} {M M' : mM} (h : EV G L S cs ar J M) (hL : ∀ k i, lvs S k i → L' k i = L k i)
    (ho : ∀ k i, lvs S k i → M' (L k i) = some (cE G L' S' cs' ar' J' k i)) (hn : ∀ k i, lvs S' k i → ¬ lvs S k i → M (L' k i) = none ∧ M' (L' k i) = some (cE G L' S' cs' ar' J' k i))
    (hi : ∀ k i k' i', lvs S' k i → ¬ lvs S k i → lvs S' k' i' → ¬ lvs S k' i' → L' k i = L' k' i' → k = k' ∧ i = i') : EV G L' S' cs' ar' J' M' := by
  refine ⟨fun k i hk => ?_, fun k i k' i' h1 h2 e => ?_⟩
  · by_cases c : lvs S k i
    · rw [hL k i c]; exact ho k i c
    · exact (hn k i hk c).2
  · by_cases c1 : lvs S k i
    · by_cases c2 : lvs S k' i'
      · rw [hL _ _ c1, hL _ _ c2] at e; exact h.2 _ _ _ _ c1 c2 e
      · have h9 := (hn k' i' h2 c2).1
        rw [← e, hL _ _ c1, h.1 _ _ c1] at h9
        cases h9
    · by_cases c2 : lvs S k' i'
      · have h9 := (hn k i h1 c1).1
        rw [e, hL _ _ c2, h.1 _ _ c2] at h9
        cases h9
      · exact hi _ _ _ _ h1 c1 h2 c2 e
theorem new_e {ne nn nc nl k i : Nat} (h : lvq (ne + 1) nn nc nl k i) (h2 : ¬ lvq ne nn nc nl k i) : (∃ t, t < 3 ∧ k = 10 + t) ∧ i = ne := by
  unfold lvq at h h2
  exact ⟨⟨k - 10, by omega, by omega⟩, by omega⟩
theorem new_n {ne nn nc nl k i : Nat} (h : lvq ne (nn + 1) nc nl k i) (h2 : ¬ lvq ne nn nc nl k i) : (∃ t, t < 1 ∧ k = 20 + t) ∧ i = nn := by
  unfold lvq at h h2
  exact ⟨⟨k - 20, by omega, by omega⟩, by omega⟩
theorem new_c {ne nn nc nl k i : Nat} (h : lvq ne nn (nc + 1) nl k i) (h2 : ¬ lvq ne nn nc nl k i) : (∃ t, t < 7 ∧ k = 30 + t) ∧ i = nc := by
  unfold lvq at h h2
  exact ⟨⟨k - 30, by omega, by omega⟩, by omega⟩
theorem new_l {ne nn nc nl k i : Nat} (h : lvq ne nn nc (nl + 1) k i) (h2 : ¬ lvq ne nn nc nl k i) : (∃ t, t < 1 ∧ k = 40 + t) ∧ i = nl := by
  unfold lvq at h h2
  exact ⟨⟨k - 40, by omega, by omega⟩, by omega⟩
theorem rfs_up {n : Nat} {f : Nat → Nat} {q : Nat} : va_up (rfs n f) n (some q) = rfs (n + 1) (va_up f n q) := by
  funext j
  by_cases h : j = n
  · subst h
    rw [va_up_self]
    unfold rfs
    rw [if_pos (by omega), va_up_self]
  · rw [va_up_ne _ _ h]
    unfold rfs
    rw [va_up_ne _ _ h]
    by_cases h2 : j < n
    · rw [if_pos h2, if_pos (by omega)]
    · rw [if_neg h2, if_neg (by omega)]
theorem rfs_cg {n : Nat} {f g : Nat → Nat} (h : ∀ j, j < n → f j = g j) : rfs n f = rfs n g := by
  funext j
  unfold rfs
  by_cases h2 : j < n
  · rw [if_pos h2, if_pos h2, h j h2]
  · rw [if_neg h2, if_neg h2]
theorem tr_cg {n : Nat} {f g : Nat → Int32} (h : ∀ j, j < n → f j = g j) : tr n f = tr n g := by
  funext j
  unfold tr
  by_cases h2 : j < n
  · rw [if_pos h2, if_pos h2, h j h2]
  · rw [if_neg h2, if_neg h2]
theorem tr_z {n : Nat} {f : Nat → Int32} (h : ∀ j, j < n → f j = 0) : (fun _ => 0) = tr n f := by
  funext j
  unfold tr
  by_cases h2 : j < n
  · rw [if_pos h2, h j h2]
  · rw [if_neg h2]
theorem trL_z {n : Nat} {f : Nat → Int64} (h : ∀ j, j < n → f j = 0) : (fun _ => 0) = trL n f := by
  funext j
  unfold trL
  by_cases h2 : j < n
  · rw [if_pos h2, h j h2]
  · rw [if_neg h2]
theorem cp_lo {f : Nat → Int32} {d s k j : Nat} (h : j < d) : cp f d s k j = f j := by unfold cp; rw [if_neg (by omega)]
theorem cp_in {f : Nat → Int32} {d s k j : Nat} (h : j < k) : cp f d s k (d + j) = f (s + j) := by unfold cp; rw [if_pos (by omega), Nat.add_sub_cancel_left]
section GROW
variable {G : mG} {L : Nat → Nat → Nat} {S : sS} {cs ar : Nat → Int64} {J : eJ} {M M' : mM}
set_option maxHeartbeats 2000000 in
theorem EV.newN (h : EV G L S cs ar J M) {n0 : Nat} (hc : S 7 0 = nI n0) (hlt : n0 < 12) (x y : Int32) {q0 : Nat}  (m0 : M q0 = none) (f0 : M' (L 0 0) = some (.inr (6, [.ref (L 1 0), .ref (L 2 0), .ref (L 3 0), .ref (L 4 0), .ref (L 10 0), .ref (L 5 0), .int (S 0 0), .int (S 7 0 + 1), .int (S 12 0), .int (S 18 0), .int (S 5 0), .int (S 24 0)]))) (f1 : M' (L 2 0) = some (aQ G 4 12 (va_up (rfs n0 (L 20)) n0 (some q0)))) (g0 : M' q0 = some (oNo x y 0 (-1))) (fr : ∀ z, M z ≠ none → z ≠ L 0 0 → z ≠ L 2 0 → M' z = M z) : EV G (va_up L 20 (va_up (L 20) n0 q0)) (va_up (va_up (va_up (va_up S 8 (upd (S 8) n0 x)) 9 (upd (S 9) n0 y)) 10 (upd (S 10) n0 (-1))) 7 (fun _ => S 7 0 + 1)) (cs) (ar) ((upd J.1 n0 0, J.2)) M' := by
  have hcl : cl (S 7 0) = n0 := by rw [hc, cl_n (by omega)]
  have hcl1 : cl (S 7 0 + 1) = n0 + 1 := by rw [hc, nI_s, cl_n (by omega)]
  have fr2 : ∀ k i, lvs S k i → ¬ (k = 0 ∧ i = 0) → ¬ (k = 2 ∧ i = 0) → M' (L k i) = some (cE G L S cs ar J k i) := fun k i h1 h2 h3 => (fr _ (sm_ne (h.1 k i h1)) (h.ne h1 (lv_0 S 0 (by decide)) h2) (h.ne h1 (lv_0 S 2 (by decide)) h3) ).trans (h.1 k i h1)
  refine h.grow ?_ ?_ ?_ ?_
  · refine lv_ind ?_ ?_ ?_ ?_ ?_ ?_ ?_ ?_ ?_ ?_ ?_ ?_ ?_ ?_ ?_ ?_ ?_ ?_ ?_ ?_ ?_
    · rfl
    · rfl
    · rfl
    · rfl
    · rfl
    · rfl
    · rfl
    · rfl
    · rfl
    · intro i hi; rfl
    · intro i hi; rfl
    · intro i hi; rfl
    · intro i hi; show va_up (L 20) n0 q0 i = _; exact va_up_ne _ _ (by omega)
    · intro i hi; rfl
    · intro i hi; rfl
    · intro i hi; rfl
    · intro i hi; rfl
    · intro i hi; rfl
    · intro i hi; rfl
    · intro i hi; rfl
    · intro i hi; rfl
  · refine lv_ind ?_ ?_ ?_ ?_ ?_ ?_ ?_ ?_ ?_ ?_ ?_ ?_ ?_ ?_ ?_ ?_ ?_ ?_ ?_ ?_ ?_
    · rw [f0, cE_0]; rfl
    · exact (fr2 1 0 (lv_0 S 1 (by decide)) (fun z => absurd z.1 (by decide)) (fun z => absurd z.1 (by decide))).trans (congrArg some ((cE_1 G L S cs ar J _).trans (cE_1 G (va_up L 20 (va_up (L 20) n0 q0)) (va_up (va_up (va_up (va_up S 8 (upd (S 8) n0 x)) 9 (upd (S 9) n0 y)) 10 (upd (S 10) n0 (-1))) 7 (fun _ => S 7 0 + 1)) (cs) (ar) ((upd J.1 n0 0, J.2)) _).symm))
    · rw [f1, cE_2]; show _ = some (aQ G 4 12 (rfs (cl (S 7 0 + 1)) (va_up (L 20) n0 q0))); rw [hcl1, rfs_up]
    · exact (fr2 3 0 (lv_0 S 3 (by decide)) (fun z => absurd z.1 (by decide)) (fun z => absurd z.1 (by decide))).trans (congrArg some ((cE_3 G L S cs ar J _).trans (cE_3 G (va_up L 20 (va_up (L 20) n0 q0)) (va_up (va_up (va_up (va_up S 8 (upd (S 8) n0 x)) 9 (upd (S 9) n0 y)) 10 (upd (S 10) n0 (-1))) 7 (fun _ => S 7 0 + 1)) (cs) (ar) ((upd J.1 n0 0, J.2)) _).symm))
    · exact (fr2 4 0 (lv_0 S 4 (by decide)) (fun z => absurd z.1 (by decide)) (fun z => absurd z.1 (by decide))).trans (congrArg some ((cE_4 G L S cs ar J _).trans (cE_4 G (va_up L 20 (va_up (L 20) n0 q0)) (va_up (va_up (va_up (va_up S 8 (upd (S 8) n0 x)) 9 (upd (S 9) n0 y)) 10 (upd (S 10) n0 (-1))) 7 (fun _ => S 7 0 + 1)) (cs) (ar) ((upd J.1 n0 0, J.2)) _).symm))
    · exact (fr2 5 0 (lv_0 S 5 (by decide)) (fun z => absurd z.1 (by decide)) (fun z => absurd z.1 (by decide))).trans (congrArg some ((cE_5 G L S cs ar J _).trans (cE_5 G (va_up L 20 (va_up (L 20) n0 q0)) (va_up (va_up (va_up (va_up S 8 (upd (S 8) n0 x)) 9 (upd (S 9) n0 y)) 10 (upd (S 10) n0 (-1))) 7 (fun _ => S 7 0 + 1)) (cs) (ar) ((upd J.1 n0 0, J.2)) _).symm))
    · exact (fr2 6 0 (lv_0 S 6 (by decide)) (fun z => absurd z.1 (by decide)) (fun z => absurd z.1 (by decide))).trans (congrArg some ((cE_6 G L S cs ar J _).trans (cE_6 G (va_up L 20 (va_up (L 20) n0 q0)) (va_up (va_up (va_up (va_up S 8 (upd (S 8) n0 x)) 9 (upd (S 9) n0 y)) 10 (upd (S 10) n0 (-1))) 7 (fun _ => S 7 0 + 1)) (cs) (ar) ((upd J.1 n0 0, J.2)) _).symm))
    · exact (fr2 7 0 (lv_0 S 7 (by decide)) (fun z => absurd z.1 (by decide)) (fun z => absurd z.1 (by decide))).trans (congrArg some ((cE_7 G L S cs ar J _).trans (cE_7 G (va_up L 20 (va_up (L 20) n0 q0)) (va_up (va_up (va_up (va_up S 8 (upd (S 8) n0 x)) 9 (upd (S 9) n0 y)) 10 (upd (S 10) n0 (-1))) 7 (fun _ => S 7 0 + 1)) (cs) (ar) ((upd J.1 n0 0, J.2)) _).symm))
    · exact (fr2 8 0 (lv_0 S 8 (by decide)) (fun z => absurd z.1 (by decide)) (fun z => absurd z.1 (by decide))).trans (congrArg some ((cE_8 G L S cs ar J _).trans (cE_8 G (va_up L 20 (va_up (L 20) n0 q0)) (va_up (va_up (va_up (va_up S 8 (upd (S 8) n0 x)) 9 (upd (S 9) n0 y)) 10 (upd (S 10) n0 (-1))) 7 (fun _ => S 7 0 + 1)) (cs) (ar) ((upd J.1 n0 0, J.2)) _).symm))
    · intro i hi; exact (fr2 10 i (lv_e S (by decide) hi) (fun z => absurd z.1 (by decide)) (fun z => absurd z.1 (by decide))).trans (congrArg some ((cE_10 G L S cs ar J _).trans (cE_10 G (va_up L 20 (va_up (L 20) n0 q0)) (va_up (va_up (va_up (va_up S 8 (upd (S 8) n0 x)) 9 (upd (S 9) n0 y)) 10 (upd (S 10) n0 (-1))) 7 (fun _ => S 7 0 + 1)) (cs) (ar) ((upd J.1 n0 0, J.2)) _).symm))
    · intro i hi; exact (fr2 11 i (lv_e S (by decide) hi) (fun z => absurd z.1 (by decide)) (fun z => absurd z.1 (by decide))).trans (congrArg some ((cE_11 G L S cs ar J _).trans (cE_11 G (va_up L 20 (va_up (L 20) n0 q0)) (va_up (va_up (va_up (va_up S 8 (upd (S 8) n0 x)) 9 (upd (S 9) n0 y)) 10 (upd (S 10) n0 (-1))) 7 (fun _ => S 7 0 + 1)) (cs) (ar) ((upd J.1 n0 0, J.2)) _).symm))
    · intro i hi; exact (fr2 12 i (lv_e S (by decide) hi) (fun z => absurd z.1 (by decide)) (fun z => absurd z.1 (by decide))).trans (congrArg some ((cE_12 G L S cs ar J _).trans (cE_12 G (va_up L 20 (va_up (L 20) n0 q0)) (va_up (va_up (va_up (va_up S 8 (upd (S 8) n0 x)) 9 (upd (S 9) n0 y)) 10 (upd (S 10) n0 (-1))) 7 (fun _ => S 7 0 + 1)) (cs) (ar) ((upd J.1 n0 0, J.2)) _).symm))
    · intro i hi; refine (fr2 20 i (lv_n S hi) (fun z => absurd z.1 (by decide)) (fun z => absurd z.1 (by decide))).trans (congrArg some ((cE_20 G L S cs ar J i).trans ?_)); rw [cE_20]; show _ = oNo (upd (S 8) n0 x i) (upd (S 9) n0 y i) (upd J.1 n0 0 i) (upd (S 10) n0 (-1) i); rw [pk_un (show i ≠ n0 by omega), pk_un (show i ≠ n0 by omega), pk_un (show i ≠ n0 by omega), pk_un (show i ≠ n0 by omega)]
    · intro i hi; exact (fr2 30 i (lv_c S (by decide) hi) (fun z => absurd z.1 (by decide)) (fun z => absurd z.1 (by decide))).trans (congrArg some ((cE_30 G L S cs ar J _).trans (cE_30 G (va_up L 20 (va_up (L 20) n0 q0)) (va_up (va_up (va_up (va_up S 8 (upd (S 8) n0 x)) 9 (upd (S 9) n0 y)) 10 (upd (S 10) n0 (-1))) 7 (fun _ => S 7 0 + 1)) (cs) (ar) ((upd J.1 n0 0, J.2)) _).symm))
    · intro i hi; exact (fr2 31 i (lv_c S (by decide) hi) (fun z => absurd z.1 (by decide)) (fun z => absurd z.1 (by decide))).trans (congrArg some ((cE_31 G L S cs ar J _).trans (cE_31 G (va_up L 20 (va_up (L 20) n0 q0)) (va_up (va_up (va_up (va_up S 8 (upd (S 8) n0 x)) 9 (upd (S 9) n0 y)) 10 (upd (S 10) n0 (-1))) 7 (fun _ => S 7 0 + 1)) (cs) (ar) ((upd J.1 n0 0, J.2)) _).symm))
    · intro i hi; exact (fr2 32 i (lv_c S (by decide) hi) (fun z => absurd z.1 (by decide)) (fun z => absurd z.1 (by decide))).trans (congrArg some ((cE_32 G L S cs ar J _).trans (cE_32 G (va_up L 20 (va_up (L 20) n0 q0)) (va_up (va_up (va_up (va_up S 8 (upd (S 8) n0 x)) 9 (upd (S 9) n0 y)) 10 (upd (S 10) n0 (-1))) 7 (fun _ => S 7 0 + 1)) (cs) (ar) ((upd J.1 n0 0, J.2)) _).symm))
    · intro i hi; exact (fr2 33 i (lv_c S (by decide) hi) (fun z => absurd z.1 (by decide)) (fun z => absurd z.1 (by decide))).trans (congrArg some ((cE_33 G L S cs ar J _).trans (cE_33 G (va_up L 20 (va_up (L 20) n0 q0)) (va_up (va_up (va_up (va_up S 8 (upd (S 8) n0 x)) 9 (upd (S 9) n0 y)) 10 (upd (S 10) n0 (-1))) 7 (fun _ => S 7 0 + 1)) (cs) (ar) ((upd J.1 n0 0, J.2)) _).symm))
    · intro i hi; exact (fr2 34 i (lv_c S (by decide) hi) (fun z => absurd z.1 (by decide)) (fun z => absurd z.1 (by decide))).trans (congrArg some ((cE_34 G L S cs ar J _).trans (cE_34 G (va_up L 20 (va_up (L 20) n0 q0)) (va_up (va_up (va_up (va_up S 8 (upd (S 8) n0 x)) 9 (upd (S 9) n0 y)) 10 (upd (S 10) n0 (-1))) 7 (fun _ => S 7 0 + 1)) (cs) (ar) ((upd J.1 n0 0, J.2)) _).symm))
    · intro i hi; exact (fr2 35 i (lv_c S (by decide) hi) (fun z => absurd z.1 (by decide)) (fun z => absurd z.1 (by decide))).trans (congrArg some ((cE_35 G L S cs ar J _).trans (cE_35 G (va_up L 20 (va_up (L 20) n0 q0)) (va_up (va_up (va_up (va_up S 8 (upd (S 8) n0 x)) 9 (upd (S 9) n0 y)) 10 (upd (S 10) n0 (-1))) 7 (fun _ => S 7 0 + 1)) (cs) (ar) ((upd J.1 n0 0, J.2)) _).symm))
    · intro i hi; exact (fr2 36 i (lv_c S (by decide) hi) (fun z => absurd z.1 (by decide)) (fun z => absurd z.1 (by decide))).trans (congrArg some ((cE_36 G L S cs ar J _).trans (cE_36 G (va_up L 20 (va_up (L 20) n0 q0)) (va_up (va_up (va_up (va_up S 8 (upd (S 8) n0 x)) 9 (upd (S 9) n0 y)) 10 (upd (S 10) n0 (-1))) 7 (fun _ => S 7 0 + 1)) (cs) (ar) ((upd J.1 n0 0, J.2)) _).symm))
    · intro i hi; exact (fr2 40 i (lv_l S hi) (fun z => absurd z.1 (by decide)) (fun z => absurd z.1 (by decide))).trans (congrArg some ((cE_40 G L S cs ar J _).trans (cE_40 G (va_up L 20 (va_up (L 20) n0 q0)) (va_up (va_up (va_up (va_up S 8 (upd (S 8) n0 x)) 9 (upd (S 9) n0 y)) 10 (upd (S 10) n0 (-1))) 7 (fun _ => S 7 0 + 1)) (cs) (ar) ((upd J.1 n0 0, J.2)) _).symm))
  · intro k i h1 h2
    have h1 : lvq (cl (S 0 0)) (cl (S 7 0 + 1)) (cl (S 12 0)) (cl (S 18 0)) k i := h1
    rw [hcl1] at h1
    have h2 : ¬ (lvq (cl (S 0 0)) n0 (cl (S 12 0)) (cl (S 18 0)) k i) := by rw [← hcl]; exact h2
    obtain ⟨⟨t, ht, rfl⟩, rfl⟩ := new_n h1 h2
    rcases (show t = 0 by omega) with rfl
    · have e9 : (va_up L 20 (va_up (L 20) i q0)) 20 i = q0 := va_up_self (L 20) i q0
      show M ((va_up L 20 (va_up (L 20) i q0)) 20 i) = none ∧ M' ((va_up L 20 (va_up (L 20) i q0)) 20 i) = some (cE G _ _ _ _ _ 20 i)
      rw [e9]; refine ⟨m0, g0.trans (congrArg some ?_)⟩; rw [cE_20]; show oNo x y 0 (-1) = oNo (upd (S 8) i x i) (upd (S 9) i y i) (upd J.1 i 0 i) (upd (S 10) i (-1) i); rw [pk_us, pk_us, pk_us, pk_us]
  · intro k i k' i' h1 h2 h3 h4 e
    have h1 : lvq (cl (S 0 0)) (cl (S 7 0 + 1)) (cl (S 12 0)) (cl (S 18 0)) k i := h1
    rw [hcl1] at h1
    have h2 : ¬ (lvq (cl (S 0 0)) n0 (cl (S 12 0)) (cl (S 18 0)) k i) := by rw [← hcl]; exact h2
    have h3 : lvq (cl (S 0 0)) (cl (S 7 0 + 1)) (cl (S 12 0)) (cl (S 18 0)) k' i' := h3
    rw [hcl1] at h3
    have h4 : ¬ (lvq (cl (S 0 0)) n0 (cl (S 12 0)) (cl (S 18 0)) k' i') := by rw [← hcl]; exact h4
    obtain ⟨⟨t, ht, rfl⟩, e1⟩ := new_n h1 h2
    obtain ⟨⟨t2, ht2, rfl⟩, e2⟩ := new_n h3 h4
    exact ⟨by omega, e1.trans e2.symm⟩
set_option maxHeartbeats 2000000 in
theorem EV.newL (h : EV G L S cs ar J M) {n0 : Nat} (hc : S 18 0 = nI n0) (hlt : n0 < 64) {cs2 : Nat → Int64} {J2 : eJ} (x : Int32) (g : Int64) (y z0 w d : Int32) {q0 : Nat}  (m0 : M q0 = none) (f0 : M' (L 0 0) = some (.inr (6, [.ref (L 1 0), .ref (L 2 0), .ref (L 3 0), .ref (L 4 0), .ref (L 10 0), .ref (L 5 0), .int (S 0 0), .int (S 7 0), .int (S 12 0), .int (S 18 0 + 1), .int (S 5 0), .int d]))) (f1 : M' (L 4 0) = some (aQ G 6 64 (va_up (rfs n0 (L 40)) n0 (some q0)))) (g0 : M' q0 = some (oEn x g y z0 w)) (fr : ∀ z, M z ≠ none → z ≠ L 0 0 → z ≠ L 4 0 → M' z = M z) : EV G (va_up L 40 (va_up (L 40) n0 q0)) (va_up (va_up (va_up (va_up (va_up (va_up S 19 (upd (S 19) n0 x)) 20 (upd (S 20) n0 z0)) 22 (upd (S 22) n0 y)) 23 (upd (S 23) n0 w)) 18 (fun _ => S 18 0 + 1)) 24 (fun _ => d)) (cs) (vp_updL ar n0 g) (J) M' := by
  have hcl : cl (S 18 0) = n0 := by rw [hc, cl_n (by omega)]
  have hcl1 : cl (S 18 0 + 1) = n0 + 1 := by rw [hc, nI_s, cl_n (by omega)]
  have fr2 : ∀ k i, lvs S k i → ¬ (k = 0 ∧ i = 0) → ¬ (k = 4 ∧ i = 0) → M' (L k i) = some (cE G L S cs ar J k i) := fun k i h1 h2 h3 => (fr _ (sm_ne (h.1 k i h1)) (h.ne h1 (lv_0 S 0 (by decide)) h2) (h.ne h1 (lv_0 S 4 (by decide)) h3) ).trans (h.1 k i h1)
  refine h.grow ?_ ?_ ?_ ?_
  · refine lv_ind ?_ ?_ ?_ ?_ ?_ ?_ ?_ ?_ ?_ ?_ ?_ ?_ ?_ ?_ ?_ ?_ ?_ ?_ ?_ ?_ ?_
    · rfl
    · rfl
    · rfl
    · rfl
    · rfl
    · rfl
    · rfl
    · rfl
    · rfl
    · intro i hi; rfl
    · intro i hi; rfl
    · intro i hi; rfl
    · intro i hi; rfl
    · intro i hi; rfl
    · intro i hi; rfl
    · intro i hi; rfl
    · intro i hi; rfl
    · intro i hi; rfl
    · intro i hi; rfl
    · intro i hi; rfl
    · intro i hi; show va_up (L 40) n0 q0 i = _; exact va_up_ne _ _ (by omega)
  · refine lv_ind ?_ ?_ ?_ ?_ ?_ ?_ ?_ ?_ ?_ ?_ ?_ ?_ ?_ ?_ ?_ ?_ ?_ ?_ ?_ ?_ ?_
    · rw [f0, cE_0]; rfl
    · exact (fr2 1 0 (lv_0 S 1 (by decide)) (fun z => absurd z.1 (by decide)) (fun z => absurd z.1 (by decide))).trans (congrArg some ((cE_1 G L S cs ar J _).trans (cE_1 G (va_up L 40 (va_up (L 40) n0 q0)) (va_up (va_up (va_up (va_up (va_up (va_up S 19 (upd (S 19) n0 x)) 20 (upd (S 20) n0 z0)) 22 (upd (S 22) n0 y)) 23 (upd (S 23) n0 w)) 18 (fun _ => S 18 0 + 1)) 24 (fun _ => d)) (cs) (vp_updL ar n0 g) (J) _).symm))
    · exact (fr2 2 0 (lv_0 S 2 (by decide)) (fun z => absurd z.1 (by decide)) (fun z => absurd z.1 (by decide))).trans (congrArg some ((cE_2 G L S cs ar J _).trans (cE_2 G (va_up L 40 (va_up (L 40) n0 q0)) (va_up (va_up (va_up (va_up (va_up (va_up S 19 (upd (S 19) n0 x)) 20 (upd (S 20) n0 z0)) 22 (upd (S 22) n0 y)) 23 (upd (S 23) n0 w)) 18 (fun _ => S 18 0 + 1)) 24 (fun _ => d)) (cs) (vp_updL ar n0 g) (J) _).symm))
    · exact (fr2 3 0 (lv_0 S 3 (by decide)) (fun z => absurd z.1 (by decide)) (fun z => absurd z.1 (by decide))).trans (congrArg some ((cE_3 G L S cs ar J _).trans (cE_3 G (va_up L 40 (va_up (L 40) n0 q0)) (va_up (va_up (va_up (va_up (va_up (va_up S 19 (upd (S 19) n0 x)) 20 (upd (S 20) n0 z0)) 22 (upd (S 22) n0 y)) 23 (upd (S 23) n0 w)) 18 (fun _ => S 18 0 + 1)) 24 (fun _ => d)) (cs) (vp_updL ar n0 g) (J) _).symm))
    · rw [f1, cE_4]; show _ = some (aQ G 6 64 (rfs (cl (S 18 0 + 1)) (va_up (L 40) n0 q0))); rw [hcl1, rfs_up]
    · exact (fr2 5 0 (lv_0 S 5 (by decide)) (fun z => absurd z.1 (by decide)) (fun z => absurd z.1 (by decide))).trans (congrArg some ((cE_5 G L S cs ar J _).trans (cE_5 G (va_up L 40 (va_up (L 40) n0 q0)) (va_up (va_up (va_up (va_up (va_up (va_up S 19 (upd (S 19) n0 x)) 20 (upd (S 20) n0 z0)) 22 (upd (S 22) n0 y)) 23 (upd (S 23) n0 w)) 18 (fun _ => S 18 0 + 1)) 24 (fun _ => d)) (cs) (vp_updL ar n0 g) (J) _).symm))
    · exact (fr2 6 0 (lv_0 S 6 (by decide)) (fun z => absurd z.1 (by decide)) (fun z => absurd z.1 (by decide))).trans (congrArg some ((cE_6 G L S cs ar J _).trans (cE_6 G (va_up L 40 (va_up (L 40) n0 q0)) (va_up (va_up (va_up (va_up (va_up (va_up S 19 (upd (S 19) n0 x)) 20 (upd (S 20) n0 z0)) 22 (upd (S 22) n0 y)) 23 (upd (S 23) n0 w)) 18 (fun _ => S 18 0 + 1)) 24 (fun _ => d)) (cs) (vp_updL ar n0 g) (J) _).symm))
    · exact (fr2 7 0 (lv_0 S 7 (by decide)) (fun z => absurd z.1 (by decide)) (fun z => absurd z.1 (by decide))).trans (congrArg some ((cE_7 G L S cs ar J _).trans (cE_7 G (va_up L 40 (va_up (L 40) n0 q0)) (va_up (va_up (va_up (va_up (va_up (va_up S 19 (upd (S 19) n0 x)) 20 (upd (S 20) n0 z0)) 22 (upd (S 22) n0 y)) 23 (upd (S 23) n0 w)) 18 (fun _ => S 18 0 + 1)) 24 (fun _ => d)) (cs) (vp_updL ar n0 g) (J) _).symm))
    · exact (fr2 8 0 (lv_0 S 8 (by decide)) (fun z => absurd z.1 (by decide)) (fun z => absurd z.1 (by decide))).trans (congrArg some ((cE_8 G L S cs ar J _).trans (cE_8 G (va_up L 40 (va_up (L 40) n0 q0)) (va_up (va_up (va_up (va_up (va_up (va_up S 19 (upd (S 19) n0 x)) 20 (upd (S 20) n0 z0)) 22 (upd (S 22) n0 y)) 23 (upd (S 23) n0 w)) 18 (fun _ => S 18 0 + 1)) 24 (fun _ => d)) (cs) (vp_updL ar n0 g) (J) _).symm))
    · intro i hi; exact (fr2 10 i (lv_e S (by decide) hi) (fun z => absurd z.1 (by decide)) (fun z => absurd z.1 (by decide))).trans (congrArg some ((cE_10 G L S cs ar J _).trans (cE_10 G (va_up L 40 (va_up (L 40) n0 q0)) (va_up (va_up (va_up (va_up (va_up (va_up S 19 (upd (S 19) n0 x)) 20 (upd (S 20) n0 z0)) 22 (upd (S 22) n0 y)) 23 (upd (S 23) n0 w)) 18 (fun _ => S 18 0 + 1)) 24 (fun _ => d)) (cs) (vp_updL ar n0 g) (J) _).symm))
    · intro i hi; exact (fr2 11 i (lv_e S (by decide) hi) (fun z => absurd z.1 (by decide)) (fun z => absurd z.1 (by decide))).trans (congrArg some ((cE_11 G L S cs ar J _).trans (cE_11 G (va_up L 40 (va_up (L 40) n0 q0)) (va_up (va_up (va_up (va_up (va_up (va_up S 19 (upd (S 19) n0 x)) 20 (upd (S 20) n0 z0)) 22 (upd (S 22) n0 y)) 23 (upd (S 23) n0 w)) 18 (fun _ => S 18 0 + 1)) 24 (fun _ => d)) (cs) (vp_updL ar n0 g) (J) _).symm))
    · intro i hi; exact (fr2 12 i (lv_e S (by decide) hi) (fun z => absurd z.1 (by decide)) (fun z => absurd z.1 (by decide))).trans (congrArg some ((cE_12 G L S cs ar J _).trans (cE_12 G (va_up L 40 (va_up (L 40) n0 q0)) (va_up (va_up (va_up (va_up (va_up (va_up S 19 (upd (S 19) n0 x)) 20 (upd (S 20) n0 z0)) 22 (upd (S 22) n0 y)) 23 (upd (S 23) n0 w)) 18 (fun _ => S 18 0 + 1)) 24 (fun _ => d)) (cs) (vp_updL ar n0 g) (J) _).symm))
    · intro i hi; exact (fr2 20 i (lv_n S hi) (fun z => absurd z.1 (by decide)) (fun z => absurd z.1 (by decide))).trans (congrArg some ((cE_20 G L S cs ar J _).trans (cE_20 G (va_up L 40 (va_up (L 40) n0 q0)) (va_up (va_up (va_up (va_up (va_up (va_up S 19 (upd (S 19) n0 x)) 20 (upd (S 20) n0 z0)) 22 (upd (S 22) n0 y)) 23 (upd (S 23) n0 w)) 18 (fun _ => S 18 0 + 1)) 24 (fun _ => d)) (cs) (vp_updL ar n0 g) (J) _).symm))
    · intro i hi; exact (fr2 30 i (lv_c S (by decide) hi) (fun z => absurd z.1 (by decide)) (fun z => absurd z.1 (by decide))).trans (congrArg some ((cE_30 G L S cs ar J _).trans (cE_30 G (va_up L 40 (va_up (L 40) n0 q0)) (va_up (va_up (va_up (va_up (va_up (va_up S 19 (upd (S 19) n0 x)) 20 (upd (S 20) n0 z0)) 22 (upd (S 22) n0 y)) 23 (upd (S 23) n0 w)) 18 (fun _ => S 18 0 + 1)) 24 (fun _ => d)) (cs) (vp_updL ar n0 g) (J) _).symm))
    · intro i hi; exact (fr2 31 i (lv_c S (by decide) hi) (fun z => absurd z.1 (by decide)) (fun z => absurd z.1 (by decide))).trans (congrArg some ((cE_31 G L S cs ar J _).trans (cE_31 G (va_up L 40 (va_up (L 40) n0 q0)) (va_up (va_up (va_up (va_up (va_up (va_up S 19 (upd (S 19) n0 x)) 20 (upd (S 20) n0 z0)) 22 (upd (S 22) n0 y)) 23 (upd (S 23) n0 w)) 18 (fun _ => S 18 0 + 1)) 24 (fun _ => d)) (cs) (vp_updL ar n0 g) (J) _).symm))
    · intro i hi; exact (fr2 32 i (lv_c S (by decide) hi) (fun z => absurd z.1 (by decide)) (fun z => absurd z.1 (by decide))).trans (congrArg some ((cE_32 G L S cs ar J _).trans (cE_32 G (va_up L 40 (va_up (L 40) n0 q0)) (va_up (va_up (va_up (va_up (va_up (va_up S 19 (upd (S 19) n0 x)) 20 (upd (S 20) n0 z0)) 22 (upd (S 22) n0 y)) 23 (upd (S 23) n0 w)) 18 (fun _ => S 18 0 + 1)) 24 (fun _ => d)) (cs) (vp_updL ar n0 g) (J) _).symm))
    · intro i hi; exact (fr2 33 i (lv_c S (by decide) hi) (fun z => absurd z.1 (by decide)) (fun z => absurd z.1 (by decide))).trans (congrArg some ((cE_33 G L S cs ar J _).trans (cE_33 G (va_up L 40 (va_up (L 40) n0 q0)) (va_up (va_up (va_up (va_up (va_up (va_up S 19 (upd (S 19) n0 x)) 20 (upd (S 20) n0 z0)) 22 (upd (S 22) n0 y)) 23 (upd (S 23) n0 w)) 18 (fun _ => S 18 0 + 1)) 24 (fun _ => d)) (cs) (vp_updL ar n0 g) (J) _).symm))
    · intro i hi; exact (fr2 34 i (lv_c S (by decide) hi) (fun z => absurd z.1 (by decide)) (fun z => absurd z.1 (by decide))).trans (congrArg some ((cE_34 G L S cs ar J _).trans (cE_34 G (va_up L 40 (va_up (L 40) n0 q0)) (va_up (va_up (va_up (va_up (va_up (va_up S 19 (upd (S 19) n0 x)) 20 (upd (S 20) n0 z0)) 22 (upd (S 22) n0 y)) 23 (upd (S 23) n0 w)) 18 (fun _ => S 18 0 + 1)) 24 (fun _ => d)) (cs) (vp_updL ar n0 g) (J) _).symm))
    · intro i hi; exact (fr2 35 i (lv_c S (by decide) hi) (fun z => absurd z.1 (by decide)) (fun z => absurd z.1 (by decide))).trans (congrArg some ((cE_35 G L S cs ar J _).trans (cE_35 G (va_up L 40 (va_up (L 40) n0 q0)) (va_up (va_up (va_up (va_up (va_up (va_up S 19 (upd (S 19) n0 x)) 20 (upd (S 20) n0 z0)) 22 (upd (S 22) n0 y)) 23 (upd (S 23) n0 w)) 18 (fun _ => S 18 0 + 1)) 24 (fun _ => d)) (cs) (vp_updL ar n0 g) (J) _).symm))
    · intro i hi; exact (fr2 36 i (lv_c S (by decide) hi) (fun z => absurd z.1 (by decide)) (fun z => absurd z.1 (by decide))).trans (congrArg some ((cE_36 G L S cs ar J _).trans (cE_36 G (va_up L 40 (va_up (L 40) n0 q0)) (va_up (va_up (va_up (va_up (va_up (va_up S 19 (upd (S 19) n0 x)) 20 (upd (S 20) n0 z0)) 22 (upd (S 22) n0 y)) 23 (upd (S 23) n0 w)) 18 (fun _ => S 18 0 + 1)) 24 (fun _ => d)) (cs) (vp_updL ar n0 g) (J) _).symm))
    · intro i hi; refine (fr2 40 i (lv_l S hi) (fun z => absurd z.1 (by decide)) (fun z => absurd z.1 (by decide))).trans (congrArg some ((cE_40 G L S cs ar J i).trans ?_)); rw [cE_40]; show _ = oEn (upd (S 19) n0 x i) (vp_updL ar n0 g i) (upd (S 22) n0 y i) (upd (S 20) n0 z0 i) (upd (S 23) n0 w i); rw [pk_un (show i ≠ n0 by omega), pk_un (show i ≠ n0 by omega), pk_un (show i ≠ n0 by omega), pk_un (show i ≠ n0 by omega), pk_uLn (show i ≠ n0 by omega)]
  · intro k i h1 h2
    have h1 : lvq (cl (S 0 0)) (cl (S 7 0)) (cl (S 12 0)) (cl (S 18 0 + 1)) k i := h1
    rw [hcl1] at h1
    have h2 : ¬ (lvq (cl (S 0 0)) (cl (S 7 0)) (cl (S 12 0)) n0 k i) := by rw [← hcl]; exact h2
    obtain ⟨⟨t, ht, rfl⟩, rfl⟩ := new_l h1 h2
    rcases (show t = 0 by omega) with rfl
    · have e9 : (va_up L 40 (va_up (L 40) i q0)) 40 i = q0 := va_up_self (L 40) i q0
      show M ((va_up L 40 (va_up (L 40) i q0)) 40 i) = none ∧ M' ((va_up L 40 (va_up (L 40) i q0)) 40 i) = some (cE G _ _ _ _ _ 40 i)
      rw [e9]; refine ⟨m0, g0.trans (congrArg some ?_)⟩; rw [cE_40]; show oEn x g y z0 w = oEn (upd (S 19) i x i) (vp_updL ar i g i) (upd (S 22) i y i) (upd (S 20) i z0 i) (upd (S 23) i w i); rw [pk_us, pk_us, pk_us, pk_us, pk_uLs]
  · intro k i k' i' h1 h2 h3 h4 e
    have h1 : lvq (cl (S 0 0)) (cl (S 7 0)) (cl (S 12 0)) (cl (S 18 0 + 1)) k i := h1
    rw [hcl1] at h1
    have h2 : ¬ (lvq (cl (S 0 0)) (cl (S 7 0)) (cl (S 12 0)) n0 k i) := by rw [← hcl]; exact h2
    have h3 : lvq (cl (S 0 0)) (cl (S 7 0)) (cl (S 12 0)) (cl (S 18 0 + 1)) k' i' := h3
    rw [hcl1] at h3
    have h4 : ¬ (lvq (cl (S 0 0)) (cl (S 7 0)) (cl (S 12 0)) n0 k' i') := by rw [← hcl]; exact h4
    obtain ⟨⟨t, ht, rfl⟩, e1⟩ := new_l h1 h2
    obtain ⟨⟨t2, ht2, rfl⟩, e2⟩ := new_l h3 h4
    exact ⟨by omega, e1.trans e2.symm⟩
set_option maxHeartbeats 2000000 in
theorem EV.newE (h : EV G L S cs ar J M) {n0 : Nat} (hc : S 0 0 = nI n0) (hlt : n0 < 10) (h1n : 1 ≤ n0) (x : Nat) (hx : x < n0) (hkp : ∀ i, i < cl (S 12 0) → S 13 i = -1 ∨ cl (S 13 i) < n0) {q0 q1 q2 : Nat} (hnd : [q0, q1, q2].Nodup) (m0 : M q0 = none) (m1 : M q1 = none) (m2 : M q2 = none) (f0 : M' (L 0 0) = some (.inr (6, [.ref (L 1 0), .ref (L 2 0), .ref (L 3 0), .ref (L 4 0), .ref (L 10 0), .ref (L 5 0), .int (S 0 0 + 1), .int (S 7 0), .int (S 12 0), .int (S 18 0), .int (S 5 0), .int (S 24 0)]))) (f1 : M' (L 1 0) = some (aQ G 3 10 (va_up (rfs n0 (L 10)) n0 (some q0)))) (g0 : M' q0 = some (oEd (nI n0) q1 q2 (-1) 0)) (g1 : M' q1 = some (aI G 9 (tr 9 (fun j => S 1 (9 * x + j))))) (g2 : M' q2 = some (aI G 8 (tr 8 (fun j => S 2 (8 * x + j))))) (fr : ∀ z, M z ≠ none → z ≠ L 0 0 → z ≠ L 1 0 → M' z = M z) : EV G (va_up (va_up (va_up L 10 (va_up (L 10) n0 q0)) 11 (va_up (L 11) n0 q1)) 12 (va_up (L 12) n0 q2)) (va_up (va_up (va_up (va_up (va_up S 1 (cp (S 1) (9 * n0) (9 * x) 9)) 2 (cp (S 2) (8 * n0) (8 * x) 8)) 3 (upd (S 3) n0 (-1))) 4 (upd (S 4) n0 0)) 0 (fun _ => S 0 0 + 1)) (cs) (ar) (J) M' := by
  have hcl : cl (S 0 0) = n0 := by rw [hc, cl_n (by omega)]
  have hcl1 : cl (S 0 0 + 1) = n0 + 1 := by rw [hc, nI_s, cl_n (by omega)]
  have fr2 : ∀ k i, lvs S k i → ¬ (k = 0 ∧ i = 0) → ¬ (k = 1 ∧ i = 0) → M' (L k i) = some (cE G L S cs ar J k i) := fun k i h1 h2 h3 => (fr _ (sm_ne (h.1 k i h1)) (h.ne h1 (lv_0 S 0 (by decide)) h2) (h.ne h1 (lv_0 S 1 (by decide)) h3) ).trans (h.1 k i h1)
  refine h.grow ?_ ?_ ?_ ?_
  · refine lv_ind ?_ ?_ ?_ ?_ ?_ ?_ ?_ ?_ ?_ ?_ ?_ ?_ ?_ ?_ ?_ ?_ ?_ ?_ ?_ ?_ ?_
    · rfl
    · rfl
    · rfl
    · rfl
    · rfl
    · rfl
    · rfl
    · rfl
    · rfl
    · intro i hi; show va_up (L 10) n0 q0 i = _; exact va_up_ne _ _ (by omega)
    · intro i hi; show va_up (L 11) n0 q1 i = _; exact va_up_ne _ _ (by omega)
    · intro i hi; show va_up (L 12) n0 q2 i = _; exact va_up_ne _ _ (by omega)
    · intro i hi; rfl
    · intro i hi; rfl
    · intro i hi; rfl
    · intro i hi; rfl
    · intro i hi; rfl
    · intro i hi; rfl
    · intro i hi; rfl
    · intro i hi; rfl
    · intro i hi; rfl
  · refine lv_ind ?_ ?_ ?_ ?_ ?_ ?_ ?_ ?_ ?_ ?_ ?_ ?_ ?_ ?_ ?_ ?_ ?_ ?_ ?_ ?_ ?_
    · rw [f0, cE_0]; show _ = some (Sum.inr (6, ([.ref (L 1 0), .ref (L 2 0), .ref (L 3 0), .ref (L 4 0), .ref (va_up (L 10) n0 q0 0), .ref (L 5 0), .int (S 0 0 + 1), .int (S 7 0), .int (S 12 0), .int (S 18 0), .int (S 5 0), .int (S 24 0)] : List Value)) : va_E); rw [va_up_ne _ _ (show 0 ≠ n0 by omega)]
    · rw [f1, cE_1]; show _ = some (aQ G 3 10 (rfs (cl (S 0 0 + 1)) (va_up (L 10) n0 q0))); rw [hcl1, rfs_up]
    · exact (fr2 2 0 (lv_0 S 2 (by decide)) (fun z => absurd z.1 (by decide)) (fun z => absurd z.1 (by decide))).trans (congrArg some ((cE_2 G L S cs ar J _).trans (cE_2 G (va_up (va_up (va_up L 10 (va_up (L 10) n0 q0)) 11 (va_up (L 11) n0 q1)) 12 (va_up (L 12) n0 q2)) (va_up (va_up (va_up (va_up (va_up S 1 (cp (S 1) (9 * n0) (9 * x) 9)) 2 (cp (S 2) (8 * n0) (8 * x) 8)) 3 (upd (S 3) n0 (-1))) 4 (upd (S 4) n0 0)) 0 (fun _ => S 0 0 + 1)) (cs) (ar) (J) _).symm))
    · exact (fr2 3 0 (lv_0 S 3 (by decide)) (fun z => absurd z.1 (by decide)) (fun z => absurd z.1 (by decide))).trans (congrArg some ((cE_3 G L S cs ar J _).trans (cE_3 G (va_up (va_up (va_up L 10 (va_up (L 10) n0 q0)) 11 (va_up (L 11) n0 q1)) 12 (va_up (L 12) n0 q2)) (va_up (va_up (va_up (va_up (va_up S 1 (cp (S 1) (9 * n0) (9 * x) 9)) 2 (cp (S 2) (8 * n0) (8 * x) 8)) 3 (upd (S 3) n0 (-1))) 4 (upd (S 4) n0 0)) 0 (fun _ => S 0 0 + 1)) (cs) (ar) (J) _).symm))
    · exact (fr2 4 0 (lv_0 S 4 (by decide)) (fun z => absurd z.1 (by decide)) (fun z => absurd z.1 (by decide))).trans (congrArg some ((cE_4 G L S cs ar J _).trans (cE_4 G (va_up (va_up (va_up L 10 (va_up (L 10) n0 q0)) 11 (va_up (L 11) n0 q1)) 12 (va_up (L 12) n0 q2)) (va_up (va_up (va_up (va_up (va_up S 1 (cp (S 1) (9 * n0) (9 * x) 9)) 2 (cp (S 2) (8 * n0) (8 * x) 8)) 3 (upd (S 3) n0 (-1))) 4 (upd (S 4) n0 0)) 0 (fun _ => S 0 0 + 1)) (cs) (ar) (J) _).symm))
    · exact (fr2 5 0 (lv_0 S 5 (by decide)) (fun z => absurd z.1 (by decide)) (fun z => absurd z.1 (by decide))).trans (congrArg some ((cE_5 G L S cs ar J _).trans (cE_5 G (va_up (va_up (va_up L 10 (va_up (L 10) n0 q0)) 11 (va_up (L 11) n0 q1)) 12 (va_up (L 12) n0 q2)) (va_up (va_up (va_up (va_up (va_up S 1 (cp (S 1) (9 * n0) (9 * x) 9)) 2 (cp (S 2) (8 * n0) (8 * x) 8)) 3 (upd (S 3) n0 (-1))) 4 (upd (S 4) n0 0)) 0 (fun _ => S 0 0 + 1)) (cs) (ar) (J) _).symm))
    · exact (fr2 6 0 (lv_0 S 6 (by decide)) (fun z => absurd z.1 (by decide)) (fun z => absurd z.1 (by decide))).trans (congrArg some ((cE_6 G L S cs ar J _).trans (cE_6 G (va_up (va_up (va_up L 10 (va_up (L 10) n0 q0)) 11 (va_up (L 11) n0 q1)) 12 (va_up (L 12) n0 q2)) (va_up (va_up (va_up (va_up (va_up S 1 (cp (S 1) (9 * n0) (9 * x) 9)) 2 (cp (S 2) (8 * n0) (8 * x) 8)) 3 (upd (S 3) n0 (-1))) 4 (upd (S 4) n0 0)) 0 (fun _ => S 0 0 + 1)) (cs) (ar) (J) _).symm))
    · exact (fr2 7 0 (lv_0 S 7 (by decide)) (fun z => absurd z.1 (by decide)) (fun z => absurd z.1 (by decide))).trans (congrArg some ((cE_7 G L S cs ar J _).trans (cE_7 G (va_up (va_up (va_up L 10 (va_up (L 10) n0 q0)) 11 (va_up (L 11) n0 q1)) 12 (va_up (L 12) n0 q2)) (va_up (va_up (va_up (va_up (va_up S 1 (cp (S 1) (9 * n0) (9 * x) 9)) 2 (cp (S 2) (8 * n0) (8 * x) 8)) 3 (upd (S 3) n0 (-1))) 4 (upd (S 4) n0 0)) 0 (fun _ => S 0 0 + 1)) (cs) (ar) (J) _).symm))
    · exact (fr2 8 0 (lv_0 S 8 (by decide)) (fun z => absurd z.1 (by decide)) (fun z => absurd z.1 (by decide))).trans (congrArg some ((cE_8 G L S cs ar J _).trans (cE_8 G (va_up (va_up (va_up L 10 (va_up (L 10) n0 q0)) 11 (va_up (L 11) n0 q1)) 12 (va_up (L 12) n0 q2)) (va_up (va_up (va_up (va_up (va_up S 1 (cp (S 1) (9 * n0) (9 * x) 9)) 2 (cp (S 2) (8 * n0) (8 * x) 8)) 3 (upd (S 3) n0 (-1))) 4 (upd (S 4) n0 0)) 0 (fun _ => S 0 0 + 1)) (cs) (ar) (J) _).symm))
    · intro i hi; refine (fr2 10 i (lv_e S (by decide) hi) (fun z => absurd z.1 (by decide)) (fun z => absurd z.1 (by decide))).trans (congrArg some ((cE_10 G L S cs ar J i).trans ?_)); rw [cE_10]; show _ = oEd (nI i) (va_up (L 11) n0 q1 i) (va_up (L 12) n0 q2 i) (upd (S 3) n0 (-1) i) (upd (S 4) n0 0 i); rw [va_up_ne _ _ (show i ≠ n0 by omega), va_up_ne _ _ (show i ≠ n0 by omega), pk_un (show i ≠ n0 by omega), pk_un (show i ≠ n0 by omega)]
    · intro i hi; refine (fr2 11 i (lv_e S (by decide) hi) (fun z => absurd z.1 (by decide)) (fun z => absurd z.1 (by decide))).trans (congrArg some ((cE_11 G L S cs ar J i).trans ?_)); rw [cE_11]; show _ = aI G 9 (tr 9 (fun j => cp (S 1) (9 * n0) (9 * x) 9 (9 * i + j))); rw [tr_cg (fun j hj => (cp_lo (show 9 * i + j < 9 * n0 by omega)).symm)]
    · intro i hi; refine (fr2 12 i (lv_e S (by decide) hi) (fun z => absurd z.1 (by decide)) (fun z => absurd z.1 (by decide))).trans (congrArg some ((cE_12 G L S cs ar J i).trans ?_)); rw [cE_12]; show _ = aI G 8 (tr 8 (fun j => cp (S 2) (8 * n0) (8 * x) 8 (8 * i + j))); rw [tr_cg (fun j hj => (cp_lo (show 8 * i + j < 8 * n0 by omega)).symm)]
    · intro i hi; exact (fr2 20 i (lv_n S hi) (fun z => absurd z.1 (by decide)) (fun z => absurd z.1 (by decide))).trans (congrArg some ((cE_20 G L S cs ar J _).trans (cE_20 G (va_up (va_up (va_up L 10 (va_up (L 10) n0 q0)) 11 (va_up (L 11) n0 q1)) 12 (va_up (L 12) n0 q2)) (va_up (va_up (va_up (va_up (va_up S 1 (cp (S 1) (9 * n0) (9 * x) 9)) 2 (cp (S 2) (8 * n0) (8 * x) 8)) 3 (upd (S 3) n0 (-1))) 4 (upd (S 4) n0 0)) 0 (fun _ => S 0 0 + 1)) (cs) (ar) (J) _).symm))
    · intro i hi; refine (fr2 30 i (lv_c S (by decide) hi) (fun z => absurd z.1 (by decide)) (fun z => absurd z.1 (by decide))).trans (congrArg some ((cE_30 G L S cs ar J i).trans ?_)); rw [cE_30]; show _ = oCo (L 31 i) (L 32 i) (L 33 i) (L 35 i) (S 14 i) (kpt (va_up (va_up (va_up L 10 (va_up (L 10) n0 q0)) 11 (va_up (L 11) n0 q1)) 12 (va_up (L 12) n0 q2)) (S 13 i)); by_cases c9 : S 13 i = -1; rw [kpt_n _ c9, kpt_n _ c9]; rw [kpt_s _ c9, kpt_s _ c9]; show _ = oCo (L 31 i) (L 32 i) (L 33 i) (L 35 i) (S 14 i) (some (va_up (L 10) n0 q0 (cl (S 13 i)))); rw [va_up_ne _ _ (show cl (S 13 i) ≠ n0 by have := (hkp i hi).resolve_left c9; omega)]
    · intro i hi; exact (fr2 31 i (lv_c S (by decide) hi) (fun z => absurd z.1 (by decide)) (fun z => absurd z.1 (by decide))).trans (congrArg some ((cE_31 G L S cs ar J _).trans (cE_31 G (va_up (va_up (va_up L 10 (va_up (L 10) n0 q0)) 11 (va_up (L 11) n0 q1)) 12 (va_up (L 12) n0 q2)) (va_up (va_up (va_up (va_up (va_up S 1 (cp (S 1) (9 * n0) (9 * x) 9)) 2 (cp (S 2) (8 * n0) (8 * x) 8)) 3 (upd (S 3) n0 (-1))) 4 (upd (S 4) n0 0)) 0 (fun _ => S 0 0 + 1)) (cs) (ar) (J) _).symm))
    · intro i hi; exact (fr2 32 i (lv_c S (by decide) hi) (fun z => absurd z.1 (by decide)) (fun z => absurd z.1 (by decide))).trans (congrArg some ((cE_32 G L S cs ar J _).trans (cE_32 G (va_up (va_up (va_up L 10 (va_up (L 10) n0 q0)) 11 (va_up (L 11) n0 q1)) 12 (va_up (L 12) n0 q2)) (va_up (va_up (va_up (va_up (va_up S 1 (cp (S 1) (9 * n0) (9 * x) 9)) 2 (cp (S 2) (8 * n0) (8 * x) 8)) 3 (upd (S 3) n0 (-1))) 4 (upd (S 4) n0 0)) 0 (fun _ => S 0 0 + 1)) (cs) (ar) (J) _).symm))
    · intro i hi; exact (fr2 33 i (lv_c S (by decide) hi) (fun z => absurd z.1 (by decide)) (fun z => absurd z.1 (by decide))).trans (congrArg some ((cE_33 G L S cs ar J _).trans (cE_33 G (va_up (va_up (va_up L 10 (va_up (L 10) n0 q0)) 11 (va_up (L 11) n0 q1)) 12 (va_up (L 12) n0 q2)) (va_up (va_up (va_up (va_up (va_up S 1 (cp (S 1) (9 * n0) (9 * x) 9)) 2 (cp (S 2) (8 * n0) (8 * x) 8)) 3 (upd (S 3) n0 (-1))) 4 (upd (S 4) n0 0)) 0 (fun _ => S 0 0 + 1)) (cs) (ar) (J) _).symm))
    · intro i hi; exact (fr2 34 i (lv_c S (by decide) hi) (fun z => absurd z.1 (by decide)) (fun z => absurd z.1 (by decide))).trans (congrArg some ((cE_34 G L S cs ar J _).trans (cE_34 G (va_up (va_up (va_up L 10 (va_up (L 10) n0 q0)) 11 (va_up (L 11) n0 q1)) 12 (va_up (L 12) n0 q2)) (va_up (va_up (va_up (va_up (va_up S 1 (cp (S 1) (9 * n0) (9 * x) 9)) 2 (cp (S 2) (8 * n0) (8 * x) 8)) 3 (upd (S 3) n0 (-1))) 4 (upd (S 4) n0 0)) 0 (fun _ => S 0 0 + 1)) (cs) (ar) (J) _).symm))
    · intro i hi; exact (fr2 35 i (lv_c S (by decide) hi) (fun z => absurd z.1 (by decide)) (fun z => absurd z.1 (by decide))).trans (congrArg some ((cE_35 G L S cs ar J _).trans (cE_35 G (va_up (va_up (va_up L 10 (va_up (L 10) n0 q0)) 11 (va_up (L 11) n0 q1)) 12 (va_up (L 12) n0 q2)) (va_up (va_up (va_up (va_up (va_up S 1 (cp (S 1) (9 * n0) (9 * x) 9)) 2 (cp (S 2) (8 * n0) (8 * x) 8)) 3 (upd (S 3) n0 (-1))) 4 (upd (S 4) n0 0)) 0 (fun _ => S 0 0 + 1)) (cs) (ar) (J) _).symm))
    · intro i hi; exact (fr2 36 i (lv_c S (by decide) hi) (fun z => absurd z.1 (by decide)) (fun z => absurd z.1 (by decide))).trans (congrArg some ((cE_36 G L S cs ar J _).trans (cE_36 G (va_up (va_up (va_up L 10 (va_up (L 10) n0 q0)) 11 (va_up (L 11) n0 q1)) 12 (va_up (L 12) n0 q2)) (va_up (va_up (va_up (va_up (va_up S 1 (cp (S 1) (9 * n0) (9 * x) 9)) 2 (cp (S 2) (8 * n0) (8 * x) 8)) 3 (upd (S 3) n0 (-1))) 4 (upd (S 4) n0 0)) 0 (fun _ => S 0 0 + 1)) (cs) (ar) (J) _).symm))
    · intro i hi; exact (fr2 40 i (lv_l S hi) (fun z => absurd z.1 (by decide)) (fun z => absurd z.1 (by decide))).trans (congrArg some ((cE_40 G L S cs ar J _).trans (cE_40 G (va_up (va_up (va_up L 10 (va_up (L 10) n0 q0)) 11 (va_up (L 11) n0 q1)) 12 (va_up (L 12) n0 q2)) (va_up (va_up (va_up (va_up (va_up S 1 (cp (S 1) (9 * n0) (9 * x) 9)) 2 (cp (S 2) (8 * n0) (8 * x) 8)) 3 (upd (S 3) n0 (-1))) 4 (upd (S 4) n0 0)) 0 (fun _ => S 0 0 + 1)) (cs) (ar) (J) _).symm))
  · intro k i h1 h2
    have h1 : lvq (cl (S 0 0 + 1)) (cl (S 7 0)) (cl (S 12 0)) (cl (S 18 0)) k i := h1
    rw [hcl1] at h1
    have h2 : ¬ (lvq n0 (cl (S 7 0)) (cl (S 12 0)) (cl (S 18 0)) k i) := by rw [← hcl]; exact h2
    obtain ⟨⟨t, ht, rfl⟩, rfl⟩ := new_e h1 h2
    rcases (show t = 0 ∨ t = 1 ∨ t = 2 by omega) with rfl | rfl | rfl
    · have e9 : (va_up (va_up (va_up L 10 (va_up (L 10) i q0)) 11 (va_up (L 11) i q1)) 12 (va_up (L 12) i q2)) 10 i = q0 := va_up_self (L 10) i q0
      show M ((va_up (va_up (va_up L 10 (va_up (L 10) i q0)) 11 (va_up (L 11) i q1)) 12 (va_up (L 12) i q2)) 10 i) = none ∧ M' ((va_up (va_up (va_up L 10 (va_up (L 10) i q0)) 11 (va_up (L 11) i q1)) 12 (va_up (L 12) i q2)) 10 i) = some (cE G _ _ _ _ _ 10 i)
      rw [e9]; refine ⟨m0, g0.trans (congrArg some ?_)⟩; rw [cE_10]; show oEd (nI i) q1 q2 (-1) 0 = oEd (nI i) (va_up (L 11) i q1 i) (va_up (L 12) i q2 i) (upd (S 3) i (-1) i) (upd (S 4) i 0 i); rw [va_up_self, va_up_self, pk_us, pk_us]
    · have e9 : (va_up (va_up (va_up L 10 (va_up (L 10) i q0)) 11 (va_up (L 11) i q1)) 12 (va_up (L 12) i q2)) 11 i = q1 := va_up_self (L 11) i q1
      show M ((va_up (va_up (va_up L 10 (va_up (L 10) i q0)) 11 (va_up (L 11) i q1)) 12 (va_up (L 12) i q2)) 11 i) = none ∧ M' ((va_up (va_up (va_up L 10 (va_up (L 10) i q0)) 11 (va_up (L 11) i q1)) 12 (va_up (L 12) i q2)) 11 i) = some (cE G _ _ _ _ _ 11 i)
      rw [e9]; refine ⟨m1, g1.trans (congrArg some ?_)⟩; rw [cE_11]; show aI G 9 (tr 9 (fun j => S 1 (9 * x + j))) = aI G 9 (tr 9 (fun j => cp (S 1) (9 * i) (9 * x) 9 (9 * i + j))); rw [tr_cg (fun j hj => (cp_in hj).symm)]
    · have e9 : (va_up (va_up (va_up L 10 (va_up (L 10) i q0)) 11 (va_up (L 11) i q1)) 12 (va_up (L 12) i q2)) 12 i = q2 := va_up_self (L 12) i q2
      show M ((va_up (va_up (va_up L 10 (va_up (L 10) i q0)) 11 (va_up (L 11) i q1)) 12 (va_up (L 12) i q2)) 12 i) = none ∧ M' ((va_up (va_up (va_up L 10 (va_up (L 10) i q0)) 11 (va_up (L 11) i q1)) 12 (va_up (L 12) i q2)) 12 i) = some (cE G _ _ _ _ _ 12 i)
      rw [e9]; refine ⟨m2, g2.trans (congrArg some ?_)⟩; rw [cE_12]; show aI G 8 (tr 8 (fun j => S 2 (8 * x + j))) = aI G 8 (tr 8 (fun j => cp (S 2) (8 * i) (8 * x) 8 (8 * i + j))); rw [tr_cg (fun j hj => (cp_in hj).symm)]
  · intro k i k' i' h1 h2 h3 h4 e
    have h1 : lvq (cl (S 0 0 + 1)) (cl (S 7 0)) (cl (S 12 0)) (cl (S 18 0)) k i := h1
    rw [hcl1] at h1
    have h2 : ¬ (lvq n0 (cl (S 7 0)) (cl (S 12 0)) (cl (S 18 0)) k i) := by rw [← hcl]; exact h2
    have h3 : lvq (cl (S 0 0 + 1)) (cl (S 7 0)) (cl (S 12 0)) (cl (S 18 0)) k' i' := h3
    rw [hcl1] at h3
    have h4 : ¬ (lvq n0 (cl (S 7 0)) (cl (S 12 0)) (cl (S 18 0)) k' i') := by rw [← hcl]; exact h4
    obtain ⟨⟨t, ht, rfl⟩, e1⟩ := new_e h1 h2
    obtain ⟨⟨t2, ht2, rfl⟩, e2⟩ := new_e h3 h4
    have hv : ∀ u, u < 3 → [q0, q1, q2][u]? = some ((va_up (va_up (va_up L 10 (va_up (L 10) n0 q0)) 11 (va_up (L 11) n0 q1)) 12 (va_up (L 12) n0 q2)) (10 + u) n0) := by
      intro u hu
      rcases (show u = 0 ∨ u = 1 ∨ u = 2 by omega) with rfl | rfl | rfl
      · exact congrArg some (va_up_self (L 10) n0 q0).symm
      · exact congrArg some (va_up_self (L 11) n0 q1).symm
      · exact congrArg some (va_up_self (L 12) n0 q2).symm
    rw [e1, e2] at e
    have h9 := (List.getElem?_inj (by simpa using ht) hnd).mp ((hv t ht).trans ((congrArg some e).trans (hv t2 ht2).symm))
    exact ⟨by omega, e1.trans e2.symm⟩
set_option maxHeartbeats 2000000 in
theorem EV.newC (h : EV G L S cs ar J M) {n0 : Nat} (hc : S 12 0 = nI n0) (hlt : n0 < 12) (z14 : S 14 n0 = 0) (z15 : ∀ j, j < 24 → S 15 (24 * n0 + j) = 0) (z16 : ∀ j, j < 24 → S 16 (24 * n0 + j) = 0) (zcs : ∀ j, j < 4 → cs (4 * n0 + j) = 0) {q0 q1 q2 q3 q4 q5 q6 : Nat} (hnd : [q0, q1, q2, q3, q4, q5, q6].Nodup) (m0 : M q0 = none) (m1 : M q1 = none) (m2 : M q2 = none) (m3 : M q3 = none) (m4 : M q4 = none) (m5 : M q5 = none) (m6 : M q6 = none) (f0 : M' (L 0 0) = some (.inr (6, [.ref (L 1 0), .ref (L 2 0), .ref (L 3 0), .ref (L 4 0), .ref (L 10 0), .ref (L 5 0), .int (S 0 0), .int (S 7 0), .int (S 12 0 + 1), .int (S 18 0), .int (S 5 0), .int (S 24 0)]))) (f1 : M' (L 3 0) = some (aQ G 5 12 (va_up (rfs n0 (L 30)) n0 (some q0)))) (g0 : M' q0 = some (oCo q1 q2 q3 q5 0 none)) (g1 : M' q1 = some (aI G 24 (fun _ => 0))) (g2 : M' q2 = some (aI G 24 (fun _ => 0))) (g3 : M' q3 = some (oCe q4)) (g4 : M' q4 = some (aJ G 4 (fun _ => 0))) (g5 : M' q5 = some (oCe q6)) (g6 : M' q6 = some (aJ G 4 (fun _ => 0))) (fr : ∀ z, M z ≠ none → z ≠ L 0 0 → z ≠ L 3 0 → M' z = M z) : EV G (va_up (va_up (va_up (va_up (va_up (va_up (va_up L 30 (va_up (L 30) n0 q0)) 31 (va_up (L 31) n0 q1)) 32 (va_up (L 32) n0 q2)) 33 (va_up (L 33) n0 q3)) 34 (va_up (L 34) n0 q4)) 35 (va_up (L 35) n0 q5)) 36 (va_up (L 36) n0 q6)) (va_up (va_up S 13 (upd (S 13) n0 (-1))) 12 (fun _ => S 12 0 + 1)) (cs) (ar) ((J.1, J.2.1, J.2.2.1, J.2.2.2.1, va_up J.2.2.2.2 n0 (fun _ => 0))) M' := by
  have hcl : cl (S 12 0) = n0 := by rw [hc, cl_n (by omega)]
  have hcl1 : cl (S 12 0 + 1) = n0 + 1 := by rw [hc, nI_s, cl_n (by omega)]
  have fr2 : ∀ k i, lvs S k i → ¬ (k = 0 ∧ i = 0) → ¬ (k = 3 ∧ i = 0) → M' (L k i) = some (cE G L S cs ar J k i) := fun k i h1 h2 h3 => (fr _ (sm_ne (h.1 k i h1)) (h.ne h1 (lv_0 S 0 (by decide)) h2) (h.ne h1 (lv_0 S 3 (by decide)) h3) ).trans (h.1 k i h1)
  refine h.grow ?_ ?_ ?_ ?_
  · refine lv_ind ?_ ?_ ?_ ?_ ?_ ?_ ?_ ?_ ?_ ?_ ?_ ?_ ?_ ?_ ?_ ?_ ?_ ?_ ?_ ?_ ?_
    · rfl
    · rfl
    · rfl
    · rfl
    · rfl
    · rfl
    · rfl
    · rfl
    · rfl
    · intro i hi; rfl
    · intro i hi; rfl
    · intro i hi; rfl
    · intro i hi; rfl
    · intro i hi; show va_up (L 30) n0 q0 i = _; exact va_up_ne _ _ (by omega)
    · intro i hi; show va_up (L 31) n0 q1 i = _; exact va_up_ne _ _ (by omega)
    · intro i hi; show va_up (L 32) n0 q2 i = _; exact va_up_ne _ _ (by omega)
    · intro i hi; show va_up (L 33) n0 q3 i = _; exact va_up_ne _ _ (by omega)
    · intro i hi; show va_up (L 34) n0 q4 i = _; exact va_up_ne _ _ (by omega)
    · intro i hi; show va_up (L 35) n0 q5 i = _; exact va_up_ne _ _ (by omega)
    · intro i hi; show va_up (L 36) n0 q6 i = _; exact va_up_ne _ _ (by omega)
    · intro i hi; rfl
  · refine lv_ind ?_ ?_ ?_ ?_ ?_ ?_ ?_ ?_ ?_ ?_ ?_ ?_ ?_ ?_ ?_ ?_ ?_ ?_ ?_ ?_ ?_
    · rw [f0, cE_0]; rfl
    · exact (fr2 1 0 (lv_0 S 1 (by decide)) (fun z => absurd z.1 (by decide)) (fun z => absurd z.1 (by decide))).trans (congrArg some ((cE_1 G L S cs ar J _).trans (cE_1 G (va_up (va_up (va_up (va_up (va_up (va_up (va_up L 30 (va_up (L 30) n0 q0)) 31 (va_up (L 31) n0 q1)) 32 (va_up (L 32) n0 q2)) 33 (va_up (L 33) n0 q3)) 34 (va_up (L 34) n0 q4)) 35 (va_up (L 35) n0 q5)) 36 (va_up (L 36) n0 q6)) (va_up (va_up S 13 (upd (S 13) n0 (-1))) 12 (fun _ => S 12 0 + 1)) (cs) (ar) ((J.1, J.2.1, J.2.2.1, J.2.2.2.1, va_up J.2.2.2.2 n0 (fun _ => 0))) _).symm))
    · exact (fr2 2 0 (lv_0 S 2 (by decide)) (fun z => absurd z.1 (by decide)) (fun z => absurd z.1 (by decide))).trans (congrArg some ((cE_2 G L S cs ar J _).trans (cE_2 G (va_up (va_up (va_up (va_up (va_up (va_up (va_up L 30 (va_up (L 30) n0 q0)) 31 (va_up (L 31) n0 q1)) 32 (va_up (L 32) n0 q2)) 33 (va_up (L 33) n0 q3)) 34 (va_up (L 34) n0 q4)) 35 (va_up (L 35) n0 q5)) 36 (va_up (L 36) n0 q6)) (va_up (va_up S 13 (upd (S 13) n0 (-1))) 12 (fun _ => S 12 0 + 1)) (cs) (ar) ((J.1, J.2.1, J.2.2.1, J.2.2.2.1, va_up J.2.2.2.2 n0 (fun _ => 0))) _).symm))
    · rw [f1, cE_3]; show _ = some (aQ G 5 12 (rfs (cl (S 12 0 + 1)) (va_up (L 30) n0 q0))); rw [hcl1, rfs_up]
    · exact (fr2 4 0 (lv_0 S 4 (by decide)) (fun z => absurd z.1 (by decide)) (fun z => absurd z.1 (by decide))).trans (congrArg some ((cE_4 G L S cs ar J _).trans (cE_4 G (va_up (va_up (va_up (va_up (va_up (va_up (va_up L 30 (va_up (L 30) n0 q0)) 31 (va_up (L 31) n0 q1)) 32 (va_up (L 32) n0 q2)) 33 (va_up (L 33) n0 q3)) 34 (va_up (L 34) n0 q4)) 35 (va_up (L 35) n0 q5)) 36 (va_up (L 36) n0 q6)) (va_up (va_up S 13 (upd (S 13) n0 (-1))) 12 (fun _ => S 12 0 + 1)) (cs) (ar) ((J.1, J.2.1, J.2.2.1, J.2.2.2.1, va_up J.2.2.2.2 n0 (fun _ => 0))) _).symm))
    · exact (fr2 5 0 (lv_0 S 5 (by decide)) (fun z => absurd z.1 (by decide)) (fun z => absurd z.1 (by decide))).trans (congrArg some ((cE_5 G L S cs ar J _).trans (cE_5 G (va_up (va_up (va_up (va_up (va_up (va_up (va_up L 30 (va_up (L 30) n0 q0)) 31 (va_up (L 31) n0 q1)) 32 (va_up (L 32) n0 q2)) 33 (va_up (L 33) n0 q3)) 34 (va_up (L 34) n0 q4)) 35 (va_up (L 35) n0 q5)) 36 (va_up (L 36) n0 q6)) (va_up (va_up S 13 (upd (S 13) n0 (-1))) 12 (fun _ => S 12 0 + 1)) (cs) (ar) ((J.1, J.2.1, J.2.2.1, J.2.2.2.1, va_up J.2.2.2.2 n0 (fun _ => 0))) _).symm))
    · exact (fr2 6 0 (lv_0 S 6 (by decide)) (fun z => absurd z.1 (by decide)) (fun z => absurd z.1 (by decide))).trans (congrArg some ((cE_6 G L S cs ar J _).trans (cE_6 G (va_up (va_up (va_up (va_up (va_up (va_up (va_up L 30 (va_up (L 30) n0 q0)) 31 (va_up (L 31) n0 q1)) 32 (va_up (L 32) n0 q2)) 33 (va_up (L 33) n0 q3)) 34 (va_up (L 34) n0 q4)) 35 (va_up (L 35) n0 q5)) 36 (va_up (L 36) n0 q6)) (va_up (va_up S 13 (upd (S 13) n0 (-1))) 12 (fun _ => S 12 0 + 1)) (cs) (ar) ((J.1, J.2.1, J.2.2.1, J.2.2.2.1, va_up J.2.2.2.2 n0 (fun _ => 0))) _).symm))
    · exact (fr2 7 0 (lv_0 S 7 (by decide)) (fun z => absurd z.1 (by decide)) (fun z => absurd z.1 (by decide))).trans (congrArg some ((cE_7 G L S cs ar J _).trans (cE_7 G (va_up (va_up (va_up (va_up (va_up (va_up (va_up L 30 (va_up (L 30) n0 q0)) 31 (va_up (L 31) n0 q1)) 32 (va_up (L 32) n0 q2)) 33 (va_up (L 33) n0 q3)) 34 (va_up (L 34) n0 q4)) 35 (va_up (L 35) n0 q5)) 36 (va_up (L 36) n0 q6)) (va_up (va_up S 13 (upd (S 13) n0 (-1))) 12 (fun _ => S 12 0 + 1)) (cs) (ar) ((J.1, J.2.1, J.2.2.1, J.2.2.2.1, va_up J.2.2.2.2 n0 (fun _ => 0))) _).symm))
    · exact (fr2 8 0 (lv_0 S 8 (by decide)) (fun z => absurd z.1 (by decide)) (fun z => absurd z.1 (by decide))).trans (congrArg some ((cE_8 G L S cs ar J _).trans (cE_8 G (va_up (va_up (va_up (va_up (va_up (va_up (va_up L 30 (va_up (L 30) n0 q0)) 31 (va_up (L 31) n0 q1)) 32 (va_up (L 32) n0 q2)) 33 (va_up (L 33) n0 q3)) 34 (va_up (L 34) n0 q4)) 35 (va_up (L 35) n0 q5)) 36 (va_up (L 36) n0 q6)) (va_up (va_up S 13 (upd (S 13) n0 (-1))) 12 (fun _ => S 12 0 + 1)) (cs) (ar) ((J.1, J.2.1, J.2.2.1, J.2.2.2.1, va_up J.2.2.2.2 n0 (fun _ => 0))) _).symm))
    · intro i hi; exact (fr2 10 i (lv_e S (by decide) hi) (fun z => absurd z.1 (by decide)) (fun z => absurd z.1 (by decide))).trans (congrArg some ((cE_10 G L S cs ar J _).trans (cE_10 G (va_up (va_up (va_up (va_up (va_up (va_up (va_up L 30 (va_up (L 30) n0 q0)) 31 (va_up (L 31) n0 q1)) 32 (va_up (L 32) n0 q2)) 33 (va_up (L 33) n0 q3)) 34 (va_up (L 34) n0 q4)) 35 (va_up (L 35) n0 q5)) 36 (va_up (L 36) n0 q6)) (va_up (va_up S 13 (upd (S 13) n0 (-1))) 12 (fun _ => S 12 0 + 1)) (cs) (ar) ((J.1, J.2.1, J.2.2.1, J.2.2.2.1, va_up J.2.2.2.2 n0 (fun _ => 0))) _).symm))
    · intro i hi; exact (fr2 11 i (lv_e S (by decide) hi) (fun z => absurd z.1 (by decide)) (fun z => absurd z.1 (by decide))).trans (congrArg some ((cE_11 G L S cs ar J _).trans (cE_11 G (va_up (va_up (va_up (va_up (va_up (va_up (va_up L 30 (va_up (L 30) n0 q0)) 31 (va_up (L 31) n0 q1)) 32 (va_up (L 32) n0 q2)) 33 (va_up (L 33) n0 q3)) 34 (va_up (L 34) n0 q4)) 35 (va_up (L 35) n0 q5)) 36 (va_up (L 36) n0 q6)) (va_up (va_up S 13 (upd (S 13) n0 (-1))) 12 (fun _ => S 12 0 + 1)) (cs) (ar) ((J.1, J.2.1, J.2.2.1, J.2.2.2.1, va_up J.2.2.2.2 n0 (fun _ => 0))) _).symm))
    · intro i hi; exact (fr2 12 i (lv_e S (by decide) hi) (fun z => absurd z.1 (by decide)) (fun z => absurd z.1 (by decide))).trans (congrArg some ((cE_12 G L S cs ar J _).trans (cE_12 G (va_up (va_up (va_up (va_up (va_up (va_up (va_up L 30 (va_up (L 30) n0 q0)) 31 (va_up (L 31) n0 q1)) 32 (va_up (L 32) n0 q2)) 33 (va_up (L 33) n0 q3)) 34 (va_up (L 34) n0 q4)) 35 (va_up (L 35) n0 q5)) 36 (va_up (L 36) n0 q6)) (va_up (va_up S 13 (upd (S 13) n0 (-1))) 12 (fun _ => S 12 0 + 1)) (cs) (ar) ((J.1, J.2.1, J.2.2.1, J.2.2.2.1, va_up J.2.2.2.2 n0 (fun _ => 0))) _).symm))
    · intro i hi; exact (fr2 20 i (lv_n S hi) (fun z => absurd z.1 (by decide)) (fun z => absurd z.1 (by decide))).trans (congrArg some ((cE_20 G L S cs ar J _).trans (cE_20 G (va_up (va_up (va_up (va_up (va_up (va_up (va_up L 30 (va_up (L 30) n0 q0)) 31 (va_up (L 31) n0 q1)) 32 (va_up (L 32) n0 q2)) 33 (va_up (L 33) n0 q3)) 34 (va_up (L 34) n0 q4)) 35 (va_up (L 35) n0 q5)) 36 (va_up (L 36) n0 q6)) (va_up (va_up S 13 (upd (S 13) n0 (-1))) 12 (fun _ => S 12 0 + 1)) (cs) (ar) ((J.1, J.2.1, J.2.2.1, J.2.2.2.1, va_up J.2.2.2.2 n0 (fun _ => 0))) _).symm))
    · intro i hi; refine (fr2 30 i (lv_c S (by decide) hi) (fun z => absurd z.1 (by decide)) (fun z => absurd z.1 (by decide))).trans (congrArg some ((cE_30 G L S cs ar J i).trans ?_)); rw [cE_30]; show _ = oCo (va_up (L 31) n0 q1 i) (va_up (L 32) n0 q2 i) (va_up (L 33) n0 q3 i) (va_up (L 35) n0 q5 i) (S 14 i) (kpt _ (upd (S 13) n0 (-1) i)); rw [va_up_ne _ _ (show i ≠ n0 by omega), va_up_ne _ _ (show i ≠ n0 by omega), va_up_ne _ _ (show i ≠ n0 by omega), va_up_ne _ _ (show i ≠ n0 by omega), pk_un (show i ≠ n0 by omega)]; by_cases c9 : S 13 i = -1; rw [kpt_n _ c9, kpt_n _ c9]; rw [kpt_s _ c9, kpt_s _ c9]; rfl
    · intro i hi; exact (fr2 31 i (lv_c S (by decide) hi) (fun z => absurd z.1 (by decide)) (fun z => absurd z.1 (by decide))).trans (congrArg some ((cE_31 G L S cs ar J _).trans (cE_31 G (va_up (va_up (va_up (va_up (va_up (va_up (va_up L 30 (va_up (L 30) n0 q0)) 31 (va_up (L 31) n0 q1)) 32 (va_up (L 32) n0 q2)) 33 (va_up (L 33) n0 q3)) 34 (va_up (L 34) n0 q4)) 35 (va_up (L 35) n0 q5)) 36 (va_up (L 36) n0 q6)) (va_up (va_up S 13 (upd (S 13) n0 (-1))) 12 (fun _ => S 12 0 + 1)) (cs) (ar) ((J.1, J.2.1, J.2.2.1, J.2.2.2.1, va_up J.2.2.2.2 n0 (fun _ => 0))) _).symm))
    · intro i hi; exact (fr2 32 i (lv_c S (by decide) hi) (fun z => absurd z.1 (by decide)) (fun z => absurd z.1 (by decide))).trans (congrArg some ((cE_32 G L S cs ar J _).trans (cE_32 G (va_up (va_up (va_up (va_up (va_up (va_up (va_up L 30 (va_up (L 30) n0 q0)) 31 (va_up (L 31) n0 q1)) 32 (va_up (L 32) n0 q2)) 33 (va_up (L 33) n0 q3)) 34 (va_up (L 34) n0 q4)) 35 (va_up (L 35) n0 q5)) 36 (va_up (L 36) n0 q6)) (va_up (va_up S 13 (upd (S 13) n0 (-1))) 12 (fun _ => S 12 0 + 1)) (cs) (ar) ((J.1, J.2.1, J.2.2.1, J.2.2.2.1, va_up J.2.2.2.2 n0 (fun _ => 0))) _).symm))
    · intro i hi; refine (fr2 33 i (lv_c S (by decide) hi) (fun z => absurd z.1 (by decide)) (fun z => absurd z.1 (by decide))).trans (congrArg some ((cE_33 G L S cs ar J i).trans ?_)); rw [cE_33]; show _ = oCe (va_up (L 34) n0 q4 i); rw [va_up_ne _ _ (show i ≠ n0 by omega)]
    · intro i hi; exact (fr2 34 i (lv_c S (by decide) hi) (fun z => absurd z.1 (by decide)) (fun z => absurd z.1 (by decide))).trans (congrArg some ((cE_34 G L S cs ar J _).trans (cE_34 G (va_up (va_up (va_up (va_up (va_up (va_up (va_up L 30 (va_up (L 30) n0 q0)) 31 (va_up (L 31) n0 q1)) 32 (va_up (L 32) n0 q2)) 33 (va_up (L 33) n0 q3)) 34 (va_up (L 34) n0 q4)) 35 (va_up (L 35) n0 q5)) 36 (va_up (L 36) n0 q6)) (va_up (va_up S 13 (upd (S 13) n0 (-1))) 12 (fun _ => S 12 0 + 1)) (cs) (ar) ((J.1, J.2.1, J.2.2.1, J.2.2.2.1, va_up J.2.2.2.2 n0 (fun _ => 0))) _).symm))
    · intro i hi; refine (fr2 35 i (lv_c S (by decide) hi) (fun z => absurd z.1 (by decide)) (fun z => absurd z.1 (by decide))).trans (congrArg some ((cE_35 G L S cs ar J i).trans ?_)); rw [cE_35]; show _ = oCe (va_up (L 36) n0 q6 i); rw [va_up_ne _ _ (show i ≠ n0 by omega)]
    · intro i hi; refine (fr2 36 i (lv_c S (by decide) hi) (fun z => absurd z.1 (by decide)) (fun z => absurd z.1 (by decide))).trans (congrArg some ((cE_36 G L S cs ar J i).trans ?_)); rw [cE_36]; show _ = aJ G 4 (va_up J.2.2.2.2 n0 (fun _ => 0) i); rw [va_up_ne _ _ (show i ≠ n0 by omega)]
    · intro i hi; exact (fr2 40 i (lv_l S hi) (fun z => absurd z.1 (by decide)) (fun z => absurd z.1 (by decide))).trans (congrArg some ((cE_40 G L S cs ar J _).trans (cE_40 G (va_up (va_up (va_up (va_up (va_up (va_up (va_up L 30 (va_up (L 30) n0 q0)) 31 (va_up (L 31) n0 q1)) 32 (va_up (L 32) n0 q2)) 33 (va_up (L 33) n0 q3)) 34 (va_up (L 34) n0 q4)) 35 (va_up (L 35) n0 q5)) 36 (va_up (L 36) n0 q6)) (va_up (va_up S 13 (upd (S 13) n0 (-1))) 12 (fun _ => S 12 0 + 1)) (cs) (ar) ((J.1, J.2.1, J.2.2.1, J.2.2.2.1, va_up J.2.2.2.2 n0 (fun _ => 0))) _).symm))
  · intro k i h1 h2
    have h1 : lvq (cl (S 0 0)) (cl (S 7 0)) (cl (S 12 0 + 1)) (cl (S 18 0)) k i := h1
    rw [hcl1] at h1
    have h2 : ¬ (lvq (cl (S 0 0)) (cl (S 7 0)) n0 (cl (S 18 0)) k i) := by rw [← hcl]; exact h2
    obtain ⟨⟨t, ht, rfl⟩, rfl⟩ := new_c h1 h2
    rcases (show t = 0 ∨ t = 1 ∨ t = 2 ∨ t = 3 ∨ t = 4 ∨ t = 5 ∨ t = 6 by omega) with rfl | rfl | rfl | rfl | rfl | rfl | rfl
    · have e9 : (va_up (va_up (va_up (va_up (va_up (va_up (va_up L 30 (va_up (L 30) i q0)) 31 (va_up (L 31) i q1)) 32 (va_up (L 32) i q2)) 33 (va_up (L 33) i q3)) 34 (va_up (L 34) i q4)) 35 (va_up (L 35) i q5)) 36 (va_up (L 36) i q6)) 30 i = q0 := va_up_self (L 30) i q0
      show M ((va_up (va_up (va_up (va_up (va_up (va_up (va_up L 30 (va_up (L 30) i q0)) 31 (va_up (L 31) i q1)) 32 (va_up (L 32) i q2)) 33 (va_up (L 33) i q3)) 34 (va_up (L 34) i q4)) 35 (va_up (L 35) i q5)) 36 (va_up (L 36) i q6)) 30 i) = none ∧ M' ((va_up (va_up (va_up (va_up (va_up (va_up (va_up L 30 (va_up (L 30) i q0)) 31 (va_up (L 31) i q1)) 32 (va_up (L 32) i q2)) 33 (va_up (L 33) i q3)) 34 (va_up (L 34) i q4)) 35 (va_up (L 35) i q5)) 36 (va_up (L 36) i q6)) 30 i) = some (cE G _ _ _ _ _ 30 i)
      rw [e9]; refine ⟨m0, g0.trans (congrArg some ?_)⟩; rw [cE_30]; show _ = oCo (va_up (L 31) i q1 i) (va_up (L 32) i q2 i) (va_up (L 33) i q3 i) (va_up (L 35) i q5 i) (S 14 i) (kpt _ (upd (S 13) i (-1) i)); rw [va_up_self, va_up_self, va_up_self, va_up_self, pk_us, kpt_n _ rfl, z14]
    · have e9 : (va_up (va_up (va_up (va_up (va_up (va_up (va_up L 30 (va_up (L 30) i q0)) 31 (va_up (L 31) i q1)) 32 (va_up (L 32) i q2)) 33 (va_up (L 33) i q3)) 34 (va_up (L 34) i q4)) 35 (va_up (L 35) i q5)) 36 (va_up (L 36) i q6)) 31 i = q1 := va_up_self (L 31) i q1
      show M ((va_up (va_up (va_up (va_up (va_up (va_up (va_up L 30 (va_up (L 30) i q0)) 31 (va_up (L 31) i q1)) 32 (va_up (L 32) i q2)) 33 (va_up (L 33) i q3)) 34 (va_up (L 34) i q4)) 35 (va_up (L 35) i q5)) 36 (va_up (L 36) i q6)) 31 i) = none ∧ M' ((va_up (va_up (va_up (va_up (va_up (va_up (va_up L 30 (va_up (L 30) i q0)) 31 (va_up (L 31) i q1)) 32 (va_up (L 32) i q2)) 33 (va_up (L 33) i q3)) 34 (va_up (L 34) i q4)) 35 (va_up (L 35) i q5)) 36 (va_up (L 36) i q6)) 31 i) = some (cE G _ _ _ _ _ 31 i)
      rw [e9]; refine ⟨m1, g1.trans (congrArg some ?_)⟩; rw [cE_31]; rw [tr_z z15]; rfl
    · have e9 : (va_up (va_up (va_up (va_up (va_up (va_up (va_up L 30 (va_up (L 30) i q0)) 31 (va_up (L 31) i q1)) 32 (va_up (L 32) i q2)) 33 (va_up (L 33) i q3)) 34 (va_up (L 34) i q4)) 35 (va_up (L 35) i q5)) 36 (va_up (L 36) i q6)) 32 i = q2 := va_up_self (L 32) i q2
      show M ((va_up (va_up (va_up (va_up (va_up (va_up (va_up L 30 (va_up (L 30) i q0)) 31 (va_up (L 31) i q1)) 32 (va_up (L 32) i q2)) 33 (va_up (L 33) i q3)) 34 (va_up (L 34) i q4)) 35 (va_up (L 35) i q5)) 36 (va_up (L 36) i q6)) 32 i) = none ∧ M' ((va_up (va_up (va_up (va_up (va_up (va_up (va_up L 30 (va_up (L 30) i q0)) 31 (va_up (L 31) i q1)) 32 (va_up (L 32) i q2)) 33 (va_up (L 33) i q3)) 34 (va_up (L 34) i q4)) 35 (va_up (L 35) i q5)) 36 (va_up (L 36) i q6)) 32 i) = some (cE G _ _ _ _ _ 32 i)
      rw [e9]; refine ⟨m2, g2.trans (congrArg some ?_)⟩; rw [cE_32]; rw [tr_z z16]; rfl
    · have e9 : (va_up (va_up (va_up (va_up (va_up (va_up (va_up L 30 (va_up (L 30) i q0)) 31 (va_up (L 31) i q1)) 32 (va_up (L 32) i q2)) 33 (va_up (L 33) i q3)) 34 (va_up (L 34) i q4)) 35 (va_up (L 35) i q5)) 36 (va_up (L 36) i q6)) 33 i = q3 := va_up_self (L 33) i q3
      show M ((va_up (va_up (va_up (va_up (va_up (va_up (va_up L 30 (va_up (L 30) i q0)) 31 (va_up (L 31) i q1)) 32 (va_up (L 32) i q2)) 33 (va_up (L 33) i q3)) 34 (va_up (L 34) i q4)) 35 (va_up (L 35) i q5)) 36 (va_up (L 36) i q6)) 33 i) = none ∧ M' ((va_up (va_up (va_up (va_up (va_up (va_up (va_up L 30 (va_up (L 30) i q0)) 31 (va_up (L 31) i q1)) 32 (va_up (L 32) i q2)) 33 (va_up (L 33) i q3)) 34 (va_up (L 34) i q4)) 35 (va_up (L 35) i q5)) 36 (va_up (L 36) i q6)) 33 i) = some (cE G _ _ _ _ _ 33 i)
      rw [e9]; refine ⟨m3, g3.trans (congrArg some ?_)⟩; rw [cE_33]; show _ = oCe (va_up (L 34) i q4 i); rw [va_up_self]
    · have e9 : (va_up (va_up (va_up (va_up (va_up (va_up (va_up L 30 (va_up (L 30) i q0)) 31 (va_up (L 31) i q1)) 32 (va_up (L 32) i q2)) 33 (va_up (L 33) i q3)) 34 (va_up (L 34) i q4)) 35 (va_up (L 35) i q5)) 36 (va_up (L 36) i q6)) 34 i = q4 := va_up_self (L 34) i q4
      show M ((va_up (va_up (va_up (va_up (va_up (va_up (va_up L 30 (va_up (L 30) i q0)) 31 (va_up (L 31) i q1)) 32 (va_up (L 32) i q2)) 33 (va_up (L 33) i q3)) 34 (va_up (L 34) i q4)) 35 (va_up (L 35) i q5)) 36 (va_up (L 36) i q6)) 34 i) = none ∧ M' ((va_up (va_up (va_up (va_up (va_up (va_up (va_up L 30 (va_up (L 30) i q0)) 31 (va_up (L 31) i q1)) 32 (va_up (L 32) i q2)) 33 (va_up (L 33) i q3)) 34 (va_up (L 34) i q4)) 35 (va_up (L 35) i q5)) 36 (va_up (L 36) i q6)) 34 i) = some (cE G _ _ _ _ _ 34 i)
      rw [e9]; refine ⟨m4, g4.trans (congrArg some ?_)⟩; rw [cE_34]; rw [trL_z zcs]
    · have e9 : (va_up (va_up (va_up (va_up (va_up (va_up (va_up L 30 (va_up (L 30) i q0)) 31 (va_up (L 31) i q1)) 32 (va_up (L 32) i q2)) 33 (va_up (L 33) i q3)) 34 (va_up (L 34) i q4)) 35 (va_up (L 35) i q5)) 36 (va_up (L 36) i q6)) 35 i = q5 := va_up_self (L 35) i q5
      show M ((va_up (va_up (va_up (va_up (va_up (va_up (va_up L 30 (va_up (L 30) i q0)) 31 (va_up (L 31) i q1)) 32 (va_up (L 32) i q2)) 33 (va_up (L 33) i q3)) 34 (va_up (L 34) i q4)) 35 (va_up (L 35) i q5)) 36 (va_up (L 36) i q6)) 35 i) = none ∧ M' ((va_up (va_up (va_up (va_up (va_up (va_up (va_up L 30 (va_up (L 30) i q0)) 31 (va_up (L 31) i q1)) 32 (va_up (L 32) i q2)) 33 (va_up (L 33) i q3)) 34 (va_up (L 34) i q4)) 35 (va_up (L 35) i q5)) 36 (va_up (L 36) i q6)) 35 i) = some (cE G _ _ _ _ _ 35 i)
      rw [e9]; refine ⟨m5, g5.trans (congrArg some ?_)⟩; rw [cE_35]; show _ = oCe (va_up (L 36) i q6 i); rw [va_up_self]
    · have e9 : (va_up (va_up (va_up (va_up (va_up (va_up (va_up L 30 (va_up (L 30) i q0)) 31 (va_up (L 31) i q1)) 32 (va_up (L 32) i q2)) 33 (va_up (L 33) i q3)) 34 (va_up (L 34) i q4)) 35 (va_up (L 35) i q5)) 36 (va_up (L 36) i q6)) 36 i = q6 := va_up_self (L 36) i q6
      show M ((va_up (va_up (va_up (va_up (va_up (va_up (va_up L 30 (va_up (L 30) i q0)) 31 (va_up (L 31) i q1)) 32 (va_up (L 32) i q2)) 33 (va_up (L 33) i q3)) 34 (va_up (L 34) i q4)) 35 (va_up (L 35) i q5)) 36 (va_up (L 36) i q6)) 36 i) = none ∧ M' ((va_up (va_up (va_up (va_up (va_up (va_up (va_up L 30 (va_up (L 30) i q0)) 31 (va_up (L 31) i q1)) 32 (va_up (L 32) i q2)) 33 (va_up (L 33) i q3)) 34 (va_up (L 34) i q4)) 35 (va_up (L 35) i q5)) 36 (va_up (L 36) i q6)) 36 i) = some (cE G _ _ _ _ _ 36 i)
      rw [e9]; refine ⟨m6, g6.trans (congrArg some ?_)⟩; rw [cE_36]; show _ = aJ G 4 (va_up J.2.2.2.2 i (fun _ => 0) i); rw [va_up_self]
  · intro k i k' i' h1 h2 h3 h4 e
    have h1 : lvq (cl (S 0 0)) (cl (S 7 0)) (cl (S 12 0 + 1)) (cl (S 18 0)) k i := h1
    rw [hcl1] at h1
    have h2 : ¬ (lvq (cl (S 0 0)) (cl (S 7 0)) n0 (cl (S 18 0)) k i) := by rw [← hcl]; exact h2
    have h3 : lvq (cl (S 0 0)) (cl (S 7 0)) (cl (S 12 0 + 1)) (cl (S 18 0)) k' i' := h3
    rw [hcl1] at h3
    have h4 : ¬ (lvq (cl (S 0 0)) (cl (S 7 0)) n0 (cl (S 18 0)) k' i') := by rw [← hcl]; exact h4
    obtain ⟨⟨t, ht, rfl⟩, e1⟩ := new_c h1 h2
    obtain ⟨⟨t2, ht2, rfl⟩, e2⟩ := new_c h3 h4
    have hv : ∀ u, u < 7 → [q0, q1, q2, q3, q4, q5, q6][u]? = some ((va_up (va_up (va_up (va_up (va_up (va_up (va_up L 30 (va_up (L 30) n0 q0)) 31 (va_up (L 31) n0 q1)) 32 (va_up (L 32) n0 q2)) 33 (va_up (L 33) n0 q3)) 34 (va_up (L 34) n0 q4)) 35 (va_up (L 35) n0 q5)) 36 (va_up (L 36) n0 q6)) (30 + u) n0) := by
      intro u hu
      rcases (show u = 0 ∨ u = 1 ∨ u = 2 ∨ u = 3 ∨ u = 4 ∨ u = 5 ∨ u = 6 by omega) with rfl | rfl | rfl | rfl | rfl | rfl | rfl
      · exact congrArg some (va_up_self (L 30) n0 q0).symm
      · exact congrArg some (va_up_self (L 31) n0 q1).symm
      · exact congrArg some (va_up_self (L 32) n0 q2).symm
      · exact congrArg some (va_up_self (L 33) n0 q3).symm
      · exact congrArg some (va_up_self (L 34) n0 q4).symm
      · exact congrArg some (va_up_self (L 35) n0 q5).symm
      · exact congrArg some (va_up_self (L 36) n0 q6).symm
    rw [e1, e2] at e
    have h9 := (List.getElem?_inj (by simpa using ht) hnd).mp ((hv t ht).trans ((congrArg some e).trans (hv t2 ht2).symm))
    exact ⟨by omega, e1.trans e2.symm⟩
end GROW
