/-- the state of a new object -/
def s_0 : sS := fun k => match k with
  | 0 => fun _ => 1
  | 1 => fun j => if j < 9 then 1 else 0
  | 2 => fun j => if j < 8 then -1 else 0
  | 4 => fun j => if j = 0 then 2 else 0
  | _ => fun _ => 0
def J_0 : eJ := (fun _ => 0, 0, fun _ => 0, fun _ => 0, fun _ _ => 0)
def L_0 (l : List Nat) : Nat → Nat → Nat := fun k _ => l.getD (if k ≤ 8 then k else k - 1) 0
theorem rfs_0 (f : Nat → Nat) : (fun _ => none) = rfs 0 f := by
  funext j
  unfold rfs
  rw [if_neg (by omega)]
theorem rfs_1 {f : Nat → Nat} {q : Nat} (h : f 0 = q) : va_up (fun _ => none) 0 (some q) = rfs 1 f := by
  funext j
  unfold rfs
  by_cases c : j = 0
  · subst c
    rw [va_up_self, if_pos (by omega), h]
  · rw [va_up_ne _ _ c, if_neg (by omega)]
theorem rj1_9 : rj (fun _ => 1) (fun _ => 0) 9 = tr 9 (fun j => s_0 1 (9 * 0 + j)) := by
  funext j
  show (if j < 9 then (1 : Int32) else 0) = if j < 9 then (if 9 * 0 + j < 9 then (1 : Int32) else 0) else 0
  by_cases h : j < 9
  · rw [if_pos h, if_pos h, if_pos (by omega)]
  · rw [if_neg h, if_neg h]
theorem rjm_8 : rj (fun _ => -1) (fun _ => 0) 8 = tr 8 (fun j => s_0 2 (8 * 0 + j)) := by
  funext j
  show (if j < 8 then (-1 : Int32) else 0) = if j < 8 then (if 8 * 0 + j < 8 then (-1 : Int32) else 0) else 0
  by_cases h : j < 8
  · rw [if_pos h, if_pos h, if_pos (by omega)]
  · rw [if_neg h, if_neg h]
theorem EV.start {G : mG} {M : mM} {q0 q1 q2 q3 q4 q5 q6 q7 q8 q9 q10 q11 : Nat} (hnd : [q0, q1, q2, q3, q4, q5, q6, q7, q8, q9, q10, q11].Nodup) (f0 : M q0 = some (.inr (6, [.ref q1, .ref q2, .ref q3, .ref q4, .ref q9, .ref q5, .int 1, .int 0, .int 0, .int 0, .int 0, .int 0]))) (f1 : M q1 = some (aQ G 3 10 (va_up (fun _ => none) 0 (some q9)))) (f2 : M q2 = some (aQ G 4 12 (fun _ => none))) (f3 : M q3 = some (aQ G 5 12 (fun _ => none))) (f4 : M q4 = some (aQ G 6 64 (fun _ => none))) (f5 : M q5 = some (oMa q6 q7 0)) (f6 : M q6 = some (aJ G 24 (fun _ => 0))) (f7 : M q7 = some (oCe q8)) (f8 : M q8 = some (aJ G 4 (fun _ => 0))) (f9 : M q9 = some (oEd 0 q10 q11 0 2)) (f10 : M q10 = some (aI G 9 (rj (fun _ => 1) (fun _ => 0) 9))) (f11 : M q11 = some (aI G 8 (rj (fun _ => -1) (fun _ => 0) 8))) : EV G (L_0 [q0, q1, q2, q3, q4, q5, q6, q7, q8, q9, q10, q11]) s_0 (fun _ => 0) (fun _ => 0) J_0 M := by
  have c1 : cl (s_0 0 0) = 1 := by decide
  have c7 : cl (s_0 7 0) = 0 := by decide
  have c12 : cl (s_0 12 0) = 0 := by decide
  have c18 : cl (s_0 18 0) = 0 := by decide
  have hlv : ∀ k i, lvs s_0 k i → lvq 1 0 0 0 k i := fun k i h => by have h9 : lvq (cl (s_0 0 0)) (cl (s_0 7 0)) (cl (s_0 12 0)) (cl (s_0 18 0)) k i := h; rw [c1, c7, c12, c18] at h9; exact h9
  refine ⟨fun k i hk => ?_, fun k i k' i' h1 h2 e => ?_⟩
  · have hk := hlv k i hk
    revert k i
    intro k i hk0 hk; clear hk0; revert k i
    refine lv_ind ?_ ?_ ?_ ?_ ?_ ?_ ?_ ?_ ?_ ?_ ?_ ?_ ?_ ?_ ?_ ?_ ?_ ?_ ?_ ?_ ?_
    · rw [cE_0]; exact f0
    · rw [cE_1, c1, ← rfs_1 (q := q9) rfl]; exact f1
    · rw [cE_2, c7, ← rfs_0]; exact f2
    · rw [cE_3, c12, ← rfs_0]; exact f3
    · rw [cE_4, c18, ← rfs_0]; exact f4
    · rw [cE_5]; exact f5
    · rw [cE_6]; exact f6
    · rw [cE_7]; exact f7
    · rw [cE_8]; exact f8
    · intro i hi; have hi : i = 0 := (by omega); subst hi; rw [cE_10]; exact f9
    · intro i hi; have hi : i = 0 := (by omega); subst hi; rw [cE_11, ← rj1_9]; exact f10
    · intro i hi; have hi : i = 0 := (by omega); subst hi; rw [cE_12, ← rjm_8]; exact f11
    · intro i hi; exact absurd hi (by omega)
    · intro i hi; exact absurd hi (by omega)
    · intro i hi; exact absurd hi (by omega)
    · intro i hi; exact absurd hi (by omega)
    · intro i hi; exact absurd hi (by omega)
    · intro i hi; exact absurd hi (by omega)
    · intro i hi; exact absurd hi (by omega)
    · intro i hi; exact absurd hi (by omega)
    · intro i hi; exact absurd hi (by omega)
  · have h1 := hlv k i h1
    have h2 := hlv k' i' h2
    have hp : ∀ k i, lvq 1 0 0 0 k i → i = 0 ∧ k ≤ 12 ∧ k ≠ 9 := fun k i h => (by unfold lvq at h; omega)
    obtain ⟨a1, a2, a3⟩ := hp k i h1
    obtain ⟨b1, b2, b3⟩ := hp k' i' h2
    have hg : ∀ k i, k ≤ 12 → k ≠ 9 → [q0, q1, q2, q3, q4, q5, q6, q7, q8, q9, q10, q11][if k ≤ 8 then k else k - 1]? = some (L_0 [q0, q1, q2, q3, q4, q5, q6, q7, q8, q9, q10, q11] k i) := by
      intro k i h1 h2
      unfold L_0
      rw [List.getD_eq_getElem?_getD]
      have hlt : (if k ≤ 8 then k else k - 1) < [q0, q1, q2, q3, q4, q5, q6, q7, q8, q9, q10, q11].length := by show _ < 12; split <;> omega
      rw [List.getElem?_eq_getElem hlt]; rfl
    have hlt : (if k ≤ 8 then k else k - 1) < [q0, q1, q2, q3, q4, q5, q6, q7, q8, q9, q10, q11].length := by show _ < 12; split <;> omega
    have h9 := (List.getElem?_inj hlt hnd).mp ((hg k i a2 a3).trans ((congrArg some e).trans (hg k' i' b2 b3).symm))
    refine ⟨?_, a1.trans b1.symm⟩
    split at h9 <;> split at h9 <;> omega
theorem nd_12 {b0 b1 b2 b3 b4 b5 b6 b7 b8 b9 b10 b11 : Nat} (h0_1 : b0 ≠ b1) (h0_2 : b0 ≠ b2) (h0_3 : b0 ≠ b3) (h0_4 : b0 ≠ b4) (h0_5 : b0 ≠ b5) (h0_6 : b0 ≠ b6) (h0_7 : b0 ≠ b7) (h0_8 : b0 ≠ b8) (h0_9 : b0 ≠ b9) (h0_10 : b0 ≠ b10) (h0_11 : b0 ≠ b11) (h1_2 : b1 ≠ b2) (h1_3 : b1 ≠ b3) (h1_4 : b1 ≠ b4) (h1_5 : b1 ≠ b5) (h1_6 : b1 ≠ b6) (h1_7 : b1 ≠ b7) (h1_8 : b1 ≠ b8) (h1_9 : b1 ≠ b9) (h1_10 : b1 ≠ b10) (h1_11 : b1 ≠ b11) (h2_3 : b2 ≠ b3) (h2_4 : b2 ≠ b4) (h2_5 : b2 ≠ b5) (h2_6 : b2 ≠ b6) (h2_7 : b2 ≠ b7) (h2_8 : b2 ≠ b8) (h2_9 : b2 ≠ b9) (h2_10 : b2 ≠ b10) (h2_11 : b2 ≠ b11) (h3_4 : b3 ≠ b4) (h3_5 : b3 ≠ b5) (h3_6 : b3 ≠ b6) (h3_7 : b3 ≠ b7) (h3_8 : b3 ≠ b8) (h3_9 : b3 ≠ b9) (h3_10 : b3 ≠ b10) (h3_11 : b3 ≠ b11) (h4_5 : b4 ≠ b5) (h4_6 : b4 ≠ b6) (h4_7 : b4 ≠ b7) (h4_8 : b4 ≠ b8) (h4_9 : b4 ≠ b9) (h4_10 : b4 ≠ b10) (h4_11 : b4 ≠ b11) (h5_6 : b5 ≠ b6) (h5_7 : b5 ≠ b7) (h5_8 : b5 ≠ b8) (h5_9 : b5 ≠ b9) (h5_10 : b5 ≠ b10) (h5_11 : b5 ≠ b11) (h6_7 : b6 ≠ b7) (h6_8 : b6 ≠ b8) (h6_9 : b6 ≠ b9) (h6_10 : b6 ≠ b10) (h6_11 : b6 ≠ b11) (h7_8 : b7 ≠ b8) (h7_9 : b7 ≠ b9) (h7_10 : b7 ≠ b10) (h7_11 : b7 ≠ b11) (h8_9 : b8 ≠ b9) (h8_10 : b8 ≠ b10) (h8_11 : b8 ≠ b11) (h9_10 : b9 ≠ b10) (h9_11 : b9 ≠ b11) (h10_11 : b10 ≠ b11) : [b0, b1, b2, b3, b4, b5, b6, b7, b8, b9, b10, b11].Nodup := by simp [h0_1, h0_2, h0_3, h0_4, h0_5, h0_6, h0_7, h0_8, h0_9, h0_10, h0_11, h1_2, h1_3, h1_4, h1_5, h1_6, h1_7, h1_8, h1_9, h1_10, h1_11, h2_3, h2_4, h2_5, h2_6, h2_7, h2_8, h2_9, h2_10, h2_11, h3_4, h3_5, h3_6, h3_7, h3_8, h3_9, h3_10, h3_11, h4_5, h4_6, h4_7, h4_8, h4_9, h4_10, h4_11, h5_6, h5_7, h5_8, h5_9, h5_10, h5_11, h6_7, h6_8, h6_9, h6_10, h6_11, h7_8, h7_9, h7_10, h7_11, h8_9, h8_10, h8_11, h9_10, h9_11, h10_11]
set_option maxHeartbeats 4000000 in
set_option maxRecDepth 100000 in
theorem c_init (l : Launch) (G : mG) (M : mM) (a : Nat) (h0 : M (a) = some (.inr (6, [.null, .null, .null, .null, .null, .null, .int 0, .int 0, .int 0, .int 0, .int 0, .int 0]))) : Ct l yX6_init cX6_init 2 none (mm_r 3 11 169) G [.ref a] M (fun r M1 => r = none ∧ ∃ L J, L 0 0 = a ∧ J.1 = (fun _ => 0) ∧ EV G L s_0 (fun _ => 0) (fun _ => 0) J M1) := by
  refine Ct.of (by decide) (Nat.le_of_ble_eq_true rfl) ?_
  intro p e s m args below meth c ls Q X hin hl hw hQ
  have hx := X.1
  have hb := X.2.1
  have hl : lv_has ls 2 [(0, .ref a)] := hl
  have fr_0 : ∀ z, M z ≠ none → z ≠ a → M z = M z := fun _ _ _ => rfl
  refine lv_aload_n hx hb dX6_init_0 rfl (lv_at hl 0 rfl) ?_
  refine W.objInit hx hb X.2.2.2.1 (X.2.2.2.2.1 _ ml_X6_3) (X.2.2.2.2.1 _ im_objectInit) (X.2.2.2.2.1 _ co_objectInit) rfl (by rw [X.2.2.1]; exact hl.1) rfl dX6_init_1 (Nat.le_of_ble_eq_true rfl) (Nat.le_of_ble_eq_true rfl) ?_
  refine W.eq (g2 := F0 m 4 ls []) rfl ?_
  refine lv_aload_n hx hb dX6_init_4 rfl (lv_at hl 0 rfl) ?_
  refine lv_bipush (v := 10) hx hb dX6_init_5 (by decide) ?_
  refine nq_X2 X hw cl_X6_9 10 rfl (by decide) (Nat.le_of_ble_eq_true rfl) (Nat.le_of_ble_eq_true rfl) dX6_init_7 (fun q_1 H9 hq_1 hw => ?_)
  have n_q_1 : M q_1 = none := Classical.byContradiction (fun h9 => h9 ((fr_0 q_1 h9 (Ne.symm (ne_new (h0) hq_1))).symm.trans hq_1))
  obtain ⟨M_2, eM_2⟩ : ∃ z, z = mm_up M q_1 (aQ G 3 10 (fun _ => none)) := ⟨_, rfl⟩
  rw [← eM_2] at hw
  have dq_1_0 : a ≠ q_1 := ne_new (h0) hq_1
  have f0_M_2 : M_2 (a) = some (.inr (6, [.null, .null, .null, .null, .null, .null, .int 0, .int 0, .int 0, .int 0, .int 0, .int 0])) := by rw [eM_2, mm_up_n _ _ dq_1_0]; exact h0
  have fq_1 : M_2 q_1 = some (aQ G 3 10 (fun _ => none)) := by rw [eM_2]; exact mm_up_s _ _ _
  have fr_M_2 : ∀ z, M z ≠ none → z ≠ a → M_2 z = M z := fun z h1 h2 => ((congrFun eM_2 z).trans (mm_up_n _ _ (fun e9 => h1 (by rw [e9]; exact n_q_1)))).trans (fr_0 z h1 h2)
  refine W.eq (g2 := F0 m 10 ls [.ref q_1, .ref a]) rfl ?_
  refine pf_X6_11 X hin hw (f0_M_2) (Nat.le_of_ble_eq_true rfl) dX6_init_10 (fun H9 locs9 hw => ?_)
  obtain ⟨M_3, eM_3⟩ : ∃ z, z = mm_up M_2 (a) (.inr (6, [.ref q_1, .null, .null, .null, .null, .null, .int 0, .int 0, .int 0, .int 0, .int 0, .int 0])) := ⟨_, rfl⟩
  have hw : mm_W G.1 vwCl (ct_A M s.heap.size) s.heap M_3 H9 locs9 := by rw [eM_3]; exact hw
  have f0_M_3 : M_3 (a) = some (.inr (6, [.ref q_1, .null, .null, .null, .null, .null, .int 0, .int 0, .int 0, .int 0, .int 0, .int 0])) := by rw [eM_3]; exact mm_up_s _ _ _
  have f1_M_3 : M_3 (q_1) = some (aQ G 3 10 (fun _ => none)) := by rw [eM_3, mm_up_n _ _ (Ne.symm (dq_1_0))]; exact fq_1
  have fr_M_3 : ∀ z, M z ≠ none → z ≠ a → M_3 z = M z := fun z h1 h2 => ((congrFun eM_3 z).trans (mm_up_n _ _ (h2))).trans (fr_M_2 z h1 h2)
  refine lv_aload_n hx hb dX6_init_13 rfl (lv_at hl 0 rfl) ?_
  refine lv_bipush (v := 12) hx hb dX6_init_14 (by decide) ?_
  refine nq_X5 X hw cl_X6_15 12 rfl (by decide) (Nat.le_of_ble_eq_true rfl) (Nat.le_of_ble_eq_true rfl) dX6_init_16 (fun q_4 H9 hq_4 hw => ?_)
  have n_q_4 : M q_4 = none := Classical.byContradiction (fun h9 => h9 ((fr_M_3 q_4 h9 (Ne.symm (ne_new (f0_M_3) hq_4))).symm.trans hq_4))
  obtain ⟨M_5, eM_5⟩ : ∃ z, z = mm_up M_3 q_4 (aQ G 4 12 (fun _ => none)) := ⟨_, rfl⟩
  rw [← eM_5] at hw
  have dq_4_0 : a ≠ q_4 := ne_new (f0_M_3) hq_4
  have f0_M_5 : M_5 (a) = some (.inr (6, [.ref q_1, .null, .null, .null, .null, .null, .int 0, .int 0, .int 0, .int 0, .int 0, .int 0])) := by rw [eM_5, mm_up_n _ _ dq_4_0]; exact f0_M_3
  have dq_4_1 : q_1 ≠ q_4 := ne_new (f1_M_3) hq_4
  have f1_M_5 : M_5 (q_1) = some (aQ G 3 10 (fun _ => none)) := by rw [eM_5, mm_up_n _ _ dq_4_1]; exact f1_M_3
  have fq_4 : M_5 q_4 = some (aQ G 4 12 (fun _ => none)) := by rw [eM_5]; exact mm_up_s _ _ _
  have fr_M_5 : ∀ z, M z ≠ none → z ≠ a → M_5 z = M z := fun z h1 h2 => ((congrFun eM_5 z).trans (mm_up_n _ _ (fun e9 => h1 (by rw [e9]; exact n_q_4)))).trans (fr_M_3 z h1 h2)
  refine W.eq (g2 := F0 m 19 ls [.ref q_4, .ref a]) rfl ?_
  refine pf_X6_17 X hin hw (f0_M_5) (Nat.le_of_ble_eq_true rfl) dX6_init_19 (fun H9 locs9 hw => ?_)
  obtain ⟨M_6, eM_6⟩ : ∃ z, z = mm_up M_5 (a) (.inr (6, [.ref q_1, .ref q_4, .null, .null, .null, .null, .int 0, .int 0, .int 0, .int 0, .int 0, .int 0])) := ⟨_, rfl⟩
  have hw : mm_W G.1 vwCl (ct_A M s.heap.size) s.heap M_6 H9 locs9 := by rw [eM_6]; exact hw
  have f0_M_6 : M_6 (a) = some (.inr (6, [.ref q_1, .ref q_4, .null, .null, .null, .null, .int 0, .int 0, .int 0, .int 0, .int 0, .int 0])) := by rw [eM_6]; exact mm_up_s _ _ _
  have f1_M_6 : M_6 (q_1) = some (aQ G 3 10 (fun _ => none)) := by rw [eM_6, mm_up_n _ _ (Ne.symm (dq_1_0))]; exact f1_M_5
  have f2_M_6 : M_6 (q_4) = some (aQ G 4 12 (fun _ => none)) := by rw [eM_6, mm_up_n _ _ (Ne.symm (dq_4_0))]; exact fq_4
  have fr_M_6 : ∀ z, M z ≠ none → z ≠ a → M_6 z = M z := fun z h1 h2 => ((congrFun eM_6 z).trans (mm_up_n _ _ (h2))).trans (fr_M_5 z h1 h2)
  refine lv_aload_n hx hb dX6_init_22 rfl (lv_at hl 0 rfl) ?_
  refine lv_bipush (v := 12) hx hb dX6_init_23 (by decide) ?_
  refine nq_X1 X hw cl_X6_21 12 rfl (by decide) (Nat.le_of_ble_eq_true rfl) (Nat.le_of_ble_eq_true rfl) dX6_init_25 (fun q_7 H9 hq_7 hw => ?_)
  have n_q_7 : M q_7 = none := Classical.byContradiction (fun h9 => h9 ((fr_M_6 q_7 h9 (Ne.symm (ne_new (f0_M_6) hq_7))).symm.trans hq_7))
  obtain ⟨M_8, eM_8⟩ : ∃ z, z = mm_up M_6 q_7 (aQ G 5 12 (fun _ => none)) := ⟨_, rfl⟩
  rw [← eM_8] at hw
  have dq_7_0 : a ≠ q_7 := ne_new (f0_M_6) hq_7
  have f0_M_8 : M_8 (a) = some (.inr (6, [.ref q_1, .ref q_4, .null, .null, .null, .null, .int 0, .int 0, .int 0, .int 0, .int 0, .int 0])) := by rw [eM_8, mm_up_n _ _ dq_7_0]; exact f0_M_6
  have dq_7_1 : q_1 ≠ q_7 := ne_new (f1_M_6) hq_7
  have f1_M_8 : M_8 (q_1) = some (aQ G 3 10 (fun _ => none)) := by rw [eM_8, mm_up_n _ _ dq_7_1]; exact f1_M_6
  have dq_7_2 : q_4 ≠ q_7 := ne_new (f2_M_6) hq_7
  have f2_M_8 : M_8 (q_4) = some (aQ G 4 12 (fun _ => none)) := by rw [eM_8, mm_up_n _ _ dq_7_2]; exact f2_M_6
  have fq_7 : M_8 q_7 = some (aQ G 5 12 (fun _ => none)) := by rw [eM_8]; exact mm_up_s _ _ _
  have fr_M_8 : ∀ z, M z ≠ none → z ≠ a → M_8 z = M z := fun z h1 h2 => ((congrFun eM_8 z).trans (mm_up_n _ _ (fun e9 => h1 (by rw [e9]; exact n_q_7)))).trans (fr_M_6 z h1 h2)
  refine W.eq (g2 := F0 m 28 ls [.ref q_7, .ref a]) rfl ?_
  refine pf_X6_23 X hin hw (f0_M_8) (Nat.le_of_ble_eq_true rfl) dX6_init_28 (fun H9 locs9 hw => ?_)
  obtain ⟨M_9, eM_9⟩ : ∃ z, z = mm_up M_8 (a) (.inr (6, [.ref q_1, .ref q_4, .ref q_7, .null, .null, .null, .int 0, .int 0, .int 0, .int 0, .int 0, .int 0])) := ⟨_, rfl⟩
  have hw : mm_W G.1 vwCl (ct_A M s.heap.size) s.heap M_9 H9 locs9 := by rw [eM_9]; exact hw
  have f0_M_9 : M_9 (a) = some (.inr (6, [.ref q_1, .ref q_4, .ref q_7, .null, .null, .null, .int 0, .int 0, .int 0, .int 0, .int 0, .int 0])) := by rw [eM_9]; exact mm_up_s _ _ _
  have f1_M_9 : M_9 (q_1) = some (aQ G 3 10 (fun _ => none)) := by rw [eM_9, mm_up_n _ _ (Ne.symm (dq_1_0))]; exact f1_M_8
  have f2_M_9 : M_9 (q_4) = some (aQ G 4 12 (fun _ => none)) := by rw [eM_9, mm_up_n _ _ (Ne.symm (dq_4_0))]; exact f2_M_8
  have f3_M_9 : M_9 (q_7) = some (aQ G 5 12 (fun _ => none)) := by rw [eM_9, mm_up_n _ _ (Ne.symm (dq_7_0))]; exact fq_7
  have fr_M_9 : ∀ z, M z ≠ none → z ≠ a → M_9 z = M z := fun z h1 h2 => ((congrFun eM_9 z).trans (mm_up_n _ _ (h2))).trans (fr_M_8 z h1 h2)
  refine lv_aload_n hx hb dX6_init_31 rfl (lv_at hl 0 rfl) ?_
  refine lv_bipush (v := 64) hx hb dX6_init_32 (by decide) ?_
  refine nq_X3 X hw cl_X6_27 64 rfl (by decide) (Nat.le_of_ble_eq_true rfl) (Nat.le_of_ble_eq_true rfl) dX6_init_34 (fun q_10 H9 hq_10 hw => ?_)
  have n_q_10 : M q_10 = none := Classical.byContradiction (fun h9 => h9 ((fr_M_9 q_10 h9 (Ne.symm (ne_new (f0_M_9) hq_10))).symm.trans hq_10))
  obtain ⟨M_11, eM_11⟩ : ∃ z, z = mm_up M_9 q_10 (aQ G 6 64 (fun _ => none)) := ⟨_, rfl⟩
  rw [← eM_11] at hw
  have dq_10_0 : a ≠ q_10 := ne_new (f0_M_9) hq_10
  have f0_M_11 : M_11 (a) = some (.inr (6, [.ref q_1, .ref q_4, .ref q_7, .null, .null, .null, .int 0, .int 0, .int 0, .int 0, .int 0, .int 0])) := by rw [eM_11, mm_up_n _ _ dq_10_0]; exact f0_M_9
  have dq_10_1 : q_1 ≠ q_10 := ne_new (f1_M_9) hq_10
  have f1_M_11 : M_11 (q_1) = some (aQ G 3 10 (fun _ => none)) := by rw [eM_11, mm_up_n _ _ dq_10_1]; exact f1_M_9
  have dq_10_2 : q_4 ≠ q_10 := ne_new (f2_M_9) hq_10
  have f2_M_11 : M_11 (q_4) = some (aQ G 4 12 (fun _ => none)) := by rw [eM_11, mm_up_n _ _ dq_10_2]; exact f2_M_9
  have dq_10_3 : q_7 ≠ q_10 := ne_new (f3_M_9) hq_10
  have f3_M_11 : M_11 (q_7) = some (aQ G 5 12 (fun _ => none)) := by rw [eM_11, mm_up_n _ _ dq_10_3]; exact f3_M_9
  have fq_10 : M_11 q_10 = some (aQ G 6 64 (fun _ => none)) := by rw [eM_11]; exact mm_up_s _ _ _
  have fr_M_11 : ∀ z, M z ≠ none → z ≠ a → M_11 z = M z := fun z h1 h2 => ((congrFun eM_11 z).trans (mm_up_n _ _ (fun e9 => h1 (by rw [e9]; exact n_q_10)))).trans (fr_M_9 z h1 h2)
  refine W.eq (g2 := F0 m 37 ls [.ref q_10, .ref a]) rfl ?_
  refine pf_X6_29 X hin hw (f0_M_11) (Nat.le_of_ble_eq_true rfl) dX6_init_37 (fun H9 locs9 hw => ?_)
  obtain ⟨M_12, eM_12⟩ : ∃ z, z = mm_up M_11 (a) (.inr (6, [.ref q_1, .ref q_4, .ref q_7, .ref q_10, .null, .null, .int 0, .int 0, .int 0, .int 0, .int 0, .int 0])) := ⟨_, rfl⟩
  have hw : mm_W G.1 vwCl (ct_A M s.heap.size) s.heap M_12 H9 locs9 := by rw [eM_12]; exact hw
  have f0_M_12 : M_12 (a) = some (.inr (6, [.ref q_1, .ref q_4, .ref q_7, .ref q_10, .null, .null, .int 0, .int 0, .int 0, .int 0, .int 0, .int 0])) := by rw [eM_12]; exact mm_up_s _ _ _
  have f1_M_12 : M_12 (q_1) = some (aQ G 3 10 (fun _ => none)) := by rw [eM_12, mm_up_n _ _ (Ne.symm (dq_1_0))]; exact f1_M_11
  have f2_M_12 : M_12 (q_4) = some (aQ G 4 12 (fun _ => none)) := by rw [eM_12, mm_up_n _ _ (Ne.symm (dq_4_0))]; exact f2_M_11
  have f3_M_12 : M_12 (q_7) = some (aQ G 5 12 (fun _ => none)) := by rw [eM_12, mm_up_n _ _ (Ne.symm (dq_7_0))]; exact f3_M_11
  have f4_M_12 : M_12 (q_10) = some (aQ G 6 64 (fun _ => none)) := by rw [eM_12, mm_up_n _ _ (Ne.symm (dq_10_0))]; exact fq_10
  have fr_M_12 : ∀ z, M z ≠ none → z ≠ a → M_12 z = M z := fun z h1 h2 => ((congrFun eM_12 z).trans (mm_up_n _ _ (h2))).trans (fr_M_11 z h1 h2)
  refine lv_aload_n hx hb dX6_init_40 rfl (lv_at hl 0 rfl) ?_
  refine nw_X2 X hw cl_X6_9 (Nat.le_of_ble_eq_true rfl) (Nat.le_of_ble_eq_true rfl) dX6_init_41 (fun q_13 H9 hq_13 hw => ?_)
  have n_q_13 : M q_13 = none := Classical.byContradiction (fun h9 => h9 ((fr_M_12 q_13 h9 (Ne.symm (ne_new (f0_M_12) hq_13))).symm.trans hq_13))
  obtain ⟨M_14, eM_14⟩ : ∃ z, z = mm_up M_12 q_13 (.inr (2, [.int 0, .null, .null, .int 0, .int 0])) := ⟨_, rfl⟩
  rw [← eM_14] at hw
  have dq_13_0 : a ≠ q_13 := ne_new (f0_M_12) hq_13
  have f0_M_14 : M_14 (a) = some (.inr (6, [.ref q_1, .ref q_4, .ref q_7, .ref q_10, .null, .null, .int 0, .int 0, .int 0, .int 0, .int 0, .int 0])) := by rw [eM_14, mm_up_n _ _ dq_13_0]; exact f0_M_12
  have dq_13_1 : q_1 ≠ q_13 := ne_new (f1_M_12) hq_13
  have f1_M_14 : M_14 (q_1) = some (aQ G 3 10 (fun _ => none)) := by rw [eM_14, mm_up_n _ _ dq_13_1]; exact f1_M_12
  have dq_13_2 : q_4 ≠ q_13 := ne_new (f2_M_12) hq_13
  have f2_M_14 : M_14 (q_4) = some (aQ G 4 12 (fun _ => none)) := by rw [eM_14, mm_up_n _ _ dq_13_2]; exact f2_M_12
  have dq_13_3 : q_7 ≠ q_13 := ne_new (f3_M_12) hq_13
  have f3_M_14 : M_14 (q_7) = some (aQ G 5 12 (fun _ => none)) := by rw [eM_14, mm_up_n _ _ dq_13_3]; exact f3_M_12
  have dq_13_4 : q_10 ≠ q_13 := ne_new (f4_M_12) hq_13
  have f4_M_14 : M_14 (q_10) = some (aQ G 6 64 (fun _ => none)) := by rw [eM_14, mm_up_n _ _ dq_13_4]; exact f4_M_12
  have fq_13 : M_14 q_13 = some (.inr (2, [.int 0, .null, .null, .int 0, .int 0])) := by rw [eM_14]; exact mm_up_s _ _ _
  have fr_M_14 : ∀ z, M z ≠ none → z ≠ a → M_14 z = M z := fun z h1 h2 => ((congrFun eM_14 z).trans (mm_up_n _ _ (fun e9 => h1 (by rw [e9]; exact n_q_13)))).trans (fr_M_12 z h1 h2)
  refine W.eq (g2 := F0 m 44 ls [.ref q_13, .ref a]) rfl ?_
  refine lv_dup hx hb dX6_init_44 rfl ?_
  refine lv_iconst (v := 0) hx hb dX6_init_45 (by decide) ?_
  refine mm_callI (As := [.int 0]) (rest := [.ref q_13, .ref a]) X hw (c_editionInit l G _ q_13 0 fq_13) wd_X6_33 ⟨Nat.le_of_ble_eq_true rfl, Nat.le_of_ble_eq_true rfl⟩ ⟨Nat.le_of_ble_eq_true rfl, Nat.le_of_ble_eq_true rfl⟩ rfl rfl (Nat.le_of_ble_eq_true rfl) hl.1 dX6_init_46 (fun v9 N_15 H9 locs9 hp9 hw => ?_)
  obtain ⟨rfl, b1, b2, hnd, ⟨nb1, nb2⟩, fa, fb1, fb2, fr9⟩ := hp9
  refine W.eq (g2 := F0 m 49 ls [.ref q_13, .ref a]) rfl ?_
  have n_b1 : M b1 = none := Classical.byContradiction (fun h9 => h9 ((fr_M_14 b1 h9 (Ne.symm (ne_new (f0_M_14) nb1))).symm.trans nb1))
  have n_b2 : M b2 = none := Classical.byContradiction (fun h9 => h9 ((fr_M_14 b2 h9 (Ne.symm (ne_new (f0_M_14) nb2))).symm.trans nb2))
  have e0_b1_N_15 : a ≠ b1 := ne_new (f0_M_14) nb1
  have e0_b2_N_15 : a ≠ b2 := ne_new (f0_M_14) nb2
  have g1_N_15 : N_15 (a) = some (.inr (6, [.ref q_1, .ref q_4, .ref q_7, .ref q_10, .null, .null, .int 0, .int 0, .int 0, .int 0, .int 0, .int 0])) := (fr9 _ (sm_ne (f0_M_14)) (dq_13_0)).trans (f0_M_14)
  have e1_b1_N_15 : q_1 ≠ b1 := ne_new (f1_M_14) nb1
  have e1_b2_N_15 : q_1 ≠ b2 := ne_new (f1_M_14) nb2
  have g2_N_15 : N_15 (q_1) = some (aQ G 3 10 (fun _ => none)) := (fr9 _ (sm_ne (f1_M_14)) (dq_13_1)).trans (f1_M_14)
  have e2_b1_N_15 : q_4 ≠ b1 := ne_new (f2_M_14) nb1
  have e2_b2_N_15 : q_4 ≠ b2 := ne_new (f2_M_14) nb2
  have g3_N_15 : N_15 (q_4) = some (aQ G 4 12 (fun _ => none)) := (fr9 _ (sm_ne (f2_M_14)) (dq_13_2)).trans (f2_M_14)
  have e3_b1_N_15 : q_7 ≠ b1 := ne_new (f3_M_14) nb1
  have e3_b2_N_15 : q_7 ≠ b2 := ne_new (f3_M_14) nb2
  have g4_N_15 : N_15 (q_7) = some (aQ G 5 12 (fun _ => none)) := (fr9 _ (sm_ne (f3_M_14)) (dq_13_3)).trans (f3_M_14)
  have e4_b1_N_15 : q_10 ≠ b1 := ne_new (f4_M_14) nb1
  have e4_b2_N_15 : q_10 ≠ b2 := ne_new (f4_M_14) nb2
  have g5_N_15 : N_15 (q_10) = some (aQ G 6 64 (fun _ => none)) := (fr9 _ (sm_ne (f4_M_14)) (dq_13_4)).trans (f4_M_14)
  have e5_b1_N_15 : q_13 ≠ b1 := ne_new (fq_13) nb1
  have e5_b2_N_15 : q_13 ≠ b2 := ne_new (fq_13) nb2
  have fr_N_15 : ∀ z, M z ≠ none → z ≠ a → N_15 z = M z := fun z h1 h2 => (fr9 z (by rw [fr_M_14 z h1 h2]; exact h1) (fun e9 => h1 (by rw [e9]; exact n_q_13))).trans (fr_M_14 z h1 h2)
  refine pf_X6_36 X hin hw (g1_N_15) (Nat.le_of_ble_eq_true rfl) dX6_init_49 (fun H9 locs9 hw => ?_)
  obtain ⟨M_16, eM_16⟩ : ∃ z, z = mm_up N_15 (a) (.inr (6, [.ref q_1, .ref q_4, .ref q_7, .ref q_10, .ref q_13, .null, .int 0, .int 0, .int 0, .int 0, .int 0, .int 0])) := ⟨_, rfl⟩
  have hw : mm_W G.1 vwCl (ct_A M s.heap.size) s.heap M_16 H9 locs9 := by rw [eM_16]; exact hw
  have f0_M_16 : M_16 (a) = some (.inr (6, [.ref q_1, .ref q_4, .ref q_7, .ref q_10, .ref q_13, .null, .int 0, .int 0, .int 0, .int 0, .int 0, .int 0])) := by rw [eM_16]; exact mm_up_s _ _ _
  have f1_M_16 : M_16 (q_1) = some (aQ G 3 10 (fun _ => none)) := by rw [eM_16, mm_up_n _ _ (Ne.symm (dq_1_0))]; exact g2_N_15
  have f2_M_16 : M_16 (q_4) = some (aQ G 4 12 (fun _ => none)) := by rw [eM_16, mm_up_n _ _ (Ne.symm (dq_4_0))]; exact g3_N_15
  have f3_M_16 : M_16 (q_7) = some (aQ G 5 12 (fun _ => none)) := by rw [eM_16, mm_up_n _ _ (Ne.symm (dq_7_0))]; exact g4_N_15
  have f4_M_16 : M_16 (q_10) = some (aQ G 6 64 (fun _ => none)) := by rw [eM_16, mm_up_n _ _ (Ne.symm (dq_10_0))]; exact g5_N_15
  have f5_M_16 : M_16 (q_13) = some (.inr (2, [.int 0, .ref b1, .ref b2, .int ((-1)), .int 0])) := by rw [eM_16, mm_up_n _ _ (Ne.symm (dq_13_0))]; exact fa
  have f6_M_16 : M_16 (b1) = some (aI G 9 (fun _ => 0)) := by rw [eM_16, mm_up_n _ _ (Ne.symm (e0_b1_N_15))]; exact fb1
  have f7_M_16 : M_16 (b2) = some (aI G 8 (fun _ => 0)) := by rw [eM_16, mm_up_n _ _ (Ne.symm (e0_b2_N_15))]; exact fb2
  have fr_M_16 : ∀ z, M z ≠ none → z ≠ a → M_16 z = M z := fun z h1 h2 => ((congrFun eM_16 z).trans (mm_up_n _ _ (h2))).trans (fr_N_15 z h1 h2)
  refine lv_aload_n hx hb dX6_init_52 rfl (lv_at hl 0 rfl) ?_
  refine nw_X4 X hw cl_X6_40 (Nat.le_of_ble_eq_true rfl) (Nat.le_of_ble_eq_true rfl) dX6_init_53 (fun q_17 H9 hq_17 hw => ?_)
  have n_q_17 : M q_17 = none := Classical.byContradiction (fun h9 => h9 ((fr_M_16 q_17 h9 (Ne.symm (ne_new (f0_M_16) hq_17))).symm.trans hq_17))
  obtain ⟨M_18, eM_18⟩ : ∃ z, z = mm_up M_16 q_17 (.inr (4, [.null, .null, .int 0])) := ⟨_, rfl⟩
  rw [← eM_18] at hw
  have dq_17_0 : a ≠ q_17 := ne_new (f0_M_16) hq_17
  have f0_M_18 : M_18 (a) = some (.inr (6, [.ref q_1, .ref q_4, .ref q_7, .ref q_10, .ref q_13, .null, .int 0, .int 0, .int 0, .int 0, .int 0, .int 0])) := by rw [eM_18, mm_up_n _ _ dq_17_0]; exact f0_M_16
  have dq_17_1 : q_1 ≠ q_17 := ne_new (f1_M_16) hq_17
  have f1_M_18 : M_18 (q_1) = some (aQ G 3 10 (fun _ => none)) := by rw [eM_18, mm_up_n _ _ dq_17_1]; exact f1_M_16
  have dq_17_2 : q_4 ≠ q_17 := ne_new (f2_M_16) hq_17
  have f2_M_18 : M_18 (q_4) = some (aQ G 4 12 (fun _ => none)) := by rw [eM_18, mm_up_n _ _ dq_17_2]; exact f2_M_16
  have dq_17_3 : q_7 ≠ q_17 := ne_new (f3_M_16) hq_17
  have f3_M_18 : M_18 (q_7) = some (aQ G 5 12 (fun _ => none)) := by rw [eM_18, mm_up_n _ _ dq_17_3]; exact f3_M_16
  have dq_17_4 : q_10 ≠ q_17 := ne_new (f4_M_16) hq_17
  have f4_M_18 : M_18 (q_10) = some (aQ G 6 64 (fun _ => none)) := by rw [eM_18, mm_up_n _ _ dq_17_4]; exact f4_M_16
  have dq_17_5 : q_13 ≠ q_17 := ne_new (f5_M_16) hq_17
  have f5_M_18 : M_18 (q_13) = some (.inr (2, [.int 0, .ref b1, .ref b2, .int ((-1)), .int 0])) := by rw [eM_18, mm_up_n _ _ dq_17_5]; exact f5_M_16
  have dq_17_6 : b1 ≠ q_17 := ne_new (f6_M_16) hq_17
  have f6_M_18 : M_18 (b1) = some (aI G 9 (fun _ => 0)) := by rw [eM_18, mm_up_n _ _ dq_17_6]; exact f6_M_16
  have dq_17_7 : b2 ≠ q_17 := ne_new (f7_M_16) hq_17
  have f7_M_18 : M_18 (b2) = some (aI G 8 (fun _ => 0)) := by rw [eM_18, mm_up_n _ _ dq_17_7]; exact f7_M_16
  have fq_17 : M_18 q_17 = some (.inr (4, [.null, .null, .int 0])) := by rw [eM_18]; exact mm_up_s _ _ _
  have fr_M_18 : ∀ z, M z ≠ none → z ≠ a → M_18 z = M z := fun z h1 h2 => ((congrFun eM_18 z).trans (mm_up_n _ _ (fun e9 => h1 (by rw [e9]; exact n_q_17)))).trans (fr_M_16 z h1 h2)
  refine W.eq (g2 := F0 m 56 ls [.ref q_17, .ref a]) rfl ?_
  refine lv_dup hx hb dX6_init_56 rfl ?_
  refine mm_callIN (As := []) (rest := [.ref q_17, .ref a]) X hw (c_machineInit l G _ q_17 fq_17) wd_X6_42 ⟨Nat.le_of_ble_eq_true rfl, Nat.le_of_ble_eq_true rfl⟩ ⟨Nat.le_of_ble_eq_true rfl, Nat.le_of_ble_eq_true rfl⟩ rfl rfl (Nat.le_of_ble_eq_true rfl) hl.1 dX6_init_57 (fun v9 N_19 H9 locs9 hp9 hw => ?_)
  obtain ⟨rfl, d1, d2, d3, hnd2, ⟨mb1, mb2, mb3⟩, ga, gb1, gb2, gb3, fr8⟩ := hp9
  refine W.eq (g2 := F0 m 60 ls [.ref q_17, .ref a]) rfl ?_
  have n_d1 : M d1 = none := Classical.byContradiction (fun h9 => h9 ((fr_M_18 d1 h9 (Ne.symm (ne_new (f0_M_18) mb1))).symm.trans mb1))
  have n_d2 : M d2 = none := Classical.byContradiction (fun h9 => h9 ((fr_M_18 d2 h9 (Ne.symm (ne_new (f0_M_18) mb2))).symm.trans mb2))
  have n_d3 : M d3 = none := Classical.byContradiction (fun h9 => h9 ((fr_M_18 d3 h9 (Ne.symm (ne_new (f0_M_18) mb3))).symm.trans mb3))
  have e0_d1_N_19 : a ≠ d1 := ne_new (f0_M_18) mb1
  have e0_d2_N_19 : a ≠ d2 := ne_new (f0_M_18) mb2
  have e0_d3_N_19 : a ≠ d3 := ne_new (f0_M_18) mb3
  have g1_N_19 : N_19 (a) = some (.inr (6, [.ref q_1, .ref q_4, .ref q_7, .ref q_10, .ref q_13, .null, .int 0, .int 0, .int 0, .int 0, .int 0, .int 0])) := (fr8 _ (sm_ne (f0_M_18)) (dq_17_0)).trans (f0_M_18)
  have e1_d1_N_19 : q_1 ≠ d1 := ne_new (f1_M_18) mb1
  have e1_d2_N_19 : q_1 ≠ d2 := ne_new (f1_M_18) mb2
  have e1_d3_N_19 : q_1 ≠ d3 := ne_new (f1_M_18) mb3
  have g2_N_19 : N_19 (q_1) = some (aQ G 3 10 (fun _ => none)) := (fr8 _ (sm_ne (f1_M_18)) (dq_17_1)).trans (f1_M_18)
  have e2_d1_N_19 : q_4 ≠ d1 := ne_new (f2_M_18) mb1
  have e2_d2_N_19 : q_4 ≠ d2 := ne_new (f2_M_18) mb2
  have e2_d3_N_19 : q_4 ≠ d3 := ne_new (f2_M_18) mb3
  have g3_N_19 : N_19 (q_4) = some (aQ G 4 12 (fun _ => none)) := (fr8 _ (sm_ne (f2_M_18)) (dq_17_2)).trans (f2_M_18)
  have e3_d1_N_19 : q_7 ≠ d1 := ne_new (f3_M_18) mb1
  have e3_d2_N_19 : q_7 ≠ d2 := ne_new (f3_M_18) mb2
  have e3_d3_N_19 : q_7 ≠ d3 := ne_new (f3_M_18) mb3
  have g4_N_19 : N_19 (q_7) = some (aQ G 5 12 (fun _ => none)) := (fr8 _ (sm_ne (f3_M_18)) (dq_17_3)).trans (f3_M_18)
  have e4_d1_N_19 : q_10 ≠ d1 := ne_new (f4_M_18) mb1
  have e4_d2_N_19 : q_10 ≠ d2 := ne_new (f4_M_18) mb2
  have e4_d3_N_19 : q_10 ≠ d3 := ne_new (f4_M_18) mb3
  have g5_N_19 : N_19 (q_10) = some (aQ G 6 64 (fun _ => none)) := (fr8 _ (sm_ne (f4_M_18)) (dq_17_4)).trans (f4_M_18)
  have e5_d1_N_19 : q_13 ≠ d1 := ne_new (f5_M_18) mb1
  have e5_d2_N_19 : q_13 ≠ d2 := ne_new (f5_M_18) mb2
  have e5_d3_N_19 : q_13 ≠ d3 := ne_new (f5_M_18) mb3
  have g6_N_19 : N_19 (q_13) = some (.inr (2, [.int 0, .ref b1, .ref b2, .int ((-1)), .int 0])) := (fr8 _ (sm_ne (f5_M_18)) (dq_17_5)).trans (f5_M_18)
  have e6_d1_N_19 : b1 ≠ d1 := ne_new (f6_M_18) mb1
  have e6_d2_N_19 : b1 ≠ d2 := ne_new (f6_M_18) mb2
  have e6_d3_N_19 : b1 ≠ d3 := ne_new (f6_M_18) mb3
  have g7_N_19 : N_19 (b1) = some (aI G 9 (fun _ => 0)) := (fr8 _ (sm_ne (f6_M_18)) (dq_17_6)).trans (f6_M_18)
  have e7_d1_N_19 : b2 ≠ d1 := ne_new (f7_M_18) mb1
  have e7_d2_N_19 : b2 ≠ d2 := ne_new (f7_M_18) mb2
  have e7_d3_N_19 : b2 ≠ d3 := ne_new (f7_M_18) mb3
  have g8_N_19 : N_19 (b2) = some (aI G 8 (fun _ => 0)) := (fr8 _ (sm_ne (f7_M_18)) (dq_17_7)).trans (f7_M_18)
  have e8_d1_N_19 : q_17 ≠ d1 := ne_new (fq_17) mb1
  have e8_d2_N_19 : q_17 ≠ d2 := ne_new (fq_17) mb2
  have e8_d3_N_19 : q_17 ≠ d3 := ne_new (fq_17) mb3
  have fr_N_19 : ∀ z, M z ≠ none → z ≠ a → N_19 z = M z := fun z h1 h2 => (fr8 z (by rw [fr_M_18 z h1 h2]; exact h1) (fun e9 => h1 (by rw [e9]; exact n_q_17))).trans (fr_M_18 z h1 h2)
  refine pf_X6_43 X hin hw (g1_N_19) (Nat.le_of_ble_eq_true rfl) dX6_init_60 (fun H9 locs9 hw => ?_)
  obtain ⟨M_20, eM_20⟩ : ∃ z, z = mm_up N_19 (a) (.inr (6, [.ref q_1, .ref q_4, .ref q_7, .ref q_10, .ref q_13, .ref q_17, .int 0, .int 0, .int 0, .int 0, .int 0, .int 0])) := ⟨_, rfl⟩
  have hw : mm_W G.1 vwCl (ct_A M s.heap.size) s.heap M_20 H9 locs9 := by rw [eM_20]; exact hw
  have f0_M_20 : M_20 (a) = some (.inr (6, [.ref q_1, .ref q_4, .ref q_7, .ref q_10, .ref q_13, .ref q_17, .int 0, .int 0, .int 0, .int 0, .int 0, .int 0])) := by rw [eM_20]; exact mm_up_s _ _ _
  have f1_M_20 : M_20 (q_1) = some (aQ G 3 10 (fun _ => none)) := by rw [eM_20, mm_up_n _ _ (Ne.symm (dq_1_0))]; exact g2_N_19
  have f2_M_20 : M_20 (q_4) = some (aQ G 4 12 (fun _ => none)) := by rw [eM_20, mm_up_n _ _ (Ne.symm (dq_4_0))]; exact g3_N_19
  have f3_M_20 : M_20 (q_7) = some (aQ G 5 12 (fun _ => none)) := by rw [eM_20, mm_up_n _ _ (Ne.symm (dq_7_0))]; exact g4_N_19
  have f4_M_20 : M_20 (q_10) = some (aQ G 6 64 (fun _ => none)) := by rw [eM_20, mm_up_n _ _ (Ne.symm (dq_10_0))]; exact g5_N_19
  have f5_M_20 : M_20 (q_13) = some (.inr (2, [.int 0, .ref b1, .ref b2, .int ((-1)), .int 0])) := by rw [eM_20, mm_up_n _ _ (Ne.symm (dq_13_0))]; exact g6_N_19
  have f6_M_20 : M_20 (b1) = some (aI G 9 (fun _ => 0)) := by rw [eM_20, mm_up_n _ _ (Ne.symm (e0_b1_N_15))]; exact g7_N_19
  have f7_M_20 : M_20 (b2) = some (aI G 8 (fun _ => 0)) := by rw [eM_20, mm_up_n _ _ (Ne.symm (e0_b2_N_15))]; exact g8_N_19
  have f8_M_20 : M_20 (q_17) = some (.inr (4, [.ref d1, .ref d2, .int 0])) := by rw [eM_20, mm_up_n _ _ (Ne.symm (dq_17_0))]; exact ga
  have f9_M_20 : M_20 (d1) = some (aJ G 24 (fun _ => 0)) := by rw [eM_20, mm_up_n _ _ (Ne.symm (e0_d1_N_19))]; exact gb1
  have f10_M_20 : M_20 (d2) = some (.inr (0, [.ref d3])) := by rw [eM_20, mm_up_n _ _ (Ne.symm (e0_d2_N_19))]; exact gb2
  have f11_M_20 : M_20 (d3) = some (aJ G 4 (fun _ => 0)) := by rw [eM_20, mm_up_n _ _ (Ne.symm (e0_d3_N_19))]; exact gb3
  have fr_M_20 : ∀ z, M z ≠ none → z ≠ a → M_20 z = M z := fun z h1 h2 => ((congrFun eM_20 z).trans (mm_up_n _ _ (h2))).trans (fr_N_19 z h1 h2)
  refine lv_aload_n hx hb dX6_init_63 rfl (lv_at hl 0 rfl) ?_
  refine lv_iconst (v := 1) hx hb dX6_init_64 (by decide) ?_
  refine pf_X6_47 X hw (f0_M_20) (Nat.le_of_ble_eq_true rfl) dX6_init_65 (fun H9 locs9 hw => ?_)
  obtain ⟨M_21, eM_21⟩ : ∃ z, z = mm_up M_20 (a) (.inr (6, [.ref q_1, .ref q_4, .ref q_7, .ref q_10, .ref q_13, .ref q_17, .int 1, .int 0, .int 0, .int 0, .int 0, .int 0])) := ⟨_, rfl⟩
  have hw : mm_W G.1 vwCl (ct_A M s.heap.size) s.heap M_21 H9 locs9 := by rw [eM_21]; exact hw
  have f0_M_21 : M_21 (a) = some (.inr (6, [.ref q_1, .ref q_4, .ref q_7, .ref q_10, .ref q_13, .ref q_17, .int 1, .int 0, .int 0, .int 0, .int 0, .int 0])) := by rw [eM_21]; exact mm_up_s _ _ _
  have f1_M_21 : M_21 (q_1) = some (aQ G 3 10 (fun _ => none)) := by rw [eM_21, mm_up_n _ _ (Ne.symm (dq_1_0))]; exact f1_M_20
  have f2_M_21 : M_21 (q_4) = some (aQ G 4 12 (fun _ => none)) := by rw [eM_21, mm_up_n _ _ (Ne.symm (dq_4_0))]; exact f2_M_20
  have f3_M_21 : M_21 (q_7) = some (aQ G 5 12 (fun _ => none)) := by rw [eM_21, mm_up_n _ _ (Ne.symm (dq_7_0))]; exact f3_M_20
  have f4_M_21 : M_21 (q_10) = some (aQ G 6 64 (fun _ => none)) := by rw [eM_21, mm_up_n _ _ (Ne.symm (dq_10_0))]; exact f4_M_20
  have f5_M_21 : M_21 (q_13) = some (.inr (2, [.int 0, .ref b1, .ref b2, .int ((-1)), .int 0])) := by rw [eM_21, mm_up_n _ _ (Ne.symm (dq_13_0))]; exact f5_M_20
  have f6_M_21 : M_21 (b1) = some (aI G 9 (fun _ => 0)) := by rw [eM_21, mm_up_n _ _ (Ne.symm (e0_b1_N_15))]; exact f6_M_20
  have f7_M_21 : M_21 (b2) = some (aI G 8 (fun _ => 0)) := by rw [eM_21, mm_up_n _ _ (Ne.symm (e0_b2_N_15))]; exact f7_M_20
  have f8_M_21 : M_21 (q_17) = some (.inr (4, [.ref d1, .ref d2, .int 0])) := by rw [eM_21, mm_up_n _ _ (Ne.symm (dq_17_0))]; exact f8_M_20
  have f9_M_21 : M_21 (d1) = some (aJ G 24 (fun _ => 0)) := by rw [eM_21, mm_up_n _ _ (Ne.symm (e0_d1_N_19))]; exact f9_M_20
  have f10_M_21 : M_21 (d2) = some (.inr (0, [.ref d3])) := by rw [eM_21, mm_up_n _ _ (Ne.symm (e0_d2_N_19))]; exact f10_M_20
  have f11_M_21 : M_21 (d3) = some (aJ G 4 (fun _ => 0)) := by rw [eM_21, mm_up_n _ _ (Ne.symm (e0_d3_N_19))]; exact f11_M_20
  have fr_M_21 : ∀ z, M z ≠ none → z ≠ a → M_21 z = M z := fun z h1 h2 => ((congrFun eM_21 z).trans (mm_up_n _ _ (h2))).trans (fr_M_20 z h1 h2)
  refine lv_aload_n hx hb dX6_init_68 rfl (lv_at hl 0 rfl) ?_
  refine lv_iconst (v := 0) hx hb dX6_init_69 (by decide) ?_
  refine pf_X6_51 X hw (f0_M_21) (Nat.le_of_ble_eq_true rfl) dX6_init_70 (fun H9 locs9 hw => ?_)
  obtain ⟨M_22, eM_22⟩ : ∃ z, z = mm_up M_21 (a) (.inr (6, [.ref q_1, .ref q_4, .ref q_7, .ref q_10, .ref q_13, .ref q_17, .int 1, .int 0, .int 0, .int 0, .int 0, .int 0])) := ⟨_, rfl⟩
  have hw : mm_W G.1 vwCl (ct_A M s.heap.size) s.heap M_22 H9 locs9 := by rw [eM_22]; exact hw
  have f0_M_22 : M_22 (a) = some (.inr (6, [.ref q_1, .ref q_4, .ref q_7, .ref q_10, .ref q_13, .ref q_17, .int 1, .int 0, .int 0, .int 0, .int 0, .int 0])) := by rw [eM_22]; exact mm_up_s _ _ _
  have f1_M_22 : M_22 (q_1) = some (aQ G 3 10 (fun _ => none)) := by rw [eM_22, mm_up_n _ _ (Ne.symm (dq_1_0))]; exact f1_M_21
  have f2_M_22 : M_22 (q_4) = some (aQ G 4 12 (fun _ => none)) := by rw [eM_22, mm_up_n _ _ (Ne.symm (dq_4_0))]; exact f2_M_21
  have f3_M_22 : M_22 (q_7) = some (aQ G 5 12 (fun _ => none)) := by rw [eM_22, mm_up_n _ _ (Ne.symm (dq_7_0))]; exact f3_M_21
  have f4_M_22 : M_22 (q_10) = some (aQ G 6 64 (fun _ => none)) := by rw [eM_22, mm_up_n _ _ (Ne.symm (dq_10_0))]; exact f4_M_21
  have f5_M_22 : M_22 (q_13) = some (.inr (2, [.int 0, .ref b1, .ref b2, .int ((-1)), .int 0])) := by rw [eM_22, mm_up_n _ _ (Ne.symm (dq_13_0))]; exact f5_M_21
  have f6_M_22 : M_22 (b1) = some (aI G 9 (fun _ => 0)) := by rw [eM_22, mm_up_n _ _ (Ne.symm (e0_b1_N_15))]; exact f6_M_21
  have f7_M_22 : M_22 (b2) = some (aI G 8 (fun _ => 0)) := by rw [eM_22, mm_up_n _ _ (Ne.symm (e0_b2_N_15))]; exact f7_M_21
  have f8_M_22 : M_22 (q_17) = some (.inr (4, [.ref d1, .ref d2, .int 0])) := by rw [eM_22, mm_up_n _ _ (Ne.symm (dq_17_0))]; exact f8_M_21
  have f9_M_22 : M_22 (d1) = some (aJ G 24 (fun _ => 0)) := by rw [eM_22, mm_up_n _ _ (Ne.symm (e0_d1_N_19))]; exact f9_M_21
  have f10_M_22 : M_22 (d2) = some (.inr (0, [.ref d3])) := by rw [eM_22, mm_up_n _ _ (Ne.symm (e0_d2_N_19))]; exact f10_M_21
  have f11_M_22 : M_22 (d3) = some (aJ G 4 (fun _ => 0)) := by rw [eM_22, mm_up_n _ _ (Ne.symm (e0_d3_N_19))]; exact f11_M_21
  have fr_M_22 : ∀ z, M z ≠ none → z ≠ a → M_22 z = M z := fun z h1 h2 => ((congrFun eM_22 z).trans (mm_up_n _ _ (h2))).trans (fr_M_21 z h1 h2)
  refine lv_aload_n hx hb dX6_init_73 rfl (lv_at hl 0 rfl) ?_
  refine lv_iconst (v := 0) hx hb dX6_init_74 (by decide) ?_
  refine pf_X6_54 X hw (f0_M_22) (Nat.le_of_ble_eq_true rfl) dX6_init_75 (fun H9 locs9 hw => ?_)
  obtain ⟨M_23, eM_23⟩ : ∃ z, z = mm_up M_22 (a) (.inr (6, [.ref q_1, .ref q_4, .ref q_7, .ref q_10, .ref q_13, .ref q_17, .int 1, .int 0, .int 0, .int 0, .int 0, .int 0])) := ⟨_, rfl⟩
  have hw : mm_W G.1 vwCl (ct_A M s.heap.size) s.heap M_23 H9 locs9 := by rw [eM_23]; exact hw
  have f0_M_23 : M_23 (a) = some (.inr (6, [.ref q_1, .ref q_4, .ref q_7, .ref q_10, .ref q_13, .ref q_17, .int 1, .int 0, .int 0, .int 0, .int 0, .int 0])) := by rw [eM_23]; exact mm_up_s _ _ _
  have f1_M_23 : M_23 (q_1) = some (aQ G 3 10 (fun _ => none)) := by rw [eM_23, mm_up_n _ _ (Ne.symm (dq_1_0))]; exact f1_M_22
  have f2_M_23 : M_23 (q_4) = some (aQ G 4 12 (fun _ => none)) := by rw [eM_23, mm_up_n _ _ (Ne.symm (dq_4_0))]; exact f2_M_22
  have f3_M_23 : M_23 (q_7) = some (aQ G 5 12 (fun _ => none)) := by rw [eM_23, mm_up_n _ _ (Ne.symm (dq_7_0))]; exact f3_M_22
  have f4_M_23 : M_23 (q_10) = some (aQ G 6 64 (fun _ => none)) := by rw [eM_23, mm_up_n _ _ (Ne.symm (dq_10_0))]; exact f4_M_22
  have f5_M_23 : M_23 (q_13) = some (.inr (2, [.int 0, .ref b1, .ref b2, .int ((-1)), .int 0])) := by rw [eM_23, mm_up_n _ _ (Ne.symm (dq_13_0))]; exact f5_M_22
  have f6_M_23 : M_23 (b1) = some (aI G 9 (fun _ => 0)) := by rw [eM_23, mm_up_n _ _ (Ne.symm (e0_b1_N_15))]; exact f6_M_22
  have f7_M_23 : M_23 (b2) = some (aI G 8 (fun _ => 0)) := by rw [eM_23, mm_up_n _ _ (Ne.symm (e0_b2_N_15))]; exact f7_M_22
  have f8_M_23 : M_23 (q_17) = some (.inr (4, [.ref d1, .ref d2, .int 0])) := by rw [eM_23, mm_up_n _ _ (Ne.symm (dq_17_0))]; exact f8_M_22
  have f9_M_23 : M_23 (d1) = some (aJ G 24 (fun _ => 0)) := by rw [eM_23, mm_up_n _ _ (Ne.symm (e0_d1_N_19))]; exact f9_M_22
  have f10_M_23 : M_23 (d2) = some (.inr (0, [.ref d3])) := by rw [eM_23, mm_up_n _ _ (Ne.symm (e0_d2_N_19))]; exact f10_M_22
  have f11_M_23 : M_23 (d3) = some (aJ G 4 (fun _ => 0)) := by rw [eM_23, mm_up_n _ _ (Ne.symm (e0_d3_N_19))]; exact f11_M_22
  have fr_M_23 : ∀ z, M z ≠ none → z ≠ a → M_23 z = M z := fun z h1 h2 => ((congrFun eM_23 z).trans (mm_up_n _ _ (h2))).trans (fr_M_22 z h1 h2)
  refine lv_aload_n hx hb dX6_init_78 rfl (lv_at hl 0 rfl) ?_
  refine lv_iconst (v := 0) hx hb dX6_init_79 (by decide) ?_
  refine pf_X6_57 X hw (f0_M_23) (Nat.le_of_ble_eq_true rfl) dX6_init_80 (fun H9 locs9 hw => ?_)
  obtain ⟨M_24, eM_24⟩ : ∃ z, z = mm_up M_23 (a) (.inr (6, [.ref q_1, .ref q_4, .ref q_7, .ref q_10, .ref q_13, .ref q_17, .int 1, .int 0, .int 0, .int 0, .int 0, .int 0])) := ⟨_, rfl⟩
  have hw : mm_W G.1 vwCl (ct_A M s.heap.size) s.heap M_24 H9 locs9 := by rw [eM_24]; exact hw
  have f0_M_24 : M_24 (a) = some (.inr (6, [.ref q_1, .ref q_4, .ref q_7, .ref q_10, .ref q_13, .ref q_17, .int 1, .int 0, .int 0, .int 0, .int 0, .int 0])) := by rw [eM_24]; exact mm_up_s _ _ _
  have f1_M_24 : M_24 (q_1) = some (aQ G 3 10 (fun _ => none)) := by rw [eM_24, mm_up_n _ _ (Ne.symm (dq_1_0))]; exact f1_M_23
  have f2_M_24 : M_24 (q_4) = some (aQ G 4 12 (fun _ => none)) := by rw [eM_24, mm_up_n _ _ (Ne.symm (dq_4_0))]; exact f2_M_23
  have f3_M_24 : M_24 (q_7) = some (aQ G 5 12 (fun _ => none)) := by rw [eM_24, mm_up_n _ _ (Ne.symm (dq_7_0))]; exact f3_M_23
  have f4_M_24 : M_24 (q_10) = some (aQ G 6 64 (fun _ => none)) := by rw [eM_24, mm_up_n _ _ (Ne.symm (dq_10_0))]; exact f4_M_23
  have f5_M_24 : M_24 (q_13) = some (.inr (2, [.int 0, .ref b1, .ref b2, .int ((-1)), .int 0])) := by rw [eM_24, mm_up_n _ _ (Ne.symm (dq_13_0))]; exact f5_M_23
  have f6_M_24 : M_24 (b1) = some (aI G 9 (fun _ => 0)) := by rw [eM_24, mm_up_n _ _ (Ne.symm (e0_b1_N_15))]; exact f6_M_23
  have f7_M_24 : M_24 (b2) = some (aI G 8 (fun _ => 0)) := by rw [eM_24, mm_up_n _ _ (Ne.symm (e0_b2_N_15))]; exact f7_M_23
  have f8_M_24 : M_24 (q_17) = some (.inr (4, [.ref d1, .ref d2, .int 0])) := by rw [eM_24, mm_up_n _ _ (Ne.symm (dq_17_0))]; exact f8_M_23
  have f9_M_24 : M_24 (d1) = some (aJ G 24 (fun _ => 0)) := by rw [eM_24, mm_up_n _ _ (Ne.symm (e0_d1_N_19))]; exact f9_M_23
  have f10_M_24 : M_24 (d2) = some (.inr (0, [.ref d3])) := by rw [eM_24, mm_up_n _ _ (Ne.symm (e0_d2_N_19))]; exact f10_M_23
  have f11_M_24 : M_24 (d3) = some (aJ G 4 (fun _ => 0)) := by rw [eM_24, mm_up_n _ _ (Ne.symm (e0_d3_N_19))]; exact f11_M_23
  have fr_M_24 : ∀ z, M z ≠ none → z ≠ a → M_24 z = M z := fun z h1 h2 => ((congrFun eM_24 z).trans (mm_up_n _ _ (h2))).trans (fr_M_23 z h1 h2)
  refine lv_aload_n hx hb dX6_init_83 rfl (lv_at hl 0 rfl) ?_
  refine lv_iconst (v := 0) hx hb dX6_init_84 (by decide) ?_
  refine pf_X6_60 X hw (f0_M_24) (Nat.le_of_ble_eq_true rfl) dX6_init_85 (fun H9 locs9 hw => ?_)
  obtain ⟨M_25, eM_25⟩ : ∃ z, z = mm_up M_24 (a) (.inr (6, [.ref q_1, .ref q_4, .ref q_7, .ref q_10, .ref q_13, .ref q_17, .int 1, .int 0, .int 0, .int 0, .int 0, .int 0])) := ⟨_, rfl⟩
  have hw : mm_W G.1 vwCl (ct_A M s.heap.size) s.heap M_25 H9 locs9 := by rw [eM_25]; exact hw
  have f0_M_25 : M_25 (a) = some (.inr (6, [.ref q_1, .ref q_4, .ref q_7, .ref q_10, .ref q_13, .ref q_17, .int 1, .int 0, .int 0, .int 0, .int 0, .int 0])) := by rw [eM_25]; exact mm_up_s _ _ _
  have f1_M_25 : M_25 (q_1) = some (aQ G 3 10 (fun _ => none)) := by rw [eM_25, mm_up_n _ _ (Ne.symm (dq_1_0))]; exact f1_M_24
  have f2_M_25 : M_25 (q_4) = some (aQ G 4 12 (fun _ => none)) := by rw [eM_25, mm_up_n _ _ (Ne.symm (dq_4_0))]; exact f2_M_24
  have f3_M_25 : M_25 (q_7) = some (aQ G 5 12 (fun _ => none)) := by rw [eM_25, mm_up_n _ _ (Ne.symm (dq_7_0))]; exact f3_M_24
  have f4_M_25 : M_25 (q_10) = some (aQ G 6 64 (fun _ => none)) := by rw [eM_25, mm_up_n _ _ (Ne.symm (dq_10_0))]; exact f4_M_24
  have f5_M_25 : M_25 (q_13) = some (.inr (2, [.int 0, .ref b1, .ref b2, .int ((-1)), .int 0])) := by rw [eM_25, mm_up_n _ _ (Ne.symm (dq_13_0))]; exact f5_M_24
  have f6_M_25 : M_25 (b1) = some (aI G 9 (fun _ => 0)) := by rw [eM_25, mm_up_n _ _ (Ne.symm (e0_b1_N_15))]; exact f6_M_24
  have f7_M_25 : M_25 (b2) = some (aI G 8 (fun _ => 0)) := by rw [eM_25, mm_up_n _ _ (Ne.symm (e0_b2_N_15))]; exact f7_M_24
  have f8_M_25 : M_25 (q_17) = some (.inr (4, [.ref d1, .ref d2, .int 0])) := by rw [eM_25, mm_up_n _ _ (Ne.symm (dq_17_0))]; exact f8_M_24
  have f9_M_25 : M_25 (d1) = some (aJ G 24 (fun _ => 0)) := by rw [eM_25, mm_up_n _ _ (Ne.symm (e0_d1_N_19))]; exact f9_M_24
  have f10_M_25 : M_25 (d2) = some (.inr (0, [.ref d3])) := by rw [eM_25, mm_up_n _ _ (Ne.symm (e0_d2_N_19))]; exact f10_M_24
  have f11_M_25 : M_25 (d3) = some (aJ G 4 (fun _ => 0)) := by rw [eM_25, mm_up_n _ _ (Ne.symm (e0_d3_N_19))]; exact f11_M_24
  have fr_M_25 : ∀ z, M z ≠ none → z ≠ a → M_25 z = M z := fun z h1 h2 => ((congrFun eM_25 z).trans (mm_up_n _ _ (h2))).trans (fr_M_24 z h1 h2)
  refine lv_aload_n hx hb dX6_init_88 rfl (lv_at hl 0 rfl) ?_
  refine lv_iconst (v := 0) hx hb dX6_init_89 (by decide) ?_
  refine pf_X6_63 X hw (f0_M_25) (Nat.le_of_ble_eq_true rfl) dX6_init_90 (fun H9 locs9 hw => ?_)
  obtain ⟨M_26, eM_26⟩ : ∃ z, z = mm_up M_25 (a) (.inr (6, [.ref q_1, .ref q_4, .ref q_7, .ref q_10, .ref q_13, .ref q_17, .int 1, .int 0, .int 0, .int 0, .int 0, .int 0])) := ⟨_, rfl⟩
  have hw : mm_W G.1 vwCl (ct_A M s.heap.size) s.heap M_26 H9 locs9 := by rw [eM_26]; exact hw
  have f0_M_26 : M_26 (a) = some (.inr (6, [.ref q_1, .ref q_4, .ref q_7, .ref q_10, .ref q_13, .ref q_17, .int 1, .int 0, .int 0, .int 0, .int 0, .int 0])) := by rw [eM_26]; exact mm_up_s _ _ _
  have f1_M_26 : M_26 (q_1) = some (aQ G 3 10 (fun _ => none)) := by rw [eM_26, mm_up_n _ _ (Ne.symm (dq_1_0))]; exact f1_M_25
  have f2_M_26 : M_26 (q_4) = some (aQ G 4 12 (fun _ => none)) := by rw [eM_26, mm_up_n _ _ (Ne.symm (dq_4_0))]; exact f2_M_25
  have f3_M_26 : M_26 (q_7) = some (aQ G 5 12 (fun _ => none)) := by rw [eM_26, mm_up_n _ _ (Ne.symm (dq_7_0))]; exact f3_M_25
  have f4_M_26 : M_26 (q_10) = some (aQ G 6 64 (fun _ => none)) := by rw [eM_26, mm_up_n _ _ (Ne.symm (dq_10_0))]; exact f4_M_25
  have f5_M_26 : M_26 (q_13) = some (.inr (2, [.int 0, .ref b1, .ref b2, .int ((-1)), .int 0])) := by rw [eM_26, mm_up_n _ _ (Ne.symm (dq_13_0))]; exact f5_M_25
  have f6_M_26 : M_26 (b1) = some (aI G 9 (fun _ => 0)) := by rw [eM_26, mm_up_n _ _ (Ne.symm (e0_b1_N_15))]; exact f6_M_25
  have f7_M_26 : M_26 (b2) = some (aI G 8 (fun _ => 0)) := by rw [eM_26, mm_up_n _ _ (Ne.symm (e0_b2_N_15))]; exact f7_M_25
  have f8_M_26 : M_26 (q_17) = some (.inr (4, [.ref d1, .ref d2, .int 0])) := by rw [eM_26, mm_up_n _ _ (Ne.symm (dq_17_0))]; exact f8_M_25
  have f9_M_26 : M_26 (d1) = some (aJ G 24 (fun _ => 0)) := by rw [eM_26, mm_up_n _ _ (Ne.symm (e0_d1_N_19))]; exact f9_M_25
  have f10_M_26 : M_26 (d2) = some (.inr (0, [.ref d3])) := by rw [eM_26, mm_up_n _ _ (Ne.symm (e0_d2_N_19))]; exact f10_M_25
  have f11_M_26 : M_26 (d3) = some (aJ G 4 (fun _ => 0)) := by rw [eM_26, mm_up_n _ _ (Ne.symm (e0_d3_N_19))]; exact f11_M_25
  have fr_M_26 : ∀ z, M z ≠ none → z ≠ a → M_26 z = M z := fun z h1 h2 => ((congrFun eM_26 z).trans (mm_up_n _ _ (h2))).trans (fr_M_25 z h1 h2)
  refine lv_iconst (v := 0) hx hb dX6_init_93 (by decide) ?_
  refine lv_istore_n (lv' := [(1, .int 0), (0, .ref a)]) hx hb dX6_init_94 rfl hl (by decide) rfl (fun ls hl => ?_)
  have loop1 : ∀ (n k : Nat) (M1 : mM) (H1 : Heap) (locs1 : List Loc) (ls1 : Array Slot), k ≤ 9 → 10 ≤ k + n → (i0_loop1 : M1 (a) = some (.inr (6, [.ref q_1, .ref q_4, .ref q_7, .ref q_10, .ref q_13, .ref q_17, .int 1, .int 0, .int 0, .int 0, .int 0, .int 0]))) → (i1_loop1 : M1 (q_1) = some (aQ G 3 10 (fun _ => none))) → (i2_loop1 : M1 (q_4) = some (aQ G 4 12 (fun _ => none))) → (i3_loop1 : M1 (q_7) = some (aQ G 5 12 (fun _ => none))) → (i4_loop1 : M1 (q_10) = some (aQ G 6 64 (fun _ => none))) → (i5_loop1 : M1 (q_13) = some (.inr (2, [.int 0, .ref b1, .ref b2, .int ((-1)), .int 0]))) → (i6_loop1 : M1 (b1) = some (aI G 9 (rj (fun _ => 1) (fun _ => 0) k))) → (i7_loop1 : M1 (b2) = some (aI G 8 (fun _ => 0))) → (i8_loop1 : M1 (q_17) = some (.inr (4, [.ref d1, .ref d2, .int 0]))) → (i9_loop1 : M1 (d1) = some (aJ G 24 (fun _ => 0))) → (i10_loop1 : M1 (d2) = some (.inr (0, [.ref d3]))) → (i11_loop1 : M1 (d3) = some (aJ G 4 (fun _ => 0))) → (∀ z, M z ≠ none → z ≠ a → M1 z = M z) → mm_W G.1 vwCl (ct_A M s.heap.size) s.heap M1 H1 locs1 → lv_has ls1 2 [(0, .ref a), (1, .int (nI k))] → W p l e (mm_r 3 11 169) s m args below meth c H1 locs1 (0 + 1 + 1 + 1 + 1 + 1 + 2 + 1 + 3) (0 + 10 + 12 + 12 + 64 + 5 + 17 + 3 + 29) Q (F0 m 95 ls1 []) := by
    intro n
    induction n with
    | zero => intro k M1 H1 locs1 ls hk hn; exact absurd hn (by omega)
    | succ n ih =>
      intro k M1 H1 locs1 ls hk hn i0_loop1 i1_loop1 i2_loop1 i3_loop1 i4_loop1 i5_loop1 i6_loop1 i7_loop1 i8_loop1 i9_loop1 i10_loop1 i11_loop1 fr_loop1 hw hl
      refine lv_iload_n hx hb dX6_init_95 rfl (lv_at hl 1 rfl) ?_
      refine lv_bipush (v := 9) hx hb dX6_init_96 (by decide) ?_
      refine lv_icmp_ge (tgt := 117) hx hb dX6_init_98 (by decide) (fun c98 => ?_) (fun c98 => ?_)
      · have hk9 : k = 9 := by have := nle (a := 9) (by decide) (by omega) c98; omega
        refine lv_iconst (v := 0) hx hb dX6_init_117 (by decide) ?_
        refine lv_istore_n (lv' := [(1, .int 0), (0, .ref a)]) hx hb dX6_init_118 rfl hl (by decide) rfl (fun ls hl => ?_)
        rw [hk9] at i6_loop1
        have loop2 : ∀ (n k : Nat) (M1 : mM) (H1 : Heap) (locs1 : List Loc) (ls1 : Array Slot), k ≤ 8 → 9 ≤ k + n → (i0_loop2 : M1 (a) = some (.inr (6, [.ref q_1, .ref q_4, .ref q_7, .ref q_10, .ref q_13, .ref q_17, .int 1, .int 0, .int 0, .int 0, .int 0, .int 0]))) → (i1_loop2 : M1 (q_1) = some (aQ G 3 10 (fun _ => none))) → (i2_loop2 : M1 (q_4) = some (aQ G 4 12 (fun _ => none))) → (i3_loop2 : M1 (q_7) = some (aQ G 5 12 (fun _ => none))) → (i4_loop2 : M1 (q_10) = some (aQ G 6 64 (fun _ => none))) → (i5_loop2 : M1 (q_13) = some (.inr (2, [.int 0, .ref b1, .ref b2, .int ((-1)), .int 0]))) → (i6_loop2 : M1 (b1) = some (aI G 9 (rj (fun _ => 1) (fun _ => 0) 9))) → (i7_loop2 : M1 (b2) = some (aI G 8 (rj (fun _ => -1) (fun _ => 0) k))) → (i8_loop2 : M1 (q_17) = some (.inr (4, [.ref d1, .ref d2, .int 0]))) → (i9_loop2 : M1 (d1) = some (aJ G 24 (fun _ => 0))) → (i10_loop2 : M1 (d2) = some (.inr (0, [.ref d3]))) → (i11_loop2 : M1 (d3) = some (aJ G 4 (fun _ => 0))) → (∀ z, M z ≠ none → z ≠ a → M1 z = M z) → mm_W G.1 vwCl (ct_A M s.heap.size) s.heap M1 H1 locs1 → lv_has ls1 2 [(0, .ref a), (1, .int (nI k))] → W p l e (mm_r 3 11 169) s m args below meth c H1 locs1 (0 + 1 + 1 + 1 + 1 + 1 + 2 + 1 + 3) (0 + 10 + 12 + 12 + 64 + 5 + 17 + 3 + 29) Q (F0 m 119 ls1 []) := by
          intro n
          induction n with
          | zero => intro k M1 H1 locs1 ls hk hn; exact absurd hn (by omega)
          | succ n ih =>
            intro k M1 H1 locs1 ls hk hn i0_loop2 i1_loop2 i2_loop2 i3_loop2 i4_loop2 i5_loop2 i6_loop2 i7_loop2 i8_loop2 i9_loop2 i10_loop2 i11_loop2 fr_loop2 hw hl
            refine lv_iload_n hx hb dX6_init_119 rfl (lv_at hl 1 rfl) ?_
            refine lv_bipush (v := 8) hx hb dX6_init_120 (by decide) ?_
            refine lv_icmp_ge (tgt := 141) hx hb dX6_init_122 (by decide) (fun c122 => ?_) (fun c122 => ?_)
            · have hk9 : k = 8 := by have := nle (a := 8) (by decide) (by omega) c122; omega
              rw [hk9] at i7_loop2
              refine lv_aload_n hx hb dX6_init_141 rfl (lv_at hl 0 rfl) ?_
              refine gf_X6_36 X hw (i0_loop2) rfl dX6_init_142 ?_
              refine lv_iconst (v := 0) hx hb dX6_init_145 (by decide) ?_
              refine pf_X6_73 X hw (i5_loop2) (Nat.le_of_ble_eq_true rfl) dX6_init_146 (fun H9 locs9 hw => ?_)
              obtain ⟨M_27, eM_27⟩ : ∃ z, z = mm_up M1 (q_13) (.inr (2, [.int 0, .ref b1, .ref b2, .int 0, .int 0])) := ⟨_, rfl⟩
              have hw : mm_W G.1 vwCl (ct_A M s.heap.size) s.heap M_27 H9 locs9 := by rw [eM_27]; exact hw
              have f0_M_27 : M_27 (a) = some (.inr (6, [.ref q_1, .ref q_4, .ref q_7, .ref q_10, .ref q_13, .ref q_17, .int 1, .int 0, .int 0, .int 0, .int 0, .int 0])) := by rw [eM_27, mm_up_n _ _ (dq_13_0)]; exact i0_loop2
              have f1_M_27 : M_27 (q_1) = some (aQ G 3 10 (fun _ => none)) := by rw [eM_27, mm_up_n _ _ (dq_13_1)]; exact i1_loop2
              have f2_M_27 : M_27 (q_4) = some (aQ G 4 12 (fun _ => none)) := by rw [eM_27, mm_up_n _ _ (dq_13_2)]; exact i2_loop2
              have f3_M_27 : M_27 (q_7) = some (aQ G 5 12 (fun _ => none)) := by rw [eM_27, mm_up_n _ _ (dq_13_3)]; exact i3_loop2
              have f4_M_27 : M_27 (q_10) = some (aQ G 6 64 (fun _ => none)) := by rw [eM_27, mm_up_n _ _ (dq_13_4)]; exact i4_loop2
              have f5_M_27 : M_27 (q_13) = some (.inr (2, [.int 0, .ref b1, .ref b2, .int 0, .int 0])) := by rw [eM_27]; exact mm_up_s _ _ _
              have f6_M_27 : M_27 (b1) = some (aI G 9 (rj (fun _ => 1) (fun _ => 0) 9)) := by rw [eM_27, mm_up_n _ _ (Ne.symm (e5_b1_N_15))]; exact i6_loop2
              have f7_M_27 : M_27 (b2) = some (aI G 8 (rj (fun _ => -1) (fun _ => 0) 8)) := by rw [eM_27, mm_up_n _ _ (Ne.symm (e5_b2_N_15))]; exact i7_loop2
              have f8_M_27 : M_27 (q_17) = some (.inr (4, [.ref d1, .ref d2, .int 0])) := by rw [eM_27, mm_up_n _ _ (Ne.symm (dq_17_5))]; exact i8_loop2
              have f9_M_27 : M_27 (d1) = some (aJ G 24 (fun _ => 0)) := by rw [eM_27, mm_up_n _ _ (Ne.symm (e5_d1_N_19))]; exact i9_loop2
              have f10_M_27 : M_27 (d2) = some (.inr (0, [.ref d3])) := by rw [eM_27, mm_up_n _ _ (Ne.symm (e5_d2_N_19))]; exact i10_loop2
              have f11_M_27 : M_27 (d3) = some (aJ G 4 (fun _ => 0)) := by rw [eM_27, mm_up_n _ _ (Ne.symm (e5_d3_N_19))]; exact i11_loop2
              have fr_M_27 : ∀ z, M z ≠ none → z ≠ a → M_27 z = M z := fun z h1 h2 => ((congrFun eM_27 z).trans (mm_up_n _ _ (fun e9 => h1 (by rw [e9]; exact n_q_13)))).trans (fr_loop2 z h1 h2)
              refine lv_aload_n hx hb dX6_init_149 rfl (lv_at hl 0 rfl) ?_
              refine gf_X6_36 X hw (f0_M_27) rfl dX6_init_150 ?_
              refine lv_iconst (v := 2) hx hb dX6_init_153 (by decide) ?_
              refine pf_X6_74 X hw (f5_M_27) (Nat.le_of_ble_eq_true rfl) dX6_init_154 (fun H9 locs9 hw => ?_)
              obtain ⟨M_28, eM_28⟩ : ∃ z, z = mm_up M_27 (q_13) (.inr (2, [.int 0, .ref b1, .ref b2, .int 0, .int 2])) := ⟨_, rfl⟩
              have hw : mm_W G.1 vwCl (ct_A M s.heap.size) s.heap M_28 H9 locs9 := by rw [eM_28]; exact hw
              have f0_M_28 : M_28 (a) = some (.inr (6, [.ref q_1, .ref q_4, .ref q_7, .ref q_10, .ref q_13, .ref q_17, .int 1, .int 0, .int 0, .int 0, .int 0, .int 0])) := by rw [eM_28, mm_up_n _ _ (dq_13_0)]; exact f0_M_27
              have f1_M_28 : M_28 (q_1) = some (aQ G 3 10 (fun _ => none)) := by rw [eM_28, mm_up_n _ _ (dq_13_1)]; exact f1_M_27
              have f2_M_28 : M_28 (q_4) = some (aQ G 4 12 (fun _ => none)) := by rw [eM_28, mm_up_n _ _ (dq_13_2)]; exact f2_M_27
              have f3_M_28 : M_28 (q_7) = some (aQ G 5 12 (fun _ => none)) := by rw [eM_28, mm_up_n _ _ (dq_13_3)]; exact f3_M_27
              have f4_M_28 : M_28 (q_10) = some (aQ G 6 64 (fun _ => none)) := by rw [eM_28, mm_up_n _ _ (dq_13_4)]; exact f4_M_27
              have f5_M_28 : M_28 (q_13) = some (.inr (2, [.int 0, .ref b1, .ref b2, .int 0, .int 2])) := by rw [eM_28]; exact mm_up_s _ _ _
              have f6_M_28 : M_28 (b1) = some (aI G 9 (rj (fun _ => 1) (fun _ => 0) 9)) := by rw [eM_28, mm_up_n _ _ (Ne.symm (e5_b1_N_15))]; exact f6_M_27
              have f7_M_28 : M_28 (b2) = some (aI G 8 (rj (fun _ => -1) (fun _ => 0) 8)) := by rw [eM_28, mm_up_n _ _ (Ne.symm (e5_b2_N_15))]; exact f7_M_27
              have f8_M_28 : M_28 (q_17) = some (.inr (4, [.ref d1, .ref d2, .int 0])) := by rw [eM_28, mm_up_n _ _ (Ne.symm (dq_17_5))]; exact f8_M_27
              have f9_M_28 : M_28 (d1) = some (aJ G 24 (fun _ => 0)) := by rw [eM_28, mm_up_n _ _ (Ne.symm (e5_d1_N_19))]; exact f9_M_27
              have f10_M_28 : M_28 (d2) = some (.inr (0, [.ref d3])) := by rw [eM_28, mm_up_n _ _ (Ne.symm (e5_d2_N_19))]; exact f10_M_27
              have f11_M_28 : M_28 (d3) = some (aJ G 4 (fun _ => 0)) := by rw [eM_28, mm_up_n _ _ (Ne.symm (e5_d3_N_19))]; exact f11_M_27
              have fr_M_28 : ∀ z, M z ≠ none → z ≠ a → M_28 z = M z := fun z h1 h2 => ((congrFun eM_28 z).trans (mm_up_n _ _ (fun e9 => h1 (by rw [e9]; exact n_q_13)))).trans (fr_M_27 z h1 h2)
              refine lv_aload_n hx hb dX6_init_157 rfl (lv_at hl 0 rfl) ?_
              refine gf_X6_11 X hw (f0_M_28) rfl dX6_init_158 ?_
              refine lv_iconst (v := 0) hx hb dX6_init_161 (by decide) ?_
              refine lv_aload_n hx hb dX6_init_162 rfl (lv_at hl 0 rfl) ?_
              refine gf_X6_36 X hw (f0_M_28) rfl dX6_init_163 ?_
              refine mi_aast X hw 3 2 (f1_M_28) rfl (f5_M_28) rfl (0) (rfl) (by decide) (by decide) dX6_init_166 (fun H9 locs9 hw => ?_)
              obtain ⟨M_29, eM_29⟩ : ∃ z, z = mm_up M_28 (q_1) (aQ G 3 10 (va_up (fun _ => none) (0) (some (q_13)))) := ⟨_, rfl⟩
              have hw : mm_W G.1 vwCl (ct_A M s.heap.size) s.heap M_29 H9 locs9 := by rw [eM_29]; exact hw
              have f0_M_29 : M_29 (a) = some (.inr (6, [.ref q_1, .ref q_4, .ref q_7, .ref q_10, .ref q_13, .ref q_17, .int 1, .int 0, .int 0, .int 0, .int 0, .int 0])) := by rw [eM_29, mm_up_n _ _ (dq_1_0)]; exact f0_M_28
              have f1_M_29 : M_29 (q_1) = some (aQ G 3 10 (va_up (fun _ => none) (0) (some (q_13)))) := by rw [eM_29]; exact mm_up_s _ _ _
              have f2_M_29 : M_29 (q_4) = some (aQ G 4 12 (fun _ => none)) := by rw [eM_29, mm_up_n _ _ (Ne.symm (dq_4_1))]; exact f2_M_28
              have f3_M_29 : M_29 (q_7) = some (aQ G 5 12 (fun _ => none)) := by rw [eM_29, mm_up_n _ _ (Ne.symm (dq_7_1))]; exact f3_M_28
              have f4_M_29 : M_29 (q_10) = some (aQ G 6 64 (fun _ => none)) := by rw [eM_29, mm_up_n _ _ (Ne.symm (dq_10_1))]; exact f4_M_28
              have f5_M_29 : M_29 (q_13) = some (.inr (2, [.int 0, .ref b1, .ref b2, .int 0, .int 2])) := by rw [eM_29, mm_up_n _ _ (Ne.symm (dq_13_1))]; exact f5_M_28
              have f6_M_29 : M_29 (b1) = some (aI G 9 (rj (fun _ => 1) (fun _ => 0) 9)) := by rw [eM_29, mm_up_n _ _ (Ne.symm (e1_b1_N_15))]; exact f6_M_28
              have f7_M_29 : M_29 (b2) = some (aI G 8 (rj (fun _ => -1) (fun _ => 0) 8)) := by rw [eM_29, mm_up_n _ _ (Ne.symm (e1_b2_N_15))]; exact f7_M_28
              have f8_M_29 : M_29 (q_17) = some (.inr (4, [.ref d1, .ref d2, .int 0])) := by rw [eM_29, mm_up_n _ _ (Ne.symm (dq_17_1))]; exact f8_M_28
              have f9_M_29 : M_29 (d1) = some (aJ G 24 (fun _ => 0)) := by rw [eM_29, mm_up_n _ _ (Ne.symm (e1_d1_N_19))]; exact f9_M_28
              have f10_M_29 : M_29 (d2) = some (.inr (0, [.ref d3])) := by rw [eM_29, mm_up_n _ _ (Ne.symm (e1_d2_N_19))]; exact f10_M_28
              have f11_M_29 : M_29 (d3) = some (aJ G 4 (fun _ => 0)) := by rw [eM_29, mm_up_n _ _ (Ne.symm (e1_d3_N_19))]; exact f11_M_28
              have fr_M_29 : ∀ z, M z ≠ none → z ≠ a → M_29 z = M z := fun z h1 h2 => ((congrFun eM_29 z).trans (mm_up_n _ _ (fun e9 => h1 (by rw [e9]; exact n_q_1)))).trans (fr_M_28 z h1 h2)
              exact mm_vret hQ X hw (⟨rfl, L_0 [a, q_1, q_4, q_7, q_10, q_17, d1, d2, d3, q_13, b1, b2], J_0, rfl, rfl, EV.start (nd_12 (dq_1_0) (dq_4_0) (dq_7_0) (dq_10_0) (dq_17_0) (e0_d1_N_19) (e0_d2_N_19) (e0_d3_N_19) (dq_13_0) (e0_b1_N_15) (e0_b2_N_15) (dq_4_1) (dq_7_1) (dq_10_1) (dq_17_1) (e1_d1_N_19) (e1_d2_N_19) (e1_d3_N_19) (dq_13_1) (e1_b1_N_15) (e1_b2_N_15) (dq_7_2) (dq_10_2) (dq_17_2) (e2_d1_N_19) (e2_d2_N_19) (e2_d3_N_19) (dq_13_2) (e2_b1_N_15) (e2_b2_N_15) (dq_10_3) (dq_17_3) (e3_d1_N_19) (e3_d2_N_19) (e3_d3_N_19) (dq_13_3) (e3_b1_N_15) (e3_b2_N_15) (dq_17_4) (e4_d1_N_19) (e4_d2_N_19) (e4_d3_N_19) (dq_13_4) (e4_b1_N_15) (e4_b2_N_15) (e8_d1_N_19) (e8_d2_N_19) (e8_d3_N_19) (Ne.symm dq_17_5) (Ne.symm dq_17_6) (Ne.symm dq_17_7) ((fun z9 => absurd hnd2 (by simp [z9]))) ((fun z9 => absurd hnd2 (by simp [z9]))) (Ne.symm e5_d1_N_19) (Ne.symm e6_d1_N_19) (Ne.symm e7_d1_N_19) ((fun z9 => absurd hnd2 (by simp [z9]))) (Ne.symm e5_d2_N_19) (Ne.symm e6_d2_N_19) (Ne.symm e7_d2_N_19) (Ne.symm e5_d3_N_19) (Ne.symm e6_d3_N_19) (Ne.symm e7_d3_N_19) (e5_b1_N_15) (e5_b2_N_15) ((fun z9 => absurd hnd (by simp [z9])))) f0_M_29 f1_M_29 f2_M_29 f3_M_29 f4_M_29 f8_M_29 f9_M_29 f10_M_29 f11_M_29 f5_M_29 f6_M_29 f7_M_29⟩) (Nat.le_of_ble_eq_true rfl) (Nat.le_of_ble_eq_true rfl) dX6_init_167
            · have hk9 : k < 8 := nnle (a := 8) (by decide) (by omega) c122
              refine lv_aload_n hx hb dX6_init_125 rfl (lv_at hl 0 rfl) ?_
              refine gf_X6_36 X hw (i0_loop2) rfl dX6_init_126 ?_
              refine gf_X6_70 X hw (i5_loop2) rfl dX6_init_129 ?_
              refine lv_iload_n hx hb dX6_init_132 rfl (lv_at hl 1 rfl) ?_
              refine lv_iconst (v := (-1)) hx hb dX6_init_133 (by decide) ?_
              refine mi_iast X hw (i7_loop2) (k) (rfl) (hk9) (by decide) dX6_init_134 (fun H9 locs9 hw => ?_)
              obtain ⟨M_30, eM_30⟩ : ∃ z, z = mm_up M1 (b2) (aI G 8 (upd (rj (fun _ => -1) (fun _ => 0) k) (k) ((-1)))) := ⟨_, rfl⟩
              have hw : mm_W G.1 vwCl (ct_A M s.heap.size) s.heap M_30 H9 locs9 := by rw [eM_30]; exact hw
              have f0_M_30 : M_30 (a) = some (.inr (6, [.ref q_1, .ref q_4, .ref q_7, .ref q_10, .ref q_13, .ref q_17, .int 1, .int 0, .int 0, .int 0, .int 0, .int 0])) := by rw [eM_30, mm_up_n _ _ (e0_b2_N_15)]; exact i0_loop2
              have f1_M_30 : M_30 (q_1) = some (aQ G 3 10 (fun _ => none)) := by rw [eM_30, mm_up_n _ _ (e1_b2_N_15)]; exact i1_loop2
              have f2_M_30 : M_30 (q_4) = some (aQ G 4 12 (fun _ => none)) := by rw [eM_30, mm_up_n _ _ (e2_b2_N_15)]; exact i2_loop2
              have f3_M_30 : M_30 (q_7) = some (aQ G 5 12 (fun _ => none)) := by rw [eM_30, mm_up_n _ _ (e3_b2_N_15)]; exact i3_loop2
              have f4_M_30 : M_30 (q_10) = some (aQ G 6 64 (fun _ => none)) := by rw [eM_30, mm_up_n _ _ (e4_b2_N_15)]; exact i4_loop2
              have f5_M_30 : M_30 (q_13) = some (.inr (2, [.int 0, .ref b1, .ref b2, .int ((-1)), .int 0])) := by rw [eM_30, mm_up_n _ _ (e5_b2_N_15)]; exact i5_loop2
              have f6_M_30 : M_30 (b1) = some (aI G 9 (rj (fun _ => 1) (fun _ => 0) 9)) := by rw [eM_30, mm_up_n _ _ ((fun z9 => absurd hnd (by simp [z9])))]; exact i6_loop2
              have f7_M_30 : M_30 (b2) = some (aI G 8 (upd (rj (fun _ => -1) (fun _ => 0) k) (k) ((-1)))) := by rw [eM_30]; exact mm_up_s _ _ _
              have f8_M_30 : M_30 (q_17) = some (.inr (4, [.ref d1, .ref d2, .int 0])) := by rw [eM_30, mm_up_n _ _ (Ne.symm (dq_17_7))]; exact i8_loop2
              have f9_M_30 : M_30 (d1) = some (aJ G 24 (fun _ => 0)) := by rw [eM_30, mm_up_n _ _ (Ne.symm (e7_d1_N_19))]; exact i9_loop2
              have f10_M_30 : M_30 (d2) = some (.inr (0, [.ref d3])) := by rw [eM_30, mm_up_n _ _ (Ne.symm (e7_d2_N_19))]; exact i10_loop2
              have f11_M_30 : M_30 (d3) = some (aJ G 4 (fun _ => 0)) := by rw [eM_30, mm_up_n _ _ (Ne.symm (e7_d3_N_19))]; exact i11_loop2
              have fr_M_30 : ∀ z, M z ≠ none → z ≠ a → M_30 z = M z := fun z h1 h2 => ((congrFun eM_30 z).trans (mm_up_n _ _ (fun e9 => h1 (by rw [e9]; exact n_b2)))).trans (fr_loop2 z h1 h2)
              refine lv_iinc (v := nI (k + 1)) (lv' := [(1, .int (nI (k + 1))), (0, .ref a)]) hx hb dX6_init_135 hl (k := 1) rfl (nI_s k) (by decide) rfl (fun ls hl => ?_)
              refine lv_goto (tgt := 119) hx hb dX6_init_138 (by decide) ?_
              exact ih (k + 1) _ _ _ _ (by omega) (by omega) f0_M_30 f1_M_30 f2_M_30 f3_M_30 f4_M_30 f5_M_30 f6_M_30 (by have h9 := f7_M_30; rw [rj_s (fun _ => -1)] at h9; exact h9) f8_M_30 f9_M_30 f10_M_30 f11_M_30 fr_M_30 hw (lv_sub hl [1, 0] rfl)
        exact loop2 9 0 _ _ _ _ (by omega) (by omega) i0_loop1 i1_loop1 i2_loop1 i3_loop1 i4_loop1 i5_loop1 i6_loop1 (by have h9 := i7_loop1; rw [← rj_0 (fun _ => -1) (fun _ => 0)] at h9; exact h9) i8_loop1 i9_loop1 i10_loop1 i11_loop1 fr_loop1 hw (lv_sub hl [1, 0] rfl)
      · have hk9 : k < 9 := nnle (a := 9) (by decide) (by omega) c98
        refine lv_aload_n hx hb dX6_init_101 rfl (lv_at hl 0 rfl) ?_
        refine gf_X6_36 X hw (i0_loop1) rfl dX6_init_102 ?_
        refine gf_X6_66 X hw (i5_loop1) rfl dX6_init_105 ?_
        refine lv_iload_n hx hb dX6_init_108 rfl (lv_at hl 1 rfl) ?_
        refine lv_iconst (v := 1) hx hb dX6_init_109 (by decide) ?_
        refine mi_iast X hw (i6_loop1) (k) (rfl) (hk9) (by decide) dX6_init_110 (fun H9 locs9 hw => ?_)
        obtain ⟨M_31, eM_31⟩ : ∃ z, z = mm_up M1 (b1) (aI G 9 (upd (rj (fun _ => 1) (fun _ => 0) k) (k) (1))) := ⟨_, rfl⟩
        have hw : mm_W G.1 vwCl (ct_A M s.heap.size) s.heap M_31 H9 locs9 := by rw [eM_31]; exact hw
        have f0_M_31 : M_31 (a) = some (.inr (6, [.ref q_1, .ref q_4, .ref q_7, .ref q_10, .ref q_13, .ref q_17, .int 1, .int 0, .int 0, .int 0, .int 0, .int 0])) := by rw [eM_31, mm_up_n _ _ (e0_b1_N_15)]; exact i0_loop1
        have f1_M_31 : M_31 (q_1) = some (aQ G 3 10 (fun _ => none)) := by rw [eM_31, mm_up_n _ _ (e1_b1_N_15)]; exact i1_loop1
        have f2_M_31 : M_31 (q_4) = some (aQ G 4 12 (fun _ => none)) := by rw [eM_31, mm_up_n _ _ (e2_b1_N_15)]; exact i2_loop1
        have f3_M_31 : M_31 (q_7) = some (aQ G 5 12 (fun _ => none)) := by rw [eM_31, mm_up_n _ _ (e3_b1_N_15)]; exact i3_loop1
        have f4_M_31 : M_31 (q_10) = some (aQ G 6 64 (fun _ => none)) := by rw [eM_31, mm_up_n _ _ (e4_b1_N_15)]; exact i4_loop1
        have f5_M_31 : M_31 (q_13) = some (.inr (2, [.int 0, .ref b1, .ref b2, .int ((-1)), .int 0])) := by rw [eM_31, mm_up_n _ _ (e5_b1_N_15)]; exact i5_loop1
        have f6_M_31 : M_31 (b1) = some (aI G 9 (upd (rj (fun _ => 1) (fun _ => 0) k) (k) (1))) := by rw [eM_31]; exact mm_up_s _ _ _
        have f7_M_31 : M_31 (b2) = some (aI G 8 (fun _ => 0)) := by rw [eM_31, mm_up_n _ _ (Ne.symm ((fun z9 => absurd hnd (by simp [z9]))))]; exact i7_loop1
        have f8_M_31 : M_31 (q_17) = some (.inr (4, [.ref d1, .ref d2, .int 0])) := by rw [eM_31, mm_up_n _ _ (Ne.symm (dq_17_6))]; exact i8_loop1
        have f9_M_31 : M_31 (d1) = some (aJ G 24 (fun _ => 0)) := by rw [eM_31, mm_up_n _ _ (Ne.symm (e6_d1_N_19))]; exact i9_loop1
        have f10_M_31 : M_31 (d2) = some (.inr (0, [.ref d3])) := by rw [eM_31, mm_up_n _ _ (Ne.symm (e6_d2_N_19))]; exact i10_loop1
        have f11_M_31 : M_31 (d3) = some (aJ G 4 (fun _ => 0)) := by rw [eM_31, mm_up_n _ _ (Ne.symm (e6_d3_N_19))]; exact i11_loop1
        have fr_M_31 : ∀ z, M z ≠ none → z ≠ a → M_31 z = M z := fun z h1 h2 => ((congrFun eM_31 z).trans (mm_up_n _ _ (fun e9 => h1 (by rw [e9]; exact n_b1)))).trans (fr_loop1 z h1 h2)
        refine lv_iinc (v := nI (k + 1)) (lv' := [(1, .int (nI (k + 1))), (0, .ref a)]) hx hb dX6_init_111 hl (k := 1) rfl (nI_s k) (by decide) rfl (fun ls hl => ?_)
        refine lv_goto (tgt := 95) hx hb dX6_init_114 (by decide) ?_
        exact ih (k + 1) _ _ _ _ (by omega) (by omega) f0_M_31 f1_M_31 f2_M_31 f3_M_31 f4_M_31 f5_M_31 (by have h9 := f6_M_31; rw [rj_s (fun _ => 1)] at h9; exact h9) f7_M_31 f8_M_31 f9_M_31 f10_M_31 f11_M_31 fr_M_31 hw (lv_sub hl [1, 0] rfl)
  exact loop1 10 0 _ _ _ _ (by omega) (by omega) f0_M_26 f1_M_26 f2_M_26 f3_M_26 f4_M_26 f5_M_26 (by have h9 := f6_M_26; rw [← rj_0 (fun _ => 1) (fun _ => 0)] at h9; exact h9) f7_M_26 f8_M_26 f9_M_26 f10_M_26 f11_M_26 fr_M_26 hw (lv_sub hl [1, 0] rfl)
