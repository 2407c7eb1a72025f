theorem nd_3 {b0 b1 b2 : Nat} (h0_1 : b0 ≠ b1) (h0_2 : b0 ≠ b2) (h1_2 : b1 ≠ b2) : [b0, b1, b2].Nodup := by simp [h0_1, h0_2, h1_2]
theorem nd_4 {b0 b1 b2 b3 : Nat} (h0_1 : b0 ≠ b1) (h0_2 : b0 ≠ b2) (h0_3 : b0 ≠ b3) (h1_2 : b1 ≠ b2) (h1_3 : b1 ≠ b3) (h2_3 : b2 ≠ b3) : [b0, b1, b2, b3].Nodup := by simp [h0_1, h0_2, h0_3, h1_2, h1_3, h2_3]
theorem nd_7 {b0 b1 b2 b3 b4 b5 b6 : Nat} (h0_1 : b0 ≠ b1) (h0_2 : b0 ≠ b2) (h0_3 : b0 ≠ b3) (h0_4 : b0 ≠ b4) (h0_5 : b0 ≠ b5) (h0_6 : b0 ≠ b6) (h1_2 : b1 ≠ b2) (h1_3 : b1 ≠ b3) (h1_4 : b1 ≠ b4) (h1_5 : b1 ≠ b5) (h1_6 : b1 ≠ b6) (h2_3 : b2 ≠ b3) (h2_4 : b2 ≠ b4) (h2_5 : b2 ≠ b5) (h2_6 : b2 ≠ b6) (h3_4 : b3 ≠ b4) (h3_5 : b3 ≠ b5) (h3_6 : b3 ≠ b6) (h4_5 : b4 ≠ b5) (h4_6 : b4 ≠ b6) (h5_6 : b5 ≠ b6) : [b0, b1, b2, b3, b4, b5, b6].Nodup := by simp [h0_1, h0_2, h0_3, h0_4, h0_5, h0_6, h1_2, h1_3, h1_4, h1_5, h1_6, h2_3, h2_4, h2_5, h2_6, h3_4, h3_5, h3_6, h4_5, h4_6, h5_6]
set_option maxHeartbeats 4000000 in
set_option maxRecDepth 100000 in
theorem c_cellsInit (l : Launch) (G : mG) (M : mM) (a : Nat) (h0 : M (a) = some (.inr (0, [.null]))) : Ct l yX0_init cX0_init 1 none (mm_r 1 1 4) G [.ref a] M (fun r M1 => r = none ∧ ∃ b, M b = none ∧ M1 a = some (oCe b) ∧ M1 b = some (aJ G 4 (fun _ => 0)) ∧ (∀ z, M z ≠ none → z ≠ a → M1 z = M z)) := by
  refine Ct.of (by decide) (Nat.le_of_ble_eq_true rfl) ?_
  intro p e s m args below meth c ls Q X hin hl hw hQ
  have hx := X.1
  have hb := X.2.1
  have hl : lv_has ls 1 [(0, .ref a)] := hl
  have fr_0 : ∀ z, M z ≠ none → z ≠ a → M z = M z := fun _ _ _ => rfl
  refine lv_aload_n hx hb dX0_init_0 rfl (lv_at hl 0 rfl) ?_
  refine W.objInit hx hb X.2.2.2.1 (X.2.2.2.2.1 _ ml_X0_3) (X.2.2.2.2.1 _ im_objectInit) (X.2.2.2.2.1 _ co_objectInit) rfl (by rw [X.2.2.1]; exact hl.1) rfl dX0_init_1 (Nat.le_of_ble_eq_true rfl) (Nat.le_of_ble_eq_true rfl) ?_
  refine W.eq (g2 := F0 m 4 ls []) rfl ?_
  refine lv_aload_n hx hb dX0_init_4 rfl (lv_at hl 0 rfl) ?_
  refine lv_iconst (v := 4) hx hb dX0_init_5 (by decide) ?_
  refine nw_J X hw 4 rfl (by decide) (Nat.le_of_ble_eq_true rfl) (Nat.le_of_ble_eq_true rfl) dX0_init_6 (fun q_1 H9 hq_1 hw => ?_)
  have n_q_1 : M q_1 = none := Classical.byContradiction (fun h9 => h9 ((fr_0 q_1 h9 (Ne.symm (ne_new (h0) hq_1))).symm.trans hq_1))
  obtain ⟨M_2, eM_2⟩ : ∃ z, z = mm_up M q_1 (aJ G 4 (fun _ => 0)) := ⟨_, rfl⟩
  rw [← eM_2] at hw
  have dq_1_0 : a ≠ q_1 := ne_new (h0) hq_1
  have f0_M_2 : M_2 (a) = some (.inr (0, [.null])) := by rw [eM_2, mm_up_n _ _ dq_1_0]; exact h0
  have fq_1 : M_2 q_1 = some (aJ G 4 (fun _ => 0)) := by rw [eM_2]; exact mm_up_s _ _ _
  have fr_M_2 : ∀ z, M z ≠ none → z ≠ a → M_2 z = M z := fun z h1 h2 => ((congrFun eM_2 z).trans (mm_up_n _ _ (fun e9 => h1 (by rw [e9]; exact n_q_1)))).trans (fr_0 z h1 h2)
  refine W.eq (g2 := F0 m 8 ls [.ref q_1, .ref a]) rfl ?_
  refine pf_X0_9 X hin hw (f0_M_2) (Nat.le_of_ble_eq_true rfl) dX0_init_8 (fun H9 locs9 hw => ?_)
  obtain ⟨M_3, eM_3⟩ : ∃ z, z = mm_up M_2 (a) (.inr (0, [.ref q_1])) := ⟨_, rfl⟩
  have hw : mm_W G.1 vwCl (ct_A M s.heap.size) s.heap M_3 H9 locs9 := by rw [eM_3]; exact hw
  have f0_M_3 : M_3 (a) = some (.inr (0, [.ref q_1])) := by rw [eM_3]; exact mm_up_s _ _ _
  have f1_M_3 : M_3 (q_1) = some (aJ G 4 (fun _ => 0)) := by rw [eM_3, mm_up_n _ _ (Ne.symm (dq_1_0))]; exact fq_1
  have fr_M_3 : ∀ z, M z ≠ none → z ≠ a → M_3 z = M z := fun z h1 h2 => ((congrFun eM_3 z).trans (mm_up_n _ _ (h2))).trans (fr_M_2 z h1 h2)
  exact mm_vret hQ X hw (⟨rfl, q_1, n_q_1, f0_M_3, f1_M_3, fr_M_3⟩) (Nat.le_of_ble_eq_true rfl) (Nat.le_of_ble_eq_true rfl) dX0_init_11
set_option maxHeartbeats 4000000 in
set_option maxRecDepth 100000 in
theorem c_contractInit (l : Launch) (G : mG) (M : mM) (a : Nat) (h0 : M (a) = some (.inr (1, [.null, .null, .null, .null, .int 0, .null]))) : Ct l yX1_init cX1_init 1 none (mm_r 2 6 58) G [.ref a] M (fun r M1 => r = none ∧ ∃ b1 b2 b3 b4 b5 b6, [a, b1, b2, b3, b4, b5, b6].Nodup ∧ (M b1 = none ∧ M b2 = none ∧ M b3 = none ∧ M b4 = none ∧ M b5 = none ∧ M b6 = none) ∧ M1 a = some (oCo b1 b2 b3 b5 0 none) ∧ M1 b1 = some (aI G 24 (fun _ => 0)) ∧ M1 b2 = some (aI G 24 (fun _ => 0)) ∧ M1 b3 = some (oCe b4) ∧ M1 b4 = some (aJ G 4 (fun _ => 0)) ∧ M1 b5 = some (oCe b6) ∧ M1 b6 = some (aJ G 4 (fun _ => 0)) ∧ (∀ z, M z ≠ none → z ≠ a → M1 z = M z)) := by
  refine Ct.of (by decide) (Nat.le_of_ble_eq_true rfl) ?_
  intro p e s m args below meth c ls Q X hin hl hw hQ
  have hx := X.1
  have hb := X.2.1
  have hl : lv_has ls 1 [(0, .ref a)] := hl
  have fr_0 : ∀ z, M z ≠ none → z ≠ a → M z = M z := fun _ _ _ => rfl
  refine lv_aload_n hx hb dX1_init_0 rfl (lv_at hl 0 rfl) ?_
  refine W.objInit hx hb X.2.2.2.1 (X.2.2.2.2.1 _ ml_X1_3) (X.2.2.2.2.1 _ im_objectInit) (X.2.2.2.2.1 _ co_objectInit) rfl (by rw [X.2.2.1]; exact hl.1) rfl dX1_init_1 (Nat.le_of_ble_eq_true rfl) (Nat.le_of_ble_eq_true rfl) ?_
  refine W.eq (g2 := F0 m 4 ls []) rfl ?_
  refine lv_aload_n hx hb dX1_init_4 rfl (lv_at hl 0 rfl) ?_
  refine lv_bipush (v := 24) hx hb dX1_init_5 (by decide) ?_
  refine nw_I X hw 24 rfl (by decide) (Nat.le_of_ble_eq_true rfl) (Nat.le_of_ble_eq_true rfl) dX1_init_7 (fun q_1 H9 hq_1 hw => ?_)
  have n_q_1 : M q_1 = none := Classical.byContradiction (fun h9 => h9 ((fr_0 q_1 h9 (Ne.symm (ne_new (h0) hq_1))).symm.trans hq_1))
  obtain ⟨M_2, eM_2⟩ : ∃ z, z = mm_up M q_1 (aI G 24 (fun _ => 0)) := ⟨_, rfl⟩
  rw [← eM_2] at hw
  have dq_1_0 : a ≠ q_1 := ne_new (h0) hq_1
  have f0_M_2 : M_2 (a) = some (.inr (1, [.null, .null, .null, .null, .int 0, .null])) := by rw [eM_2, mm_up_n _ _ dq_1_0]; exact h0
  have fq_1 : M_2 q_1 = some (aI G 24 (fun _ => 0)) := by rw [eM_2]; exact mm_up_s _ _ _
  have fr_M_2 : ∀ z, M z ≠ none → z ≠ a → M_2 z = M z := fun z h1 h2 => ((congrFun eM_2 z).trans (mm_up_n _ _ (fun e9 => h1 (by rw [e9]; exact n_q_1)))).trans (fr_0 z h1 h2)
  refine W.eq (g2 := F0 m 9 ls [.ref q_1, .ref a]) rfl ?_
  refine pf_X1_9 X hin hw (f0_M_2) (Nat.le_of_ble_eq_true rfl) dX1_init_9 (fun H9 locs9 hw => ?_)
  obtain ⟨M_3, eM_3⟩ : ∃ z, z = mm_up M_2 (a) (.inr (1, [.ref q_1, .null, .null, .null, .int 0, .null])) := ⟨_, rfl⟩
  have hw : mm_W G.1 vwCl (ct_A M s.heap.size) s.heap M_3 H9 locs9 := by rw [eM_3]; exact hw
  have f0_M_3 : M_3 (a) = some (.inr (1, [.ref q_1, .null, .null, .null, .int 0, .null])) := by rw [eM_3]; exact mm_up_s _ _ _
  have f1_M_3 : M_3 (q_1) = some (aI G 24 (fun _ => 0)) := by rw [eM_3, mm_up_n _ _ (Ne.symm (dq_1_0))]; exact fq_1
  have fr_M_3 : ∀ z, M z ≠ none → z ≠ a → M_3 z = M z := fun z h1 h2 => ((congrFun eM_3 z).trans (mm_up_n _ _ (h2))).trans (fr_M_2 z h1 h2)
  refine lv_aload_n hx hb dX1_init_12 rfl (lv_at hl 0 rfl) ?_
  refine lv_bipush (v := 24) hx hb dX1_init_13 (by decide) ?_
  refine nw_I X hw 24 rfl (by decide) (Nat.le_of_ble_eq_true rfl) (Nat.le_of_ble_eq_true rfl) dX1_init_15 (fun q_4 H9 hq_4 hw => ?_)
  have n_q_4 : M q_4 = none := Classical.byContradiction (fun h9 => h9 ((fr_M_3 q_4 h9 (Ne.symm (ne_new (f0_M_3) hq_4))).symm.trans hq_4))
  obtain ⟨M_5, eM_5⟩ : ∃ z, z = mm_up M_3 q_4 (aI G 24 (fun _ => 0)) := ⟨_, rfl⟩
  rw [← eM_5] at hw
  have dq_4_0 : a ≠ q_4 := ne_new (f0_M_3) hq_4
  have f0_M_5 : M_5 (a) = some (.inr (1, [.ref q_1, .null, .null, .null, .int 0, .null])) := by rw [eM_5, mm_up_n _ _ dq_4_0]; exact f0_M_3
  have dq_4_1 : q_1 ≠ q_4 := ne_new (f1_M_3) hq_4
  have f1_M_5 : M_5 (q_1) = some (aI G 24 (fun _ => 0)) := by rw [eM_5, mm_up_n _ _ dq_4_1]; exact f1_M_3
  have fq_4 : M_5 q_4 = some (aI G 24 (fun _ => 0)) := by rw [eM_5]; exact mm_up_s _ _ _
  have fr_M_5 : ∀ z, M z ≠ none → z ≠ a → M_5 z = M z := fun z h1 h2 => ((congrFun eM_5 z).trans (mm_up_n _ _ (fun e9 => h1 (by rw [e9]; exact n_q_4)))).trans (fr_M_3 z h1 h2)
  refine W.eq (g2 := F0 m 17 ls [.ref q_4, .ref a]) rfl ?_
  refine pf_X1_15 X hin hw (f0_M_5) (Nat.le_of_ble_eq_true rfl) dX1_init_17 (fun H9 locs9 hw => ?_)
  obtain ⟨M_6, eM_6⟩ : ∃ z, z = mm_up M_5 (a) (.inr (1, [.ref q_1, .ref q_4, .null, .null, .int 0, .null])) := ⟨_, rfl⟩
  have hw : mm_W G.1 vwCl (ct_A M s.heap.size) s.heap M_6 H9 locs9 := by rw [eM_6]; exact hw
  have f0_M_6 : M_6 (a) = some (.inr (1, [.ref q_1, .ref q_4, .null, .null, .int 0, .null])) := by rw [eM_6]; exact mm_up_s _ _ _
  have f1_M_6 : M_6 (q_1) = some (aI G 24 (fun _ => 0)) := by rw [eM_6, mm_up_n _ _ (Ne.symm (dq_1_0))]; exact f1_M_5
  have f2_M_6 : M_6 (q_4) = some (aI G 24 (fun _ => 0)) := by rw [eM_6, mm_up_n _ _ (Ne.symm (dq_4_0))]; exact fq_4
  have fr_M_6 : ∀ z, M z ≠ none → z ≠ a → M_6 z = M z := fun z h1 h2 => ((congrFun eM_6 z).trans (mm_up_n _ _ (h2))).trans (fr_M_5 z h1 h2)
  refine lv_aload_n hx hb dX1_init_20 rfl (lv_at hl 0 rfl) ?_
  refine nw_X0 X hw cl_X1_18 (Nat.le_of_ble_eq_true rfl) (Nat.le_of_ble_eq_true rfl) dX1_init_21 (fun q_7 H9 hq_7 hw => ?_)
  have n_q_7 : M q_7 = none := Classical.byContradiction (fun h9 => h9 ((fr_M_6 q_7 h9 (Ne.symm (ne_new (f0_M_6) hq_7))).symm.trans hq_7))
  obtain ⟨M_8, eM_8⟩ : ∃ z, z = mm_up M_6 q_7 (.inr (0, [.null])) := ⟨_, rfl⟩
  rw [← eM_8] at hw
  have dq_7_0 : a ≠ q_7 := ne_new (f0_M_6) hq_7
  have f0_M_8 : M_8 (a) = some (.inr (1, [.ref q_1, .ref q_4, .null, .null, .int 0, .null])) := by rw [eM_8, mm_up_n _ _ dq_7_0]; exact f0_M_6
  have dq_7_1 : q_1 ≠ q_7 := ne_new (f1_M_6) hq_7
  have f1_M_8 : M_8 (q_1) = some (aI G 24 (fun _ => 0)) := by rw [eM_8, mm_up_n _ _ dq_7_1]; exact f1_M_6
  have dq_7_2 : q_4 ≠ q_7 := ne_new (f2_M_6) hq_7
  have f2_M_8 : M_8 (q_4) = some (aI G 24 (fun _ => 0)) := by rw [eM_8, mm_up_n _ _ dq_7_2]; exact f2_M_6
  have fq_7 : M_8 q_7 = some (.inr (0, [.null])) := by rw [eM_8]; exact mm_up_s _ _ _
  have fr_M_8 : ∀ z, M z ≠ none → z ≠ a → M_8 z = M z := fun z h1 h2 => ((congrFun eM_8 z).trans (mm_up_n _ _ (fun e9 => h1 (by rw [e9]; exact n_q_7)))).trans (fr_M_6 z h1 h2)
  refine W.eq (g2 := F0 m 24 ls [.ref q_7, .ref a]) rfl ?_
  refine lv_dup hx hb dX1_init_24 rfl ?_
  refine mm_callIN (As := []) (rest := [.ref q_7, .ref a]) X hw (c_cellsInit l G _ q_7 fq_7) wd_X1_20 ⟨Nat.le_of_ble_eq_true rfl, Nat.le_of_ble_eq_true rfl⟩ ⟨Nat.le_of_ble_eq_true rfl, Nat.le_of_ble_eq_true rfl⟩ rfl rfl (Nat.le_of_ble_eq_true rfl) hl.1 dX1_init_25 (fun v9 N_10 H9 locs9 hp9 hw => ?_)
  obtain ⟨rfl, b_9, nb_b_9, fa_b_9, fb_b_9, fr9_b_9⟩ := hp9
  refine W.eq (g2 := F0 m 28 ls [.ref q_7, .ref a]) rfl ?_
  have n_b_9 : M b_9 = none := Classical.byContradiction (fun h9 => h9 ((fr_M_8 b_9 h9 (Ne.symm (ne_new (f0_M_8) nb_b_9))).symm.trans nb_b_9))
  have e0_b_9_N_10 : a ≠ b_9 := ne_new (f0_M_8) nb_b_9
  have g1_N_10 : N_10 (a) = some (.inr (1, [.ref q_1, .ref q_4, .null, .null, .int 0, .null])) := (fr9_b_9 _ (sm_ne (f0_M_8)) (dq_7_0)).trans (f0_M_8)
  have e1_b_9_N_10 : q_1 ≠ b_9 := ne_new (f1_M_8) nb_b_9
  have g2_N_10 : N_10 (q_1) = some (aI G 24 (fun _ => 0)) := (fr9_b_9 _ (sm_ne (f1_M_8)) (dq_7_1)).trans (f1_M_8)
  have e2_b_9_N_10 : q_4 ≠ b_9 := ne_new (f2_M_8) nb_b_9
  have g3_N_10 : N_10 (q_4) = some (aI G 24 (fun _ => 0)) := (fr9_b_9 _ (sm_ne (f2_M_8)) (dq_7_2)).trans (f2_M_8)
  have e3_b_9_N_10 : q_7 ≠ b_9 := ne_new (fq_7) nb_b_9
  have fr_N_10 : ∀ z, M z ≠ none → z ≠ a → N_10 z = M z := fun z h1 h2 => (fr9_b_9 z (by rw [fr_M_8 z h1 h2]; exact h1) (fun e9 => h1 (by rw [e9]; exact n_q_7))).trans (fr_M_8 z h1 h2)
  refine pf_X1_21 X hin hw (g1_N_10) (Nat.le_of_ble_eq_true rfl) dX1_init_28 (fun H9 locs9 hw => ?_)
  obtain ⟨M_11, eM_11⟩ : ∃ z, z = mm_up N_10 (a) (.inr (1, [.ref q_1, .ref q_4, .ref q_7, .null, .int 0, .null])) := ⟨_, rfl⟩
  have hw : mm_W G.1 vwCl (ct_A M s.heap.size) s.heap M_11 H9 locs9 := by rw [eM_11]; exact hw
  have f0_M_11 : M_11 (a) = some (.inr (1, [.ref q_1, .ref q_4, .ref q_7, .null, .int 0, .null])) := by rw [eM_11]; exact mm_up_s _ _ _
  have f1_M_11 : M_11 (q_1) = some (aI G 24 (fun _ => 0)) := by rw [eM_11, mm_up_n _ _ (Ne.symm (dq_1_0))]; exact g2_N_10
  have f2_M_11 : M_11 (q_4) = some (aI G 24 (fun _ => 0)) := by rw [eM_11, mm_up_n _ _ (Ne.symm (dq_4_0))]; exact g3_N_10
  have f3_M_11 : M_11 (q_7) = some (.inr (0, [.ref b_9])) := by rw [eM_11, mm_up_n _ _ (Ne.symm (dq_7_0))]; exact fa_b_9
  have f4_M_11 : M_11 (b_9) = some (aJ G 4 (fun _ => 0)) := by rw [eM_11, mm_up_n _ _ (Ne.symm (e0_b_9_N_10))]; exact fb_b_9
  have fr_M_11 : ∀ z, M z ≠ none → z ≠ a → M_11 z = M z := fun z h1 h2 => ((congrFun eM_11 z).trans (mm_up_n _ _ (h2))).trans (fr_N_10 z h1 h2)
  refine lv_aload_n hx hb dX1_init_31 rfl (lv_at hl 0 rfl) ?_
  refine nw_X0 X hw cl_X1_18 (Nat.le_of_ble_eq_true rfl) (Nat.le_of_ble_eq_true rfl) dX1_init_32 (fun q_12 H9 hq_12 hw => ?_)
  have n_q_12 : M q_12 = none := Classical.byContradiction (fun h9 => h9 ((fr_M_11 q_12 h9 (Ne.symm (ne_new (f0_M_11) hq_12))).symm.trans hq_12))
  obtain ⟨M_13, eM_13⟩ : ∃ z, z = mm_up M_11 q_12 (.inr (0, [.null])) := ⟨_, rfl⟩
  rw [← eM_13] at hw
  have dq_12_0 : a ≠ q_12 := ne_new (f0_M_11) hq_12
  have f0_M_13 : M_13 (a) = some (.inr (1, [.ref q_1, .ref q_4, .ref q_7, .null, .int 0, .null])) := by rw [eM_13, mm_up_n _ _ dq_12_0]; exact f0_M_11
  have dq_12_1 : q_1 ≠ q_12 := ne_new (f1_M_11) hq_12
  have f1_M_13 : M_13 (q_1) = some (aI G 24 (fun _ => 0)) := by rw [eM_13, mm_up_n _ _ dq_12_1]; exact f1_M_11
  have dq_12_2 : q_4 ≠ q_12 := ne_new (f2_M_11) hq_12
  have f2_M_13 : M_13 (q_4) = some (aI G 24 (fun _ => 0)) := by rw [eM_13, mm_up_n _ _ dq_12_2]; exact f2_M_11
  have dq_12_3 : q_7 ≠ q_12 := ne_new (f3_M_11) hq_12
  have f3_M_13 : M_13 (q_7) = some (.inr (0, [.ref b_9])) := by rw [eM_13, mm_up_n _ _ dq_12_3]; exact f3_M_11
  have dq_12_4 : b_9 ≠ q_12 := ne_new (f4_M_11) hq_12
  have f4_M_13 : M_13 (b_9) = some (aJ G 4 (fun _ => 0)) := by rw [eM_13, mm_up_n _ _ dq_12_4]; exact f4_M_11
  have fq_12 : M_13 q_12 = some (.inr (0, [.null])) := by rw [eM_13]; exact mm_up_s _ _ _
  have fr_M_13 : ∀ z, M z ≠ none → z ≠ a → M_13 z = M z := fun z h1 h2 => ((congrFun eM_13 z).trans (mm_up_n _ _ (fun e9 => h1 (by rw [e9]; exact n_q_12)))).trans (fr_M_11 z h1 h2)
  refine W.eq (g2 := F0 m 35 ls [.ref q_12, .ref a]) rfl ?_
  refine lv_dup hx hb dX1_init_35 rfl ?_
  refine mm_callIN (As := []) (rest := [.ref q_12, .ref a]) X hw (c_cellsInit l G _ q_12 fq_12) wd_X1_20 ⟨Nat.le_of_ble_eq_true rfl, Nat.le_of_ble_eq_true rfl⟩ ⟨Nat.le_of_ble_eq_true rfl, Nat.le_of_ble_eq_true rfl⟩ rfl rfl (Nat.le_of_ble_eq_true rfl) hl.1 dX1_init_36 (fun v9 N_15 H9 locs9 hp9 hw => ?_)
  obtain ⟨rfl, b_14, nb_b_14, fa_b_14, fb_b_14, fr9_b_14⟩ := hp9
  refine W.eq (g2 := F0 m 39 ls [.ref q_12, .ref a]) rfl ?_
  have n_b_14 : M b_14 = none := Classical.byContradiction (fun h9 => h9 ((fr_M_13 b_14 h9 (Ne.symm (ne_new (f0_M_13) nb_b_14))).symm.trans nb_b_14))
  have e0_b_14_N_15 : a ≠ b_14 := ne_new (f0_M_13) nb_b_14
  have g1_N_15 : N_15 (a) = some (.inr (1, [.ref q_1, .ref q_4, .ref q_7, .null, .int 0, .null])) := (fr9_b_14 _ (sm_ne (f0_M_13)) (dq_12_0)).trans (f0_M_13)
  have e1_b_14_N_15 : q_1 ≠ b_14 := ne_new (f1_M_13) nb_b_14
  have g2_N_15 : N_15 (q_1) = some (aI G 24 (fun _ => 0)) := (fr9_b_14 _ (sm_ne (f1_M_13)) (dq_12_1)).trans (f1_M_13)
  have e2_b_14_N_15 : q_4 ≠ b_14 := ne_new (f2_M_13) nb_b_14
  have g3_N_15 : N_15 (q_4) = some (aI G 24 (fun _ => 0)) := (fr9_b_14 _ (sm_ne (f2_M_13)) (dq_12_2)).trans (f2_M_13)
  have e3_b_14_N_15 : q_7 ≠ b_14 := ne_new (f3_M_13) nb_b_14
  have g4_N_15 : N_15 (q_7) = some (.inr (0, [.ref b_9])) := (fr9_b_14 _ (sm_ne (f3_M_13)) (dq_12_3)).trans (f3_M_13)
  have e4_b_14_N_15 : b_9 ≠ b_14 := ne_new (f4_M_13) nb_b_14
  have g5_N_15 : N_15 (b_9) = some (aJ G 4 (fun _ => 0)) := (fr9_b_14 _ (sm_ne (f4_M_13)) (dq_12_4)).trans (f4_M_13)
  have e5_b_14_N_15 : q_12 ≠ b_14 := ne_new (fq_12) nb_b_14
  have fr_N_15 : ∀ z, M z ≠ none → z ≠ a → N_15 z = M z := fun z h1 h2 => (fr9_b_14 z (by rw [fr_M_13 z h1 h2]; exact h1) (fun e9 => h1 (by rw [e9]; exact n_q_12))).trans (fr_M_13 z h1 h2)
  refine pf_X1_25 X hin hw (g1_N_15) (Nat.le_of_ble_eq_true rfl) dX1_init_39 (fun H9 locs9 hw => ?_)
  obtain ⟨M_16, eM_16⟩ : ∃ z, z = mm_up N_15 (a) (.inr (1, [.ref q_1, .ref q_4, .ref q_7, .ref q_12, .int 0, .null])) := ⟨_, rfl⟩
  have hw : mm_W G.1 vwCl (ct_A M s.heap.size) s.heap M_16 H9 locs9 := by rw [eM_16]; exact hw
  have f0_M_16 : M_16 (a) = some (.inr (1, [.ref q_1, .ref q_4, .ref q_7, .ref q_12, .int 0, .null])) := by rw [eM_16]; exact mm_up_s _ _ _
  have f1_M_16 : M_16 (q_1) = some (aI G 24 (fun _ => 0)) := by rw [eM_16, mm_up_n _ _ (Ne.symm (dq_1_0))]; exact g2_N_15
  have f2_M_16 : M_16 (q_4) = some (aI G 24 (fun _ => 0)) := by rw [eM_16, mm_up_n _ _ (Ne.symm (dq_4_0))]; exact g3_N_15
  have f3_M_16 : M_16 (q_7) = some (.inr (0, [.ref b_9])) := by rw [eM_16, mm_up_n _ _ (Ne.symm (dq_7_0))]; exact g4_N_15
  have f4_M_16 : M_16 (b_9) = some (aJ G 4 (fun _ => 0)) := by rw [eM_16, mm_up_n _ _ (Ne.symm (e0_b_9_N_10))]; exact g5_N_15
  have f5_M_16 : M_16 (q_12) = some (.inr (0, [.ref b_14])) := by rw [eM_16, mm_up_n _ _ (Ne.symm (dq_12_0))]; exact fa_b_14
  have f6_M_16 : M_16 (b_14) = some (aJ G 4 (fun _ => 0)) := by rw [eM_16, mm_up_n _ _ (Ne.symm (e0_b_14_N_15))]; exact fb_b_14
  have fr_M_16 : ∀ z, M z ≠ none → z ≠ a → M_16 z = M z := fun z h1 h2 => ((congrFun eM_16 z).trans (mm_up_n _ _ (h2))).trans (fr_N_15 z h1 h2)
  refine lv_aload_n hx hb dX1_init_42 rfl (lv_at hl 0 rfl) ?_
  refine lv_iconst (v := 0) hx hb dX1_init_43 (by decide) ?_
  refine pf_X1_28 X hw (f0_M_16) (Nat.le_of_ble_eq_true rfl) dX1_init_44 (fun H9 locs9 hw => ?_)
  obtain ⟨M_17, eM_17⟩ : ∃ z, z = mm_up M_16 (a) (.inr (1, [.ref q_1, .ref q_4, .ref q_7, .ref q_12, .int 0, .null])) := ⟨_, rfl⟩
  have hw : mm_W G.1 vwCl (ct_A M s.heap.size) s.heap M_17 H9 locs9 := by rw [eM_17]; exact hw
  have f0_M_17 : M_17 (a) = some (.inr (1, [.ref q_1, .ref q_4, .ref q_7, .ref q_12, .int 0, .null])) := by rw [eM_17]; exact mm_up_s _ _ _
  have f1_M_17 : M_17 (q_1) = some (aI G 24 (fun _ => 0)) := by rw [eM_17, mm_up_n _ _ (Ne.symm (dq_1_0))]; exact f1_M_16
  have f2_M_17 : M_17 (q_4) = some (aI G 24 (fun _ => 0)) := by rw [eM_17, mm_up_n _ _ (Ne.symm (dq_4_0))]; exact f2_M_16
  have f3_M_17 : M_17 (q_7) = some (.inr (0, [.ref b_9])) := by rw [eM_17, mm_up_n _ _ (Ne.symm (dq_7_0))]; exact f3_M_16
  have f4_M_17 : M_17 (b_9) = some (aJ G 4 (fun _ => 0)) := by rw [eM_17, mm_up_n _ _ (Ne.symm (e0_b_9_N_10))]; exact f4_M_16
  have f5_M_17 : M_17 (q_12) = some (.inr (0, [.ref b_14])) := by rw [eM_17, mm_up_n _ _ (Ne.symm (dq_12_0))]; exact f5_M_16
  have f6_M_17 : M_17 (b_14) = some (aJ G 4 (fun _ => 0)) := by rw [eM_17, mm_up_n _ _ (Ne.symm (e0_b_14_N_15))]; exact f6_M_16
  have fr_M_17 : ∀ z, M z ≠ none → z ≠ a → M_17 z = M z := fun z h1 h2 => ((congrFun eM_17 z).trans (mm_up_n _ _ (h2))).trans (fr_M_16 z h1 h2)
  refine lv_aload_n hx hb dX1_init_47 rfl (lv_at hl 0 rfl) ?_
  refine lv_null hx hb dX1_init_48 ?_
  refine pn_X1_32 X hw (f0_M_17) (Nat.le_of_ble_eq_true rfl) dX1_init_49 (fun H9 locs9 hw => ?_)
  obtain ⟨M_18, eM_18⟩ : ∃ z, z = mm_up M_17 (a) (.inr (1, [.ref q_1, .ref q_4, .ref q_7, .ref q_12, .int 0, .null])) := ⟨_, rfl⟩
  have hw : mm_W G.1 vwCl (ct_A M s.heap.size) s.heap M_18 H9 locs9 := by rw [eM_18]; exact hw
  have f0_M_18 : M_18 (a) = some (.inr (1, [.ref q_1, .ref q_4, .ref q_7, .ref q_12, .int 0, .null])) := by rw [eM_18]; exact mm_up_s _ _ _
  have f1_M_18 : M_18 (q_1) = some (aI G 24 (fun _ => 0)) := by rw [eM_18, mm_up_n _ _ (Ne.symm (dq_1_0))]; exact f1_M_17
  have f2_M_18 : M_18 (q_4) = some (aI G 24 (fun _ => 0)) := by rw [eM_18, mm_up_n _ _ (Ne.symm (dq_4_0))]; exact f2_M_17
  have f3_M_18 : M_18 (q_7) = some (.inr (0, [.ref b_9])) := by rw [eM_18, mm_up_n _ _ (Ne.symm (dq_7_0))]; exact f3_M_17
  have f4_M_18 : M_18 (b_9) = some (aJ G 4 (fun _ => 0)) := by rw [eM_18, mm_up_n _ _ (Ne.symm (e0_b_9_N_10))]; exact f4_M_17
  have f5_M_18 : M_18 (q_12) = some (.inr (0, [.ref b_14])) := by rw [eM_18, mm_up_n _ _ (Ne.symm (dq_12_0))]; exact f5_M_17
  have f6_M_18 : M_18 (b_14) = some (aJ G 4 (fun _ => 0)) := by rw [eM_18, mm_up_n _ _ (Ne.symm (e0_b_14_N_15))]; exact f6_M_17
  have fr_M_18 : ∀ z, M z ≠ none → z ≠ a → M_18 z = M z := fun z h1 h2 => ((congrFun eM_18 z).trans (mm_up_n _ _ (h2))).trans (fr_M_17 z h1 h2)
  exact mm_vret hQ X hw (⟨rfl, q_1, q_4, q_7, b_9, q_12, b_14, nd_7 (dq_1_0) (dq_4_0) (dq_7_0) (e0_b_9_N_10) (dq_12_0) (e0_b_14_N_15) (dq_4_1) (dq_7_1) (e1_b_9_N_10) (dq_12_1) (e1_b_14_N_15) (dq_7_2) (e2_b_9_N_10) (dq_12_2) (e2_b_14_N_15) (e3_b_9_N_10) (dq_12_3) (e3_b_14_N_15) (dq_12_4) (e4_b_14_N_15) (e5_b_14_N_15), ⟨n_q_1, n_q_4, n_q_7, n_b_9, n_q_12, n_b_14⟩, f0_M_18, f1_M_18, f2_M_18, f3_M_18, f4_M_18, f5_M_18, f6_M_18, fr_M_18⟩) (Nat.le_of_ble_eq_true rfl) (Nat.le_of_ble_eq_true rfl) dX1_init_52
set_option maxHeartbeats 4000000 in
set_option maxRecDepth 100000 in
theorem c_editionInit (l : Launch) (G : mG) (M : mM) (a : Nat) (x : Int32) (h0 : M (a) = some (.inr (2, [.int 0, .null, .null, .int 0, .int 0]))) : Ct l yX2_init cX2_init 2 none (mm_r 1 2 17) G [.ref a, .int x] M (fun r M1 => r = none ∧ ∃ b1 b2, [a, b1, b2].Nodup ∧ (M b1 = none ∧ M b2 = none) ∧ M1 a = some (oEd x b1 b2 (-1) 0) ∧ M1 b1 = some (aI G 9 (fun _ => 0)) ∧ M1 b2 = some (aI G 8 (fun _ => 0)) ∧ (∀ z, M z ≠ none → z ≠ a → M1 z = M z)) := by
  refine Ct.of (by decide) (Nat.le_of_ble_eq_true rfl) ?_
  intro p e s m args below meth c ls Q X hin hl hw hQ
  have hx := X.1
  have hb := X.2.1
  have hl : lv_has ls 2 [(0, .ref a), (1, .int x)] := hl
  have fr_0 : ∀ z, M z ≠ none → z ≠ a → M z = M z := fun _ _ _ => rfl
  refine lv_aload_n hx hb dX2_init_0 rfl (lv_at hl 0 rfl) ?_
  refine W.objInit hx hb X.2.2.2.1 (X.2.2.2.2.1 _ ml_X2_3) (X.2.2.2.2.1 _ im_objectInit) (X.2.2.2.2.1 _ co_objectInit) rfl (by rw [X.2.2.1]; exact hl.1) rfl dX2_init_1 (Nat.le_of_ble_eq_true rfl) (Nat.le_of_ble_eq_true rfl) ?_
  refine W.eq (g2 := F0 m 4 ls []) rfl ?_
  refine lv_aload_n hx hb dX2_init_4 rfl (lv_at hl 0 rfl) ?_
  refine lv_bipush (v := 9) hx hb dX2_init_5 (by decide) ?_
  refine nw_I X hw 9 rfl (by decide) (Nat.le_of_ble_eq_true rfl) (Nat.le_of_ble_eq_true rfl) dX2_init_7 (fun q_1 H9 hq_1 hw => ?_)
  have n_q_1 : M q_1 = none := Classical.byContradiction (fun h9 => h9 ((fr_0 q_1 h9 (Ne.symm (ne_new (h0) hq_1))).symm.trans hq_1))
  obtain ⟨M_2, eM_2⟩ : ∃ z, z = mm_up M q_1 (aI G 9 (fun _ => 0)) := ⟨_, rfl⟩
  rw [← eM_2] at hw
  have dq_1_0 : a ≠ q_1 := ne_new (h0) hq_1
  have f0_M_2 : M_2 (a) = some (.inr (2, [.int 0, .null, .null, .int 0, .int 0])) := by rw [eM_2, mm_up_n _ _ dq_1_0]; exact h0
  have fq_1 : M_2 q_1 = some (aI G 9 (fun _ => 0)) := by rw [eM_2]; exact mm_up_s _ _ _
  have fr_M_2 : ∀ z, M z ≠ none → z ≠ a → M_2 z = M z := fun z h1 h2 => ((congrFun eM_2 z).trans (mm_up_n _ _ (fun e9 => h1 (by rw [e9]; exact n_q_1)))).trans (fr_0 z h1 h2)
  refine W.eq (g2 := F0 m 9 ls [.ref q_1, .ref a]) rfl ?_
  refine pf_X2_9 X hin hw (f0_M_2) (Nat.le_of_ble_eq_true rfl) dX2_init_9 (fun H9 locs9 hw => ?_)
  obtain ⟨M_3, eM_3⟩ : ∃ z, z = mm_up M_2 (a) (.inr (2, [.int 0, .ref q_1, .null, .int 0, .int 0])) := ⟨_, rfl⟩
  have hw : mm_W G.1 vwCl (ct_A M s.heap.size) s.heap M_3 H9 locs9 := by rw [eM_3]; exact hw
  have f0_M_3 : M_3 (a) = some (.inr (2, [.int 0, .ref q_1, .null, .int 0, .int 0])) := by rw [eM_3]; exact mm_up_s _ _ _
  have f1_M_3 : M_3 (q_1) = some (aI G 9 (fun _ => 0)) := by rw [eM_3, mm_up_n _ _ (Ne.symm (dq_1_0))]; exact fq_1
  have fr_M_3 : ∀ z, M z ≠ none → z ≠ a → M_3 z = M z := fun z h1 h2 => ((congrFun eM_3 z).trans (mm_up_n _ _ (h2))).trans (fr_M_2 z h1 h2)
  refine lv_aload_n hx hb dX2_init_12 rfl (lv_at hl 0 rfl) ?_
  refine lv_bipush (v := 8) hx hb dX2_init_13 (by decide) ?_
  refine nw_I X hw 8 rfl (by decide) (Nat.le_of_ble_eq_true rfl) (Nat.le_of_ble_eq_true rfl) dX2_init_15 (fun q_4 H9 hq_4 hw => ?_)
  have n_q_4 : M q_4 = none := Classical.byContradiction (fun h9 => h9 ((fr_M_3 q_4 h9 (Ne.symm (ne_new (f0_M_3) hq_4))).symm.trans hq_4))
  obtain ⟨M_5, eM_5⟩ : ∃ z, z = mm_up M_3 q_4 (aI G 8 (fun _ => 0)) := ⟨_, rfl⟩
  rw [← eM_5] at hw
  have dq_4_0 : a ≠ q_4 := ne_new (f0_M_3) hq_4
  have f0_M_5 : M_5 (a) = some (.inr (2, [.int 0, .ref q_1, .null, .int 0, .int 0])) := by rw [eM_5, mm_up_n _ _ dq_4_0]; exact f0_M_3
  have dq_4_1 : q_1 ≠ q_4 := ne_new (f1_M_3) hq_4
  have f1_M_5 : M_5 (q_1) = some (aI G 9 (fun _ => 0)) := by rw [eM_5, mm_up_n _ _ dq_4_1]; exact f1_M_3
  have fq_4 : M_5 q_4 = some (aI G 8 (fun _ => 0)) := by rw [eM_5]; exact mm_up_s _ _ _
  have fr_M_5 : ∀ z, M z ≠ none → z ≠ a → M_5 z = M z := fun z h1 h2 => ((congrFun eM_5 z).trans (mm_up_n _ _ (fun e9 => h1 (by rw [e9]; exact n_q_4)))).trans (fr_M_3 z h1 h2)
  refine W.eq (g2 := F0 m 17 ls [.ref q_4, .ref a]) rfl ?_
  refine pf_X2_15 X hin hw (f0_M_5) (Nat.le_of_ble_eq_true rfl) dX2_init_17 (fun H9 locs9 hw => ?_)
  obtain ⟨M_6, eM_6⟩ : ∃ z, z = mm_up M_5 (a) (.inr (2, [.int 0, .ref q_1, .ref q_4, .int 0, .int 0])) := ⟨_, rfl⟩
  have hw : mm_W G.1 vwCl (ct_A M s.heap.size) s.heap M_6 H9 locs9 := by rw [eM_6]; exact hw
  have f0_M_6 : M_6 (a) = some (.inr (2, [.int 0, .ref q_1, .ref q_4, .int 0, .int 0])) := by rw [eM_6]; exact mm_up_s _ _ _
  have f1_M_6 : M_6 (q_1) = some (aI G 9 (fun _ => 0)) := by rw [eM_6, mm_up_n _ _ (Ne.symm (dq_1_0))]; exact f1_M_5
  have f2_M_6 : M_6 (q_4) = some (aI G 8 (fun _ => 0)) := by rw [eM_6, mm_up_n _ _ (Ne.symm (dq_4_0))]; exact fq_4
  have fr_M_6 : ∀ z, M z ≠ none → z ≠ a → M_6 z = M z := fun z h1 h2 => ((congrFun eM_6 z).trans (mm_up_n _ _ (h2))).trans (fr_M_5 z h1 h2)
  refine lv_aload_n hx hb dX2_init_20 rfl (lv_at hl 0 rfl) ?_
  refine lv_iconst (v := (-1)) hx hb dX2_init_21 (by decide) ?_
  refine pf_X2_18 X hw (f0_M_6) (Nat.le_of_ble_eq_true rfl) dX2_init_22 (fun H9 locs9 hw => ?_)
  obtain ⟨M_7, eM_7⟩ : ∃ z, z = mm_up M_6 (a) (.inr (2, [.int 0, .ref q_1, .ref q_4, .int ((-1)), .int 0])) := ⟨_, rfl⟩
  have hw : mm_W G.1 vwCl (ct_A M s.heap.size) s.heap M_7 H9 locs9 := by rw [eM_7]; exact hw
  have f0_M_7 : M_7 (a) = some (.inr (2, [.int 0, .ref q_1, .ref q_4, .int ((-1)), .int 0])) := by rw [eM_7]; exact mm_up_s _ _ _
  have f1_M_7 : M_7 (q_1) = some (aI G 9 (fun _ => 0)) := by rw [eM_7, mm_up_n _ _ (Ne.symm (dq_1_0))]; exact f1_M_6
  have f2_M_7 : M_7 (q_4) = some (aI G 8 (fun _ => 0)) := by rw [eM_7, mm_up_n _ _ (Ne.symm (dq_4_0))]; exact f2_M_6
  have fr_M_7 : ∀ z, M z ≠ none → z ≠ a → M_7 z = M z := fun z h1 h2 => ((congrFun eM_7 z).trans (mm_up_n _ _ (h2))).trans (fr_M_6 z h1 h2)
  refine lv_aload_n hx hb dX2_init_25 rfl (lv_at hl 0 rfl) ?_
  refine lv_iconst (v := 0) hx hb dX2_init_26 (by decide) ?_
  refine pf_X2_22 X hw (f0_M_7) (Nat.le_of_ble_eq_true rfl) dX2_init_27 (fun H9 locs9 hw => ?_)
  obtain ⟨M_8, eM_8⟩ : ∃ z, z = mm_up M_7 (a) (.inr (2, [.int 0, .ref q_1, .ref q_4, .int ((-1)), .int 0])) := ⟨_, rfl⟩
  have hw : mm_W G.1 vwCl (ct_A M s.heap.size) s.heap M_8 H9 locs9 := by rw [eM_8]; exact hw
  have f0_M_8 : M_8 (a) = some (.inr (2, [.int 0, .ref q_1, .ref q_4, .int ((-1)), .int 0])) := by rw [eM_8]; exact mm_up_s _ _ _
  have f1_M_8 : M_8 (q_1) = some (aI G 9 (fun _ => 0)) := by rw [eM_8, mm_up_n _ _ (Ne.symm (dq_1_0))]; exact f1_M_7
  have f2_M_8 : M_8 (q_4) = some (aI G 8 (fun _ => 0)) := by rw [eM_8, mm_up_n _ _ (Ne.symm (dq_4_0))]; exact f2_M_7
  have fr_M_8 : ∀ z, M z ≠ none → z ≠ a → M_8 z = M z := fun z h1 h2 => ((congrFun eM_8 z).trans (mm_up_n _ _ (h2))).trans (fr_M_7 z h1 h2)
  refine lv_aload_n hx hb dX2_init_30 rfl (lv_at hl 0 rfl) ?_
  refine lv_iload_n hx hb dX2_init_31 rfl (lv_at hl 1 rfl) ?_
  refine pf_X2_25 X hin hw (f0_M_8) (Nat.le_of_ble_eq_true rfl) dX2_init_32 (fun H9 locs9 hw => ?_)
  obtain ⟨M_9, eM_9⟩ : ∃ z, z = mm_up M_8 (a) (.inr (2, [.int x, .ref q_1, .ref q_4, .int ((-1)), .int 0])) := ⟨_, rfl⟩
  have hw : mm_W G.1 vwCl (ct_A M s.heap.size) s.heap M_9 H9 locs9 := by rw [eM_9]; exact hw
  have f0_M_9 : M_9 (a) = some (.inr (2, [.int x, .ref q_1, .ref q_4, .int ((-1)), .int 0])) := by rw [eM_9]; exact mm_up_s _ _ _
  have f1_M_9 : M_9 (q_1) = some (aI G 9 (fun _ => 0)) := by rw [eM_9, mm_up_n _ _ (Ne.symm (dq_1_0))]; exact f1_M_8
  have f2_M_9 : M_9 (q_4) = some (aI G 8 (fun _ => 0)) := by rw [eM_9, mm_up_n _ _ (Ne.symm (dq_4_0))]; exact f2_M_8
  have fr_M_9 : ∀ z, M z ≠ none → z ≠ a → M_9 z = M z := fun z h1 h2 => ((congrFun eM_9 z).trans (mm_up_n _ _ (h2))).trans (fr_M_8 z h1 h2)
  exact mm_vret hQ X hw (⟨rfl, q_1, q_4, nd_3 (dq_1_0) (dq_4_0) (dq_4_1), ⟨n_q_1, n_q_4⟩, f0_M_9, f1_M_9, f2_M_9, fr_M_9⟩) (Nat.le_of_ble_eq_true rfl) (Nat.le_of_ble_eq_true rfl) dX2_init_35
set_option maxHeartbeats 4000000 in
set_option maxRecDepth 100000 in
theorem c_entryInit (l : Launch) (G : mG) (M : mM) (a : Nat) (x : Int32) (g : Int64) (y z0 : Int32) (h0 : M (a) = some (.inr (3, [.int 0, .long 0, .int 0, .int 0, .int 0]))) : Ct l yX3_init cX3_init 6 none (mm_r 1 0 0) G [.ref a, .int x, .long g, .int y, .int z0] M (fun r M1 => r = none ∧ M1 a = some (oEn x g y z0 0) ∧ (∀ z, M z ≠ none → z ≠ a → M1 z = M z)) := by
  refine Ct.of (by decide) (Nat.le_of_ble_eq_true rfl) ?_
  intro p e s m args below meth c ls Q X hin hl hw hQ
  have hx := X.1
  have hb := X.2.1
  have hl : lv_has ls 6 [(0, .ref a), (1, .int x), (2, .long g), (4, .int y), (5, .int z0)] := hl
  have fr_0 : ∀ z, M z ≠ none → z ≠ a → M z = M z := fun _ _ _ => rfl
  refine lv_aload_n hx hb dX3_init_0 rfl (lv_at hl 0 rfl) ?_
  refine W.objInit hx hb X.2.2.2.1 (X.2.2.2.2.1 _ ml_X3_1) (X.2.2.2.2.1 _ im_objectInit) (X.2.2.2.2.1 _ co_objectInit) rfl (by rw [X.2.2.1]; exact hl.1) rfl dX3_init_1 (Nat.le_of_ble_eq_true rfl) (Nat.le_of_ble_eq_true rfl) ?_
  refine W.eq (g2 := F0 m 4 ls []) rfl ?_
  refine lv_aload_n hx hb dX3_init_4 rfl (lv_at hl 0 rfl) ?_
  refine lv_iconst (v := 0) hx hb dX3_init_5 (by decide) ?_
  refine pf_X3_7 X hw (h0) (Nat.le_of_ble_eq_true rfl) dX3_init_6 (fun H9 locs9 hw => ?_)
  obtain ⟨M_1, eM_1⟩ : ∃ z, z = mm_up M (a) (.inr (3, [.int 0, .long 0, .int 0, .int 0, .int 0])) := ⟨_, rfl⟩
  have hw : mm_W G.1 vwCl (ct_A M s.heap.size) s.heap M_1 H9 locs9 := by rw [eM_1]; exact hw
  have f0_M_1 : M_1 (a) = some (.inr (3, [.int 0, .long 0, .int 0, .int 0, .int 0])) := by rw [eM_1]; exact mm_up_s _ _ _
  have fr_M_1 : ∀ z, M z ≠ none → z ≠ a → M_1 z = M z := fun z h1 h2 => ((congrFun eM_1 z).trans (mm_up_n _ _ (h2))).trans (fr_0 z h1 h2)
  refine lv_aload_n hx hb dX3_init_9 rfl (lv_at hl 0 rfl) ?_
  refine lv_iload_n hx hb dX3_init_10 rfl (lv_at hl 1 rfl) ?_
  refine pf_X3_13 X hin hw (f0_M_1) (Nat.le_of_ble_eq_true rfl) dX3_init_11 (fun H9 locs9 hw => ?_)
  obtain ⟨M_2, eM_2⟩ : ∃ z, z = mm_up M_1 (a) (.inr (3, [.int x, .long 0, .int 0, .int 0, .int 0])) := ⟨_, rfl⟩
  have hw : mm_W G.1 vwCl (ct_A M s.heap.size) s.heap M_2 H9 locs9 := by rw [eM_2]; exact hw
  have f0_M_2 : M_2 (a) = some (.inr (3, [.int x, .long 0, .int 0, .int 0, .int 0])) := by rw [eM_2]; exact mm_up_s _ _ _
  have fr_M_2 : ∀ z, M z ≠ none → z ≠ a → M_2 z = M z := fun z h1 h2 => ((congrFun eM_2 z).trans (mm_up_n _ _ (h2))).trans (fr_M_1 z h1 h2)
  refine lv_aload_n hx hb dX3_init_14 rfl (lv_at hl 0 rfl) ?_
  refine lv_lload_n hx hb dX3_init_15 rfl (lv_at hl 2 rfl) ?_
  refine pf_X3_16 X hin hw (f0_M_2) (Nat.le_of_ble_eq_true rfl) dX3_init_16 (fun H9 locs9 hw => ?_)
  obtain ⟨M_3, eM_3⟩ : ∃ z, z = mm_up M_2 (a) (.inr (3, [.int x, .long g, .int 0, .int 0, .int 0])) := ⟨_, rfl⟩
  have hw : mm_W G.1 vwCl (ct_A M s.heap.size) s.heap M_3 H9 locs9 := by rw [eM_3]; exact hw
  have f0_M_3 : M_3 (a) = some (.inr (3, [.int x, .long g, .int 0, .int 0, .int 0])) := by rw [eM_3]; exact mm_up_s _ _ _
  have fr_M_3 : ∀ z, M z ≠ none → z ≠ a → M_3 z = M z := fun z h1 h2 => ((congrFun eM_3 z).trans (mm_up_n _ _ (h2))).trans (fr_M_2 z h1 h2)
  refine lv_aload_n hx hb dX3_init_19 rfl (lv_at hl 0 rfl) ?_
  refine lv_iload hx hb dX3_init_20 (lv_at hl 3 rfl) ?_
  refine pf_X3_20 X hin hw (f0_M_3) (Nat.le_of_ble_eq_true rfl) dX3_init_22 (fun H9 locs9 hw => ?_)
  obtain ⟨M_4, eM_4⟩ : ∃ z, z = mm_up M_3 (a) (.inr (3, [.int x, .long g, .int y, .int 0, .int 0])) := ⟨_, rfl⟩
  have hw : mm_W G.1 vwCl (ct_A M s.heap.size) s.heap M_4 H9 locs9 := by rw [eM_4]; exact hw
  have f0_M_4 : M_4 (a) = some (.inr (3, [.int x, .long g, .int y, .int 0, .int 0])) := by rw [eM_4]; exact mm_up_s _ _ _
  have fr_M_4 : ∀ z, M z ≠ none → z ≠ a → M_4 z = M z := fun z h1 h2 => ((congrFun eM_4 z).trans (mm_up_n _ _ (h2))).trans (fr_M_3 z h1 h2)
  refine lv_aload_n hx hb dX3_init_25 rfl (lv_at hl 0 rfl) ?_
  refine lv_iload hx hb dX3_init_26 (lv_at hl 4 rfl) ?_
  refine pf_X3_23 X hin hw (f0_M_4) (Nat.le_of_ble_eq_true rfl) dX3_init_28 (fun H9 locs9 hw => ?_)
  obtain ⟨M_5, eM_5⟩ : ∃ z, z = mm_up M_4 (a) (.inr (3, [.int x, .long g, .int y, .int z0, .int 0])) := ⟨_, rfl⟩
  have hw : mm_W G.1 vwCl (ct_A M s.heap.size) s.heap M_5 H9 locs9 := by rw [eM_5]; exact hw
  have f0_M_5 : M_5 (a) = some (.inr (3, [.int x, .long g, .int y, .int z0, .int 0])) := by rw [eM_5]; exact mm_up_s _ _ _
  have fr_M_5 : ∀ z, M z ≠ none → z ≠ a → M_5 z = M z := fun z h1 h2 => ((congrFun eM_5 z).trans (mm_up_n _ _ (h2))).trans (fr_M_4 z h1 h2)
  exact mm_vret hQ X hw (⟨rfl, f0_M_5, fr_M_5⟩) (Nat.le_of_ble_eq_true rfl) (Nat.le_of_ble_eq_true rfl) dX3_init_31
set_option maxHeartbeats 4000000 in
set_option maxRecDepth 100000 in
theorem c_nodeInit (l : Launch) (G : mG) (M : mM) (a : Nat) (x y : Int32) (h0 : M (a) = some (.inr (5, [.int 0, .int 0, .int 0, .int 0]))) : Ct l yX5_init cX5_init 3 none (mm_r 1 0 0) G [.ref a, .int x, .int y] M (fun r M1 => r = none ∧ M1 a = some (oNo x y 0 (-1)) ∧ (∀ z, M z ≠ none → z ≠ a → M1 z = M z)) := by
  refine Ct.of (by decide) (Nat.le_of_ble_eq_true rfl) ?_
  intro p e s m args below meth c ls Q X hin hl hw hQ
  have hx := X.1
  have hb := X.2.1
  have hl : lv_has ls 3 [(0, .ref a), (1, .int x), (2, .int y)] := hl
  have fr_0 : ∀ z, M z ≠ none → z ≠ a → M z = M z := fun _ _ _ => rfl
  refine lv_aload_n hx hb dX5_init_0 rfl (lv_at hl 0 rfl) ?_
  refine W.objInit hx hb X.2.2.2.1 (X.2.2.2.2.1 _ ml_X5_3) (X.2.2.2.2.1 _ im_objectInit) (X.2.2.2.2.1 _ co_objectInit) rfl (by rw [X.2.2.1]; exact hl.1) rfl dX5_init_1 (Nat.le_of_ble_eq_true rfl) (Nat.le_of_ble_eq_true rfl) ?_
  refine W.eq (g2 := F0 m 4 ls []) rfl ?_
  refine lv_aload_n hx hb dX5_init_4 rfl (lv_at hl 0 rfl) ?_
  refine lv_iconst (v := 0) hx hb dX5_init_5 (by decide) ?_
  refine pf_X5_9 X hw (h0) (Nat.le_of_ble_eq_true rfl) dX5_init_6 (fun H9 locs9 hw => ?_)
  obtain ⟨M_1, eM_1⟩ : ∃ z, z = mm_up M (a) (.inr (5, [.int 0, .int 0, .int 0, .int 0])) := ⟨_, rfl⟩
  have hw : mm_W G.1 vwCl (ct_A M s.heap.size) s.heap M_1 H9 locs9 := by rw [eM_1]; exact hw
  have f0_M_1 : M_1 (a) = some (.inr (5, [.int 0, .int 0, .int 0, .int 0])) := by rw [eM_1]; exact mm_up_s _ _ _
  have fr_M_1 : ∀ z, M z ≠ none → z ≠ a → M_1 z = M z := fun z h1 h2 => ((congrFun eM_1 z).trans (mm_up_n _ _ (h2))).trans (fr_0 z h1 h2)
  refine lv_aload_n hx hb dX5_init_9 rfl (lv_at hl 0 rfl) ?_
  refine lv_iconst (v := (-1)) hx hb dX5_init_10 (by decide) ?_
  refine pf_X5_15 X hw (f0_M_1) (Nat.le_of_ble_eq_true rfl) dX5_init_11 (fun H9 locs9 hw => ?_)
  obtain ⟨M_2, eM_2⟩ : ∃ z, z = mm_up M_1 (a) (.inr (5, [.int 0, .int 0, .int 0, .int ((-1))])) := ⟨_, rfl⟩
  have hw : mm_W G.1 vwCl (ct_A M s.heap.size) s.heap M_2 H9 locs9 := by rw [eM_2]; exact hw
  have f0_M_2 : M_2 (a) = some (.inr (5, [.int 0, .int 0, .int 0, .int ((-1))])) := by rw [eM_2]; exact mm_up_s _ _ _
  have fr_M_2 : ∀ z, M z ≠ none → z ≠ a → M_2 z = M z := fun z h1 h2 => ((congrFun eM_2 z).trans (mm_up_n _ _ (h2))).trans (fr_M_1 z h1 h2)
  refine lv_aload_n hx hb dX5_init_14 rfl (lv_at hl 0 rfl) ?_
  refine lv_iload_n hx hb dX5_init_15 rfl (lv_at hl 1 rfl) ?_
  refine pf_X5_18 X hin hw (f0_M_2) (Nat.le_of_ble_eq_true rfl) dX5_init_16 (fun H9 locs9 hw => ?_)
  obtain ⟨M_3, eM_3⟩ : ∃ z, z = mm_up M_2 (a) (.inr (5, [.int x, .int 0, .int 0, .int ((-1))])) := ⟨_, rfl⟩
  have hw : mm_W G.1 vwCl (ct_A M s.heap.size) s.heap M_3 H9 locs9 := by rw [eM_3]; exact hw
  have f0_M_3 : M_3 (a) = some (.inr (5, [.int x, .int 0, .int 0, .int ((-1))])) := by rw [eM_3]; exact mm_up_s _ _ _
  have fr_M_3 : ∀ z, M z ≠ none → z ≠ a → M_3 z = M z := fun z h1 h2 => ((congrFun eM_3 z).trans (mm_up_n _ _ (h2))).trans (fr_M_2 z h1 h2)
  refine lv_aload_n hx hb dX5_init_19 rfl (lv_at hl 0 rfl) ?_
  refine lv_iload_n hx hb dX5_init_20 rfl (lv_at hl 2 rfl) ?_
  refine pf_X5_21 X hw (f0_M_3) (Nat.le_of_ble_eq_true rfl) dX5_init_21 (fun H9 locs9 hw => ?_)
  obtain ⟨M_4, eM_4⟩ : ∃ z, z = mm_up M_3 (a) (.inr (5, [.int x, .int y, .int 0, .int ((-1))])) := ⟨_, rfl⟩
  have hw : mm_W G.1 vwCl (ct_A M s.heap.size) s.heap M_4 H9 locs9 := by rw [eM_4]; exact hw
  have f0_M_4 : M_4 (a) = some (.inr (5, [.int x, .int y, .int 0, .int ((-1))])) := by rw [eM_4]; exact mm_up_s _ _ _
  have fr_M_4 : ∀ z, M z ≠ none → z ≠ a → M_4 z = M z := fun z h1 h2 => ((congrFun eM_4 z).trans (mm_up_n _ _ (h2))).trans (fr_M_3 z h1 h2)
  exact mm_vret hQ X hw (⟨rfl, f0_M_4, fr_M_4⟩) (Nat.le_of_ble_eq_true rfl) (Nat.le_of_ble_eq_true rfl) dX5_init_24
set_option maxHeartbeats 4000000 in
set_option maxRecDepth 100000 in
theorem c_machineInit (l : Launch) (G : mG) (M : mM) (a : Nat) (h0 : M (a) = some (.inr (4, [.null, .null, .int 0]))) : Ct l yX4_init cX4_init 1 none (mm_r 2 3 29) G [.ref a] M (fun r M1 => r = none ∧ ∃ b1 b2 b3, [a, b1, b2, b3].Nodup ∧ (M b1 = none ∧ M b2 = none ∧ M b3 = none) ∧ M1 a = some (oMa b1 b2 0) ∧ M1 b1 = some (aJ G 24 (fun _ => 0)) ∧ M1 b2 = some (oCe b3) ∧ M1 b3 = some (aJ G 4 (fun _ => 0)) ∧ (∀ z, M z ≠ none → z ≠ a → M1 z = M z)) := by
  refine Ct.of (by decide) (Nat.le_of_ble_eq_true rfl) ?_
  intro p e s m args below meth c ls Q X hin hl hw hQ
  have hx := X.1
  have hb := X.2.1
  have hl : lv_has ls 1 [(0, .ref a)] := hl
  have fr_0 : ∀ z, M z ≠ none → z ≠ a → M z = M z := fun _ _ _ => rfl
  refine lv_aload_n hx hb dX4_init_0 rfl (lv_at hl 0 rfl) ?_
  refine W.objInit hx hb X.2.2.2.1 (X.2.2.2.2.1 _ ml_X4_3) (X.2.2.2.2.1 _ im_objectInit) (X.2.2.2.2.1 _ co_objectInit) rfl (by rw [X.2.2.1]; exact hl.1) rfl dX4_init_1 (Nat.le_of_ble_eq_true rfl) (Nat.le_of_ble_eq_true rfl) ?_
  refine W.eq (g2 := F0 m 4 ls []) rfl ?_
  refine lv_aload_n hx hb dX4_init_4 rfl (lv_at hl 0 rfl) ?_
  refine lv_bipush (v := 24) hx hb dX4_init_5 (by decide) ?_
  refine nw_J X hw 24 rfl (by decide) (Nat.le_of_ble_eq_true rfl) (Nat.le_of_ble_eq_true rfl) dX4_init_7 (fun q_1 H9 hq_1 hw => ?_)
  have n_q_1 : M q_1 = none := Classical.byContradiction (fun h9 => h9 ((fr_0 q_1 h9 (Ne.symm (ne_new (h0) hq_1))).symm.trans hq_1))
  obtain ⟨M_2, eM_2⟩ : ∃ z, z = mm_up M q_1 (aJ G 24 (fun _ => 0)) := ⟨_, rfl⟩
  rw [← eM_2] at hw
  have dq_1_0 : a ≠ q_1 := ne_new (h0) hq_1
  have f0_M_2 : M_2 (a) = some (.inr (4, [.null, .null, .int 0])) := by rw [eM_2, mm_up_n _ _ dq_1_0]; exact h0
  have fq_1 : M_2 q_1 = some (aJ G 24 (fun _ => 0)) := by rw [eM_2]; exact mm_up_s _ _ _
  have fr_M_2 : ∀ z, M z ≠ none → z ≠ a → M_2 z = M z := fun z h1 h2 => ((congrFun eM_2 z).trans (mm_up_n _ _ (fun e9 => h1 (by rw [e9]; exact n_q_1)))).trans (fr_0 z h1 h2)
  refine W.eq (g2 := F0 m 9 ls [.ref q_1, .ref a]) rfl ?_
  refine pf_X4_9 X hin hw (f0_M_2) (Nat.le_of_ble_eq_true rfl) dX4_init_9 (fun H9 locs9 hw => ?_)
  obtain ⟨M_3, eM_3⟩ : ∃ z, z = mm_up M_2 (a) (.inr (4, [.ref q_1, .null, .int 0])) := ⟨_, rfl⟩
  have hw : mm_W G.1 vwCl (ct_A M s.heap.size) s.heap M_3 H9 locs9 := by rw [eM_3]; exact hw
  have f0_M_3 : M_3 (a) = some (.inr (4, [.ref q_1, .null, .int 0])) := by rw [eM_3]; exact mm_up_s _ _ _
  have f1_M_3 : M_3 (q_1) = some (aJ G 24 (fun _ => 0)) := by rw [eM_3, mm_up_n _ _ (Ne.symm (dq_1_0))]; exact fq_1
  have fr_M_3 : ∀ z, M z ≠ none → z ≠ a → M_3 z = M z := fun z h1 h2 => ((congrFun eM_3 z).trans (mm_up_n _ _ (h2))).trans (fr_M_2 z h1 h2)
  refine lv_aload_n hx hb dX4_init_12 rfl (lv_at hl 0 rfl) ?_
  refine nw_X0 X hw cl_X4_15 (Nat.le_of_ble_eq_true rfl) (Nat.le_of_ble_eq_true rfl) dX4_init_13 (fun q_4 H9 hq_4 hw => ?_)
  have n_q_4 : M q_4 = none := Classical.byContradiction (fun h9 => h9 ((fr_M_3 q_4 h9 (Ne.symm (ne_new (f0_M_3) hq_4))).symm.trans hq_4))
  obtain ⟨M_5, eM_5⟩ : ∃ z, z = mm_up M_3 q_4 (.inr (0, [.null])) := ⟨_, rfl⟩
  rw [← eM_5] at hw
  have dq_4_0 : a ≠ q_4 := ne_new (f0_M_3) hq_4
  have f0_M_5 : M_5 (a) = some (.inr (4, [.ref q_1, .null, .int 0])) := by rw [eM_5, mm_up_n _ _ dq_4_0]; exact f0_M_3
  have dq_4_1 : q_1 ≠ q_4 := ne_new (f1_M_3) hq_4
  have f1_M_5 : M_5 (q_1) = some (aJ G 24 (fun _ => 0)) := by rw [eM_5, mm_up_n _ _ dq_4_1]; exact f1_M_3
  have fq_4 : M_5 q_4 = some (.inr (0, [.null])) := by rw [eM_5]; exact mm_up_s _ _ _
  have fr_M_5 : ∀ z, M z ≠ none → z ≠ a → M_5 z = M z := fun z h1 h2 => ((congrFun eM_5 z).trans (mm_up_n _ _ (fun e9 => h1 (by rw [e9]; exact n_q_4)))).trans (fr_M_3 z h1 h2)
  refine W.eq (g2 := F0 m 16 ls [.ref q_4, .ref a]) rfl ?_
  refine lv_dup hx hb dX4_init_16 rfl ?_
  refine mm_callIN (As := []) (rest := [.ref q_4, .ref a]) X hw (c_cellsInit l G _ q_4 fq_4) wd_X4_17 ⟨Nat.le_of_ble_eq_true rfl, Nat.le_of_ble_eq_true rfl⟩ ⟨Nat.le_of_ble_eq_true rfl, Nat.le_of_ble_eq_true rfl⟩ rfl rfl (Nat.le_of_ble_eq_true rfl) hl.1 dX4_init_17 (fun v9 N_7 H9 locs9 hp9 hw => ?_)
  obtain ⟨rfl, b_6, nb_b_6, fa_b_6, fb_b_6, fr9_b_6⟩ := hp9
  refine W.eq (g2 := F0 m 20 ls [.ref q_4, .ref a]) rfl ?_
  have n_b_6 : M b_6 = none := Classical.byContradiction (fun h9 => h9 ((fr_M_5 b_6 h9 (Ne.symm (ne_new (f0_M_5) nb_b_6))).symm.trans nb_b_6))
  have e0_b_6_N_7 : a ≠ b_6 := ne_new (f0_M_5) nb_b_6
  have g1_N_7 : N_7 (a) = some (.inr (4, [.ref q_1, .null, .int 0])) := (fr9_b_6 _ (sm_ne (f0_M_5)) (dq_4_0)).trans (f0_M_5)
  have e1_b_6_N_7 : q_1 ≠ b_6 := ne_new (f1_M_5) nb_b_6
  have g2_N_7 : N_7 (q_1) = some (aJ G 24 (fun _ => 0)) := (fr9_b_6 _ (sm_ne (f1_M_5)) (dq_4_1)).trans (f1_M_5)
  have e2_b_6_N_7 : q_4 ≠ b_6 := ne_new (fq_4) nb_b_6
  have fr_N_7 : ∀ z, M z ≠ none → z ≠ a → N_7 z = M z := fun z h1 h2 => (fr9_b_6 z (by rw [fr_M_5 z h1 h2]; exact h1) (fun e9 => h1 (by rw [e9]; exact n_q_4))).trans (fr_M_5 z h1 h2)
  refine pf_X4_18 X hin hw (g1_N_7) (Nat.le_of_ble_eq_true rfl) dX4_init_20 (fun H9 locs9 hw => ?_)
  obtain ⟨M_8, eM_8⟩ : ∃ z, z = mm_up N_7 (a) (.inr (4, [.ref q_1, .ref q_4, .int 0])) := ⟨_, rfl⟩
  have hw : mm_W G.1 vwCl (ct_A M s.heap.size) s.heap M_8 H9 locs9 := by rw [eM_8]; exact hw
  have f0_M_8 : M_8 (a) = some (.inr (4, [.ref q_1, .ref q_4, .int 0])) := by rw [eM_8]; exact mm_up_s _ _ _
  have f1_M_8 : M_8 (q_1) = some (aJ G 24 (fun _ => 0)) := by rw [eM_8, mm_up_n _ _ (Ne.symm (dq_1_0))]; exact g2_N_7
  have f2_M_8 : M_8 (q_4) = some (.inr (0, [.ref b_6])) := by rw [eM_8, mm_up_n _ _ (Ne.symm (dq_4_0))]; exact fa_b_6
  have f3_M_8 : M_8 (b_6) = some (aJ G 4 (fun _ => 0)) := by rw [eM_8, mm_up_n _ _ (Ne.symm (e0_b_6_N_7))]; exact fb_b_6
  have fr_M_8 : ∀ z, M z ≠ none → z ≠ a → M_8 z = M z := fun z h1 h2 => ((congrFun eM_8 z).trans (mm_up_n _ _ (h2))).trans (fr_N_7 z h1 h2)
  refine lv_aload_n hx hb dX4_init_23 rfl (lv_at hl 0 rfl) ?_
  refine lv_iconst (v := 0) hx hb dX4_init_24 (by decide) ?_
  refine pf_X4_22 X hw (f0_M_8) (Nat.le_of_ble_eq_true rfl) dX4_init_25 (fun H9 locs9 hw => ?_)
  obtain ⟨M_9, eM_9⟩ : ∃ z, z = mm_up M_8 (a) (.inr (4, [.ref q_1, .ref q_4, .int 0])) := ⟨_, rfl⟩
  have hw : mm_W G.1 vwCl (ct_A M s.heap.size) s.heap M_9 H9 locs9 := by rw [eM_9]; exact hw
  have f0_M_9 : M_9 (a) = some (.inr (4, [.ref q_1, .ref q_4, .int 0])) := by rw [eM_9]; exact mm_up_s _ _ _
  have f1_M_9 : M_9 (q_1) = some (aJ G 24 (fun _ => 0)) := by rw [eM_9, mm_up_n _ _ (Ne.symm (dq_1_0))]; exact f1_M_8
  have f2_M_9 : M_9 (q_4) = some (.inr (0, [.ref b_6])) := by rw [eM_9, mm_up_n _ _ (Ne.symm (dq_4_0))]; exact f2_M_8
  have f3_M_9 : M_9 (b_6) = some (aJ G 4 (fun _ => 0)) := by rw [eM_9, mm_up_n _ _ (Ne.symm (e0_b_6_N_7))]; exact f3_M_8
  have fr_M_9 : ∀ z, M z ≠ none → z ≠ a → M_9 z = M z := fun z h1 h2 => ((congrFun eM_9 z).trans (mm_up_n _ _ (h2))).trans (fr_M_8 z h1 h2)
  exact mm_vret hQ X hw (⟨rfl, q_1, q_4, b_6, nd_4 (dq_1_0) (dq_4_0) (e0_b_6_N_7) (dq_4_1) (e1_b_6_N_7) (e2_b_6_N_7), ⟨n_q_1, n_q_4, n_b_6⟩, f0_M_9, f1_M_9, f2_M_9, f3_M_9, fr_M_9⟩) (Nat.le_of_ble_eq_true rfl) (Nat.le_of_ble_eq_true rfl) dX4_init_28
