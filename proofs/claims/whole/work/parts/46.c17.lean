theorem al_up {M : mM} {l : List Nat} (h : ∀ z ∈ l, M z ≠ none) {a : Nat} {x : va_E} {M' : mM} (e : M' = mm_up M a x) : ∀ z ∈ l, M' z ≠ none := fun z hz => by
  rw [e]
  by_cases c : z = a
  · rw [c, mm_up_s]; exact fun h9 => by cases h9
  · rw [mm_up_n _ _ c]; exact h z hz
theorem al_new {M : mM} {l : List Nat} (h : ∀ z ∈ l, M z ≠ none) {q : Nat} {x : va_E} {M' : mM} (e : M' = mm_up M q x) : ∀ z ∈ q :: l, M' z ≠ none := fun z hz => by
  rcases List.mem_cons.mp hz with h9 | h9
  · rw [e, h9, mm_up_s]; exact fun h8 => by cases h8
  · exact al_up h e z h9
theorem nd_new {M : mM} {l : List Nat} (h : ∀ z ∈ l, M z ≠ none) (hn : l.Nodup) {q : Nat} (hq : M q = none) : (q :: l).Nodup := List.nodup_cons.mpr ⟨fun h9 => h q h9 hq, hn⟩
/-- where a field's row lies among those made, the last first -/
def ps (k : Nat) : Nat := match k with
  | 1 => 21
  | 2 => 20
  | 3 => 19
  | 4 => 18
  | 6 => 17
  | 8 => 16
  | 9 => 15
  | 10 => 14
  | 11 => 13
  | 13 => 12
  | 14 => 11
  | 15 => 10
  | 16 => 9
  | 17 => 8
  | 19 => 7
  | 20 => 6
  | 21 => 5
  | 22 => 4
  | 23 => 3
  | 25 => 2
  | 26 => 1
  | 27 => 0
  | _ => 22
theorem ps_inj : ∀ i, i < 28 → ∀ j, j < 28 → fi i = false → fi j = false → ps i = ps j → i = j := by decide +kernel
theorem ps_lt : ∀ i, i < 28 → fi i = false → ps i < 22 := by decide +kernel
set_option maxHeartbeats 2000000 in
theorem RV.start {G : mG} {M : mM} {a v1 v2 v3 v4 v6 v8 v9 v10 v11 v13 v14 v15 v16 v17 v19 v20 v21 v22 v23 v25 v26 v27 : Nat} (hnd : [v27, v26, v25, v23, v22, v21, v20, v19, v17, v16, v15, v14, v13, v11, v10, v9, v8, v6, v4, v3, v2, v1, a].Nodup) (h0 : M a = some (.inr (7, [.int 1, .ref v1, .ref v2, .ref v3, .ref v4, .int 0, .ref v6, .int 0, .ref v8, .ref v9, .ref v10, .ref v11, .int 0, .ref v13, .ref v14, .ref v15, .ref v16, .ref v17, .int 0, .ref v19, .ref v20, .ref v21, .ref v22, .ref v23, .int 0, .ref v25, .ref v26, .ref v27]))) (f1 : M v1 = some (aI G 90 (rj (fun _ => 1) (fun _ => 0) 9))) (f2 : M v2 = some (aI G 80 (rj (fun _ => -1) (fun _ => 0) 8))) (f3 : M v3 = some (aI G 10 (fun _ => 0))) (f4 : M v4 = some (aI G 10 (upd (fun _ => 0) 0 2))) (f6 : M v6 = some (aI G 1001 (fun _ => 0))) (f8 : M v8 = some (aI G 12 (fun _ => 0))) (f9 : M v9 = some (aI G 12 (fun _ => 0))) (f10 : M v10 = some (aI G 12 (fun _ => 0))) (f11 : M v11 = some (aZ G 120 (fun _ => 0))) (f13 : M v13 = some (aI G 12 (fun _ => 0))) (f14 : M v14 = some (aI G 12 (fun _ => 0))) (f15 : M v15 = some (aI G 288 (fun _ => 0))) (f16 : M v16 = some (aI G 288 (fun _ => 0))) (f17 : M v17 = some (aJ G 48 (fun _ => 0))) (f19 : M v19 = some (aI G 64 (fun _ => 0))) (f20 : M v20 = some (aI G 64 (fun _ => 0))) (f21 : M v21 = some (aJ G 64 (fun _ => 0))) (f22 : M v22 = some (aI G 64 (fun _ => 0))) (f23 : M v23 = some (aI G 64 (fun _ => 0))) (f25 : M v25 = some (aJ G 24 (fun _ => 0))) (f26 : M v26 = some (aJ G 4 (fun _ => 0))) (f27 : M v27 = some (aJ G 48 (fun _ => 0))) : RV G a (fun k => [v27, v26, v25, v23, v22, v21, v20, v19, v17, v16, v15, v14, v13, v11, v10, v9, v8, v6, v4, v3, v2, v1, a].getD (ps k) 0) s_0 (fun _ => 0) (fun _ => 0) (fun _ _ => 0) M := by
  have hg : ∀ i, ps i < 23 → [v27, v26, v25, v23, v22, v21, v20, v19, v17, v16, v15, v14, v13, v11, v10, v9, v8, v6, v4, v3, v2, v1, a][ps i]? = some ([v27, v26, v25, v23, v22, v21, v20, v19, v17, v16, v15, v14, v13, v11, v10, v9, v8, v6, v4, v3, v2, v1, a].getD (ps i) 0) := by
    intro i hi
    rw [List.getD_eq_getElem?_getD, List.getElem?_eq_getElem (show ps i < [v27, v26, v25, v23, v22, v21, v20, v19, v17, v16, v15, v14, v13, v11, v10, v9, v8, v6, v4, v3, v2, v1, a].length from hi)]; rfl
  refine ⟨h0, ?_, f11, f17, f21, f25, f26, f27, fun i j h1 h2 h3 h4 e => ?_, fun i h1 h2 e => ?_⟩
  · intro k n h
    unfold ia at h
    split at h
    · cases h; exact f1
    · cases h; exact f2
    · cases h; exact f3
    · cases h; exact f4
    · cases h; exact f6
    · cases h; exact f8
    · cases h; exact f9
    · cases h; exact f10
    · cases h; exact f13
    · cases h; exact f14
    · cases h; exact f15
    · cases h; exact f16
    · cases h; exact f19
    · cases h; exact f20
    · cases h; exact f22
    · cases h; exact f23
    · cases h
  · have p1 := ps_lt i h1 h2
    have p2 := ps_lt j h3 h4
    exact ps_inj i h1 j h3 h2 h4 ((List.getElem?_inj (show ps i < [v27, v26, v25, v23, v22, v21, v20, v19, v17, v16, v15, v14, v13, v11, v10, v9, v8, v6, v4, v3, v2, v1, a].length from (by show _ < 23; omega)) hnd).mp ((hg i (by omega)).trans ((congrArg some e).trans (hg j (by omega)).symm)))
  · have p1 := ps_lt i h1 h2
    have h9 := (List.getElem?_inj (i := ps i) (j := 22) (show ps i < [v27, v26, v25, v23, v22, v21, v20, v19, v17, v16, v15, v14, v13, v11, v10, v9, v8, v6, v4, v3, v2, v1, a].length from (by show _ < 23; omega)) hnd).mp ((hg i (by omega)).trans (congrArg some e))
    omega
set_option maxHeartbeats 4000000 in
set_option maxRecDepth 100000 in
theorem m_init (l : Launch) (G : mG) (M : mM) (a : Nat) (h0 : M (a) = some (.inr (7, [.int 0, .null, .null, .null, .null, .int 0, .null, .int 0, .null, .null, .null, .null, .int 0, .null, .null, .null, .null, .null, .int 0, .null, .null, .null, .null, .null, .int 0, .null, .null, .null]))) : Ct l yX7_init cX7_init 2 none (mm_r 1 22 2420) G [.ref a] M (fun r M1 => r = none ∧ ∃ L K, RV G a L s_0 (fun _ => 0) (fun _ => 0) K M1) := by
  refine Ct.of (by decide) (Nat.le_of_ble_eq_true rfl) ?_
  intro p e s m args below meth c ls Q X hin hl hw hQ
  have hx := X.1
  have hb := X.2.1
  have hl : lv_has ls 2 [(0, .ref a)] := hl
  have fr_0 : ∀ z, M z ≠ none → z ≠ a → M z = M z := fun _ _ _ => rfl
  have hnd : [a].Nodup := by simp
  have hal : ∀ z ∈ [a], M z ≠ none := fun z hz => (by rw [List.mem_singleton.mp hz]; exact sm_ne h0)
  refine lv_aload_n hx hb dX7_init_0 rfl (lv_at hl 0 rfl) ?_
  refine W.objInit hx hb X.2.2.2.1 (X.2.2.2.2.1 _ ml_X7_1) (X.2.2.2.2.1 _ im_objectInit) (X.2.2.2.2.1 _ co_objectInit) rfl (by rw [X.2.2.1]; exact hl.1) rfl dX7_init_1 (Nat.le_of_ble_eq_true rfl) (Nat.le_of_ble_eq_true rfl) ?_
  refine W.eq (g2 := F0 m 4 ls []) rfl ?_
  refine lv_aload_n hx hb dX7_init_4 rfl (lv_at hl 0 rfl) ?_
  refine lv_iconst (v := 1) hx hb dX7_init_5 (by decide) ?_
  refine pf_X7_7 X hw (h0) (Nat.le_of_ble_eq_true rfl) dX7_init_6 (fun H9 locs9 hw => ?_)
  obtain ⟨M_1, eM_1⟩ : ∃ z, z = mm_up M (a) (.inr (7, [.int 1, .null, .null, .null, .null, .int 0, .null, .int 0, .null, .null, .null, .null, .int 0, .null, .null, .null, .null, .null, .int 0, .null, .null, .null, .null, .null, .int 0, .null, .null, .null])) := ⟨_, rfl⟩
  have hw : mm_W G.1 vwCl (ct_A M s.heap.size) s.heap M_1 H9 locs9 := by rw [eM_1]; exact hw
  have f0_M_1 : M_1 (a) = some (.inr (7, [.int 1, .null, .null, .null, .null, .int 0, .null, .int 0, .null, .null, .null, .null, .int 0, .null, .null, .null, .null, .null, .int 0, .null, .null, .null, .null, .null, .int 0, .null, .null, .null])) := by rw [eM_1]; exact mm_up_s _ _ _
  have fr_M_1 : ∀ z, M z ≠ none → z ≠ a → M_1 z = M z := fun z h1 h2 => ((congrFun eM_1 z).trans (mm_up_n _ _ (h2))).trans (fr_0 z h1 h2)
  have hal := al_up hal eM_1
  refine lv_aload_n hx hb dX7_init_9 rfl (lv_at hl 0 rfl) ?_
  refine lv_bipush (v := 90) hx hb dX7_init_10 (by decide) ?_
  refine nw_I X hw 90 rfl (by decide) (Nat.le_of_ble_eq_true rfl) (Nat.le_of_ble_eq_true rfl) dX7_init_12 (fun q_2 H9 hq_2 hw => ?_)
  have n_q_2 : M q_2 = none := Classical.byContradiction (fun h9 => h9 ((fr_M_1 q_2 h9 (Ne.symm (ne_new (f0_M_1) hq_2))).symm.trans hq_2))
  obtain ⟨M_3, eM_3⟩ : ∃ z, z = mm_up M_1 q_2 (aI G 90 (fun _ => 0)) := ⟨_, rfl⟩
  rw [← eM_3] at hw
  have dq_2_0 : a ≠ q_2 := ne_new (f0_M_1) hq_2
  have f0_M_3 : M_3 (a) = some (.inr (7, [.int 1, .null, .null, .null, .null, .int 0, .null, .int 0, .null, .null, .null, .null, .int 0, .null, .null, .null, .null, .null, .int 0, .null, .null, .null, .null, .null, .int 0, .null, .null, .null])) := by rw [eM_3, mm_up_n _ _ dq_2_0]; exact f0_M_1
  have fq_2 : M_3 q_2 = some (aI G 90 (fun _ => 0)) := by rw [eM_3]; exact mm_up_s _ _ _
  have fr_M_3 : ∀ z, M z ≠ none → z ≠ a → M_3 z = M z := fun z h1 h2 => ((congrFun eM_3 z).trans (mm_up_n _ _ (fun e9 => h1 (by rw [e9]; exact n_q_2)))).trans (fr_M_1 z h1 h2)
  refine W.eq (g2 := F0 m 14 ls [.ref q_2, .ref a]) rfl ?_
  have hnd := nd_new hal hnd hq_2
  have hal := al_new hal eM_3
  refine pf_X7_13 X hin hw (f0_M_3) (Nat.le_of_ble_eq_true rfl) dX7_init_14 (fun H9 locs9 hw => ?_)
  obtain ⟨M_4, eM_4⟩ : ∃ z, z = mm_up M_3 (a) (.inr (7, [.int 1, .ref q_2, .null, .null, .null, .int 0, .null, .int 0, .null, .null, .null, .null, .int 0, .null, .null, .null, .null, .null, .int 0, .null, .null, .null, .null, .null, .int 0, .null, .null, .null])) := ⟨_, rfl⟩
  have hw : mm_W G.1 vwCl (ct_A M s.heap.size) s.heap M_4 H9 locs9 := by rw [eM_4]; exact hw
  have f0_M_4 : M_4 (a) = some (.inr (7, [.int 1, .ref q_2, .null, .null, .null, .int 0, .null, .int 0, .null, .null, .null, .null, .int 0, .null, .null, .null, .null, .null, .int 0, .null, .null, .null, .null, .null, .int 0, .null, .null, .null])) := by rw [eM_4]; exact mm_up_s _ _ _
  have f1_M_4 : M_4 (q_2) = some (aI G 90 (fun _ => 0)) := by rw [eM_4, mm_up_n _ _ (Ne.symm (dq_2_0))]; exact fq_2
  have fr_M_4 : ∀ z, M z ≠ none → z ≠ a → M_4 z = M z := fun z h1 h2 => ((congrFun eM_4 z).trans (mm_up_n _ _ (h2))).trans (fr_M_3 z h1 h2)
  have hal := al_up hal eM_4
  refine lv_aload_n hx hb dX7_init_17 rfl (lv_at hl 0 rfl) ?_
  refine lv_bipush (v := 80) hx hb dX7_init_18 (by decide) ?_
  refine nw_I X hw 80 rfl (by decide) (Nat.le_of_ble_eq_true rfl) (Nat.le_of_ble_eq_true rfl) dX7_init_20 (fun q_5 H9 hq_5 hw => ?_)
  have n_q_5 : M q_5 = none := Classical.byContradiction (fun h9 => h9 ((fr_M_4 q_5 h9 (Ne.symm (ne_new (f0_M_4) hq_5))).symm.trans hq_5))
  obtain ⟨M_6, eM_6⟩ : ∃ z, z = mm_up M_4 q_5 (aI G 80 (fun _ => 0)) := ⟨_, rfl⟩
  rw [← eM_6] at hw
  have dq_5_0 : a ≠ q_5 := ne_new (f0_M_4) hq_5
  have f0_M_6 : M_6 (a) = some (.inr (7, [.int 1, .ref q_2, .null, .null, .null, .int 0, .null, .int 0, .null, .null, .null, .null, .int 0, .null, .null, .null, .null, .null, .int 0, .null, .null, .null, .null, .null, .int 0, .null, .null, .null])) := by rw [eM_6, mm_up_n _ _ dq_5_0]; exact f0_M_4
  have dq_5_1 : q_2 ≠ q_5 := ne_new (f1_M_4) hq_5
  have f1_M_6 : M_6 (q_2) = some (aI G 90 (fun _ => 0)) := by rw [eM_6, mm_up_n _ _ dq_5_1]; exact f1_M_4
  have fq_5 : M_6 q_5 = some (aI G 80 (fun _ => 0)) := by rw [eM_6]; exact mm_up_s _ _ _
  have fr_M_6 : ∀ z, M z ≠ none → z ≠ a → M_6 z = M z := fun z h1 h2 => ((congrFun eM_6 z).trans (mm_up_n _ _ (fun e9 => h1 (by rw [e9]; exact n_q_5)))).trans (fr_M_4 z h1 h2)
  refine W.eq (g2 := F0 m 22 ls [.ref q_5, .ref a]) rfl ?_
  have hnd := nd_new hal hnd hq_5
  have hal := al_new hal eM_6
  refine pf_X7_17 X hin hw (f0_M_6) (Nat.le_of_ble_eq_true rfl) dX7_init_22 (fun H9 locs9 hw => ?_)
  obtain ⟨M_7, eM_7⟩ : ∃ z, z = mm_up M_6 (a) (.inr (7, [.int 1, .ref q_2, .ref q_5, .null, .null, .int 0, .null, .int 0, .null, .null, .null, .null, .int 0, .null, .null, .null, .null, .null, .int 0, .null, .null, .null, .null, .null, .int 0, .null, .null, .null])) := ⟨_, rfl⟩
  have hw : mm_W G.1 vwCl (ct_A M s.heap.size) s.heap M_7 H9 locs9 := by rw [eM_7]; exact hw
  have f0_M_7 : M_7 (a) = some (.inr (7, [.int 1, .ref q_2, .ref q_5, .null, .null, .int 0, .null, .int 0, .null, .null, .null, .null, .int 0, .null, .null, .null, .null, .null, .int 0, .null, .null, .null, .null, .null, .int 0, .null, .null, .null])) := by rw [eM_7]; exact mm_up_s _ _ _
  have f1_M_7 : M_7 (q_2) = some (aI G 90 (fun _ => 0)) := by rw [eM_7, mm_up_n _ _ (Ne.symm (dq_2_0))]; exact f1_M_6
  have f2_M_7 : M_7 (q_5) = some (aI G 80 (fun _ => 0)) := by rw [eM_7, mm_up_n _ _ (Ne.symm (dq_5_0))]; exact fq_5
  have fr_M_7 : ∀ z, M z ≠ none → z ≠ a → M_7 z = M z := fun z h1 h2 => ((congrFun eM_7 z).trans (mm_up_n _ _ (h2))).trans (fr_M_6 z h1 h2)
  have hal := al_up hal eM_7
  refine lv_aload_n hx hb dX7_init_25 rfl (lv_at hl 0 rfl) ?_
  refine lv_bipush (v := 10) hx hb dX7_init_26 (by decide) ?_
  refine nw_I X hw 10 rfl (by decide) (Nat.le_of_ble_eq_true rfl) (Nat.le_of_ble_eq_true rfl) dX7_init_28 (fun q_8 H9 hq_8 hw => ?_)
  have n_q_8 : M q_8 = none := Classical.byContradiction (fun h9 => h9 ((fr_M_7 q_8 h9 (Ne.symm (ne_new (f0_M_7) hq_8))).symm.trans hq_8))
  obtain ⟨M_9, eM_9⟩ : ∃ z, z = mm_up M_7 q_8 (aI G 10 (fun _ => 0)) := ⟨_, rfl⟩
  rw [← eM_9] at hw
  have dq_8_0 : a ≠ q_8 := ne_new (f0_M_7) hq_8
  have f0_M_9 : M_9 (a) = some (.inr (7, [.int 1, .ref q_2, .ref q_5, .null, .null, .int 0, .null, .int 0, .null, .null, .null, .null, .int 0, .null, .null, .null, .null, .null, .int 0, .null, .null, .null, .null, .null, .int 0, .null, .null, .null])) := by rw [eM_9, mm_up_n _ _ dq_8_0]; exact f0_M_7
  have dq_8_1 : q_2 ≠ q_8 := ne_new (f1_M_7) hq_8
  have f1_M_9 : M_9 (q_2) = some (aI G 90 (fun _ => 0)) := by rw [eM_9, mm_up_n _ _ dq_8_1]; exact f1_M_7
  have dq_8_2 : q_5 ≠ q_8 := ne_new (f2_M_7) hq_8
  have f2_M_9 : M_9 (q_5) = some (aI G 80 (fun _ => 0)) := by rw [eM_9, mm_up_n _ _ dq_8_2]; exact f2_M_7
  have fq_8 : M_9 q_8 = some (aI G 10 (fun _ => 0)) := by rw [eM_9]; exact mm_up_s _ _ _
  have fr_M_9 : ∀ z, M z ≠ none → z ≠ a → M_9 z = M z := fun z h1 h2 => ((congrFun eM_9 z).trans (mm_up_n _ _ (fun e9 => h1 (by rw [e9]; exact n_q_8)))).trans (fr_M_7 z h1 h2)
  refine W.eq (g2 := F0 m 30 ls [.ref q_8, .ref a]) rfl ?_
  have hnd := nd_new hal hnd hq_8
  have hal := al_new hal eM_9
  refine pf_X7_20 X hin hw (f0_M_9) (Nat.le_of_ble_eq_true rfl) dX7_init_30 (fun H9 locs9 hw => ?_)
  obtain ⟨M_10, eM_10⟩ : ∃ z, z = mm_up M_9 (a) (.inr (7, [.int 1, .ref q_2, .ref q_5, .ref q_8, .null, .int 0, .null, .int 0, .null, .null, .null, .null, .int 0, .null, .null, .null, .null, .null, .int 0, .null, .null, .null, .null, .null, .int 0, .null, .null, .null])) := ⟨_, rfl⟩
  have hw : mm_W G.1 vwCl (ct_A M s.heap.size) s.heap M_10 H9 locs9 := by rw [eM_10]; exact hw
  have f0_M_10 : M_10 (a) = some (.inr (7, [.int 1, .ref q_2, .ref q_5, .ref q_8, .null, .int 0, .null, .int 0, .null, .null, .null, .null, .int 0, .null, .null, .null, .null, .null, .int 0, .null, .null, .null, .null, .null, .int 0, .null, .null, .null])) := by rw [eM_10]; exact mm_up_s _ _ _
  have f1_M_10 : M_10 (q_2) = some (aI G 90 (fun _ => 0)) := by rw [eM_10, mm_up_n _ _ (Ne.symm (dq_2_0))]; exact f1_M_9
  have f2_M_10 : M_10 (q_5) = some (aI G 80 (fun _ => 0)) := by rw [eM_10, mm_up_n _ _ (Ne.symm (dq_5_0))]; exact f2_M_9
  have f3_M_10 : M_10 (q_8) = some (aI G 10 (fun _ => 0)) := by rw [eM_10, mm_up_n _ _ (Ne.symm (dq_8_0))]; exact fq_8
  have fr_M_10 : ∀ z, M z ≠ none → z ≠ a → M_10 z = M z := fun z h1 h2 => ((congrFun eM_10 z).trans (mm_up_n _ _ (h2))).trans (fr_M_9 z h1 h2)
  have hal := al_up hal eM_10
  refine lv_aload_n hx hb dX7_init_33 rfl (lv_at hl 0 rfl) ?_
  refine lv_bipush (v := 10) hx hb dX7_init_34 (by decide) ?_
  refine nw_I X hw 10 rfl (by decide) (Nat.le_of_ble_eq_true rfl) (Nat.le_of_ble_eq_true rfl) dX7_init_36 (fun q_11 H9 hq_11 hw => ?_)
  have n_q_11 : M q_11 = none := Classical.byContradiction (fun h9 => h9 ((fr_M_10 q_11 h9 (Ne.symm (ne_new (f0_M_10) hq_11))).symm.trans hq_11))
  obtain ⟨M_12, eM_12⟩ : ∃ z, z = mm_up M_10 q_11 (aI G 10 (fun _ => 0)) := ⟨_, rfl⟩
  rw [← eM_12] at hw
  have dq_11_0 : a ≠ q_11 := ne_new (f0_M_10) hq_11
  have f0_M_12 : M_12 (a) = some (.inr (7, [.int 1, .ref q_2, .ref q_5, .ref q_8, .null, .int 0, .null, .int 0, .null, .null, .null, .null, .int 0, .null, .null, .null, .null, .null, .int 0, .null, .null, .null, .null, .null, .int 0, .null, .null, .null])) := by rw [eM_12, mm_up_n _ _ dq_11_0]; exact f0_M_10
  have dq_11_1 : q_2 ≠ q_11 := ne_new (f1_M_10) hq_11
  have f1_M_12 : M_12 (q_2) = some (aI G 90 (fun _ => 0)) := by rw [eM_12, mm_up_n _ _ dq_11_1]; exact f1_M_10
  have dq_11_2 : q_5 ≠ q_11 := ne_new (f2_M_10) hq_11
  have f2_M_12 : M_12 (q_5) = some (aI G 80 (fun _ => 0)) := by rw [eM_12, mm_up_n _ _ dq_11_2]; exact f2_M_10
  have dq_11_3 : q_8 ≠ q_11 := ne_new (f3_M_10) hq_11
  have f3_M_12 : M_12 (q_8) = some (aI G 10 (fun _ => 0)) := by rw [eM_12, mm_up_n _ _ dq_11_3]; exact f3_M_10
  have fq_11 : M_12 q_11 = some (aI G 10 (fun _ => 0)) := by rw [eM_12]; exact mm_up_s _ _ _
  have fr_M_12 : ∀ z, M z ≠ none → z ≠ a → M_12 z = M z := fun z h1 h2 => ((congrFun eM_12 z).trans (mm_up_n _ _ (fun e9 => h1 (by rw [e9]; exact n_q_11)))).trans (fr_M_10 z h1 h2)
  refine W.eq (g2 := F0 m 38 ls [.ref q_11, .ref a]) rfl ?_
  have hnd := nd_new hal hnd hq_11
  have hal := al_new hal eM_12
  refine pf_X7_23 X hin hw (f0_M_12) (Nat.le_of_ble_eq_true rfl) dX7_init_38 (fun H9 locs9 hw => ?_)
  obtain ⟨M_13, eM_13⟩ : ∃ z, z = mm_up M_12 (a) (.inr (7, [.int 1, .ref q_2, .ref q_5, .ref q_8, .ref q_11, .int 0, .null, .int 0, .null, .null, .null, .null, .int 0, .null, .null, .null, .null, .null, .int 0, .null, .null, .null, .null, .null, .int 0, .null, .null, .null])) := ⟨_, rfl⟩
  have hw : mm_W G.1 vwCl (ct_A M s.heap.size) s.heap M_13 H9 locs9 := by rw [eM_13]; exact hw
  have f0_M_13 : M_13 (a) = some (.inr (7, [.int 1, .ref q_2, .ref q_5, .ref q_8, .ref q_11, .int 0, .null, .int 0, .null, .null, .null, .null, .int 0, .null, .null, .null, .null, .null, .int 0, .null, .null, .null, .null, .null, .int 0, .null, .null, .null])) := by rw [eM_13]; exact mm_up_s _ _ _
  have f1_M_13 : M_13 (q_2) = some (aI G 90 (fun _ => 0)) := by rw [eM_13, mm_up_n _ _ (Ne.symm (dq_2_0))]; exact f1_M_12
  have f2_M_13 : M_13 (q_5) = some (aI G 80 (fun _ => 0)) := by rw [eM_13, mm_up_n _ _ (Ne.symm (dq_5_0))]; exact f2_M_12
  have f3_M_13 : M_13 (q_8) = some (aI G 10 (fun _ => 0)) := by rw [eM_13, mm_up_n _ _ (Ne.symm (dq_8_0))]; exact f3_M_12
  have f4_M_13 : M_13 (q_11) = some (aI G 10 (fun _ => 0)) := by rw [eM_13, mm_up_n _ _ (Ne.symm (dq_11_0))]; exact fq_11
  have fr_M_13 : ∀ z, M z ≠ none → z ≠ a → M_13 z = M z := fun z h1 h2 => ((congrFun eM_13 z).trans (mm_up_n _ _ (h2))).trans (fr_M_12 z h1 h2)
  have hal := al_up hal eM_13
  refine lv_aload_n hx hb dX7_init_41 rfl (lv_at hl 0 rfl) ?_
  refine lv_sipush (v := 1001) hx hb dX7_init_42 (by decide) ?_
  refine nw_I X hw 1001 rfl (by decide) (Nat.le_of_ble_eq_true rfl) (Nat.le_of_ble_eq_true rfl) dX7_init_45 (fun q_14 H9 hq_14 hw => ?_)
  have n_q_14 : M q_14 = none := Classical.byContradiction (fun h9 => h9 ((fr_M_13 q_14 h9 (Ne.symm (ne_new (f0_M_13) hq_14))).symm.trans hq_14))
  obtain ⟨M_15, eM_15⟩ : ∃ z, z = mm_up M_13 q_14 (aI G 1001 (fun _ => 0)) := ⟨_, rfl⟩
  rw [← eM_15] at hw
  have dq_14_0 : a ≠ q_14 := ne_new (f0_M_13) hq_14
  have f0_M_15 : M_15 (a) = some (.inr (7, [.int 1, .ref q_2, .ref q_5, .ref q_8, .ref q_11, .int 0, .null, .int 0, .null, .null, .null, .null, .int 0, .null, .null, .null, .null, .null, .int 0, .null, .null, .null, .null, .null, .int 0, .null, .null, .null])) := by rw [eM_15, mm_up_n _ _ dq_14_0]; exact f0_M_13
  have dq_14_1 : q_2 ≠ q_14 := ne_new (f1_M_13) hq_14
  have f1_M_15 : M_15 (q_2) = some (aI G 90 (fun _ => 0)) := by rw [eM_15, mm_up_n _ _ dq_14_1]; exact f1_M_13
  have dq_14_2 : q_5 ≠ q_14 := ne_new (f2_M_13) hq_14
  have f2_M_15 : M_15 (q_5) = some (aI G 80 (fun _ => 0)) := by rw [eM_15, mm_up_n _ _ dq_14_2]; exact f2_M_13
  have dq_14_3 : q_8 ≠ q_14 := ne_new (f3_M_13) hq_14
  have f3_M_15 : M_15 (q_8) = some (aI G 10 (fun _ => 0)) := by rw [eM_15, mm_up_n _ _ dq_14_3]; exact f3_M_13
  have dq_14_4 : q_11 ≠ q_14 := ne_new (f4_M_13) hq_14
  have f4_M_15 : M_15 (q_11) = some (aI G 10 (fun _ => 0)) := by rw [eM_15, mm_up_n _ _ dq_14_4]; exact f4_M_13
  have fq_14 : M_15 q_14 = some (aI G 1001 (fun _ => 0)) := by rw [eM_15]; exact mm_up_s _ _ _
  have fr_M_15 : ∀ z, M z ≠ none → z ≠ a → M_15 z = M z := fun z h1 h2 => ((congrFun eM_15 z).trans (mm_up_n _ _ (fun e9 => h1 (by rw [e9]; exact n_q_14)))).trans (fr_M_13 z h1 h2)
  refine W.eq (g2 := F0 m 47 ls [.ref q_14, .ref a]) rfl ?_
  have hnd := nd_new hal hnd hq_14
  have hal := al_new hal eM_15
  refine pf_X7_26 X hin hw (f0_M_15) (Nat.le_of_ble_eq_true rfl) dX7_init_47 (fun H9 locs9 hw => ?_)
  obtain ⟨M_16, eM_16⟩ : ∃ z, z = mm_up M_15 (a) (.inr (7, [.int 1, .ref q_2, .ref q_5, .ref q_8, .ref q_11, .int 0, .ref q_14, .int 0, .null, .null, .null, .null, .int 0, .null, .null, .null, .null, .null, .int 0, .null, .null, .null, .null, .null, .int 0, .null, .null, .null])) := ⟨_, rfl⟩
  have hw : mm_W G.1 vwCl (ct_A M s.heap.size) s.heap M_16 H9 locs9 := by rw [eM_16]; exact hw
  have f0_M_16 : M_16 (a) = some (.inr (7, [.int 1, .ref q_2, .ref q_5, .ref q_8, .ref q_11, .int 0, .ref q_14, .int 0, .null, .null, .null, .null, .int 0, .null, .null, .null, .null, .null, .int 0, .null, .null, .null, .null, .null, .int 0, .null, .null, .null])) := by rw [eM_16]; exact mm_up_s _ _ _
  have f1_M_16 : M_16 (q_2) = some (aI G 90 (fun _ => 0)) := by rw [eM_16, mm_up_n _ _ (Ne.symm (dq_2_0))]; exact f1_M_15
  have f2_M_16 : M_16 (q_5) = some (aI G 80 (fun _ => 0)) := by rw [eM_16, mm_up_n _ _ (Ne.symm (dq_5_0))]; exact f2_M_15
  have f3_M_16 : M_16 (q_8) = some (aI G 10 (fun _ => 0)) := by rw [eM_16, mm_up_n _ _ (Ne.symm (dq_8_0))]; exact f3_M_15
  have f4_M_16 : M_16 (q_11) = some (aI G 10 (fun _ => 0)) := by rw [eM_16, mm_up_n _ _ (Ne.symm (dq_11_0))]; exact f4_M_15
  have f5_M_16 : M_16 (q_14) = some (aI G 1001 (fun _ => 0)) := by rw [eM_16, mm_up_n _ _ (Ne.symm (dq_14_0))]; exact fq_14
  have fr_M_16 : ∀ z, M z ≠ none → z ≠ a → M_16 z = M z := fun z h1 h2 => ((congrFun eM_16 z).trans (mm_up_n _ _ (h2))).trans (fr_M_15 z h1 h2)
  have hal := al_up hal eM_16
  refine lv_aload_n hx hb dX7_init_50 rfl (lv_at hl 0 rfl) ?_
  refine lv_bipush (v := 12) hx hb dX7_init_51 (by decide) ?_
  refine nw_I X hw 12 rfl (by decide) (Nat.le_of_ble_eq_true rfl) (Nat.le_of_ble_eq_true rfl) dX7_init_53 (fun q_17 H9 hq_17 hw => ?_)
  have n_q_17 : M q_17 = none := Classical.byContradiction (fun h9 => h9 ((fr_M_16 q_17 h9 (Ne.symm (ne_new (f0_M_16) hq_17))).symm.trans hq_17))
  obtain ⟨M_18, eM_18⟩ : ∃ z, z = mm_up M_16 q_17 (aI G 12 (fun _ => 0)) := ⟨_, rfl⟩
  rw [← eM_18] at hw
  have dq_17_0 : a ≠ q_17 := ne_new (f0_M_16) hq_17
  have f0_M_18 : M_18 (a) = some (.inr (7, [.int 1, .ref q_2, .ref q_5, .ref q_8, .ref q_11, .int 0, .ref q_14, .int 0, .null, .null, .null, .null, .int 0, .null, .null, .null, .null, .null, .int 0, .null, .null, .null, .null, .null, .int 0, .null, .null, .null])) := by rw [eM_18, mm_up_n _ _ dq_17_0]; exact f0_M_16
  have dq_17_1 : q_2 ≠ q_17 := ne_new (f1_M_16) hq_17
  have f1_M_18 : M_18 (q_2) = some (aI G 90 (fun _ => 0)) := by rw [eM_18, mm_up_n _ _ dq_17_1]; exact f1_M_16
  have dq_17_2 : q_5 ≠ q_17 := ne_new (f2_M_16) hq_17
  have f2_M_18 : M_18 (q_5) = some (aI G 80 (fun _ => 0)) := by rw [eM_18, mm_up_n _ _ dq_17_2]; exact f2_M_16
  have dq_17_3 : q_8 ≠ q_17 := ne_new (f3_M_16) hq_17
  have f3_M_18 : M_18 (q_8) = some (aI G 10 (fun _ => 0)) := by rw [eM_18, mm_up_n _ _ dq_17_3]; exact f3_M_16
  have dq_17_4 : q_11 ≠ q_17 := ne_new (f4_M_16) hq_17
  have f4_M_18 : M_18 (q_11) = some (aI G 10 (fun _ => 0)) := by rw [eM_18, mm_up_n _ _ dq_17_4]; exact f4_M_16
  have dq_17_5 : q_14 ≠ q_17 := ne_new (f5_M_16) hq_17
  have f5_M_18 : M_18 (q_14) = some (aI G 1001 (fun _ => 0)) := by rw [eM_18, mm_up_n _ _ dq_17_5]; exact f5_M_16
  have fq_17 : M_18 q_17 = some (aI G 12 (fun _ => 0)) := by rw [eM_18]; exact mm_up_s _ _ _
  have fr_M_18 : ∀ z, M z ≠ none → z ≠ a → M_18 z = M z := fun z h1 h2 => ((congrFun eM_18 z).trans (mm_up_n _ _ (fun e9 => h1 (by rw [e9]; exact n_q_17)))).trans (fr_M_16 z h1 h2)
  refine W.eq (g2 := F0 m 55 ls [.ref q_17, .ref a]) rfl ?_
  have hnd := nd_new hal hnd hq_17
  have hal := al_new hal eM_18
  refine pf_X7_29 X hin hw (f0_M_18) (Nat.le_of_ble_eq_true rfl) dX7_init_55 (fun H9 locs9 hw => ?_)
  obtain ⟨M_19, eM_19⟩ : ∃ z, z = mm_up M_18 (a) (.inr (7, [.int 1, .ref q_2, .ref q_5, .ref q_8, .ref q_11, .int 0, .ref q_14, .int 0, .ref q_17, .null, .null, .null, .int 0, .null, .null, .null, .null, .null, .int 0, .null, .null, .null, .null, .null, .int 0, .null, .null, .null])) := ⟨_, rfl⟩
  have hw : mm_W G.1 vwCl (ct_A M s.heap.size) s.heap M_19 H9 locs9 := by rw [eM_19]; exact hw
  have f0_M_19 : M_19 (a) = some (.inr (7, [.int 1, .ref q_2, .ref q_5, .ref q_8, .ref q_11, .int 0, .ref q_14, .int 0, .ref q_17, .null, .null, .null, .int 0, .null, .null, .null, .null, .null, .int 0, .null, .null, .null, .null, .null, .int 0, .null, .null, .null])) := by rw [eM_19]; exact mm_up_s _ _ _
  have f1_M_19 : M_19 (q_2) = some (aI G 90 (fun _ => 0)) := by rw [eM_19, mm_up_n _ _ (Ne.symm (dq_2_0))]; exact f1_M_18
  have f2_M_19 : M_19 (q_5) = some (aI G 80 (fun _ => 0)) := by rw [eM_19, mm_up_n _ _ (Ne.symm (dq_5_0))]; exact f2_M_18
  have f3_M_19 : M_19 (q_8) = some (aI G 10 (fun _ => 0)) := by rw [eM_19, mm_up_n _ _ (Ne.symm (dq_8_0))]; exact f3_M_18
  have f4_M_19 : M_19 (q_11) = some (aI G 10 (fun _ => 0)) := by rw [eM_19, mm_up_n _ _ (Ne.symm (dq_11_0))]; exact f4_M_18
  have f5_M_19 : M_19 (q_14) = some (aI G 1001 (fun _ => 0)) := by rw [eM_19, mm_up_n _ _ (Ne.symm (dq_14_0))]; exact f5_M_18
  have f6_M_19 : M_19 (q_17) = some (aI G 12 (fun _ => 0)) := by rw [eM_19, mm_up_n _ _ (Ne.symm (dq_17_0))]; exact fq_17
  have fr_M_19 : ∀ z, M z ≠ none → z ≠ a → M_19 z = M z := fun z h1 h2 => ((congrFun eM_19 z).trans (mm_up_n _ _ (h2))).trans (fr_M_18 z h1 h2)
  have hal := al_up hal eM_19
  refine lv_aload_n hx hb dX7_init_58 rfl (lv_at hl 0 rfl) ?_
  refine lv_bipush (v := 12) hx hb dX7_init_59 (by decide) ?_
  refine nw_I X hw 12 rfl (by decide) (Nat.le_of_ble_eq_true rfl) (Nat.le_of_ble_eq_true rfl) dX7_init_61 (fun q_20 H9 hq_20 hw => ?_)
  have n_q_20 : M q_20 = none := Classical.byContradiction (fun h9 => h9 ((fr_M_19 q_20 h9 (Ne.symm (ne_new (f0_M_19) hq_20))).symm.trans hq_20))
  obtain ⟨M_21, eM_21⟩ : ∃ z, z = mm_up M_19 q_20 (aI G 12 (fun _ => 0)) := ⟨_, rfl⟩
  rw [← eM_21] at hw
  have dq_20_0 : a ≠ q_20 := ne_new (f0_M_19) hq_20
  have f0_M_21 : M_21 (a) = some (.inr (7, [.int 1, .ref q_2, .ref q_5, .ref q_8, .ref q_11, .int 0, .ref q_14, .int 0, .ref q_17, .null, .null, .null, .int 0, .null, .null, .null, .null, .null, .int 0, .null, .null, .null, .null, .null, .int 0, .null, .null, .null])) := by rw [eM_21, mm_up_n _ _ dq_20_0]; exact f0_M_19
  have dq_20_1 : q_2 ≠ q_20 := ne_new (f1_M_19) hq_20
  have f1_M_21 : M_21 (q_2) = some (aI G 90 (fun _ => 0)) := by rw [eM_21, mm_up_n _ _ dq_20_1]; exact f1_M_19
  have dq_20_2 : q_5 ≠ q_20 := ne_new (f2_M_19) hq_20
  have f2_M_21 : M_21 (q_5) = some (aI G 80 (fun _ => 0)) := by rw [eM_21, mm_up_n _ _ dq_20_2]; exact f2_M_19
  have dq_20_3 : q_8 ≠ q_20 := ne_new (f3_M_19) hq_20
  have f3_M_21 : M_21 (q_8) = some (aI G 10 (fun _ => 0)) := by rw [eM_21, mm_up_n _ _ dq_20_3]; exact f3_M_19
  have dq_20_4 : q_11 ≠ q_20 := ne_new (f4_M_19) hq_20
  have f4_M_21 : M_21 (q_11) = some (aI G 10 (fun _ => 0)) := by rw [eM_21, mm_up_n _ _ dq_20_4]; exact f4_M_19
  have dq_20_5 : q_14 ≠ q_20 := ne_new (f5_M_19) hq_20
  have f5_M_21 : M_21 (q_14) = some (aI G 1001 (fun _ => 0)) := by rw [eM_21, mm_up_n _ _ dq_20_5]; exact f5_M_19
  have dq_20_6 : q_17 ≠ q_20 := ne_new (f6_M_19) hq_20
  have f6_M_21 : M_21 (q_17) = some (aI G 12 (fun _ => 0)) := by rw [eM_21, mm_up_n _ _ dq_20_6]; exact f6_M_19
  have fq_20 : M_21 q_20 = some (aI G 12 (fun _ => 0)) := by rw [eM_21]; exact mm_up_s _ _ _
  have fr_M_21 : ∀ z, M z ≠ none → z ≠ a → M_21 z = M z := fun z h1 h2 => ((congrFun eM_21 z).trans (mm_up_n _ _ (fun e9 => h1 (by rw [e9]; exact n_q_20)))).trans (fr_M_19 z h1 h2)
  refine W.eq (g2 := F0 m 63 ls [.ref q_20, .ref a]) rfl ?_
  have hnd := nd_new hal hnd hq_20
  have hal := al_new hal eM_21
  refine pf_X7_32 X hin hw (f0_M_21) (Nat.le_of_ble_eq_true rfl) dX7_init_63 (fun H9 locs9 hw => ?_)
  obtain ⟨M_22, eM_22⟩ : ∃ z, z = mm_up M_21 (a) (.inr (7, [.int 1, .ref q_2, .ref q_5, .ref q_8, .ref q_11, .int 0, .ref q_14, .int 0, .ref q_17, .ref q_20, .null, .null, .int 0, .null, .null, .null, .null, .null, .int 0, .null, .null, .null, .null, .null, .int 0, .null, .null, .null])) := ⟨_, rfl⟩
  have hw : mm_W G.1 vwCl (ct_A M s.heap.size) s.heap M_22 H9 locs9 := by rw [eM_22]; exact hw
  have f0_M_22 : M_22 (a) = some (.inr (7, [.int 1, .ref q_2, .ref q_5, .ref q_8, .ref q_11, .int 0, .ref q_14, .int 0, .ref q_17, .ref q_20, .null, .null, .int 0, .null, .null, .null, .null, .null, .int 0, .null, .null, .null, .null, .null, .int 0, .null, .null, .null])) := by rw [eM_22]; exact mm_up_s _ _ _
  have f1_M_22 : M_22 (q_2) = some (aI G 90 (fun _ => 0)) := by rw [eM_22, mm_up_n _ _ (Ne.symm (dq_2_0))]; exact f1_M_21
  have f2_M_22 : M_22 (q_5) = some (aI G 80 (fun _ => 0)) := by rw [eM_22, mm_up_n _ _ (Ne.symm (dq_5_0))]; exact f2_M_21
  have f3_M_22 : M_22 (q_8) = some (aI G 10 (fun _ => 0)) := by rw [eM_22, mm_up_n _ _ (Ne.symm (dq_8_0))]; exact f3_M_21
  have f4_M_22 : M_22 (q_11) = some (aI G 10 (fun _ => 0)) := by rw [eM_22, mm_up_n _ _ (Ne.symm (dq_11_0))]; exact f4_M_21
  have f5_M_22 : M_22 (q_14) = some (aI G 1001 (fun _ => 0)) := by rw [eM_22, mm_up_n _ _ (Ne.symm (dq_14_0))]; exact f5_M_21
  have f6_M_22 : M_22 (q_17) = some (aI G 12 (fun _ => 0)) := by rw [eM_22, mm_up_n _ _ (Ne.symm (dq_17_0))]; exact f6_M_21
  have f7_M_22 : M_22 (q_20) = some (aI G 12 (fun _ => 0)) := by rw [eM_22, mm_up_n _ _ (Ne.symm (dq_20_0))]; exact fq_20
  have fr_M_22 : ∀ z, M z ≠ none → z ≠ a → M_22 z = M z := fun z h1 h2 => ((congrFun eM_22 z).trans (mm_up_n _ _ (h2))).trans (fr_M_21 z h1 h2)
  have hal := al_up hal eM_22
  refine lv_aload_n hx hb dX7_init_66 rfl (lv_at hl 0 rfl) ?_
  refine lv_bipush (v := 12) hx hb dX7_init_67 (by decide) ?_
  refine nw_I X hw 12 rfl (by decide) (Nat.le_of_ble_eq_true rfl) (Nat.le_of_ble_eq_true rfl) dX7_init_69 (fun q_23 H9 hq_23 hw => ?_)
  have n_q_23 : M q_23 = none := Classical.byContradiction (fun h9 => h9 ((fr_M_22 q_23 h9 (Ne.symm (ne_new (f0_M_22) hq_23))).symm.trans hq_23))
  obtain ⟨M_24, eM_24⟩ : ∃ z, z = mm_up M_22 q_23 (aI G 12 (fun _ => 0)) := ⟨_, rfl⟩
  rw [← eM_24] at hw
  have dq_23_0 : a ≠ q_23 := ne_new (f0_M_22) hq_23
  have f0_M_24 : M_24 (a) = some (.inr (7, [.int 1, .ref q_2, .ref q_5, .ref q_8, .ref q_11, .int 0, .ref q_14, .int 0, .ref q_17, .ref q_20, .null, .null, .int 0, .null, .null, .null, .null, .null, .int 0, .null, .null, .null, .null, .null, .int 0, .null, .null, .null])) := by rw [eM_24, mm_up_n _ _ dq_23_0]; exact f0_M_22
  have dq_23_1 : q_2 ≠ q_23 := ne_new (f1_M_22) hq_23
  have f1_M_24 : M_24 (q_2) = some (aI G 90 (fun _ => 0)) := by rw [eM_24, mm_up_n _ _ dq_23_1]; exact f1_M_22
  have dq_23_2 : q_5 ≠ q_23 := ne_new (f2_M_22) hq_23
  have f2_M_24 : M_24 (q_5) = some (aI G 80 (fun _ => 0)) := by rw [eM_24, mm_up_n _ _ dq_23_2]; exact f2_M_22
  have dq_23_3 : q_8 ≠ q_23 := ne_new (f3_M_22) hq_23
  have f3_M_24 : M_24 (q_8) = some (aI G 10 (fun _ => 0)) := by rw [eM_24, mm_up_n _ _ dq_23_3]; exact f3_M_22
  have dq_23_4 : q_11 ≠ q_23 := ne_new (f4_M_22) hq_23
  have f4_M_24 : M_24 (q_11) = some (aI G 10 (fun _ => 0)) := by rw [eM_24, mm_up_n _ _ dq_23_4]; exact f4_M_22
  have dq_23_5 : q_14 ≠ q_23 := ne_new (f5_M_22) hq_23
  have f5_M_24 : M_24 (q_14) = some (aI G 1001 (fun _ => 0)) := by rw [eM_24, mm_up_n _ _ dq_23_5]; exact f5_M_22
  have dq_23_6 : q_17 ≠ q_23 := ne_new (f6_M_22) hq_23
  have f6_M_24 : M_24 (q_17) = some (aI G 12 (fun _ => 0)) := by rw [eM_24, mm_up_n _ _ dq_23_6]; exact f6_M_22
  have dq_23_7 : q_20 ≠ q_23 := ne_new (f7_M_22) hq_23
  have f7_M_24 : M_24 (q_20) = some (aI G 12 (fun _ => 0)) := by rw [eM_24, mm_up_n _ _ dq_23_7]; exact f7_M_22
  have fq_23 : M_24 q_23 = some (aI G 12 (fun _ => 0)) := by rw [eM_24]; exact mm_up_s _ _ _
  have fr_M_24 : ∀ z, M z ≠ none → z ≠ a → M_24 z = M z := fun z h1 h2 => ((congrFun eM_24 z).trans (mm_up_n _ _ (fun e9 => h1 (by rw [e9]; exact n_q_23)))).trans (fr_M_22 z h1 h2)
  refine W.eq (g2 := F0 m 71 ls [.ref q_23, .ref a]) rfl ?_
  have hnd := nd_new hal hnd hq_23
  have hal := al_new hal eM_24
  refine pf_X7_35 X hin hw (f0_M_24) (Nat.le_of_ble_eq_true rfl) dX7_init_71 (fun H9 locs9 hw => ?_)
  obtain ⟨M_25, eM_25⟩ : ∃ z, z = mm_up M_24 (a) (.inr (7, [.int 1, .ref q_2, .ref q_5, .ref q_8, .ref q_11, .int 0, .ref q_14, .int 0, .ref q_17, .ref q_20, .ref q_23, .null, .int 0, .null, .null, .null, .null, .null, .int 0, .null, .null, .null, .null, .null, .int 0, .null, .null, .null])) := ⟨_, rfl⟩
  have hw : mm_W G.1 vwCl (ct_A M s.heap.size) s.heap M_25 H9 locs9 := by rw [eM_25]; exact hw
  have f0_M_25 : M_25 (a) = some (.inr (7, [.int 1, .ref q_2, .ref q_5, .ref q_8, .ref q_11, .int 0, .ref q_14, .int 0, .ref q_17, .ref q_20, .ref q_23, .null, .int 0, .null, .null, .null, .null, .null, .int 0, .null, .null, .null, .null, .null, .int 0, .null, .null, .null])) := by rw [eM_25]; exact mm_up_s _ _ _
  have f1_M_25 : M_25 (q_2) = some (aI G 90 (fun _ => 0)) := by rw [eM_25, mm_up_n _ _ (Ne.symm (dq_2_0))]; exact f1_M_24
  have f2_M_25 : M_25 (q_5) = some (aI G 80 (fun _ => 0)) := by rw [eM_25, mm_up_n _ _ (Ne.symm (dq_5_0))]; exact f2_M_24
  have f3_M_25 : M_25 (q_8) = some (aI G 10 (fun _ => 0)) := by rw [eM_25, mm_up_n _ _ (Ne.symm (dq_8_0))]; exact f3_M_24
  have f4_M_25 : M_25 (q_11) = some (aI G 10 (fun _ => 0)) := by rw [eM_25, mm_up_n _ _ (Ne.symm (dq_11_0))]; exact f4_M_24
  have f5_M_25 : M_25 (q_14) = some (aI G 1001 (fun _ => 0)) := by rw [eM_25, mm_up_n _ _ (Ne.symm (dq_14_0))]; exact f5_M_24
  have f6_M_25 : M_25 (q_17) = some (aI G 12 (fun _ => 0)) := by rw [eM_25, mm_up_n _ _ (Ne.symm (dq_17_0))]; exact f6_M_24
  have f7_M_25 : M_25 (q_20) = some (aI G 12 (fun _ => 0)) := by rw [eM_25, mm_up_n _ _ (Ne.symm (dq_20_0))]; exact f7_M_24
  have f8_M_25 : M_25 (q_23) = some (aI G 12 (fun _ => 0)) := by rw [eM_25, mm_up_n _ _ (Ne.symm (dq_23_0))]; exact fq_23
  have fr_M_25 : ∀ z, M z ≠ none → z ≠ a → M_25 z = M z := fun z h1 h2 => ((congrFun eM_25 z).trans (mm_up_n _ _ (h2))).trans (fr_M_24 z h1 h2)
  have hal := al_up hal eM_25
  refine lv_aload_n hx hb dX7_init_74 rfl (lv_at hl 0 rfl) ?_
  refine lv_bipush (v := 120) hx hb dX7_init_75 (by decide) ?_
  refine nw_Z X hw 120 rfl (by decide) (Nat.le_of_ble_eq_true rfl) (Nat.le_of_ble_eq_true rfl) dX7_init_77 (fun q_26 H9 hq_26 hw => ?_)
  have n_q_26 : M q_26 = none := Classical.byContradiction (fun h9 => h9 ((fr_M_25 q_26 h9 (Ne.symm (ne_new (f0_M_25) hq_26))).symm.trans hq_26))
  obtain ⟨M_27, eM_27⟩ : ∃ z, z = mm_up M_25 q_26 (aZ G 120 (fun _ => 0)) := ⟨_, rfl⟩
  rw [← eM_27] at hw
  have dq_26_0 : a ≠ q_26 := ne_new (f0_M_25) hq_26
  have f0_M_27 : M_27 (a) = some (.inr (7, [.int 1, .ref q_2, .ref q_5, .ref q_8, .ref q_11, .int 0, .ref q_14, .int 0, .ref q_17, .ref q_20, .ref q_23, .null, .int 0, .null, .null, .null, .null, .null, .int 0, .null, .null, .null, .null, .null, .int 0, .null, .null, .null])) := by rw [eM_27, mm_up_n _ _ dq_26_0]; exact f0_M_25
  have dq_26_1 : q_2 ≠ q_26 := ne_new (f1_M_25) hq_26
  have f1_M_27 : M_27 (q_2) = some (aI G 90 (fun _ => 0)) := by rw [eM_27, mm_up_n _ _ dq_26_1]; exact f1_M_25
  have dq_26_2 : q_5 ≠ q_26 := ne_new (f2_M_25) hq_26
  have f2_M_27 : M_27 (q_5) = some (aI G 80 (fun _ => 0)) := by rw [eM_27, mm_up_n _ _ dq_26_2]; exact f2_M_25
  have dq_26_3 : q_8 ≠ q_26 := ne_new (f3_M_25) hq_26
  have f3_M_27 : M_27 (q_8) = some (aI G 10 (fun _ => 0)) := by rw [eM_27, mm_up_n _ _ dq_26_3]; exact f3_M_25
  have dq_26_4 : q_11 ≠ q_26 := ne_new (f4_M_25) hq_26
  have f4_M_27 : M_27 (q_11) = some (aI G 10 (fun _ => 0)) := by rw [eM_27, mm_up_n _ _ dq_26_4]; exact f4_M_25
  have dq_26_5 : q_14 ≠ q_26 := ne_new (f5_M_25) hq_26
  have f5_M_27 : M_27 (q_14) = some (aI G 1001 (fun _ => 0)) := by rw [eM_27, mm_up_n _ _ dq_26_5]; exact f5_M_25
  have dq_26_6 : q_17 ≠ q_26 := ne_new (f6_M_25) hq_26
  have f6_M_27 : M_27 (q_17) = some (aI G 12 (fun _ => 0)) := by rw [eM_27, mm_up_n _ _ dq_26_6]; exact f6_M_25
  have dq_26_7 : q_20 ≠ q_26 := ne_new (f7_M_25) hq_26
  have f7_M_27 : M_27 (q_20) = some (aI G 12 (fun _ => 0)) := by rw [eM_27, mm_up_n _ _ dq_26_7]; exact f7_M_25
  have dq_26_8 : q_23 ≠ q_26 := ne_new (f8_M_25) hq_26
  have f8_M_27 : M_27 (q_23) = some (aI G 12 (fun _ => 0)) := by rw [eM_27, mm_up_n _ _ dq_26_8]; exact f8_M_25
  have fq_26 : M_27 q_26 = some (aZ G 120 (fun _ => 0)) := by rw [eM_27]; exact mm_up_s _ _ _
  have fr_M_27 : ∀ z, M z ≠ none → z ≠ a → M_27 z = M z := fun z h1 h2 => ((congrFun eM_27 z).trans (mm_up_n _ _ (fun e9 => h1 (by rw [e9]; exact n_q_26)))).trans (fr_M_25 z h1 h2)
  refine W.eq (g2 := F0 m 79 ls [.ref q_26, .ref a]) rfl ?_
  have hnd := nd_new hal hnd hq_26
  have hal := al_new hal eM_27
  refine pf_X7_38 X hin hw (f0_M_27) (Nat.le_of_ble_eq_true rfl) dX7_init_79 (fun H9 locs9 hw => ?_)
  obtain ⟨M_28, eM_28⟩ : ∃ z, z = mm_up M_27 (a) (.inr (7, [.int 1, .ref q_2, .ref q_5, .ref q_8, .ref q_11, .int 0, .ref q_14, .int 0, .ref q_17, .ref q_20, .ref q_23, .ref q_26, .int 0, .null, .null, .null, .null, .null, .int 0, .null, .null, .null, .null, .null, .int 0, .null, .null, .null])) := ⟨_, rfl⟩
  have hw : mm_W G.1 vwCl (ct_A M s.heap.size) s.heap M_28 H9 locs9 := by rw [eM_28]; exact hw
  have f0_M_28 : M_28 (a) = some (.inr (7, [.int 1, .ref q_2, .ref q_5, .ref q_8, .ref q_11, .int 0, .ref q_14, .int 0, .ref q_17, .ref q_20, .ref q_23, .ref q_26, .int 0, .null, .null, .null, .null, .null, .int 0, .null, .null, .null, .null, .null, .int 0, .null, .null, .null])) := by rw [eM_28]; exact mm_up_s _ _ _
  have f1_M_28 : M_28 (q_2) = some (aI G 90 (fun _ => 0)) := by rw [eM_28, mm_up_n _ _ (Ne.symm (dq_2_0))]; exact f1_M_27
  have f2_M_28 : M_28 (q_5) = some (aI G 80 (fun _ => 0)) := by rw [eM_28, mm_up_n _ _ (Ne.symm (dq_5_0))]; exact f2_M_27
  have f3_M_28 : M_28 (q_8) = some (aI G 10 (fun _ => 0)) := by rw [eM_28, mm_up_n _ _ (Ne.symm (dq_8_0))]; exact f3_M_27
  have f4_M_28 : M_28 (q_11) = some (aI G 10 (fun _ => 0)) := by rw [eM_28, mm_up_n _ _ (Ne.symm (dq_11_0))]; exact f4_M_27
  have f5_M_28 : M_28 (q_14) = some (aI G 1001 (fun _ => 0)) := by rw [eM_28, mm_up_n _ _ (Ne.symm (dq_14_0))]; exact f5_M_27
  have f6_M_28 : M_28 (q_17) = some (aI G 12 (fun _ => 0)) := by rw [eM_28, mm_up_n _ _ (Ne.symm (dq_17_0))]; exact f6_M_27
  have f7_M_28 : M_28 (q_20) = some (aI G 12 (fun _ => 0)) := by rw [eM_28, mm_up_n _ _ (Ne.symm (dq_20_0))]; exact f7_M_27
  have f8_M_28 : M_28 (q_23) = some (aI G 12 (fun _ => 0)) := by rw [eM_28, mm_up_n _ _ (Ne.symm (dq_23_0))]; exact f8_M_27
  have f9_M_28 : M_28 (q_26) = some (aZ G 120 (fun _ => 0)) := by rw [eM_28, mm_up_n _ _ (Ne.symm (dq_26_0))]; exact fq_26
  have fr_M_28 : ∀ z, M z ≠ none → z ≠ a → M_28 z = M z := fun z h1 h2 => ((congrFun eM_28 z).trans (mm_up_n _ _ (h2))).trans (fr_M_27 z h1 h2)
  have hal := al_up hal eM_28
  refine lv_aload_n hx hb dX7_init_82 rfl (lv_at hl 0 rfl) ?_
  refine lv_bipush (v := 12) hx hb dX7_init_83 (by decide) ?_
  refine nw_I X hw 12 rfl (by decide) (Nat.le_of_ble_eq_true rfl) (Nat.le_of_ble_eq_true rfl) dX7_init_85 (fun q_29 H9 hq_29 hw => ?_)
  have n_q_29 : M q_29 = none := Classical.byContradiction (fun h9 => h9 ((fr_M_28 q_29 h9 (Ne.symm (ne_new (f0_M_28) hq_29))).symm.trans hq_29))
  obtain ⟨M_30, eM_30⟩ : ∃ z, z = mm_up M_28 q_29 (aI G 12 (fun _ => 0)) := ⟨_, rfl⟩
  rw [← eM_30] at hw
  have dq_29_0 : a ≠ q_29 := ne_new (f0_M_28) hq_29
  have f0_M_30 : M_30 (a) = some (.inr (7, [.int 1, .ref q_2, .ref q_5, .ref q_8, .ref q_11, .int 0, .ref q_14, .int 0, .ref q_17, .ref q_20, .ref q_23, .ref q_26, .int 0, .null, .null, .null, .null, .null, .int 0, .null, .null, .null, .null, .null, .int 0, .null, .null, .null])) := by rw [eM_30, mm_up_n _ _ dq_29_0]; exact f0_M_28
  have dq_29_1 : q_2 ≠ q_29 := ne_new (f1_M_28) hq_29
  have f1_M_30 : M_30 (q_2) = some (aI G 90 (fun _ => 0)) := by rw [eM_30, mm_up_n _ _ dq_29_1]; exact f1_M_28
  have dq_29_2 : q_5 ≠ q_29 := ne_new (f2_M_28) hq_29
  have f2_M_30 : M_30 (q_5) = some (aI G 80 (fun _ => 0)) := by rw [eM_30, mm_up_n _ _ dq_29_2]; exact f2_M_28
  have dq_29_3 : q_8 ≠ q_29 := ne_new (f3_M_28) hq_29
  have f3_M_30 : M_30 (q_8) = some (aI G 10 (fun _ => 0)) := by rw [eM_30, mm_up_n _ _ dq_29_3]; exact f3_M_28
  have dq_29_4 : q_11 ≠ q_29 := ne_new (f4_M_28) hq_29
  have f4_M_30 : M_30 (q_11) = some (aI G 10 (fun _ => 0)) := by rw [eM_30, mm_up_n _ _ dq_29_4]; exact f4_M_28
  have dq_29_5 : q_14 ≠ q_29 := ne_new (f5_M_28) hq_29
  have f5_M_30 : M_30 (q_14) = some (aI G 1001 (fun _ => 0)) := by rw [eM_30, mm_up_n _ _ dq_29_5]; exact f5_M_28
  have dq_29_6 : q_17 ≠ q_29 := ne_new (f6_M_28) hq_29
  have f6_M_30 : M_30 (q_17) = some (aI G 12 (fun _ => 0)) := by rw [eM_30, mm_up_n _ _ dq_29_6]; exact f6_M_28
  have dq_29_7 : q_20 ≠ q_29 := ne_new (f7_M_28) hq_29
  have f7_M_30 : M_30 (q_20) = some (aI G 12 (fun _ => 0)) := by rw [eM_30, mm_up_n _ _ dq_29_7]; exact f7_M_28
  have dq_29_8 : q_23 ≠ q_29 := ne_new (f8_M_28) hq_29
  have f8_M_30 : M_30 (q_23) = some (aI G 12 (fun _ => 0)) := by rw [eM_30, mm_up_n _ _ dq_29_8]; exact f8_M_28
  have dq_29_9 : q_26 ≠ q_29 := ne_new (f9_M_28) hq_29
  have f9_M_30 : M_30 (q_26) = some (aZ G 120 (fun _ => 0)) := by rw [eM_30, mm_up_n _ _ dq_29_9]; exact f9_M_28
  have fq_29 : M_30 q_29 = some (aI G 12 (fun _ => 0)) := by rw [eM_30]; exact mm_up_s _ _ _
  have fr_M_30 : ∀ z, M z ≠ none → z ≠ a → M_30 z = M z := fun z h1 h2 => ((congrFun eM_30 z).trans (mm_up_n _ _ (fun e9 => h1 (by rw [e9]; exact n_q_29)))).trans (fr_M_28 z h1 h2)
  refine W.eq (g2 := F0 m 87 ls [.ref q_29, .ref a]) rfl ?_
  have hnd := nd_new hal hnd hq_29
  have hal := al_new hal eM_30
  refine pf_X7_42 X hin hw (f0_M_30) (Nat.le_of_ble_eq_true rfl) dX7_init_87 (fun H9 locs9 hw => ?_)
  obtain ⟨M_31, eM_31⟩ : ∃ z, z = mm_up M_30 (a) (.inr (7, [.int 1, .ref q_2, .ref q_5, .ref q_8, .ref q_11, .int 0, .ref q_14, .int 0, .ref q_17, .ref q_20, .ref q_23, .ref q_26, .int 0, .ref q_29, .null, .null, .null, .null, .int 0, .null, .null, .null, .null, .null, .int 0, .null, .null, .null])) := ⟨_, rfl⟩
  have hw : mm_W G.1 vwCl (ct_A M s.heap.size) s.heap M_31 H9 locs9 := by rw [eM_31]; exact hw
  have f0_M_31 : M_31 (a) = some (.inr (7, [.int 1, .ref q_2, .ref q_5, .ref q_8, .ref q_11, .int 0, .ref q_14, .int 0, .ref q_17, .ref q_20, .ref q_23, .ref q_26, .int 0, .ref q_29, .null, .null, .null, .null, .int 0, .null, .null, .null, .null, .null, .int 0, .null, .null, .null])) := by rw [eM_31]; exact mm_up_s _ _ _
  have f1_M_31 : M_31 (q_2) = some (aI G 90 (fun _ => 0)) := by rw [eM_31, mm_up_n _ _ (Ne.symm (dq_2_0))]; exact f1_M_30
  have f2_M_31 : M_31 (q_5) = some (aI G 80 (fun _ => 0)) := by rw [eM_31, mm_up_n _ _ (Ne.symm (dq_5_0))]; exact f2_M_30
  have f3_M_31 : M_31 (q_8) = some (aI G 10 (fun _ => 0)) := by rw [eM_31, mm_up_n _ _ (Ne.symm (dq_8_0))]; exact f3_M_30
  have f4_M_31 : M_31 (q_11) = some (aI G 10 (fun _ => 0)) := by rw [eM_31, mm_up_n _ _ (Ne.symm (dq_11_0))]; exact f4_M_30
  have f5_M_31 : M_31 (q_14) = some (aI G 1001 (fun _ => 0)) := by rw [eM_31, mm_up_n _ _ (Ne.symm (dq_14_0))]; exact f5_M_30
  have f6_M_31 : M_31 (q_17) = some (aI G 12 (fun _ => 0)) := by rw [eM_31, mm_up_n _ _ (Ne.symm (dq_17_0))]; exact f6_M_30
  have f7_M_31 : M_31 (q_20) = some (aI G 12 (fun _ => 0)) := by rw [eM_31, mm_up_n _ _ (Ne.symm (dq_20_0))]; exact f7_M_30
  have f8_M_31 : M_31 (q_23) = some (aI G 12 (fun _ => 0)) := by rw [eM_31, mm_up_n _ _ (Ne.symm (dq_23_0))]; exact f8_M_30
  have f9_M_31 : M_31 (q_26) = some (aZ G 120 (fun _ => 0)) := by rw [eM_31, mm_up_n _ _ (Ne.symm (dq_26_0))]; exact f9_M_30
  have f10_M_31 : M_31 (q_29) = some (aI G 12 (fun _ => 0)) := by rw [eM_31, mm_up_n _ _ (Ne.symm (dq_29_0))]; exact fq_29
  have fr_M_31 : ∀ z, M z ≠ none → z ≠ a → M_31 z = M z := fun z h1 h2 => ((congrFun eM_31 z).trans (mm_up_n _ _ (h2))).trans (fr_M_30 z h1 h2)
  have hal := al_up hal eM_31
  refine lv_aload_n hx hb dX7_init_90 rfl (lv_at hl 0 rfl) ?_
  refine lv_bipush (v := 12) hx hb dX7_init_91 (by decide) ?_
  refine nw_I X hw 12 rfl (by decide) (Nat.le_of_ble_eq_true rfl) (Nat.le_of_ble_eq_true rfl) dX7_init_93 (fun q_32 H9 hq_32 hw => ?_)
  have n_q_32 : M q_32 = none := Classical.byContradiction (fun h9 => h9 ((fr_M_31 q_32 h9 (Ne.symm (ne_new (f0_M_31) hq_32))).symm.trans hq_32))
  obtain ⟨M_33, eM_33⟩ : ∃ z, z = mm_up M_31 q_32 (aI G 12 (fun _ => 0)) := ⟨_, rfl⟩
  rw [← eM_33] at hw
  have dq_32_0 : a ≠ q_32 := ne_new (f0_M_31) hq_32
  have f0_M_33 : M_33 (a) = some (.inr (7, [.int 1, .ref q_2, .ref q_5, .ref q_8, .ref q_11, .int 0, .ref q_14, .int 0, .ref q_17, .ref q_20, .ref q_23, .ref q_26, .int 0, .ref q_29, .null, .null, .null, .null, .int 0, .null, .null, .null, .null, .null, .int 0, .null, .null, .null])) := by rw [eM_33, mm_up_n _ _ dq_32_0]; exact f0_M_31
  have dq_32_1 : q_2 ≠ q_32 := ne_new (f1_M_31) hq_32
  have f1_M_33 : M_33 (q_2) = some (aI G 90 (fun _ => 0)) := by rw [eM_33, mm_up_n _ _ dq_32_1]; exact f1_M_31
  have dq_32_2 : q_5 ≠ q_32 := ne_new (f2_M_31) hq_32
  have f2_M_33 : M_33 (q_5) = some (aI G 80 (fun _ => 0)) := by rw [eM_33, mm_up_n _ _ dq_32_2]; exact f2_M_31
  have dq_32_3 : q_8 ≠ q_32 := ne_new (f3_M_31) hq_32
  have f3_M_33 : M_33 (q_8) = some (aI G 10 (fun _ => 0)) := by rw [eM_33, mm_up_n _ _ dq_32_3]; exact f3_M_31
  have dq_32_4 : q_11 ≠ q_32 := ne_new (f4_M_31) hq_32
  have f4_M_33 : M_33 (q_11) = some (aI G 10 (fun _ => 0)) := by rw [eM_33, mm_up_n _ _ dq_32_4]; exact f4_M_31
  have dq_32_5 : q_14 ≠ q_32 := ne_new (f5_M_31) hq_32
  have f5_M_33 : M_33 (q_14) = some (aI G 1001 (fun _ => 0)) := by rw [eM_33, mm_up_n _ _ dq_32_5]; exact f5_M_31
  have dq_32_6 : q_17 ≠ q_32 := ne_new (f6_M_31) hq_32
  have f6_M_33 : M_33 (q_17) = some (aI G 12 (fun _ => 0)) := by rw [eM_33, mm_up_n _ _ dq_32_6]; exact f6_M_31
  have dq_32_7 : q_20 ≠ q_32 := ne_new (f7_M_31) hq_32
  have f7_M_33 : M_33 (q_20) = some (aI G 12 (fun _ => 0)) := by rw [eM_33, mm_up_n _ _ dq_32_7]; exact f7_M_31
  have dq_32_8 : q_23 ≠ q_32 := ne_new (f8_M_31) hq_32
  have f8_M_33 : M_33 (q_23) = some (aI G 12 (fun _ => 0)) := by rw [eM_33, mm_up_n _ _ dq_32_8]; exact f8_M_31
  have dq_32_9 : q_26 ≠ q_32 := ne_new (f9_M_31) hq_32
  have f9_M_33 : M_33 (q_26) = some (aZ G 120 (fun _ => 0)) := by rw [eM_33, mm_up_n _ _ dq_32_9]; exact f9_M_31
  have dq_32_10 : q_29 ≠ q_32 := ne_new (f10_M_31) hq_32
  have f10_M_33 : M_33 (q_29) = some (aI G 12 (fun _ => 0)) := by rw [eM_33, mm_up_n _ _ dq_32_10]; exact f10_M_31
  have fq_32 : M_33 q_32 = some (aI G 12 (fun _ => 0)) := by rw [eM_33]; exact mm_up_s _ _ _
  have fr_M_33 : ∀ z, M z ≠ none → z ≠ a → M_33 z = M z := fun z h1 h2 => ((congrFun eM_33 z).trans (mm_up_n _ _ (fun e9 => h1 (by rw [e9]; exact n_q_32)))).trans (fr_M_31 z h1 h2)
  refine W.eq (g2 := F0 m 95 ls [.ref q_32, .ref a]) rfl ?_
  have hnd := nd_new hal hnd hq_32
  have hal := al_new hal eM_33
  refine pf_X7_45 X hin hw (f0_M_33) (Nat.le_of_ble_eq_true rfl) dX7_init_95 (fun H9 locs9 hw => ?_)
  obtain ⟨M_34, eM_34⟩ : ∃ z, z = mm_up M_33 (a) (.inr (7, [.int 1, .ref q_2, .ref q_5, .ref q_8, .ref q_11, .int 0, .ref q_14, .int 0, .ref q_17, .ref q_20, .ref q_23, .ref q_26, .int 0, .ref q_29, .ref q_32, .null, .null, .null, .int 0, .null, .null, .null, .null, .null, .int 0, .null, .null, .null])) := ⟨_, rfl⟩
  have hw : mm_W G.1 vwCl (ct_A M s.heap.size) s.heap M_34 H9 locs9 := by rw [eM_34]; exact hw
  have f0_M_34 : M_34 (a) = some (.inr (7, [.int 1, .ref q_2, .ref q_5, .ref q_8, .ref q_11, .int 0, .ref q_14, .int 0, .ref q_17, .ref q_20, .ref q_23, .ref q_26, .int 0, .ref q_29, .ref q_32, .null, .null, .null, .int 0, .null, .null, .null, .null, .null, .int 0, .null, .null, .null])) := by rw [eM_34]; exact mm_up_s _ _ _
  have f1_M_34 : M_34 (q_2) = some (aI G 90 (fun _ => 0)) := by rw [eM_34, mm_up_n _ _ (Ne.symm (dq_2_0))]; exact f1_M_33
  have f2_M_34 : M_34 (q_5) = some (aI G 80 (fun _ => 0)) := by rw [eM_34, mm_up_n _ _ (Ne.symm (dq_5_0))]; exact f2_M_33
  have f3_M_34 : M_34 (q_8) = some (aI G 10 (fun _ => 0)) := by rw [eM_34, mm_up_n _ _ (Ne.symm (dq_8_0))]; exact f3_M_33
  have f4_M_34 : M_34 (q_11) = some (aI G 10 (fun _ => 0)) := by rw [eM_34, mm_up_n _ _ (Ne.symm (dq_11_0))]; exact f4_M_33
  have f5_M_34 : M_34 (q_14) = some (aI G 1001 (fun _ => 0)) := by rw [eM_34, mm_up_n _ _ (Ne.symm (dq_14_0))]; exact f5_M_33
  have f6_M_34 : M_34 (q_17) = some (aI G 12 (fun _ => 0)) := by rw [eM_34, mm_up_n _ _ (Ne.symm (dq_17_0))]; exact f6_M_33
  have f7_M_34 : M_34 (q_20) = some (aI G 12 (fun _ => 0)) := by rw [eM_34, mm_up_n _ _ (Ne.symm (dq_20_0))]; exact f7_M_33
  have f8_M_34 : M_34 (q_23) = some (aI G 12 (fun _ => 0)) := by rw [eM_34, mm_up_n _ _ (Ne.symm (dq_23_0))]; exact f8_M_33
  have f9_M_34 : M_34 (q_26) = some (aZ G 120 (fun _ => 0)) := by rw [eM_34, mm_up_n _ _ (Ne.symm (dq_26_0))]; exact f9_M_33
  have f10_M_34 : M_34 (q_29) = some (aI G 12 (fun _ => 0)) := by rw [eM_34, mm_up_n _ _ (Ne.symm (dq_29_0))]; exact f10_M_33
  have f11_M_34 : M_34 (q_32) = some (aI G 12 (fun _ => 0)) := by rw [eM_34, mm_up_n _ _ (Ne.symm (dq_32_0))]; exact fq_32
  have fr_M_34 : ∀ z, M z ≠ none → z ≠ a → M_34 z = M z := fun z h1 h2 => ((congrFun eM_34 z).trans (mm_up_n _ _ (h2))).trans (fr_M_33 z h1 h2)
  have hal := al_up hal eM_34
  refine lv_aload_n hx hb dX7_init_98 rfl (lv_at hl 0 rfl) ?_
  refine lv_sipush (v := 288) hx hb dX7_init_99 (by decide) ?_
  refine nw_I X hw 288 rfl (by decide) (Nat.le_of_ble_eq_true rfl) (Nat.le_of_ble_eq_true rfl) dX7_init_102 (fun q_35 H9 hq_35 hw => ?_)
  have n_q_35 : M q_35 = none := Classical.byContradiction (fun h9 => h9 ((fr_M_34 q_35 h9 (Ne.symm (ne_new (f0_M_34) hq_35))).symm.trans hq_35))
  obtain ⟨M_36, eM_36⟩ : ∃ z, z = mm_up M_34 q_35 (aI G 288 (fun _ => 0)) := ⟨_, rfl⟩
  rw [← eM_36] at hw
  have dq_35_0 : a ≠ q_35 := ne_new (f0_M_34) hq_35
  have f0_M_36 : M_36 (a) = some (.inr (7, [.int 1, .ref q_2, .ref q_5, .ref q_8, .ref q_11, .int 0, .ref q_14, .int 0, .ref q_17, .ref q_20, .ref q_23, .ref q_26, .int 0, .ref q_29, .ref q_32, .null, .null, .null, .int 0, .null, .null, .null, .null, .null, .int 0, .null, .null, .null])) := by rw [eM_36, mm_up_n _ _ dq_35_0]; exact f0_M_34
  have dq_35_1 : q_2 ≠ q_35 := ne_new (f1_M_34) hq_35
  have f1_M_36 : M_36 (q_2) = some (aI G 90 (fun _ => 0)) := by rw [eM_36, mm_up_n _ _ dq_35_1]; exact f1_M_34
  have dq_35_2 : q_5 ≠ q_35 := ne_new (f2_M_34) hq_35
  have f2_M_36 : M_36 (q_5) = some (aI G 80 (fun _ => 0)) := by rw [eM_36, mm_up_n _ _ dq_35_2]; exact f2_M_34
  have dq_35_3 : q_8 ≠ q_35 := ne_new (f3_M_34) hq_35
  have f3_M_36 : M_36 (q_8) = some (aI G 10 (fun _ => 0)) := by rw [eM_36, mm_up_n _ _ dq_35_3]; exact f3_M_34
  have dq_35_4 : q_11 ≠ q_35 := ne_new (f4_M_34) hq_35
  have f4_M_36 : M_36 (q_11) = some (aI G 10 (fun _ => 0)) := by rw [eM_36, mm_up_n _ _ dq_35_4]; exact f4_M_34
  have dq_35_5 : q_14 ≠ q_35 := ne_new (f5_M_34) hq_35
  have f5_M_36 : M_36 (q_14) = some (aI G 1001 (fun _ => 0)) := by rw [eM_36, mm_up_n _ _ dq_35_5]; exact f5_M_34
  have dq_35_6 : q_17 ≠ q_35 := ne_new (f6_M_34) hq_35
  have f6_M_36 : M_36 (q_17) = some (aI G 12 (fun _ => 0)) := by rw [eM_36, mm_up_n _ _ dq_35_6]; exact f6_M_34
  have dq_35_7 : q_20 ≠ q_35 := ne_new (f7_M_34) hq_35
  have f7_M_36 : M_36 (q_20) = some (aI G 12 (fun _ => 0)) := by rw [eM_36, mm_up_n _ _ dq_35_7]; exact f7_M_34
  have dq_35_8 : q_23 ≠ q_35 := ne_new (f8_M_34) hq_35
  have f8_M_36 : M_36 (q_23) = some (aI G 12 (fun _ => 0)) := by rw [eM_36, mm_up_n _ _ dq_35_8]; exact f8_M_34
  have dq_35_9 : q_26 ≠ q_35 := ne_new (f9_M_34) hq_35
  have f9_M_36 : M_36 (q_26) = some (aZ G 120 (fun _ => 0)) := by rw [eM_36, mm_up_n _ _ dq_35_9]; exact f9_M_34
  have dq_35_10 : q_29 ≠ q_35 := ne_new (f10_M_34) hq_35
  have f10_M_36 : M_36 (q_29) = some (aI G 12 (fun _ => 0)) := by rw [eM_36, mm_up_n _ _ dq_35_10]; exact f10_M_34
  have dq_35_11 : q_32 ≠ q_35 := ne_new (f11_M_34) hq_35
  have f11_M_36 : M_36 (q_32) = some (aI G 12 (fun _ => 0)) := by rw [eM_36, mm_up_n _ _ dq_35_11]; exact f11_M_34
  have fq_35 : M_36 q_35 = some (aI G 288 (fun _ => 0)) := by rw [eM_36]; exact mm_up_s _ _ _
  have fr_M_36 : ∀ z, M z ≠ none → z ≠ a → M_36 z = M z := fun z h1 h2 => ((congrFun eM_36 z).trans (mm_up_n _ _ (fun e9 => h1 (by rw [e9]; exact n_q_35)))).trans (fr_M_34 z h1 h2)
  refine W.eq (g2 := F0 m 104 ls [.ref q_35, .ref a]) rfl ?_
  have hnd := nd_new hal hnd hq_35
  have hal := al_new hal eM_36
  refine pf_X7_48 X hin hw (f0_M_36) (Nat.le_of_ble_eq_true rfl) dX7_init_104 (fun H9 locs9 hw => ?_)
  obtain ⟨M_37, eM_37⟩ : ∃ z, z = mm_up M_36 (a) (.inr (7, [.int 1, .ref q_2, .ref q_5, .ref q_8, .ref q_11, .int 0, .ref q_14, .int 0, .ref q_17, .ref q_20, .ref q_23, .ref q_26, .int 0, .ref q_29, .ref q_32, .ref q_35, .null, .null, .int 0, .null, .null, .null, .null, .null, .int 0, .null, .null, .null])) := ⟨_, rfl⟩
  have hw : mm_W G.1 vwCl (ct_A M s.heap.size) s.heap M_37 H9 locs9 := by rw [eM_37]; exact hw
  have f0_M_37 : M_37 (a) = some (.inr (7, [.int 1, .ref q_2, .ref q_5, .ref q_8, .ref q_11, .int 0, .ref q_14, .int 0, .ref q_17, .ref q_20, .ref q_23, .ref q_26, .int 0, .ref q_29, .ref q_32, .ref q_35, .null, .null, .int 0, .null, .null, .null, .null, .null, .int 0, .null, .null, .null])) := by rw [eM_37]; exact mm_up_s _ _ _
  have f1_M_37 : M_37 (q_2) = some (aI G 90 (fun _ => 0)) := by rw [eM_37, mm_up_n _ _ (Ne.symm (dq_2_0))]; exact f1_M_36
  have f2_M_37 : M_37 (q_5) = some (aI G 80 (fun _ => 0)) := by rw [eM_37, mm_up_n _ _ (Ne.symm (dq_5_0))]; exact f2_M_36
  have f3_M_37 : M_37 (q_8) = some (aI G 10 (fun _ => 0)) := by rw [eM_37, mm_up_n _ _ (Ne.symm (dq_8_0))]; exact f3_M_36
  have f4_M_37 : M_37 (q_11) = some (aI G 10 (fun _ => 0)) := by rw [eM_37, mm_up_n _ _ (Ne.symm (dq_11_0))]; exact f4_M_36
  have f5_M_37 : M_37 (q_14) = some (aI G 1001 (fun _ => 0)) := by rw [eM_37, mm_up_n _ _ (Ne.symm (dq_14_0))]; exact f5_M_36
  have f6_M_37 : M_37 (q_17) = some (aI G 12 (fun _ => 0)) := by rw [eM_37, mm_up_n _ _ (Ne.symm (dq_17_0))]; exact f6_M_36
  have f7_M_37 : M_37 (q_20) = some (aI G 12 (fun _ => 0)) := by rw [eM_37, mm_up_n _ _ (Ne.symm (dq_20_0))]; exact f7_M_36
  have f8_M_37 : M_37 (q_23) = some (aI G 12 (fun _ => 0)) := by rw [eM_37, mm_up_n _ _ (Ne.symm (dq_23_0))]; exact f8_M_36
  have f9_M_37 : M_37 (q_26) = some (aZ G 120 (fun _ => 0)) := by rw [eM_37, mm_up_n _ _ (Ne.symm (dq_26_0))]; exact f9_M_36
  have f10_M_37 : M_37 (q_29) = some (aI G 12 (fun _ => 0)) := by rw [eM_37, mm_up_n _ _ (Ne.symm (dq_29_0))]; exact f10_M_36
  have f11_M_37 : M_37 (q_32) = some (aI G 12 (fun _ => 0)) := by rw [eM_37, mm_up_n _ _ (Ne.symm (dq_32_0))]; exact f11_M_36
  have f12_M_37 : M_37 (q_35) = some (aI G 288 (fun _ => 0)) := by rw [eM_37, mm_up_n _ _ (Ne.symm (dq_35_0))]; exact fq_35
  have fr_M_37 : ∀ z, M z ≠ none → z ≠ a → M_37 z = M z := fun z h1 h2 => ((congrFun eM_37 z).trans (mm_up_n _ _ (h2))).trans (fr_M_36 z h1 h2)
  have hal := al_up hal eM_37
  refine lv_aload_n hx hb dX7_init_107 rfl (lv_at hl 0 rfl) ?_
  refine lv_sipush (v := 288) hx hb dX7_init_108 (by decide) ?_
  refine nw_I X hw 288 rfl (by decide) (Nat.le_of_ble_eq_true rfl) (Nat.le_of_ble_eq_true rfl) dX7_init_111 (fun q_38 H9 hq_38 hw => ?_)
  have n_q_38 : M q_38 = none := Classical.byContradiction (fun h9 => h9 ((fr_M_37 q_38 h9 (Ne.symm (ne_new (f0_M_37) hq_38))).symm.trans hq_38))
  obtain ⟨M_39, eM_39⟩ : ∃ z, z = mm_up M_37 q_38 (aI G 288 (fun _ => 0)) := ⟨_, rfl⟩
  rw [← eM_39] at hw
  have dq_38_0 : a ≠ q_38 := ne_new (f0_M_37) hq_38
  have f0_M_39 : M_39 (a) = some (.inr (7, [.int 1, .ref q_2, .ref q_5, .ref q_8, .ref q_11, .int 0, .ref q_14, .int 0, .ref q_17, .ref q_20, .ref q_23, .ref q_26, .int 0, .ref q_29, .ref q_32, .ref q_35, .null, .null, .int 0, .null, .null, .null, .null, .null, .int 0, .null, .null, .null])) := by rw [eM_39, mm_up_n _ _ dq_38_0]; exact f0_M_37
  have dq_38_1 : q_2 ≠ q_38 := ne_new (f1_M_37) hq_38
  have f1_M_39 : M_39 (q_2) = some (aI G 90 (fun _ => 0)) := by rw [eM_39, mm_up_n _ _ dq_38_1]; exact f1_M_37
  have dq_38_2 : q_5 ≠ q_38 := ne_new (f2_M_37) hq_38
  have f2_M_39 : M_39 (q_5) = some (aI G 80 (fun _ => 0)) := by rw [eM_39, mm_up_n _ _ dq_38_2]; exact f2_M_37
  have dq_38_3 : q_8 ≠ q_38 := ne_new (f3_M_37) hq_38
  have f3_M_39 : M_39 (q_8) = some (aI G 10 (fun _ => 0)) := by rw [eM_39, mm_up_n _ _ dq_38_3]; exact f3_M_37
  have dq_38_4 : q_11 ≠ q_38 := ne_new (f4_M_37) hq_38
  have f4_M_39 : M_39 (q_11) = some (aI G 10 (fun _ => 0)) := by rw [eM_39, mm_up_n _ _ dq_38_4]; exact f4_M_37
  have dq_38_5 : q_14 ≠ q_38 := ne_new (f5_M_37) hq_38
  have f5_M_39 : M_39 (q_14) = some (aI G 1001 (fun _ => 0)) := by rw [eM_39, mm_up_n _ _ dq_38_5]; exact f5_M_37
  have dq_38_6 : q_17 ≠ q_38 := ne_new (f6_M_37) hq_38
  have f6_M_39 : M_39 (q_17) = some (aI G 12 (fun _ => 0)) := by rw [eM_39, mm_up_n _ _ dq_38_6]; exact f6_M_37
  have dq_38_7 : q_20 ≠ q_38 := ne_new (f7_M_37) hq_38
  have f7_M_39 : M_39 (q_20) = some (aI G 12 (fun _ => 0)) := by rw [eM_39, mm_up_n _ _ dq_38_7]; exact f7_M_37
  have dq_38_8 : q_23 ≠ q_38 := ne_new (f8_M_37) hq_38
  have f8_M_39 : M_39 (q_23) = some (aI G 12 (fun _ => 0)) := by rw [eM_39, mm_up_n _ _ dq_38_8]; exact f8_M_37
  have dq_38_9 : q_26 ≠ q_38 := ne_new (f9_M_37) hq_38
  have f9_M_39 : M_39 (q_26) = some (aZ G 120 (fun _ => 0)) := by rw [eM_39, mm_up_n _ _ dq_38_9]; exact f9_M_37
  have dq_38_10 : q_29 ≠ q_38 := ne_new (f10_M_37) hq_38
  have f10_M_39 : M_39 (q_29) = some (aI G 12 (fun _ => 0)) := by rw [eM_39, mm_up_n _ _ dq_38_10]; exact f10_M_37
  have dq_38_11 : q_32 ≠ q_38 := ne_new (f11_M_37) hq_38
  have f11_M_39 : M_39 (q_32) = some (aI G 12 (fun _ => 0)) := by rw [eM_39, mm_up_n _ _ dq_38_11]; exact f11_M_37
  have dq_38_12 : q_35 ≠ q_38 := ne_new (f12_M_37) hq_38
  have f12_M_39 : M_39 (q_35) = some (aI G 288 (fun _ => 0)) := by rw [eM_39, mm_up_n _ _ dq_38_12]; exact f12_M_37
  have fq_38 : M_39 q_38 = some (aI G 288 (fun _ => 0)) := by rw [eM_39]; exact mm_up_s _ _ _
  have fr_M_39 : ∀ z, M z ≠ none → z ≠ a → M_39 z = M z := fun z h1 h2 => ((congrFun eM_39 z).trans (mm_up_n _ _ (fun e9 => h1 (by rw [e9]; exact n_q_38)))).trans (fr_M_37 z h1 h2)
  refine W.eq (g2 := F0 m 113 ls [.ref q_38, .ref a]) rfl ?_
  have hnd := nd_new hal hnd hq_38
  have hal := al_new hal eM_39
  refine pf_X7_51 X hin hw (f0_M_39) (Nat.le_of_ble_eq_true rfl) dX7_init_113 (fun H9 locs9 hw => ?_)
  obtain ⟨M_40, eM_40⟩ : ∃ z, z = mm_up M_39 (a) (.inr (7, [.int 1, .ref q_2, .ref q_5, .ref q_8, .ref q_11, .int 0, .ref q_14, .int 0, .ref q_17, .ref q_20, .ref q_23, .ref q_26, .int 0, .ref q_29, .ref q_32, .ref q_35, .ref q_38, .null, .int 0, .null, .null, .null, .null, .null, .int 0, .null, .null, .null])) := ⟨_, rfl⟩
  have hw : mm_W G.1 vwCl (ct_A M s.heap.size) s.heap M_40 H9 locs9 := by rw [eM_40]; exact hw
  have f0_M_40 : M_40 (a) = some (.inr (7, [.int 1, .ref q_2, .ref q_5, .ref q_8, .ref q_11, .int 0, .ref q_14, .int 0, .ref q_17, .ref q_20, .ref q_23, .ref q_26, .int 0, .ref q_29, .ref q_32, .ref q_35, .ref q_38, .null, .int 0, .null, .null, .null, .null, .null, .int 0, .null, .null, .null])) := by rw [eM_40]; exact mm_up_s _ _ _
  have f1_M_40 : M_40 (q_2) = some (aI G 90 (fun _ => 0)) := by rw [eM_40, mm_up_n _ _ (Ne.symm (dq_2_0))]; exact f1_M_39
  have f2_M_40 : M_40 (q_5) = some (aI G 80 (fun _ => 0)) := by rw [eM_40, mm_up_n _ _ (Ne.symm (dq_5_0))]; exact f2_M_39
  have f3_M_40 : M_40 (q_8) = some (aI G 10 (fun _ => 0)) := by rw [eM_40, mm_up_n _ _ (Ne.symm (dq_8_0))]; exact f3_M_39
  have f4_M_40 : M_40 (q_11) = some (aI G 10 (fun _ => 0)) := by rw [eM_40, mm_up_n _ _ (Ne.symm (dq_11_0))]; exact f4_M_39
  have f5_M_40 : M_40 (q_14) = some (aI G 1001 (fun _ => 0)) := by rw [eM_40, mm_up_n _ _ (Ne.symm (dq_14_0))]; exact f5_M_39
  have f6_M_40 : M_40 (q_17) = some (aI G 12 (fun _ => 0)) := by rw [eM_40, mm_up_n _ _ (Ne.symm (dq_17_0))]; exact f6_M_39
  have f7_M_40 : M_40 (q_20) = some (aI G 12 (fun _ => 0)) := by rw [eM_40, mm_up_n _ _ (Ne.symm (dq_20_0))]; exact f7_M_39
  have f8_M_40 : M_40 (q_23) = some (aI G 12 (fun _ => 0)) := by rw [eM_40, mm_up_n _ _ (Ne.symm (dq_23_0))]; exact f8_M_39
  have f9_M_40 : M_40 (q_26) = some (aZ G 120 (fun _ => 0)) := by rw [eM_40, mm_up_n _ _ (Ne.symm (dq_26_0))]; exact f9_M_39
  have f10_M_40 : M_40 (q_29) = some (aI G 12 (fun _ => 0)) := by rw [eM_40, mm_up_n _ _ (Ne.symm (dq_29_0))]; exact f10_M_39
  have f11_M_40 : M_40 (q_32) = some (aI G 12 (fun _ => 0)) := by rw [eM_40, mm_up_n _ _ (Ne.symm (dq_32_0))]; exact f11_M_39
  have f12_M_40 : M_40 (q_35) = some (aI G 288 (fun _ => 0)) := by rw [eM_40, mm_up_n _ _ (Ne.symm (dq_35_0))]; exact f12_M_39
  have f13_M_40 : M_40 (q_38) = some (aI G 288 (fun _ => 0)) := by rw [eM_40, mm_up_n _ _ (Ne.symm (dq_38_0))]; exact fq_38
  have fr_M_40 : ∀ z, M z ≠ none → z ≠ a → M_40 z = M z := fun z h1 h2 => ((congrFun eM_40 z).trans (mm_up_n _ _ (h2))).trans (fr_M_39 z h1 h2)
  have hal := al_up hal eM_40
  refine lv_aload_n hx hb dX7_init_116 rfl (lv_at hl 0 rfl) ?_
  refine lv_bipush (v := 48) hx hb dX7_init_117 (by decide) ?_
  refine nw_J X hw 48 rfl (by decide) (Nat.le_of_ble_eq_true rfl) (Nat.le_of_ble_eq_true rfl) dX7_init_119 (fun q_41 H9 hq_41 hw => ?_)
  have n_q_41 : M q_41 = none := Classical.byContradiction (fun h9 => h9 ((fr_M_40 q_41 h9 (Ne.symm (ne_new (f0_M_40) hq_41))).symm.trans hq_41))
  obtain ⟨M_42, eM_42⟩ : ∃ z, z = mm_up M_40 q_41 (aJ G 48 (fun _ => 0)) := ⟨_, rfl⟩
  rw [← eM_42] at hw
  have dq_41_0 : a ≠ q_41 := ne_new (f0_M_40) hq_41
  have f0_M_42 : M_42 (a) = some (.inr (7, [.int 1, .ref q_2, .ref q_5, .ref q_8, .ref q_11, .int 0, .ref q_14, .int 0, .ref q_17, .ref q_20, .ref q_23, .ref q_26, .int 0, .ref q_29, .ref q_32, .ref q_35, .ref q_38, .null, .int 0, .null, .null, .null, .null, .null, .int 0, .null, .null, .null])) := by rw [eM_42, mm_up_n _ _ dq_41_0]; exact f0_M_40
  have dq_41_1 : q_2 ≠ q_41 := ne_new (f1_M_40) hq_41
  have f1_M_42 : M_42 (q_2) = some (aI G 90 (fun _ => 0)) := by rw [eM_42, mm_up_n _ _ dq_41_1]; exact f1_M_40
  have dq_41_2 : q_5 ≠ q_41 := ne_new (f2_M_40) hq_41
  have f2_M_42 : M_42 (q_5) = some (aI G 80 (fun _ => 0)) := by rw [eM_42, mm_up_n _ _ dq_41_2]; exact f2_M_40
  have dq_41_3 : q_8 ≠ q_41 := ne_new (f3_M_40) hq_41
  have f3_M_42 : M_42 (q_8) = some (aI G 10 (fun _ => 0)) := by rw [eM_42, mm_up_n _ _ dq_41_3]; exact f3_M_40
  have dq_41_4 : q_11 ≠ q_41 := ne_new (f4_M_40) hq_41
  have f4_M_42 : M_42 (q_11) = some (aI G 10 (fun _ => 0)) := by rw [eM_42, mm_up_n _ _ dq_41_4]; exact f4_M_40
  have dq_41_5 : q_14 ≠ q_41 := ne_new (f5_M_40) hq_41
  have f5_M_42 : M_42 (q_14) = some (aI G 1001 (fun _ => 0)) := by rw [eM_42, mm_up_n _ _ dq_41_5]; exact f5_M_40
  have dq_41_6 : q_17 ≠ q_41 := ne_new (f6_M_40) hq_41
  have f6_M_42 : M_42 (q_17) = some (aI G 12 (fun _ => 0)) := by rw [eM_42, mm_up_n _ _ dq_41_6]; exact f6_M_40
  have dq_41_7 : q_20 ≠ q_41 := ne_new (f7_M_40) hq_41
  have f7_M_42 : M_42 (q_20) = some (aI G 12 (fun _ => 0)) := by rw [eM_42, mm_up_n _ _ dq_41_7]; exact f7_M_40
  have dq_41_8 : q_23 ≠ q_41 := ne_new (f8_M_40) hq_41
  have f8_M_42 : M_42 (q_23) = some (aI G 12 (fun _ => 0)) := by rw [eM_42, mm_up_n _ _ dq_41_8]; exact f8_M_40
  have dq_41_9 : q_26 ≠ q_41 := ne_new (f9_M_40) hq_41
  have f9_M_42 : M_42 (q_26) = some (aZ G 120 (fun _ => 0)) := by rw [eM_42, mm_up_n _ _ dq_41_9]; exact f9_M_40
  have dq_41_10 : q_29 ≠ q_41 := ne_new (f10_M_40) hq_41
  have f10_M_42 : M_42 (q_29) = some (aI G 12 (fun _ => 0)) := by rw [eM_42, mm_up_n _ _ dq_41_10]; exact f10_M_40
  have dq_41_11 : q_32 ≠ q_41 := ne_new (f11_M_40) hq_41
  have f11_M_42 : M_42 (q_32) = some (aI G 12 (fun _ => 0)) := by rw [eM_42, mm_up_n _ _ dq_41_11]; exact f11_M_40
  have dq_41_12 : q_35 ≠ q_41 := ne_new (f12_M_40) hq_41
  have f12_M_42 : M_42 (q_35) = some (aI G 288 (fun _ => 0)) := by rw [eM_42, mm_up_n _ _ dq_41_12]; exact f12_M_40
  have dq_41_13 : q_38 ≠ q_41 := ne_new (f13_M_40) hq_41
  have f13_M_42 : M_42 (q_38) = some (aI G 288 (fun _ => 0)) := by rw [eM_42, mm_up_n _ _ dq_41_13]; exact f13_M_40
  have fq_41 : M_42 q_41 = some (aJ G 48 (fun _ => 0)) := by rw [eM_42]; exact mm_up_s _ _ _
  have fr_M_42 : ∀ z, M z ≠ none → z ≠ a → M_42 z = M z := fun z h1 h2 => ((congrFun eM_42 z).trans (mm_up_n _ _ (fun e9 => h1 (by rw [e9]; exact n_q_41)))).trans (fr_M_40 z h1 h2)
  refine W.eq (g2 := F0 m 121 ls [.ref q_41, .ref a]) rfl ?_
  have hnd := nd_new hal hnd hq_41
  have hal := al_new hal eM_42
  refine pf_X7_54 X hin hw (f0_M_42) (Nat.le_of_ble_eq_true rfl) dX7_init_121 (fun H9 locs9 hw => ?_)
  obtain ⟨M_43, eM_43⟩ : ∃ z, z = mm_up M_42 (a) (.inr (7, [.int 1, .ref q_2, .ref q_5, .ref q_8, .ref q_11, .int 0, .ref q_14, .int 0, .ref q_17, .ref q_20, .ref q_23, .ref q_26, .int 0, .ref q_29, .ref q_32, .ref q_35, .ref q_38, .ref q_41, .int 0, .null, .null, .null, .null, .null, .int 0, .null, .null, .null])) := ⟨_, rfl⟩
  have hw : mm_W G.1 vwCl (ct_A M s.heap.size) s.heap M_43 H9 locs9 := by rw [eM_43]; exact hw
  have f0_M_43 : M_43 (a) = some (.inr (7, [.int 1, .ref q_2, .ref q_5, .ref q_8, .ref q_11, .int 0, .ref q_14, .int 0, .ref q_17, .ref q_20, .ref q_23, .ref q_26, .int 0, .ref q_29, .ref q_32, .ref q_35, .ref q_38, .ref q_41, .int 0, .null, .null, .null, .null, .null, .int 0, .null, .null, .null])) := by rw [eM_43]; exact mm_up_s _ _ _
  have f1_M_43 : M_43 (q_2) = some (aI G 90 (fun _ => 0)) := by rw [eM_43, mm_up_n _ _ (Ne.symm (dq_2_0))]; exact f1_M_42
  have f2_M_43 : M_43 (q_5) = some (aI G 80 (fun _ => 0)) := by rw [eM_43, mm_up_n _ _ (Ne.symm (dq_5_0))]; exact f2_M_42
  have f3_M_43 : M_43 (q_8) = some (aI G 10 (fun _ => 0)) := by rw [eM_43, mm_up_n _ _ (Ne.symm (dq_8_0))]; exact f3_M_42
  have f4_M_43 : M_43 (q_11) = some (aI G 10 (fun _ => 0)) := by rw [eM_43, mm_up_n _ _ (Ne.symm (dq_11_0))]; exact f4_M_42
  have f5_M_43 : M_43 (q_14) = some (aI G 1001 (fun _ => 0)) := by rw [eM_43, mm_up_n _ _ (Ne.symm (dq_14_0))]; exact f5_M_42
  have f6_M_43 : M_43 (q_17) = some (aI G 12 (fun _ => 0)) := by rw [eM_43, mm_up_n _ _ (Ne.symm (dq_17_0))]; exact f6_M_42
  have f7_M_43 : M_43 (q_20) = some (aI G 12 (fun _ => 0)) := by rw [eM_43, mm_up_n _ _ (Ne.symm (dq_20_0))]; exact f7_M_42
  have f8_M_43 : M_43 (q_23) = some (aI G 12 (fun _ => 0)) := by rw [eM_43, mm_up_n _ _ (Ne.symm (dq_23_0))]; exact f8_M_42
  have f9_M_43 : M_43 (q_26) = some (aZ G 120 (fun _ => 0)) := by rw [eM_43, mm_up_n _ _ (Ne.symm (dq_26_0))]; exact f9_M_42
  have f10_M_43 : M_43 (q_29) = some (aI G 12 (fun _ => 0)) := by rw [eM_43, mm_up_n _ _ (Ne.symm (dq_29_0))]; exact f10_M_42
  have f11_M_43 : M_43 (q_32) = some (aI G 12 (fun _ => 0)) := by rw [eM_43, mm_up_n _ _ (Ne.symm (dq_32_0))]; exact f11_M_42
  have f12_M_43 : M_43 (q_35) = some (aI G 288 (fun _ => 0)) := by rw [eM_43, mm_up_n _ _ (Ne.symm (dq_35_0))]; exact f12_M_42
  have f13_M_43 : M_43 (q_38) = some (aI G 288 (fun _ => 0)) := by rw [eM_43, mm_up_n _ _ (Ne.symm (dq_38_0))]; exact f13_M_42
  have f14_M_43 : M_43 (q_41) = some (aJ G 48 (fun _ => 0)) := by rw [eM_43, mm_up_n _ _ (Ne.symm (dq_41_0))]; exact fq_41
  have fr_M_43 : ∀ z, M z ≠ none → z ≠ a → M_43 z = M z := fun z h1 h2 => ((congrFun eM_43 z).trans (mm_up_n _ _ (h2))).trans (fr_M_42 z h1 h2)
  have hal := al_up hal eM_43
  refine lv_aload_n hx hb dX7_init_124 rfl (lv_at hl 0 rfl) ?_
  refine lv_bipush (v := 64) hx hb dX7_init_125 (by decide) ?_
  refine nw_I X hw 64 rfl (by decide) (Nat.le_of_ble_eq_true rfl) (Nat.le_of_ble_eq_true rfl) dX7_init_127 (fun q_44 H9 hq_44 hw => ?_)
  have n_q_44 : M q_44 = none := Classical.byContradiction (fun h9 => h9 ((fr_M_43 q_44 h9 (Ne.symm (ne_new (f0_M_43) hq_44))).symm.trans hq_44))
  obtain ⟨M_45, eM_45⟩ : ∃ z, z = mm_up M_43 q_44 (aI G 64 (fun _ => 0)) := ⟨_, rfl⟩
  rw [← eM_45] at hw
  have dq_44_0 : a ≠ q_44 := ne_new (f0_M_43) hq_44
  have f0_M_45 : M_45 (a) = some (.inr (7, [.int 1, .ref q_2, .ref q_5, .ref q_8, .ref q_11, .int 0, .ref q_14, .int 0, .ref q_17, .ref q_20, .ref q_23, .ref q_26, .int 0, .ref q_29, .ref q_32, .ref q_35, .ref q_38, .ref q_41, .int 0, .null, .null, .null, .null, .null, .int 0, .null, .null, .null])) := by rw [eM_45, mm_up_n _ _ dq_44_0]; exact f0_M_43
  have dq_44_1 : q_2 ≠ q_44 := ne_new (f1_M_43) hq_44
  have f1_M_45 : M_45 (q_2) = some (aI G 90 (fun _ => 0)) := by rw [eM_45, mm_up_n _ _ dq_44_1]; exact f1_M_43
  have dq_44_2 : q_5 ≠ q_44 := ne_new (f2_M_43) hq_44
  have f2_M_45 : M_45 (q_5) = some (aI G 80 (fun _ => 0)) := by rw [eM_45, mm_up_n _ _ dq_44_2]; exact f2_M_43
  have dq_44_3 : q_8 ≠ q_44 := ne_new (f3_M_43) hq_44
  have f3_M_45 : M_45 (q_8) = some (aI G 10 (fun _ => 0)) := by rw [eM_45, mm_up_n _ _ dq_44_3]; exact f3_M_43
  have dq_44_4 : q_11 ≠ q_44 := ne_new (f4_M_43) hq_44
  have f4_M_45 : M_45 (q_11) = some (aI G 10 (fun _ => 0)) := by rw [eM_45, mm_up_n _ _ dq_44_4]; exact f4_M_43
  have dq_44_5 : q_14 ≠ q_44 := ne_new (f5_M_43) hq_44
  have f5_M_45 : M_45 (q_14) = some (aI G 1001 (fun _ => 0)) := by rw [eM_45, mm_up_n _ _ dq_44_5]; exact f5_M_43
  have dq_44_6 : q_17 ≠ q_44 := ne_new (f6_M_43) hq_44
  have f6_M_45 : M_45 (q_17) = some (aI G 12 (fun _ => 0)) := by rw [eM_45, mm_up_n _ _ dq_44_6]; exact f6_M_43
  have dq_44_7 : q_20 ≠ q_44 := ne_new (f7_M_43) hq_44
  have f7_M_45 : M_45 (q_20) = some (aI G 12 (fun _ => 0)) := by rw [eM_45, mm_up_n _ _ dq_44_7]; exact f7_M_43
  have dq_44_8 : q_23 ≠ q_44 := ne_new (f8_M_43) hq_44
  have f8_M_45 : M_45 (q_23) = some (aI G 12 (fun _ => 0)) := by rw [eM_45, mm_up_n _ _ dq_44_8]; exact f8_M_43
  have dq_44_9 : q_26 ≠ q_44 := ne_new (f9_M_43) hq_44
  have f9_M_45 : M_45 (q_26) = some (aZ G 120 (fun _ => 0)) := by rw [eM_45, mm_up_n _ _ dq_44_9]; exact f9_M_43
  have dq_44_10 : q_29 ≠ q_44 := ne_new (f10_M_43) hq_44
  have f10_M_45 : M_45 (q_29) = some (aI G 12 (fun _ => 0)) := by rw [eM_45, mm_up_n _ _ dq_44_10]; exact f10_M_43
  have dq_44_11 : q_32 ≠ q_44 := ne_new (f11_M_43) hq_44
  have f11_M_45 : M_45 (q_32) = some (aI G 12 (fun _ => 0)) := by rw [eM_45, mm_up_n _ _ dq_44_11]; exact f11_M_43
  have dq_44_12 : q_35 ≠ q_44 := ne_new (f12_M_43) hq_44
  have f12_M_45 : M_45 (q_35) = some (aI G 288 (fun _ => 0)) := by rw [eM_45, mm_up_n _ _ dq_44_12]; exact f12_M_43
  have dq_44_13 : q_38 ≠ q_44 := ne_new (f13_M_43) hq_44
  have f13_M_45 : M_45 (q_38) = some (aI G 288 (fun _ => 0)) := by rw [eM_45, mm_up_n _ _ dq_44_13]; exact f13_M_43
  have dq_44_14 : q_41 ≠ q_44 := ne_new (f14_M_43) hq_44
  have f14_M_45 : M_45 (q_41) = some (aJ G 48 (fun _ => 0)) := by rw [eM_45, mm_up_n _ _ dq_44_14]; exact f14_M_43
  have fq_44 : M_45 q_44 = some (aI G 64 (fun _ => 0)) := by rw [eM_45]; exact mm_up_s _ _ _
  have fr_M_45 : ∀ z, M z ≠ none → z ≠ a → M_45 z = M z := fun z h1 h2 => ((congrFun eM_45 z).trans (mm_up_n _ _ (fun e9 => h1 (by rw [e9]; exact n_q_44)))).trans (fr_M_43 z h1 h2)
  refine W.eq (g2 := F0 m 129 ls [.ref q_44, .ref a]) rfl ?_
  have hnd := nd_new hal hnd hq_44
  have hal := al_new hal eM_45
  refine pf_X7_58 X hin hw (f0_M_45) (Nat.le_of_ble_eq_true rfl) dX7_init_129 (fun H9 locs9 hw => ?_)
  obtain ⟨M_46, eM_46⟩ : ∃ z, z = mm_up M_45 (a) (.inr (7, [.int 1, .ref q_2, .ref q_5, .ref q_8, .ref q_11, .int 0, .ref q_14, .int 0, .ref q_17, .ref q_20, .ref q_23, .ref q_26, .int 0, .ref q_29, .ref q_32, .ref q_35, .ref q_38, .ref q_41, .int 0, .ref q_44, .null, .null, .null, .null, .int 0, .null, .null, .null])) := ⟨_, rfl⟩
  have hw : mm_W G.1 vwCl (ct_A M s.heap.size) s.heap M_46 H9 locs9 := by rw [eM_46]; exact hw
  have f0_M_46 : M_46 (a) = some (.inr (7, [.int 1, .ref q_2, .ref q_5, .ref q_8, .ref q_11, .int 0, .ref q_14, .int 0, .ref q_17, .ref q_20, .ref q_23, .ref q_26, .int 0, .ref q_29, .ref q_32, .ref q_35, .ref q_38, .ref q_41, .int 0, .ref q_44, .null, .null, .null, .null, .int 0, .null, .null, .null])) := by rw [eM_46]; exact mm_up_s _ _ _
  have f1_M_46 : M_46 (q_2) = some (aI G 90 (fun _ => 0)) := by rw [eM_46, mm_up_n _ _ (Ne.symm (dq_2_0))]; exact f1_M_45
  have f2_M_46 : M_46 (q_5) = some (aI G 80 (fun _ => 0)) := by rw [eM_46, mm_up_n _ _ (Ne.symm (dq_5_0))]; exact f2_M_45
  have f3_M_46 : M_46 (q_8) = some (aI G 10 (fun _ => 0)) := by rw [eM_46, mm_up_n _ _ (Ne.symm (dq_8_0))]; exact f3_M_45
  have f4_M_46 : M_46 (q_11) = some (aI G 10 (fun _ => 0)) := by rw [eM_46, mm_up_n _ _ (Ne.symm (dq_11_0))]; exact f4_M_45
  have f5_M_46 : M_46 (q_14) = some (aI G 1001 (fun _ => 0)) := by rw [eM_46, mm_up_n _ _ (Ne.symm (dq_14_0))]; exact f5_M_45
  have f6_M_46 : M_46 (q_17) = some (aI G 12 (fun _ => 0)) := by rw [eM_46, mm_up_n _ _ (Ne.symm (dq_17_0))]; exact f6_M_45
  have f7_M_46 : M_46 (q_20) = some (aI G 12 (fun _ => 0)) := by rw [eM_46, mm_up_n _ _ (Ne.symm (dq_20_0))]; exact f7_M_45
  have f8_M_46 : M_46 (q_23) = some (aI G 12 (fun _ => 0)) := by rw [eM_46, mm_up_n _ _ (Ne.symm (dq_23_0))]; exact f8_M_45
  have f9_M_46 : M_46 (q_26) = some (aZ G 120 (fun _ => 0)) := by rw [eM_46, mm_up_n _ _ (Ne.symm (dq_26_0))]; exact f9_M_45
  have f10_M_46 : M_46 (q_29) = some (aI G 12 (fun _ => 0)) := by rw [eM_46, mm_up_n _ _ (Ne.symm (dq_29_0))]; exact f10_M_45
  have f11_M_46 : M_46 (q_32) = some (aI G 12 (fun _ => 0)) := by rw [eM_46, mm_up_n _ _ (Ne.symm (dq_32_0))]; exact f11_M_45
  have f12_M_46 : M_46 (q_35) = some (aI G 288 (fun _ => 0)) := by rw [eM_46, mm_up_n _ _ (Ne.symm (dq_35_0))]; exact f12_M_45
  have f13_M_46 : M_46 (q_38) = some (aI G 288 (fun _ => 0)) := by rw [eM_46, mm_up_n _ _ (Ne.symm (dq_38_0))]; exact f13_M_45
  have f14_M_46 : M_46 (q_41) = some (aJ G 48 (fun _ => 0)) := by rw [eM_46, mm_up_n _ _ (Ne.symm (dq_41_0))]; exact f14_M_45
  have f15_M_46 : M_46 (q_44) = some (aI G 64 (fun _ => 0)) := by rw [eM_46, mm_up_n _ _ (Ne.symm (dq_44_0))]; exact fq_44
  have fr_M_46 : ∀ z, M z ≠ none → z ≠ a → M_46 z = M z := fun z h1 h2 => ((congrFun eM_46 z).trans (mm_up_n _ _ (h2))).trans (fr_M_45 z h1 h2)
  have hal := al_up hal eM_46
  refine lv_aload_n hx hb dX7_init_132 rfl (lv_at hl 0 rfl) ?_
  refine lv_bipush (v := 64) hx hb dX7_init_133 (by decide) ?_
  refine nw_I X hw 64 rfl (by decide) (Nat.le_of_ble_eq_true rfl) (Nat.le_of_ble_eq_true rfl) dX7_init_135 (fun q_47 H9 hq_47 hw => ?_)
  have n_q_47 : M q_47 = none := Classical.byContradiction (fun h9 => h9 ((fr_M_46 q_47 h9 (Ne.symm (ne_new (f0_M_46) hq_47))).symm.trans hq_47))
  obtain ⟨M_48, eM_48⟩ : ∃ z, z = mm_up M_46 q_47 (aI G 64 (fun _ => 0)) := ⟨_, rfl⟩
  rw [← eM_48] at hw
  have dq_47_0 : a ≠ q_47 := ne_new (f0_M_46) hq_47
  have f0_M_48 : M_48 (a) = some (.inr (7, [.int 1, .ref q_2, .ref q_5, .ref q_8, .ref q_11, .int 0, .ref q_14, .int 0, .ref q_17, .ref q_20, .ref q_23, .ref q_26, .int 0, .ref q_29, .ref q_32, .ref q_35, .ref q_38, .ref q_41, .int 0, .ref q_44, .null, .null, .null, .null, .int 0, .null, .null, .null])) := by rw [eM_48, mm_up_n _ _ dq_47_0]; exact f0_M_46
  have dq_47_1 : q_2 ≠ q_47 := ne_new (f1_M_46) hq_47
  have f1_M_48 : M_48 (q_2) = some (aI G 90 (fun _ => 0)) := by rw [eM_48, mm_up_n _ _ dq_47_1]; exact f1_M_46
  have dq_47_2 : q_5 ≠ q_47 := ne_new (f2_M_46) hq_47
  have f2_M_48 : M_48 (q_5) = some (aI G 80 (fun _ => 0)) := by rw [eM_48, mm_up_n _ _ dq_47_2]; exact f2_M_46
  have dq_47_3 : q_8 ≠ q_47 := ne_new (f3_M_46) hq_47
  have f3_M_48 : M_48 (q_8) = some (aI G 10 (fun _ => 0)) := by rw [eM_48, mm_up_n _ _ dq_47_3]; exact f3_M_46
  have dq_47_4 : q_11 ≠ q_47 := ne_new (f4_M_46) hq_47
  have f4_M_48 : M_48 (q_11) = some (aI G 10 (fun _ => 0)) := by rw [eM_48, mm_up_n _ _ dq_47_4]; exact f4_M_46
  have dq_47_5 : q_14 ≠ q_47 := ne_new (f5_M_46) hq_47
  have f5_M_48 : M_48 (q_14) = some (aI G 1001 (fun _ => 0)) := by rw [eM_48, mm_up_n _ _ dq_47_5]; exact f5_M_46
  have dq_47_6 : q_17 ≠ q_47 := ne_new (f6_M_46) hq_47
  have f6_M_48 : M_48 (q_17) = some (aI G 12 (fun _ => 0)) := by rw [eM_48, mm_up_n _ _ dq_47_6]; exact f6_M_46
  have dq_47_7 : q_20 ≠ q_47 := ne_new (f7_M_46) hq_47
  have f7_M_48 : M_48 (q_20) = some (aI G 12 (fun _ => 0)) := by rw [eM_48, mm_up_n _ _ dq_47_7]; exact f7_M_46
  have dq_47_8 : q_23 ≠ q_47 := ne_new (f8_M_46) hq_47
  have f8_M_48 : M_48 (q_23) = some (aI G 12 (fun _ => 0)) := by rw [eM_48, mm_up_n _ _ dq_47_8]; exact f8_M_46
  have dq_47_9 : q_26 ≠ q_47 := ne_new (f9_M_46) hq_47
  have f9_M_48 : M_48 (q_26) = some (aZ G 120 (fun _ => 0)) := by rw [eM_48, mm_up_n _ _ dq_47_9]; exact f9_M_46
  have dq_47_10 : q_29 ≠ q_47 := ne_new (f10_M_46) hq_47
  have f10_M_48 : M_48 (q_29) = some (aI G 12 (fun _ => 0)) := by rw [eM_48, mm_up_n _ _ dq_47_10]; exact f10_M_46
  have dq_47_11 : q_32 ≠ q_47 := ne_new (f11_M_46) hq_47
  have f11_M_48 : M_48 (q_32) = some (aI G 12 (fun _ => 0)) := by rw [eM_48, mm_up_n _ _ dq_47_11]; exact f11_M_46
  have dq_47_12 : q_35 ≠ q_47 := ne_new (f12_M_46) hq_47
  have f12_M_48 : M_48 (q_35) = some (aI G 288 (fun _ => 0)) := by rw [eM_48, mm_up_n _ _ dq_47_12]; exact f12_M_46
  have dq_47_13 : q_38 ≠ q_47 := ne_new (f13_M_46) hq_47
  have f13_M_48 : M_48 (q_38) = some (aI G 288 (fun _ => 0)) := by rw [eM_48, mm_up_n _ _ dq_47_13]; exact f13_M_46
  have dq_47_14 : q_41 ≠ q_47 := ne_new (f14_M_46) hq_47
  have f14_M_48 : M_48 (q_41) = some (aJ G 48 (fun _ => 0)) := by rw [eM_48, mm_up_n _ _ dq_47_14]; exact f14_M_46
  have dq_47_15 : q_44 ≠ q_47 := ne_new (f15_M_46) hq_47
  have f15_M_48 : M_48 (q_44) = some (aI G 64 (fun _ => 0)) := by rw [eM_48, mm_up_n _ _ dq_47_15]; exact f15_M_46
  have fq_47 : M_48 q_47 = some (aI G 64 (fun _ => 0)) := by rw [eM_48]; exact mm_up_s _ _ _
  have fr_M_48 : ∀ z, M z ≠ none → z ≠ a → M_48 z = M z := fun z h1 h2 => ((congrFun eM_48 z).trans (mm_up_n _ _ (fun e9 => h1 (by rw [e9]; exact n_q_47)))).trans (fr_M_46 z h1 h2)
  refine W.eq (g2 := F0 m 137 ls [.ref q_47, .ref a]) rfl ?_
  have hnd := nd_new hal hnd hq_47
  have hal := al_new hal eM_48
  refine pf_X7_61 X hin hw (f0_M_48) (Nat.le_of_ble_eq_true rfl) dX7_init_137 (fun H9 locs9 hw => ?_)
  obtain ⟨M_49, eM_49⟩ : ∃ z, z = mm_up M_48 (a) (.inr (7, [.int 1, .ref q_2, .ref q_5, .ref q_8, .ref q_11, .int 0, .ref q_14, .int 0, .ref q_17, .ref q_20, .ref q_23, .ref q_26, .int 0, .ref q_29, .ref q_32, .ref q_35, .ref q_38, .ref q_41, .int 0, .ref q_44, .ref q_47, .null, .null, .null, .int 0, .null, .null, .null])) := ⟨_, rfl⟩
  have hw : mm_W G.1 vwCl (ct_A M s.heap.size) s.heap M_49 H9 locs9 := by rw [eM_49]; exact hw
  have f0_M_49 : M_49 (a) = some (.inr (7, [.int 1, .ref q_2, .ref q_5, .ref q_8, .ref q_11, .int 0, .ref q_14, .int 0, .ref q_17, .ref q_20, .ref q_23, .ref q_26, .int 0, .ref q_29, .ref q_32, .ref q_35, .ref q_38, .ref q_41, .int 0, .ref q_44, .ref q_47, .null, .null, .null, .int 0, .null, .null, .null])) := by rw [eM_49]; exact mm_up_s _ _ _
  have f1_M_49 : M_49 (q_2) = some (aI G 90 (fun _ => 0)) := by rw [eM_49, mm_up_n _ _ (Ne.symm (dq_2_0))]; exact f1_M_48
  have f2_M_49 : M_49 (q_5) = some (aI G 80 (fun _ => 0)) := by rw [eM_49, mm_up_n _ _ (Ne.symm (dq_5_0))]; exact f2_M_48
  have f3_M_49 : M_49 (q_8) = some (aI G 10 (fun _ => 0)) := by rw [eM_49, mm_up_n _ _ (Ne.symm (dq_8_0))]; exact f3_M_48
  have f4_M_49 : M_49 (q_11) = some (aI G 10 (fun _ => 0)) := by rw [eM_49, mm_up_n _ _ (Ne.symm (dq_11_0))]; exact f4_M_48
  have f5_M_49 : M_49 (q_14) = some (aI G 1001 (fun _ => 0)) := by rw [eM_49, mm_up_n _ _ (Ne.symm (dq_14_0))]; exact f5_M_48
  have f6_M_49 : M_49 (q_17) = some (aI G 12 (fun _ => 0)) := by rw [eM_49, mm_up_n _ _ (Ne.symm (dq_17_0))]; exact f6_M_48
  have f7_M_49 : M_49 (q_20) = some (aI G 12 (fun _ => 0)) := by rw [eM_49, mm_up_n _ _ (Ne.symm (dq_20_0))]; exact f7_M_48
  have f8_M_49 : M_49 (q_23) = some (aI G 12 (fun _ => 0)) := by rw [eM_49, mm_up_n _ _ (Ne.symm (dq_23_0))]; exact f8_M_48
  have f9_M_49 : M_49 (q_26) = some (aZ G 120 (fun _ => 0)) := by rw [eM_49, mm_up_n _ _ (Ne.symm (dq_26_0))]; exact f9_M_48
  have f10_M_49 : M_49 (q_29) = some (aI G 12 (fun _ => 0)) := by rw [eM_49, mm_up_n _ _ (Ne.symm (dq_29_0))]; exact f10_M_48
  have f11_M_49 : M_49 (q_32) = some (aI G 12 (fun _ => 0)) := by rw [eM_49, mm_up_n _ _ (Ne.symm (dq_32_0))]; exact f11_M_48
  have f12_M_49 : M_49 (q_35) = some (aI G 288 (fun _ => 0)) := by rw [eM_49, mm_up_n _ _ (Ne.symm (dq_35_0))]; exact f12_M_48
  have f13_M_49 : M_49 (q_38) = some (aI G 288 (fun _ => 0)) := by rw [eM_49, mm_up_n _ _ (Ne.symm (dq_38_0))]; exact f13_M_48
  have f14_M_49 : M_49 (q_41) = some (aJ G 48 (fun _ => 0)) := by rw [eM_49, mm_up_n _ _ (Ne.symm (dq_41_0))]; exact f14_M_48
  have f15_M_49 : M_49 (q_44) = some (aI G 64 (fun _ => 0)) := by rw [eM_49, mm_up_n _ _ (Ne.symm (dq_44_0))]; exact f15_M_48
  have f16_M_49 : M_49 (q_47) = some (aI G 64 (fun _ => 0)) := by rw [eM_49, mm_up_n _ _ (Ne.symm (dq_47_0))]; exact fq_47
  have fr_M_49 : ∀ z, M z ≠ none → z ≠ a → M_49 z = M z := fun z h1 h2 => ((congrFun eM_49 z).trans (mm_up_n _ _ (h2))).trans (fr_M_48 z h1 h2)
  have hal := al_up hal eM_49
  refine lv_aload_n hx hb dX7_init_140 rfl (lv_at hl 0 rfl) ?_
  refine lv_bipush (v := 64) hx hb dX7_init_141 (by decide) ?_
  refine nw_J X hw 64 rfl (by decide) (Nat.le_of_ble_eq_true rfl) (Nat.le_of_ble_eq_true rfl) dX7_init_143 (fun q_50 H9 hq_50 hw => ?_)
  have n_q_50 : M q_50 = none := Classical.byContradiction (fun h9 => h9 ((fr_M_49 q_50 h9 (Ne.symm (ne_new (f0_M_49) hq_50))).symm.trans hq_50))
  obtain ⟨M_51, eM_51⟩ : ∃ z, z = mm_up M_49 q_50 (aJ G 64 (fun _ => 0)) := ⟨_, rfl⟩
  rw [← eM_51] at hw
  have dq_50_0 : a ≠ q_50 := ne_new (f0_M_49) hq_50
  have f0_M_51 : M_51 (a) = some (.inr (7, [.int 1, .ref q_2, .ref q_5, .ref q_8, .ref q_11, .int 0, .ref q_14, .int 0, .ref q_17, .ref q_20, .ref q_23, .ref q_26, .int 0, .ref q_29, .ref q_32, .ref q_35, .ref q_38, .ref q_41, .int 0, .ref q_44, .ref q_47, .null, .null, .null, .int 0, .null, .null, .null])) := by rw [eM_51, mm_up_n _ _ dq_50_0]; exact f0_M_49
  have dq_50_1 : q_2 ≠ q_50 := ne_new (f1_M_49) hq_50
  have f1_M_51 : M_51 (q_2) = some (aI G 90 (fun _ => 0)) := by rw [eM_51, mm_up_n _ _ dq_50_1]; exact f1_M_49
  have dq_50_2 : q_5 ≠ q_50 := ne_new (f2_M_49) hq_50
  have f2_M_51 : M_51 (q_5) = some (aI G 80 (fun _ => 0)) := by rw [eM_51, mm_up_n _ _ dq_50_2]; exact f2_M_49
  have dq_50_3 : q_8 ≠ q_50 := ne_new (f3_M_49) hq_50
  have f3_M_51 : M_51 (q_8) = some (aI G 10 (fun _ => 0)) := by rw [eM_51, mm_up_n _ _ dq_50_3]; exact f3_M_49
  have dq_50_4 : q_11 ≠ q_50 := ne_new (f4_M_49) hq_50
  have f4_M_51 : M_51 (q_11) = some (aI G 10 (fun _ => 0)) := by rw [eM_51, mm_up_n _ _ dq_50_4]; exact f4_M_49
  have dq_50_5 : q_14 ≠ q_50 := ne_new (f5_M_49) hq_50
  have f5_M_51 : M_51 (q_14) = some (aI G 1001 (fun _ => 0)) := by rw [eM_51, mm_up_n _ _ dq_50_5]; exact f5_M_49
  have dq_50_6 : q_17 ≠ q_50 := ne_new (f6_M_49) hq_50
  have f6_M_51 : M_51 (q_17) = some (aI G 12 (fun _ => 0)) := by rw [eM_51, mm_up_n _ _ dq_50_6]; exact f6_M_49
  have dq_50_7 : q_20 ≠ q_50 := ne_new (f7_M_49) hq_50
  have f7_M_51 : M_51 (q_20) = some (aI G 12 (fun _ => 0)) := by rw [eM_51, mm_up_n _ _ dq_50_7]; exact f7_M_49
  have dq_50_8 : q_23 ≠ q_50 := ne_new (f8_M_49) hq_50
  have f8_M_51 : M_51 (q_23) = some (aI G 12 (fun _ => 0)) := by rw [eM_51, mm_up_n _ _ dq_50_8]; exact f8_M_49
  have dq_50_9 : q_26 ≠ q_50 := ne_new (f9_M_49) hq_50
  have f9_M_51 : M_51 (q_26) = some (aZ G 120 (fun _ => 0)) := by rw [eM_51, mm_up_n _ _ dq_50_9]; exact f9_M_49
  have dq_50_10 : q_29 ≠ q_50 := ne_new (f10_M_49) hq_50
  have f10_M_51 : M_51 (q_29) = some (aI G 12 (fun _ => 0)) := by rw [eM_51, mm_up_n _ _ dq_50_10]; exact f10_M_49
  have dq_50_11 : q_32 ≠ q_50 := ne_new (f11_M_49) hq_50
  have f11_M_51 : M_51 (q_32) = some (aI G 12 (fun _ => 0)) := by rw [eM_51, mm_up_n _ _ dq_50_11]; exact f11_M_49
  have dq_50_12 : q_35 ≠ q_50 := ne_new (f12_M_49) hq_50
  have f12_M_51 : M_51 (q_35) = some (aI G 288 (fun _ => 0)) := by rw [eM_51, mm_up_n _ _ dq_50_12]; exact f12_M_49
  have dq_50_13 : q_38 ≠ q_50 := ne_new (f13_M_49) hq_50
  have f13_M_51 : M_51 (q_38) = some (aI G 288 (fun _ => 0)) := by rw [eM_51, mm_up_n _ _ dq_50_13]; exact f13_M_49
  have dq_50_14 : q_41 ≠ q_50 := ne_new (f14_M_49) hq_50
  have f14_M_51 : M_51 (q_41) = some (aJ G 48 (fun _ => 0)) := by rw [eM_51, mm_up_n _ _ dq_50_14]; exact f14_M_49
  have dq_50_15 : q_44 ≠ q_50 := ne_new (f15_M_49) hq_50
  have f15_M_51 : M_51 (q_44) = some (aI G 64 (fun _ => 0)) := by rw [eM_51, mm_up_n _ _ dq_50_15]; exact f15_M_49
  have dq_50_16 : q_47 ≠ q_50 := ne_new (f16_M_49) hq_50
  have f16_M_51 : M_51 (q_47) = some (aI G 64 (fun _ => 0)) := by rw [eM_51, mm_up_n _ _ dq_50_16]; exact f16_M_49
  have fq_50 : M_51 q_50 = some (aJ G 64 (fun _ => 0)) := by rw [eM_51]; exact mm_up_s _ _ _
  have fr_M_51 : ∀ z, M z ≠ none → z ≠ a → M_51 z = M z := fun z h1 h2 => ((congrFun eM_51 z).trans (mm_up_n _ _ (fun e9 => h1 (by rw [e9]; exact n_q_50)))).trans (fr_M_49 z h1 h2)
  refine W.eq (g2 := F0 m 145 ls [.ref q_50, .ref a]) rfl ?_
  have hnd := nd_new hal hnd hq_50
  have hal := al_new hal eM_51
  refine pf_X7_64 X hin hw (f0_M_51) (Nat.le_of_ble_eq_true rfl) dX7_init_145 (fun H9 locs9 hw => ?_)
  obtain ⟨M_52, eM_52⟩ : ∃ z, z = mm_up M_51 (a) (.inr (7, [.int 1, .ref q_2, .ref q_5, .ref q_8, .ref q_11, .int 0, .ref q_14, .int 0, .ref q_17, .ref q_20, .ref q_23, .ref q_26, .int 0, .ref q_29, .ref q_32, .ref q_35, .ref q_38, .ref q_41, .int 0, .ref q_44, .ref q_47, .ref q_50, .null, .null, .int 0, .null, .null, .null])) := ⟨_, rfl⟩
  have hw : mm_W G.1 vwCl (ct_A M s.heap.size) s.heap M_52 H9 locs9 := by rw [eM_52]; exact hw
  have f0_M_52 : M_52 (a) = some (.inr (7, [.int 1, .ref q_2, .ref q_5, .ref q_8, .ref q_11, .int 0, .ref q_14, .int 0, .ref q_17, .ref q_20, .ref q_23, .ref q_26, .int 0, .ref q_29, .ref q_32, .ref q_35, .ref q_38, .ref q_41, .int 0, .ref q_44, .ref q_47, .ref q_50, .null, .null, .int 0, .null, .null, .null])) := by rw [eM_52]; exact mm_up_s _ _ _
  have f1_M_52 : M_52 (q_2) = some (aI G 90 (fun _ => 0)) := by rw [eM_52, mm_up_n _ _ (Ne.symm (dq_2_0))]; exact f1_M_51
  have f2_M_52 : M_52 (q_5) = some (aI G 80 (fun _ => 0)) := by rw [eM_52, mm_up_n _ _ (Ne.symm (dq_5_0))]; exact f2_M_51
  have f3_M_52 : M_52 (q_8) = some (aI G 10 (fun _ => 0)) := by rw [eM_52, mm_up_n _ _ (Ne.symm (dq_8_0))]; exact f3_M_51
  have f4_M_52 : M_52 (q_11) = some (aI G 10 (fun _ => 0)) := by rw [eM_52, mm_up_n _ _ (Ne.symm (dq_11_0))]; exact f4_M_51
  have f5_M_52 : M_52 (q_14) = some (aI G 1001 (fun _ => 0)) := by rw [eM_52, mm_up_n _ _ (Ne.symm (dq_14_0))]; exact f5_M_51
  have f6_M_52 : M_52 (q_17) = some (aI G 12 (fun _ => 0)) := by rw [eM_52, mm_up_n _ _ (Ne.symm (dq_17_0))]; exact f6_M_51
  have f7_M_52 : M_52 (q_20) = some (aI G 12 (fun _ => 0)) := by rw [eM_52, mm_up_n _ _ (Ne.symm (dq_20_0))]; exact f7_M_51
  have f8_M_52 : M_52 (q_23) = some (aI G 12 (fun _ => 0)) := by rw [eM_52, mm_up_n _ _ (Ne.symm (dq_23_0))]; exact f8_M_51
  have f9_M_52 : M_52 (q_26) = some (aZ G 120 (fun _ => 0)) := by rw [eM_52, mm_up_n _ _ (Ne.symm (dq_26_0))]; exact f9_M_51
  have f10_M_52 : M_52 (q_29) = some (aI G 12 (fun _ => 0)) := by rw [eM_52, mm_up_n _ _ (Ne.symm (dq_29_0))]; exact f10_M_51
  have f11_M_52 : M_52 (q_32) = some (aI G 12 (fun _ => 0)) := by rw [eM_52, mm_up_n _ _ (Ne.symm (dq_32_0))]; exact f11_M_51
  have f12_M_52 : M_52 (q_35) = some (aI G 288 (fun _ => 0)) := by rw [eM_52, mm_up_n _ _ (Ne.symm (dq_35_0))]; exact f12_M_51
  have f13_M_52 : M_52 (q_38) = some (aI G 288 (fun _ => 0)) := by rw [eM_52, mm_up_n _ _ (Ne.symm (dq_38_0))]; exact f13_M_51
  have f14_M_52 : M_52 (q_41) = some (aJ G 48 (fun _ => 0)) := by rw [eM_52, mm_up_n _ _ (Ne.symm (dq_41_0))]; exact f14_M_51
  have f15_M_52 : M_52 (q_44) = some (aI G 64 (fun _ => 0)) := by rw [eM_52, mm_up_n _ _ (Ne.symm (dq_44_0))]; exact f15_M_51
  have f16_M_52 : M_52 (q_47) = some (aI G 64 (fun _ => 0)) := by rw [eM_52, mm_up_n _ _ (Ne.symm (dq_47_0))]; exact f16_M_51
  have f17_M_52 : M_52 (q_50) = some (aJ G 64 (fun _ => 0)) := by rw [eM_52, mm_up_n _ _ (Ne.symm (dq_50_0))]; exact fq_50
  have fr_M_52 : ∀ z, M z ≠ none → z ≠ a → M_52 z = M z := fun z h1 h2 => ((congrFun eM_52 z).trans (mm_up_n _ _ (h2))).trans (fr_M_51 z h1 h2)
  have hal := al_up hal eM_52
  refine lv_aload_n hx hb dX7_init_148 rfl (lv_at hl 0 rfl) ?_
  refine lv_bipush (v := 64) hx hb dX7_init_149 (by decide) ?_
  refine nw_I X hw 64 rfl (by decide) (Nat.le_of_ble_eq_true rfl) (Nat.le_of_ble_eq_true rfl) dX7_init_151 (fun q_53 H9 hq_53 hw => ?_)
  have n_q_53 : M q_53 = none := Classical.byContradiction (fun h9 => h9 ((fr_M_52 q_53 h9 (Ne.symm (ne_new (f0_M_52) hq_53))).symm.trans hq_53))
  obtain ⟨M_54, eM_54⟩ : ∃ z, z = mm_up M_52 q_53 (aI G 64 (fun _ => 0)) := ⟨_, rfl⟩
  rw [← eM_54] at hw
  have dq_53_0 : a ≠ q_53 := ne_new (f0_M_52) hq_53
  have f0_M_54 : M_54 (a) = some (.inr (7, [.int 1, .ref q_2, .ref q_5, .ref q_8, .ref q_11, .int 0, .ref q_14, .int 0, .ref q_17, .ref q_20, .ref q_23, .ref q_26, .int 0, .ref q_29, .ref q_32, .ref q_35, .ref q_38, .ref q_41, .int 0, .ref q_44, .ref q_47, .ref q_50, .null, .null, .int 0, .null, .null, .null])) := by rw [eM_54, mm_up_n _ _ dq_53_0]; exact f0_M_52
  have dq_53_1 : q_2 ≠ q_53 := ne_new (f1_M_52) hq_53
  have f1_M_54 : M_54 (q_2) = some (aI G 90 (fun _ => 0)) := by rw [eM_54, mm_up_n _ _ dq_53_1]; exact f1_M_52
  have dq_53_2 : q_5 ≠ q_53 := ne_new (f2_M_52) hq_53
  have f2_M_54 : M_54 (q_5) = some (aI G 80 (fun _ => 0)) := by rw [eM_54, mm_up_n _ _ dq_53_2]; exact f2_M_52
  have dq_53_3 : q_8 ≠ q_53 := ne_new (f3_M_52) hq_53
  have f3_M_54 : M_54 (q_8) = some (aI G 10 (fun _ => 0)) := by rw [eM_54, mm_up_n _ _ dq_53_3]; exact f3_M_52
  have dq_53_4 : q_11 ≠ q_53 := ne_new (f4_M_52) hq_53
  have f4_M_54 : M_54 (q_11) = some (aI G 10 (fun _ => 0)) := by rw [eM_54, mm_up_n _ _ dq_53_4]; exact f4_M_52
  have dq_53_5 : q_14 ≠ q_53 := ne_new (f5_M_52) hq_53
  have f5_M_54 : M_54 (q_14) = some (aI G 1001 (fun _ => 0)) := by rw [eM_54, mm_up_n _ _ dq_53_5]; exact f5_M_52
  have dq_53_6 : q_17 ≠ q_53 := ne_new (f6_M_52) hq_53
  have f6_M_54 : M_54 (q_17) = some (aI G 12 (fun _ => 0)) := by rw [eM_54, mm_up_n _ _ dq_53_6]; exact f6_M_52
  have dq_53_7 : q_20 ≠ q_53 := ne_new (f7_M_52) hq_53
  have f7_M_54 : M_54 (q_20) = some (aI G 12 (fun _ => 0)) := by rw [eM_54, mm_up_n _ _ dq_53_7]; exact f7_M_52
  have dq_53_8 : q_23 ≠ q_53 := ne_new (f8_M_52) hq_53
  have f8_M_54 : M_54 (q_23) = some (aI G 12 (fun _ => 0)) := by rw [eM_54, mm_up_n _ _ dq_53_8]; exact f8_M_52
  have dq_53_9 : q_26 ≠ q_53 := ne_new (f9_M_52) hq_53
  have f9_M_54 : M_54 (q_26) = some (aZ G 120 (fun _ => 0)) := by rw [eM_54, mm_up_n _ _ dq_53_9]; exact f9_M_52
  have dq_53_10 : q_29 ≠ q_53 := ne_new (f10_M_52) hq_53
  have f10_M_54 : M_54 (q_29) = some (aI G 12 (fun _ => 0)) := by rw [eM_54, mm_up_n _ _ dq_53_10]; exact f10_M_52
  have dq_53_11 : q_32 ≠ q_53 := ne_new (f11_M_52) hq_53
  have f11_M_54 : M_54 (q_32) = some (aI G 12 (fun _ => 0)) := by rw [eM_54, mm_up_n _ _ dq_53_11]; exact f11_M_52
  have dq_53_12 : q_35 ≠ q_53 := ne_new (f12_M_52) hq_53
  have f12_M_54 : M_54 (q_35) = some (aI G 288 (fun _ => 0)) := by rw [eM_54, mm_up_n _ _ dq_53_12]; exact f12_M_52
  have dq_53_13 : q_38 ≠ q_53 := ne_new (f13_M_52) hq_53
  have f13_M_54 : M_54 (q_38) = some (aI G 288 (fun _ => 0)) := by rw [eM_54, mm_up_n _ _ dq_53_13]; exact f13_M_52
  have dq_53_14 : q_41 ≠ q_53 := ne_new (f14_M_52) hq_53
  have f14_M_54 : M_54 (q_41) = some (aJ G 48 (fun _ => 0)) := by rw [eM_54, mm_up_n _ _ dq_53_14]; exact f14_M_52
  have dq_53_15 : q_44 ≠ q_53 := ne_new (f15_M_52) hq_53
  have f15_M_54 : M_54 (q_44) = some (aI G 64 (fun _ => 0)) := by rw [eM_54, mm_up_n _ _ dq_53_15]; exact f15_M_52
  have dq_53_16 : q_47 ≠ q_53 := ne_new (f16_M_52) hq_53
  have f16_M_54 : M_54 (q_47) = some (aI G 64 (fun _ => 0)) := by rw [eM_54, mm_up_n _ _ dq_53_16]; exact f16_M_52
  have dq_53_17 : q_50 ≠ q_53 := ne_new (f17_M_52) hq_53
  have f17_M_54 : M_54 (q_50) = some (aJ G 64 (fun _ => 0)) := by rw [eM_54, mm_up_n _ _ dq_53_17]; exact f17_M_52
  have fq_53 : M_54 q_53 = some (aI G 64 (fun _ => 0)) := by rw [eM_54]; exact mm_up_s _ _ _
  have fr_M_54 : ∀ z, M z ≠ none → z ≠ a → M_54 z = M z := fun z h1 h2 => ((congrFun eM_54 z).trans (mm_up_n _ _ (fun e9 => h1 (by rw [e9]; exact n_q_53)))).trans (fr_M_52 z h1 h2)
  refine W.eq (g2 := F0 m 153 ls [.ref q_53, .ref a]) rfl ?_
  have hnd := nd_new hal hnd hq_53
  have hal := al_new hal eM_54
  refine pf_X7_67 X hin hw (f0_M_54) (Nat.le_of_ble_eq_true rfl) dX7_init_153 (fun H9 locs9 hw => ?_)
  obtain ⟨M_55, eM_55⟩ : ∃ z, z = mm_up M_54 (a) (.inr (7, [.int 1, .ref q_2, .ref q_5, .ref q_8, .ref q_11, .int 0, .ref q_14, .int 0, .ref q_17, .ref q_20, .ref q_23, .ref q_26, .int 0, .ref q_29, .ref q_32, .ref q_35, .ref q_38, .ref q_41, .int 0, .ref q_44, .ref q_47, .ref q_50, .ref q_53, .null, .int 0, .null, .null, .null])) := ⟨_, rfl⟩
  have hw : mm_W G.1 vwCl (ct_A M s.heap.size) s.heap M_55 H9 locs9 := by rw [eM_55]; exact hw
  have f0_M_55 : M_55 (a) = some (.inr (7, [.int 1, .ref q_2, .ref q_5, .ref q_8, .ref q_11, .int 0, .ref q_14, .int 0, .ref q_17, .ref q_20, .ref q_23, .ref q_26, .int 0, .ref q_29, .ref q_32, .ref q_35, .ref q_38, .ref q_41, .int 0, .ref q_44, .ref q_47, .ref q_50, .ref q_53, .null, .int 0, .null, .null, .null])) := by rw [eM_55]; exact mm_up_s _ _ _
  have f1_M_55 : M_55 (q_2) = some (aI G 90 (fun _ => 0)) := by rw [eM_55, mm_up_n _ _ (Ne.symm (dq_2_0))]; exact f1_M_54
  have f2_M_55 : M_55 (q_5) = some (aI G 80 (fun _ => 0)) := by rw [eM_55, mm_up_n _ _ (Ne.symm (dq_5_0))]; exact f2_M_54
  have f3_M_55 : M_55 (q_8) = some (aI G 10 (fun _ => 0)) := by rw [eM_55, mm_up_n _ _ (Ne.symm (dq_8_0))]; exact f3_M_54
  have f4_M_55 : M_55 (q_11) = some (aI G 10 (fun _ => 0)) := by rw [eM_55, mm_up_n _ _ (Ne.symm (dq_11_0))]; exact f4_M_54
  have f5_M_55 : M_55 (q_14) = some (aI G 1001 (fun _ => 0)) := by rw [eM_55, mm_up_n _ _ (Ne.symm (dq_14_0))]; exact f5_M_54
  have f6_M_55 : M_55 (q_17) = some (aI G 12 (fun _ => 0)) := by rw [eM_55, mm_up_n _ _ (Ne.symm (dq_17_0))]; exact f6_M_54
  have f7_M_55 : M_55 (q_20) = some (aI G 12 (fun _ => 0)) := by rw [eM_55, mm_up_n _ _ (Ne.symm (dq_20_0))]; exact f7_M_54
  have f8_M_55 : M_55 (q_23) = some (aI G 12 (fun _ => 0)) := by rw [eM_55, mm_up_n _ _ (Ne.symm (dq_23_0))]; exact f8_M_54
  have f9_M_55 : M_55 (q_26) = some (aZ G 120 (fun _ => 0)) := by rw [eM_55, mm_up_n _ _ (Ne.symm (dq_26_0))]; exact f9_M_54
  have f10_M_55 : M_55 (q_29) = some (aI G 12 (fun _ => 0)) := by rw [eM_55, mm_up_n _ _ (Ne.symm (dq_29_0))]; exact f10_M_54
  have f11_M_55 : M_55 (q_32) = some (aI G 12 (fun _ => 0)) := by rw [eM_55, mm_up_n _ _ (Ne.symm (dq_32_0))]; exact f11_M_54
  have f12_M_55 : M_55 (q_35) = some (aI G 288 (fun _ => 0)) := by rw [eM_55, mm_up_n _ _ (Ne.symm (dq_35_0))]; exact f12_M_54
  have f13_M_55 : M_55 (q_38) = some (aI G 288 (fun _ => 0)) := by rw [eM_55, mm_up_n _ _ (Ne.symm (dq_38_0))]; exact f13_M_54
  have f14_M_55 : M_55 (q_41) = some (aJ G 48 (fun _ => 0)) := by rw [eM_55, mm_up_n _ _ (Ne.symm (dq_41_0))]; exact f14_M_54
  have f15_M_55 : M_55 (q_44) = some (aI G 64 (fun _ => 0)) := by rw [eM_55, mm_up_n _ _ (Ne.symm (dq_44_0))]; exact f15_M_54
  have f16_M_55 : M_55 (q_47) = some (aI G 64 (fun _ => 0)) := by rw [eM_55, mm_up_n _ _ (Ne.symm (dq_47_0))]; exact f16_M_54
  have f17_M_55 : M_55 (q_50) = some (aJ G 64 (fun _ => 0)) := by rw [eM_55, mm_up_n _ _ (Ne.symm (dq_50_0))]; exact f17_M_54
  have f18_M_55 : M_55 (q_53) = some (aI G 64 (fun _ => 0)) := by rw [eM_55, mm_up_n _ _ (Ne.symm (dq_53_0))]; exact fq_53
  have fr_M_55 : ∀ z, M z ≠ none → z ≠ a → M_55 z = M z := fun z h1 h2 => ((congrFun eM_55 z).trans (mm_up_n _ _ (h2))).trans (fr_M_54 z h1 h2)
  have hal := al_up hal eM_55
  refine lv_aload_n hx hb dX7_init_156 rfl (lv_at hl 0 rfl) ?_
  refine lv_bipush (v := 64) hx hb dX7_init_157 (by decide) ?_
  refine nw_I X hw 64 rfl (by decide) (Nat.le_of_ble_eq_true rfl) (Nat.le_of_ble_eq_true rfl) dX7_init_159 (fun q_56 H9 hq_56 hw => ?_)
  have n_q_56 : M q_56 = none := Classical.byContradiction (fun h9 => h9 ((fr_M_55 q_56 h9 (Ne.symm (ne_new (f0_M_55) hq_56))).symm.trans hq_56))
  obtain ⟨M_57, eM_57⟩ : ∃ z, z = mm_up M_55 q_56 (aI G 64 (fun _ => 0)) := ⟨_, rfl⟩
  rw [← eM_57] at hw
  have dq_56_0 : a ≠ q_56 := ne_new (f0_M_55) hq_56
  have f0_M_57 : M_57 (a) = some (.inr (7, [.int 1, .ref q_2, .ref q_5, .ref q_8, .ref q_11, .int 0, .ref q_14, .int 0, .ref q_17, .ref q_20, .ref q_23, .ref q_26, .int 0, .ref q_29, .ref q_32, .ref q_35, .ref q_38, .ref q_41, .int 0, .ref q_44, .ref q_47, .ref q_50, .ref q_53, .null, .int 0, .null, .null, .null])) := by rw [eM_57, mm_up_n _ _ dq_56_0]; exact f0_M_55
  have dq_56_1 : q_2 ≠ q_56 := ne_new (f1_M_55) hq_56
  have f1_M_57 : M_57 (q_2) = some (aI G 90 (fun _ => 0)) := by rw [eM_57, mm_up_n _ _ dq_56_1]; exact f1_M_55
  have dq_56_2 : q_5 ≠ q_56 := ne_new (f2_M_55) hq_56
  have f2_M_57 : M_57 (q_5) = some (aI G 80 (fun _ => 0)) := by rw [eM_57, mm_up_n _ _ dq_56_2]; exact f2_M_55
  have dq_56_3 : q_8 ≠ q_56 := ne_new (f3_M_55) hq_56
  have f3_M_57 : M_57 (q_8) = some (aI G 10 (fun _ => 0)) := by rw [eM_57, mm_up_n _ _ dq_56_3]; exact f3_M_55
  have dq_56_4 : q_11 ≠ q_56 := ne_new (f4_M_55) hq_56
  have f4_M_57 : M_57 (q_11) = some (aI G 10 (fun _ => 0)) := by rw [eM_57, mm_up_n _ _ dq_56_4]; exact f4_M_55
  have dq_56_5 : q_14 ≠ q_56 := ne_new (f5_M_55) hq_56
  have f5_M_57 : M_57 (q_14) = some (aI G 1001 (fun _ => 0)) := by rw [eM_57, mm_up_n _ _ dq_56_5]; exact f5_M_55
  have dq_56_6 : q_17 ≠ q_56 := ne_new (f6_M_55) hq_56
  have f6_M_57 : M_57 (q_17) = some (aI G 12 (fun _ => 0)) := by rw [eM_57, mm_up_n _ _ dq_56_6]; exact f6_M_55
  have dq_56_7 : q_20 ≠ q_56 := ne_new (f7_M_55) hq_56
  have f7_M_57 : M_57 (q_20) = some (aI G 12 (fun _ => 0)) := by rw [eM_57, mm_up_n _ _ dq_56_7]; exact f7_M_55
  have dq_56_8 : q_23 ≠ q_56 := ne_new (f8_M_55) hq_56
  have f8_M_57 : M_57 (q_23) = some (aI G 12 (fun _ => 0)) := by rw [eM_57, mm_up_n _ _ dq_56_8]; exact f8_M_55
  have dq_56_9 : q_26 ≠ q_56 := ne_new (f9_M_55) hq_56
  have f9_M_57 : M_57 (q_26) = some (aZ G 120 (fun _ => 0)) := by rw [eM_57, mm_up_n _ _ dq_56_9]; exact f9_M_55
  have dq_56_10 : q_29 ≠ q_56 := ne_new (f10_M_55) hq_56
  have f10_M_57 : M_57 (q_29) = some (aI G 12 (fun _ => 0)) := by rw [eM_57, mm_up_n _ _ dq_56_10]; exact f10_M_55
  have dq_56_11 : q_32 ≠ q_56 := ne_new (f11_M_55) hq_56
  have f11_M_57 : M_57 (q_32) = some (aI G 12 (fun _ => 0)) := by rw [eM_57, mm_up_n _ _ dq_56_11]; exact f11_M_55
  have dq_56_12 : q_35 ≠ q_56 := ne_new (f12_M_55) hq_56
  have f12_M_57 : M_57 (q_35) = some (aI G 288 (fun _ => 0)) := by rw [eM_57, mm_up_n _ _ dq_56_12]; exact f12_M_55
  have dq_56_13 : q_38 ≠ q_56 := ne_new (f13_M_55) hq_56
  have f13_M_57 : M_57 (q_38) = some (aI G 288 (fun _ => 0)) := by rw [eM_57, mm_up_n _ _ dq_56_13]; exact f13_M_55
  have dq_56_14 : q_41 ≠ q_56 := ne_new (f14_M_55) hq_56
  have f14_M_57 : M_57 (q_41) = some (aJ G 48 (fun _ => 0)) := by rw [eM_57, mm_up_n _ _ dq_56_14]; exact f14_M_55
  have dq_56_15 : q_44 ≠ q_56 := ne_new (f15_M_55) hq_56
  have f15_M_57 : M_57 (q_44) = some (aI G 64 (fun _ => 0)) := by rw [eM_57, mm_up_n _ _ dq_56_15]; exact f15_M_55
  have dq_56_16 : q_47 ≠ q_56 := ne_new (f16_M_55) hq_56
  have f16_M_57 : M_57 (q_47) = some (aI G 64 (fun _ => 0)) := by rw [eM_57, mm_up_n _ _ dq_56_16]; exact f16_M_55
  have dq_56_17 : q_50 ≠ q_56 := ne_new (f17_M_55) hq_56
  have f17_M_57 : M_57 (q_50) = some (aJ G 64 (fun _ => 0)) := by rw [eM_57, mm_up_n _ _ dq_56_17]; exact f17_M_55
  have dq_56_18 : q_53 ≠ q_56 := ne_new (f18_M_55) hq_56
  have f18_M_57 : M_57 (q_53) = some (aI G 64 (fun _ => 0)) := by rw [eM_57, mm_up_n _ _ dq_56_18]; exact f18_M_55
  have fq_56 : M_57 q_56 = some (aI G 64 (fun _ => 0)) := by rw [eM_57]; exact mm_up_s _ _ _
  have fr_M_57 : ∀ z, M z ≠ none → z ≠ a → M_57 z = M z := fun z h1 h2 => ((congrFun eM_57 z).trans (mm_up_n _ _ (fun e9 => h1 (by rw [e9]; exact n_q_56)))).trans (fr_M_55 z h1 h2)
  refine W.eq (g2 := F0 m 161 ls [.ref q_56, .ref a]) rfl ?_
  have hnd := nd_new hal hnd hq_56
  have hal := al_new hal eM_57
  refine pf_X7_70 X hin hw (f0_M_57) (Nat.le_of_ble_eq_true rfl) dX7_init_161 (fun H9 locs9 hw => ?_)
  obtain ⟨M_58, eM_58⟩ : ∃ z, z = mm_up M_57 (a) (.inr (7, [.int 1, .ref q_2, .ref q_5, .ref q_8, .ref q_11, .int 0, .ref q_14, .int 0, .ref q_17, .ref q_20, .ref q_23, .ref q_26, .int 0, .ref q_29, .ref q_32, .ref q_35, .ref q_38, .ref q_41, .int 0, .ref q_44, .ref q_47, .ref q_50, .ref q_53, .ref q_56, .int 0, .null, .null, .null])) := ⟨_, rfl⟩
  have hw : mm_W G.1 vwCl (ct_A M s.heap.size) s.heap M_58 H9 locs9 := by rw [eM_58]; exact hw
  have f0_M_58 : M_58 (a) = some (.inr (7, [.int 1, .ref q_2, .ref q_5, .ref q_8, .ref q_11, .int 0, .ref q_14, .int 0, .ref q_17, .ref q_20, .ref q_23, .ref q_26, .int 0, .ref q_29, .ref q_32, .ref q_35, .ref q_38, .ref q_41, .int 0, .ref q_44, .ref q_47, .ref q_50, .ref q_53, .ref q_56, .int 0, .null, .null, .null])) := by rw [eM_58]; exact mm_up_s _ _ _
  have f1_M_58 : M_58 (q_2) = some (aI G 90 (fun _ => 0)) := by rw [eM_58, mm_up_n _ _ (Ne.symm (dq_2_0))]; exact f1_M_57
  have f2_M_58 : M_58 (q_5) = some (aI G 80 (fun _ => 0)) := by rw [eM_58, mm_up_n _ _ (Ne.symm (dq_5_0))]; exact f2_M_57
  have f3_M_58 : M_58 (q_8) = some (aI G 10 (fun _ => 0)) := by rw [eM_58, mm_up_n _ _ (Ne.symm (dq_8_0))]; exact f3_M_57
  have f4_M_58 : M_58 (q_11) = some (aI G 10 (fun _ => 0)) := by rw [eM_58, mm_up_n _ _ (Ne.symm (dq_11_0))]; exact f4_M_57
  have f5_M_58 : M_58 (q_14) = some (aI G 1001 (fun _ => 0)) := by rw [eM_58, mm_up_n _ _ (Ne.symm (dq_14_0))]; exact f5_M_57
  have f6_M_58 : M_58 (q_17) = some (aI G 12 (fun _ => 0)) := by rw [eM_58, mm_up_n _ _ (Ne.symm (dq_17_0))]; exact f6_M_57
  have f7_M_58 : M_58 (q_20) = some (aI G 12 (fun _ => 0)) := by rw [eM_58, mm_up_n _ _ (Ne.symm (dq_20_0))]; exact f7_M_57
  have f8_M_58 : M_58 (q_23) = some (aI G 12 (fun _ => 0)) := by rw [eM_58, mm_up_n _ _ (Ne.symm (dq_23_0))]; exact f8_M_57
  have f9_M_58 : M_58 (q_26) = some (aZ G 120 (fun _ => 0)) := by rw [eM_58, mm_up_n _ _ (Ne.symm (dq_26_0))]; exact f9_M_57
  have f10_M_58 : M_58 (q_29) = some (aI G 12 (fun _ => 0)) := by rw [eM_58, mm_up_n _ _ (Ne.symm (dq_29_0))]; exact f10_M_57
  have f11_M_58 : M_58 (q_32) = some (aI G 12 (fun _ => 0)) := by rw [eM_58, mm_up_n _ _ (Ne.symm (dq_32_0))]; exact f11_M_57
  have f12_M_58 : M_58 (q_35) = some (aI G 288 (fun _ => 0)) := by rw [eM_58, mm_up_n _ _ (Ne.symm (dq_35_0))]; exact f12_M_57
  have f13_M_58 : M_58 (q_38) = some (aI G 288 (fun _ => 0)) := by rw [eM_58, mm_up_n _ _ (Ne.symm (dq_38_0))]; exact f13_M_57
  have f14_M_58 : M_58 (q_41) = some (aJ G 48 (fun _ => 0)) := by rw [eM_58, mm_up_n _ _ (Ne.symm (dq_41_0))]; exact f14_M_57
  have f15_M_58 : M_58 (q_44) = some (aI G 64 (fun _ => 0)) := by rw [eM_58, mm_up_n _ _ (Ne.symm (dq_44_0))]; exact f15_M_57
  have f16_M_58 : M_58 (q_47) = some (aI G 64 (fun _ => 0)) := by rw [eM_58, mm_up_n _ _ (Ne.symm (dq_47_0))]; exact f16_M_57
  have f17_M_58 : M_58 (q_50) = some (aJ G 64 (fun _ => 0)) := by rw [eM_58, mm_up_n _ _ (Ne.symm (dq_50_0))]; exact f17_M_57
  have f18_M_58 : M_58 (q_53) = some (aI G 64 (fun _ => 0)) := by rw [eM_58, mm_up_n _ _ (Ne.symm (dq_53_0))]; exact f18_M_57
  have f19_M_58 : M_58 (q_56) = some (aI G 64 (fun _ => 0)) := by rw [eM_58, mm_up_n _ _ (Ne.symm (dq_56_0))]; exact fq_56
  have fr_M_58 : ∀ z, M z ≠ none → z ≠ a → M_58 z = M z := fun z h1 h2 => ((congrFun eM_58 z).trans (mm_up_n _ _ (h2))).trans (fr_M_57 z h1 h2)
  have hal := al_up hal eM_58
  refine lv_aload_n hx hb dX7_init_164 rfl (lv_at hl 0 rfl) ?_
  refine lv_bipush (v := 24) hx hb dX7_init_165 (by decide) ?_
  refine nw_J X hw 24 rfl (by decide) (Nat.le_of_ble_eq_true rfl) (Nat.le_of_ble_eq_true rfl) dX7_init_167 (fun q_59 H9 hq_59 hw => ?_)
  have n_q_59 : M q_59 = none := Classical.byContradiction (fun h9 => h9 ((fr_M_58 q_59 h9 (Ne.symm (ne_new (f0_M_58) hq_59))).symm.trans hq_59))
  obtain ⟨M_60, eM_60⟩ : ∃ z, z = mm_up M_58 q_59 (aJ G 24 (fun _ => 0)) := ⟨_, rfl⟩
  rw [← eM_60] at hw
  have dq_59_0 : a ≠ q_59 := ne_new (f0_M_58) hq_59
  have f0_M_60 : M_60 (a) = some (.inr (7, [.int 1, .ref q_2, .ref q_5, .ref q_8, .ref q_11, .int 0, .ref q_14, .int 0, .ref q_17, .ref q_20, .ref q_23, .ref q_26, .int 0, .ref q_29, .ref q_32, .ref q_35, .ref q_38, .ref q_41, .int 0, .ref q_44, .ref q_47, .ref q_50, .ref q_53, .ref q_56, .int 0, .null, .null, .null])) := by rw [eM_60, mm_up_n _ _ dq_59_0]; exact f0_M_58
  have dq_59_1 : q_2 ≠ q_59 := ne_new (f1_M_58) hq_59
  have f1_M_60 : M_60 (q_2) = some (aI G 90 (fun _ => 0)) := by rw [eM_60, mm_up_n _ _ dq_59_1]; exact f1_M_58
  have dq_59_2 : q_5 ≠ q_59 := ne_new (f2_M_58) hq_59
  have f2_M_60 : M_60 (q_5) = some (aI G 80 (fun _ => 0)) := by rw [eM_60, mm_up_n _ _ dq_59_2]; exact f2_M_58
  have dq_59_3 : q_8 ≠ q_59 := ne_new (f3_M_58) hq_59
  have f3_M_60 : M_60 (q_8) = some (aI G 10 (fun _ => 0)) := by rw [eM_60, mm_up_n _ _ dq_59_3]; exact f3_M_58
  have dq_59_4 : q_11 ≠ q_59 := ne_new (f4_M_58) hq_59
  have f4_M_60 : M_60 (q_11) = some (aI G 10 (fun _ => 0)) := by rw [eM_60, mm_up_n _ _ dq_59_4]; exact f4_M_58
  have dq_59_5 : q_14 ≠ q_59 := ne_new (f5_M_58) hq_59
  have f5_M_60 : M_60 (q_14) = some (aI G 1001 (fun _ => 0)) := by rw [eM_60, mm_up_n _ _ dq_59_5]; exact f5_M_58
  have dq_59_6 : q_17 ≠ q_59 := ne_new (f6_M_58) hq_59
  have f6_M_60 : M_60 (q_17) = some (aI G 12 (fun _ => 0)) := by rw [eM_60, mm_up_n _ _ dq_59_6]; exact f6_M_58
  have dq_59_7 : q_20 ≠ q_59 := ne_new (f7_M_58) hq_59
  have f7_M_60 : M_60 (q_20) = some (aI G 12 (fun _ => 0)) := by rw [eM_60, mm_up_n _ _ dq_59_7]; exact f7_M_58
  have dq_59_8 : q_23 ≠ q_59 := ne_new (f8_M_58) hq_59
  have f8_M_60 : M_60 (q_23) = some (aI G 12 (fun _ => 0)) := by rw [eM_60, mm_up_n _ _ dq_59_8]; exact f8_M_58
  have dq_59_9 : q_26 ≠ q_59 := ne_new (f9_M_58) hq_59
  have f9_M_60 : M_60 (q_26) = some (aZ G 120 (fun _ => 0)) := by rw [eM_60, mm_up_n _ _ dq_59_9]; exact f9_M_58
  have dq_59_10 : q_29 ≠ q_59 := ne_new (f10_M_58) hq_59
  have f10_M_60 : M_60 (q_29) = some (aI G 12 (fun _ => 0)) := by rw [eM_60, mm_up_n _ _ dq_59_10]; exact f10_M_58
  have dq_59_11 : q_32 ≠ q_59 := ne_new (f11_M_58) hq_59
  have f11_M_60 : M_60 (q_32) = some (aI G 12 (fun _ => 0)) := by rw [eM_60, mm_up_n _ _ dq_59_11]; exact f11_M_58
  have dq_59_12 : q_35 ≠ q_59 := ne_new (f12_M_58) hq_59
  have f12_M_60 : M_60 (q_35) = some (aI G 288 (fun _ => 0)) := by rw [eM_60, mm_up_n _ _ dq_59_12]; exact f12_M_58
  have dq_59_13 : q_38 ≠ q_59 := ne_new (f13_M_58) hq_59
  have f13_M_60 : M_60 (q_38) = some (aI G 288 (fun _ => 0)) := by rw [eM_60, mm_up_n _ _ dq_59_13]; exact f13_M_58
  have dq_59_14 : q_41 ≠ q_59 := ne_new (f14_M_58) hq_59
  have f14_M_60 : M_60 (q_41) = some (aJ G 48 (fun _ => 0)) := by rw [eM_60, mm_up_n _ _ dq_59_14]; exact f14_M_58
  have dq_59_15 : q_44 ≠ q_59 := ne_new (f15_M_58) hq_59
  have f15_M_60 : M_60 (q_44) = some (aI G 64 (fun _ => 0)) := by rw [eM_60, mm_up_n _ _ dq_59_15]; exact f15_M_58
  have dq_59_16 : q_47 ≠ q_59 := ne_new (f16_M_58) hq_59
  have f16_M_60 : M_60 (q_47) = some (aI G 64 (fun _ => 0)) := by rw [eM_60, mm_up_n _ _ dq_59_16]; exact f16_M_58
  have dq_59_17 : q_50 ≠ q_59 := ne_new (f17_M_58) hq_59
  have f17_M_60 : M_60 (q_50) = some (aJ G 64 (fun _ => 0)) := by rw [eM_60, mm_up_n _ _ dq_59_17]; exact f17_M_58
  have dq_59_18 : q_53 ≠ q_59 := ne_new (f18_M_58) hq_59
  have f18_M_60 : M_60 (q_53) = some (aI G 64 (fun _ => 0)) := by rw [eM_60, mm_up_n _ _ dq_59_18]; exact f18_M_58
  have dq_59_19 : q_56 ≠ q_59 := ne_new (f19_M_58) hq_59
  have f19_M_60 : M_60 (q_56) = some (aI G 64 (fun _ => 0)) := by rw [eM_60, mm_up_n _ _ dq_59_19]; exact f19_M_58
  have fq_59 : M_60 q_59 = some (aJ G 24 (fun _ => 0)) := by rw [eM_60]; exact mm_up_s _ _ _
  have fr_M_60 : ∀ z, M z ≠ none → z ≠ a → M_60 z = M z := fun z h1 h2 => ((congrFun eM_60 z).trans (mm_up_n _ _ (fun e9 => h1 (by rw [e9]; exact n_q_59)))).trans (fr_M_58 z h1 h2)
  refine W.eq (g2 := F0 m 169 ls [.ref q_59, .ref a]) rfl ?_
  have hnd := nd_new hal hnd hq_59
  have hal := al_new hal eM_60
  refine pf_X7_73 X hin hw (f0_M_60) (Nat.le_of_ble_eq_true rfl) dX7_init_169 (fun H9 locs9 hw => ?_)
  obtain ⟨M_61, eM_61⟩ : ∃ z, z = mm_up M_60 (a) (.inr (7, [.int 1, .ref q_2, .ref q_5, .ref q_8, .ref q_11, .int 0, .ref q_14, .int 0, .ref q_17, .ref q_20, .ref q_23, .ref q_26, .int 0, .ref q_29, .ref q_32, .ref q_35, .ref q_38, .ref q_41, .int 0, .ref q_44, .ref q_47, .ref q_50, .ref q_53, .ref q_56, .int 0, .ref q_59, .null, .null])) := ⟨_, rfl⟩
  have hw : mm_W G.1 vwCl (ct_A M s.heap.size) s.heap M_61 H9 locs9 := by rw [eM_61]; exact hw
  have f0_M_61 : M_61 (a) = some (.inr (7, [.int 1, .ref q_2, .ref q_5, .ref q_8, .ref q_11, .int 0, .ref q_14, .int 0, .ref q_17, .ref q_20, .ref q_23, .ref q_26, .int 0, .ref q_29, .ref q_32, .ref q_35, .ref q_38, .ref q_41, .int 0, .ref q_44, .ref q_47, .ref q_50, .ref q_53, .ref q_56, .int 0, .ref q_59, .null, .null])) := by rw [eM_61]; exact mm_up_s _ _ _
  have f1_M_61 : M_61 (q_2) = some (aI G 90 (fun _ => 0)) := by rw [eM_61, mm_up_n _ _ (Ne.symm (dq_2_0))]; exact f1_M_60
  have f2_M_61 : M_61 (q_5) = some (aI G 80 (fun _ => 0)) := by rw [eM_61, mm_up_n _ _ (Ne.symm (dq_5_0))]; exact f2_M_60
  have f3_M_61 : M_61 (q_8) = some (aI G 10 (fun _ => 0)) := by rw [eM_61, mm_up_n _ _ (Ne.symm (dq_8_0))]; exact f3_M_60
  have f4_M_61 : M_61 (q_11) = some (aI G 10 (fun _ => 0)) := by rw [eM_61, mm_up_n _ _ (Ne.symm (dq_11_0))]; exact f4_M_60
  have f5_M_61 : M_61 (q_14) = some (aI G 1001 (fun _ => 0)) := by rw [eM_61, mm_up_n _ _ (Ne.symm (dq_14_0))]; exact f5_M_60
  have f6_M_61 : M_61 (q_17) = some (aI G 12 (fun _ => 0)) := by rw [eM_61, mm_up_n _ _ (Ne.symm (dq_17_0))]; exact f6_M_60
  have f7_M_61 : M_61 (q_20) = some (aI G 12 (fun _ => 0)) := by rw [eM_61, mm_up_n _ _ (Ne.symm (dq_20_0))]; exact f7_M_60
  have f8_M_61 : M_61 (q_23) = some (aI G 12 (fun _ => 0)) := by rw [eM_61, mm_up_n _ _ (Ne.symm (dq_23_0))]; exact f8_M_60
  have f9_M_61 : M_61 (q_26) = some (aZ G 120 (fun _ => 0)) := by rw [eM_61, mm_up_n _ _ (Ne.symm (dq_26_0))]; exact f9_M_60
  have f10_M_61 : M_61 (q_29) = some (aI G 12 (fun _ => 0)) := by rw [eM_61, mm_up_n _ _ (Ne.symm (dq_29_0))]; exact f10_M_60
  have f11_M_61 : M_61 (q_32) = some (aI G 12 (fun _ => 0)) := by rw [eM_61, mm_up_n _ _ (Ne.symm (dq_32_0))]; exact f11_M_60
  have f12_M_61 : M_61 (q_35) = some (aI G 288 (fun _ => 0)) := by rw [eM_61, mm_up_n _ _ (Ne.symm (dq_35_0))]; exact f12_M_60
  have f13_M_61 : M_61 (q_38) = some (aI G 288 (fun _ => 0)) := by rw [eM_61, mm_up_n _ _ (Ne.symm (dq_38_0))]; exact f13_M_60
  have f14_M_61 : M_61 (q_41) = some (aJ G 48 (fun _ => 0)) := by rw [eM_61, mm_up_n _ _ (Ne.symm (dq_41_0))]; exact f14_M_60
  have f15_M_61 : M_61 (q_44) = some (aI G 64 (fun _ => 0)) := by rw [eM_61, mm_up_n _ _ (Ne.symm (dq_44_0))]; exact f15_M_60
  have f16_M_61 : M_61 (q_47) = some (aI G 64 (fun _ => 0)) := by rw [eM_61, mm_up_n _ _ (Ne.symm (dq_47_0))]; exact f16_M_60
  have f17_M_61 : M_61 (q_50) = some (aJ G 64 (fun _ => 0)) := by rw [eM_61, mm_up_n _ _ (Ne.symm (dq_50_0))]; exact f17_M_60
  have f18_M_61 : M_61 (q_53) = some (aI G 64 (fun _ => 0)) := by rw [eM_61, mm_up_n _ _ (Ne.symm (dq_53_0))]; exact f18_M_60
  have f19_M_61 : M_61 (q_56) = some (aI G 64 (fun _ => 0)) := by rw [eM_61, mm_up_n _ _ (Ne.symm (dq_56_0))]; exact f19_M_60
  have f20_M_61 : M_61 (q_59) = some (aJ G 24 (fun _ => 0)) := by rw [eM_61, mm_up_n _ _ (Ne.symm (dq_59_0))]; exact fq_59
  have fr_M_61 : ∀ z, M z ≠ none → z ≠ a → M_61 z = M z := fun z h1 h2 => ((congrFun eM_61 z).trans (mm_up_n _ _ (h2))).trans (fr_M_60 z h1 h2)
  have hal := al_up hal eM_61
  refine lv_aload_n hx hb dX7_init_172 rfl (lv_at hl 0 rfl) ?_
  refine lv_iconst (v := 4) hx hb dX7_init_173 (by decide) ?_
  refine nw_J X hw 4 rfl (by decide) (Nat.le_of_ble_eq_true rfl) (Nat.le_of_ble_eq_true rfl) dX7_init_174 (fun q_62 H9 hq_62 hw => ?_)
  have n_q_62 : M q_62 = none := Classical.byContradiction (fun h9 => h9 ((fr_M_61 q_62 h9 (Ne.symm (ne_new (f0_M_61) hq_62))).symm.trans hq_62))
  obtain ⟨M_63, eM_63⟩ : ∃ z, z = mm_up M_61 q_62 (aJ G 4 (fun _ => 0)) := ⟨_, rfl⟩
  rw [← eM_63] at hw
  have dq_62_0 : a ≠ q_62 := ne_new (f0_M_61) hq_62
  have f0_M_63 : M_63 (a) = some (.inr (7, [.int 1, .ref q_2, .ref q_5, .ref q_8, .ref q_11, .int 0, .ref q_14, .int 0, .ref q_17, .ref q_20, .ref q_23, .ref q_26, .int 0, .ref q_29, .ref q_32, .ref q_35, .ref q_38, .ref q_41, .int 0, .ref q_44, .ref q_47, .ref q_50, .ref q_53, .ref q_56, .int 0, .ref q_59, .null, .null])) := by rw [eM_63, mm_up_n _ _ dq_62_0]; exact f0_M_61
  have dq_62_1 : q_2 ≠ q_62 := ne_new (f1_M_61) hq_62
  have f1_M_63 : M_63 (q_2) = some (aI G 90 (fun _ => 0)) := by rw [eM_63, mm_up_n _ _ dq_62_1]; exact f1_M_61
  have dq_62_2 : q_5 ≠ q_62 := ne_new (f2_M_61) hq_62
  have f2_M_63 : M_63 (q_5) = some (aI G 80 (fun _ => 0)) := by rw [eM_63, mm_up_n _ _ dq_62_2]; exact f2_M_61
  have dq_62_3 : q_8 ≠ q_62 := ne_new (f3_M_61) hq_62
  have f3_M_63 : M_63 (q_8) = some (aI G 10 (fun _ => 0)) := by rw [eM_63, mm_up_n _ _ dq_62_3]; exact f3_M_61
  have dq_62_4 : q_11 ≠ q_62 := ne_new (f4_M_61) hq_62
  have f4_M_63 : M_63 (q_11) = some (aI G 10 (fun _ => 0)) := by rw [eM_63, mm_up_n _ _ dq_62_4]; exact f4_M_61
  have dq_62_5 : q_14 ≠ q_62 := ne_new (f5_M_61) hq_62
  have f5_M_63 : M_63 (q_14) = some (aI G 1001 (fun _ => 0)) := by rw [eM_63, mm_up_n _ _ dq_62_5]; exact f5_M_61
  have dq_62_6 : q_17 ≠ q_62 := ne_new (f6_M_61) hq_62
  have f6_M_63 : M_63 (q_17) = some (aI G 12 (fun _ => 0)) := by rw [eM_63, mm_up_n _ _ dq_62_6]; exact f6_M_61
  have dq_62_7 : q_20 ≠ q_62 := ne_new (f7_M_61) hq_62
  have f7_M_63 : M_63 (q_20) = some (aI G 12 (fun _ => 0)) := by rw [eM_63, mm_up_n _ _ dq_62_7]; exact f7_M_61
  have dq_62_8 : q_23 ≠ q_62 := ne_new (f8_M_61) hq_62
  have f8_M_63 : M_63 (q_23) = some (aI G 12 (fun _ => 0)) := by rw [eM_63, mm_up_n _ _ dq_62_8]; exact f8_M_61
  have dq_62_9 : q_26 ≠ q_62 := ne_new (f9_M_61) hq_62
  have f9_M_63 : M_63 (q_26) = some (aZ G 120 (fun _ => 0)) := by rw [eM_63, mm_up_n _ _ dq_62_9]; exact f9_M_61
  have dq_62_10 : q_29 ≠ q_62 := ne_new (f10_M_61) hq_62
  have f10_M_63 : M_63 (q_29) = some (aI G 12 (fun _ => 0)) := by rw [eM_63, mm_up_n _ _ dq_62_10]; exact f10_M_61
  have dq_62_11 : q_32 ≠ q_62 := ne_new (f11_M_61) hq_62
  have f11_M_63 : M_63 (q_32) = some (aI G 12 (fun _ => 0)) := by rw [eM_63, mm_up_n _ _ dq_62_11]; exact f11_M_61
  have dq_62_12 : q_35 ≠ q_62 := ne_new (f12_M_61) hq_62
  have f12_M_63 : M_63 (q_35) = some (aI G 288 (fun _ => 0)) := by rw [eM_63, mm_up_n _ _ dq_62_12]; exact f12_M_61
  have dq_62_13 : q_38 ≠ q_62 := ne_new (f13_M_61) hq_62
  have f13_M_63 : M_63 (q_38) = some (aI G 288 (fun _ => 0)) := by rw [eM_63, mm_up_n _ _ dq_62_13]; exact f13_M_61
  have dq_62_14 : q_41 ≠ q_62 := ne_new (f14_M_61) hq_62
  have f14_M_63 : M_63 (q_41) = some (aJ G 48 (fun _ => 0)) := by rw [eM_63, mm_up_n _ _ dq_62_14]; exact f14_M_61
  have dq_62_15 : q_44 ≠ q_62 := ne_new (f15_M_61) hq_62
  have f15_M_63 : M_63 (q_44) = some (aI G 64 (fun _ => 0)) := by rw [eM_63, mm_up_n _ _ dq_62_15]; exact f15_M_61
  have dq_62_16 : q_47 ≠ q_62 := ne_new (f16_M_61) hq_62
  have f16_M_63 : M_63 (q_47) = some (aI G 64 (fun _ => 0)) := by rw [eM_63, mm_up_n _ _ dq_62_16]; exact f16_M_61
  have dq_62_17 : q_50 ≠ q_62 := ne_new (f17_M_61) hq_62
  have f17_M_63 : M_63 (q_50) = some (aJ G 64 (fun _ => 0)) := by rw [eM_63, mm_up_n _ _ dq_62_17]; exact f17_M_61
  have dq_62_18 : q_53 ≠ q_62 := ne_new (f18_M_61) hq_62
  have f18_M_63 : M_63 (q_53) = some (aI G 64 (fun _ => 0)) := by rw [eM_63, mm_up_n _ _ dq_62_18]; exact f18_M_61
  have dq_62_19 : q_56 ≠ q_62 := ne_new (f19_M_61) hq_62
  have f19_M_63 : M_63 (q_56) = some (aI G 64 (fun _ => 0)) := by rw [eM_63, mm_up_n _ _ dq_62_19]; exact f19_M_61
  have dq_62_20 : q_59 ≠ q_62 := ne_new (f20_M_61) hq_62
  have f20_M_63 : M_63 (q_59) = some (aJ G 24 (fun _ => 0)) := by rw [eM_63, mm_up_n _ _ dq_62_20]; exact f20_M_61
  have fq_62 : M_63 q_62 = some (aJ G 4 (fun _ => 0)) := by rw [eM_63]; exact mm_up_s _ _ _
  have fr_M_63 : ∀ z, M z ≠ none → z ≠ a → M_63 z = M z := fun z h1 h2 => ((congrFun eM_63 z).trans (mm_up_n _ _ (fun e9 => h1 (by rw [e9]; exact n_q_62)))).trans (fr_M_61 z h1 h2)
  refine W.eq (g2 := F0 m 176 ls [.ref q_62, .ref a]) rfl ?_
  have hnd := nd_new hal hnd hq_62
  have hal := al_new hal eM_63
  refine pf_X7_76 X hin hw (f0_M_63) (Nat.le_of_ble_eq_true rfl) dX7_init_176 (fun H9 locs9 hw => ?_)
  obtain ⟨M_64, eM_64⟩ : ∃ z, z = mm_up M_63 (a) (.inr (7, [.int 1, .ref q_2, .ref q_5, .ref q_8, .ref q_11, .int 0, .ref q_14, .int 0, .ref q_17, .ref q_20, .ref q_23, .ref q_26, .int 0, .ref q_29, .ref q_32, .ref q_35, .ref q_38, .ref q_41, .int 0, .ref q_44, .ref q_47, .ref q_50, .ref q_53, .ref q_56, .int 0, .ref q_59, .ref q_62, .null])) := ⟨_, rfl⟩
  have hw : mm_W G.1 vwCl (ct_A M s.heap.size) s.heap M_64 H9 locs9 := by rw [eM_64]; exact hw
  have f0_M_64 : M_64 (a) = some (.inr (7, [.int 1, .ref q_2, .ref q_5, .ref q_8, .ref q_11, .int 0, .ref q_14, .int 0, .ref q_17, .ref q_20, .ref q_23, .ref q_26, .int 0, .ref q_29, .ref q_32, .ref q_35, .ref q_38, .ref q_41, .int 0, .ref q_44, .ref q_47, .ref q_50, .ref q_53, .ref q_56, .int 0, .ref q_59, .ref q_62, .null])) := by rw [eM_64]; exact mm_up_s _ _ _
  have f1_M_64 : M_64 (q_2) = some (aI G 90 (fun _ => 0)) := by rw [eM_64, mm_up_n _ _ (Ne.symm (dq_2_0))]; exact f1_M_63
  have f2_M_64 : M_64 (q_5) = some (aI G 80 (fun _ => 0)) := by rw [eM_64, mm_up_n _ _ (Ne.symm (dq_5_0))]; exact f2_M_63
  have f3_M_64 : M_64 (q_8) = some (aI G 10 (fun _ => 0)) := by rw [eM_64, mm_up_n _ _ (Ne.symm (dq_8_0))]; exact f3_M_63
  have f4_M_64 : M_64 (q_11) = some (aI G 10 (fun _ => 0)) := by rw [eM_64, mm_up_n _ _ (Ne.symm (dq_11_0))]; exact f4_M_63
  have f5_M_64 : M_64 (q_14) = some (aI G 1001 (fun _ => 0)) := by rw [eM_64, mm_up_n _ _ (Ne.symm (dq_14_0))]; exact f5_M_63
  have f6_M_64 : M_64 (q_17) = some (aI G 12 (fun _ => 0)) := by rw [eM_64, mm_up_n _ _ (Ne.symm (dq_17_0))]; exact f6_M_63
  have f7_M_64 : M_64 (q_20) = some (aI G 12 (fun _ => 0)) := by rw [eM_64, mm_up_n _ _ (Ne.symm (dq_20_0))]; exact f7_M_63
  have f8_M_64 : M_64 (q_23) = some (aI G 12 (fun _ => 0)) := by rw [eM_64, mm_up_n _ _ (Ne.symm (dq_23_0))]; exact f8_M_63
  have f9_M_64 : M_64 (q_26) = some (aZ G 120 (fun _ => 0)) := by rw [eM_64, mm_up_n _ _ (Ne.symm (dq_26_0))]; exact f9_M_63
  have f10_M_64 : M_64 (q_29) = some (aI G 12 (fun _ => 0)) := by rw [eM_64, mm_up_n _ _ (Ne.symm (dq_29_0))]; exact f10_M_63
  have f11_M_64 : M_64 (q_32) = some (aI G 12 (fun _ => 0)) := by rw [eM_64, mm_up_n _ _ (Ne.symm (dq_32_0))]; exact f11_M_63
  have f12_M_64 : M_64 (q_35) = some (aI G 288 (fun _ => 0)) := by rw [eM_64, mm_up_n _ _ (Ne.symm (dq_35_0))]; exact f12_M_63
  have f13_M_64 : M_64 (q_38) = some (aI G 288 (fun _ => 0)) := by rw [eM_64, mm_up_n _ _ (Ne.symm (dq_38_0))]; exact f13_M_63
  have f14_M_64 : M_64 (q_41) = some (aJ G 48 (fun _ => 0)) := by rw [eM_64, mm_up_n _ _ (Ne.symm (dq_41_0))]; exact f14_M_63
  have f15_M_64 : M_64 (q_44) = some (aI G 64 (fun _ => 0)) := by rw [eM_64, mm_up_n _ _ (Ne.symm (dq_44_0))]; exact f15_M_63
  have f16_M_64 : M_64 (q_47) = some (aI G 64 (fun _ => 0)) := by rw [eM_64, mm_up_n _ _ (Ne.symm (dq_47_0))]; exact f16_M_63
  have f17_M_64 : M_64 (q_50) = some (aJ G 64 (fun _ => 0)) := by rw [eM_64, mm_up_n _ _ (Ne.symm (dq_50_0))]; exact f17_M_63
  have f18_M_64 : M_64 (q_53) = some (aI G 64 (fun _ => 0)) := by rw [eM_64, mm_up_n _ _ (Ne.symm (dq_53_0))]; exact f18_M_63
  have f19_M_64 : M_64 (q_56) = some (aI G 64 (fun _ => 0)) := by rw [eM_64, mm_up_n _ _ (Ne.symm (dq_56_0))]; exact f19_M_63
  have f20_M_64 : M_64 (q_59) = some (aJ G 24 (fun _ => 0)) := by rw [eM_64, mm_up_n _ _ (Ne.symm (dq_59_0))]; exact f20_M_63
  have f21_M_64 : M_64 (q_62) = some (aJ G 4 (fun _ => 0)) := by rw [eM_64, mm_up_n _ _ (Ne.symm (dq_62_0))]; exact fq_62
  have fr_M_64 : ∀ z, M z ≠ none → z ≠ a → M_64 z = M z := fun z h1 h2 => ((congrFun eM_64 z).trans (mm_up_n _ _ (h2))).trans (fr_M_63 z h1 h2)
  have hal := al_up hal eM_64
  refine lv_aload_n hx hb dX7_init_179 rfl (lv_at hl 0 rfl) ?_
  refine lv_bipush (v := 48) hx hb dX7_init_180 (by decide) ?_
  refine nw_J X hw 48 rfl (by decide) (Nat.le_of_ble_eq_true rfl) (Nat.le_of_ble_eq_true rfl) dX7_init_182 (fun q_65 H9 hq_65 hw => ?_)
  have n_q_65 : M q_65 = none := Classical.byContradiction (fun h9 => h9 ((fr_M_64 q_65 h9 (Ne.symm (ne_new (f0_M_64) hq_65))).symm.trans hq_65))
  obtain ⟨M_66, eM_66⟩ : ∃ z, z = mm_up M_64 q_65 (aJ G 48 (fun _ => 0)) := ⟨_, rfl⟩
  rw [← eM_66] at hw
  have dq_65_0 : a ≠ q_65 := ne_new (f0_M_64) hq_65
  have f0_M_66 : M_66 (a) = some (.inr (7, [.int 1, .ref q_2, .ref q_5, .ref q_8, .ref q_11, .int 0, .ref q_14, .int 0, .ref q_17, .ref q_20, .ref q_23, .ref q_26, .int 0, .ref q_29, .ref q_32, .ref q_35, .ref q_38, .ref q_41, .int 0, .ref q_44, .ref q_47, .ref q_50, .ref q_53, .ref q_56, .int 0, .ref q_59, .ref q_62, .null])) := by rw [eM_66, mm_up_n _ _ dq_65_0]; exact f0_M_64
  have dq_65_1 : q_2 ≠ q_65 := ne_new (f1_M_64) hq_65
  have f1_M_66 : M_66 (q_2) = some (aI G 90 (fun _ => 0)) := by rw [eM_66, mm_up_n _ _ dq_65_1]; exact f1_M_64
  have dq_65_2 : q_5 ≠ q_65 := ne_new (f2_M_64) hq_65
  have f2_M_66 : M_66 (q_5) = some (aI G 80 (fun _ => 0)) := by rw [eM_66, mm_up_n _ _ dq_65_2]; exact f2_M_64
  have dq_65_3 : q_8 ≠ q_65 := ne_new (f3_M_64) hq_65
  have f3_M_66 : M_66 (q_8) = some (aI G 10 (fun _ => 0)) := by rw [eM_66, mm_up_n _ _ dq_65_3]; exact f3_M_64
  have dq_65_4 : q_11 ≠ q_65 := ne_new (f4_M_64) hq_65
  have f4_M_66 : M_66 (q_11) = some (aI G 10 (fun _ => 0)) := by rw [eM_66, mm_up_n _ _ dq_65_4]; exact f4_M_64
  have dq_65_5 : q_14 ≠ q_65 := ne_new (f5_M_64) hq_65
  have f5_M_66 : M_66 (q_14) = some (aI G 1001 (fun _ => 0)) := by rw [eM_66, mm_up_n _ _ dq_65_5]; exact f5_M_64
  have dq_65_6 : q_17 ≠ q_65 := ne_new (f6_M_64) hq_65
  have f6_M_66 : M_66 (q_17) = some (aI G 12 (fun _ => 0)) := by rw [eM_66, mm_up_n _ _ dq_65_6]; exact f6_M_64
  have dq_65_7 : q_20 ≠ q_65 := ne_new (f7_M_64) hq_65
  have f7_M_66 : M_66 (q_20) = some (aI G 12 (fun _ => 0)) := by rw [eM_66, mm_up_n _ _ dq_65_7]; exact f7_M_64
  have dq_65_8 : q_23 ≠ q_65 := ne_new (f8_M_64) hq_65
  have f8_M_66 : M_66 (q_23) = some (aI G 12 (fun _ => 0)) := by rw [eM_66, mm_up_n _ _ dq_65_8]; exact f8_M_64
  have dq_65_9 : q_26 ≠ q_65 := ne_new (f9_M_64) hq_65
  have f9_M_66 : M_66 (q_26) = some (aZ G 120 (fun _ => 0)) := by rw [eM_66, mm_up_n _ _ dq_65_9]; exact f9_M_64
  have dq_65_10 : q_29 ≠ q_65 := ne_new (f10_M_64) hq_65
  have f10_M_66 : M_66 (q_29) = some (aI G 12 (fun _ => 0)) := by rw [eM_66, mm_up_n _ _ dq_65_10]; exact f10_M_64
  have dq_65_11 : q_32 ≠ q_65 := ne_new (f11_M_64) hq_65
  have f11_M_66 : M_66 (q_32) = some (aI G 12 (fun _ => 0)) := by rw [eM_66, mm_up_n _ _ dq_65_11]; exact f11_M_64
  have dq_65_12 : q_35 ≠ q_65 := ne_new (f12_M_64) hq_65
  have f12_M_66 : M_66 (q_35) = some (aI G 288 (fun _ => 0)) := by rw [eM_66, mm_up_n _ _ dq_65_12]; exact f12_M_64
  have dq_65_13 : q_38 ≠ q_65 := ne_new (f13_M_64) hq_65
  have f13_M_66 : M_66 (q_38) = some (aI G 288 (fun _ => 0)) := by rw [eM_66, mm_up_n _ _ dq_65_13]; exact f13_M_64
  have dq_65_14 : q_41 ≠ q_65 := ne_new (f14_M_64) hq_65
  have f14_M_66 : M_66 (q_41) = some (aJ G 48 (fun _ => 0)) := by rw [eM_66, mm_up_n _ _ dq_65_14]; exact f14_M_64
  have dq_65_15 : q_44 ≠ q_65 := ne_new (f15_M_64) hq_65
  have f15_M_66 : M_66 (q_44) = some (aI G 64 (fun _ => 0)) := by rw [eM_66, mm_up_n _ _ dq_65_15]; exact f15_M_64
  have dq_65_16 : q_47 ≠ q_65 := ne_new (f16_M_64) hq_65
  have f16_M_66 : M_66 (q_47) = some (aI G 64 (fun _ => 0)) := by rw [eM_66, mm_up_n _ _ dq_65_16]; exact f16_M_64
  have dq_65_17 : q_50 ≠ q_65 := ne_new (f17_M_64) hq_65
  have f17_M_66 : M_66 (q_50) = some (aJ G 64 (fun _ => 0)) := by rw [eM_66, mm_up_n _ _ dq_65_17]; exact f17_M_64
  have dq_65_18 : q_53 ≠ q_65 := ne_new (f18_M_64) hq_65
  have f18_M_66 : M_66 (q_53) = some (aI G 64 (fun _ => 0)) := by rw [eM_66, mm_up_n _ _ dq_65_18]; exact f18_M_64
  have dq_65_19 : q_56 ≠ q_65 := ne_new (f19_M_64) hq_65
  have f19_M_66 : M_66 (q_56) = some (aI G 64 (fun _ => 0)) := by rw [eM_66, mm_up_n _ _ dq_65_19]; exact f19_M_64
  have dq_65_20 : q_59 ≠ q_65 := ne_new (f20_M_64) hq_65
  have f20_M_66 : M_66 (q_59) = some (aJ G 24 (fun _ => 0)) := by rw [eM_66, mm_up_n _ _ dq_65_20]; exact f20_M_64
  have dq_65_21 : q_62 ≠ q_65 := ne_new (f21_M_64) hq_65
  have f21_M_66 : M_66 (q_62) = some (aJ G 4 (fun _ => 0)) := by rw [eM_66, mm_up_n _ _ dq_65_21]; exact f21_M_64
  have fq_65 : M_66 q_65 = some (aJ G 48 (fun _ => 0)) := by rw [eM_66]; exact mm_up_s _ _ _
  have fr_M_66 : ∀ z, M z ≠ none → z ≠ a → M_66 z = M z := fun z h1 h2 => ((congrFun eM_66 z).trans (mm_up_n _ _ (fun e9 => h1 (by rw [e9]; exact n_q_65)))).trans (fr_M_64 z h1 h2)
  refine W.eq (g2 := F0 m 184 ls [.ref q_65, .ref a]) rfl ?_
  have hnd := nd_new hal hnd hq_65
  have hal := al_new hal eM_66
  refine pf_X7_79 X hin hw (f0_M_66) (Nat.le_of_ble_eq_true rfl) dX7_init_184 (fun H9 locs9 hw => ?_)
  obtain ⟨M_67, eM_67⟩ : ∃ z, z = mm_up M_66 (a) (.inr (7, [.int 1, .ref q_2, .ref q_5, .ref q_8, .ref q_11, .int 0, .ref q_14, .int 0, .ref q_17, .ref q_20, .ref q_23, .ref q_26, .int 0, .ref q_29, .ref q_32, .ref q_35, .ref q_38, .ref q_41, .int 0, .ref q_44, .ref q_47, .ref q_50, .ref q_53, .ref q_56, .int 0, .ref q_59, .ref q_62, .ref q_65])) := ⟨_, rfl⟩
  have hw : mm_W G.1 vwCl (ct_A M s.heap.size) s.heap M_67 H9 locs9 := by rw [eM_67]; exact hw
  have f0_M_67 : M_67 (a) = some (.inr (7, [.int 1, .ref q_2, .ref q_5, .ref q_8, .ref q_11, .int 0, .ref q_14, .int 0, .ref q_17, .ref q_20, .ref q_23, .ref q_26, .int 0, .ref q_29, .ref q_32, .ref q_35, .ref q_38, .ref q_41, .int 0, .ref q_44, .ref q_47, .ref q_50, .ref q_53, .ref q_56, .int 0, .ref q_59, .ref q_62, .ref q_65])) := by rw [eM_67]; exact mm_up_s _ _ _
  have f1_M_67 : M_67 (q_2) = some (aI G 90 (fun _ => 0)) := by rw [eM_67, mm_up_n _ _ (Ne.symm (dq_2_0))]; exact f1_M_66
  have f2_M_67 : M_67 (q_5) = some (aI G 80 (fun _ => 0)) := by rw [eM_67, mm_up_n _ _ (Ne.symm (dq_5_0))]; exact f2_M_66
  have f3_M_67 : M_67 (q_8) = some (aI G 10 (fun _ => 0)) := by rw [eM_67, mm_up_n _ _ (Ne.symm (dq_8_0))]; exact f3_M_66
  have f4_M_67 : M_67 (q_11) = some (aI G 10 (fun _ => 0)) := by rw [eM_67, mm_up_n _ _ (Ne.symm (dq_11_0))]; exact f4_M_66
  have f5_M_67 : M_67 (q_14) = some (aI G 1001 (fun _ => 0)) := by rw [eM_67, mm_up_n _ _ (Ne.symm (dq_14_0))]; exact f5_M_66
  have f6_M_67 : M_67 (q_17) = some (aI G 12 (fun _ => 0)) := by rw [eM_67, mm_up_n _ _ (Ne.symm (dq_17_0))]; exact f6_M_66
  have f7_M_67 : M_67 (q_20) = some (aI G 12 (fun _ => 0)) := by rw [eM_67, mm_up_n _ _ (Ne.symm (dq_20_0))]; exact f7_M_66
  have f8_M_67 : M_67 (q_23) = some (aI G 12 (fun _ => 0)) := by rw [eM_67, mm_up_n _ _ (Ne.symm (dq_23_0))]; exact f8_M_66
  have f9_M_67 : M_67 (q_26) = some (aZ G 120 (fun _ => 0)) := by rw [eM_67, mm_up_n _ _ (Ne.symm (dq_26_0))]; exact f9_M_66
  have f10_M_67 : M_67 (q_29) = some (aI G 12 (fun _ => 0)) := by rw [eM_67, mm_up_n _ _ (Ne.symm (dq_29_0))]; exact f10_M_66
  have f11_M_67 : M_67 (q_32) = some (aI G 12 (fun _ => 0)) := by rw [eM_67, mm_up_n _ _ (Ne.symm (dq_32_0))]; exact f11_M_66
  have f12_M_67 : M_67 (q_35) = some (aI G 288 (fun _ => 0)) := by rw [eM_67, mm_up_n _ _ (Ne.symm (dq_35_0))]; exact f12_M_66
  have f13_M_67 : M_67 (q_38) = some (aI G 288 (fun _ => 0)) := by rw [eM_67, mm_up_n _ _ (Ne.symm (dq_38_0))]; exact f13_M_66
  have f14_M_67 : M_67 (q_41) = some (aJ G 48 (fun _ => 0)) := by rw [eM_67, mm_up_n _ _ (Ne.symm (dq_41_0))]; exact f14_M_66
  have f15_M_67 : M_67 (q_44) = some (aI G 64 (fun _ => 0)) := by rw [eM_67, mm_up_n _ _ (Ne.symm (dq_44_0))]; exact f15_M_66
  have f16_M_67 : M_67 (q_47) = some (aI G 64 (fun _ => 0)) := by rw [eM_67, mm_up_n _ _ (Ne.symm (dq_47_0))]; exact f16_M_66
  have f17_M_67 : M_67 (q_50) = some (aJ G 64 (fun _ => 0)) := by rw [eM_67, mm_up_n _ _ (Ne.symm (dq_50_0))]; exact f17_M_66
  have f18_M_67 : M_67 (q_53) = some (aI G 64 (fun _ => 0)) := by rw [eM_67, mm_up_n _ _ (Ne.symm (dq_53_0))]; exact f18_M_66
  have f19_M_67 : M_67 (q_56) = some (aI G 64 (fun _ => 0)) := by rw [eM_67, mm_up_n _ _ (Ne.symm (dq_56_0))]; exact f19_M_66
  have f20_M_67 : M_67 (q_59) = some (aJ G 24 (fun _ => 0)) := by rw [eM_67, mm_up_n _ _ (Ne.symm (dq_59_0))]; exact f20_M_66
  have f21_M_67 : M_67 (q_62) = some (aJ G 4 (fun _ => 0)) := by rw [eM_67, mm_up_n _ _ (Ne.symm (dq_62_0))]; exact f21_M_66
  have f22_M_67 : M_67 (q_65) = some (aJ G 48 (fun _ => 0)) := by rw [eM_67, mm_up_n _ _ (Ne.symm (dq_65_0))]; exact fq_65
  have fr_M_67 : ∀ z, M z ≠ none → z ≠ a → M_67 z = M z := fun z h1 h2 => ((congrFun eM_67 z).trans (mm_up_n _ _ (h2))).trans (fr_M_66 z h1 h2)
  have hal := al_up hal eM_67
  refine lv_iconst (v := 0) hx hb dX7_init_187 (by decide) ?_
  refine lv_istore_n (lv' := [(1, .int 0), (0, .ref a)]) hx hb dX7_init_188 rfl hl (by decide) rfl (fun ls hl => ?_)
  have loop1 : ∀ (n k : Nat) (M1 : mM) (H1 : Heap) (locs1 : List Loc) (ls1 : Array Slot), k ≤ 9 → 10 ≤ k + n → (i0_loop1 : M1 (a) = some (.inr (7, [.int 1, .ref q_2, .ref q_5, .ref q_8, .ref q_11, .int 0, .ref q_14, .int 0, .ref q_17, .ref q_20, .ref q_23, .ref q_26, .int 0, .ref q_29, .ref q_32, .ref q_35, .ref q_38, .ref q_41, .int 0, .ref q_44, .ref q_47, .ref q_50, .ref q_53, .ref q_56, .int 0, .ref q_59, .ref q_62, .ref q_65]))) → (i1_loop1 : M1 (q_2) = some (aI G 90 (rj (fun _ => 1) (fun _ => 0) k))) → (i2_loop1 : M1 (q_5) = some (aI G 80 (fun _ => 0))) → (i3_loop1 : M1 (q_8) = some (aI G 10 (fun _ => 0))) → (i4_loop1 : M1 (q_11) = some (aI G 10 (fun _ => 0))) → (i5_loop1 : M1 (q_14) = some (aI G 1001 (fun _ => 0))) → (i6_loop1 : M1 (q_17) = some (aI G 12 (fun _ => 0))) → (i7_loop1 : M1 (q_20) = some (aI G 12 (fun _ => 0))) → (i8_loop1 : M1 (q_23) = some (aI G 12 (fun _ => 0))) → (i9_loop1 : M1 (q_26) = some (aZ G 120 (fun _ => 0))) → (i10_loop1 : M1 (q_29) = some (aI G 12 (fun _ => 0))) → (i11_loop1 : M1 (q_32) = some (aI G 12 (fun _ => 0))) → (i12_loop1 : M1 (q_35) = some (aI G 288 (fun _ => 0))) → (i13_loop1 : M1 (q_38) = some (aI G 288 (fun _ => 0))) → (i14_loop1 : M1 (q_41) = some (aJ G 48 (fun _ => 0))) → (i15_loop1 : M1 (q_44) = some (aI G 64 (fun _ => 0))) → (i16_loop1 : M1 (q_47) = some (aI G 64 (fun _ => 0))) → (i17_loop1 : M1 (q_50) = some (aJ G 64 (fun _ => 0))) → (i18_loop1 : M1 (q_53) = some (aI G 64 (fun _ => 0))) → (i19_loop1 : M1 (q_56) = some (aI G 64 (fun _ => 0))) → (i20_loop1 : M1 (q_59) = some (aJ G 24 (fun _ => 0))) → (i21_loop1 : M1 (q_62) = some (aJ G 4 (fun _ => 0))) → (i22_loop1 : M1 (q_65) = some (aJ G 48 (fun _ => 0))) → (∀ z, M z ≠ none → z ≠ a → M1 z = M z) → mm_W G.1 vwCl (ct_A M s.heap.size) s.heap M1 H1 locs1 → lv_has ls1 2 [(0, .ref a), (1, .int (nI k))] → W p l e (mm_r 1 22 2420) s m args below meth c H1 locs1 (0 + 1 + 1 + 1 + 1 + 1 + 1 + 1 + 1 + 1 + 1 + 1 + 1 + 1 + 1 + 1 + 1 + 1 + 1 + 1 + 1 + 1 + 1) (0 + 90 + 80 + 10 + 10 + 1001 + 12 + 12 + 12 + 120 + 12 + 12 + 288 + 288 + 48 + 64 + 64 + 64 + 64 + 64 + 24 + 4 + 48) Q (F0 m 189 ls1 []) := by
    intro n
    induction n with
    | zero => intro k M1 H1 locs1 ls hk hn; exact absurd hn (by omega)
    | succ n ih =>
      intro k M1 H1 locs1 ls hk hn i0_loop1 i1_loop1 i2_loop1 i3_loop1 i4_loop1 i5_loop1 i6_loop1 i7_loop1 i8_loop1 i9_loop1 i10_loop1 i11_loop1 i12_loop1 i13_loop1 i14_loop1 i15_loop1 i16_loop1 i17_loop1 i18_loop1 i19_loop1 i20_loop1 i21_loop1 i22_loop1 fr_loop1 hw hl
      refine lv_iload_n hx hb dX7_init_189 rfl (lv_at hl 1 rfl) ?_
      refine lv_bipush (v := 9) hx hb dX7_init_190 (by decide) ?_
      refine lv_icmp_ge (tgt := 208) hx hb dX7_init_192 (by decide) (fun c192 => ?_) (fun c192 => ?_)
      · have hk9 : k = 9 := by have := nle (a := 9) (by decide) (by omega) c192; omega
        refine lv_iconst (v := 0) hx hb dX7_init_208 (by decide) ?_
        refine lv_istore_n (lv' := [(1, .int 0), (0, .ref a)]) hx hb dX7_init_209 rfl hl (by decide) rfl (fun ls hl => ?_)
        rw [hk9] at i1_loop1
        have loop2 : ∀ (n k : Nat) (M1 : mM) (H1 : Heap) (locs1 : List Loc) (ls1 : Array Slot), k ≤ 8 → 9 ≤ k + n → (i0_loop2 : M1 (a) = some (.inr (7, [.int 1, .ref q_2, .ref q_5, .ref q_8, .ref q_11, .int 0, .ref q_14, .int 0, .ref q_17, .ref q_20, .ref q_23, .ref q_26, .int 0, .ref q_29, .ref q_32, .ref q_35, .ref q_38, .ref q_41, .int 0, .ref q_44, .ref q_47, .ref q_50, .ref q_53, .ref q_56, .int 0, .ref q_59, .ref q_62, .ref q_65]))) → (i1_loop2 : M1 (q_2) = some (aI G 90 (rj (fun _ => 1) (fun _ => 0) 9))) → (i2_loop2 : M1 (q_5) = some (aI G 80 (rj (fun _ => -1) (fun _ => 0) k))) → (i3_loop2 : M1 (q_8) = some (aI G 10 (fun _ => 0))) → (i4_loop2 : M1 (q_11) = some (aI G 10 (fun _ => 0))) → (i5_loop2 : M1 (q_14) = some (aI G 1001 (fun _ => 0))) → (i6_loop2 : M1 (q_17) = some (aI G 12 (fun _ => 0))) → (i7_loop2 : M1 (q_20) = some (aI G 12 (fun _ => 0))) → (i8_loop2 : M1 (q_23) = some (aI G 12 (fun _ => 0))) → (i9_loop2 : M1 (q_26) = some (aZ G 120 (fun _ => 0))) → (i10_loop2 : M1 (q_29) = some (aI G 12 (fun _ => 0))) → (i11_loop2 : M1 (q_32) = some (aI G 12 (fun _ => 0))) → (i12_loop2 : M1 (q_35) = some (aI G 288 (fun _ => 0))) → (i13_loop2 : M1 (q_38) = some (aI G 288 (fun _ => 0))) → (i14_loop2 : M1 (q_41) = some (aJ G 48 (fun _ => 0))) → (i15_loop2 : M1 (q_44) = some (aI G 64 (fun _ => 0))) → (i16_loop2 : M1 (q_47) = some (aI G 64 (fun _ => 0))) → (i17_loop2 : M1 (q_50) = some (aJ G 64 (fun _ => 0))) → (i18_loop2 : M1 (q_53) = some (aI G 64 (fun _ => 0))) → (i19_loop2 : M1 (q_56) = some (aI G 64 (fun _ => 0))) → (i20_loop2 : M1 (q_59) = some (aJ G 24 (fun _ => 0))) → (i21_loop2 : M1 (q_62) = some (aJ G 4 (fun _ => 0))) → (i22_loop2 : M1 (q_65) = some (aJ G 48 (fun _ => 0))) → (∀ z, M z ≠ none → z ≠ a → M1 z = M z) → mm_W G.1 vwCl (ct_A M s.heap.size) s.heap M1 H1 locs1 → lv_has ls1 2 [(0, .ref a), (1, .int (nI k))] → W p l e (mm_r 1 22 2420) s m args below meth c H1 locs1 (0 + 1 + 1 + 1 + 1 + 1 + 1 + 1 + 1 + 1 + 1 + 1 + 1 + 1 + 1 + 1 + 1 + 1 + 1 + 1 + 1 + 1 + 1) (0 + 90 + 80 + 10 + 10 + 1001 + 12 + 12 + 12 + 120 + 12 + 12 + 288 + 288 + 48 + 64 + 64 + 64 + 64 + 64 + 24 + 4 + 48) Q (F0 m 210 ls1 []) := by
          intro n
          induction n with
          | zero => intro k M1 H1 locs1 ls hk hn; exact absurd hn (by omega)
          | succ n ih =>
            intro k M1 H1 locs1 ls hk hn i0_loop2 i1_loop2 i2_loop2 i3_loop2 i4_loop2 i5_loop2 i6_loop2 i7_loop2 i8_loop2 i9_loop2 i10_loop2 i11_loop2 i12_loop2 i13_loop2 i14_loop2 i15_loop2 i16_loop2 i17_loop2 i18_loop2 i19_loop2 i20_loop2 i21_loop2 i22_loop2 fr_loop2 hw hl
            refine lv_iload_n hx hb dX7_init_210 rfl (lv_at hl 1 rfl) ?_
            refine lv_bipush (v := 8) hx hb dX7_init_211 (by decide) ?_
            refine lv_icmp_ge (tgt := 229) hx hb dX7_init_213 (by decide) (fun c213 => ?_) (fun c213 => ?_)
            · have hk9 : k = 8 := by have := nle (a := 8) (by decide) (by omega) c213; omega
              rw [hk9] at i2_loop2
              refine lv_aload_n hx hb dX7_init_229 rfl (lv_at hl 0 rfl) ?_
              refine gf_X7_23 X hw (i0_loop2) rfl dX7_init_230 ?_
              refine lv_iconst (v := 0) hx hb dX7_init_233 (by decide) ?_
              refine lv_iconst (v := 2) hx hb dX7_init_234 (by decide) ?_
              refine mi_iast X hw (i4_loop2) (0) (rfl) (by decide) (by decide) dX7_init_235 (fun H9 locs9 hw => ?_)
              obtain ⟨M_68, eM_68⟩ : ∃ z, z = mm_up M1 (q_11) (aI G 10 (upd (fun _ => 0) (0) (2))) := ⟨_, rfl⟩
              have hw : mm_W G.1 vwCl (ct_A M s.heap.size) s.heap M_68 H9 locs9 := by rw [eM_68]; exact hw
              have f0_M_68 : M_68 (a) = some (.inr (7, [.int 1, .ref q_2, .ref q_5, .ref q_8, .ref q_11, .int 0, .ref q_14, .int 0, .ref q_17, .ref q_20, .ref q_23, .ref q_26, .int 0, .ref q_29, .ref q_32, .ref q_35, .ref q_38, .ref q_41, .int 0, .ref q_44, .ref q_47, .ref q_50, .ref q_53, .ref q_56, .int 0, .ref q_59, .ref q_62, .ref q_65])) := by rw [eM_68, mm_up_n _ _ (dq_11_0)]; exact i0_loop2
              have f1_M_68 : M_68 (q_2) = some (aI G 90 (rj (fun _ => 1) (fun _ => 0) 9)) := by rw [eM_68, mm_up_n _ _ (dq_11_1)]; exact i1_loop2
              have f2_M_68 : M_68 (q_5) = some (aI G 80 (rj (fun _ => -1) (fun _ => 0) 8)) := by rw [eM_68, mm_up_n _ _ (dq_11_2)]; exact i2_loop2
              have f3_M_68 : M_68 (q_8) = some (aI G 10 (fun _ => 0)) := by rw [eM_68, mm_up_n _ _ (dq_11_3)]; exact i3_loop2
              have f4_M_68 : M_68 (q_11) = some (aI G 10 (upd (fun _ => 0) (0) (2))) := by rw [eM_68]; exact mm_up_s _ _ _
              have f5_M_68 : M_68 (q_14) = some (aI G 1001 (fun _ => 0)) := by rw [eM_68, mm_up_n _ _ (Ne.symm (dq_14_4))]; exact i5_loop2
              have f6_M_68 : M_68 (q_17) = some (aI G 12 (fun _ => 0)) := by rw [eM_68, mm_up_n _ _ (Ne.symm (dq_17_4))]; exact i6_loop2
              have f7_M_68 : M_68 (q_20) = some (aI G 12 (fun _ => 0)) := by rw [eM_68, mm_up_n _ _ (Ne.symm (dq_20_4))]; exact i7_loop2
              have f8_M_68 : M_68 (q_23) = some (aI G 12 (fun _ => 0)) := by rw [eM_68, mm_up_n _ _ (Ne.symm (dq_23_4))]; exact i8_loop2
              have f9_M_68 : M_68 (q_26) = some (aZ G 120 (fun _ => 0)) := by rw [eM_68, mm_up_n _ _ (Ne.symm (dq_26_4))]; exact i9_loop2
              have f10_M_68 : M_68 (q_29) = some (aI G 12 (fun _ => 0)) := by rw [eM_68, mm_up_n _ _ (Ne.symm (dq_29_4))]; exact i10_loop2
              have f11_M_68 : M_68 (q_32) = some (aI G 12 (fun _ => 0)) := by rw [eM_68, mm_up_n _ _ (Ne.symm (dq_32_4))]; exact i11_loop2
              have f12_M_68 : M_68 (q_35) = some (aI G 288 (fun _ => 0)) := by rw [eM_68, mm_up_n _ _ (Ne.symm (dq_35_4))]; exact i12_loop2
              have f13_M_68 : M_68 (q_38) = some (aI G 288 (fun _ => 0)) := by rw [eM_68, mm_up_n _ _ (Ne.symm (dq_38_4))]; exact i13_loop2
              have f14_M_68 : M_68 (q_41) = some (aJ G 48 (fun _ => 0)) := by rw [eM_68, mm_up_n _ _ (Ne.symm (dq_41_4))]; exact i14_loop2
              have f15_M_68 : M_68 (q_44) = some (aI G 64 (fun _ => 0)) := by rw [eM_68, mm_up_n _ _ (Ne.symm (dq_44_4))]; exact i15_loop2
              have f16_M_68 : M_68 (q_47) = some (aI G 64 (fun _ => 0)) := by rw [eM_68, mm_up_n _ _ (Ne.symm (dq_47_4))]; exact i16_loop2
              have f17_M_68 : M_68 (q_50) = some (aJ G 64 (fun _ => 0)) := by rw [eM_68, mm_up_n _ _ (Ne.symm (dq_50_4))]; exact i17_loop2
              have f18_M_68 : M_68 (q_53) = some (aI G 64 (fun _ => 0)) := by rw [eM_68, mm_up_n _ _ (Ne.symm (dq_53_4))]; exact i18_loop2
              have f19_M_68 : M_68 (q_56) = some (aI G 64 (fun _ => 0)) := by rw [eM_68, mm_up_n _ _ (Ne.symm (dq_56_4))]; exact i19_loop2
              have f20_M_68 : M_68 (q_59) = some (aJ G 24 (fun _ => 0)) := by rw [eM_68, mm_up_n _ _ (Ne.symm (dq_59_4))]; exact i20_loop2
              have f21_M_68 : M_68 (q_62) = some (aJ G 4 (fun _ => 0)) := by rw [eM_68, mm_up_n _ _ (Ne.symm (dq_62_4))]; exact i21_loop2
              have f22_M_68 : M_68 (q_65) = some (aJ G 48 (fun _ => 0)) := by rw [eM_68, mm_up_n _ _ (Ne.symm (dq_65_4))]; exact i22_loop2
              have fr_M_68 : ∀ z, M z ≠ none → z ≠ a → M_68 z = M z := fun z h1 h2 => ((congrFun eM_68 z).trans (mm_up_n _ _ (fun e9 => h1 (by rw [e9]; exact n_q_11)))).trans (fr_loop2 z h1 h2)
              exact mm_vret hQ X hw (⟨rfl, fun k => [q_65, q_62, q_59, q_56, q_53, q_50, q_47, q_44, q_41, q_38, q_35, q_32, q_29, q_26, q_23, q_20, q_17, q_14, q_11, q_8, q_5, q_2, a].getD (ps k) 0, fun _ _ => 0, RV.start hnd f0_M_68 f1_M_68 f2_M_68 f3_M_68 f4_M_68 f5_M_68 f6_M_68 f7_M_68 f8_M_68 f9_M_68 f10_M_68 f11_M_68 f12_M_68 f13_M_68 f14_M_68 f15_M_68 f16_M_68 f17_M_68 f18_M_68 f19_M_68 f20_M_68 f21_M_68 f22_M_68⟩) (Nat.le_of_ble_eq_true rfl) (Nat.le_of_ble_eq_true rfl) dX7_init_236
            · have hk9 : k < 8 := nnle (a := 8) (by decide) (by omega) c213
              refine lv_aload_n hx hb dX7_init_216 rfl (lv_at hl 0 rfl) ?_
              refine gf_X7_17 X hw (i0_loop2) rfl dX7_init_217 ?_
              refine lv_iload_n hx hb dX7_init_220 rfl (lv_at hl 1 rfl) ?_
              refine lv_iconst (v := (-1)) hx hb dX7_init_221 (by decide) ?_
              refine mi_iast X hw (i2_loop2) (k) (rfl) (by omega) (by decide) dX7_init_222 (fun H9 locs9 hw => ?_)
              obtain ⟨M_69, eM_69⟩ : ∃ z, z = mm_up M1 (q_5) (aI G 80 (upd (rj (fun _ => -1) (fun _ => 0) k) (k) ((-1)))) := ⟨_, rfl⟩
              have hw : mm_W G.1 vwCl (ct_A M s.heap.size) s.heap M_69 H9 locs9 := by rw [eM_69]; exact hw
              have f0_M_69 : M_69 (a) = some (.inr (7, [.int 1, .ref q_2, .ref q_5, .ref q_8, .ref q_11, .int 0, .ref q_14, .int 0, .ref q_17, .ref q_20, .ref q_23, .ref q_26, .int 0, .ref q_29, .ref q_32, .ref q_35, .ref q_38, .ref q_41, .int 0, .ref q_44, .ref q_47, .ref q_50, .ref q_53, .ref q_56, .int 0, .ref q_59, .ref q_62, .ref q_65])) := by rw [eM_69, mm_up_n _ _ (dq_5_0)]; exact i0_loop2
              have f1_M_69 : M_69 (q_2) = some (aI G 90 (rj (fun _ => 1) (fun _ => 0) 9)) := by rw [eM_69, mm_up_n _ _ (dq_5_1)]; exact i1_loop2
              have f2_M_69 : M_69 (q_5) = some (aI G 80 (upd (rj (fun _ => -1) (fun _ => 0) k) (k) ((-1)))) := by rw [eM_69]; exact mm_up_s _ _ _
              have f3_M_69 : M_69 (q_8) = some (aI G 10 (fun _ => 0)) := by rw [eM_69, mm_up_n _ _ (Ne.symm (dq_8_2))]; exact i3_loop2
              have f4_M_69 : M_69 (q_11) = some (aI G 10 (fun _ => 0)) := by rw [eM_69, mm_up_n _ _ (Ne.symm (dq_11_2))]; exact i4_loop2
              have f5_M_69 : M_69 (q_14) = some (aI G 1001 (fun _ => 0)) := by rw [eM_69, mm_up_n _ _ (Ne.symm (dq_14_2))]; exact i5_loop2
              have f6_M_69 : M_69 (q_17) = some (aI G 12 (fun _ => 0)) := by rw [eM_69, mm_up_n _ _ (Ne.symm (dq_17_2))]; exact i6_loop2
              have f7_M_69 : M_69 (q_20) = some (aI G 12 (fun _ => 0)) := by rw [eM_69, mm_up_n _ _ (Ne.symm (dq_20_2))]; exact i7_loop2
              have f8_M_69 : M_69 (q_23) = some (aI G 12 (fun _ => 0)) := by rw [eM_69, mm_up_n _ _ (Ne.symm (dq_23_2))]; exact i8_loop2
              have f9_M_69 : M_69 (q_26) = some (aZ G 120 (fun _ => 0)) := by rw [eM_69, mm_up_n _ _ (Ne.symm (dq_26_2))]; exact i9_loop2
              have f10_M_69 : M_69 (q_29) = some (aI G 12 (fun _ => 0)) := by rw [eM_69, mm_up_n _ _ (Ne.symm (dq_29_2))]; exact i10_loop2
              have f11_M_69 : M_69 (q_32) = some (aI G 12 (fun _ => 0)) := by rw [eM_69, mm_up_n _ _ (Ne.symm (dq_32_2))]; exact i11_loop2
              have f12_M_69 : M_69 (q_35) = some (aI G 288 (fun _ => 0)) := by rw [eM_69, mm_up_n _ _ (Ne.symm (dq_35_2))]; exact i12_loop2
              have f13_M_69 : M_69 (q_38) = some (aI G 288 (fun _ => 0)) := by rw [eM_69, mm_up_n _ _ (Ne.symm (dq_38_2))]; exact i13_loop2
              have f14_M_69 : M_69 (q_41) = some (aJ G 48 (fun _ => 0)) := by rw [eM_69, mm_up_n _ _ (Ne.symm (dq_41_2))]; exact i14_loop2
              have f15_M_69 : M_69 (q_44) = some (aI G 64 (fun _ => 0)) := by rw [eM_69, mm_up_n _ _ (Ne.symm (dq_44_2))]; exact i15_loop2
              have f16_M_69 : M_69 (q_47) = some (aI G 64 (fun _ => 0)) := by rw [eM_69, mm_up_n _ _ (Ne.symm (dq_47_2))]; exact i16_loop2
              have f17_M_69 : M_69 (q_50) = some (aJ G 64 (fun _ => 0)) := by rw [eM_69, mm_up_n _ _ (Ne.symm (dq_50_2))]; exact i17_loop2
              have f18_M_69 : M_69 (q_53) = some (aI G 64 (fun _ => 0)) := by rw [eM_69, mm_up_n _ _ (Ne.symm (dq_53_2))]; exact i18_loop2
              have f19_M_69 : M_69 (q_56) = some (aI G 64 (fun _ => 0)) := by rw [eM_69, mm_up_n _ _ (Ne.symm (dq_56_2))]; exact i19_loop2
              have f20_M_69 : M_69 (q_59) = some (aJ G 24 (fun _ => 0)) := by rw [eM_69, mm_up_n _ _ (Ne.symm (dq_59_2))]; exact i20_loop2
              have f21_M_69 : M_69 (q_62) = some (aJ G 4 (fun _ => 0)) := by rw [eM_69, mm_up_n _ _ (Ne.symm (dq_62_2))]; exact i21_loop2
              have f22_M_69 : M_69 (q_65) = some (aJ G 48 (fun _ => 0)) := by rw [eM_69, mm_up_n _ _ (Ne.symm (dq_65_2))]; exact i22_loop2
              have fr_M_69 : ∀ z, M z ≠ none → z ≠ a → M_69 z = M z := fun z h1 h2 => ((congrFun eM_69 z).trans (mm_up_n _ _ (fun e9 => h1 (by rw [e9]; exact n_q_5)))).trans (fr_loop2 z h1 h2)
              refine lv_iinc (v := nI (k + 1)) (lv' := [(1, .int (nI (k + 1))), (0, .ref a)]) hx hb dX7_init_223 hl (k := 1) rfl (nI_s k) (by decide) rfl (fun ls hl => ?_)
              refine lv_goto (tgt := 210) hx hb dX7_init_226 (by decide) ?_
              exact ih (k + 1) _ _ _ _ (by omega) (by omega) f0_M_69 f1_M_69 (by have h9 := f2_M_69; rw [rj_s (fun _ => -1)] at h9; exact h9) f3_M_69 f4_M_69 f5_M_69 f6_M_69 f7_M_69 f8_M_69 f9_M_69 f10_M_69 f11_M_69 f12_M_69 f13_M_69 f14_M_69 f15_M_69 f16_M_69 f17_M_69 f18_M_69 f19_M_69 f20_M_69 f21_M_69 f22_M_69 fr_M_69 hw (lv_sub hl [1, 0] rfl)
        exact loop2 9 0 _ _ _ _ (by omega) (by omega) i0_loop1 i1_loop1 (by have h9 := i2_loop1; rw [← rj_0 (fun _ => -1) (fun _ => 0)] at h9; exact h9) i3_loop1 i4_loop1 i5_loop1 i6_loop1 i7_loop1 i8_loop1 i9_loop1 i10_loop1 i11_loop1 i12_loop1 i13_loop1 i14_loop1 i15_loop1 i16_loop1 i17_loop1 i18_loop1 i19_loop1 i20_loop1 i21_loop1 i22_loop1 fr_loop1 hw (lv_sub hl [1, 0] rfl)
      · have hk9 : k < 9 := nnle (a := 9) (by decide) (by omega) c192
        refine lv_aload_n hx hb dX7_init_195 rfl (lv_at hl 0 rfl) ?_
        refine gf_X7_13 X hw (i0_loop1) rfl dX7_init_196 ?_
        refine lv_iload_n hx hb dX7_init_199 rfl (lv_at hl 1 rfl) ?_
        refine lv_iconst (v := 1) hx hb dX7_init_200 (by decide) ?_
        refine mi_iast X hw (i1_loop1) (k) (rfl) (by omega) (by decide) dX7_init_201 (fun H9 locs9 hw => ?_)
        obtain ⟨M_70, eM_70⟩ : ∃ z, z = mm_up M1 (q_2) (aI G 90 (upd (rj (fun _ => 1) (fun _ => 0) k) (k) (1))) := ⟨_, rfl⟩
        have hw : mm_W G.1 vwCl (ct_A M s.heap.size) s.heap M_70 H9 locs9 := by rw [eM_70]; exact hw
        have f0_M_70 : M_70 (a) = some (.inr (7, [.int 1, .ref q_2, .ref q_5, .ref q_8, .ref q_11, .int 0, .ref q_14, .int 0, .ref q_17, .ref q_20, .ref q_23, .ref q_26, .int 0, .ref q_29, .ref q_32, .ref q_35, .ref q_38, .ref q_41, .int 0, .ref q_44, .ref q_47, .ref q_50, .ref q_53, .ref q_56, .int 0, .ref q_59, .ref q_62, .ref q_65])) := by rw [eM_70, mm_up_n _ _ (dq_2_0)]; exact i0_loop1
        have f1_M_70 : M_70 (q_2) = some (aI G 90 (upd (rj (fun _ => 1) (fun _ => 0) k) (k) (1))) := by rw [eM_70]; exact mm_up_s _ _ _
        have f2_M_70 : M_70 (q_5) = some (aI G 80 (fun _ => 0)) := by rw [eM_70, mm_up_n _ _ (Ne.symm (dq_5_1))]; exact i2_loop1
        have f3_M_70 : M_70 (q_8) = some (aI G 10 (fun _ => 0)) := by rw [eM_70, mm_up_n _ _ (Ne.symm (dq_8_1))]; exact i3_loop1
        have f4_M_70 : M_70 (q_11) = some (aI G 10 (fun _ => 0)) := by rw [eM_70, mm_up_n _ _ (Ne.symm (dq_11_1))]; exact i4_loop1
        have f5_M_70 : M_70 (q_14) = some (aI G 1001 (fun _ => 0)) := by rw [eM_70, mm_up_n _ _ (Ne.symm (dq_14_1))]; exact i5_loop1
        have f6_M_70 : M_70 (q_17) = some (aI G 12 (fun _ => 0)) := by rw [eM_70, mm_up_n _ _ (Ne.symm (dq_17_1))]; exact i6_loop1
        have f7_M_70 : M_70 (q_20) = some (aI G 12 (fun _ => 0)) := by rw [eM_70, mm_up_n _ _ (Ne.symm (dq_20_1))]; exact i7_loop1
        have f8_M_70 : M_70 (q_23) = some (aI G 12 (fun _ => 0)) := by rw [eM_70, mm_up_n _ _ (Ne.symm (dq_23_1))]; exact i8_loop1
        have f9_M_70 : M_70 (q_26) = some (aZ G 120 (fun _ => 0)) := by rw [eM_70, mm_up_n _ _ (Ne.symm (dq_26_1))]; exact i9_loop1
        have f10_M_70 : M_70 (q_29) = some (aI G 12 (fun _ => 0)) := by rw [eM_70, mm_up_n _ _ (Ne.symm (dq_29_1))]; exact i10_loop1
        have f11_M_70 : M_70 (q_32) = some (aI G 12 (fun _ => 0)) := by rw [eM_70, mm_up_n _ _ (Ne.symm (dq_32_1))]; exact i11_loop1
        have f12_M_70 : M_70 (q_35) = some (aI G 288 (fun _ => 0)) := by rw [eM_70, mm_up_n _ _ (Ne.symm (dq_35_1))]; exact i12_loop1
        have f13_M_70 : M_70 (q_38) = some (aI G 288 (fun _ => 0)) := by rw [eM_70, mm_up_n _ _ (Ne.symm (dq_38_1))]; exact i13_loop1
        have f14_M_70 : M_70 (q_41) = some (aJ G 48 (fun _ => 0)) := by rw [eM_70, mm_up_n _ _ (Ne.symm (dq_41_1))]; exact i14_loop1
        have f15_M_70 : M_70 (q_44) = some (aI G 64 (fun _ => 0)) := by rw [eM_70, mm_up_n _ _ (Ne.symm (dq_44_1))]; exact i15_loop1
        have f16_M_70 : M_70 (q_47) = some (aI G 64 (fun _ => 0)) := by rw [eM_70, mm_up_n _ _ (Ne.symm (dq_47_1))]; exact i16_loop1
        have f17_M_70 : M_70 (q_50) = some (aJ G 64 (fun _ => 0)) := by rw [eM_70, mm_up_n _ _ (Ne.symm (dq_50_1))]; exact i17_loop1
        have f18_M_70 : M_70 (q_53) = some (aI G 64 (fun _ => 0)) := by rw [eM_70, mm_up_n _ _ (Ne.symm (dq_53_1))]; exact i18_loop1
        have f19_M_70 : M_70 (q_56) = some (aI G 64 (fun _ => 0)) := by rw [eM_70, mm_up_n _ _ (Ne.symm (dq_56_1))]; exact i19_loop1
        have f20_M_70 : M_70 (q_59) = some (aJ G 24 (fun _ => 0)) := by rw [eM_70, mm_up_n _ _ (Ne.symm (dq_59_1))]; exact i20_loop1
        have f21_M_70 : M_70 (q_62) = some (aJ G 4 (fun _ => 0)) := by rw [eM_70, mm_up_n _ _ (Ne.symm (dq_62_1))]; exact i21_loop1
        have f22_M_70 : M_70 (q_65) = some (aJ G 48 (fun _ => 0)) := by rw [eM_70, mm_up_n _ _ (Ne.symm (dq_65_1))]; exact i22_loop1
        have fr_M_70 : ∀ z, M z ≠ none → z ≠ a → M_70 z = M z := fun z h1 h2 => ((congrFun eM_70 z).trans (mm_up_n _ _ (fun e9 => h1 (by rw [e9]; exact n_q_2)))).trans (fr_loop1 z h1 h2)
        refine lv_iinc (v := nI (k + 1)) (lv' := [(1, .int (nI (k + 1))), (0, .ref a)]) hx hb dX7_init_202 hl (k := 1) rfl (nI_s k) (by decide) rfl (fun ls hl => ?_)
        refine lv_goto (tgt := 189) hx hb dX7_init_205 (by decide) ?_
        exact ih (k + 1) _ _ _ _ (by omega) (by omega) f0_M_70 (by have h9 := f1_M_70; rw [rj_s (fun _ => 1)] at h9; exact h9) f2_M_70 f3_M_70 f4_M_70 f5_M_70 f6_M_70 f7_M_70 f8_M_70 f9_M_70 f10_M_70 f11_M_70 f12_M_70 f13_M_70 f14_M_70 f15_M_70 f16_M_70 f17_M_70 f18_M_70 f19_M_70 f20_M_70 f21_M_70 f22_M_70 fr_M_70 hw (lv_sub hl [1, 0] rfl)
  exact loop1 10 0 _ _ _ _ (by omega) (by omega) f0_M_67 (by have h9 := f1_M_67; rw [← rj_0 (fun _ => 1) (fun _ => 0)] at h9; exact h9) f2_M_67 f3_M_67 f4_M_67 f5_M_67 f6_M_67 f7_M_67 f8_M_67 f9_M_67 f10_M_67 f11_M_67 f12_M_67 f13_M_67 f14_M_67 f15_M_67 f16_M_67 f17_M_67 f18_M_67 f19_M_67 f20_M_67 f21_M_67 f22_M_67 fr_M_67 hw (lv_sub hl [1, 0] rfl)
