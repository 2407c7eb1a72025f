set_option maxHeartbeats 4000000 in
set_option maxRecDepth 100000 in
theorem c_lay (l : Launch) (G : mG) (M : mM) (L : Nat → Nat → Nat) (S : sS) (cs ar : Nat → Int64) (J : eJ) (hE : EV G L S cs ar J M) (d : Nat) (hd0 : J.2.1 = nI d) (hd24 : d < 24) (v : Int64) : Ct l yX4_lay cX4_lay 3 none (mm_r 1 0 0) G [.ref (L 5 0), .long v] M (fun r M1 => r = none ∧ EV G L S cs ar (J.1, nI (d + 1), vp_updL J.2.2.1 d v, J.2.2.2) M1) := by
  refine Ct.of (by decide) (Nat.le_of_ble_eq_true rfl) ?_
  intro p e s m args below meth c ls Q X hin hl hw hQ
  have hx := X.1
  have hb := X.2.1
  have hl : lv_has ls 3 [(0, .ref (L 5 0)), (1, .long v)] := hl
  refine lv_aload_n hx hb dX4_lay_0 rfl (lv_at hl 0 rfl) ?_
  refine gf_X4_22 X hw (hE.k5) rfl dX4_lay_1 ?_
  refine lv_aload_n hx hb dX4_lay_4 rfl (lv_at hl 0 rfl) ?_
  refine gf_X4_9 X hw (hE.k5) rfl dX4_lay_5 ?_
  refine mi_llen X hw (hE.k6) dX4_lay_8 ?_
  refine W.eq (g2 := F0 m 9 ls [.int 24, .int J.2.1]) rfl ?_
  refine mm_callSN (As := [.int J.2.1, .int 24]) (rest := []) X hw (c_isBelow l G _ (J.2.1) (24)) wd_X4_107 ⟨Nat.le_of_ble_eq_true rfl, Nat.le_of_ble_eq_true rfl⟩ ⟨Nat.le_of_ble_eq_true rfl, Nat.le_of_ble_eq_true rfl⟩ rfl rfl (Nat.le_of_ble_eq_true rfl) hl.1 dX4_lay_9 (fun v9 M9 H9 locs9 hp9 hw => ?_)
  obtain ⟨rfl, rfl⟩ := hp9
  refine W.eq (g2 := F0 m 12 ls [.int (bI (0 ≤ J.2.1 ∧ J.2.1 < 24))]) rfl ?_
  refine mm_ifeqB (tgt := 35) hx hb dX4_lay_12 (by decide) (fun c12 => ?_) (fun c12 => ?_)
  · exact absurd (by rw [hd0]; exact in_lt (n := 24) hd24 (by decide)) c12
  · refine lv_aload_n hx hb dX4_lay_15 rfl (lv_at hl 0 rfl) ?_
    refine gf_X4_9 X hw (hE.k5) rfl dX4_lay_16 ?_
    refine lv_aload_n hx hb dX4_lay_19 rfl (lv_at hl 0 rfl) ?_
    refine gf_X4_22 X hw (hE.k5) rfl dX4_lay_20 ?_
    refine lv_lload_n hx hb dX4_lay_23 rfl (lv_at hl 1 rfl) ?_
    refine mi_last X hw (hE.k6) (d) (hd0) (hd24) (by decide) dX4_lay_24 (fun H9 locs9 hw => ?_)
    obtain ⟨M_1, eM_1⟩ : ∃ z, z = mm_up M (L 6 0) (aJ G 24 (vp_updL J.2.2.1 (d) (v))) := ⟨_, rfl⟩
    have hw : mm_W G.1 vwCl (ct_A M s.heap.size) s.heap M_1 H9 locs9 := by rw [eM_1]; exact hw
    have hE : EV G L (S) (cs) (ar) ((J.1, J.2.1, vp_updL J.2.2.1 (d) (v), J.2.2.2)) M_1 := hE.w_sk (vp_updL J.2.2.1 (d) (v)) eM_1
    refine lv_aload_n hx hb dX4_lay_25 rfl (lv_at hl 0 rfl) ?_
    refine lv_dup hx hb dX4_lay_26 rfl ?_
    refine gf_X4_22 X hw (hE.k5) rfl dX4_lay_27 ?_
    refine lv_iconst (v := 1) hx hb dX4_lay_30 (by decide) ?_
    refine lv_iadd hx hb dX4_lay_31 ?_
    refine pf_X4_22 X hw (hE.k5) (Nat.le_of_ble_eq_true rfl) dX4_lay_32 (fun H9 locs9 hw => ?_)
    obtain ⟨M_2, eM_2⟩ : ∃ z, z = mm_up M_1 (L 5 0) (.inr (4, [.ref (L 6 0), .ref (L 7 0), .int (((J.1, J.2.1, vp_updL J.2.2.1 (d) (v), J.2.2.2).2.1) + 1)])) := ⟨_, rfl⟩
    have hw : mm_W G.1 vwCl (ct_A M s.heap.size) s.heap M_2 H9 locs9 := by rw [eM_2]; exact hw
    have hE : EV G L (S) (cs) (ar) ((((J.1, J.2.1, vp_updL J.2.2.1 (d) (v), J.2.2.2)).1, ((J.1, J.2.1, vp_updL J.2.2.1 (d) (v), J.2.2.2).2.1) + 1, ((J.1, J.2.1, vp_updL J.2.2.1 (d) (v), J.2.2.2)).2.2)) M_2 := hE.w_dp (((J.1, J.2.1, vp_updL J.2.2.1 (d) (v), J.2.2.2).2.1) + 1) eM_2
    exact mm_vret hQ X hw (⟨rfl, by have hE : EV G L S cs ar (J.1, J.2.1 + 1, vp_updL J.2.2.1 d v, J.2.2.2) _ := hE; rw [hd0, nI_s] at hE; exact hE⟩) (Nat.le_of_ble_eq_true rfl) (Nat.le_of_ble_eq_true rfl) dX4_lay_35
set_option maxHeartbeats 4000000 in
set_option maxRecDepth 100000 in
theorem c_top (l : Launch) (G : mG) (M : mM) (L : Nat → Nat → Nat) (S : sS) (cs ar : Nat → Int64) (J : eJ) (hE : EV G L S cs ar J M) (d : Nat) (hd0 : J.2.1 = nI d) (hd24 : d ≤ 24) : Ct l yX4_top cX4_top 1 (some FieldType.long) (mm_r 1 0 0) G [.ref (L 5 0)] M (fun r M1 => r = some (.long (if d = 0 then 0 else J.2.2.1 (d - 1))) ∧ M = M1) := by
  refine Ct.of (by decide) (Nat.le_of_ble_eq_true rfl) ?_
  intro p e s m args below meth c ls Q X hin hl hw hQ
  have hx := X.1
  have hb := X.2.1
  have hl : lv_has ls 1 [(0, .ref (L 5 0))] := hl
  refine lv_aload_n hx hb dX4_top_0 rfl (lv_at hl 0 rfl) ?_
  refine gf_X4_22 X hw (hE.k5) rfl dX4_top_1 ?_
  refine lv_iconst (v := 1) hx hb dX4_top_4 (by decide) ?_
  refine lv_isub hx hb dX4_top_5 ?_
  refine lv_aload_n hx hb dX4_top_6 rfl (lv_at hl 0 rfl) ?_
  refine gf_X4_9 X hw (hE.k5) rfl dX4_top_7 ?_
  refine mi_llen X hw (hE.k6) dX4_top_10 ?_
  refine W.eq (g2 := F0 m 11 ls [.int 24, .int (J.2.1 - 1)]) rfl ?_
  refine mm_callSN (As := [.int (J.2.1 - 1), .int 24]) (rest := []) X hw (c_isBelow l G _ (J.2.1 - 1) (24)) wd_X4_107 ⟨Nat.le_of_ble_eq_true rfl, Nat.le_of_ble_eq_true rfl⟩ ⟨Nat.le_of_ble_eq_true rfl, Nat.le_of_ble_eq_true rfl⟩ rfl rfl (Nat.le_of_ble_eq_true rfl) hl.1 dX4_top_11 (fun v9 M9 H9 locs9 hp9 hw => ?_)
  obtain ⟨rfl, rfl⟩ := hp9
  refine W.eq (g2 := F0 m 14 ls [.int (bI (0 ≤ (J.2.1 - 1) ∧ (J.2.1 - 1) < 24))]) rfl ?_
  refine mm_ifeqB (tgt := 31) hx hb dX4_top_14 (by decide) (fun c14 => ?_) (fun c14 => ?_)
  · refine lv_lconst (v := 0) hx hb dX4_top_31 (by decide) ?_
    exact mm_lret hQ X hw (⟨by rw [if_pos (Decidable.byContradiction (fun h9 => c14 (by rw [hd0, show d = (d - 1) + 1 from by omega, nI_p]; exact in_lt (n := 24) (by omega) (by decide))))], rfl⟩) (Nat.le_of_ble_eq_true rfl) (Nat.le_of_ble_eq_true rfl) dX4_top_32
  · have hd1 : d ≠ 0 := fun h9 => by rw [hd0, h9] at c14; exact absurd c14 (by decide)
    have hdm : J.2.1 - 1 = nI (d - 1) := by rw [hd0, show d = (d - 1) + 1 from by omega, nI_p]; rfl
    refine lv_aload_n hx hb dX4_top_17 rfl (lv_at hl 0 rfl) ?_
    refine gf_X4_9 X hw (hE.k5) rfl dX4_top_18 ?_
    refine lv_aload_n hx hb dX4_top_21 rfl (lv_at hl 0 rfl) ?_
    refine gf_X4_22 X hw (hE.k5) rfl dX4_top_22 ?_
    refine lv_iconst (v := 1) hx hb dX4_top_25 (by decide) ?_
    refine lv_isub hx hb dX4_top_26 ?_
    refine mi_lald X hw (hE.k6) (d - 1) (hdm) (by omega) (by decide) dX4_top_27 ?_
    refine lv_goto (tgt := 32) hx hb dX4_top_28 (by decide) ?_
    exact mm_lret hQ X hw (⟨by rw [if_neg hd1], rfl⟩) (Nat.le_of_ble_eq_true rfl) (Nat.le_of_ble_eq_true rfl) dX4_top_32
set_option maxHeartbeats 4000000 in
set_option maxRecDepth 100000 in
theorem c_take (l : Launch) (G : mG) (M : mM) (L : Nat → Nat → Nat) (S : sS) (cs ar : Nat → Int64) (J : eJ) (hE : EV G L S cs ar J M) (d : Nat) (hd0 : J.2.1 = nI (d + 1)) (hd24 : d < 24) : Ct l yX4_take cX4_take 3 (some FieldType.long) (mm_r 2 0 0) G [.ref (L 5 0)] M (fun r M1 => r = some (.long (J.2.2.1 d)) ∧ EV G L S cs ar (J.1, nI d, J.2.2) M1) := by
  refine Ct.of (by decide) (Nat.le_of_ble_eq_true rfl) ?_
  intro p e s m args below meth c ls Q X hin hl hw hQ
  have hx := X.1
  have hb := X.2.1
  have hl : lv_has ls 3 [(0, .ref (L 5 0))] := hl
  refine lv_aload_n hx hb dX4_take_0 rfl (lv_at hl 0 rfl) ?_
  refine mm_callV (As := []) (rest := []) X hw (c_top l G _ L _ _ _ _ hE (d + 1) hd0 (by omega)) (hE.k5) rfl wd_X4_48 ⟨Nat.le_of_ble_eq_true rfl, Nat.le_of_ble_eq_true rfl⟩ ⟨Nat.le_of_ble_eq_true rfl, Nat.le_of_ble_eq_true rfl⟩ rfl rfl (Nat.le_of_ble_eq_true rfl) hl.1 dX4_take_1 (fun v9 M9 H9 locs9 hp9 hw => ?_)
  obtain ⟨rfl, rfl⟩ := hp9
  refine W.eq (g2 := F0 m 4 ls [.long (if d + 1 = 0 then 0 else J.2.2.1 (d + 1 - 1))]) rfl ?_
  refine mm_eqL (y := J.2.2.1 d) (if_neg (by omega)) ?_
  refine lv_lstore_n (lv' := [(1, .long (J.2.2.1 d)), (0, .ref (L 5 0))]) hx hb dX4_take_4 rfl hl (by decide) rfl (fun ls hl => ?_)
  refine lv_aload_n hx hb dX4_take_5 rfl (lv_at hl 1 rfl) ?_
  refine gf_X4_22 X hw (hE.k5) rfl dX4_take_6 ?_
  refine lv_if_le (tgt := 22) hx hb dX4_take_9 (by decide) (fun c9 => ?_) (fun c9 => ?_)
  · exact absurd (show nI (d + 1) ≤ nI 0 from (by rw [← hd0]; exact c9)) (fun h9 => absurd (nle (by omega) (by decide) h9) (by omega))
  · refine lv_aload_n hx hb dX4_take_12 rfl (lv_at hl 1 rfl) ?_
    refine lv_dup hx hb dX4_take_13 rfl ?_
    refine gf_X4_22 X hw (hE.k5) rfl dX4_take_14 ?_
    refine lv_iconst (v := 1) hx hb dX4_take_17 (by decide) ?_
    refine lv_isub hx hb dX4_take_18 ?_
    refine pf_X4_22 X hw (hE.k5) (Nat.le_of_ble_eq_true rfl) dX4_take_19 (fun H9 locs9 hw => ?_)
    obtain ⟨M_1, eM_1⟩ : ∃ z, z = mm_up M (L 5 0) (.inr (4, [.ref (L 6 0), .ref (L 7 0), .int (J.2.1 - 1)])) := ⟨_, rfl⟩
    have hw : mm_W G.1 vwCl (ct_A M s.heap.size) s.heap M_1 H9 locs9 := by rw [eM_1]; exact hw
    have hE : EV G L (S) (cs) (ar) ((J.1, J.2.1 - 1, J.2.2)) M_1 := hE.w_dp (J.2.1 - 1) eM_1
    refine lv_lload_n hx hb dX4_take_22 rfl (lv_at hl 0 rfl) ?_
    exact mm_lret hQ X hw (⟨rfl, by have hE : EV G L S cs ar (J.1, J.2.1 - 1, J.2.2) _ := hE; rw [hd0, nI_p] at hE; exact hE⟩) (Nat.le_of_ble_eq_true rfl) (Nat.le_of_ble_eq_true rfl) dX4_take_23
