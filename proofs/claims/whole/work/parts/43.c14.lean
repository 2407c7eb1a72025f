theorem ps_c (x : Int32) : x + 1 - 1 = x := Int32.add_sub_cancel x 1
theorem nn_eq {x : Int32} {n N : Nat} (hx : x = nI n) (hn : n ≤ N) (hN : N < 2 ^ 31) (h : ¬ x < nI N) : n = N := by
  rw [hx] at h
  have := nnlt (by omega) hN h
  omega
theorem nn_ne {x : Int32} {n N : Nat} (hx : x = nI n) (hN : N < 2 ^ 31) (hn : n ≤ N) (h : x < nI N) : n < N ∧ ¬ x = nI N := by
  rw [hx] at h
  have h1 := nlt (by omega) hN h
  exact ⟨h1, fun e => absurd (nI_inj (by omega) hN (hx.symm.trans e)) (by omega)⟩
set_option maxHeartbeats 4000000 in
set_option maxRecDepth 100000 in
theorem c_edition (l : Launch) (G : mG) (M : mM) (L : Nat → Nat → Nat) (S : sS) (cs ar : Nat → Int64) (J : eJ) (hE : EV G L S cs ar J M) (ne nn nc nl ht : Nat) (hN : NM S ne nn nc nl ht) (hkp : ∀ i, i < cl (S 12 0) → S 13 i = -1 ∨ cl (S 13 i) < ne) (x : Int32) : Ct l yX6_edition cX6_edition 4 (some FieldType.int) (mm_r 2 3 22) G [.ref (L 0 0), .int x] M (fun r M1 => r = some (.int (sp_edition S x).1) ∧ ∃ L1 J1, L1 0 0 = L 0 0 ∧ J1.1 = J.1 ∧ EV G L1 (sp_edition S x).2 cs ar J1 M1) := by
  refine Ct.of (by decide) (Nat.le_of_ble_eq_true rfl) ?_
  intro p e s m args below meth c ls Q X hin hl hw hQ
  have hx := X.1
  have hb := X.2.1
  have hl : lv_has ls 4 [(0, .ref (L 0 0)), (1, .int x)] := hl
  obtain ⟨hN0, hN1, hN2, hN7, hN8, hN12, hN13, hN18, hN19, hN5, hN6⟩ := id hN
  have h0b : cl (S 0 0) = ne := by rw [hN0, cl_n (by omega)]
  have h7b : cl (S 7 0) = nn := by rw [hN7, cl_n (by omega)]
  have h12b : cl (S 12 0) = nc := by rw [hN12, cl_n (by omega)]
  have h18b : cl (S 18 0) = nl := by rw [hN18, cl_n (by omega)]
  have h5b : cl (S 5 0) = ht := by rw [hN5, cl_n (by omega)]
  refine lv_aload_n hx hb dX6_edition_0 rfl (lv_at hl 0 rfl) ?_
  refine lv_iload_n hx hb dX6_edition_1 rfl (lv_at hl 1 rfl) ?_
  refine mm_callV (As := [.int x]) (rest := []) X hw (c_editionAt l G _ L _ _ _ _ hE ne nn nc nl ht hN (x)) (hE.k0) rfl wd_X6_77 ⟨Nat.le_of_ble_eq_true rfl, Nat.le_of_ble_eq_true rfl⟩ ⟨Nat.le_of_ble_eq_true rfl, Nat.le_of_ble_eq_true rfl⟩ rfl rfl (Nat.le_of_ble_eq_true rfl) hl.1 dX6_edition_2 (fun v9 M9 H9 locs9 hp9 hw => ?_)
  obtain ⟨rfl, rfl⟩ := hp9
  refine W.eq (g2 := F0 m 5 ls [va_rf (atR (S 0 0) (L 10) (x))]) rfl ?_
  by_cases c2 : 0 ≤ x ∧ x < S 0 0
  · have l2 : cl x < cl (S 0 0) := by rw [h0b]; exact cl_lt hN0 (by omega) c2
    refine mm_rfS (atR_s c2) ?_
    refine lv_astore_n (lv' := [(2, .ref (L 10 (cl x))), (0, .ref (L 0 0)), (1, .int x)]) hx hb dX6_edition_5 rfl hl (by decide) rfl (fun ls hl => ?_)
    refine lv_aload_n hx hb dX6_edition_6 rfl (lv_at hl 0 rfl) ?_
    refine lv_ifnonnull (tgt := 13) hx hb dX6_edition_7 (by decide) ?_
    refine lv_aload_n hx hb dX6_edition_13 rfl (lv_at hl 1 rfl) ?_
    refine gf_X6_47 X hw (hE.k0) rfl dX6_edition_14 ?_
    refine lv_bipush (v := 10) hx hb dX6_edition_17 (by decide) ?_
    refine lv_icmp_lt (tgt := 25) hx hb dX6_edition_19 (by decide) (fun c19 => ?_) (fun c19 => ?_)
    · obtain ⟨hlt, hne⟩ := nn_ne (N := 10) hN0 (by decide) (by omega) c19
      have hne : ¬ S 0 0 = 10 := hne
      have hxl : cl x < ne := by omega
      have fe_0 : M (L 0 0) = some (.inr (6, [.ref (L 1 0), .ref (L 2 0), .ref (L 3 0), .ref (L 4 0), .ref (L 10 0), .ref (L 5 0), .int (S 0 0), .int (S 7 0), .int (S 12 0), .int (S 18 0), .int (S 5 0), .int (S 24 0)])) := hE.k0
      have fe_1 : M (L 1 0) = some (aQ G 3 10 (rfs (cl (S 0 0)) (L 10))) := hE.k1
      have fe_2 : M (L 10 (cl x)) = some (.inr (2, [.int (nI (cl x)), .ref (L 11 (cl x)), .ref (L 12 (cl x)), .int (S 3 ((cl x))), .int (S 4 ((cl x)))])) := hE.k10 l2
      have fe_3 : M (L 11 (cl x)) = some (aI G 9 (tr 9 (fun j => S 1 (9 * (cl x) + j)))) := hE.k11 l2
      have fe_4 : M (L 12 (cl x)) = some (aI G 8 (tr 8 (fun j => S 2 (8 * (cl x) + j)))) := hE.k12 l2
      have ap_0 : L 0 0 ≠ L 1 0 := hE.ne (lv_0 S 0 (by decide)) (lv_0 S 1 (by decide)) (fun h9 => absurd h9.1 (by decide))
      have ap_1 : L 0 0 ≠ L 10 (cl x) := hE.ne (lv_0 S 0 (by decide)) (lv_e S (k := 10) (by decide) l2) (fun h9 => absurd h9.1 (by decide))
      have ap_2 : L 0 0 ≠ L 11 (cl x) := hE.ne (lv_0 S 0 (by decide)) (lv_e S (k := 11) (by decide) l2) (fun h9 => absurd h9.1 (by decide))
      have ap_3 : L 0 0 ≠ L 12 (cl x) := hE.ne (lv_0 S 0 (by decide)) (lv_e S (k := 12) (by decide) l2) (fun h9 => absurd h9.1 (by decide))
      have ap_4 : L 1 0 ≠ L 10 (cl x) := hE.ne (lv_0 S 1 (by decide)) (lv_e S (k := 10) (by decide) l2) (fun h9 => absurd h9.1 (by decide))
      have ap_5 : L 1 0 ≠ L 11 (cl x) := hE.ne (lv_0 S 1 (by decide)) (lv_e S (k := 11) (by decide) l2) (fun h9 => absurd h9.1 (by decide))
      have ap_6 : L 1 0 ≠ L 12 (cl x) := hE.ne (lv_0 S 1 (by decide)) (lv_e S (k := 12) (by decide) l2) (fun h9 => absurd h9.1 (by decide))
      have ap_7 : L 10 (cl x) ≠ L 11 (cl x) := hE.ne (lv_e S (k := 10) (by decide) l2) (lv_e S (k := 11) (by decide) l2) (fun h9 => absurd h9.1 (by decide))
      have ap_8 : L 10 (cl x) ≠ L 12 (cl x) := hE.ne (lv_e S (k := 10) (by decide) l2) (lv_e S (k := 12) (by decide) l2) (fun h9 => absurd h9.1 (by decide))
      have ap_9 : L 11 (cl x) ≠ L 12 (cl x) := hE.ne (lv_e S (k := 11) (by decide) l2) (lv_e S (k := 12) (by decide) l2) (fun h9 => absurd h9.1 (by decide))
      have fr_0 : ∀ z, M z ≠ none → z ≠ (L 0 0) → z ≠ (L 1 0) → M z = M z := fun _ _ _ _ => rfl
      refine nw_X2 X hw cl_X6_9 (Nat.le_of_ble_eq_true rfl) (Nat.le_of_ble_eq_true rfl) dX6_edition_25 (fun q_1 H9 hq_1 hw => ?_)
      have n_q_1 : M q_1 = none := Classical.byContradiction (fun h9 => h9 ((fr_0 q_1 h9 (Ne.symm (ne_new (fe_0) hq_1)) (Ne.symm (ne_new (fe_1) hq_1))).symm.trans hq_1))
      obtain ⟨M_2, eM_2⟩ : ∃ z, z = mm_up M q_1 (.inr (2, [.int 0, .null, .null, .int 0, .int 0])) := ⟨_, rfl⟩
      rw [← eM_2] at hw
      have dq_1_0 : L 0 0 ≠ q_1 := ne_new (fe_0) hq_1
      have f0_M_2 : M_2 (L 0 0) = some (.inr (6, [.ref (L 1 0), .ref (L 2 0), .ref (L 3 0), .ref (L 4 0), .ref (L 10 0), .ref (L 5 0), .int (S 0 0), .int (S 7 0), .int (S 12 0), .int (S 18 0), .int (S 5 0), .int (S 24 0)])) := by rw [eM_2, mm_up_n _ _ dq_1_0]; exact fe_0
      have dq_1_1 : L 1 0 ≠ q_1 := ne_new (fe_1) hq_1
      have f1_M_2 : M_2 (L 1 0) = some (aQ G 3 10 (rfs (cl (S 0 0)) (L 10))) := by rw [eM_2, mm_up_n _ _ dq_1_1]; exact fe_1
      have dq_1_2 : L 10 (cl x) ≠ q_1 := ne_new (fe_2) hq_1
      have f2_M_2 : M_2 (L 10 (cl x)) = some (.inr (2, [.int (nI (cl x)), .ref (L 11 (cl x)), .ref (L 12 (cl x)), .int (S 3 ((cl x))), .int (S 4 ((cl x)))])) := by rw [eM_2, mm_up_n _ _ dq_1_2]; exact fe_2
      have dq_1_3 : L 11 (cl x) ≠ q_1 := ne_new (fe_3) hq_1
      have f3_M_2 : M_2 (L 11 (cl x)) = some (aI G 9 (tr 9 (fun j => S 1 (9 * (cl x) + j)))) := by rw [eM_2, mm_up_n _ _ dq_1_3]; exact fe_3
      have dq_1_4 : L 12 (cl x) ≠ q_1 := ne_new (fe_4) hq_1
      have f4_M_2 : M_2 (L 12 (cl x)) = some (aI G 8 (tr 8 (fun j => S 2 (8 * (cl x) + j)))) := by rw [eM_2, mm_up_n _ _ dq_1_4]; exact fe_4
      have fq_1 : M_2 q_1 = some (.inr (2, [.int 0, .null, .null, .int 0, .int 0])) := by rw [eM_2]; exact mm_up_s _ _ _
      have fr_M_2 : ∀ z, M z ≠ none → z ≠ (L 0 0) → z ≠ (L 1 0) → M_2 z = M z := fun z h1 h2 h3 => ((congrFun eM_2 z).trans (mm_up_n _ _ (fun e9 => h1 (by rw [e9]; exact n_q_1)))).trans (fr_0 z h1 h2 h3)
      refine W.eq (g2 := F0 m 28 ls [.ref q_1]) rfl ?_
      refine lv_dup hx hb dX6_edition_28 rfl ?_
      refine lv_aload_n hx hb dX6_edition_29 rfl (lv_at hl 1 rfl) ?_
      refine gf_X6_47 X hw (f0_M_2) rfl dX6_edition_30 ?_
      refine mm_callI (As := [.int (S 0 0)]) (rest := [.ref q_1]) X hw (c_editionInit l G _ q_1 (S 0 0) fq_1) wd_X6_33 ⟨Nat.le_of_ble_eq_true rfl, Nat.le_of_ble_eq_true rfl⟩ ⟨Nat.le_of_ble_eq_true rfl, Nat.le_of_ble_eq_true rfl⟩ rfl rfl (Nat.le_of_ble_eq_true rfl) hl.1 dX6_edition_33 (fun v9 N_3 H9 locs9 hp9 hw => ?_)
      obtain ⟨rfl, b1, b2, hnd, ⟨nb1, nb2⟩, fa, fb1, fb2, fr9⟩ := hp9
      refine W.eq (g2 := F0 m 36 ls [.ref q_1]) rfl ?_
      have n_b1 : M b1 = none := Classical.byContradiction (fun h9 => h9 ((fr_M_2 b1 h9 (Ne.symm (ne_new (f0_M_2) nb1)) (Ne.symm (ne_new (f1_M_2) nb1))).symm.trans nb1))
      have n_b2 : M b2 = none := Classical.byContradiction (fun h9 => h9 ((fr_M_2 b2 h9 (Ne.symm (ne_new (f0_M_2) nb2)) (Ne.symm (ne_new (f1_M_2) nb2))).symm.trans nb2))
      have e0_b1_N_3 : L 0 0 ≠ b1 := ne_new (f0_M_2) nb1
      have e0_b2_N_3 : L 0 0 ≠ b2 := ne_new (f0_M_2) nb2
      have g1_N_3 : N_3 (L 0 0) = some (.inr (6, [.ref (L 1 0), .ref (L 2 0), .ref (L 3 0), .ref (L 4 0), .ref (L 10 0), .ref (L 5 0), .int (S 0 0), .int (S 7 0), .int (S 12 0), .int (S 18 0), .int (S 5 0), .int (S 24 0)])) := (fr9 _ (sm_ne (f0_M_2)) (dq_1_0)).trans (f0_M_2)
      have e1_b1_N_3 : L 1 0 ≠ b1 := ne_new (f1_M_2) nb1
      have e1_b2_N_3 : L 1 0 ≠ b2 := ne_new (f1_M_2) nb2
      have g2_N_3 : N_3 (L 1 0) = some (aQ G 3 10 (rfs (cl (S 0 0)) (L 10))) := (fr9 _ (sm_ne (f1_M_2)) (dq_1_1)).trans (f1_M_2)
      have e2_b1_N_3 : L 10 (cl x) ≠ b1 := ne_new (f2_M_2) nb1
      have e2_b2_N_3 : L 10 (cl x) ≠ b2 := ne_new (f2_M_2) nb2
      have g3_N_3 : N_3 (L 10 (cl x)) = some (.inr (2, [.int (nI (cl x)), .ref (L 11 (cl x)), .ref (L 12 (cl x)), .int (S 3 ((cl x))), .int (S 4 ((cl x)))])) := (fr9 _ (sm_ne (f2_M_2)) (dq_1_2)).trans (f2_M_2)
      have e3_b1_N_3 : L 11 (cl x) ≠ b1 := ne_new (f3_M_2) nb1
      have e3_b2_N_3 : L 11 (cl x) ≠ b2 := ne_new (f3_M_2) nb2
      have g4_N_3 : N_3 (L 11 (cl x)) = some (aI G 9 (tr 9 (fun j => S 1 (9 * (cl x) + j)))) := (fr9 _ (sm_ne (f3_M_2)) (dq_1_3)).trans (f3_M_2)
      have e4_b1_N_3 : L 12 (cl x) ≠ b1 := ne_new (f4_M_2) nb1
      have e4_b2_N_3 : L 12 (cl x) ≠ b2 := ne_new (f4_M_2) nb2
      have g5_N_3 : N_3 (L 12 (cl x)) = some (aI G 8 (tr 8 (fun j => S 2 (8 * (cl x) + j)))) := (fr9 _ (sm_ne (f4_M_2)) (dq_1_4)).trans (f4_M_2)
      have e5_b1_N_3 : q_1 ≠ b1 := ne_new (fq_1) nb1
      have e5_b2_N_3 : q_1 ≠ b2 := ne_new (fq_1) nb2
      have fr_N_3 : ∀ z, M z ≠ none → z ≠ (L 0 0) → z ≠ (L 1 0) → N_3 z = M z := fun z h1 h2 h3 => (fr9 z (by rw [fr_M_2 z h1 h2 h3]; exact h1) (fun e9 => h1 (by rw [e9]; exact n_q_1))).trans (fr_M_2 z h1 h2 h3)
      refine lv_astore_n (lv' := [(3, .ref q_1), (2, .ref (L 10 (cl x))), (0, .ref (L 0 0)), (1, .int x)]) hx hb dX6_edition_36 rfl hl (by decide) rfl (fun ls hl => ?_)
      refine lv_aload_n hx hb dX6_edition_37 rfl (lv_at hl 0 rfl) ?_
      refine lv_aload_n hx hb dX6_edition_38 rfl (lv_at hl 1 rfl) ?_
      refine mm_callV (As := [.ref (L 10 (cl x))]) (rest := []) X hw (c_editionLike l G _ _ _ _ _ _ _ _ _ _ _ _ _ _ _ (fun z9 => absurd hnd (by simp [z9])) (Ne.symm (e3_b1_N_3)) (Ne.symm (e4_b1_N_3)) (Ne.symm (e3_b2_N_3)) (Ne.symm (e4_b2_N_3)) fa fb1 fb2 g3_N_3 g4_N_3 g5_N_3) (fa) rfl wd_X6_81 ⟨Nat.le_of_ble_eq_true rfl, Nat.le_of_ble_eq_true rfl⟩ ⟨Nat.le_of_ble_eq_true rfl, Nat.le_of_ble_eq_true rfl⟩ rfl rfl (Nat.le_of_ble_eq_true rfl) hl.1 dX6_edition_39 (fun v9 N_4 H9 locs9 hp9 hw => ?_)
      obtain ⟨rfl, fb1n, fb2n, fr8⟩ := hp9
      refine W.eq (g2 := F0 m 42 ls []) rfl ?_
      rw [tr_tr] at fb1n fb2n
      have g1_N_4 : N_4 (L 0 0) = some (.inr (6, [.ref (L 1 0), .ref (L 2 0), .ref (L 3 0), .ref (L 4 0), .ref (L 10 0), .ref (L 5 0), .int (S 0 0), .int (S 7 0), .int (S 12 0), .int (S 18 0), .int (S 5 0), .int (S 24 0)])) := (fr8 _ (sm_ne (g1_N_3)) (e0_b1_N_3) (e0_b2_N_3)).trans (g1_N_3)
      have g2_N_4 : N_4 (L 1 0) = some (aQ G 3 10 (rfs (cl (S 0 0)) (L 10))) := (fr8 _ (sm_ne (g2_N_3)) (e1_b1_N_3) (e1_b2_N_3)).trans (g2_N_3)
      have g3_N_4 : N_4 (q_1) = some (.inr (2, [.int (S 0 0), .ref b1, .ref b2, .int ((-1)), .int 0])) := (fr8 _ (sm_ne (fa)) (e5_b1_N_3) (e5_b2_N_3)).trans (fa)
      have fr_N_4 : ∀ z, M z ≠ none → z ≠ (L 0 0) → z ≠ (L 1 0) → N_4 z = M z := fun z h1 h2 h3 => (fr8 z (by rw [fr_N_3 z h1 h2 h3]; exact h1) (fun e9 => h1 (by rw [e9]; exact n_b1)) (fun e9 => h1 (by rw [e9]; exact n_b2))).trans (fr_N_3 z h1 h2 h3)
      refine lv_aload_n hx hb dX6_edition_42 rfl (lv_at hl 2 rfl) ?_
      refine gf_X6_11 X hw (g1_N_4) rfl dX6_edition_43 ?_
      refine lv_aload_n hx hb dX6_edition_46 rfl (lv_at hl 2 rfl) ?_
      refine gf_X6_47 X hw (g1_N_4) rfl dX6_edition_47 ?_
      refine lv_aload_n hx hb dX6_edition_50 rfl (lv_at hl 0 rfl) ?_
      refine mi_aast X hw 3 2 (g2_N_4) rfl (g3_N_4) rfl (ne) (hN0) (by omega) (by decide) dX6_edition_51 (fun H9 locs9 hw => ?_)
      obtain ⟨M_5, eM_5⟩ : ∃ z, z = mm_up N_4 (L 1 0) (aQ G 3 10 (va_up (rfs (cl (S 0 0)) (L 10)) (ne) (some (q_1)))) := ⟨_, rfl⟩
      have hw : mm_W G.1 vwCl (ct_A M s.heap.size) s.heap M_5 H9 locs9 := by rw [eM_5]; exact hw
      have f0_M_5 : M_5 (L 0 0) = some (.inr (6, [.ref (L 1 0), .ref (L 2 0), .ref (L 3 0), .ref (L 4 0), .ref (L 10 0), .ref (L 5 0), .int (S 0 0), .int (S 7 0), .int (S 12 0), .int (S 18 0), .int (S 5 0), .int (S 24 0)])) := by rw [eM_5, mm_up_n _ _ (ap_0)]; exact g1_N_4
      have f1_M_5 : M_5 (L 1 0) = some (aQ G 3 10 (va_up (rfs (cl (S 0 0)) (L 10)) (ne) (some (q_1)))) := by rw [eM_5]; exact mm_up_s _ _ _
      have f2_M_5 : M_5 (q_1) = some (.inr (2, [.int (S 0 0), .ref b1, .ref b2, .int ((-1)), .int 0])) := by rw [eM_5, mm_up_n _ _ (Ne.symm (dq_1_1))]; exact g3_N_4
      have f3_M_5 : M_5 (b1) = some (aI G 9 (tr 9 (fun j => S 1 (9 * (cl x) + j)))) := by rw [eM_5, mm_up_n _ _ (Ne.symm (e1_b1_N_3))]; exact fb1n
      have f4_M_5 : M_5 (b2) = some (aI G 8 (tr 8 (fun j => S 2 (8 * (cl x) + j)))) := by rw [eM_5, mm_up_n _ _ (Ne.symm (e1_b2_N_3))]; exact fb2n
      have fr_M_5 : ∀ z, M z ≠ none → z ≠ (L 0 0) → z ≠ (L 1 0) → M_5 z = M z := fun z h1 h2 h3 => ((congrFun eM_5 z).trans (mm_up_n _ _ (h3))).trans (fr_N_4 z h1 h2 h3)
      refine lv_aload_n hx hb dX6_edition_52 rfl (lv_at hl 2 rfl) ?_
      refine lv_dup hx hb dX6_edition_53 rfl ?_
      refine gf_X6_47 X hw (f0_M_5) rfl dX6_edition_54 ?_
      refine lv_iconst (v := 1) hx hb dX6_edition_57 (by decide) ?_
      refine lv_iadd hx hb dX6_edition_58 ?_
      refine pf_X6_47 X hw (f0_M_5) (Nat.le_of_ble_eq_true rfl) dX6_edition_59 (fun H9 locs9 hw => ?_)
      obtain ⟨M_6, eM_6⟩ : ∃ z, z = mm_up M_5 (L 0 0) (.inr (6, [.ref (L 1 0), .ref (L 2 0), .ref (L 3 0), .ref (L 4 0), .ref (L 10 0), .ref (L 5 0), .int ((S 0 0) + 1), .int (S 7 0), .int (S 12 0), .int (S 18 0), .int (S 5 0), .int (S 24 0)])) := ⟨_, rfl⟩
      have hw : mm_W G.1 vwCl (ct_A M s.heap.size) s.heap M_6 H9 locs9 := by rw [eM_6]; exact hw
      have f0_M_6 : M_6 (L 0 0) = some (.inr (6, [.ref (L 1 0), .ref (L 2 0), .ref (L 3 0), .ref (L 4 0), .ref (L 10 0), .ref (L 5 0), .int ((S 0 0) + 1), .int (S 7 0), .int (S 12 0), .int (S 18 0), .int (S 5 0), .int (S 24 0)])) := by rw [eM_6]; exact mm_up_s _ _ _
      have f1_M_6 : M_6 (L 1 0) = some (aQ G 3 10 (va_up (rfs (cl (S 0 0)) (L 10)) (ne) (some (q_1)))) := by rw [eM_6, mm_up_n _ _ (Ne.symm (ap_0))]; exact f1_M_5
      have f2_M_6 : M_6 (q_1) = some (.inr (2, [.int (S 0 0), .ref b1, .ref b2, .int ((-1)), .int 0])) := by rw [eM_6, mm_up_n _ _ (Ne.symm (dq_1_0))]; exact f2_M_5
      have f3_M_6 : M_6 (b1) = some (aI G 9 (tr 9 (fun j => S 1 (9 * (cl x) + j)))) := by rw [eM_6, mm_up_n _ _ (Ne.symm (e0_b1_N_3))]; exact f3_M_5
      have f4_M_6 : M_6 (b2) = some (aI G 8 (tr 8 (fun j => S 2 (8 * (cl x) + j)))) := by rw [eM_6, mm_up_n _ _ (Ne.symm (e0_b2_N_3))]; exact f4_M_5
      have fr_M_6 : ∀ z, M z ≠ none → z ≠ (L 0 0) → z ≠ (L 1 0) → M_6 z = M z := fun z h1 h2 h3 => ((congrFun eM_6 z).trans (mm_up_n _ _ (h2))).trans (fr_M_5 z h1 h2 h3)
      refine lv_aload_n hx hb dX6_edition_62 rfl (lv_at hl 0 rfl) ?_
      refine gf_X6_85 X hw (f2_M_6) rfl dX6_edition_63 ?_
      exact mm_iret hQ X hw (by rw [sp_edition, if_neg (fun h9 => h9 c2), if_neg hne, h0b, ps_c]; exact ⟨rfl, va_up (va_up (va_up L 10 (va_up (L 10) ne q_1)) 11 (va_up (L 11) ne b1)) 12 (va_up (L 12) ne b2), J, rfl, rfl, hE.newE hN0 hlt hN1 (cl x) hxl hkp (nd_3 (e5_b1_N_3) (e5_b2_N_3) (fun z9 => absurd hnd (by simp [z9]))) n_q_1 n_b1 n_b2 f0_M_6 (by have h9 := f1_M_6; rw [h0b] at h9; exact h9) (by rw [← hN0]; exact f2_M_6) f3_M_6 f4_M_6 fr_M_6⟩) (Nat.le_of_ble_eq_true rfl) (Nat.le_of_ble_eq_true rfl) dX6_edition_66
    · have hfull : S 0 0 = 10 := by rw [hN0, nn_eq (N := 10) hN0 (by omega) (by decide) c19]; rfl
      refine lv_bipush (v := (-4)) hx hb dX6_edition_22 (by decide) ?_
      exact mm_iret hQ X hw (by have e9 : sp_edition S x = (-4, S) := (by rw [sp_edition, if_neg (fun h9 => h9 c2), if_pos hfull]); rw [e9]; exact ⟨rfl, L, J, rfl, rfl, hE⟩) (Nat.le_of_ble_eq_true rfl) (Nat.le_of_ble_eq_true rfl) dX6_edition_24
  · refine mm_rfN (atR_n c2) ?_
    refine lv_astore_nN (lv' := [(2, .null), (0, .ref (L 0 0)), (1, .int x)]) hx hb dX6_edition_5 rfl hl (by decide) rfl (fun ls hl => ?_)
    refine lv_aload_nN hx hb dX6_edition_6 rfl (lv_at hl 0 rfl) ?_
    refine lv_ifnonnullN hx hb dX6_edition_7 ?_
    refine lv_bipush (v := (-2)) hx hb dX6_edition_10 (by decide) ?_
    exact mm_iret hQ X hw (by have e9 : sp_edition S x = (-2, S) := (by rw [sp_edition, if_pos c2]); rw [e9]; exact ⟨rfl, L, J, rfl, rfl, hE⟩) (Nat.le_of_ble_eq_true rfl) (Nat.le_of_ble_eq_true rfl) dX6_edition_12
theorem VR.new {S : sS} {V : Nat → Int32} {nn : Nat} (h : VR S V) (hZ : ∀ e, e < 10 → S 11 (12 * e + nn) = 0) : VR S (upd V nn 0) := by
  intro n hn e he
  by_cases c : n = nn
  · subst c
    rw [pk_us]
    exact ⟨fun _ => hZ e he, fun _ => by rw [Int32.zero_and]⟩
  · rw [pk_un c]; exact h n hn e he
set_option maxHeartbeats 4000000 in
set_option maxRecDepth 100000 in
theorem c_node (l : Launch) (G : mG) (M : mM) (L : Nat → Nat → Nat) (S : sS) (cs ar : Nat → Int64) (J : eJ) (hE : EV G L S cs ar J M) (ne nn nc nl ht : Nat) (hN : NM S ne nn nc nl ht) (hV : VR S J.1) (hZ : nn < 12 → ∀ e, e < 10 → S 11 (12 * e + nn) = 0) (x y : Int32) : Ct l yX6_node cX6_node 3 (some FieldType.int) (mm_r 2 1 4) G [.ref (L 0 0), .int x, .int y] M (fun r M1 => r = some (.int (sp_node S x y).1) ∧ ∃ L1 J1, L1 0 0 = L 0 0 ∧ VR S J1.1 ∧ EV G L1 (sp_node S x y).2 cs ar J1 M1) := by
  refine Ct.of (by decide) (Nat.le_of_ble_eq_true rfl) ?_
  intro p e s m args below meth c ls Q X hin hl hw hQ
  have hx := X.1
  have hb := X.2.1
  have hl : lv_has ls 3 [(0, .ref (L 0 0)), (1, .int x), (2, .int y)] := hl
  obtain ⟨hN0, hN1, hN2, hN7, hN8, hN12, hN13, hN18, hN19, hN5, hN6⟩ := id hN
  have h0b : cl (S 0 0) = ne := by rw [hN0, cl_n (by omega)]
  have h7b : cl (S 7 0) = nn := by rw [hN7, cl_n (by omega)]
  have h12b : cl (S 12 0) = nc := by rw [hN12, cl_n (by omega)]
  have h18b : cl (S 18 0) = nl := by rw [hN18, cl_n (by omega)]
  have h5b : cl (S 5 0) = ht := by rw [hN5, cl_n (by omega)]
  refine lv_iload_n hx hb dX6_node_0 rfl (lv_at hl 1 rfl) ?_
  refine lv_iconst (v := 1) hx hb dX6_node_1 (by decide) ?_
  refine lv_icmp_lt (tgt := 19) hx hb dX6_node_2 (by decide) (fun c2 => ?_) (fun c2 => ?_)
  · refine lv_bipush (v := (-2)) hx hb dX6_node_19 (by decide) ?_
    exact mm_iret hQ X hw (by have e9 : sp_node S x y = (-2, S) := (by rw [sp_node, if_pos (fun h9 => i32_lt_nle c2 h9.1)]); rw [e9]; exact ⟨rfl, L, J, rfl, hV, hE⟩) (Nat.le_of_ble_eq_true rfl) (Nat.le_of_ble_eq_true rfl) dX6_node_21
  · refine lv_iload_n hx hb dX6_node_5 rfl (lv_at hl 1 rfl) ?_
    refine lv_sipush (v := 1000) hx hb dX6_node_6 (by decide) ?_
    refine lv_icmp_gt (tgt := 19) hx hb dX6_node_9 (by decide) (fun c9 => ?_) (fun c9 => ?_)
    · refine lv_bipush (v := (-2)) hx hb dX6_node_19 (by decide) ?_
      exact mm_iret hQ X hw (by have e9 : sp_node S x y = (-2, S) := (by rw [sp_node, if_pos (fun h9 => i32_lt_nle c9 h9.2)]); rw [e9]; exact ⟨rfl, L, J, rfl, hV, hE⟩) (Nat.le_of_ble_eq_true rfl) (Nat.le_of_ble_eq_true rfl) dX6_node_21
    · refine lv_iload_n hx hb dX6_node_12 rfl (lv_at hl 2 rfl) ?_
      refine mm_callS (As := [.int y]) (rest := []) X hw (c_isBuild l G _ (y)) wd_X6_102 ⟨Nat.le_of_ble_eq_true rfl, Nat.le_of_ble_eq_true rfl⟩ ⟨Nat.le_of_ble_eq_true rfl, Nat.le_of_ble_eq_true rfl⟩ rfl rfl (Nat.le_of_ble_eq_true rfl) hl.1 dX6_node_13 (fun v9 M9 H9 locs9 hp9 hw => ?_)
      obtain ⟨rfl, rfl⟩ := hp9
      refine W.eq (g2 := F0 m 16 ls [.int (bI (0 ≤ y ∧ y ≤ 1023))]) rfl ?_
      refine mm_ifneB (tgt := 22) hx hb dX6_node_16 (by decide) (fun c16 => ?_) (fun c16 => ?_)
      · refine lv_aload_n hx hb dX6_node_22 rfl (lv_at hl 0 rfl) ?_
        refine gf_X6_51 X hw (hE.k0) rfl dX6_node_23 ?_
        refine lv_bipush (v := 12) hx hb dX6_node_26 (by decide) ?_
        refine lv_icmp_lt (tgt := 34) hx hb dX6_node_28 (by decide) (fun c28 => ?_) (fun c28 => ?_)
        · obtain ⟨hlt, hne⟩ := nn_ne (N := 12) hN7 (by decide) (by omega) c28
          have hne : ¬ S 7 0 = 12 := hne
          have fe_0 : M (L 0 0) = some (.inr (6, [.ref (L 1 0), .ref (L 2 0), .ref (L 3 0), .ref (L 4 0), .ref (L 10 0), .ref (L 5 0), .int (S 0 0), .int (S 7 0), .int (S 12 0), .int (S 18 0), .int (S 5 0), .int (S 24 0)])) := hE.k0
          have fe_1 : M (L 2 0) = some (aQ G 4 12 (rfs (cl (S 7 0)) (L 20))) := hE.k2
          have ap_0 : L 0 0 ≠ L 2 0 := hE.ne (lv_0 S 0 (by decide)) (lv_0 S 2 (by decide)) (fun h9 => absurd h9.1 (by decide))
          have fr_0 : ∀ z, M z ≠ none → z ≠ (L 0 0) → z ≠ (L 2 0) → M z = M z := fun _ _ _ _ => rfl
          refine lv_aload_n hx hb dX6_node_34 rfl (lv_at hl 0 rfl) ?_
          refine gf_X6_17 X hw (fe_0) rfl dX6_node_35 ?_
          refine lv_aload_n hx hb dX6_node_38 rfl (lv_at hl 0 rfl) ?_
          refine gf_X6_51 X hw (fe_0) rfl dX6_node_39 ?_
          refine nw_X5 X hw cl_X6_15 (Nat.le_of_ble_eq_true rfl) (Nat.le_of_ble_eq_true rfl) dX6_node_42 (fun q_1 H9 hq_1 hw => ?_)
          have n_q_1 : M q_1 = none := Classical.byContradiction (fun h9 => h9 ((fr_0 q_1 h9 (Ne.symm (ne_new (fe_0) hq_1)) (Ne.symm (ne_new (fe_1) hq_1))).symm.trans hq_1))
          obtain ⟨M_2, eM_2⟩ : ∃ z, z = mm_up M q_1 (.inr (5, [.int 0, .int 0, .int 0, .int 0])) := ⟨_, rfl⟩
          rw [← eM_2] at hw
          have dq_1_0 : L 0 0 ≠ q_1 := ne_new (fe_0) hq_1
          have f0_M_2 : M_2 (L 0 0) = some (.inr (6, [.ref (L 1 0), .ref (L 2 0), .ref (L 3 0), .ref (L 4 0), .ref (L 10 0), .ref (L 5 0), .int (S 0 0), .int (S 7 0), .int (S 12 0), .int (S 18 0), .int (S 5 0), .int (S 24 0)])) := by rw [eM_2, mm_up_n _ _ dq_1_0]; exact fe_0
          have dq_1_1 : L 2 0 ≠ q_1 := ne_new (fe_1) hq_1
          have f1_M_2 : M_2 (L 2 0) = some (aQ G 4 12 (rfs (cl (S 7 0)) (L 20))) := by rw [eM_2, mm_up_n _ _ dq_1_1]; exact fe_1
          have fq_1 : M_2 q_1 = some (.inr (5, [.int 0, .int 0, .int 0, .int 0])) := by rw [eM_2]; exact mm_up_s _ _ _
          have fr_M_2 : ∀ z, M z ≠ none → z ≠ (L 0 0) → z ≠ (L 2 0) → M_2 z = M z := fun z h1 h2 h3 => ((congrFun eM_2 z).trans (mm_up_n _ _ (fun e9 => h1 (by rw [e9]; exact n_q_1)))).trans (fr_0 z h1 h2 h3)
          refine W.eq (g2 := F0 m 45 ls [.ref q_1, .int (S 7 0), .ref (L 2 0)]) rfl ?_
          refine lv_dup hx hb dX6_node_45 rfl ?_
          refine lv_iload_n hx hb dX6_node_46 rfl (lv_at hl 1 rfl) ?_
          refine lv_iload_n hx hb dX6_node_47 rfl (lv_at hl 2 rfl) ?_
          refine mm_callI (As := [.int x, .int y]) (rest := [.ref q_1, .int (S 7 0), .ref (L 2 0)]) X hw (c_nodeInit l G _ q_1 x y fq_1) wd_X6_106 ⟨Nat.le_of_ble_eq_true rfl, Nat.le_of_ble_eq_true rfl⟩ ⟨Nat.le_of_ble_eq_true rfl, Nat.le_of_ble_eq_true rfl⟩ rfl rfl (Nat.le_of_ble_eq_true rfl) hl.1 dX6_node_48 (fun v9 N_3 H9 locs9 hp9 hw => ?_)
          obtain ⟨rfl, fa, fr9⟩ := hp9
          refine W.eq (g2 := F0 m 51 ls [.ref q_1, .int (S 7 0), .ref (L 2 0)]) rfl ?_
          have g1_N_3 : N_3 (L 0 0) = some (.inr (6, [.ref (L 1 0), .ref (L 2 0), .ref (L 3 0), .ref (L 4 0), .ref (L 10 0), .ref (L 5 0), .int (S 0 0), .int (S 7 0), .int (S 12 0), .int (S 18 0), .int (S 5 0), .int (S 24 0)])) := (fr9 _ (sm_ne (f0_M_2)) (dq_1_0)).trans (f0_M_2)
          have g2_N_3 : N_3 (L 2 0) = some (aQ G 4 12 (rfs (cl (S 7 0)) (L 20))) := (fr9 _ (sm_ne (f1_M_2)) (dq_1_1)).trans (f1_M_2)
          have fr_N_3 : ∀ z, M z ≠ none → z ≠ (L 0 0) → z ≠ (L 2 0) → N_3 z = M z := fun z h1 h2 h3 => (fr9 z (by rw [fr_M_2 z h1 h2 h3]; exact h1) (fun e9 => h1 (by rw [e9]; exact n_q_1))).trans (fr_M_2 z h1 h2 h3)
          refine mi_aast X hw 4 5 (g2_N_3) rfl (fa) rfl (nn) (hN7) (by omega) (by decide) dX6_node_51 (fun H9 locs9 hw => ?_)
          obtain ⟨M_4, eM_4⟩ : ∃ z, z = mm_up N_3 (L 2 0) (aQ G 4 12 (va_up (rfs (cl (S 7 0)) (L 20)) (nn) (some (q_1)))) := ⟨_, rfl⟩
          have hw : mm_W G.1 vwCl (ct_A M s.heap.size) s.heap M_4 H9 locs9 := by rw [eM_4]; exact hw
          have f0_M_4 : M_4 (L 0 0) = some (.inr (6, [.ref (L 1 0), .ref (L 2 0), .ref (L 3 0), .ref (L 4 0), .ref (L 10 0), .ref (L 5 0), .int (S 0 0), .int (S 7 0), .int (S 12 0), .int (S 18 0), .int (S 5 0), .int (S 24 0)])) := by rw [eM_4, mm_up_n _ _ (ap_0)]; exact g1_N_3
          have f1_M_4 : M_4 (L 2 0) = some (aQ G 4 12 (va_up (rfs (cl (S 7 0)) (L 20)) (nn) (some (q_1)))) := by rw [eM_4]; exact mm_up_s _ _ _
          have f2_M_4 : M_4 (q_1) = some (.inr (5, [.int x, .int y, .int 0, .int ((-1))])) := by rw [eM_4, mm_up_n _ _ (Ne.symm (dq_1_1))]; exact fa
          have fr_M_4 : ∀ z, M z ≠ none → z ≠ (L 0 0) → z ≠ (L 2 0) → M_4 z = M z := fun z h1 h2 h3 => ((congrFun eM_4 z).trans (mm_up_n _ _ (h3))).trans (fr_N_3 z h1 h2 h3)
          refine lv_aload_n hx hb dX6_node_52 rfl (lv_at hl 0 rfl) ?_
          refine lv_dup hx hb dX6_node_53 rfl ?_
          refine gf_X6_51 X hw (f0_M_4) rfl dX6_node_54 ?_
          refine lv_iconst (v := 1) hx hb dX6_node_57 (by decide) ?_
          refine lv_iadd hx hb dX6_node_58 ?_
          refine pf_X6_51 X hw (f0_M_4) (Nat.le_of_ble_eq_true rfl) dX6_node_59 (fun H9 locs9 hw => ?_)
          obtain ⟨M_5, eM_5⟩ : ∃ z, z = mm_up M_4 (L 0 0) (.inr (6, [.ref (L 1 0), .ref (L 2 0), .ref (L 3 0), .ref (L 4 0), .ref (L 10 0), .ref (L 5 0), .int (S 0 0), .int ((S 7 0) + 1), .int (S 12 0), .int (S 18 0), .int (S 5 0), .int (S 24 0)])) := ⟨_, rfl⟩
          have hw : mm_W G.1 vwCl (ct_A M s.heap.size) s.heap M_5 H9 locs9 := by rw [eM_5]; exact hw
          have f0_M_5 : M_5 (L 0 0) = some (.inr (6, [.ref (L 1 0), .ref (L 2 0), .ref (L 3 0), .ref (L 4 0), .ref (L 10 0), .ref (L 5 0), .int (S 0 0), .int ((S 7 0) + 1), .int (S 12 0), .int (S 18 0), .int (S 5 0), .int (S 24 0)])) := by rw [eM_5]; exact mm_up_s _ _ _
          have f1_M_5 : M_5 (L 2 0) = some (aQ G 4 12 (va_up (rfs (cl (S 7 0)) (L 20)) (nn) (some (q_1)))) := by rw [eM_5, mm_up_n _ _ (Ne.symm (ap_0))]; exact f1_M_4
          have f2_M_5 : M_5 (q_1) = some (.inr (5, [.int x, .int y, .int 0, .int ((-1))])) := by rw [eM_5, mm_up_n _ _ (Ne.symm (dq_1_0))]; exact f2_M_4
          have fr_M_5 : ∀ z, M z ≠ none → z ≠ (L 0 0) → z ≠ (L 2 0) → M_5 z = M z := fun z h1 h2 h3 => ((congrFun eM_5 z).trans (mm_up_n _ _ (h2))).trans (fr_M_4 z h1 h2 h3)
          refine lv_aload_n hx hb dX6_node_62 rfl (lv_at hl 0 rfl) ?_
          refine gf_X6_51 X hw (f0_M_5) rfl dX6_node_63 ?_
          refine lv_iconst (v := 1) hx hb dX6_node_66 (by decide) ?_
          refine lv_isub hx hb dX6_node_67 ?_
          exact mm_iret hQ X hw (by rw [sp_node, if_neg (fun h9 => h9 ⟨i32_nlt c2, i32_nlt c9⟩), if_neg (fun h9 => h9 c16), if_neg hne, h7b]; exact ⟨rfl, va_up L 20 (va_up (L 20) nn q_1), (upd J.1 nn 0, J.2), rfl, VR.new hV (hZ hlt), hE.newN hN7 hlt x y n_q_1 f0_M_5 (by have h9 := f1_M_5; rw [h7b] at h9; exact h9) f2_M_5 fr_M_5⟩) (Nat.le_of_ble_eq_true rfl) (Nat.le_of_ble_eq_true rfl) dX6_node_68
        · have hfull : S 7 0 = 12 := by rw [hN7, nn_eq (N := 12) hN7 (by omega) (by decide) c28]; rfl
          refine lv_bipush (v := (-4)) hx hb dX6_node_31 (by decide) ?_
          exact mm_iret hQ X hw (by have e9 : sp_node S x y = (-4, S) := (by rw [sp_node, if_neg (fun h9 => h9 ⟨i32_nlt c2, i32_nlt c9⟩), if_neg (fun h9 => h9 c16), if_pos hfull]); rw [e9]; exact ⟨rfl, L, J, rfl, hV, hE⟩) (Nat.le_of_ble_eq_true rfl) (Nat.le_of_ble_eq_true rfl) dX6_node_33
      · refine lv_bipush (v := (-2)) hx hb dX6_node_19 (by decide) ?_
        exact mm_iret hQ X hw (by have e9 : sp_node S x y = (-2, S) := (by rw [sp_node, if_neg (fun h9 => h9 ⟨i32_nlt c2, i32_nlt c9⟩), if_pos c16]); rw [e9]; exact ⟨rfl, L, J, rfl, hV, hE⟩) (Nat.le_of_ble_eq_true rfl) (Nat.le_of_ble_eq_true rfl) dX6_node_21
set_option maxHeartbeats 4000000 in
set_option maxRecDepth 100000 in
theorem c_contract (l : Launch) (G : mG) (M : mM) (L : Nat → Nat → Nat) (S : sS) (cs ar : Nat → Int64) (J : eJ) (hE : EV G L S cs ar J M) (ne nn nc nl ht : Nat) (hN : NM S ne nn nc nl ht) (hz : nc < 12 → S 14 nc = 0 ∧ (∀ j, j < 24 → S 15 (24 * nc + j) = 0) ∧ (∀ j, j < 24 → S 16 (24 * nc + j) = 0) ∧ ∀ j, j < 4 → cs (4 * nc + j) = 0) : Ct l yX6_contract cX6_contract 1 (some FieldType.int) (mm_r 3 7 64) G [.ref (L 0 0)] M (fun r M1 => r = some (.int (sp_contract S).1) ∧ ∃ L1 J1, L1 0 0 = L 0 0 ∧ J1.1 = J.1 ∧ EV G L1 (sp_contract S).2 cs ar J1 M1) := by
  refine Ct.of (by decide) (Nat.le_of_ble_eq_true rfl) ?_
  intro p e s m args below meth c ls Q X hin hl hw hQ
  have hx := X.1
  have hb := X.2.1
  have hl : lv_has ls 1 [(0, .ref (L 0 0))] := hl
  obtain ⟨hN0, hN1, hN2, hN7, hN8, hN12, hN13, hN18, hN19, hN5, hN6⟩ := id hN
  have h0b : cl (S 0 0) = ne := by rw [hN0, cl_n (by omega)]
  have h7b : cl (S 7 0) = nn := by rw [hN7, cl_n (by omega)]
  have h12b : cl (S 12 0) = nc := by rw [hN12, cl_n (by omega)]
  have h18b : cl (S 18 0) = nl := by rw [hN18, cl_n (by omega)]
  have h5b : cl (S 5 0) = ht := by rw [hN5, cl_n (by omega)]
  refine lv_aload_n hx hb dX6_contract_0 rfl (lv_at hl 0 rfl) ?_
  refine gf_X6_54 X hw (hE.k0) rfl dX6_contract_1 ?_
  refine lv_bipush (v := 12) hx hb dX6_contract_4 (by decide) ?_
  refine lv_icmp_lt (tgt := 12) hx hb dX6_contract_6 (by decide) (fun c6 => ?_) (fun c6 => ?_)
  · obtain ⟨hlt, hne⟩ := nn_ne (N := 12) hN12 (by decide) (by omega) c6
    have hne : ¬ S 12 0 = 12 := hne
    obtain ⟨z14, z15, z16, zcs⟩ := hz hlt
    have fe_0 : M (L 0 0) = some (.inr (6, [.ref (L 1 0), .ref (L 2 0), .ref (L 3 0), .ref (L 4 0), .ref (L 10 0), .ref (L 5 0), .int (S 0 0), .int (S 7 0), .int (S 12 0), .int (S 18 0), .int (S 5 0), .int (S 24 0)])) := hE.k0
    have fe_1 : M (L 3 0) = some (aQ G 5 12 (rfs (cl (S 12 0)) (L 30))) := hE.k3
    have ap_0 : L 0 0 ≠ L 3 0 := hE.ne (lv_0 S 0 (by decide)) (lv_0 S 3 (by decide)) (fun h9 => absurd h9.1 (by decide))
    have fr_0 : ∀ z, M z ≠ none → z ≠ (L 0 0) → z ≠ (L 3 0) → M z = M z := fun _ _ _ _ => rfl
    refine lv_aload_n hx hb dX6_contract_12 rfl (lv_at hl 0 rfl) ?_
    refine gf_X6_23 X hw (fe_0) rfl dX6_contract_13 ?_
    refine lv_aload_n hx hb dX6_contract_16 rfl (lv_at hl 0 rfl) ?_
    refine gf_X6_54 X hw (fe_0) rfl dX6_contract_17 ?_
    refine nw_X1 X hw cl_X6_21 (Nat.le_of_ble_eq_true rfl) (Nat.le_of_ble_eq_true rfl) dX6_contract_20 (fun q_1 H9 hq_1 hw => ?_)
    have n_q_1 : M q_1 = none := Classical.byContradiction (fun h9 => h9 ((fr_0 q_1 h9 (Ne.symm (ne_new (fe_0) hq_1)) (Ne.symm (ne_new (fe_1) hq_1))).symm.trans hq_1))
    obtain ⟨M_2, eM_2⟩ : ∃ z, z = mm_up M q_1 (.inr (1, [.null, .null, .null, .null, .int 0, .null])) := ⟨_, rfl⟩
    rw [← eM_2] at hw
    have dq_1_0 : L 0 0 ≠ q_1 := ne_new (fe_0) hq_1
    have f0_M_2 : M_2 (L 0 0) = some (.inr (6, [.ref (L 1 0), .ref (L 2 0), .ref (L 3 0), .ref (L 4 0), .ref (L 10 0), .ref (L 5 0), .int (S 0 0), .int (S 7 0), .int (S 12 0), .int (S 18 0), .int (S 5 0), .int (S 24 0)])) := by rw [eM_2, mm_up_n _ _ dq_1_0]; exact fe_0
    have dq_1_1 : L 3 0 ≠ q_1 := ne_new (fe_1) hq_1
    have f1_M_2 : M_2 (L 3 0) = some (aQ G 5 12 (rfs (cl (S 12 0)) (L 30))) := by rw [eM_2, mm_up_n _ _ dq_1_1]; exact fe_1
    have fq_1 : M_2 q_1 = some (.inr (1, [.null, .null, .null, .null, .int 0, .null])) := by rw [eM_2]; exact mm_up_s _ _ _
    have fr_M_2 : ∀ z, M z ≠ none → z ≠ (L 0 0) → z ≠ (L 3 0) → M_2 z = M z := fun z h1 h2 h3 => ((congrFun eM_2 z).trans (mm_up_n _ _ (fun e9 => h1 (by rw [e9]; exact n_q_1)))).trans (fr_0 z h1 h2 h3)
    refine W.eq (g2 := F0 m 23 ls [.ref q_1, .int (S 12 0), .ref (L 3 0)]) rfl ?_
    refine lv_dup hx hb dX6_contract_23 rfl ?_
    refine mm_callIN (As := []) (rest := [.ref q_1, .int (S 12 0), .ref (L 3 0)]) X hw (c_contractInit l G _ q_1 fq_1) wd_X6_140 ⟨Nat.le_of_ble_eq_true rfl, Nat.le_of_ble_eq_true rfl⟩ ⟨Nat.le_of_ble_eq_true rfl, Nat.le_of_ble_eq_true rfl⟩ rfl rfl (Nat.le_of_ble_eq_true rfl) hl.1 dX6_contract_24 (fun v9 N_3 H9 locs9 hp9 hw => ?_)
    obtain ⟨rfl, b1, b2, b3, b4, b5, b6, hnd, ⟨nb1, nb2, nb3, nb4, nb5, nb6⟩, fa, fb1, fb2, fb3, fb4, fb5, fb6, fr9⟩ := hp9
    refine W.eq (g2 := F0 m 27 ls [.ref q_1, .int (S 12 0), .ref (L 3 0)]) rfl ?_
    have n_b1 : M b1 = none := Classical.byContradiction (fun h9 => h9 ((fr_M_2 b1 h9 (Ne.symm (ne_new (f0_M_2) nb1)) (Ne.symm (ne_new (f1_M_2) nb1))).symm.trans nb1))
    have n_b2 : M b2 = none := Classical.byContradiction (fun h9 => h9 ((fr_M_2 b2 h9 (Ne.symm (ne_new (f0_M_2) nb2)) (Ne.symm (ne_new (f1_M_2) nb2))).symm.trans nb2))
    have n_b3 : M b3 = none := Classical.byContradiction (fun h9 => h9 ((fr_M_2 b3 h9 (Ne.symm (ne_new (f0_M_2) nb3)) (Ne.symm (ne_new (f1_M_2) nb3))).symm.trans nb3))
    have n_b4 : M b4 = none := Classical.byContradiction (fun h9 => h9 ((fr_M_2 b4 h9 (Ne.symm (ne_new (f0_M_2) nb4)) (Ne.symm (ne_new (f1_M_2) nb4))).symm.trans nb4))
    have n_b5 : M b5 = none := Classical.byContradiction (fun h9 => h9 ((fr_M_2 b5 h9 (Ne.symm (ne_new (f0_M_2) nb5)) (Ne.symm (ne_new (f1_M_2) nb5))).symm.trans nb5))
    have n_b6 : M b6 = none := Classical.byContradiction (fun h9 => h9 ((fr_M_2 b6 h9 (Ne.symm (ne_new (f0_M_2) nb6)) (Ne.symm (ne_new (f1_M_2) nb6))).symm.trans nb6))
    have e0_b1_N_3 : L 0 0 ≠ b1 := ne_new (f0_M_2) nb1
    have e0_b2_N_3 : L 0 0 ≠ b2 := ne_new (f0_M_2) nb2
    have e0_b3_N_3 : L 0 0 ≠ b3 := ne_new (f0_M_2) nb3
    have e0_b4_N_3 : L 0 0 ≠ b4 := ne_new (f0_M_2) nb4
    have e0_b5_N_3 : L 0 0 ≠ b5 := ne_new (f0_M_2) nb5
    have e0_b6_N_3 : L 0 0 ≠ b6 := ne_new (f0_M_2) nb6
    have g1_N_3 : N_3 (L 0 0) = some (.inr (6, [.ref (L 1 0), .ref (L 2 0), .ref (L 3 0), .ref (L 4 0), .ref (L 10 0), .ref (L 5 0), .int (S 0 0), .int (S 7 0), .int (S 12 0), .int (S 18 0), .int (S 5 0), .int (S 24 0)])) := (fr9 _ (sm_ne (f0_M_2)) (dq_1_0)).trans (f0_M_2)
    have e1_b1_N_3 : L 3 0 ≠ b1 := ne_new (f1_M_2) nb1
    have e1_b2_N_3 : L 3 0 ≠ b2 := ne_new (f1_M_2) nb2
    have e1_b3_N_3 : L 3 0 ≠ b3 := ne_new (f1_M_2) nb3
    have e1_b4_N_3 : L 3 0 ≠ b4 := ne_new (f1_M_2) nb4
    have e1_b5_N_3 : L 3 0 ≠ b5 := ne_new (f1_M_2) nb5
    have e1_b6_N_3 : L 3 0 ≠ b6 := ne_new (f1_M_2) nb6
    have g2_N_3 : N_3 (L 3 0) = some (aQ G 5 12 (rfs (cl (S 12 0)) (L 30))) := (fr9 _ (sm_ne (f1_M_2)) (dq_1_1)).trans (f1_M_2)
    have e2_b1_N_3 : q_1 ≠ b1 := ne_new (fq_1) nb1
    have e2_b2_N_3 : q_1 ≠ b2 := ne_new (fq_1) nb2
    have e2_b3_N_3 : q_1 ≠ b3 := ne_new (fq_1) nb3
    have e2_b4_N_3 : q_1 ≠ b4 := ne_new (fq_1) nb4
    have e2_b5_N_3 : q_1 ≠ b5 := ne_new (fq_1) nb5
    have e2_b6_N_3 : q_1 ≠ b6 := ne_new (fq_1) nb6
    have fr_N_3 : ∀ z, M z ≠ none → z ≠ (L 0 0) → z ≠ (L 3 0) → N_3 z = M z := fun z h1 h2 h3 => (fr9 z (by rw [fr_M_2 z h1 h2 h3]; exact h1) (fun e9 => h1 (by rw [e9]; exact n_q_1))).trans (fr_M_2 z h1 h2 h3)
    refine mi_aast X hw 5 1 (g2_N_3) rfl (fa) rfl (nc) (hN12) (by omega) (by decide) dX6_contract_27 (fun H9 locs9 hw => ?_)
    obtain ⟨M_4, eM_4⟩ : ∃ z, z = mm_up N_3 (L 3 0) (aQ G 5 12 (va_up (rfs (cl (S 12 0)) (L 30)) (nc) (some (q_1)))) := ⟨_, rfl⟩
    have hw : mm_W G.1 vwCl (ct_A M s.heap.size) s.heap M_4 H9 locs9 := by rw [eM_4]; exact hw
    have f0_M_4 : M_4 (L 0 0) = some (.inr (6, [.ref (L 1 0), .ref (L 2 0), .ref (L 3 0), .ref (L 4 0), .ref (L 10 0), .ref (L 5 0), .int (S 0 0), .int (S 7 0), .int (S 12 0), .int (S 18 0), .int (S 5 0), .int (S 24 0)])) := by rw [eM_4, mm_up_n _ _ (ap_0)]; exact g1_N_3
    have f1_M_4 : M_4 (L 3 0) = some (aQ G 5 12 (va_up (rfs (cl (S 12 0)) (L 30)) (nc) (some (q_1)))) := by rw [eM_4]; exact mm_up_s _ _ _
    have f2_M_4 : M_4 (q_1) = some (.inr (1, [.ref b1, .ref b2, .ref b3, .ref b5, .int 0, .null])) := by rw [eM_4, mm_up_n _ _ (Ne.symm (dq_1_1))]; exact fa
    have f3_M_4 : M_4 (b1) = some (aI G 24 (fun _ => 0)) := by rw [eM_4, mm_up_n _ _ (Ne.symm (e1_b1_N_3))]; exact fb1
    have f4_M_4 : M_4 (b2) = some (aI G 24 (fun _ => 0)) := by rw [eM_4, mm_up_n _ _ (Ne.symm (e1_b2_N_3))]; exact fb2
    have f5_M_4 : M_4 (b3) = some (.inr (0, [.ref b4])) := by rw [eM_4, mm_up_n _ _ (Ne.symm (e1_b3_N_3))]; exact fb3
    have f6_M_4 : M_4 (b4) = some (aJ G 4 (fun _ => 0)) := by rw [eM_4, mm_up_n _ _ (Ne.symm (e1_b4_N_3))]; exact fb4
    have f7_M_4 : M_4 (b5) = some (.inr (0, [.ref b6])) := by rw [eM_4, mm_up_n _ _ (Ne.symm (e1_b5_N_3))]; exact fb5
    have f8_M_4 : M_4 (b6) = some (aJ G 4 (fun _ => 0)) := by rw [eM_4, mm_up_n _ _ (Ne.symm (e1_b6_N_3))]; exact fb6
    have fr_M_4 : ∀ z, M z ≠ none → z ≠ (L 0 0) → z ≠ (L 3 0) → M_4 z = M z := fun z h1 h2 h3 => ((congrFun eM_4 z).trans (mm_up_n _ _ (h3))).trans (fr_N_3 z h1 h2 h3)
    refine lv_aload_n hx hb dX6_contract_28 rfl (lv_at hl 0 rfl) ?_
    refine lv_dup hx hb dX6_contract_29 rfl ?_
    refine gf_X6_54 X hw (f0_M_4) rfl dX6_contract_30 ?_
    refine lv_iconst (v := 1) hx hb dX6_contract_33 (by decide) ?_
    refine lv_iadd hx hb dX6_contract_34 ?_
    refine pf_X6_54 X hw (f0_M_4) (Nat.le_of_ble_eq_true rfl) dX6_contract_35 (fun H9 locs9 hw => ?_)
    obtain ⟨M_5, eM_5⟩ : ∃ z, z = mm_up M_4 (L 0 0) (.inr (6, [.ref (L 1 0), .ref (L 2 0), .ref (L 3 0), .ref (L 4 0), .ref (L 10 0), .ref (L 5 0), .int (S 0 0), .int (S 7 0), .int ((S 12 0) + 1), .int (S 18 0), .int (S 5 0), .int (S 24 0)])) := ⟨_, rfl⟩
    have hw : mm_W G.1 vwCl (ct_A M s.heap.size) s.heap M_5 H9 locs9 := by rw [eM_5]; exact hw
    have f0_M_5 : M_5 (L 0 0) = some (.inr (6, [.ref (L 1 0), .ref (L 2 0), .ref (L 3 0), .ref (L 4 0), .ref (L 10 0), .ref (L 5 0), .int (S 0 0), .int (S 7 0), .int ((S 12 0) + 1), .int (S 18 0), .int (S 5 0), .int (S 24 0)])) := by rw [eM_5]; exact mm_up_s _ _ _
    have f1_M_5 : M_5 (L 3 0) = some (aQ G 5 12 (va_up (rfs (cl (S 12 0)) (L 30)) (nc) (some (q_1)))) := by rw [eM_5, mm_up_n _ _ (Ne.symm (ap_0))]; exact f1_M_4
    have f2_M_5 : M_5 (q_1) = some (.inr (1, [.ref b1, .ref b2, .ref b3, .ref b5, .int 0, .null])) := by rw [eM_5, mm_up_n _ _ (Ne.symm (dq_1_0))]; exact f2_M_4
    have f3_M_5 : M_5 (b1) = some (aI G 24 (fun _ => 0)) := by rw [eM_5, mm_up_n _ _ (Ne.symm (e0_b1_N_3))]; exact f3_M_4
    have f4_M_5 : M_5 (b2) = some (aI G 24 (fun _ => 0)) := by rw [eM_5, mm_up_n _ _ (Ne.symm (e0_b2_N_3))]; exact f4_M_4
    have f5_M_5 : M_5 (b3) = some (.inr (0, [.ref b4])) := by rw [eM_5, mm_up_n _ _ (Ne.symm (e0_b3_N_3))]; exact f5_M_4
    have f6_M_5 : M_5 (b4) = some (aJ G 4 (fun _ => 0)) := by rw [eM_5, mm_up_n _ _ (Ne.symm (e0_b4_N_3))]; exact f6_M_4
    have f7_M_5 : M_5 (b5) = some (.inr (0, [.ref b6])) := by rw [eM_5, mm_up_n _ _ (Ne.symm (e0_b5_N_3))]; exact f7_M_4
    have f8_M_5 : M_5 (b6) = some (aJ G 4 (fun _ => 0)) := by rw [eM_5, mm_up_n _ _ (Ne.symm (e0_b6_N_3))]; exact f8_M_4
    have fr_M_5 : ∀ z, M z ≠ none → z ≠ (L 0 0) → z ≠ (L 3 0) → M_5 z = M z := fun z h1 h2 h3 => ((congrFun eM_5 z).trans (mm_up_n _ _ (h2))).trans (fr_M_4 z h1 h2 h3)
    refine lv_aload_n hx hb dX6_contract_38 rfl (lv_at hl 0 rfl) ?_
    refine gf_X6_54 X hw (f0_M_5) rfl dX6_contract_39 ?_
    refine lv_iconst (v := 1) hx hb dX6_contract_42 (by decide) ?_
    refine lv_isub hx hb dX6_contract_43 ?_
    exact mm_iret hQ X hw (by rw [sp_contract, if_neg hne, h12b]; exact ⟨rfl, va_up (va_up (va_up (va_up (va_up (va_up (va_up L 30 (va_up (L 30) nc q_1)) 31 (va_up (L 31) nc b1)) 32 (va_up (L 32) nc b2)) 33 (va_up (L 33) nc b3)) 34 (va_up (L 34) nc b4)) 35 (va_up (L 35) nc b5)) 36 (va_up (L 36) nc b6), (J.1, J.2.1, J.2.2.1, J.2.2.2.1, va_up J.2.2.2.2 nc (fun _ => 0)), rfl, rfl, hE.newC hN12 hlt z14 z15 z16 zcs hnd n_q_1 n_b1 n_b2 n_b3 n_b4 n_b5 n_b6 f0_M_5 (by have h9 := f1_M_5; rw [h12b] at h9; exact h9) f2_M_5 f3_M_5 f4_M_5 f5_M_5 f6_M_5 f7_M_5 f8_M_5 fr_M_5⟩) (Nat.le_of_ble_eq_true rfl) (Nat.le_of_ble_eq_true rfl) dX6_contract_44
  · have hfull : S 12 0 = 12 := by rw [hN12, nn_eq (N := 12) hN12 (by omega) (by decide) c6]; rfl
    refine lv_bipush (v := (-4)) hx hb dX6_contract_9 (by decide) ?_
    exact mm_iret hQ X hw (by have e9 : sp_contract S = (-4, S) := (by rw [sp_contract, if_pos hfull]); rw [e9]; exact ⟨rfl, L, J, rfl, rfl, hE⟩) (Nat.le_of_ble_eq_true rfl) (Nat.le_of_ble_eq_true rfl) dX6_contract_11
