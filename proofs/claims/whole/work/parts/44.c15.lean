set_option maxHeartbeats 4000000 in
set_option maxRecDepth 100000 in
theorem c_run (l : Launch) (G : mG) (M : mM) (L : Nat → Nat → Nat) (S : sS) (cs ar : Nat → Int64) (J : eJ) (hE : EV G L S cs ar J M) (ne nn nc nl ht : Nat) (hN : NM S ne nn nc nl ht) (hW : WK S ne nc) (hF : FI S ne ht) (hC : WC S nc) (x : Int32) (arg : Int64) (lim : Int32) : Ct l yX6_run cX6_run 7 (some FieldType.int) (mm_r 5 1 5) G [.ref (L 0 0), .int x, .long arg, .int lim] M (fun r M1 => r = some (.int (sp_run S cs ar x arg lim).1) ∧ ∃ L1 J1, L1 0 0 = L 0 0 ∧ J1.1 = J.1 ∧ EV G L1 (sp_run S cs ar x arg lim).2.1 (sp_run S cs ar x arg lim).2.2.1 (sp_run S cs ar x arg lim).2.2.2 J1 M1) := by
  refine Ct.of (by decide) (Nat.le_of_ble_eq_true rfl) ?_
  intro p e s m args below meth c ls Q X hin hl hw hQ
  have hx := X.1
  have hb := X.2.1
  have hl : lv_has ls 7 [(0, .ref (L 0 0)), (1, .int x), (2, .long arg), (4, .int lim)] := hl
  obtain ⟨hN0, hN1, hN2, hN7, hN8, hN12, hN13, hN18, hN19, hN5, hN6⟩ := id hN
  have h0b : cl (S 0 0) = ne := by rw [hN0, cl_n (by omega)]
  have h7b : cl (S 7 0) = nn := by rw [hN7, cl_n (by omega)]
  have h12b : cl (S 12 0) = nc := by rw [hN12, cl_n (by omega)]
  have h18b : cl (S 18 0) = nl := by rw [hN18, cl_n (by omega)]
  have h5b : cl (S 5 0) = ht := by rw [hN5, cl_n (by omega)]
  refine lv_aload_n hx hb dX6_run_0 rfl (lv_at hl 0 rfl) ?_
  refine lv_iload_n hx hb dX6_run_1 rfl (lv_at hl 1 rfl) ?_
  refine mm_callV (As := [.int x]) (rest := []) X hw (c_contractAt l G _ L _ _ _ _ hE ne nn nc nl ht hN (x)) (hE.k0) rfl wd_X6_141 ⟨Nat.le_of_ble_eq_true rfl, Nat.le_of_ble_eq_true rfl⟩ ⟨Nat.le_of_ble_eq_true rfl, Nat.le_of_ble_eq_true rfl⟩ rfl rfl (Nat.le_of_ble_eq_true rfl) hl.1 dX6_run_2 (fun v9 M9 H9 locs9 hp9 hw => ?_)
  obtain ⟨rfl, rfl⟩ := hp9
  refine W.eq (g2 := F0 m 5 ls [va_rf (atR (S 12 0) (L 30) (x))]) rfl ?_
  by_cases c2 : 0 ≤ x ∧ x < S 12 0
  · have l2 : cl x < cl (S 12 0) := by rw [h12b]; exact cl_lt hN12 (by omega) c2
    refine mm_rfS (atR_s c2) ?_
    refine lv_astore (lv' := [(5, .ref (L 30 (cl x))), (0, .ref (L 0 0)), (1, .int x), (2, .long arg), (4, .int lim)]) hx hb dX6_run_5 hl (by decide) rfl (fun ls hl => ?_)
    refine lv_aload hx hb dX6_run_7 (lv_at hl 0 rfl) ?_
    refine lv_ifnull hx hb dX6_run_9 ?_
    refine lv_iload hx hb dX6_run_12 (lv_at hl 4 rfl) ?_
    refine lv_if_ge (tgt := 20) hx hb dX6_run_14 (by decide) (fun c14 => ?_) (fun c14 => ?_)
    · refine lv_aload hx hb dX6_run_20 (lv_at hl 0 rfl) ?_
      refine gf_X6_148 X hw (hE.k30 l2) rfl dX6_run_22 ?_
      by_cases k25 : ¬ S 13 (cl x) = -1
      · refine mm_rfS (kpt_s L k25) ?_
        refine lv_ifnonnull (tgt := 31) hx hb dX6_run_25 (by decide) ?_
        refine lv_aload_n hx hb dX6_run_31 rfl (lv_at hl 1 rfl) ?_
        refine gf_X6_57 X hw (hE.k0) rfl dX6_run_32 ?_
        refine lv_bipush (v := 64) hx hb dX6_run_35 (by decide) ?_
        refine lv_icmp_lt (tgt := 43) hx hb dX6_run_37 (by decide) (fun c37 => ?_) (fun c37 => ?_)
        · obtain ⟨hlt, hne⟩ := nn_ne (N := 64) hN18 (by decide) (by omega) c37
          have hne : ¬ S 18 0 = 64 := hne
          have b_x : cl x < nc := by omega
          obtain ⟨j14, hj14, e14, hA, hK⟩ := hW (cl x) b_x
          obtain ⟨kp, hkp, e13, hV⟩ := hK.resolve_left k25
          have hel : if_go S (S 5 0) ne < ne := if_go_lt _ _ ne hN1
          have f1 : cl (S 6 (cl (S 5 0))) = if_go S (S 5 0) ne := by rw [h5b, hF ht (Nat.le_refl _), ← hN5, cl_n (by omega)]
          have eo : rnx S cs x arg lim = rn S cs (cl x) (if_go S (S 5 0) ne) kp j14 arg lim := by rw [rnx, f1, e13, cl_n (by omega), e14, cl_n (by omega)]
          have hCK : CK S (cl x) kp j14 := by have h9 := hC (cl x) b_x k25; rw [e13, cl_n (by omega), e14, cl_n (by omega)] at h9; exact h9
          have fr_0 : ∀ z, M z ≠ none → M z = M z := fun _ _  => rfl
          refine nw_X3 X hw cl_X6_27 (Nat.le_of_ble_eq_true rfl) (Nat.le_of_ble_eq_true rfl) dX6_run_43 (fun q_1 H9 hq_1 hw => ?_)
          have n_q_1 : M q_1 = none := Classical.byContradiction (fun h9 => h9 ((fr_0 q_1 h9 ).symm.trans hq_1))
          obtain ⟨M_2, eM_2⟩ : ∃ z, z = mm_up M q_1 (.inr (3, [.int 0, .long 0, .int 0, .int 0, .int 0])) := ⟨_, rfl⟩
          rw [← eM_2] at hw
          have fq_1 : M_2 q_1 = some (.inr (3, [.int 0, .long 0, .int 0, .int 0, .int 0])) := by rw [eM_2]; exact mm_up_s _ _ _
          have fr_M_2 : ∀ z, M z ≠ none → M_2 z = M z := fun z h1  => ((congrFun eM_2 z).trans (mm_up_n _ _ (fun e9 => h1 (by rw [e9]; exact n_q_1)))).trans (fr_0 z h1 )
          refine W.eq (g2 := F0 m 46 ls [.ref q_1]) rfl ?_
          have hE0 := hE
          have hE : EV G L S cs ar J M_2 := hE0.mono fr_M_2
          refine lv_dup hx hb dX6_run_46 rfl ?_
          refine lv_iload_n hx hb dX6_run_47 rfl (lv_at hl 2 rfl) ?_
          refine lv_lload_n hx hb dX6_run_48 rfl (lv_at hl 3 rfl) ?_
          refine lv_iload hx hb dX6_run_49 (lv_at hl 4 rfl) ?_
          refine lv_aload_n hx hb dX6_run_51 rfl (lv_at hl 1 rfl) ?_
          refine gf_X6_60 X hw (hE.k0) rfl dX6_run_52 ?_
          refine mm_callI (As := [.int x, .long arg, .int lim, .int (S 5 0)]) (rest := [.ref q_1]) X hw (c_entryInit l G _ q_1 x arg lim (S 5 0) fq_1) wd_X6_164 ⟨Nat.le_of_ble_eq_true rfl, Nat.le_of_ble_eq_true rfl⟩ ⟨Nat.le_of_ble_eq_true rfl, Nat.le_of_ble_eq_true rfl⟩ rfl rfl (Nat.le_of_ble_eq_true rfl) hl.1 dX6_run_55 (fun v9 N_3 H9 locs9 hp9 hw => ?_)
          obtain ⟨rfl, fa, fr9⟩ := hp9
          refine W.eq (g2 := F0 m 58 ls [.ref q_1]) rfl ?_
          have frE : ∀ z, M z ≠ none → N_3 z = M z := fun z h1 => (fr9 z (by rw [fr_M_2 z h1]; exact h1) (fun e9 => h1 (by rw [e9]; exact n_q_1))).trans (fr_M_2 z h1)
          have hE : EV G L S cs ar J N_3 := hE0.mono frE
          refine lv_astore (lv' := [(6, .ref q_1), (5, .ref (L 30 (cl x))), (0, .ref (L 0 0)), (1, .int x), (2, .long arg), (4, .int lim)]) hx hb dX6_run_58 hl (by decide) rfl (fun ls hl => ?_)
          refine lv_aload hx hb dX6_run_60 (lv_at hl 0 rfl) ?_
          refine lv_aload_n hx hb dX6_run_62 rfl (lv_at hl 2 rfl) ?_
          refine gf_X6_43 X hw (hE.k0) rfl dX6_run_63 ?_
          refine lv_aload hx hb dX6_run_66 (lv_at hl 1 rfl) ?_
          refine lv_aload hx hb dX6_run_68 (lv_at hl 1 rfl) ?_
          refine gf_X6_167 X hw (hE.k30 l2) rfl dX6_run_70 ?_
          refine lv_aload_n hx hb dX6_run_73 rfl (lv_at hl 2 rfl) ?_
          refine lv_aload_n hx hb dX6_run_74 rfl (lv_at hl 2 rfl) ?_
          refine gf_X6_60 X hw (hE.k0) rfl dX6_run_75 ?_
          refine mm_callV (As := [.int (S 5 0)]) (rest := [.ref (L 33 (cl x)), .ref (L 30 (cl x)), .ref (L 5 0), .ref q_1]) X hw (c_inForceAt l G _ L _ _ _ _ hE ne nn nc nl ht hN (S 5 0)) (hE.k0) rfl wd_X6_134 ⟨Nat.le_of_ble_eq_true rfl, Nat.le_of_ble_eq_true rfl⟩ ⟨Nat.le_of_ble_eq_true rfl, Nat.le_of_ble_eq_true rfl⟩ rfl rfl (Nat.le_of_ble_eq_true rfl) hl.1 dX6_run_78 (fun v9 M9 H9 locs9 hp9 hw => ?_)
          obtain ⟨rfl, rfl⟩ := hp9
          refine W.eq (g2 := F0 m 81 ls [.ref (L 10 (if_go S (S 5 0) ne)), .ref (L 33 (cl x)), .ref (L 30 (cl x)), .ref (L 5 0), .ref q_1]) rfl ?_
          refine lv_lload_n hx hb dX6_run_81 rfl (lv_at hl 4 rfl) ?_
          refine lv_iload hx hb dX6_run_82 (lv_at hl 5 rfl) ?_
          have hd0 : ∀ z, M z = none ∨ mm_1 q_1 (.inr (3, [.int x, .long arg, .int lim, .int (S 5 0), .int 0])) z = none := fun z => (by by_cases h9 : z = q_1; left; rw [h9]; exact n_q_1; right; exact mm_1n _ h9)
          have hs0 : ∀ z c9, mm_or M (mm_1 q_1 (.inr (3, [.int x, .long arg, .int lim, .int (S 5 0), .int 0]))) z = some c9 → N_3 z = some c9 := fun z c9 h9 => (by by_cases h8 : M z = none; rw [mm_or_r h8] at h9; by_cases h7 : z = q_1; rw [h7, mm_1s] at h9; rw [h7, fa]; exact h9; rw [mm_1n _ h7] at h9; cases h9; obtain ⟨c8, e8⟩ := Option.ne_none_iff_exists'.mp h8; rw [mm_or_l e8] at h9; rw [frE z h8, e8]; exact h9)
          refine mm_callVF (As := [.ref (L 30 (cl x)), .ref (L 33 (cl x)), .ref (L 10 (if_go S (S 5 0) ne)), .long arg, .int lim]) (rest := [.ref q_1]) X hw hs0 hd0 (c_execute l G M L _ _ _ _ hE0 (cl x) j14 (if_go S (S 5 0) ne) kp l2 (by omega) (by omega) hj14 e14 hA (by omega) e13 hV hCK arg lim) (hE0.k5) rfl wd_X6_171 ⟨Nat.le_of_ble_eq_true rfl, Nat.le_of_ble_eq_true rfl⟩ ⟨Nat.le_of_ble_eq_true rfl, Nat.le_of_ble_eq_true rfl⟩ rfl rfl (Nat.le_of_ble_eq_true rfl) hl.1 dX6_run_84 (fun v9 B1 H9 locs9 hp9 hdB hw => ?_)
          obtain ⟨rfl, J1, hJ1, hE1⟩ := hp9
          rw [← eo] at hE1
          have nB : B1 q_1 = none := (hdB q_1).resolve_right (fun h9 => by rw [mm_1s] at h9; cases h9)
          obtain ⟨K0, eK0⟩ : ∃ z, z = mm_or B1 (mm_1 q_1 (.inr (3, [.int x, .long arg, .int lim, .int (S 5 0), .int 0]))) := ⟨_, rfl⟩
          rw [← eK0] at hw
          have frK : ∀ z, B1 z ≠ none → K0 z = B1 z := fun z h1 => (by rw [eK0]; obtain ⟨c8, e8⟩ := Option.ne_none_iff_exists'.mp h1; rw [mm_or_l e8, e8])
          have hE : EV G L S (rnx S cs x arg lim).2 ar J1 K0 := hE1.mono frK
          refine W.eq (g2 := F0 m 87 ls [.int (rn S cs (cl x) (if_go S (S 5 0) ne) kp j14 arg lim).1, .ref q_1]) rfl ?_
          rw [← eo]
          generalize ho : rnx S cs x arg lim = o at hE hE1 ⊢
          have fq : K0 q_1 = some (.inr (3, [.int x, .long arg, .int lim, .int (S 5 0), .int 0])) := by rw [eK0, mm_or_r nB, mm_1s]
          have fe_0 : K0 (L 0 0) = some (.inr (6, [.ref (L 1 0), .ref (L 2 0), .ref (L 3 0), .ref (L 4 0), .ref (L 10 0), .ref (L 5 0), .int (S 0 0), .int (S 7 0), .int (S 12 0), .int (S 18 0), .int (S 5 0), .int (S 24 0)])) := hE.k0
          have fe_1 : K0 (L 4 0) = some (aQ G 6 64 (rfs (cl (S 18 0)) (L 40))) := hE.k4
          have fe_2 : K0 (L 30 (cl x)) = some (.inr (1, [.ref (L 31 (cl x)), .ref (L 32 (cl x)), .ref (L 33 (cl x)), .ref (L 35 (cl x)), .int (S 14 ((cl x))), va_rf (kpt L (S 13 ((cl x))))])) := hE.k30 l2
          have fe_3 : K0 (L 33 (cl x)) = some (.inr (0, [.ref (L 34 (cl x))])) := hE.k33 l2
          have fe_4 : K0 (L 34 (cl x)) = some (aJ G 4 (trL 4 (fun j => o.2 (4 * (cl x) + j)))) := hE.k34 l2
          have ap_0 : L 0 0 ≠ L 4 0 := hE.ne (lv_0 S 0 (by decide)) (lv_0 S 4 (by decide)) (fun h9 => absurd h9.1 (by decide))
          have ap_1 : L 0 0 ≠ L 30 (cl x) := hE.ne (lv_0 S 0 (by decide)) (lv_c S (k := 30) (by decide) l2) (fun h9 => absurd h9.1 (by decide))
          have ap_2 : L 0 0 ≠ L 33 (cl x) := hE.ne (lv_0 S 0 (by decide)) (lv_c S (k := 33) (by decide) l2) (fun h9 => absurd h9.1 (by decide))
          have ap_3 : L 0 0 ≠ L 34 (cl x) := hE.ne (lv_0 S 0 (by decide)) (lv_c S (k := 34) (by decide) l2) (fun h9 => absurd h9.1 (by decide))
          have ap_4 : L 4 0 ≠ L 30 (cl x) := hE.ne (lv_0 S 4 (by decide)) (lv_c S (k := 30) (by decide) l2) (fun h9 => absurd h9.1 (by decide))
          have ap_5 : L 4 0 ≠ L 33 (cl x) := hE.ne (lv_0 S 4 (by decide)) (lv_c S (k := 33) (by decide) l2) (fun h9 => absurd h9.1 (by decide))
          have ap_6 : L 4 0 ≠ L 34 (cl x) := hE.ne (lv_0 S 4 (by decide)) (lv_c S (k := 34) (by decide) l2) (fun h9 => absurd h9.1 (by decide))
          have ap_7 : L 30 (cl x) ≠ L 33 (cl x) := hE.ne (lv_c S (k := 30) (by decide) l2) (lv_c S (k := 33) (by decide) l2) (fun h9 => absurd h9.1 (by decide))
          have ap_8 : L 30 (cl x) ≠ L 34 (cl x) := hE.ne (lv_c S (k := 30) (by decide) l2) (lv_c S (k := 34) (by decide) l2) (fun h9 => absurd h9.1 (by decide))
          have ap_9 : L 33 (cl x) ≠ L 34 (cl x) := hE.ne (lv_c S (k := 33) (by decide) l2) (lv_c S (k := 34) (by decide) l2) (fun h9 => absurd h9.1 (by decide))
          have fr_0 : ∀ z, B1 z ≠ none → z ≠ (L 0 0) → z ≠ (L 4 0) → B1 z = B1 z := fun _ _ _ _ => rfl
          have fr_K0 : ∀ z, B1 z ≠ none → z ≠ (L 0 0) → z ≠ (L 4 0) → K0 z = B1 z := fun z h1 _ _ => frK z h1
          have dq0 : L 0 0 ≠ q_1 := fun e9 => (by have h9 := hE1.k0; rw [e9, nB] at h9; cases h9)
          have dq1 : L 4 0 ≠ q_1 := fun e9 => (by have h9 := hE1.k4; rw [e9, nB] at h9; cases h9)
          have dq2 : L 30 (cl x) ≠ q_1 := fun e9 => (by have h9 := hE1.k30 l2; rw [e9, nB] at h9; cases h9)
          have dq3 : L 33 (cl x) ≠ q_1 := fun e9 => (by have h9 := hE1.k33 l2; rw [e9, nB] at h9; cases h9)
          have dq4 : L 34 (cl x) ≠ q_1 := fun e9 => (by have h9 := hE1.k34 l2; rw [e9, nB] at h9; cases h9)
          refine pf_X6_175 X hw (fq) (Nat.le_of_ble_eq_true rfl) dX6_run_87 (fun H9 locs9 hw => ?_)
          obtain ⟨M_4, eM_4⟩ : ∃ z, z = mm_up K0 (q_1) (.inr (3, [.int x, .long arg, .int lim, .int (S 5 0), .int o.1])) := ⟨_, rfl⟩
          have hw : mm_W G.1 vwCl (ct_A M s.heap.size) s.heap M_4 H9 locs9 := by rw [eM_4]; exact hw
          have f0_M_4 : M_4 (L 0 0) = some (.inr (6, [.ref (L 1 0), .ref (L 2 0), .ref (L 3 0), .ref (L 4 0), .ref (L 10 0), .ref (L 5 0), .int (S 0 0), .int (S 7 0), .int (S 12 0), .int (S 18 0), .int (S 5 0), .int (S 24 0)])) := by rw [eM_4, mm_up_n _ _ (dq0)]; exact fe_0
          have f1_M_4 : M_4 (L 4 0) = some (aQ G 6 64 (rfs (cl (S 18 0)) (L 40))) := by rw [eM_4, mm_up_n _ _ (dq1)]; exact fe_1
          have f2_M_4 : M_4 (L 30 (cl x)) = some (.inr (1, [.ref (L 31 (cl x)), .ref (L 32 (cl x)), .ref (L 33 (cl x)), .ref (L 35 (cl x)), .int (S 14 ((cl x))), va_rf (kpt L (S 13 ((cl x))))])) := by rw [eM_4, mm_up_n _ _ (dq2)]; exact fe_2
          have f3_M_4 : M_4 (L 33 (cl x)) = some (.inr (0, [.ref (L 34 (cl x))])) := by rw [eM_4, mm_up_n _ _ (dq3)]; exact fe_3
          have f4_M_4 : M_4 (L 34 (cl x)) = some (aJ G 4 (trL 4 (fun j => o.2 (4 * (cl x) + j)))) := by rw [eM_4, mm_up_n _ _ (dq4)]; exact fe_4
          have f5_M_4 : M_4 (q_1) = some (.inr (3, [.int x, .long arg, .int lim, .int (S 5 0), .int o.1])) := by rw [eM_4]; exact mm_up_s _ _ _
          have fr_M_4 : ∀ z, B1 z ≠ none → z ≠ (L 0 0) → z ≠ (L 4 0) → M_4 z = B1 z := fun z h1 h2 h3 => ((congrFun eM_4 z).trans (mm_up_n _ _ (fun e9 => h1 (by rw [e9]; exact nB)))).trans (fr_K0 z h1 h2 h3)
          refine lv_aload_n hx hb dX6_run_90 rfl (lv_at hl 2 rfl) ?_
          refine lv_aload hx hb dX6_run_91 (lv_at hl 1 rfl) ?_
          refine gf_X6_167 X hw (f2_M_4) rfl dX6_run_93 ?_
          refine lv_aload_n hx hb dX6_run_96 rfl (lv_at hl 2 rfl) ?_
          refine gf_X6_63 X hw (f0_M_4) rfl dX6_run_97 ?_
          refine lv_aload hx hb dX6_run_100 (lv_at hl 0 rfl) ?_
          refine gf_X6_175 X hw (f5_M_4) rfl dX6_run_102 ?_
          refine mm_callV (As := [.int (S 24 0), .int o.1]) (rest := [.ref (L 0 0)]) X hw (c_digestBehind l G _ _ _ _ (S 24 0) o.1 f3_M_4 f4_M_4) (f3_M_4) rfl wd_X6_178 ⟨Nat.le_of_ble_eq_true rfl, Nat.le_of_ble_eq_true rfl⟩ ⟨Nat.le_of_ble_eq_true rfl, Nat.le_of_ble_eq_true rfl⟩ rfl rfl (Nat.le_of_ble_eq_true rfl) hl.1 dX6_run_105 (fun v9 M9 H9 locs9 hp9 hw => ?_)
          obtain ⟨rfl, rfl⟩ := hp9
          refine W.eq (g2 := F0 m 108 ls [.int (dg_go (trL 4 (fun j => o.2 (4 * (cl x) + j))) (31 * S 24 0 + o.1) 4), .ref (L 0 0)]) rfl ?_
          refine mm_eqI (y := dgs o.2 (cl x) (S 24 0) o.1) (dg_cong _ 4 (fun j hj => trL_at hj)) ?_
          refine pf_X6_63 X hw (f0_M_4) (Nat.le_of_ble_eq_true rfl) dX6_run_108 (fun H9 locs9 hw => ?_)
          obtain ⟨M_5, eM_5⟩ : ∃ z, z = mm_up M_4 (L 0 0) (.inr (6, [.ref (L 1 0), .ref (L 2 0), .ref (L 3 0), .ref (L 4 0), .ref (L 10 0), .ref (L 5 0), .int (S 0 0), .int (S 7 0), .int (S 12 0), .int (S 18 0), .int (S 5 0), .int (dgs o.2 (cl x) (S 24 0) o.1)])) := ⟨_, rfl⟩
          have hw : mm_W G.1 vwCl (ct_A M s.heap.size) s.heap M_5 H9 locs9 := by rw [eM_5]; exact hw
          have f0_M_5 : M_5 (L 0 0) = some (.inr (6, [.ref (L 1 0), .ref (L 2 0), .ref (L 3 0), .ref (L 4 0), .ref (L 10 0), .ref (L 5 0), .int (S 0 0), .int (S 7 0), .int (S 12 0), .int (S 18 0), .int (S 5 0), .int (dgs o.2 (cl x) (S 24 0) o.1)])) := by rw [eM_5]; exact mm_up_s _ _ _
          have f1_M_5 : M_5 (L 4 0) = some (aQ G 6 64 (rfs (cl (S 18 0)) (L 40))) := by rw [eM_5, mm_up_n _ _ (Ne.symm (ap_0))]; exact f1_M_4
          have f2_M_5 : M_5 (q_1) = some (.inr (3, [.int x, .long arg, .int lim, .int (S 5 0), .int o.1])) := by rw [eM_5, mm_up_n _ _ (Ne.symm (dq0))]; exact f5_M_4
          have fr_M_5 : ∀ z, B1 z ≠ none → z ≠ (L 0 0) → z ≠ (L 4 0) → M_5 z = B1 z := fun z h1 h2 h3 => ((congrFun eM_5 z).trans (mm_up_n _ _ (h2))).trans (fr_M_4 z h1 h2 h3)
          refine lv_aload_n hx hb dX6_run_111 rfl (lv_at hl 2 rfl) ?_
          refine gf_X6_29 X hw (f0_M_5) rfl dX6_run_112 ?_
          refine lv_aload_n hx hb dX6_run_115 rfl (lv_at hl 2 rfl) ?_
          refine gf_X6_57 X hw (f0_M_5) rfl dX6_run_116 ?_
          refine lv_aload hx hb dX6_run_119 (lv_at hl 0 rfl) ?_
          refine mi_aast X hw 6 3 (f1_M_5) rfl (f2_M_5) rfl (nl) (hN18) (by omega) (by decide) dX6_run_121 (fun H9 locs9 hw => ?_)
          obtain ⟨M_6, eM_6⟩ : ∃ z, z = mm_up M_5 (L 4 0) (aQ G 6 64 (va_up (rfs (cl (S 18 0)) (L 40)) (nl) (some (q_1)))) := ⟨_, rfl⟩
          have hw : mm_W G.1 vwCl (ct_A M s.heap.size) s.heap M_6 H9 locs9 := by rw [eM_6]; exact hw
          have f0_M_6 : M_6 (L 0 0) = some (.inr (6, [.ref (L 1 0), .ref (L 2 0), .ref (L 3 0), .ref (L 4 0), .ref (L 10 0), .ref (L 5 0), .int (S 0 0), .int (S 7 0), .int (S 12 0), .int (S 18 0), .int (S 5 0), .int (dgs o.2 (cl x) (S 24 0) o.1)])) := by rw [eM_6, mm_up_n _ _ (ap_0)]; exact f0_M_5
          have f1_M_6 : M_6 (L 4 0) = some (aQ G 6 64 (va_up (rfs (cl (S 18 0)) (L 40)) (nl) (some (q_1)))) := by rw [eM_6]; exact mm_up_s _ _ _
          have f2_M_6 : M_6 (q_1) = some (.inr (3, [.int x, .long arg, .int lim, .int (S 5 0), .int o.1])) := by rw [eM_6, mm_up_n _ _ (Ne.symm (dq1))]; exact f2_M_5
          have fr_M_6 : ∀ z, B1 z ≠ none → z ≠ (L 0 0) → z ≠ (L 4 0) → M_6 z = B1 z := fun z h1 h2 h3 => ((congrFun eM_6 z).trans (mm_up_n _ _ (h3))).trans (fr_M_5 z h1 h2 h3)
          refine lv_aload_n hx hb dX6_run_122 rfl (lv_at hl 2 rfl) ?_
          refine lv_dup hx hb dX6_run_123 rfl ?_
          refine gf_X6_57 X hw (f0_M_6) rfl dX6_run_124 ?_
          refine lv_iconst (v := 1) hx hb dX6_run_127 (by decide) ?_
          refine lv_iadd hx hb dX6_run_128 ?_
          refine pf_X6_57 X hw (f0_M_6) (Nat.le_of_ble_eq_true rfl) dX6_run_129 (fun H9 locs9 hw => ?_)
          obtain ⟨M_7, eM_7⟩ : ∃ z, z = mm_up M_6 (L 0 0) (.inr (6, [.ref (L 1 0), .ref (L 2 0), .ref (L 3 0), .ref (L 4 0), .ref (L 10 0), .ref (L 5 0), .int (S 0 0), .int (S 7 0), .int (S 12 0), .int ((S 18 0) + 1), .int (S 5 0), .int (dgs o.2 (cl x) (S 24 0) o.1)])) := ⟨_, rfl⟩
          have hw : mm_W G.1 vwCl (ct_A M s.heap.size) s.heap M_7 H9 locs9 := by rw [eM_7]; exact hw
          have f0_M_7 : M_7 (L 0 0) = some (.inr (6, [.ref (L 1 0), .ref (L 2 0), .ref (L 3 0), .ref (L 4 0), .ref (L 10 0), .ref (L 5 0), .int (S 0 0), .int (S 7 0), .int (S 12 0), .int ((S 18 0) + 1), .int (S 5 0), .int (dgs o.2 (cl x) (S 24 0) o.1)])) := by rw [eM_7]; exact mm_up_s _ _ _
          have f1_M_7 : M_7 (L 4 0) = some (aQ G 6 64 (va_up (rfs (cl (S 18 0)) (L 40)) (nl) (some (q_1)))) := by rw [eM_7, mm_up_n _ _ (Ne.symm (ap_0))]; exact f1_M_6
          have f2_M_7 : M_7 (q_1) = some (.inr (3, [.int x, .long arg, .int lim, .int (S 5 0), .int o.1])) := by rw [eM_7, mm_up_n _ _ (Ne.symm (dq0))]; exact f2_M_6
          have fr_M_7 : ∀ z, B1 z ≠ none → z ≠ (L 0 0) → z ≠ (L 4 0) → M_7 z = B1 z := fun z h1 h2 h3 => ((congrFun eM_7 z).trans (mm_up_n _ _ (h2))).trans (fr_M_6 z h1 h2 h3)
          refine lv_aload hx hb dX6_run_132 (lv_at hl 0 rfl) ?_
          refine gf_X6_175 X hw (f2_M_7) rfl dX6_run_134 ?_
          exact mm_iret hQ X hw (by rw [sp_run, if_neg (fun h9 => h9 c2), if_neg (fun h9 => h9 c14), if_neg k25, if_neg hne, ho, h18b]; exact ⟨rfl, va_up L 40 (va_up (L 40) nl q_1), J1, rfl, hJ1.1, hE1.newL hN18 hlt (cs2 := cs) (J2 := J) x arg lim (S 5 0) o.1 (dgs o.2 (cl x) (S 24 0) o.1) nB f0_M_7 (by have h9 := f1_M_7; rw [h18b] at h9; exact h9) f2_M_7 fr_M_7⟩) (Nat.le_of_ble_eq_true rfl) (Nat.le_of_ble_eq_true rfl) dX6_run_137
        · have hfull : S 18 0 = 64 := by rw [hN18, nn_eq (N := 64) hN18 (by omega) (by decide) c37]; rfl
          refine lv_bipush (v := (-4)) hx hb dX6_run_40 (by decide) ?_
          exact mm_iret hQ X hw (by have e9 : sp_run S cs ar x arg lim = ((-4), S, cs, ar) := (by rw [sp_run, if_neg (fun h9 => h9 c2), if_neg (fun h9 => h9 c14), if_neg k25, if_pos hfull]); rw [e9]; exact ⟨rfl, L, J, rfl, rfl, hE⟩) (Nat.le_of_ble_eq_true rfl) (Nat.le_of_ble_eq_true rfl) dX6_run_42
      · refine mm_rfN (kpt_n L (Decidable.byContradiction k25)) ?_
        refine lv_ifnonnullN hx hb dX6_run_25 ?_
        refine lv_bipush (v := (-3)) hx hb dX6_run_28 (by decide) ?_
        exact mm_iret hQ X hw (by have e9 : sp_run S cs ar x arg lim = ((-3), S, cs, ar) := (by rw [sp_run, if_neg (fun h9 => h9 c2), if_neg (fun h9 => h9 c14), if_pos (Decidable.byContradiction k25)]); rw [e9]; exact ⟨rfl, L, J, rfl, rfl, hE⟩) (Nat.le_of_ble_eq_true rfl) (Nat.le_of_ble_eq_true rfl) dX6_run_30
    · refine lv_bipush (v := (-2)) hx hb dX6_run_17 (by decide) ?_
      exact mm_iret hQ X hw (by have e9 : sp_run S cs ar x arg lim = ((-2), S, cs, ar) := (by rw [sp_run, if_neg (fun h9 => h9 c2), if_pos c14]); rw [e9]; exact ⟨rfl, L, J, rfl, rfl, hE⟩) (Nat.le_of_ble_eq_true rfl) (Nat.le_of_ble_eq_true rfl) dX6_run_19
  · refine mm_rfN (atR_n c2) ?_
    refine lv_astoreN (lv' := [(5, .null), (0, .ref (L 0 0)), (1, .int x), (2, .long arg), (4, .int lim)]) hx hb dX6_run_5 hl (by decide) rfl (fun ls hl => ?_)
    refine lv_aloadN hx hb dX6_run_7 (lv_at hl 0 rfl) ?_
    refine lv_ifnullN (tgt := 17) hx hb dX6_run_9 (by decide) ?_
    refine lv_bipush (v := (-2)) hx hb dX6_run_17 (by decide) ?_
    exact mm_iret hQ X hw (by have e9 : sp_run S cs ar x arg lim = ((-2), S, cs, ar) := (by rw [sp_run, if_pos c2]); rw [e9]; exact ⟨rfl, L, J, rfl, rfl, hE⟩) (Nat.le_of_ble_eq_true rfl) (Nat.le_of_ble_eq_true rfl) dX6_run_19
