set_option maxHeartbeats 4000000 in
set_option maxRecDepth 100000 in
theorem m_run (l : Launch) (G : mG) (M : mM) (g : Nat) (L : Nat → Nat) (S : sS) (cs ar : Nat → Int64) (K : Nat → Nat → Int64) (hR : RV G g L S cs ar K M) (ne nn nc nl ht : Nat) (hN : NM S ne nn nc nl ht) (hW : WK S ne nc) (hF : WH S ne ht) (x : Int32) (arg : Int64) (lim : Int32) : Ct l yX7_run cX7_run 6 (some FieldType.int) (mm_r 3 0 0) G [.ref g, .int x, .long arg, .int lim] M (fun r M1 => r = some (.int (sp_run S cs ar x arg lim).1) ∧ ∃ K1, RV G g L (sp_run S cs ar x arg lim).2.1 (sp_run S cs ar x arg lim).2.2.1 (sp_run S cs ar x arg lim).2.2.2 K1 M1) := by
  refine Ct.of (by decide) (Nat.le_of_ble_eq_true rfl) ?_
  intro p e s m args below meth c ls Q X hin hl hw hQ
  have hx := X.1
  have hb := X.2.1
  have hl : lv_has ls 6 [(0, .ref g), (1, .int x), (2, .long arg), (4, .int lim)] := hl
  obtain ⟨hN0, hN1, hN2, hN7, hN8, hN12, hN13, hN18, hN19, hN5, hN6⟩ := id hN
  have h5b : cl (S 5 0) = ht := by rw [hN5, cl_n (by omega)]
  have h5c : S 5 0 = nI (cl (S 5 0)) := by rw [hN5, cl_n (by omega)]
  have h18b : cl (S 18 0) = nl := by rw [hN18, cl_n (by omega)]
  have h18c : S 18 0 = nI (cl (S 18 0)) := by rw [hN18, cl_n (by omega)]
  obtain ⟨e0, he0, ef⟩ := hF ht (Nat.le_refl _)
  have pe : 0 ≤ S 6 (cl (S 5 0)) := by rw [h5b, ef]; exact nI_pos' (by omega)
  have be : cl (S 6 (cl (S 5 0))) = e0 := by rw [h5b, ef, cl_n (by omega)]
  refine lv_aload_n hx hb dX7_run_0 rfl (lv_at hl 0 rfl) ?_
  refine lv_iload_n hx hb dX7_run_1 rfl (lv_at hl 1 rfl) ?_
  refine mm_callV (As := [.int x]) (rest := []) X hw (m_isContract l G _ g L _ cs ar K hR (x) nc hN12 (by omega)) (hR.1) rfl wd_X7_109 ⟨Nat.le_of_ble_eq_true rfl, Nat.le_of_ble_eq_true rfl⟩ ⟨Nat.le_of_ble_eq_true rfl, Nat.le_of_ble_eq_true rfl⟩ rfl rfl (Nat.le_of_ble_eq_true rfl) hl.1 dX7_run_2 (fun v9 M9 H9 locs9 hp9 hw => ?_)
  obtain ⟨rfl, rfl⟩ := hp9
  refine W.eq (g2 := F0 m 5 ls [.int (bI (0 ≤ x ∧ x < S 12 0))]) rfl ?_
  refine mm_ifeqB (tgt := 13) hx hb dX7_run_5 (by decide) (fun c5 => ?_) (fun c5 => ?_)
  · refine lv_bipush (v := (-2)) hx hb dX7_run_13 (by decide) ?_
    exact mm_iret hQ X hw (by have e9 : sp_run S cs ar x arg lim = ((-2), S, cs, ar) := (by rw [sp_run, if_pos c5]); rw [e9]; exact ⟨rfl, _, hR⟩) (Nat.le_of_ble_eq_true rfl) (Nat.le_of_ble_eq_true rfl) dX7_run_15
  · have b_x : cl x < nc := cl_lt hN12 (by omega) c5
    obtain ⟨j14, hj14, e14, hA, hK⟩ := hW (cl x) b_x
    have p14 : 0 ≤ S 14 (cl x) := by rw [e14]; exact nI_pos' (by omega)
    have b14 : cl (S 14 (cl x)) = j14 := by rw [e14, cl_n (by omega)]
    refine lv_iload hx hb dX7_run_8 (lv_at hl 3 rfl) ?_
    refine lv_if_ge (tgt := 16) hx hb dX7_run_10 (by decide) (fun c10 => ?_) (fun c10 => ?_)
    · refine lv_aload_n hx hb dX7_run_16 rfl (lv_at hl 0 rfl) ?_
      refine rg_42 X hw hR dX7_run_17 ?_
      refine lv_iload_n hx hb dX7_run_20 rfl (lv_at hl 1 rfl) ?_
      refine ri_iald X hw hR 13 rfl (cl x) (nI_cl c5.1) (by omega) dX7_run_21 ?_
      refine lv_iconst (v := (-1)) hx hb dX7_run_22 (by decide) ?_
      refine lv_icmp_ne (tgt := 29) hx hb dX7_run_23 (by decide) (fun c23 => ?_) (fun c23 => ?_)
      · obtain ⟨k0, hk0, e13, hV⟩ := hK.resolve_left c23
        have p13 : 0 ≤ S 13 (cl x) := by rw [e13]; exact nI_pos' (by omega)
        have b13 : cl (S 13 (cl x)) = k0 := by rw [e13, cl_n (by omega)]
        refine lv_aload_n hx hb dX7_run_29 rfl (lv_at hl 0 rfl) ?_
        refine rg_126 X hw hR dX7_run_30 ?_
        refine lv_bipush (v := 64) hx hb dX7_run_33 (by decide) ?_
        refine lv_icmp_ne (tgt := 41) hx hb dX7_run_35 (by decide) (fun c35 => ?_) (fun c35 => ?_)
        · have q18 : nl ≠ 64 := fun h9 => c35 (by rw [hN18, h9]; rfl)
          refine lv_aload_n hx hb dX7_run_41 rfl (lv_at hl 0 rfl) ?_
          refine lv_iload_n hx hb dX7_run_42 rfl (lv_at hl 1 rfl) ?_
          refine mm_eqI (y := nI (cl x)) (nI_cl c5.1) ?_
          refine lv_lload_n hx hb dX7_run_43 rfl (lv_at hl 2 rfl) ?_
          refine lv_iload hx hb dX7_run_44 (lv_at hl 3 rfl) ?_
          refine lv_aload_n hx hb dX7_run_46 rfl (lv_at hl 0 rfl) ?_
          refine rg_26 X hw hR dX7_run_47 ?_
          refine lv_aload_n hx hb dX7_run_50 rfl (lv_at hl 0 rfl) ?_
          refine rg_99 X hw hR dX7_run_51 ?_
          refine ri_iald X hw hR 6 rfl (cl (S 5 0)) (h5c) (by omega) dX7_run_54 ?_
          refine mm_eqI (y := nI (cl (S 6 (cl (S 5 0))))) (nI_cl pe) ?_
          refine mm_callV (As := [.int (nI (cl x)), .long arg, .int lim, .int (nI (cl (S 6 (cl (S 5 0)))))]) (rest := []) X hw (m_runs l G _ g L S cs ar K hR (cl x) (cl (S 14 (cl x))) (cl (S 6 (cl (S 5 0)))) (cl (S 13 (cl x))) (by omega) (by omega) (nI_cl p14) (by rw [b14]; exact hA) (by omega) (by omega) (nI_cl p13) (by rw [b14]; exact hV) arg lim) (hR.1) rfl wd_X7_129 ⟨Nat.le_of_ble_eq_true rfl, Nat.le_of_ble_eq_true rfl⟩ ⟨Nat.le_of_ble_eq_true rfl, Nat.le_of_ble_eq_true rfl⟩ rfl rfl (Nat.le_of_ble_eq_true rfl) hl.1 dX7_run_55 (fun v9 M9 H9 locs9 hp9 hw => ?_)
          obtain ⟨rfl, K1, h27, hR⟩ := hp9
          refine W.eq (g2 := F0 m 58 ls [.int ((rn S cs (cl x) (cl (S 6 (cl (S 5 0)))) (cl (S 13 (cl x))) (cl (S 14 (cl x))) arg lim).1)]) rfl ?_
          generalize ho : rn S cs (cl x) (cl (S 6 (cl (S 5 0)))) (cl (S 13 (cl x))) (cl (S 14 (cl x))) arg lim = o at hR ⊢
          refine lv_istore (lv' := [(5, .int o.1), (0, .ref g), (1, .int x), (2, .long arg), (4, .int lim)]) hx hb dX7_run_58 hl (by decide) rfl (fun ls hl => ?_)
          refine lv_aload_n hx hb dX7_run_60 rfl (lv_at hl 1 rfl) ?_
          refine rg_58 X hw hR dX7_run_61 ?_
          refine lv_aload_n hx hb dX7_run_64 rfl (lv_at hl 1 rfl) ?_
          refine rg_126 X hw hR dX7_run_65 ?_
          refine lv_iload_n hx hb dX7_run_68 rfl (lv_at hl 2 rfl) ?_
          refine ri_iast X hw hR 19 rfl (cl (S 18 0)) (h18c) (by omega) dX7_run_69 (fun M9 H9 locs9 hw hR => ?_)
          refine lv_aload_n hx hb dX7_run_70 rfl (lv_at hl 1 rfl) ?_
          refine rg_61 X hw hR dX7_run_71 ?_
          refine W.eq (g2 := F0 m 74 ls [.ref (L 20)]) rfl ?_
          refine lv_aload_n hx hb dX7_run_74 rfl (lv_at hl 1 rfl) ?_
          refine rg_126 X hw hR dX7_run_75 ?_
          refine W.eq (g2 := F0 m 78 ls [.int (S 18 0), .ref (L 20)]) rfl ?_
          refine lv_aload_n hx hb dX7_run_78 rfl (lv_at hl 1 rfl) ?_
          refine rg_99 X hw hR dX7_run_79 ?_
          refine W.eq (g2 := F0 m 82 ls [.int (S 5 0), .int (S 18 0), .ref (L 20)]) rfl ?_
          refine ri_iast X hw hR 20 rfl (cl (S 18 0)) (h18c) (by omega) dX7_run_82 (fun M9 H9 locs9 hw hR => ?_)
          have hR : RV G g L (va_up (va_up S 19 (upd (S 19) (cl (S 18 0)) (x))) 20 (upd (S 20) (cl (S 18 0)) (S 5 0))) o.2 ar K1 M9 := hR
          refine lv_aload_n hx hb dX7_run_83 rfl (lv_at hl 1 rfl) ?_
          refine rg_64 X hw hR dX7_run_84 ?_
          refine W.eq (g2 := F0 m 87 ls [.ref (L 21)]) rfl ?_
          refine lv_aload_n hx hb dX7_run_87 rfl (lv_at hl 1 rfl) ?_
          refine rg_126 X hw hR dX7_run_88 ?_
          refine W.eq (g2 := F0 m 91 ls [.int (S 18 0), .ref (L 21)]) rfl ?_
          refine lv_lload_n hx hb dX7_run_91 rfl (lv_at hl 3 rfl) ?_
          refine ra_last X hw hR (cl (S 18 0)) (h18c) (by omega) dX7_run_92 (fun M9 H9 locs9 hw hR => ?_)
          refine lv_aload_n hx hb dX7_run_93 rfl (lv_at hl 1 rfl) ?_
          refine rg_67 X hw hR dX7_run_94 ?_
          refine W.eq (g2 := F0 m 97 ls [.ref (L 22)]) rfl ?_
          refine lv_aload_n hx hb dX7_run_97 rfl (lv_at hl 1 rfl) ?_
          refine rg_126 X hw hR dX7_run_98 ?_
          refine W.eq (g2 := F0 m 101 ls [.int (S 18 0), .ref (L 22)]) rfl ?_
          refine lv_iload hx hb dX7_run_101 (lv_at hl 4 rfl) ?_
          refine ri_iast X hw hR 22 rfl (cl (S 18 0)) (h18c) (by omega) dX7_run_103 (fun M9 H9 locs9 hw hR => ?_)
          have hR : RV G g L (va_up (va_up (va_up S 19 (upd (S 19) (cl (S 18 0)) (x))) 20 (upd (S 20) (cl (S 18 0)) (S 5 0))) 22 (upd (S 22) (cl (S 18 0)) (lim))) o.2 ((vp_updL ar (cl (S 18 0)) (arg))) K1 M9 := hR
          refine lv_aload_n hx hb dX7_run_104 rfl (lv_at hl 1 rfl) ?_
          refine rg_70 X hw hR dX7_run_105 ?_
          refine W.eq (g2 := F0 m 108 ls [.ref (L 23)]) rfl ?_
          refine lv_aload_n hx hb dX7_run_108 rfl (lv_at hl 1 rfl) ?_
          refine rg_126 X hw hR dX7_run_109 ?_
          refine W.eq (g2 := F0 m 112 ls [.int (S 18 0), .ref (L 23)]) rfl ?_
          refine lv_iload hx hb dX7_run_112 (lv_at hl 0 rfl) ?_
          refine ri_iast X hw hR 23 rfl (cl (S 18 0)) (h18c) (by omega) dX7_run_114 (fun M9 H9 locs9 hw hR => ?_)
          have hR : RV G g L (va_up (va_up (va_up (va_up S 19 (upd (S 19) (cl (S 18 0)) (x))) 20 (upd (S 20) (cl (S 18 0)) (S 5 0))) 22 (upd (S 22) (cl (S 18 0)) (lim))) 23 (upd (S 23) (cl (S 18 0)) (o.1))) o.2 ((vp_updL ar (cl (S 18 0)) (arg))) K1 M9 := hR
          refine lv_aload_n hx hb dX7_run_115 rfl (lv_at hl 1 rfl) ?_
          refine lv_dup hx hb dX7_run_116 rfl ?_
          refine rg_126 X hw hR dX7_run_117 ?_
          refine W.eq (g2 := F0 m 120 ls [.int (S 18 0), .ref g]) rfl ?_
          refine lv_iconst (v := 1) hx hb dX7_run_120 (by decide) ?_
          refine lv_iadd hx hb dX7_run_121 ?_
          refine rp_126 X hw hR dX7_run_122 (fun M9 H9 locs9 hw hR => ?_)
          have hR : RV G g L (va_up (va_up (va_up (va_up (va_up S 19 (upd (S 19) (cl (S 18 0)) (x))) 20 (upd (S 20) (cl (S 18 0)) (S 5 0))) 22 (upd (S 22) (cl (S 18 0)) (lim))) 23 (upd (S 23) (cl (S 18 0)) (o.1))) 18 (fun _ => (S 18 0) + 1)) o.2 ((vp_updL ar (cl (S 18 0)) (arg))) K1 M9 := hR
          refine lv_aload_n hx hb dX7_run_125 rfl (lv_at hl 1 rfl) ?_
          refine lv_aload_n hx hb dX7_run_126 rfl (lv_at hl 1 rfl) ?_
          refine lv_aload_n hx hb dX7_run_127 rfl (lv_at hl 1 rfl) ?_
          refine rg_133 X hw hR dX7_run_128 ?_
          refine W.eq (g2 := F0 m 131 ls [.int (S 24 0), .ref g, .ref g]) rfl ?_
          refine lv_iload hx hb dX7_run_131 (lv_at hl 0 rfl) ?_
          refine lv_iload_n hx hb dX7_run_133 rfl (lv_at hl 2 rfl) ?_
          refine mm_eqI (y := nI (cl x)) (nI_cl c5.1) ?_
          refine mm_callV (As := [.int (S 24 0), .int o.1, .int (nI (cl x))]) (rest := [.ref g]) X hw (m_digested l G _ g L _ _ _ _ hR (S 24 0) (o.1) (cl x) (by omega)) (hR.1) rfl wd_X7_136 ⟨Nat.le_of_ble_eq_true rfl, Nat.le_of_ble_eq_true rfl⟩ ⟨Nat.le_of_ble_eq_true rfl, Nat.le_of_ble_eq_true rfl⟩ rfl rfl (Nat.le_of_ble_eq_true rfl) hl.1 dX7_run_134 (fun v9 M9 H9 locs9 hp9 hw => ?_)
          obtain ⟨rfl, rfl⟩ := hp9
          refine W.eq (g2 := F0 m 137 ls [.int (dgs o.2 (cl x) (S 24 0) (o.1)), .ref g]) rfl ?_
          refine rp_133 X hw hR dX7_run_137 (fun M9 H9 locs9 hw hR => ?_)
          have hR : RV G g L (va_up (va_up (va_up (va_up (va_up (va_up S 19 (upd (S 19) (cl (S 18 0)) (x))) 20 (upd (S 20) (cl (S 18 0)) (S 5 0))) 22 (upd (S 22) (cl (S 18 0)) (lim))) 23 (upd (S 23) (cl (S 18 0)) (o.1))) 18 (fun _ => (S 18 0) + 1)) 24 (fun _ => dgs o.2 (cl x) (S 24 0) (o.1))) o.2 ((vp_updL ar (cl (S 18 0)) (arg))) K1 M9 := hR
          refine lv_iload hx hb dX7_run_140 (lv_at hl 0 rfl) ?_
          exact mm_iret hQ X hw (by have e8 : rnx S cs x arg lim = o := ho; have e9 : sp_run S cs ar x arg lim = (o.1, va_up (va_up (va_up (va_up (va_up (va_up S 19 (upd (S 19) (cl (S 18 0)) (x))) 20 (upd (S 20) (cl (S 18 0)) (S 5 0))) 22 (upd (S 22) (cl (S 18 0)) (lim))) 23 (upd (S 23) (cl (S 18 0)) (o.1))) 18 (fun _ => (S 18 0) + 1)) 24 (fun _ => dgs o.2 (cl x) (S 24 0) (o.1)), o.2, (vp_updL ar (cl (S 18 0)) (arg))) := (by rw [sp_run, if_neg (fun h9 => h9 c5), if_neg (fun h9 => h9 c10), if_neg c23, if_neg c35, e8]); rw [e9]; exact ⟨rfl, _, hR⟩) (Nat.le_of_ble_eq_true rfl) (Nat.le_of_ble_eq_true rfl) dX7_run_142
        · refine lv_bipush (v := (-4)) hx hb dX7_run_38 (by decide) ?_
          exact mm_iret hQ X hw (by have e9 : sp_run S cs ar x arg lim = ((-4), S, cs, ar) := (by rw [sp_run, if_neg (fun h9 => h9 c5), if_neg (fun h9 => h9 c10), if_neg c23, if_pos c35]); rw [e9]; exact ⟨rfl, _, hR⟩) (Nat.le_of_ble_eq_true rfl) (Nat.le_of_ble_eq_true rfl) dX7_run_40
      · refine lv_bipush (v := (-3)) hx hb dX7_run_26 (by decide) ?_
        exact mm_iret hQ X hw (by have e9 : sp_run S cs ar x arg lim = ((-3), S, cs, ar) := (by rw [sp_run, if_neg (fun h9 => h9 c5), if_neg (fun h9 => h9 c10), if_pos c23]); rw [e9]; exact ⟨rfl, _, hR⟩) (Nat.le_of_ble_eq_true rfl) (Nat.le_of_ble_eq_true rfl) dX7_run_28
    · refine lv_bipush (v := (-2)) hx hb dX7_run_13 (by decide) ?_
      exact mm_iret hQ X hw (by have e9 : sp_run S cs ar x arg lim = ((-2), S, cs, ar) := (by rw [sp_run, if_neg (fun h9 => h9 c5), if_pos c10]); rw [e9]; exact ⟨rfl, _, hR⟩) (Nat.le_of_ble_eq_true rfl) (Nat.le_of_ble_eq_true rfl) dX7_run_15
set_option maxHeartbeats 4000000 in
set_option maxRecDepth 100000 in
theorem m_replay (l : Launch) (G : mG) (M : mM) (g : Nat) (L : Nat → Nat) (S : sS) (cs ar : Nat → Int64) (K : Nat → Nat → Int64) (hR : RV G g L S cs ar K M) (ne nn nc nl ht : Nat) (hN : NM S ne nn nc nl ht) (hW : WK S ne nc) (hF : WH S ne ht) (hG : WL S nc nl ht) (x : Int32) : Ct l yX7_replay cX7_replay 6 (some FieldType.int) (mm_r 3 0 0) G [.ref g, .int x] M (fun r M1 => r = some (.int (sp_replay S ar x)) ∧ ∃ K1, RV G g L S cs ar K1 M1) := by
  refine Ct.of (by decide) (Nat.le_of_ble_eq_true rfl) ?_
  intro p e s m args below meth c ls Q X hin hl hw hQ
  have hx := X.1
  have hb := X.2.1
  have hl : lv_has ls 6 [(0, .ref g), (1, .int x)] := hl
  obtain ⟨hN0, hN1, hN2, hN7, hN8, hN12, hN13, hN18, hN19, hN5, hN6⟩ := id hN
  refine lv_iload_n hx hb dX7_replay_0 rfl (lv_at hl 1 rfl) ?_
  refine lv_iconst (v := 0) hx hb dX7_replay_1 (by decide) ?_
  refine lv_aload_n hx hb dX7_replay_2 rfl (lv_at hl 0 rfl) ?_
  refine rg_126 X hw hR dX7_replay_3 ?_
  refine mm_callS (As := [.int x, .int 0, .int (S 18 0)]) (rest := []) X hw (m_in l G _ (x) (0) (S 18 0)) wd_X7_82 ⟨Nat.le_of_ble_eq_true rfl, Nat.le_of_ble_eq_true rfl⟩ ⟨Nat.le_of_ble_eq_true rfl, Nat.le_of_ble_eq_true rfl⟩ rfl rfl (Nat.le_of_ble_eq_true rfl) hl.1 dX7_replay_6 (fun v9 M9 H9 locs9 hp9 hw => ?_)
  obtain ⟨rfl, rfl⟩ := hp9
  refine W.eq (g2 := F0 m 9 ls [.int (bI (0 ≤ x ∧ x ≤ (S 18 0)))]) rfl ?_
  refine mm_ifneB (tgt := 14) hx hb dX7_replay_9 (by decide) (fun c9 => ?_) (fun c9 => ?_)
  · have b_x : cl x ≤ nl := cl_le hN18 (by omega) c9
    refine lv_iconst (v := 0) hx hb dX7_replay_14 (by decide) ?_
    refine lv_istore_n (lv' := [(2, .int 0), (0, .ref g), (1, .int x)]) hx hb dX7_replay_15 rfl hl (by decide) rfl (fun ls hl => ?_)
    have loop1 : ∀ (n : Nat) (k : Nat) (K1 : Nat → Nat → Int64) (M1 : mM) (H1 : Heap) (locs1 : List Loc) (ls1 : Array Slot), (hk : k ≤ 48) → (hn : 49 ≤ k + n) → (hs : ∀ j, j < k → K1 27 j = cs j) → mm_W G.1 vwCl (ct_A M s.heap.size) s.heap M1 H1 locs1 → RV G g L S (z48 cs k) ar K1 M1 → lv_has ls1 6 [(0, .ref g), (1, .int x), (2, .int (nI k))] → W p l e (mm_r 3 0 0) s m args below meth c H1 locs1 0 0 Q (F0 m 16 ls1 []) := by
      intro n
      induction n with
      | zero => intro k K1 M1 H1 locs1 ls hk hn hs hw hR hl; exact absurd hn (by omega)
      | succ n ih =>
        intro k K1 M1 H1 locs1 ls hk hn hs hw hR hl
        refine lv_iload_n hx hb dX7_replay_16 rfl (lv_at hl 2 rfl) ?_
        refine lv_bipush (v := 48) hx hb dX7_replay_17 (by decide) ?_
        refine lv_icmp_ge (tgt := 47) hx hb dX7_replay_19 (by decide) (fun c19 => ?_) (fun c19 => ?_)
        · have hk9 : k = 48 := by have := nle (a := 48) (by decide) (by omega) c19; omega
          obtain ⟨M2, hw, hR⟩ := hR.congC (c' := fun _ => 0) hw (fun j hj => by rw [hk9]; unfold z48; rw [if_pos hj])
          refine lv_iconst (v := 0) hx hb dX7_replay_47 (by decide) ?_
          refine lv_istore_n (lv' := [(2, .int 0), (0, .ref g), (1, .int x)]) hx hb dX7_replay_48 rfl hl (by decide) rfl (fun ls hl => ?_)
          refine lv_iconst (v := 0) hx hb dX7_replay_49 (by decide) ?_
          refine lv_istore_n (lv' := [(3, .int 0), (2, .int 0), (0, .ref g), (1, .int x)]) hx hb dX7_replay_50 rfl hl (by decide) rfl (fun ls hl => ?_)
          have loop2 : ∀ (n : Nat) (k : Nat) (d : Int32) (cz : Nat → Int64) (K1 : Nat → Nat → Int64) (M1 : mM) (H1 : Heap) (locs1 : List Loc) (ls1 : Array Slot), (hk : k ≤ cl x) → (hn : cl x + 1 ≤ k + n) → (hs : ∀ j, j < 48 → K1 27 j = cs j) → (hd1 : d = (rp_go S ar k).1) → (hd2 : cz = (rp_go S ar k).2) → mm_W G.1 vwCl (ct_A M s.heap.size) s.heap M1 H1 locs1 → RV G g L S cz ar K1 M1 → lv_has ls1 6 [(0, .ref g), (1, .int x), (2, .int d), (3, .int (nI k))] → W p l e (mm_r 3 0 0) s m args below meth c H1 locs1 0 0 Q (F0 m 51 ls1 []) := by
            intro n
            induction n with
            | zero => intro k d cz K1 M1 H1 locs1 ls hk hn hs hd1 hd2 hw hR hl; exact absurd hn (by omega)
            | succ n ih =>
              intro k d cz K1 M1 H1 locs1 ls hk hn hs hd1 hd2 hw hR hl
              refine lv_iload_n hx hb dX7_replay_51 rfl (lv_at hl 3 rfl) ?_
              refine lv_iload_n hx hb dX7_replay_52 rfl (lv_at hl 1 rfl) ?_
              refine lv_icmp_ge (tgt := 111) hx hb dX7_replay_53 (by decide) (fun c53 => ?_) (fun c53 => ?_)
              · have hi9 : k = cl x := by rw [nI_cl c9.1] at c53; have := nle (by omega) (by omega) c53; omega
                refine lv_iconst (v := 0) hx hb dX7_replay_111 (by decide) ?_
                refine lv_istore_n (lv' := [(3, .int 0), (0, .ref g), (1, .int x), (2, .int d)]) hx hb dX7_replay_112 rfl hl (by decide) rfl (fun ls hl => ?_)
                have hz : d = (rp_go S ar (cl x)).1 := by rw [hd1, hi9]
                have loop3 : ∀ (n : Nat) (k : Nat) (M1 : mM) (H1 : Heap) (locs1 : List Loc) (ls1 : Array Slot), (hk : k ≤ 48) → (hn : 49 ≤ k + n) → mm_W G.1 vwCl (ct_A M s.heap.size) s.heap M1 H1 locs1 → RV G g L S (r48 (K1 27) cz k) ar K1 M1 → lv_has ls1 6 [(0, .ref g), (2, .int d), (3, .int (nI k))] → W p l e (mm_r 3 0 0) s m args below meth c H1 locs1 0 0 Q (F0 m 113 ls1 []) := by
                  intro n
                  induction n with
                  | zero => intro k M1 H1 locs1 ls hk hn hw hR hl; exact absurd hn (by omega)
                  | succ n ih =>
                    intro k M1 H1 locs1 ls hk hn hw hR hl
                    refine lv_iload_n hx hb dX7_replay_113 rfl (lv_at hl 2 rfl) ?_
                    refine lv_bipush (v := 48) hx hb dX7_replay_114 (by decide) ?_
                    refine lv_icmp_ge (tgt := 137) hx hb dX7_replay_116 (by decide) (fun c116 => ?_) (fun c116 => ?_)
                    · have hk9 : k = 48 := by have := nle (a := 48) (by decide) (by omega) c116; omega
                      obtain ⟨M2, hw, hR⟩ := hR.congC (c' := cs) hw (fun j hj => by rw [hk9]; unfold r48; rw [if_pos hj]; exact hs j hj)
                      refine lv_iload_n hx hb dX7_replay_137 rfl (lv_at hl 1 rfl) ?_
                      exact mm_iret hQ X hw (⟨by rw [sp_replay, if_neg (fun h9 => h9 c9), hz], _, hR⟩) (Nat.le_of_ble_eq_true rfl) (Nat.le_of_ble_eq_true rfl) dX7_replay_138
                    · have hk9 : k < 48 := nnle (a := 48) (by decide) (by omega) c116
                      refine lv_aload_n hx hb dX7_replay_119 rfl (lv_at hl 0 rfl) ?_
                      refine rg_54 X hw hR dX7_replay_120 ?_
                      refine lv_iload_n hx hb dX7_replay_123 rfl (lv_at hl 2 rfl) ?_
                      refine lv_aload_n hx hb dX7_replay_124 rfl (lv_at hl 0 rfl) ?_
                      refine rg_79 X hw hR dX7_replay_125 ?_
                      refine lv_iload_n hx hb dX7_replay_128 rfl (lv_at hl 2 rfl) ?_
                      refine rk_lald X hw hR 27 (n := 48) (by omega) (k) (rfl) (by omega) dX7_replay_129 ?_
                      refine rc_last X hw hR (k) (rfl) (by omega) dX7_replay_130 (fun M9 H9 locs9 hw hR => ?_)
                      refine lv_iinc (v := nI (k + 1)) (lv' := [(3, .int (nI (k + 1))), (0, .ref g), (2, .int d)]) hx hb dX7_replay_131 hl (k := 2) rfl (nI_s k) (by decide) rfl (fun ls hl => ?_)
                      refine lv_goto (tgt := 113) hx hb dX7_replay_134 (by decide) ?_
                      exact ih (k + 1) _ _ _ _ (by omega) (by omega) hw (by rw [r48_s _ _ _ rfl] at hR; exact hR) (lv_sub hl [1, 2, 0] rfl)
                exact loop3 49 0 _ _ _ _ (by omega) (by omega) hw (by rw [r48_0]; exact hR) (lv_sub hl [1, 3, 0] rfl)
              · have hi9 : k < cl x := by rw [nI_cl c9.1] at c53; exact nnle (by omega) (by omega) c53
                obtain ⟨c1, h1, hc1, hh1, e19, e20, hdp⟩ := hG k (by omega)
                obtain ⟨j14, hj14, e14, hA, hK⟩ := hW c1 hc1
                obtain ⟨k0, hk0, e13, hV⟩ := hK.resolve_left hdp
                obtain ⟨e1, he1, ef⟩ := hF h1 hh1
                refine lv_aload_n hx hb dX7_replay_56 rfl (lv_at hl 0 rfl) ?_
                refine rg_58 X hw hR dX7_replay_57 ?_
                refine lv_iload_n hx hb dX7_replay_60 rfl (lv_at hl 3 rfl) ?_
                refine ri_iald X hw hR 19 rfl (k) (rfl) (by omega) dX7_replay_61 ?_
                refine mm_eqI (y := nI c1) (e19) ?_
                refine lv_istore (lv' := [(4, .int (nI c1)), (0, .ref g), (1, .int x), (2, .int d), (3, .int (nI k))]) hx hb dX7_replay_62 hl (by decide) rfl (fun ls hl => ?_)
                refine lv_aload_n hx hb dX7_replay_64 rfl (lv_at hl 1 rfl) ?_
                refine lv_iload hx hb dX7_replay_65 (lv_at hl 0 rfl) ?_
                refine lv_aload_n hx hb dX7_replay_67 rfl (lv_at hl 1 rfl) ?_
                refine rg_64 X hw hR dX7_replay_68 ?_
                refine lv_iload_n hx hb dX7_replay_71 rfl (lv_at hl 4 rfl) ?_
                refine ra_lald X hw hR (k) (rfl) (by omega) dX7_replay_72 ?_
                refine lv_aload_n hx hb dX7_replay_73 rfl (lv_at hl 1 rfl) ?_
                refine rg_67 X hw hR dX7_replay_74 ?_
                refine lv_iload_n hx hb dX7_replay_77 rfl (lv_at hl 4 rfl) ?_
                refine ri_iald X hw hR 22 rfl (k) (rfl) (by omega) dX7_replay_78 ?_
                refine lv_aload_n hx hb dX7_replay_79 rfl (lv_at hl 1 rfl) ?_
                refine rg_26 X hw hR dX7_replay_80 ?_
                refine lv_aload_n hx hb dX7_replay_83 rfl (lv_at hl 1 rfl) ?_
                refine rg_61 X hw hR dX7_replay_84 ?_
                refine lv_iload_n hx hb dX7_replay_87 rfl (lv_at hl 4 rfl) ?_
                refine ri_iald X hw hR 20 rfl (k) (rfl) (by omega) dX7_replay_88 ?_
                refine ri_iald X hw hR 6 rfl (h1) (e20) (by omega) dX7_replay_89 ?_
                refine mm_eqI (y := nI e1) (ef) ?_
                refine mm_callV (As := [.int (nI c1), .long (ar (k)), .int (S 22 (k)), .int (nI e1)]) (rest := []) X hw (m_runs l G _ g L S cz ar K1 hR c1 j14 e1 k0 (by omega) hj14 e14 hA (by omega) (by omega) e13 hV (ar k) (S 22 k)) (hR.1) rfl wd_X7_129 ⟨Nat.le_of_ble_eq_true rfl, Nat.le_of_ble_eq_true rfl⟩ ⟨Nat.le_of_ble_eq_true rfl, Nat.le_of_ble_eq_true rfl⟩ rfl rfl (Nat.le_of_ble_eq_true rfl) hl.1 dX7_replay_90 (fun v9 M9 H9 locs9 hp9 hw => ?_)
                obtain ⟨rfl, K2, h27, hR⟩ := hp9
                refine W.eq (g2 := F0 m 93 ls [.int ((rn S cz c1 e1 k0 j14 (ar k) (S 22 k)).1)]) rfl ?_
                generalize ho : rn S cz c1 e1 k0 j14 (ar k) (S 22 k) = o at hR ⊢
                refine lv_istore (lv' := [(5, .int o.1), (4, .int (nI c1)), (0, .ref g), (1, .int x), (2, .int d), (3, .int (nI k))]) hx hb dX7_replay_93 hl (by decide) rfl (fun ls hl => ?_)
                refine lv_aload_n hx hb dX7_replay_95 rfl (lv_at hl 2 rfl) ?_
                refine lv_iload_n hx hb dX7_replay_96 rfl (lv_at hl 4 rfl) ?_
                refine lv_iload hx hb dX7_replay_97 (lv_at hl 0 rfl) ?_
                refine lv_iload hx hb dX7_replay_99 (lv_at hl 1 rfl) ?_
                refine mm_callV (As := [.int d, .int o.1, .int (nI c1)]) (rest := []) X hw (m_digested l G _ g L _ _ _ _ hR (d) (o.1) c1 (by omega)) (hR.1) rfl wd_X7_136 ⟨Nat.le_of_ble_eq_true rfl, Nat.le_of_ble_eq_true rfl⟩ ⟨Nat.le_of_ble_eq_true rfl, Nat.le_of_ble_eq_true rfl⟩ rfl rfl (Nat.le_of_ble_eq_true rfl) hl.1 dX7_replay_101 (fun v9 M9 H9 locs9 hp9 hw => ?_)
                obtain ⟨rfl, rfl⟩ := hp9
                refine W.eq (g2 := F0 m 104 ls [.int (dgs o.2 c1 (d) (o.1))]) rfl ?_
                refine lv_istore_n (lv' := [(2, .int (dgs o.2 c1 (d) (o.1))), (5, .int o.1), (4, .int (nI c1)), (0, .ref g), (1, .int x), (3, .int (nI k))]) hx hb dX7_replay_104 rfl hl (by decide) rfl (fun ls hl => ?_)
                refine lv_iinc (v := nI (k + 1)) (lv' := [(3, .int (nI (k + 1))), (2, .int (dgs o.2 c1 (d) (o.1))), (5, .int o.1), (4, .int (nI c1)), (0, .ref g), (1, .int x)]) hx hb dX7_replay_105 hl (k := 5) rfl (nI_s k) (by decide) rfl (fun ls hl => ?_)
                refine lv_goto (tgt := 51) hx hb dX7_replay_108 (by decide) ?_
                exact ih (k + 1) _ _ _ _ _ _ _ (by omega) (by omega) (fun j h9 => (by rw [h27]; exact hs j h9)) (by have eo : rp_1 S ar cz k = o := (by rw [rp_1, e19, cl_n (by omega), e20, cl_n (by omega), ef, cl_n (by omega), e13, cl_n (by omega), e14, cl_n (by omega)]; exact ho); rw [rp_go_s, ← hd2, ← hd1, eo, e19, cl_n (by omega)]) (by have eo : rp_1 S ar cz k = o := (by rw [rp_1, e19, cl_n (by omega), e20, cl_n (by omega), ef, cl_n (by omega), e13, cl_n (by omega), e14, cl_n (by omega)]; exact ho); rw [rp_go_s, ← hd2, eo]) hw hR (lv_sub hl [4, 5, 1, 0] rfl)
          exact loop2 (cl x + 1) 0 0 _ K1 _ _ _ _ (by omega) (by omega) (fun j h9 => hs j (by omega)) (rfl) (rfl) hw hR (lv_sub hl [2, 3, 1, 0] rfl)
        · have hk9 : k < 48 := nnle (a := 48) (by decide) (by omega) c19
          refine lv_aload_n hx hb dX7_replay_22 rfl (lv_at hl 0 rfl) ?_
          refine rg_79 X hw hR dX7_replay_23 ?_
          refine lv_iload_n hx hb dX7_replay_26 rfl (lv_at hl 2 rfl) ?_
          refine lv_aload_n hx hb dX7_replay_27 rfl (lv_at hl 0 rfl) ?_
          refine rg_54 X hw hR dX7_replay_28 ?_
          refine lv_iload_n hx hb dX7_replay_31 rfl (lv_at hl 2 rfl) ?_
          refine rc_lald X hw hR (k) (rfl) (by omega) dX7_replay_32 ?_
          refine rk_last X hw hR 27 (n := 48) (by omega) (k) (rfl) (by omega) dX7_replay_33 (fun M9 H9 locs9 hw hR => ?_)
          refine lv_aload_n hx hb dX7_replay_34 rfl (lv_at hl 0 rfl) ?_
          refine rg_54 X hw hR dX7_replay_35 ?_
          refine lv_iload_n hx hb dX7_replay_38 rfl (lv_at hl 2 rfl) ?_
          refine lv_lconst (v := 0) hx hb dX7_replay_39 (by decide) ?_
          refine rc_last X hw hR (k) (rfl) (by omega) dX7_replay_40 (fun M9 H9 locs9 hw hR => ?_)
          refine lv_iinc (v := nI (k + 1)) (lv' := [(2, .int (nI (k + 1))), (0, .ref g), (1, .int x)]) hx hb dX7_replay_41 hl (k := 2) rfl (nI_s k) (by decide) rfl (fun ls hl => ?_)
          refine lv_goto (tgt := 16) hx hb dX7_replay_44 (by decide) ?_
          exact ih (k + 1) (va_up K1 27 (vp_updL (K1 27) (k) (z48 cs k (k)))) _ _ _ _ (by omega) (by omega) (fun j h9 => (by rw [va_up_self]; by_cases e9 : j = k; rw [e9, pk_uLs, z48_k]; rw [pk_uLn e9]; exact hs j (by omega))) hw (by rw [z48_s] at hR; exact hR) (lv_sub hl [1, 2, 0] rfl)
    exact loop1 49 0 K _ _ _ _ (by omega) (by omega) (fun j h9 => absurd h9 (by omega)) hw (by rw [z48_0]; exact hR) (lv_sub hl [1, 2, 0] rfl)
  · refine lv_iconst (v := 0) hx hb dX7_replay_12 (by decide) ?_
    exact mm_iret hQ X hw (⟨by rw [sp_replay, if_pos c9], _, hR⟩) (Nat.le_of_ble_eq_true rfl) (Nat.le_of_ble_eq_true rfl) dX7_replay_13
