set_option maxHeartbeats 4000000 in
set_option maxRecDepth 100000 in
theorem c_vote (l : Launch) (G : mG) (M : mM) (L : Nat → Nat → Nat) (S : sS) (cs ar : Nat → Int64) (J : eJ) (hE : EV G L S cs ar J M) (ne nn nc nl ht : Nat) (hN : NM S ne nn nc nl ht) (hV : VR S J.1) (x y v : Int32) (hv : v = 0 ∨ v = 1) : Ct l yX6_vote cX6_vote 6 (some FieldType.int) (mm_r 2 0 0) G [.ref (L 0 0), .int x, .int y, .int v] M (fun r M1 => r = some (.int (sp_vote S x y v).1) ∧ ∃ J1, VR (sp_vote S x y v).2 J1.1 ∧ EV G L (sp_vote S x y v).2 cs ar J1 M1) := by
  refine Ct.of (by decide) (Nat.le_of_ble_eq_true rfl) ?_
  intro p e s m args below meth c ls Q X hin hl hw hQ
  have hx := X.1
  have hb := X.2.1
  have hl : lv_has ls 6 [(0, .ref (L 0 0)), (1, .int x), (2, .int y), (3, .int v)] := hl
  obtain ⟨hN0, hN1, hN2, hN7, hN8, hN12, hN13, hN18, hN19, hN5, hN6⟩ := id hN
  have h0b : cl (S 0 0) = ne := by rw [hN0, cl_n (by omega)]
  have h7b : cl (S 7 0) = nn := by rw [hN7, cl_n (by omega)]
  have h12b : cl (S 12 0) = nc := by rw [hN12, cl_n (by omega)]
  have h18b : cl (S 18 0) = nl := by rw [hN18, cl_n (by omega)]
  have h5b : cl (S 5 0) = ht := by rw [hN5, cl_n (by omega)]
  refine lv_aload_n hx hb dX6_vote_0 rfl (lv_at hl 0 rfl) ?_
  refine lv_iload_n hx hb dX6_vote_1 rfl (lv_at hl 1 rfl) ?_
  refine mm_callV (As := [.int x]) (rest := []) X hw (c_nodeAt l G _ L _ _ _ _ hE ne nn nc nl ht hN (x)) (hE.k0) rfl wd_X6_109 ⟨Nat.le_of_ble_eq_true rfl, Nat.le_of_ble_eq_true rfl⟩ ⟨Nat.le_of_ble_eq_true rfl, Nat.le_of_ble_eq_true rfl⟩ rfl rfl (Nat.le_of_ble_eq_true rfl) hl.1 dX6_vote_2 (fun v9 M9 H9 locs9 hp9 hw => ?_)
  obtain ⟨rfl, rfl⟩ := hp9
  refine W.eq (g2 := F0 m 5 ls [va_rf (atR (S 7 0) (L 20) (x))]) rfl ?_
  by_cases c2 : 0 ≤ x ∧ x < S 7 0
  · have l2 : cl x < cl (S 7 0) := by rw [h7b]; exact cl_lt hN7 (by omega) c2
    refine mm_rfS (atR_s c2) ?_
    refine lv_astore (lv' := [(4, .ref (L 20 (cl x))), (0, .ref (L 0 0)), (1, .int x), (2, .int y), (3, .int v)]) hx hb dX6_vote_5 hl (by decide) rfl (fun ls hl => ?_)
    refine lv_aload_n hx hb dX6_vote_7 rfl (lv_at hl 1 rfl) ?_
    refine lv_iload_n hx hb dX6_vote_8 rfl (lv_at hl 3 rfl) ?_
    refine mm_callV (As := [.int y]) (rest := []) X hw (c_editionAt l G _ L _ _ _ _ hE ne nn nc nl ht hN (y)) (hE.k0) rfl wd_X6_77 ⟨Nat.le_of_ble_eq_true rfl, Nat.le_of_ble_eq_true rfl⟩ ⟨Nat.le_of_ble_eq_true rfl, Nat.le_of_ble_eq_true rfl⟩ rfl rfl (Nat.le_of_ble_eq_true rfl) hl.1 dX6_vote_9 (fun v9 M9 H9 locs9 hp9 hw => ?_)
    obtain ⟨rfl, rfl⟩ := hp9
    refine W.eq (g2 := F0 m 12 ls [va_rf (atR (S 0 0) (L 10) (y))]) rfl ?_
    by_cases c9 : 0 ≤ y ∧ y < S 0 0
    · have l9 : cl y < cl (S 0 0) := by rw [h0b]; exact cl_lt hN0 (by omega) c9
      refine mm_rfS (atR_s c9) ?_
      refine lv_astore (lv' := [(5, .ref (L 10 (cl y))), (4, .ref (L 20 (cl x))), (0, .ref (L 0 0)), (1, .int x), (2, .int y), (3, .int v)]) hx hb dX6_vote_12 hl (by decide) rfl (fun ls hl => ?_)
      refine lv_aload hx hb dX6_vote_14 (lv_at hl 1 rfl) ?_
      refine lv_ifnull hx hb dX6_vote_16 ?_
      refine lv_aload hx hb dX6_vote_19 (lv_at hl 0 rfl) ?_
      refine lv_ifnonnull (tgt := 27) hx hb dX6_vote_21 (by decide) ?_
      refine lv_aload hx hb dX6_vote_27 (lv_at hl 0 rfl) ?_
      refine gf_X6_74 X hw (hE.k10 l9) rfl dX6_vote_29 ?_
      refine lv_iconst (v := 1) hx hb dX6_vote_32 (by decide) ?_
      refine lv_icmp_ne (tgt := 44) hx hb dX6_vote_33 (by decide) (fun c33 => ?_) (fun c33 => ?_)
      · refine lv_bipush (v := (-3)) hx hb dX6_vote_44 (by decide) ?_
        exact mm_iret hQ X hw (by have e9 : sp_vote S x y v = ((-3), S) := (by rw [sp_vote, if_neg (fun h9 => h9 c2), if_neg (fun h9 => h9 c9), if_pos c33]); rw [e9]; exact ⟨rfl, _, hV, hE⟩) (Nat.le_of_ble_eq_true rfl) (Nat.le_of_ble_eq_true rfl) dX6_vote_46
      · refine lv_aload hx hb dX6_vote_36 (lv_at hl 1 rfl) ?_
        refine mm_callV (As := []) (rest := []) X hw (c_isHalted l G _ _ _ _ _ _ (hE.k20 l2)) (hE.k20 l2) rfl wd_X6_113 ⟨Nat.le_of_ble_eq_true rfl, Nat.le_of_ble_eq_true rfl⟩ ⟨Nat.le_of_ble_eq_true rfl, Nat.le_of_ble_eq_true rfl⟩ rfl rfl (Nat.le_of_ble_eq_true rfl) hl.1 dX6_vote_38 (fun v9 M9 H9 locs9 hp9 hw => ?_)
        obtain ⟨rfl, rfl⟩ := hp9
        refine W.eq (g2 := F0 m 41 ls [.int (bI (¬ S 10 ((cl x)) = -1))]) rfl ?_
        refine mm_ifeqB (tgt := 47) hx hb dX6_vote_41 (by decide) (fun c41 => ?_) (fun c41 => ?_)
        · refine lv_aload hx hb dX6_vote_47 (lv_at hl 1 rfl) ?_
          refine lv_aload hx hb dX6_vote_49 (lv_at hl 0 rfl) ?_
          refine gf_X6_85 X hw (hE.k10 l9) rfl dX6_vote_51 ?_
          refine lv_iload_n hx hb dX6_vote_54 rfl (lv_at hl 5 rfl) ?_
          refine mm_callV (As := [.int (nI (cl y)), .int v]) (rest := []) X hw (c_setVote l G _ _ _ _ _ _ (nI (cl y)) v (hE.k20 l2)) (hE.k20 l2) rfl wd_X6_124 ⟨Nat.le_of_ble_eq_true rfl, Nat.le_of_ble_eq_true rfl⟩ ⟨Nat.le_of_ble_eq_true rfl, Nat.le_of_ble_eq_true rfl⟩ rfl rfl (Nat.le_of_ble_eq_true rfl) hl.1 dX6_vote_55 (fun v9 M9 H9 locs9 hp9 hw => ?_)
          obtain ⟨rfl, e9⟩ := hp9
          refine W.eq (g2 := F0 m 58 ls []) rfl ?_
          have hE : EV G L (va_up S 11 (upd (S 11) (12 * cl y + cl x) v)) cs ar ((upd J.1 (cl x) (if v = 0 then J.1 (cl x) &&& ((1 <<< (nI (cl y) &&& 31)) ^^^ (-1)) else J.1 (cl x) ||| (1 <<< (nI (cl y) &&& 31))), J.2)) M9 := (hE.w_vt l2 _ e9).r6 (Or.inr rfl) _
          refine lv_iconst (v := 1) hx hb dX6_vote_58 (by decide) ?_
          exact mm_iret hQ X hw (by have e9 : sp_vote S x y v = (1, va_up S 11 (upd (S 11) (12 * cl y + cl x) v)) := (by rw [sp_vote, if_neg (fun h9 => h9 c2), if_neg (fun h9 => h9 c9), if_neg (fun h9 => h9 c33), if_neg c41]); rw [e9]; exact ⟨rfl, _, (hV.vote (by omega) (by omega) hv), hE⟩) (Nat.le_of_ble_eq_true rfl) (Nat.le_of_ble_eq_true rfl) dX6_vote_59
        · refine lv_bipush (v := (-3)) hx hb dX6_vote_44 (by decide) ?_
          exact mm_iret hQ X hw (by have e9 : sp_vote S x y v = ((-3), S) := (by rw [sp_vote, if_neg (fun h9 => h9 c2), if_neg (fun h9 => h9 c9), if_neg (fun h9 => h9 c33), if_pos c41]); rw [e9]; exact ⟨rfl, _, hV, hE⟩) (Nat.le_of_ble_eq_true rfl) (Nat.le_of_ble_eq_true rfl) dX6_vote_46
    · refine mm_rfN (atR_n c9) ?_
      refine lv_astoreN (lv' := [(5, .null), (4, .ref (L 20 (cl x))), (0, .ref (L 0 0)), (1, .int x), (2, .int y), (3, .int v)]) hx hb dX6_vote_12 hl (by decide) rfl (fun ls hl => ?_)
      refine lv_aload hx hb dX6_vote_14 (lv_at hl 1 rfl) ?_
      refine lv_ifnull hx hb dX6_vote_16 ?_
      refine lv_aloadN hx hb dX6_vote_19 (lv_at hl 0 rfl) ?_
      refine lv_ifnonnullN hx hb dX6_vote_21 ?_
      refine lv_bipush (v := (-2)) hx hb dX6_vote_24 (by decide) ?_
      exact mm_iret hQ X hw (by have e9 : sp_vote S x y v = ((-2), S) := (by rw [sp_vote, if_neg (fun h9 => h9 c2), if_pos c9]); rw [e9]; exact ⟨rfl, _, hV, hE⟩) (Nat.le_of_ble_eq_true rfl) (Nat.le_of_ble_eq_true rfl) dX6_vote_26
  · refine mm_rfN (atR_n c2) ?_
    refine lv_astoreN (lv' := [(4, .null), (0, .ref (L 0 0)), (1, .int x), (2, .int y), (3, .int v)]) hx hb dX6_vote_5 hl (by decide) rfl (fun ls hl => ?_)
    refine lv_aload_n hx hb dX6_vote_7 rfl (lv_at hl 1 rfl) ?_
    refine lv_iload_n hx hb dX6_vote_8 rfl (lv_at hl 3 rfl) ?_
    refine mm_callV (As := [.int y]) (rest := []) X hw (c_editionAt l G _ L _ _ _ _ hE ne nn nc nl ht hN (y)) (hE.k0) rfl wd_X6_77 ⟨Nat.le_of_ble_eq_true rfl, Nat.le_of_ble_eq_true rfl⟩ ⟨Nat.le_of_ble_eq_true rfl, Nat.le_of_ble_eq_true rfl⟩ rfl rfl (Nat.le_of_ble_eq_true rfl) hl.1 dX6_vote_9 (fun v9 M9 H9 locs9 hp9 hw => ?_)
    obtain ⟨rfl, rfl⟩ := hp9
    refine W.eq (g2 := F0 m 12 ls [va_rf (atR (S 0 0) (L 10) (y))]) rfl ?_
    by_cases c9 : 0 ≤ y ∧ y < S 0 0
    · have l9 : cl y < cl (S 0 0) := by rw [h0b]; exact cl_lt hN0 (by omega) c9
      refine mm_rfS (atR_s c9) ?_
      refine lv_astore (lv' := [(5, .ref (L 10 (cl y))), (4, .null), (0, .ref (L 0 0)), (1, .int x), (2, .int y), (3, .int v)]) hx hb dX6_vote_12 hl (by decide) rfl (fun ls hl => ?_)
      refine lv_aloadN hx hb dX6_vote_14 (lv_at hl 1 rfl) ?_
      refine lv_ifnullN (tgt := 24) hx hb dX6_vote_16 (by decide) ?_
      refine lv_bipush (v := (-2)) hx hb dX6_vote_24 (by decide) ?_
      exact mm_iret hQ X hw (by have e9 : sp_vote S x y v = ((-2), S) := (by rw [sp_vote, if_pos c2]); rw [e9]; exact ⟨rfl, _, hV, hE⟩) (Nat.le_of_ble_eq_true rfl) (Nat.le_of_ble_eq_true rfl) dX6_vote_26
    · refine mm_rfN (atR_n c9) ?_
      refine lv_astoreN (lv' := [(5, .null), (4, .null), (0, .ref (L 0 0)), (1, .int x), (2, .int y), (3, .int v)]) hx hb dX6_vote_12 hl (by decide) rfl (fun ls hl => ?_)
      refine lv_aloadN hx hb dX6_vote_14 (lv_at hl 1 rfl) ?_
      refine lv_ifnullN (tgt := 24) hx hb dX6_vote_16 (by decide) ?_
      refine lv_bipush (v := (-2)) hx hb dX6_vote_24 (by decide) ?_
      exact mm_iret hQ X hw (by have e9 : sp_vote S x y v = ((-2), S) := (by rw [sp_vote, if_pos c2]); rw [e9]; exact ⟨rfl, _, hV, hE⟩) (Nat.le_of_ble_eq_true rfl) (Nat.le_of_ble_eq_true rfl) dX6_vote_26
set_option maxHeartbeats 4000000 in
set_option maxRecDepth 100000 in
theorem c_add (l : Launch) (G : mG) (M : mM) (a ac nu ce rc : Nat) (sz : Int32) (kp : Option Nat) (f f2 : Nat → Int32) (x y : Int32) (hs : 0 ≤ sz ∧ sz < 24) (han : ac ≠ nu) (h0 : M (a) = some (.inr (1, [.ref ac, .ref nu, .ref ce, .ref rc, .int sz, va_rf (kp)]))) (h1 : M (ac) = some (aI G 24 (f))) (h2 : M (nu) = some (aI G 24 (f2))) : Ct l yX1_add cX1_add 3 none (mm_r 1 0 0) G [.ref a, .int x, .int y] M (fun r M1 => r = none ∧ M1 = mm_up (mm_up (mm_up M ac (aI G 24 (upd f (cl sz) x))) nu (aI G 24 (upd f2 (cl sz) y))) a (oCo ac nu ce rc (sz + 1) kp)) := by
  refine Ct.of (by decide) (Nat.le_of_ble_eq_true rfl) ?_
  intro p e s m args below meth c ls Q X hin hl hw hQ
  have hx := X.1
  have hb := X.2.1
  have hl : lv_has ls 3 [(0, .ref a), (1, .int x), (2, .int y)] := hl
  have b_s : cl sz < 24 := cl_lt (n := 24) rfl (by decide) hs
  refine lv_aload_n hx hb dX1_add_0 rfl (lv_at hl 0 rfl) ?_
  refine gf_X1_28 X hw (h0) rfl dX1_add_1 ?_
  refine lv_bipush (v := 24) hx hb dX1_add_4 (by decide) ?_
  refine mm_callSN (As := [.int sz, .int 24]) (rest := []) X hw (c_isBelow l G _ (sz) (24)) wd_X1_36 ⟨Nat.le_of_ble_eq_true rfl, Nat.le_of_ble_eq_true rfl⟩ ⟨Nat.le_of_ble_eq_true rfl, Nat.le_of_ble_eq_true rfl⟩ rfl rfl (Nat.le_of_ble_eq_true rfl) hl.1 dX1_add_6 (fun v9 M9 H9 locs9 hp9 hw => ?_)
  obtain ⟨rfl, rfl⟩ := hp9
  refine W.eq (g2 := F0 m 9 ls [.int (bI (0 ≤ sz ∧ sz < 24))]) rfl ?_
  refine mm_ifeqB (tgt := 42) hx hb dX1_add_9 (by decide) (fun c9 => ?_) (fun c9 => ?_)
  · exact absurd hs c9
  · refine lv_aload_n hx hb dX1_add_12 rfl (lv_at hl 0 rfl) ?_
    refine gf_X1_9 X hw (h0) rfl dX1_add_13 ?_
    refine lv_aload_n hx hb dX1_add_16 rfl (lv_at hl 0 rfl) ?_
    refine gf_X1_28 X hw (h0) rfl dX1_add_17 ?_
    refine lv_iload_n hx hb dX1_add_20 rfl (lv_at hl 1 rfl) ?_
    refine mi_iast X hw (h1) (cl sz) (nI_cl hs.1) (b_s) (by decide) dX1_add_21 (fun H9 locs9 hw => ?_)
    obtain ⟨M_1, eM_1⟩ : ∃ z, z = mm_up M (ac) (aI G 24 (upd f (cl sz) (x))) := ⟨_, rfl⟩
    have hw : mm_W G.1 vwCl (ct_A M s.heap.size) s.heap M_1 H9 locs9 := by rw [eM_1]; exact hw
    have f0_M_1 : M_1 (a) = some (.inr (1, [.ref ac, .ref nu, .ref ce, .ref rc, .int sz, va_rf (kp)])) := by rw [eM_1, mm_up_n _ _ (ne_oa h0 h1)]; exact h0
    have f1_M_1 : M_1 (ac) = some (aI G 24 (upd f (cl sz) (x))) := by rw [eM_1]; exact mm_up_s _ _ _
    have f2_M_1 : M_1 (nu) = some (aI G 24 (f2)) := by rw [eM_1, mm_up_n _ _ (Ne.symm (han))]; exact h2
    refine lv_aload_n hx hb dX1_add_22 rfl (lv_at hl 0 rfl) ?_
    refine gf_X1_15 X hw (f0_M_1) rfl dX1_add_23 ?_
    refine lv_aload_n hx hb dX1_add_26 rfl (lv_at hl 0 rfl) ?_
    refine gf_X1_28 X hw (f0_M_1) rfl dX1_add_27 ?_
    refine lv_iload_n hx hb dX1_add_30 rfl (lv_at hl 2 rfl) ?_
    refine mi_iast X hw (f2_M_1) (cl sz) (nI_cl hs.1) (b_s) (by decide) dX1_add_31 (fun H9 locs9 hw => ?_)
    obtain ⟨M_2, eM_2⟩ : ∃ z, z = mm_up M_1 (nu) (aI G 24 (upd f2 (cl sz) (y))) := ⟨_, rfl⟩
    have hw : mm_W G.1 vwCl (ct_A M s.heap.size) s.heap M_2 H9 locs9 := by rw [eM_2]; exact hw
    have f0_M_2 : M_2 (a) = some (.inr (1, [.ref ac, .ref nu, .ref ce, .ref rc, .int sz, va_rf (kp)])) := by rw [eM_2, mm_up_n _ _ (ne_oa f0_M_1 f2_M_1)]; exact f0_M_1
    have f1_M_2 : M_2 (ac) = some (aI G 24 (upd f (cl sz) (x))) := by rw [eM_2, mm_up_n _ _ (han)]; exact f1_M_1
    have f2_M_2 : M_2 (nu) = some (aI G 24 (upd f2 (cl sz) (y))) := by rw [eM_2]; exact mm_up_s _ _ _
    refine lv_aload_n hx hb dX1_add_32 rfl (lv_at hl 0 rfl) ?_
    refine lv_dup hx hb dX1_add_33 rfl ?_
    refine gf_X1_28 X hw (f0_M_2) rfl dX1_add_34 ?_
    refine lv_iconst (v := 1) hx hb dX1_add_37 (by decide) ?_
    refine lv_iadd hx hb dX1_add_38 ?_
    refine pf_X1_28 X hw (f0_M_2) (Nat.le_of_ble_eq_true rfl) dX1_add_39 (fun H9 locs9 hw => ?_)
    obtain ⟨M_3, eM_3⟩ : ∃ z, z = mm_up M_2 (a) (.inr (1, [.ref ac, .ref nu, .ref ce, .ref rc, .int (sz + 1), va_rf (kp)])) := ⟨_, rfl⟩
    have hw : mm_W G.1 vwCl (ct_A M s.heap.size) s.heap M_3 H9 locs9 := by rw [eM_3]; exact hw
    have f0_M_3 : M_3 (a) = some (.inr (1, [.ref ac, .ref nu, .ref ce, .ref rc, .int (sz + 1), va_rf (kp)])) := by rw [eM_3]; exact mm_up_s _ _ _
    have f1_M_3 : M_3 (ac) = some (aI G 24 (upd f (cl sz) (x))) := by rw [eM_3, mm_up_n _ _ (ne_ao f1_M_2 f0_M_2)]; exact f1_M_2
    have f2_M_3 : M_3 (nu) = some (aI G 24 (upd f2 (cl sz) (y))) := by rw [eM_3, mm_up_n _ _ (ne_ao f2_M_2 f0_M_2)]; exact f2_M_2
    exact mm_vret hQ X hw (⟨rfl, by rw [eM_3, eM_2, eM_1]⟩) (Nat.le_of_ble_eq_true rfl) (Nat.le_of_ble_eq_true rfl) dX1_add_42
theorem sz_24 {x : Int32} (h : ∃ k, k ≤ 24 ∧ x = nI k) (c : ¬ x < 24) : x = 24 := by
  obtain ⟨k, hk, rfl⟩ := h
  have := nnlt (b := 24) (by omega) (by decide) c
  rw [show k = 24 from by omega]; rfl
theorem sp_act_bad {S : sS} {x y v : Int32} (h : 0 ≤ x ∧ x < S 12 0) (c : ¬ ac_ok y v) : sp_act S x y v = (-2, S) := by
  rw [sp_act, if_neg (fun h9 => h9 h)]
  by_cases h1 : 0 ≤ y ∧ y ≤ 8
  · rw [if_neg (fun h9 => h9 h1)]
    by_cases h2 : y = 6 → 0 ≤ v ∧ v ≤ 7
    · rw [if_neg (fun h9 => h9 h2), if_pos]
      intro h3
      exact c ⟨⟨h1.1, lt_le9.mpr h1.2⟩, fun z => ⟨(h2 z).1, lt_le8.mpr (h2 z).2⟩, fun z => ⟨(h3 z).1, lt_le4.mpr (h3 z).2⟩⟩
    · rw [if_pos h2]
  · rw [if_pos h1]
set_option maxHeartbeats 4000000 in
set_option maxRecDepth 100000 in
theorem c_act (l : Launch) (G : mG) (M : mM) (L : Nat → Nat → Nat) (S : sS) (cs ar : Nat → Int64) (J : eJ) (hE : EV G L S cs ar J M) (ne nn nc nl ht : Nat) (hN : NM S ne nn nc nl ht) (hW : ∀ i, i < nc → ∃ k, k ≤ 24 ∧ S 14 i = nI k) (x y v : Int32) : Ct l yX6_act cX6_act 5 (some FieldType.int) (mm_r 2 0 0) G [.ref (L 0 0), .int x, .int y, .int v] M (fun r M1 => r = some (.int (sp_act S x y v).1) ∧ ∃ J1, J1.1 = J.1 ∧ EV G L (sp_act S x y v).2 cs ar J1 M1) := by
  refine Ct.of (by decide) (Nat.le_of_ble_eq_true rfl) ?_
  intro p e s m args below meth c ls Q X hin hl hw hQ
  have hx := X.1
  have hb := X.2.1
  have hl : lv_has ls 5 [(0, .ref (L 0 0)), (1, .int x), (2, .int y), (3, .int v)] := hl
  obtain ⟨hN0, hN1, hN2, hN7, hN8, hN12, hN13, hN18, hN19, hN5, hN6⟩ := id hN
  have h0b : cl (S 0 0) = ne := by rw [hN0, cl_n (by omega)]
  have h7b : cl (S 7 0) = nn := by rw [hN7, cl_n (by omega)]
  have h12b : cl (S 12 0) = nc := by rw [hN12, cl_n (by omega)]
  have h18b : cl (S 18 0) = nl := by rw [hN18, cl_n (by omega)]
  have h5b : cl (S 5 0) = ht := by rw [hN5, cl_n (by omega)]
  refine lv_aload_n hx hb dX6_act_0 rfl (lv_at hl 0 rfl) ?_
  refine lv_iload_n hx hb dX6_act_1 rfl (lv_at hl 1 rfl) ?_
  refine mm_callV (As := [.int x]) (rest := []) X hw (c_contractAt l G _ L _ _ _ _ hE ne nn nc nl ht hN (x)) (hE.k0) rfl wd_X6_141 ⟨Nat.le_of_ble_eq_true rfl, Nat.le_of_ble_eq_true rfl⟩ ⟨Nat.le_of_ble_eq_true rfl, Nat.le_of_ble_eq_true rfl⟩ rfl rfl (Nat.le_of_ble_eq_true rfl) hl.1 dX6_act_2 (fun v9 M9 H9 locs9 hp9 hw => ?_)
  obtain ⟨rfl, rfl⟩ := hp9
  refine W.eq (g2 := F0 m 5 ls [va_rf (atR (S 12 0) (L 30) (x))]) rfl ?_
  by_cases c2 : 0 ≤ x ∧ x < S 12 0
  · have l2 : cl x < cl (S 12 0) := by rw [h12b]; exact cl_lt hN12 (by omega) c2
    refine mm_rfS (atR_s c2) ?_
    refine lv_astore (lv' := [(4, .ref (L 30 (cl x))), (0, .ref (L 0 0)), (1, .int x), (2, .int y), (3, .int v)]) hx hb dX6_act_5 hl (by decide) rfl (fun ls hl => ?_)
    refine lv_aload hx hb dX6_act_7 (lv_at hl 0 rfl) ?_
    refine lv_ifnull hx hb dX6_act_9 ?_
    refine lv_iload_n hx hb dX6_act_12 rfl (lv_at hl 3 rfl) ?_
    refine lv_iload_n hx hb dX6_act_13 rfl (lv_at hl 4 rfl) ?_
    refine mm_callS (As := [.int y, .int v]) (rest := []) X hw (c_isActWith l G _ y v) wd_X6_145 ⟨Nat.le_of_ble_eq_true rfl, Nat.le_of_ble_eq_true rfl⟩ ⟨Nat.le_of_ble_eq_true rfl, Nat.le_of_ble_eq_true rfl⟩ rfl rfl (Nat.le_of_ble_eq_true rfl) hl.1 dX6_act_14 (fun v9 M9 H9 locs9 hp9 hw => ?_)
    obtain ⟨rfl, rfl⟩ := hp9
    refine W.eq (g2 := F0 m 17 ls [.int (bI (ac_ok y v))]) rfl ?_
    refine mm_ifneB (tgt := 23) hx hb dX6_act_17 (by decide) (fun c17 => ?_) (fun c17 => ?_)
    · refine lv_aload hx hb dX6_act_23 (lv_at hl 0 rfl) ?_
      refine gf_X6_148 X hw (hE.k30 l2) rfl dX6_act_25 ?_
      by_cases k28 : ¬ S 13 ((cl x)) = -1
      · refine mm_rfS (kpt_s L k28) ?_
        refine lv_ifnull hx hb dX6_act_28 ?_
        refine lv_bipush (v := (-3)) hx hb dX6_act_31 (by decide) ?_
        exact mm_iret hQ X hw (by have e9 : sp_act S x y v = ((-3), S) := (by rw [sp_act, if_neg (fun h9 => h9 c2), if_neg (fun h9 => h9 ⟨c17.1.1, lt_le9.mp c17.1.2⟩), if_neg (fun h9 => h9 (fun z => ⟨(c17.2.1 z).1, lt_le8.mp (c17.2.1 z).2⟩)), if_neg (fun h9 => h9 (fun z => ⟨(c17.2.2 z).1, lt_le4.mp (c17.2.2 z).2⟩)), if_pos k28]); rw [e9]; exact ⟨rfl, _, rfl, hE⟩) (Nat.le_of_ble_eq_true rfl) (Nat.le_of_ble_eq_true rfl) dX6_act_33
      · refine mm_rfN (kpt_n L (Decidable.byContradiction k28)) ?_
        refine lv_ifnullN (tgt := 34) hx hb dX6_act_28 (by decide) ?_
        refine lv_aload hx hb dX6_act_34 (lv_at hl 0 rfl) ?_
        refine gf_X6_151 X hw (hE.k30 l2) rfl dX6_act_36 ?_
        refine lv_bipush (v := 24) hx hb dX6_act_39 (by decide) ?_
        refine lv_icmp_lt (tgt := 47) hx hb dX6_act_41 (by decide) (fun c41 => ?_) (fun c41 => ?_)
        · obtain ⟨j14, hj14, e14⟩ := hW (cl x) (by omega)
          have p14 : 0 ≤ S 14 (cl x) := by rw [e14]; exact nI_pos' (by omega)
          have l14 : cl (S 14 (cl x)) < 24 := cl_lt (n := 24) rfl (by decide) ⟨p14, c41⟩
          refine lv_aload hx hb dX6_act_47 (lv_at hl 0 rfl) ?_
          refine lv_iload_n hx hb dX6_act_49 rfl (lv_at hl 3 rfl) ?_
          refine lv_iload_n hx hb dX6_act_50 rfl (lv_at hl 4 rfl) ?_
          refine mm_callV (As := [.int y, .int v]) (rest := []) X hw (c_add l G _ _ _ _ _ _ _ _ _ _ y v ⟨p14, c41⟩ (hE.ne (lv_c S (by decide) l2) (lv_c S (by decide) l2) (fun z => absurd z.1 (by decide))) (hE.k30 l2) (hE.k31 l2) (hE.k32 l2)) (hE.k30 l2) rfl wd_X6_154 ⟨Nat.le_of_ble_eq_true rfl, Nat.le_of_ble_eq_true rfl⟩ ⟨Nat.le_of_ble_eq_true rfl, Nat.le_of_ble_eq_true rfl⟩ rfl rfl (Nat.le_of_ble_eq_true rfl) hl.1 dX6_act_51 (fun v9 M9 H9 locs9 hp9 hw => ?_)
          obtain ⟨rfl, e9⟩ := hp9
          refine W.eq (g2 := F0 m 54 ls []) rfl ?_
          have hE1 := hE.w_ac l2 l14 y rfl
          have hE2 := hE1.w_nu l2 l14 v rfl
          have hE : EV G L (va_up (va_up (va_up S 15 (upd (S 15) (24 * cl x + cl (S 14 (cl x))) y)) 16 (upd (S 16) (24 * cl x + cl (S 14 (cl x))) v)) 14 (upd (S 14) (cl x) (S 14 (cl x) + 1))) cs ar J M9 := hE2.w_sz l2 (S 14 (cl x) + 1) e9
          refine lv_aload hx hb dX6_act_54 (lv_at hl 0 rfl) ?_
          refine gf_X6_151 X hw (hE.k30 l2) rfl dX6_act_56 ?_
          exact mm_iret hQ X hw (by have e9 : sp_act S x y v = (S 14 (cl x) + 1, va_up (va_up (va_up S 15 (upd (S 15) (24 * cl x + cl (S 14 (cl x))) y)) 16 (upd (S 16) (24 * cl x + cl (S 14 (cl x))) v)) 14 (upd (S 14) (cl x) (S 14 (cl x) + 1))) := (by rw [sp_act, if_neg (fun h9 => h9 c2), if_neg (fun h9 => h9 ⟨c17.1.1, lt_le9.mp c17.1.2⟩), if_neg (fun h9 => h9 (fun z => ⟨(c17.2.1 z).1, lt_le8.mp (c17.2.1 z).2⟩)), if_neg (fun h9 => h9 (fun z => ⟨(c17.2.2 z).1, lt_le4.mp (c17.2.2 z).2⟩)), if_neg k28, if_neg (by intro h9; rw [h9] at c41; exact absurd c41 (by decide))]); rw [e9]; exact ⟨by rw [va_up_self, pk_us], _, rfl, hE⟩) (Nat.le_of_ble_eq_true rfl) (Nat.le_of_ble_eq_true rfl) dX6_act_59
        · refine lv_bipush (v := (-4)) hx hb dX6_act_44 (by decide) ?_
          exact mm_iret hQ X hw (by have e9 : sp_act S x y v = ((-4), S) := (by rw [sp_act, if_neg (fun h9 => h9 c2), if_neg (fun h9 => h9 ⟨c17.1.1, lt_le9.mp c17.1.2⟩), if_neg (fun h9 => h9 (fun z => ⟨(c17.2.1 z).1, lt_le8.mp (c17.2.1 z).2⟩)), if_neg (fun h9 => h9 (fun z => ⟨(c17.2.2 z).1, lt_le4.mp (c17.2.2 z).2⟩)), if_neg k28, if_pos (sz_24 (hW (cl x) (by omega)) c41)]); rw [e9]; exact ⟨rfl, _, rfl, hE⟩) (Nat.le_of_ble_eq_true rfl) (Nat.le_of_ble_eq_true rfl) dX6_act_46
    · refine lv_bipush (v := (-2)) hx hb dX6_act_20 (by decide) ?_
      exact mm_iret hQ X hw (by have e9 : sp_act S x y v = ((-2), S) := sp_act_bad c2 c17; rw [e9]; exact ⟨rfl, _, rfl, hE⟩) (Nat.le_of_ble_eq_true rfl) (Nat.le_of_ble_eq_true rfl) dX6_act_22
  · refine mm_rfN (atR_n c2) ?_
    refine lv_astoreN (lv' := [(4, .null), (0, .ref (L 0 0)), (1, .int x), (2, .int y), (3, .int v)]) hx hb dX6_act_5 hl (by decide) rfl (fun ls hl => ?_)
    refine lv_aloadN hx hb dX6_act_7 (lv_at hl 0 rfl) ?_
    refine lv_ifnullN (tgt := 20) hx hb dX6_act_9 (by decide) ?_
    refine lv_bipush (v := (-2)) hx hb dX6_act_20 (by decide) ?_
    exact mm_iret hQ X hw (by have e9 : sp_act S x y v = ((-2), S) := (by rw [sp_act, if_pos c2]); rw [e9]; exact ⟨rfl, _, rfl, hE⟩) (Nat.le_of_ble_eq_true rfl) (Nat.le_of_ble_eq_true rfl) dX6_act_22
