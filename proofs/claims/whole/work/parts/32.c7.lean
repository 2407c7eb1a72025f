set_option maxHeartbeats 4000000 in
set_option maxRecDepth 100000 in
theorem c_decideProposals (l : Launch) (G : mG) (M : mM) (L : Nat → Nat → Nat) (S : sS) (cs ar : Nat → Int64) (J : eJ) (hE : EV G L S cs ar J M) (ne nn nc nl ht : Nat) (hN : NM S ne nn nc nl ht) (hV : VR S J.1) : Ct l yX6_decideProposals cX6_decideProposals 5 none (mm_r 2 0 0) G [.ref (L 0 0)] M (fun r M1 => r = none ∧ EV G L (ce S ne) cs ar J M1) := by
  refine Ct.of (by decide) (Nat.le_of_ble_eq_true rfl) ?_
  intro p e s m args below meth c ls Q X hin hl hw hQ
  have hx := X.1
  have hb := X.2.1
  have hl : lv_has ls 5 [(0, .ref (L 0 0))] := hl
  obtain ⟨hN0, hN1, hN2, hN7, hN8, hN12, hN13, hN18, hN19, hN5, hN6⟩ := id hN
  have h0b : cl (S 0 0) = ne := by rw [hN0, cl_n (by omega)]
  have h7b : cl (S 7 0) = nn := by rw [hN7, cl_n (by omega)]
  have h12b : cl (S 12 0) = nc := by rw [hN12, cl_n (by omega)]
  have h18b : cl (S 18 0) = nl := by rw [hN18, cl_n (by omega)]
  have h5b : cl (S 5 0) = ht := by rw [hN5, cl_n (by omega)]
  refine lv_aload_n hx hb dX6_decideProposals_0 rfl (lv_at hl 0 rfl) ?_
  refine gf_X6_11 X hw (hE.k0) rfl dX6_decideProposals_1 ?_
  refine lv_astore_n (lv' := [(1, .ref (L 1 0)), (0, .ref (L 0 0))]) hx hb dX6_decideProposals_4 rfl hl (by decide) rfl (fun ls hl => ?_)
  refine lv_aload_n hx hb dX6_decideProposals_5 rfl (lv_at hl 0 rfl) ?_
  refine mi_alen X hw 3 (hE.k1) rfl dX6_decideProposals_6 ?_
  refine W.eq (g2 := F0 m 7 ls [.int 10]) rfl ?_
  refine lv_istore_n (lv' := [(2, .int 10), (1, .ref (L 1 0)), (0, .ref (L 0 0))]) hx hb dX6_decideProposals_7 rfl hl (by decide) rfl (fun ls hl => ?_)
  refine lv_iconst (v := 0) hx hb dX6_decideProposals_8 (by decide) ?_
  refine lv_istore_n (lv' := [(3, .int 0), (2, .int 10), (1, .ref (L 1 0)), (0, .ref (L 0 0))]) hx hb dX6_decideProposals_9 rfl hl (by decide) rfl (fun ls hl => ?_)
  have loop : ∀ (n : Nat) (k : Nat) (S1 : sS) (M1 : mM) (H1 : Heap) (locs1 : List Loc) (ls1 : Array Slot), (hk : k ≤ 10) → (hn : 11 ≤ k + n) → (hS : S1 = ce S (min k ne)) → (hM : NM S1 ne nn nc nl ht) → (hV1 : VR S1 J.1) → mm_W G.1 vwCl (ct_A M s.heap.size) s.heap M1 H1 locs1 → EV G L S1 cs ar J M1 → lv_has ls1 5 [(0, .ref (L 0 0)), (1, .ref (L 1 0)), (2, .int 10), (3, .int (nI k))] → W p l e (mm_r 2 0 0) s m args below meth c H1 locs1 0 0 Q (F0 m 10 ls1 []) := by
    intro n
    induction n with
    | zero => intro k S1 M1 H1 locs1 ls hk hn hS hM hV1 hw hE hl; exact absurd hn (by omega)
    | succ n ih =>
      intro k S1 M1 H1 locs1 ls hk hn hS hM hV1 hw hE hl
      refine lv_iload_n hx hb dX6_decideProposals_10 rfl (lv_at hl 3 rfl) ?_
      refine lv_iload_n hx hb dX6_decideProposals_11 rfl (lv_at hl 2 rfl) ?_
      refine lv_icmp_ge (tgt := 74) hx hb dX6_decideProposals_12 (by decide) (fun c12 => ?_) (fun c12 => ?_)
      · have hk9 : k = 10 := by have := nle (a := 10) (by decide) (by omega) c12; omega
        exact mm_vret hQ X hw (⟨rfl, by rw [show min k ne = ne from by omega] at hS; rw [← hS]; exact hE⟩) (Nat.le_of_ble_eq_true rfl) (Nat.le_of_ble_eq_true rfl) dX6_decideProposals_74
      · have hk9 : k < 10 := nnle (a := 10) (by decide) (by omega) c12
        have g0b : cl (S1 0 0) = ne := by rw [hM.1, cl_n (by omega)]
        have g7b : cl (S1 7 0) = nn := by rw [hM.2.2.2.1, cl_n (by omega)]
        refine lv_aload_n hx hb dX6_decideProposals_15 rfl (lv_at hl 1 rfl) ?_
        refine lv_iload_n hx hb dX6_decideProposals_16 rfl (lv_at hl 3 rfl) ?_
        refine mi_aald X hw 3 (hE.k1) rfl (k) (rfl) (hk9) (by decide) dX6_decideProposals_17 ?_
        by_cases q18 : k < cl (S1 0 0)
        · refine mm_rfS (rfs_s q18) ?_
          refine lv_astore (lv' := [(4, .ref (L 10 k)), (0, .ref (L 0 0)), (1, .ref (L 1 0)), (2, .int 10), (3, .int (nI k))]) hx hb dX6_decideProposals_18 hl (by decide) rfl (fun ls hl => ?_)
          refine lv_aload hx hb dX6_decideProposals_20 (lv_at hl 0 rfl) ?_
          refine lv_ifnull hx hb dX6_decideProposals_22 ?_
          refine lv_aload hx hb dX6_decideProposals_25 (lv_at hl 0 rfl) ?_
          refine gf_X6_74 X hw (hE.k10 q18) rfl dX6_decideProposals_27 ?_
          refine lv_iconst (v := 1) hx hb dX6_decideProposals_30 (by decide) ?_
          refine lv_icmp_ne (tgt := 68) hx hb dX6_decideProposals_31 (by decide) (fun c31 => ?_) (fun c31 => ?_)
          · refine lv_iinc (v := nI (k + 1)) (lv' := [(3, .int (nI (k + 1))), (4, .ref (L 10 k)), (0, .ref (L 0 0)), (1, .ref (L 1 0)), (2, .int 10)]) hx hb dX6_decideProposals_68 hl (k := 4) rfl (nI_s k) (by decide) rfl (fun ls hl => ?_)
            refine lv_goto (tgt := 10) hx hb dX6_decideProposals_71 (by decide) ?_
            exact ih (k + 1) S1 _ _ _ _ (by omega) (by omega) (by rw [show min (k + 1) ne = k + 1 from by omega, ce_s]; rw [show min k ne = k from by omega] at hS; rw [← hS, if_neg (fun h9 => c31 h9.1)]) (hM) (hV1) hw hE (lv_sub hl [2, 3, 4, 0] rfl)
          · refine lv_aload hx hb dX6_decideProposals_34 (lv_at hl 0 rfl) ?_
            refine gf_X6_73 X hw (hE.k10 q18) rfl dX6_decideProposals_36 ?_
            refine lv_aload_n hx hb dX6_decideProposals_39 rfl (lv_at hl 1 rfl) ?_
            refine gf_X6_60 X hw (hE.k0) rfl dX6_decideProposals_40 ?_
            refine lv_icmp_ne (tgt := 68) hx hb dX6_decideProposals_43 (by decide) (fun c43 => ?_) (fun c43 => ?_)
            · refine lv_iinc (v := nI (k + 1)) (lv' := [(3, .int (nI (k + 1))), (4, .ref (L 10 k)), (0, .ref (L 0 0)), (1, .ref (L 1 0)), (2, .int 10)]) hx hb dX6_decideProposals_68 hl (k := 4) rfl (nI_s k) (by decide) rfl (fun ls hl => ?_)
              refine lv_goto (tgt := 10) hx hb dX6_decideProposals_71 (by decide) ?_
              exact ih (k + 1) S1 _ _ _ _ (by omega) (by omega) (by rw [show min (k + 1) ne = k + 1 from by omega, ce_s]; rw [show min k ne = k from by omega] at hS; rw [← hS, if_neg (fun h9 => c43 h9.2)]) (hM) (hV1) hw hE (lv_sub hl [2, 3, 4, 0] rfl)
            · refine lv_aload hx hb dX6_decideProposals_46 (lv_at hl 0 rfl) ?_
              refine lv_aload_n hx hb dX6_decideProposals_48 rfl (lv_at hl 1 rfl) ?_
              refine lv_aload hx hb dX6_decideProposals_49 (lv_at hl 0 rfl) ?_
              refine gf_X6_85 X hw (hE.k10 q18) rfl dX6_decideProposals_51 ?_
              refine mm_callV (As := [.int (nI k)]) (rest := [.ref (L 10 k)]) X hw (c_isAgreed l G _ L S1 _ _ _ hE ne nn nc nl ht hM hV1 k (by omega)) (hE.k0) rfl wd_X6_208 ⟨Nat.le_of_ble_eq_true rfl, Nat.le_of_ble_eq_true rfl⟩ ⟨Nat.le_of_ble_eq_true rfl, Nat.le_of_ble_eq_true rfl⟩ rfl rfl (Nat.le_of_ble_eq_true rfl) hl.1 dX6_decideProposals_54 (fun v9 M9 H9 locs9 hp9 hw => ?_)
              obtain ⟨rfl, rfl⟩ := hp9
              refine W.eq (g2 := F0 m 57 ls [.int (bI (¬ 3 * ag_its S1 k nn < 2 * ag_all S1 nn)), .ref (L 10 k)]) rfl ?_
              refine mm_ifeqB (tgt := 64) hx hb dX6_decideProposals_57 (by decide) (fun c57 => ?_) (fun c57 => ?_)
              · refine lv_iconst (v := 3) hx hb dX6_decideProposals_64 (by decide) ?_
                refine pf_X6_74 X hw (hE.k10 q18) (Nat.le_of_ble_eq_true rfl) dX6_decideProposals_65 (fun H9 locs9 hw => ?_)
                obtain ⟨M_1, eM_1⟩ : ∃ z, z = mm_up M1 (L 10 k) (.inr (2, [.int (nI k), .ref (L 11 k), .ref (L 12 k), .int (S1 3 k), .int 3])) := ⟨_, rfl⟩
                have hw : mm_W G.1 vwCl (ct_A M s.heap.size) s.heap M_1 H9 locs9 := by rw [eM_1]; exact hw
                have hE : EV G L (va_up S1 4 (upd (S1 4) k (3))) (cs) (ar) (J) M_1 := hE.w_st q18 (3) eM_1
                refine lv_iinc (v := nI (k + 1)) (lv' := [(3, .int (nI (k + 1))), (4, .ref (L 10 k)), (0, .ref (L 0 0)), (1, .ref (L 1 0)), (2, .int 10)]) hx hb dX6_decideProposals_68 hl (k := 4) rfl (nI_s k) (by decide) rfl (fun ls hl => ?_)
                refine lv_goto (tgt := 10) hx hb dX6_decideProposals_71 (by decide) ?_
                exact ih (k + 1) (sp_agrees S1 k) _ _ _ _ (by omega) (by omega) (by rw [show min (k + 1) ne = k + 1 from by omega, ce_s]; rw [show min k ne = k from by omega] at hS; rw [← hS, if_pos ⟨c31, c43⟩]) (hM.agrees k) (hV1.of (ag_11 S1 k)) hw (by rw [sp_agrees, g7b, if_pos (Decidable.byContradiction c57)]; exact hE.r6 (Or.inl rfl) _) (lv_sub hl [2, 3, 4, 0] rfl)
              · refine lv_iconst (v := 2) hx hb dX6_decideProposals_60 (by decide) ?_
                refine lv_goto (tgt := 65) hx hb dX6_decideProposals_61 (by decide) ?_
                refine pf_X6_74 X hw (hE.k10 q18) (Nat.le_of_ble_eq_true rfl) dX6_decideProposals_65 (fun H9 locs9 hw => ?_)
                obtain ⟨M_2, eM_2⟩ : ∃ z, z = mm_up M1 (L 10 k) (.inr (2, [.int (nI k), .ref (L 11 k), .ref (L 12 k), .int (S1 3 k), .int 2])) := ⟨_, rfl⟩
                have hw : mm_W G.1 vwCl (ct_A M s.heap.size) s.heap M_2 H9 locs9 := by rw [eM_2]; exact hw
                have hE : EV G L (va_up S1 4 (upd (S1 4) k (2))) (cs) (ar) (J) M_2 := hE.w_st q18 (2) eM_2
                refine lv_iinc (v := nI (k + 1)) (lv' := [(3, .int (nI (k + 1))), (4, .ref (L 10 k)), (0, .ref (L 0 0)), (1, .ref (L 1 0)), (2, .int 10)]) hx hb dX6_decideProposals_68 hl (k := 4) rfl (nI_s k) (by decide) rfl (fun ls hl => ?_)
                refine lv_goto (tgt := 10) hx hb dX6_decideProposals_71 (by decide) ?_
                exact ih (k + 1) (sp_agrees S1 k) _ _ _ _ (by omega) (by omega) (by rw [show min (k + 1) ne = k + 1 from by omega, ce_s]; rw [show min k ne = k from by omega] at hS; rw [← hS, if_pos ⟨c31, c43⟩]) (hM.agrees k) (hV1.of (ag_11 S1 k)) hw (by rw [sp_agrees, g7b, if_neg c57]; exact hE.r6 (Or.inl rfl) _) (lv_sub hl [2, 3, 4, 0] rfl)
        · refine mm_rfN (rfs_n q18) ?_
          refine lv_astoreN (lv' := [(4, .null), (0, .ref (L 0 0)), (1, .ref (L 1 0)), (2, .int 10), (3, .int (nI k))]) hx hb dX6_decideProposals_18 hl (by decide) rfl (fun ls hl => ?_)
          refine lv_aloadN hx hb dX6_decideProposals_20 (lv_at hl 0 rfl) ?_
          refine lv_ifnullN (tgt := 68) hx hb dX6_decideProposals_22 (by decide) ?_
          refine lv_iinc (v := nI (k + 1)) (lv' := [(3, .int (nI (k + 1))), (4, .null), (0, .ref (L 0 0)), (1, .ref (L 1 0)), (2, .int 10)]) hx hb dX6_decideProposals_68 hl (k := 4) rfl (nI_s k) (by decide) rfl (fun ls hl => ?_)
          refine lv_goto (tgt := 10) hx hb dX6_decideProposals_71 (by decide) ?_
          exact ih (k + 1) S1 _ _ _ _ (by omega) (by omega) (by rw [show min (k + 1) ne = min k ne from by omega]; exact hS) (hM) (hV1) hw hE (lv_sub hl [2, 3, 4, 0] rfl)
  exact loop 11 0 S _ _ _ _ (by omega) (by omega) (by rw [show min 0 ne = 0 from by omega]; rfl) (hN) (hV) hw hE (lv_sub hl [3, 2, 1, 0] rfl)
set_option maxHeartbeats 4000000 in
set_option maxRecDepth 100000 in
theorem c_haltLackingNodes (l : Launch) (G : mG) (M : mM) (L : Nat → Nat → Nat) (S : sS) (cs ar : Nat → Int64) (J : eJ) (hE : EV G L S cs ar J M) (ne nn nc nl ht : Nat) (hN : NM S ne nn nc nl ht) (hF : S 6 (cl (S 5 0)) = nI (if_go S (S 5 0) ne)) : Ct l yX6_haltLackingNodes cX6_haltLackingNodes 6 none (mm_r 1 0 0) G [.ref (L 0 0)] M (fun r M1 => r = none ∧ EV G L (co_n S nn) cs ar J M1) := by
  refine Ct.of (by decide) (Nat.le_of_ble_eq_true rfl) ?_
  intro p e s m args below meth c ls Q X hin hl hw hQ
  have hx := X.1
  have hb := X.2.1
  have hl : lv_has ls 6 [(0, .ref (L 0 0))] := hl
  obtain ⟨hN0, hN1, hN2, hN7, hN8, hN12, hN13, hN18, hN19, hN5, hN6⟩ := id hN
  have h0b : cl (S 0 0) = ne := by rw [hN0, cl_n (by omega)]
  have h7b : cl (S 7 0) = nn := by rw [hN7, cl_n (by omega)]
  have h12b : cl (S 12 0) = nc := by rw [hN12, cl_n (by omega)]
  have h18b : cl (S 18 0) = nl := by rw [hN18, cl_n (by omega)]
  have h5b : cl (S 5 0) = ht := by rw [hN5, cl_n (by omega)]
  have hel : if_go S (S 5 0) ne < ne := if_go_lt _ _ ne hN1
  refine lv_aload_n hx hb dX6_haltLackingNodes_0 rfl (lv_at hl 0 rfl) ?_
  refine lv_aload_n hx hb dX6_haltLackingNodes_1 rfl (lv_at hl 0 rfl) ?_
  refine gf_X6_60 X hw (hE.k0) rfl dX6_haltLackingNodes_2 ?_
  refine mm_callV (As := [.int (S 5 0)]) (rest := []) X hw (c_inForceAt l G _ L _ _ _ _ hE ne nn nc nl ht hN (S 5 0)) (hE.k0) rfl wd_X6_134 ⟨Nat.le_of_ble_eq_true rfl, Nat.le_of_ble_eq_true rfl⟩ ⟨Nat.le_of_ble_eq_true rfl, Nat.le_of_ble_eq_true rfl⟩ rfl rfl (Nat.le_of_ble_eq_true rfl) hl.1 dX6_haltLackingNodes_5 (fun v9 M9 H9 locs9 hp9 hw => ?_)
  obtain ⟨rfl, rfl⟩ := hp9
  refine W.eq (g2 := F0 m 8 ls [.ref (L 10 (if_go S (S 5 0) ne))]) rfl ?_
  refine gf_X6_85 X hw (hE.k10 (show (if_go S (S 5 0) ne) < cl (S 0 0) from (by rw [h0b]; exact if_go_lt _ _ ne hN1))) rfl dX6_haltLackingNodes_8 ?_
  refine lv_istore_n (lv' := [(1, .int (nI (if_go S (S 5 0) ne))), (0, .ref (L 0 0))]) hx hb dX6_haltLackingNodes_11 rfl hl (by decide) rfl (fun ls hl => ?_)
  refine lv_aload_n hx hb dX6_haltLackingNodes_12 rfl (lv_at hl 1 rfl) ?_
  refine gf_X6_17 X hw (hE.k0) rfl dX6_haltLackingNodes_13 ?_
  refine lv_astore_n (lv' := [(2, .ref (L 2 0)), (1, .int (nI (if_go S (S 5 0) ne))), (0, .ref (L 0 0))]) hx hb dX6_haltLackingNodes_16 rfl hl (by decide) rfl (fun ls hl => ?_)
  refine lv_aload_n hx hb dX6_haltLackingNodes_17 rfl (lv_at hl 0 rfl) ?_
  refine mi_alen X hw 4 (hE.k2) rfl dX6_haltLackingNodes_18 ?_
  refine W.eq (g2 := F0 m 19 ls [.int 12]) rfl ?_
  refine lv_istore_n (lv' := [(3, .int 12), (2, .ref (L 2 0)), (1, .int (nI (if_go S (S 5 0) ne))), (0, .ref (L 0 0))]) hx hb dX6_haltLackingNodes_19 rfl hl (by decide) rfl (fun ls hl => ?_)
  refine lv_iconst (v := 0) hx hb dX6_haltLackingNodes_20 (by decide) ?_
  refine lv_istore (lv' := [(4, .int 0), (3, .int 12), (2, .ref (L 2 0)), (1, .int (nI (if_go S (S 5 0) ne))), (0, .ref (L 0 0))]) hx hb dX6_haltLackingNodes_21 hl (by decide) rfl (fun ls hl => ?_)
  have loop : ∀ (n : Nat) (k : Nat) (S1 : sS) (M1 : mM) (H1 : Heap) (locs1 : List Loc) (ls1 : Array Slot), (hk : k ≤ 12) → (hn : 13 ≤ k + n) → (hS : S1 = co_n S (min k nn)) → (hM : NM S1 ne nn nc nl ht) → mm_W G.1 vwCl (ct_A M s.heap.size) s.heap M1 H1 locs1 → EV G L S1 cs ar J M1 → lv_has ls1 6 [(0, .ref (L 0 0)), (1, .int (nI (if_go S (S 5 0) ne))), (2, .ref (L 2 0)), (3, .int 12), (4, .int (nI k))] → W p l e (mm_r 1 0 0) s m args below meth c H1 locs1 0 0 Q (F0 m 23 ls1 []) := by
    intro n
    induction n with
    | zero => intro k S1 M1 H1 locs1 ls hk hn hS hM hw hE hl; exact absurd hn (by omega)
    | succ n ih =>
      intro k S1 M1 H1 locs1 ls hk hn hS hM hw hE hl
      refine lv_iload hx hb dX6_haltLackingNodes_23 (lv_at hl 4 rfl) ?_
      refine lv_iload_n hx hb dX6_haltLackingNodes_25 rfl (lv_at hl 3 rfl) ?_
      refine lv_icmp_ge (tgt := 72) hx hb dX6_haltLackingNodes_26 (by decide) (fun c26 => ?_) (fun c26 => ?_)
      · have hk9 : k = 12 := by have := nle (a := 12) (by decide) (by omega) c26; omega
        exact mm_vret hQ X hw (⟨rfl, by rw [show min k nn = nn from by omega] at hS; rw [← hS]; exact hE⟩) (Nat.le_of_ble_eq_true rfl) (Nat.le_of_ble_eq_true rfl) dX6_haltLackingNodes_72
      · have hk9 : k < 12 := nnle (a := 12) (by decide) (by omega) c26
        have g7b : cl (S1 7 0) = nn := by rw [hM.2.2.2.1, cl_n (by omega)]
        have h6 : S1 6 (cl (S1 5 0)) = nI (if_go S (S 5 0) ne) := by rw [hS, cn_row _ (by decide), cn_row _ (by decide)]; exact hF
        refine lv_aload_n hx hb dX6_haltLackingNodes_29 rfl (lv_at hl 2 rfl) ?_
        refine lv_iload hx hb dX6_haltLackingNodes_30 (lv_at hl 4 rfl) ?_
        refine mi_aald X hw 4 (hE.k2) rfl (k) (rfl) (hk9) (by decide) dX6_haltLackingNodes_32 ?_
        by_cases q33 : k < cl (S1 7 0)
        · refine mm_rfS (rfs_s q33) ?_
          refine lv_astore (lv' := [(5, .ref (L 20 k)), (0, .ref (L 0 0)), (1, .int (nI (if_go S (S 5 0) ne))), (2, .ref (L 2 0)), (3, .int 12), (4, .int (nI k))]) hx hb dX6_haltLackingNodes_33 hl (by decide) rfl (fun ls hl => ?_)
          refine lv_aload hx hb dX6_haltLackingNodes_35 (lv_at hl 0 rfl) ?_
          refine lv_ifnull hx hb dX6_haltLackingNodes_37 ?_
          refine lv_aload hx hb dX6_haltLackingNodes_40 (lv_at hl 0 rfl) ?_
          refine mm_callV (As := []) (rest := []) X hw (c_isHalted l G _ _ _ _ _ _ (hE.k20 q33)) (hE.k20 q33) rfl wd_X6_113 ⟨Nat.le_of_ble_eq_true rfl, Nat.le_of_ble_eq_true rfl⟩ ⟨Nat.le_of_ble_eq_true rfl, Nat.le_of_ble_eq_true rfl⟩ rfl rfl (Nat.le_of_ble_eq_true rfl) hl.1 dX6_haltLackingNodes_42 (fun v9 M9 H9 locs9 hp9 hw => ?_)
          obtain ⟨rfl, rfl⟩ := hp9
          refine W.eq (g2 := F0 m 45 ls [.int (bI (¬ S1 10 k = -1))]) rfl ?_
          refine mm_ifneB (tgt := 66) hx hb dX6_haltLackingNodes_45 (by decide) (fun c45 => ?_) (fun c45 => ?_)
          · refine lv_iinc (v := nI (k + 1)) (lv' := [(4, .int (nI (k + 1))), (5, .ref (L 20 k)), (0, .ref (L 0 0)), (1, .int (nI (if_go S (S 5 0) ne))), (2, .ref (L 2 0)), (3, .int 12)]) hx hb dX6_haltLackingNodes_66 hl (k := 5) rfl (nI_s k) (by decide) rfl (fun ls hl => ?_)
            refine lv_goto (tgt := 23) hx hb dX6_haltLackingNodes_69 (by decide) ?_
            exact ih (k + 1) S1 _ _ _ _ (by omega) (by omega) (by rw [show min (k + 1) nn = k + 1 from by omega, co_n_s]; rw [show min k nn = k from by omega] at hS; rw [← hS, h6, if_neg (fun h9 => c45 h9.1)]) (hM) hw hE (lv_sub hl [2, 3, 4, 5, 0] rfl)
          · refine lv_aload hx hb dX6_haltLackingNodes_48 (lv_at hl 0 rfl) ?_
            refine lv_iload_n hx hb dX6_haltLackingNodes_50 rfl (lv_at hl 2 rfl) ?_
            refine mm_callV (As := [.int (nI (if_go S (S 5 0) ne))]) (rest := []) X hw (c_hasEdition l G _ _ _ _ _ _ (nI (if_go S (S 5 0) ne)) (hE.k20 q33)) (hE.k20 q33) rfl wd_X6_217 ⟨Nat.le_of_ble_eq_true rfl, Nat.le_of_ble_eq_true rfl⟩ ⟨Nat.le_of_ble_eq_true rfl, Nat.le_of_ble_eq_true rfl⟩ rfl rfl (Nat.le_of_ble_eq_true rfl) hl.1 dX6_haltLackingNodes_51 (fun v9 M9 H9 locs9 hp9 hw => ?_)
            obtain ⟨rfl, rfl⟩ := hp9
            refine W.eq (g2 := F0 m 54 ls [.int (bI (¬ S1 9 k &&& (1 <<< ((nI (if_go S (S 5 0) ne)) &&& 31)) = 0))]) rfl ?_
            refine mm_ifneB (tgt := 66) hx hb dX6_haltLackingNodes_54 (by decide) (fun c54 => ?_) (fun c54 => ?_)
            · refine lv_iinc (v := nI (k + 1)) (lv' := [(4, .int (nI (k + 1))), (5, .ref (L 20 k)), (0, .ref (L 0 0)), (1, .int (nI (if_go S (S 5 0) ne))), (2, .ref (L 2 0)), (3, .int 12)]) hx hb dX6_haltLackingNodes_66 hl (k := 5) rfl (nI_s k) (by decide) rfl (fun ls hl => ?_)
              refine lv_goto (tgt := 23) hx hb dX6_haltLackingNodes_69 (by decide) ?_
              exact ih (k + 1) S1 _ _ _ _ (by omega) (by omega) (by rw [show min (k + 1) nn = k + 1 from by omega, co_n_s]; rw [show min k nn = k from by omega] at hS; rw [← hS, h6, if_neg (fun h9 => c54 ((b_sh (by omega) _).mpr h9.2))]) (hM) hw hE (lv_sub hl [2, 3, 4, 5, 0] rfl)
            · refine lv_aload hx hb dX6_haltLackingNodes_57 (lv_at hl 0 rfl) ?_
              refine lv_aload_n hx hb dX6_haltLackingNodes_59 rfl (lv_at hl 1 rfl) ?_
              refine gf_X6_60 X hw (hE.k0) rfl dX6_haltLackingNodes_60 ?_
              refine pf_X6_137 X hw (hE.k20 q33) (Nat.le_of_ble_eq_true rfl) dX6_haltLackingNodes_63 (fun H9 locs9 hw => ?_)
              obtain ⟨M_1, eM_1⟩ : ∃ z, z = mm_up M1 (L 20 k) (.inr (5, [.int (S1 8 k), .int (S1 9 k), .int (J.1 k), .int (S1 5 0)])) := ⟨_, rfl⟩
              have hw : mm_W G.1 vwCl (ct_A M s.heap.size) s.heap M_1 H9 locs9 := by rw [eM_1]; exact hw
              have hE : EV G L (va_up S1 10 (upd (S1 10) k (S1 5 0))) (cs) (ar) (J) M_1 := hE.w_ha q33 (S1 5 0) eM_1
              refine lv_iinc (v := nI (k + 1)) (lv' := [(4, .int (nI (k + 1))), (5, .ref (L 20 k)), (0, .ref (L 0 0)), (1, .int (nI (if_go S (S 5 0) ne))), (2, .ref (L 2 0)), (3, .int 12)]) hx hb dX6_haltLackingNodes_66 hl (k := 5) rfl (nI_s k) (by decide) rfl (fun ls hl => ?_)
              refine lv_goto (tgt := 23) hx hb dX6_haltLackingNodes_69 (by decide) ?_
              exact ih (k + 1) _ _ _ _ _ (by omega) (by omega) (by rw [show min (k + 1) nn = k + 1 from by omega, co_n_s]; rw [show min k nn = k from by omega] at hS; rw [← hS, h6, if_pos ⟨Decidable.byContradiction c45, (b_sh (by omega) _).mp (Decidable.byContradiction c54)⟩]) (hM.up _ (by decide)) hw hE (lv_sub hl [2, 3, 4, 5, 0] rfl)
        · refine mm_rfN (rfs_n q33) ?_
          refine lv_astoreN (lv' := [(5, .null), (0, .ref (L 0 0)), (1, .int (nI (if_go S (S 5 0) ne))), (2, .ref (L 2 0)), (3, .int 12), (4, .int (nI k))]) hx hb dX6_haltLackingNodes_33 hl (by decide) rfl (fun ls hl => ?_)
          refine lv_aloadN hx hb dX6_haltLackingNodes_35 (lv_at hl 0 rfl) ?_
          refine lv_ifnullN (tgt := 66) hx hb dX6_haltLackingNodes_37 (by decide) ?_
          refine lv_iinc (v := nI (k + 1)) (lv' := [(4, .int (nI (k + 1))), (5, .null), (0, .ref (L 0 0)), (1, .int (nI (if_go S (S 5 0) ne))), (2, .ref (L 2 0)), (3, .int 12)]) hx hb dX6_haltLackingNodes_66 hl (k := 5) rfl (nI_s k) (by decide) rfl (fun ls hl => ?_)
          refine lv_goto (tgt := 23) hx hb dX6_haltLackingNodes_69 (by decide) ?_
          exact ih (k + 1) S1 _ _ _ _ (by omega) (by omega) (by rw [show min (k + 1) nn = min k nn from by omega]; exact hS) (hM) hw hE (lv_sub hl [2, 3, 4, 5, 0] rfl)
  exact loop 13 0 S _ _ _ _ (by omega) (by omega) (by rw [show min 0 nn = 0 from by omega]; rfl) (hN) hw hE (lv_sub hl [4, 3, 2, 1, 0] rfl)
set_option maxHeartbeats 4000000 in
set_option maxRecDepth 100000 in
theorem c_rise (l : Launch) (G : mG) (M : mM) (L : Nat → Nat → Nat) (S : sS) (cs ar : Nat → Int64) (J : eJ) (hE : EV G L S cs ar J M) (ne nn nc nl ht : Nat) (hN : NM S ne nn nc nl ht) (hV : VR S J.1) (x : Int32) (hF : ∀ k, ht + k < 1000 → (co_e (ri_k S k) ne) 6 (cl ((co_e (ri_k S k) ne) 5 0)) = nI (if_go (co_e (ri_k S k) ne) ((co_e (ri_k S k) ne) 5 0) ne)) : Ct l yX6_rise cX6_rise 3 (some FieldType.int) (mm_r 3 0 0) G [.ref (L 0 0), .int x] M (fun r M1 => r = some (.int (sp_rise S x).1) ∧ ∃ J1, J1.1 = J.1 ∧ EV G L (sp_rise S x).2 cs ar J1 M1) := by
  refine Ct.of (by decide) (Nat.le_of_ble_eq_true rfl) ?_
  intro p e s m args below meth c ls Q X hin hl hw hQ
  have hx := X.1
  have hb := X.2.1
  have hl : lv_has ls 3 [(0, .ref (L 0 0)), (1, .int x)] := hl
  obtain ⟨hN0, hN1, hN2, hN7, hN8, hN12, hN13, hN18, hN19, hN5, hN6⟩ := id hN
  have h0b : cl (S 0 0) = ne := by rw [hN0, cl_n (by omega)]
  have h7b : cl (S 7 0) = nn := by rw [hN7, cl_n (by omega)]
  have h12b : cl (S 12 0) = nc := by rw [hN12, cl_n (by omega)]
  have h18b : cl (S 18 0) = nl := by rw [hN18, cl_n (by omega)]
  have h5b : cl (S 5 0) = ht := by rw [hN5, cl_n (by omega)]
  refine lv_iload_n hx hb dX6_rise_0 rfl (lv_at hl 1 rfl) ?_
  refine lv_iconst (v := 1) hx hb dX6_rise_1 (by decide) ?_
  refine lv_icmp_lt (tgt := 11) hx hb dX6_rise_2 (by decide) (fun c2 => ?_) (fun c2 => ?_)
  · refine lv_bipush (v := (-2)) hx hb dX6_rise_11 (by decide) ?_
    exact mm_iret hQ X hw (by have e9 : sp_rise S x = (-2, S) := (by rw [sp_rise, if_pos (fun h9 => i32_lt_nle c2 h9.1)]); rw [e9]; exact ⟨rfl, _, rfl, hE⟩) (Nat.le_of_ble_eq_true rfl) (Nat.le_of_ble_eq_true rfl) dX6_rise_13
  · refine lv_iload_n hx hb dX6_rise_5 rfl (lv_at hl 1 rfl) ?_
    refine lv_bipush (v := 100) hx hb dX6_rise_6 (by decide) ?_
    refine lv_icmp_le (tgt := 14) hx hb dX6_rise_8 (by decide) (fun c8 => ?_) (fun c8 => ?_)
    · have px : 0 ≤ x := i32_le_trans (by decide) (i32_nlt c2)
      have b_x : cl x ≤ 100 := cl_le (n := 100) rfl (by decide) ⟨px, c8⟩
      refine lv_aload_n hx hb dX6_rise_14 rfl (lv_at hl 0 rfl) ?_
      refine gf_X6_60 X hw (hE.k0) rfl dX6_rise_15 ?_
      refine lv_iload_n hx hb dX6_rise_18 rfl (lv_at hl 1 rfl) ?_
      refine lv_iadd hx hb dX6_rise_19 ?_
      refine lv_sipush (v := 1000) hx hb dX6_rise_20 (by decide) ?_
      refine lv_icmp_le (tgt := 29) hx hb dX6_rise_23 (by decide) (fun c23 => ?_) (fun c23 => ?_)
      · have b_h : ht + cl x ≤ 1000 := by rw [hN5, nI_cl px, nI_add] at c23; exact nle (b := 1000) (by omega) (by decide) c23
        refine lv_iconst (v := 0) hx hb dX6_rise_29 (by decide) ?_
        refine lv_istore_n (lv' := [(2, .int 0), (0, .ref (L 0 0)), (1, .int x)]) hx hb dX6_rise_30 rfl hl (by decide) rfl (fun ls hl => ?_)
        have loop : ∀ (n : Nat) (k : Nat) (S1 : sS) (M1 : mM) (H1 : Heap) (locs1 : List Loc) (ls1 : Array Slot), (hk : k ≤ cl x) → (hn : cl x + 1 ≤ k + n) → (hS : S1 = ri_k S k) → (hM : NM S1 ne nn nc nl (ht + k)) → (hV1 : VR S1 J.1) → mm_W G.1 vwCl (ct_A M s.heap.size) s.heap M1 H1 locs1 → EV G L S1 cs ar J M1 → lv_has ls1 3 [(0, .ref (L 0 0)), (1, .int x), (2, .int (nI k))] → W p l e (mm_r 3 0 0) s m args below meth c H1 locs1 0 0 Q (F0 m 31 ls1 []) := by
          intro n
          induction n with
          | zero => intro k S1 M1 H1 locs1 ls hk hn hS hM hV1 hw hE hl; exact absurd hn (by omega)
          | succ n ih =>
            intro k S1 M1 H1 locs1 ls hk hn hS hM hV1 hw hE hl
            refine lv_iload_n hx hb dX6_rise_31 rfl (lv_at hl 2 rfl) ?_
            refine lv_iload_n hx hb dX6_rise_32 rfl (lv_at hl 1 rfl) ?_
            refine lv_icmp_ge (tgt := 60) hx hb dX6_rise_33 (by decide) (fun c33 => ?_) (fun c33 => ?_)
            · have hk9 : k = cl x := by rw [nI_cl px] at c33; have := nle (by omega) (by omega) c33; omega
              refine lv_aload_n hx hb dX6_rise_60 rfl (lv_at hl 0 rfl) ?_
              refine gf_X6_60 X hw (hE.k0) rfl dX6_rise_61 ?_
              exact mm_iret hQ X hw (by have e9 : sp_rise S x = (S1 5 0, S1) := (by rw [sp_rise, if_neg (fun h9 => h9 ⟨i32_nlt c2, c8⟩), if_neg (fun h9 => h9 c23), hS, hk9]); rw [e9]; exact ⟨rfl, _, rfl, hE⟩) (Nat.le_of_ble_eq_true rfl) (Nat.le_of_ble_eq_true rfl) dX6_rise_64
            · have hk9 : k < cl x := by rw [nI_cl px] at c33; exact nnle (by omega) (by omega) c33
              have m7b : cl (S1 7 0) = nn := by rw [hM.2.2.2.1, cl_n (by omega)]
              have m0b : cl (S1 0 0) = ne := by rw [hM.1, cl_n (by omega)]
              refine lv_aload_n hx hb dX6_rise_36 rfl (lv_at hl 0 rfl) ?_
              refine lv_dup hx hb dX6_rise_37 rfl ?_
              refine gf_X6_60 X hw (hE.k0) rfl dX6_rise_38 ?_
              refine lv_iconst (v := 1) hx hb dX6_rise_41 (by decide) ?_
              refine lv_iadd hx hb dX6_rise_42 ?_
              refine pf_X6_60 X hw (hE.k0) (Nat.le_of_ble_eq_true rfl) dX6_rise_43 (fun H9 locs9 hw => ?_)
              obtain ⟨M_1, eM_1⟩ : ∃ z, z = mm_up M1 (L 0 0) (.inr (6, [.ref (L 1 0), .ref (L 2 0), .ref (L 3 0), .ref (L 4 0), .ref (L 10 0), .ref (L 5 0), .int (S1 0 0), .int (S1 7 0), .int (S1 12 0), .int (S1 18 0), .int ((S1 5 0) + 1), .int (S1 24 0)])) := ⟨_, rfl⟩
              have hw : mm_W G.1 vwCl (ct_A M s.heap.size) s.heap M_1 H9 locs9 := by rw [eM_1]; exact hw
              have hE : EV G L (va_up S1 5 (fun _ => (S1 5 0) + 1)) (cs) (ar) (J) M_1 := hE.w_ht ((S1 5 0) + 1) eM_1
              have hE : EV G L (co_1 S1) cs ar J M_1 := hE.r6 (Or.inl rfl) _
              refine lv_aload_n hx hb dX6_rise_46 rfl (lv_at hl 0 rfl) ?_
              refine mm_callV (As := []) (rest := []) X hw (c_decideProposals l G _ L (co_1 S1) _ _ _ hE ne nn nc nl (ht + k + 1) (hM.co1 (by omega)) (hV1.of rfl)) (hE.k0) rfl wd_X6_128 ⟨Nat.le_of_ble_eq_true rfl, Nat.le_of_ble_eq_true rfl⟩ ⟨Nat.le_of_ble_eq_true rfl, Nat.le_of_ble_eq_true rfl⟩ rfl rfl (Nat.le_of_ble_eq_true rfl) hl.1 dX6_rise_47 (fun v9 M9 H9 locs9 hp9 hw => ?_)
              obtain ⟨rfl, hE⟩ := hp9
              refine W.eq (g2 := F0 m 50 ls []) rfl ?_
              rw [← ce_co] at hE
              refine lv_aload_n hx hb dX6_rise_50 rfl (lv_at hl 0 rfl) ?_
              refine mm_callV (As := []) (rest := []) X hw (c_haltLackingNodes l G _ L (co_e S1 ne) _ _ _ hE ne nn nc nl (ht + k + 1) (hM.coe (by omega) ne) (by rw [hS]; exact hF k (by omega))) (hE.k0) rfl wd_X6_131 ⟨Nat.le_of_ble_eq_true rfl, Nat.le_of_ble_eq_true rfl⟩ ⟨Nat.le_of_ble_eq_true rfl, Nat.le_of_ble_eq_true rfl⟩ rfl rfl (Nat.le_of_ble_eq_true rfl) hl.1 dX6_rise_51 (fun v9 M9 H9 locs9 hp9 hw => ?_)
              obtain ⟨rfl, hE⟩ := hp9
              refine W.eq (g2 := F0 m 54 ls []) rfl ?_
              have hE : EV G L (sp_comes S1) cs ar J M9 := by rw [sp_comes, m7b, m0b]; exact hE
              refine lv_iinc (v := nI (k + 1)) (lv' := [(2, .int (nI (k + 1))), (0, .ref (L 0 0)), (1, .int x)]) hx hb dX6_rise_54 hl (k := 2) rfl (nI_s k) (by decide) rfl (fun ls hl => ?_)
              refine lv_goto (tgt := 31) hx hb dX6_rise_57 (by decide) ?_
              exact ih (k + 1) (sp_comes S1) _ _ _ _ (by omega) (by omega) (by rw [hS]; rfl) (hM.comes (by omega)) (hV1.of (co_11 S1)) hw hE (lv_sub hl [1, 2, 0] rfl)
        exact loop (cl x + 1) 0 S _ _ _ _ (by omega) (by omega) (rfl) (hN) (hV) hw hE (lv_sub hl [1, 2, 0] rfl)
      · refine lv_bipush (v := (-4)) hx hb dX6_rise_26 (by decide) ?_
        exact mm_iret hQ X hw (by have e9 : sp_rise S x = (-4, S) := (by rw [sp_rise, if_neg (fun h9 => h9 ⟨i32_nlt c2, c8⟩), if_pos c23]); rw [e9]; exact ⟨rfl, _, rfl, hE⟩) (Nat.le_of_ble_eq_true rfl) (Nat.le_of_ble_eq_true rfl) dX6_rise_28
    · refine lv_bipush (v := (-2)) hx hb dX6_rise_11 (by decide) ?_
      exact mm_iret hQ X hw (by have e9 : sp_rise S x = (-2, S) := (by rw [sp_rise, if_pos (fun h9 => c8 h9.2)]); rw [e9]; exact ⟨rfl, _, rfl, hE⟩) (Nat.le_of_ble_eq_true rfl) (Nat.le_of_ble_eq_true rfl) dX6_rise_13
