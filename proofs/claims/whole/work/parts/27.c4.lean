set_option maxHeartbeats 4000000 in
set_option maxRecDepth 100000 in
theorem c_highestProposed (l : Launch) (G : mG) (M : mM) (L : Nat → Nat → Nat) (S : sS) (cs ar : Nat → Int64) (J : eJ) (hE : EV G L S cs ar J M) (ne nn nc nl ht : Nat) (hN : NM S ne nn nc nl ht)  : Ct l yX6_highestProposed cX6_highestProposed 6 (some FieldType.int) (mm_r 1 0 0) G [.ref (L 0 0)] M (fun r M1 => r = some (.int (hp_go S ne)) ∧ M = M1) := by
  refine Ct.of (by decide) (Nat.le_of_ble_eq_true rfl) ?_
  intro p e s m args below meth c ls Q X hin hl hw hQ
  have hx := X.1
  have hb := X.2.1
  have hl : lv_has ls 6 [(0, .ref (L 0 0))] := hl
  obtain ⟨hN0, hN1, hN2, hN7, hN8, hN12, hN13, hN18, hN19, hN5, hN6⟩ := id hN
  have h0b : cl (S 0 0) = ne := by rw [hN0, cl_n (by omega)]
  have h7b : cl (S 7 0) = nn := by rw [hN7, cl_n (by omega)]
  have h12b : cl (S 12 0) = nc := by rw [hN12, cl_n (by omega)]
  have h18b : cl (S 18 0) = nl := by rw [hN18, cl_n (by omega)]
  have h5b : cl (S 5 0) = ht := by rw [hN5, cl_n (by omega)]
  refine lv_iconst (v := 0) hx hb dX6_highestProposed_0 (by decide) ?_
  refine lv_istore_n (lv' := [(1, .int 0), (0, .ref (L 0 0))]) hx hb dX6_highestProposed_1 rfl hl (by decide) rfl (fun ls hl => ?_)
  refine lv_aload_n hx hb dX6_highestProposed_2 rfl (lv_at hl 1 rfl) ?_
  refine gf_X6_11 X hw (hE.k0) rfl dX6_highestProposed_3 ?_
  refine lv_astore_n (lv' := [(2, .ref (L 1 0)), (1, .int 0), (0, .ref (L 0 0))]) hx hb dX6_highestProposed_6 rfl hl (by decide) rfl (fun ls hl => ?_)
  refine lv_aload_n hx hb dX6_highestProposed_7 rfl (lv_at hl 0 rfl) ?_
  refine mi_alen X hw 3 (hE.k1) rfl dX6_highestProposed_8 ?_
  refine W.eq (g2 := F0 m 9 ls [.int 10]) rfl ?_
  refine lv_istore_n (lv' := [(3, .int 10), (2, .ref (L 1 0)), (1, .int 0), (0, .ref (L 0 0))]) hx hb dX6_highestProposed_9 rfl hl (by decide) rfl (fun ls hl => ?_)
  refine lv_iconst (v := 0) hx hb dX6_highestProposed_10 (by decide) ?_
  refine lv_istore (lv' := [(4, .int 0), (3, .int 10), (2, .ref (L 1 0)), (1, .int 0), (0, .ref (L 0 0))]) hx hb dX6_highestProposed_11 hl (by decide) rfl (fun ls hl => ?_)
  have loop : ∀ (n : Nat) (k : Nat) (q : Int32) (H1 : Heap) (locs1 : List Loc) (ls1 : Array Slot), (hk : k ≤ 10) → (hn : 11 ≤ k + n) → (hq : q = hp_go S (min k ne)) → mm_W G.1 vwCl (ct_A M s.heap.size) s.heap M H1 locs1 → lv_has ls1 6 [(0, .ref (L 0 0)), (1, .int q), (2, .ref (L 1 0)), (3, .int 10), (4, .int (nI k))] → W p l e (mm_r 1 0 0) s m args below meth c H1 locs1 0 0 Q (F0 m 13 ls1 []) := by
    intro n
    induction n with
    | zero => intro k q H1 locs1 ls hk hn hq hw hl; exact absurd hn (by omega)
    | succ n ih =>
      intro k q H1 locs1 ls hk hn hq hw hl
      refine lv_iload hx hb dX6_highestProposed_13 (lv_at hl 4 rfl) ?_
      refine lv_iload_n hx hb dX6_highestProposed_15 rfl (lv_at hl 3 rfl) ?_
      refine lv_icmp_ge (tgt := 46) hx hb dX6_highestProposed_16 (by decide) (fun c16 => ?_) (fun c16 => ?_)
      · have hk9 : k = 10 := by have := nle (a := 10) (by decide) (by omega) c16; omega
        refine lv_iload_n hx hb dX6_highestProposed_46 rfl (lv_at hl 1 rfl) ?_
        exact mm_iret hQ X hw (⟨by rw [hq, show min k ne = ne from by omega], rfl⟩) (Nat.le_of_ble_eq_true rfl) (Nat.le_of_ble_eq_true rfl) dX6_highestProposed_47
      · have hk9 : k < 10 := nnle (a := 10) (by decide) (by omega) c16
        refine lv_aload_n hx hb dX6_highestProposed_19 rfl (lv_at hl 2 rfl) ?_
        refine lv_iload hx hb dX6_highestProposed_20 (lv_at hl 4 rfl) ?_
        refine mi_aald X hw 3 (hE.k1) rfl (k) (rfl) (hk9) (by decide) dX6_highestProposed_22 ?_
        by_cases q23 : k < cl (S 0 0)
        · refine mm_rfS (rfs_s q23) ?_
          refine lv_astore (lv' := [(5, .ref (L 10 k)), (0, .ref (L 0 0)), (1, .int q), (2, .ref (L 1 0)), (3, .int 10), (4, .int (nI k))]) hx hb dX6_highestProposed_23 hl (by decide) rfl (fun ls hl => ?_)
          refine lv_aload hx hb dX6_highestProposed_25 (lv_at hl 0 rfl) ?_
          refine lv_ifnull hx hb dX6_highestProposed_27 ?_
          refine lv_iload_n hx hb dX6_highestProposed_30 rfl (lv_at hl 2 rfl) ?_
          refine lv_aload hx hb dX6_highestProposed_31 (lv_at hl 0 rfl) ?_
          refine gf_X6_73 X hw (hE.k10 q23) rfl dX6_highestProposed_33 ?_
          refine mm_callS (As := [.int q, .int (S 3 k)]) (rest := []) X hw (c_max l G _ (q) (S 3 k)) wd_X6_203 ⟨Nat.le_of_ble_eq_true rfl, Nat.le_of_ble_eq_true rfl⟩ ⟨Nat.le_of_ble_eq_true rfl, Nat.le_of_ble_eq_true rfl⟩ rfl rfl (Nat.le_of_ble_eq_true rfl) hl.1 dX6_highestProposed_36 (fun v9 M9 H9 locs9 hp9 hw => ?_)
          obtain ⟨rfl, rfl⟩ := hp9
          refine W.eq (g2 := F0 m 39 ls [.int (if q < (S 3 k) then S 3 k else q)]) rfl ?_
          refine lv_istore_n (lv' := [(1, .int (if q < (S 3 k) then S 3 k else q)), (5, .ref (L 10 k)), (0, .ref (L 0 0)), (2, .ref (L 1 0)), (3, .int 10), (4, .int (nI k))]) hx hb dX6_highestProposed_39 rfl hl (by decide) rfl (fun ls hl => ?_)
          refine lv_iinc (v := nI (k + 1)) (lv' := [(4, .int (nI (k + 1))), (1, .int (if q < (S 3 k) then S 3 k else q)), (5, .ref (L 10 k)), (0, .ref (L 0 0)), (2, .ref (L 1 0)), (3, .int 10)]) hx hb dX6_highestProposed_40 hl (k := 5) rfl (nI_s k) (by decide) rfl (fun ls hl => ?_)
          refine lv_goto (tgt := 13) hx hb dX6_highestProposed_43 (by decide) ?_
          exact ih (k + 1) _ _ _ _ (by omega) (by omega) (by rw [show min (k + 1) ne = k + 1 from by omega]; rw [show min k ne = k from by omega] at hq; rw [hq]; rfl) hw  (lv_sub hl [3, 1, 4, 5, 0] rfl)
        · refine mm_rfN (rfs_n q23) ?_
          refine lv_astoreN (lv' := [(5, .null), (0, .ref (L 0 0)), (1, .int q), (2, .ref (L 1 0)), (3, .int 10), (4, .int (nI k))]) hx hb dX6_highestProposed_23 hl (by decide) rfl (fun ls hl => ?_)
          refine lv_aloadN hx hb dX6_highestProposed_25 (lv_at hl 0 rfl) ?_
          refine lv_ifnullN (tgt := 40) hx hb dX6_highestProposed_27 (by decide) ?_
          refine lv_iinc (v := nI (k + 1)) (lv' := [(4, .int (nI (k + 1))), (5, .null), (0, .ref (L 0 0)), (1, .int q), (2, .ref (L 1 0)), (3, .int 10)]) hx hb dX6_highestProposed_40 hl (k := 5) rfl (nI_s k) (by decide) rfl (fun ls hl => ?_)
          refine lv_goto (tgt := 13) hx hb dX6_highestProposed_43 (by decide) ?_
          exact ih (k + 1) q _ _ _ (by omega) (by omega) (by rw [show min (k + 1) ne = min k ne from by omega]; exact hq) hw  (lv_sub hl [2, 3, 4, 5, 0] rfl)
  exact loop 11 0 0 _ _ _ (by omega) (by omega) (by rw [show min 0 ne = 0 from by omega]; rfl) hw  (lv_sub hl [4, 3, 2, 1, 0] rfl)
set_option maxHeartbeats 4000000 in
set_option maxRecDepth 100000 in
theorem c_propose (l : Launch) (G : mG) (M : mM) (L : Nat → Nat → Nat) (S : sS) (cs ar : Nat → Int64) (J : eJ) (hE : EV G L S cs ar J M) (ne nn nc nl ht : Nat) (hN : NM S ne nn nc nl ht) (hP : PI S ne) (x h : Int32) : Ct l yX6_propose cX6_propose 4 (some FieldType.int) (mm_r 2 0 0) G [.ref (L 0 0), .int x, .int h] M (fun r M1 => r = some (.int (sp_propose S x h).1) ∧ ∃ J1, J1.1 = J.1 ∧ EV G L (sp_propose S x h).2 cs ar J1 M1) := by
  refine Ct.of (by decide) (Nat.le_of_ble_eq_true rfl) ?_
  intro p e s m args below meth c ls Q X hin hl hw hQ
  have hx := X.1
  have hb := X.2.1
  have hl : lv_has ls 4 [(0, .ref (L 0 0)), (1, .int x), (2, .int h)] := hl
  obtain ⟨hN0, hN1, hN2, hN7, hN8, hN12, hN13, hN18, hN19, hN5, hN6⟩ := id hN
  have h0b : cl (S 0 0) = ne := by rw [hN0, cl_n (by omega)]
  have h7b : cl (S 7 0) = nn := by rw [hN7, cl_n (by omega)]
  have h12b : cl (S 12 0) = nc := by rw [hN12, cl_n (by omega)]
  have h18b : cl (S 18 0) = nl := by rw [hN18, cl_n (by omega)]
  have h5b : cl (S 5 0) = ht := by rw [hN5, cl_n (by omega)]
  refine lv_aload_n hx hb dX6_propose_0 rfl (lv_at hl 0 rfl) ?_
  refine lv_iload_n hx hb dX6_propose_1 rfl (lv_at hl 1 rfl) ?_
  refine mm_callV (As := [.int x]) (rest := []) X hw (c_editionAt l G _ L _ _ _ _ hE ne nn nc nl ht hN (x)) (hE.k0) rfl wd_X6_77 ⟨Nat.le_of_ble_eq_true rfl, Nat.le_of_ble_eq_true rfl⟩ ⟨Nat.le_of_ble_eq_true rfl, Nat.le_of_ble_eq_true rfl⟩ rfl rfl (Nat.le_of_ble_eq_true rfl) hl.1 dX6_propose_2 (fun v9 M9 H9 locs9 hp9 hw => ?_)
  obtain ⟨rfl, rfl⟩ := hp9
  refine W.eq (g2 := F0 m 5 ls [va_rf (atR (S 0 0) (L 10) (x))]) rfl ?_
  by_cases c2 : 0 ≤ x ∧ x < S 0 0
  · have l2 : cl x < cl (S 0 0) := by rw [h0b]; exact cl_lt hN0 (by omega) c2
    refine mm_rfS (atR_s c2) ?_
    refine lv_astore_n (lv' := [(3, .ref (L 10 (cl x))), (0, .ref (L 0 0)), (1, .int x), (2, .int h)]) hx hb dX6_propose_5 rfl hl (by decide) rfl (fun ls hl => ?_)
    refine lv_aload_n hx hb dX6_propose_6 rfl (lv_at hl 0 rfl) ?_
    refine lv_ifnull hx hb dX6_propose_7 ?_
    refine lv_iload_n hx hb dX6_propose_10 rfl (lv_at hl 3 rfl) ?_
    refine lv_sipush (v := 1000) hx hb dX6_propose_11 (by decide) ?_
    refine lv_icmp_le (tgt := 20) hx hb dX6_propose_14 (by decide) (fun c14 => ?_) (fun c14 => ?_)
    · refine lv_aload_n hx hb dX6_propose_20 rfl (lv_at hl 0 rfl) ?_
      refine gf_X6_74 X hw (hE.k10 l2) rfl dX6_propose_21 ?_
      refine lv_if_ne (tgt := 43) hx hb dX6_propose_24 (by decide) (fun c24 => ?_) (fun c24 => ?_)
      · refine lv_bipush (v := (-3)) hx hb dX6_propose_43 (by decide) ?_
        exact mm_iret hQ X hw (by have e9 : sp_propose S x h = ((-3), S) := (by rw [sp_propose, if_neg (fun h9 => h9 c2), if_neg (fun h9 => h9 c14), if_pos (fun h9 => c24 ((may_iff hP hN5 (by omega) h0b).mp h9).1)]); rw [e9]; exact ⟨rfl, _, rfl, hE⟩) (Nat.le_of_ble_eq_true rfl) (Nat.le_of_ble_eq_true rfl) dX6_propose_45
      · refine lv_iload_n hx hb dX6_propose_27 rfl (lv_at hl 3 rfl) ?_
        refine lv_aload_n hx hb dX6_propose_28 rfl (lv_at hl 1 rfl) ?_
        refine gf_X6_60 X hw (hE.k0) rfl dX6_propose_29 ?_
        refine lv_icmp_le (tgt := 43) hx hb dX6_propose_32 (by decide) (fun c32 => ?_) (fun c32 => ?_)
        · refine lv_bipush (v := (-3)) hx hb dX6_propose_43 (by decide) ?_
          exact mm_iret hQ X hw (by have e9 : sp_propose S x h = ((-3), S) := (by rw [sp_propose, if_neg (fun h9 => h9 c2), if_neg (fun h9 => h9 c14), if_pos (fun h9 => i32_lt_nle ((may_iff hP hN5 (by omega) h0b).mp h9).2.1 c32)]); rw [e9]; exact ⟨rfl, _, rfl, hE⟩) (Nat.le_of_ble_eq_true rfl) (Nat.le_of_ble_eq_true rfl) dX6_propose_45
        · refine lv_iload_n hx hb dX6_propose_35 rfl (lv_at hl 3 rfl) ?_
          refine lv_aload_n hx hb dX6_propose_36 rfl (lv_at hl 1 rfl) ?_
          refine mm_callV (As := []) (rest := [.int h]) X hw (c_highestProposed l G _ L _ _ _ _ hE ne nn nc nl ht hN) (hE.k0) rfl wd_X6_120 ⟨Nat.le_of_ble_eq_true rfl, Nat.le_of_ble_eq_true rfl⟩ ⟨Nat.le_of_ble_eq_true rfl, Nat.le_of_ble_eq_true rfl⟩ rfl rfl (Nat.le_of_ble_eq_true rfl) hl.1 dX6_propose_37 (fun v9 M9 H9 locs9 hp9 hw => ?_)
          obtain ⟨rfl, rfl⟩ := hp9
          refine W.eq (g2 := F0 m 40 ls [.int (hp_go S ne), .int h]) rfl ?_
          refine lv_icmp_gt (tgt := 46) hx hb dX6_propose_40 (by decide) (fun c40 => ?_) (fun c40 => ?_)
          · refine lv_aload_n hx hb dX6_propose_46 rfl (lv_at hl 0 rfl) ?_
            refine lv_iconst (v := 1) hx hb dX6_propose_47 (by decide) ?_
            refine pf_X6_74 X hw (hE.k10 l2) (Nat.le_of_ble_eq_true rfl) dX6_propose_48 (fun H9 locs9 hw => ?_)
            obtain ⟨M_1, eM_1⟩ : ∃ z, z = mm_up M (L 10 (cl x)) (.inr (2, [.int (nI (cl x)), .ref (L 11 (cl x)), .ref (L 12 (cl x)), .int (S 3 ((cl x))), .int 1])) := ⟨_, rfl⟩
            have hw : mm_W G.1 vwCl (ct_A M s.heap.size) s.heap M_1 H9 locs9 := by rw [eM_1]; exact hw
            have hE : EV G L (va_up S 4 (upd (S 4) ((cl x)) (1))) (cs) (ar) (J) M_1 := hE.w_st l2 (1) eM_1
            refine lv_aload_n hx hb dX6_propose_51 rfl (lv_at hl 0 rfl) ?_
            refine lv_iload_n hx hb dX6_propose_52 rfl (lv_at hl 3 rfl) ?_
            refine pf_X6_73 X hw (hE.k10 l2) (Nat.le_of_ble_eq_true rfl) dX6_propose_53 (fun H9 locs9 hw => ?_)
            obtain ⟨M_2, eM_2⟩ : ∃ z, z = mm_up M_1 (L 10 (cl x)) (.inr (2, [.int (nI (cl x)), .ref (L 11 (cl x)), .ref (L 12 (cl x)), .int h, .int ((upd (S 4) ((cl x)) (1)) ((cl x)))])) := ⟨_, rfl⟩
            have hw : mm_W G.1 vwCl (ct_A M s.heap.size) s.heap M_2 H9 locs9 := by rw [eM_2]; exact hw
            have hE : EV G L (va_up (va_up S 4 (upd (S 4) ((cl x)) (1))) 3 (upd (S 3) ((cl x)) (h))) (cs) (ar) (J) M_2 := hE.w_he l2 (h) eM_2
            refine lv_iconst (v := 1) hx hb dX6_propose_56 (by decide) ?_
            exact mm_iret hQ X hw (by have e9 : sp_propose S x h = (1, va_up (va_up S 4 (upd (S 4) ((cl x)) (1))) 3 (upd (S 3) ((cl x)) (h))) := (by rw [sp_propose, if_neg (fun h9 => h9 c2), if_neg (fun h9 => h9 c14), if_neg (fun h9 => h9 ((may_iff hP hN5 (by omega) h0b).mpr ⟨c24, i32_nle c32, c40⟩))]); rw [e9]; exact ⟨rfl, _, rfl, hE⟩) (Nat.le_of_ble_eq_true rfl) (Nat.le_of_ble_eq_true rfl) dX6_propose_57
          · refine lv_bipush (v := (-3)) hx hb dX6_propose_43 (by decide) ?_
            exact mm_iret hQ X hw (by have e9 : sp_propose S x h = ((-3), S) := (by rw [sp_propose, if_neg (fun h9 => h9 c2), if_neg (fun h9 => h9 c14), if_pos (fun h9 => c40 ((may_iff hP hN5 (by omega) h0b).mp h9).2.2)]); rw [e9]; exact ⟨rfl, _, rfl, hE⟩) (Nat.le_of_ble_eq_true rfl) (Nat.le_of_ble_eq_true rfl) dX6_propose_45
    · refine lv_bipush (v := (-2)) hx hb dX6_propose_17 (by decide) ?_
      exact mm_iret hQ X hw (by have e9 : sp_propose S x h = ((-2), S) := (by rw [sp_propose, if_neg (fun h9 => h9 c2), if_pos c14]); rw [e9]; exact ⟨rfl, _, rfl, hE⟩) (Nat.le_of_ble_eq_true rfl) (Nat.le_of_ble_eq_true rfl) dX6_propose_19
  · refine mm_rfN (atR_n c2) ?_
    refine lv_astore_nN (lv' := [(3, .null), (0, .ref (L 0 0)), (1, .int x), (2, .int h)]) hx hb dX6_propose_5 rfl hl (by decide) rfl (fun ls hl => ?_)
    refine lv_aload_nN hx hb dX6_propose_6 rfl (lv_at hl 0 rfl) ?_
    refine lv_ifnullN (tgt := 17) hx hb dX6_propose_7 (by decide) ?_
    refine lv_bipush (v := (-2)) hx hb dX6_propose_17 (by decide) ?_
    exact mm_iret hQ X hw (by have e9 : sp_propose S x h = ((-2), S) := (by rw [sp_propose, if_pos c2]); rw [e9]; exact ⟨rfl, _, rfl, hE⟩) (Nat.le_of_ble_eq_true rfl) (Nat.le_of_ble_eq_true rfl) dX6_propose_19
set_option maxHeartbeats 4000000 in
set_option maxRecDepth 100000 in
theorem c_inForceAt (l : Launch) (G : mG) (M : mM) (L : Nat → Nat → Nat) (S : sS) (cs ar : Nat → Int64) (J : eJ) (hE : EV G L S cs ar J M) (ne nn nc nl ht : Nat) (hN : NM S ne nn nc nl ht) (a : Int32) : Ct l yX6_inForceAt cX6_inForceAt 7 (some (FieldType.object "EngineVersions$Edition")) (mm_r 0 0 0) G [.ref (L 0 0), .int a] M (fun r M1 => r = some (.ref (L 10 (if_go S a ne))) ∧ M = M1) := by
  refine Ct.of (by decide) (Nat.le_of_ble_eq_true rfl) ?_
  intro p e s m args below meth c ls Q X hin hl hw hQ
  have hx := X.1
  have hb := X.2.1
  have hl : lv_has ls 7 [(0, .ref (L 0 0)), (1, .int a)] := hl
  obtain ⟨hN0, hN1, hN2, hN7, hN8, hN12, hN13, hN18, hN19, hN5, hN6⟩ := id hN
  have h0b : cl (S 0 0) = ne := by rw [hN0, cl_n (by omega)]
  have h7b : cl (S 7 0) = nn := by rw [hN7, cl_n (by omega)]
  have h12b : cl (S 12 0) = nc := by rw [hN12, cl_n (by omega)]
  have h18b : cl (S 18 0) = nl := by rw [hN18, cl_n (by omega)]
  have h5b : cl (S 5 0) = ht := by rw [hN5, cl_n (by omega)]
  have l_0 : 0 < cl (S 0 0) := by omega
  refine lv_aload_n hx hb dX6_inForceAt_0 rfl (lv_at hl 0 rfl) ?_
  refine gf_X6_36 X hw (hE.k0) rfl dX6_inForceAt_1 ?_
  refine lv_astore_n (lv' := [(2, .ref (L 10 0)), (0, .ref (L 0 0)), (1, .int a)]) hx hb dX6_inForceAt_4 rfl hl (by decide) rfl (fun ls hl => ?_)
  refine lv_aload_n hx hb dX6_inForceAt_5 rfl (lv_at hl 1 rfl) ?_
  refine gf_X6_11 X hw (hE.k0) rfl dX6_inForceAt_6 ?_
  refine lv_astore_n (lv' := [(3, .ref (L 1 0)), (2, .ref (L 10 0)), (0, .ref (L 0 0)), (1, .int a)]) hx hb dX6_inForceAt_9 rfl hl (by decide) rfl (fun ls hl => ?_)
  refine lv_aload_n hx hb dX6_inForceAt_10 rfl (lv_at hl 0 rfl) ?_
  refine mi_alen X hw 3 (hE.k1) rfl dX6_inForceAt_11 ?_
  refine W.eq (g2 := F0 m 12 ls [.int 10]) rfl ?_
  refine lv_istore (lv' := [(4, .int 10), (3, .ref (L 1 0)), (2, .ref (L 10 0)), (0, .ref (L 0 0)), (1, .int a)]) hx hb dX6_inForceAt_12 hl (by decide) rfl (fun ls hl => ?_)
  refine lv_iconst (v := 0) hx hb dX6_inForceAt_14 (by decide) ?_
  refine lv_istore (lv' := [(5, .int 0), (4, .int 10), (3, .ref (L 1 0)), (2, .ref (L 10 0)), (0, .ref (L 0 0)), (1, .int a)]) hx hb dX6_inForceAt_15 hl (by decide) rfl (fun ls hl => ?_)
  have loop : ∀ (n : Nat) (k b : Nat) (H1 : Heap) (locs1 : List Loc) (ls1 : Array Slot), (hk : k ≤ 10) → (hn : 11 ≤ k + n) → (hb0 : b < cl (S 0 0)) → (hq : b = if_go S a (min k ne)) → mm_W G.1 vwCl (ct_A M s.heap.size) s.heap M H1 locs1 → lv_has ls1 7 [(0, .ref (L 0 0)), (1, .int a), (2, .ref (L 10 b)), (3, .ref (L 1 0)), (4, .int 10), (5, .int (nI k))] → W p l e (mm_r 0 0 0) s m args below meth c H1 locs1 0 0 Q (F0 m 17 ls1 []) := by
    intro n
    induction n with
    | zero => intro k b H1 locs1 ls hk hn hb0 hq hw hl; exact absurd hn (by omega)
    | succ n ih =>
      intro k b H1 locs1 ls hk hn hb0 hq hw hl
      refine lv_iload hx hb dX6_inForceAt_17 (lv_at hl 5 rfl) ?_
      refine lv_iload hx hb dX6_inForceAt_19 (lv_at hl 4 rfl) ?_
      refine lv_icmp_ge (tgt := 74) hx hb dX6_inForceAt_21 (by decide) (fun c21 => ?_) (fun c21 => ?_)
      · have hk9 : k = 10 := by have := nle (a := 10) (by decide) (by omega) c21; omega
        refine lv_aload_n hx hb dX6_inForceAt_74 rfl (lv_at hl 2 rfl) ?_
        exact mm_aret (r := some (L 10 b)) hQ X hw (⟨by rw [hq, show min k ne = ne from by omega]; rfl, rfl⟩) (Nat.le_of_ble_eq_true rfl) (Nat.le_of_ble_eq_true rfl) dX6_inForceAt_75
      · have hk9 : k < 10 := nnle (a := 10) (by decide) (by omega) c21
        refine lv_aload_n hx hb dX6_inForceAt_24 rfl (lv_at hl 3 rfl) ?_
        refine lv_iload hx hb dX6_inForceAt_25 (lv_at hl 5 rfl) ?_
        refine mi_aald X hw 3 (hE.k1) rfl (k) (rfl) (hk9) (by decide) dX6_inForceAt_27 ?_
        by_cases q28 : k < cl (S 0 0)
        · refine mm_rfS (rfs_s q28) ?_
          refine lv_astore (lv' := [(6, .ref (L 10 k)), (0, .ref (L 0 0)), (1, .int a), (2, .ref (L 10 b)), (3, .ref (L 1 0)), (4, .int 10), (5, .int (nI k))]) hx hb dX6_inForceAt_28 hl (by decide) rfl (fun ls hl => ?_)
          refine lv_aload hx hb dX6_inForceAt_30 (lv_at hl 0 rfl) ?_
          refine lv_ifnull hx hb dX6_inForceAt_32 ?_
          refine lv_aload hx hb dX6_inForceAt_35 (lv_at hl 0 rfl) ?_
          refine gf_X6_74 X hw (hE.k10 q28) rfl dX6_inForceAt_37 ?_
          refine lv_iconst (v := 2) hx hb dX6_inForceAt_40 (by decide) ?_
          refine lv_icmp_ne (tgt := 68) hx hb dX6_inForceAt_41 (by decide) (fun c41 => ?_) (fun c41 => ?_)
          · refine lv_iinc (v := nI (k + 1)) (lv' := [(5, .int (nI (k + 1))), (6, .ref (L 10 k)), (0, .ref (L 0 0)), (1, .int a), (2, .ref (L 10 b)), (3, .ref (L 1 0)), (4, .int 10)]) hx hb dX6_inForceAt_68 hl (k := 6) rfl (nI_s k) (by decide) rfl (fun ls hl => ?_)
            refine lv_goto (tgt := 17) hx hb dX6_inForceAt_71 (by decide) ?_
            exact ih (k + 1) b _ _ _ (by omega) (by omega) (hb0) (by rw [show min (k + 1) ne = k + 1 from by omega, if_go_s]; rw [show min k ne = k from by omega] at hq; rw [← hq, if_neg (fun h9 => c41 h9.1)]) hw  (lv_sub hl [2, 3, 4, 5, 6, 0] rfl)
          · refine lv_aload hx hb dX6_inForceAt_44 (lv_at hl 0 rfl) ?_
            refine gf_X6_73 X hw (hE.k10 q28) rfl dX6_inForceAt_46 ?_
            refine lv_iload_n hx hb dX6_inForceAt_49 rfl (lv_at hl 2 rfl) ?_
            refine lv_icmp_gt (tgt := 68) hx hb dX6_inForceAt_50 (by decide) (fun c50 => ?_) (fun c50 => ?_)
            · refine lv_iinc (v := nI (k + 1)) (lv' := [(5, .int (nI (k + 1))), (6, .ref (L 10 k)), (0, .ref (L 0 0)), (1, .int a), (2, .ref (L 10 b)), (3, .ref (L 1 0)), (4, .int 10)]) hx hb dX6_inForceAt_68 hl (k := 6) rfl (nI_s k) (by decide) rfl (fun ls hl => ?_)
              refine lv_goto (tgt := 17) hx hb dX6_inForceAt_71 (by decide) ?_
              exact ih (k + 1) b _ _ _ (by omega) (by omega) (hb0) (by rw [show min (k + 1) ne = k + 1 from by omega, if_go_s]; rw [show min k ne = k from by omega] at hq; rw [← hq, if_neg (fun h9 => i32_lt_nle c50 h9.2.1)]) hw  (lv_sub hl [2, 3, 4, 5, 6, 0] rfl)
            · refine lv_aload hx hb dX6_inForceAt_53 (lv_at hl 0 rfl) ?_
              refine gf_X6_73 X hw (hE.k10 q28) rfl dX6_inForceAt_55 ?_
              refine lv_aload_n hx hb dX6_inForceAt_58 rfl (lv_at hl 3 rfl) ?_
              refine gf_X6_73 X hw (hE.k10 hb0) rfl dX6_inForceAt_59 ?_
              refine lv_icmp_le (tgt := 68) hx hb dX6_inForceAt_62 (by decide) (fun c62 => ?_) (fun c62 => ?_)
              · refine lv_iinc (v := nI (k + 1)) (lv' := [(5, .int (nI (k + 1))), (6, .ref (L 10 k)), (0, .ref (L 0 0)), (1, .int a), (2, .ref (L 10 b)), (3, .ref (L 1 0)), (4, .int 10)]) hx hb dX6_inForceAt_68 hl (k := 6) rfl (nI_s k) (by decide) rfl (fun ls hl => ?_)
                refine lv_goto (tgt := 17) hx hb dX6_inForceAt_71 (by decide) ?_
                exact ih (k + 1) b _ _ _ (by omega) (by omega) (hb0) (by rw [show min (k + 1) ne = k + 1 from by omega, if_go_s]; rw [show min k ne = k from by omega] at hq; rw [← hq, if_neg (fun h9 => i32_lt_nle h9.2.2 c62)]) hw  (lv_sub hl [2, 3, 4, 5, 6, 0] rfl)
              · refine lv_aload hx hb dX6_inForceAt_65 (lv_at hl 0 rfl) ?_
                refine lv_astore_n (lv' := [(2, .ref (L 10 k)), (6, .ref (L 10 k)), (0, .ref (L 0 0)), (1, .int a), (3, .ref (L 1 0)), (4, .int 10), (5, .int (nI k))]) hx hb dX6_inForceAt_67 rfl hl (by decide) rfl (fun ls hl => ?_)
                refine lv_iinc (v := nI (k + 1)) (lv' := [(5, .int (nI (k + 1))), (2, .ref (L 10 k)), (6, .ref (L 10 k)), (0, .ref (L 0 0)), (1, .int a), (3, .ref (L 1 0)), (4, .int 10)]) hx hb dX6_inForceAt_68 hl (k := 6) rfl (nI_s k) (by decide) rfl (fun ls hl => ?_)
                refine lv_goto (tgt := 17) hx hb dX6_inForceAt_71 (by decide) ?_
                exact ih (k + 1) k _ _ _ (by omega) (by omega) (q28) (by rw [show min (k + 1) ne = k + 1 from by omega, if_go_s]; rw [show min k ne = k from by omega] at hq; rw [← hq, if_pos ⟨c41, i32_nlt c50, i32_nle c62⟩]) hw  (lv_sub hl [3, 4, 1, 5, 6, 0] rfl)
        · refine mm_rfN (rfs_n q28) ?_
          refine lv_astoreN (lv' := [(6, .null), (0, .ref (L 0 0)), (1, .int a), (2, .ref (L 10 b)), (3, .ref (L 1 0)), (4, .int 10), (5, .int (nI k))]) hx hb dX6_inForceAt_28 hl (by decide) rfl (fun ls hl => ?_)
          refine lv_aloadN hx hb dX6_inForceAt_30 (lv_at hl 0 rfl) ?_
          refine lv_ifnullN (tgt := 68) hx hb dX6_inForceAt_32 (by decide) ?_
          refine lv_iinc (v := nI (k + 1)) (lv' := [(5, .int (nI (k + 1))), (6, .null), (0, .ref (L 0 0)), (1, .int a), (2, .ref (L 10 b)), (3, .ref (L 1 0)), (4, .int 10)]) hx hb dX6_inForceAt_68 hl (k := 6) rfl (nI_s k) (by decide) rfl (fun ls hl => ?_)
          refine lv_goto (tgt := 17) hx hb dX6_inForceAt_71 (by decide) ?_
          exact ih (k + 1) b _ _ _ (by omega) (by omega) (hb0) (by rw [show min (k + 1) ne = min k ne from by omega]; exact hq) hw  (lv_sub hl [2, 3, 4, 5, 6, 0] rfl)
  exact loop 11 0 0 _ _ _ (by omega) (by omega) (l_0) (by rw [show min 0 ne = 0 from by omega]; rfl) hw  (lv_sub hl [4, 5, 3, 2, 1, 0] rfl)
set_option maxHeartbeats 4000000 in
set_option maxRecDepth 100000 in
theorem c_force (l : Launch) (G : mG) (M : mM) (L : Nat → Nat → Nat) (S : sS) (cs ar : Nat → Int64) (J : eJ) (hE : EV G L S cs ar J M) (ne nn nc nl ht : Nat) (hN : NM S ne nn nc nl ht) (hF : ∀ h, h ≤ ht → S 6 h = nI (if_go S (nI h) ne)) (x : Int32) : Ct l yX6_force cX6_force 2 (some FieldType.int) (mm_r 1 0 0) G [.ref (L 0 0), .int x] M (fun r M1 => r = some (.int (sp_force S x)) ∧ M = M1) := by
  refine Ct.of (by decide) (Nat.le_of_ble_eq_true rfl) ?_
  intro p e s m args below meth c ls Q X hin hl hw hQ
  have hx := X.1
  have hb := X.2.1
  have hl : lv_has ls 2 [(0, .ref (L 0 0)), (1, .int x)] := hl
  obtain ⟨hN0, hN1, hN2, hN7, hN8, hN12, hN13, hN18, hN19, hN5, hN6⟩ := id hN
  have h0b : cl (S 0 0) = ne := by rw [hN0, cl_n (by omega)]
  have h7b : cl (S 7 0) = nn := by rw [hN7, cl_n (by omega)]
  have h12b : cl (S 12 0) = nc := by rw [hN12, cl_n (by omega)]
  have h18b : cl (S 18 0) = nl := by rw [hN18, cl_n (by omega)]
  have h5b : cl (S 5 0) = ht := by rw [hN5, cl_n (by omega)]
  refine lv_iload_n hx hb dX6_force_0 rfl (lv_at hl 1 rfl) ?_
  refine lv_if_lt (tgt := 12) hx hb dX6_force_1 (by decide) (fun c1 => ?_) (fun c1 => ?_)
  · refine lv_bipush (v := (-2)) hx hb dX6_force_12 (by decide) ?_
    exact mm_iret hQ X hw (⟨by rw [sp_force, if_neg (fun h9 => i32_lt_nle c1 h9.1)], rfl⟩) (Nat.le_of_ble_eq_true rfl) (Nat.le_of_ble_eq_true rfl) dX6_force_14
  · refine lv_iload_n hx hb dX6_force_4 rfl (lv_at hl 1 rfl) ?_
    refine lv_aload_n hx hb dX6_force_5 rfl (lv_at hl 0 rfl) ?_
    refine gf_X6_60 X hw (hE.k0) rfl dX6_force_6 ?_
    refine lv_icmp_le (tgt := 15) hx hb dX6_force_9 (by decide) (fun c9 => ?_) (fun c9 => ?_)
    · refine lv_aload_n hx hb dX6_force_15 rfl (lv_at hl 0 rfl) ?_
      refine lv_iload_n hx hb dX6_force_16 rfl (lv_at hl 1 rfl) ?_
      refine mm_callV (As := [.int x]) (rest := []) X hw (c_inForceAt l G _ L _ _ _ _ hE ne nn nc nl ht hN (x)) (hE.k0) rfl wd_X6_134 ⟨Nat.le_of_ble_eq_true rfl, Nat.le_of_ble_eq_true rfl⟩ ⟨Nat.le_of_ble_eq_true rfl, Nat.le_of_ble_eq_true rfl⟩ rfl rfl (Nat.le_of_ble_eq_true rfl) hl.1 dX6_force_17 (fun v9 M9 H9 locs9 hp9 hw => ?_)
      obtain ⟨rfl, rfl⟩ := hp9
      refine W.eq (g2 := F0 m 20 ls [.ref (L 10 (if_go S (x) ne))]) rfl ?_
      refine gf_X6_85 X hw (hE.k10 (show (if_go S (x) ne) < cl (S 0 0) from (by rw [h0b]; exact if_go_lt _ _ ne hN1))) rfl dX6_force_20 ?_
      exact mm_iret hQ X hw (⟨by have h9 : 0 ≤ x ∧ x ≤ S 5 0 := ⟨i32_nlt c1, c9⟩; have h8 : cl x ≤ ht := cl_le hN5 (by omega) h9; rw [sp_force, if_pos h9, hF _ h8, ← nI_cl h9.1], rfl⟩) (Nat.le_of_ble_eq_true rfl) (Nat.le_of_ble_eq_true rfl) dX6_force_23
    · refine lv_bipush (v := (-2)) hx hb dX6_force_12 (by decide) ?_
      exact mm_iret hQ X hw (⟨by rw [sp_force, if_neg (fun h9 => c9 h9.2)], rfl⟩) (Nat.le_of_ble_eq_true rfl) (Nat.le_of_ble_eq_true rfl) dX6_force_14
