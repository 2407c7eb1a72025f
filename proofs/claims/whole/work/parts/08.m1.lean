theorem i32_nlt {a b : Int32} (h : ¬ a < b) : b ≤ a := by
  rw [Int32.lt_iff_toInt_lt] at h
  rw [Int32.le_iff_toInt_le]
  omega
theorem i32_lt_nle {a b : Int32} (h : a < b) : ¬ b ≤ a := by
  rw [Int32.lt_iff_toInt_lt] at h
  rw [Int32.le_iff_toInt_le]
  omega
set_option maxHeartbeats 4000000 in
set_option maxRecDepth 100000 in
theorem m_in (l : Launch) (G : mG) (M : mM) (v lo hi : Int32) : Ct l yX7_in cX7_in 3 (some FieldType.boolean) (mm_r 0 0 0) G [.int v, .int lo, .int hi] M (fun r M1 => r = some (.int (bI (lo ≤ v ∧ v ≤ hi))) ∧ M = M1) := by
  refine Ct.of (by decide) (Nat.le_of_ble_eq_true rfl) ?_
  intro p e s m args below meth c ls Q X hin hl hw hQ
  have hx := X.1
  have hb := X.2.1
  have hl : lv_has ls 3 [(0, .int v), (1, .int lo), (2, .int hi)] := hl
  refine lv_iload_n hx hb dX7_in_0 rfl (lv_at hl 0 rfl) ?_
  refine lv_iload_n hx hb dX7_in_1 rfl (lv_at hl 1 rfl) ?_
  refine lv_icmp_lt (tgt := 14) hx hb dX7_in_2 (by decide) (fun c2 => ?_) (fun c2 => ?_)
  · refine lv_iconst (v := 0) hx hb dX7_in_14 (by decide) ?_
    exact mm_zret hQ X hw (rfl) (⟨by rw [bI_f (fun h9 => i32_lt_nle c2 h9.1)], rfl⟩) (Nat.le_of_ble_eq_true rfl) (Nat.le_of_ble_eq_true rfl) dX7_in_15
  · refine lv_iload_n hx hb dX7_in_5 rfl (lv_at hl 0 rfl) ?_
    refine lv_iload_n hx hb dX7_in_6 rfl (lv_at hl 2 rfl) ?_
    refine lv_icmp_gt (tgt := 14) hx hb dX7_in_7 (by decide) (fun c7 => ?_) (fun c7 => ?_)
    · refine lv_iconst (v := 0) hx hb dX7_in_14 (by decide) ?_
      exact mm_zret hQ X hw (rfl) (⟨by rw [bI_f (fun h9 => i32_lt_nle c7 h9.2)], rfl⟩) (Nat.le_of_ble_eq_true rfl) (Nat.le_of_ble_eq_true rfl) dX7_in_15
    · refine lv_iconst (v := 1) hx hb dX7_in_10 (by decide) ?_
      refine lv_goto (tgt := 15) hx hb dX7_in_11 (by decide) ?_
      exact mm_zret hQ X hw (rfl) (⟨by rw [bI_t ⟨i32_nlt c2, i32_nlt c7⟩], rfl⟩) (Nat.le_of_ble_eq_true rfl) (Nat.le_of_ble_eq_true rfl) dX7_in_15
set_option maxHeartbeats 4000000 in
set_option maxRecDepth 100000 in
theorem m_isEdition (l : Launch) (G : mG) (M : mM) (g : Nat) (L : Nat → Nat) (S : sS) (cs ar : Nat → Int64) (K : Nat → Nat → Int64) (hR : RV G g L S cs ar K M) (x : Int32) (n : Nat) (hn : S 0 0 = nI n) (hn2 : n < 2 ^ 30) : Ct l yX7_isEdition cX7_isEdition 2 (some FieldType.boolean) (mm_r 1 0 0) G [.ref g, .int x] M (fun r M1 => r = some (.int (bI (0 ≤ x ∧ x < S 0 0))) ∧ M = M1) := by
  refine Ct.of (by decide) (Nat.le_of_ble_eq_true rfl) ?_
  intro p e s m args below meth c ls Q X hin hl hw hQ
  have hx := X.1
  have hb := X.2.1
  have hl : lv_has ls 2 [(0, .ref g), (1, .int x)] := hl
  refine lv_iload_n hx hb dX7_isEdition_0 rfl (lv_at hl 1 rfl) ?_
  refine lv_iconst (v := 0) hx hb dX7_isEdition_1 (by decide) ?_
  refine lv_aload_n hx hb dX7_isEdition_2 rfl (lv_at hl 0 rfl) ?_
  refine rg_7 X hw hR dX7_isEdition_3 ?_
  refine lv_iconst (v := 1) hx hb dX7_isEdition_6 (by decide) ?_
  refine lv_isub hx hb dX7_isEdition_7 ?_
  refine mm_callS (As := [.int x, .int 0, .int ((S 0 0) - 1)]) (rest := []) X hw (m_in l G _ (x) (0) ((S 0 0) - 1)) wd_X7_82 ⟨Nat.le_of_ble_eq_true rfl, Nat.le_of_ble_eq_true rfl⟩ ⟨Nat.le_of_ble_eq_true rfl, Nat.le_of_ble_eq_true rfl⟩ rfl rfl (Nat.le_of_ble_eq_true rfl) hl.1 dX7_isEdition_8 (fun v9 M9 H9 locs9 hp9 hw => ?_)
  obtain ⟨rfl, rfl⟩ := hp9
  refine W.eq (g2 := F0 m 11 ls [.int (bI (0 ≤ x ∧ x ≤ ((S 0 0) - 1)))]) rfl ?_
  exact mm_zret hQ X hw (bI_n _) (⟨congrArg (fun z => some (Value.int z)) (bI_e (and_congr_right fun h9 => le_pred hn hn2 h9)), rfl⟩) (Nat.le_of_ble_eq_true rfl) (Nat.le_of_ble_eq_true rfl) dX7_isEdition_11
set_option maxHeartbeats 4000000 in
set_option maxRecDepth 100000 in
theorem m_isNode (l : Launch) (G : mG) (M : mM) (g : Nat) (L : Nat → Nat) (S : sS) (cs ar : Nat → Int64) (K : Nat → Nat → Int64) (hR : RV G g L S cs ar K M) (x : Int32) (n : Nat) (hn : S 7 0 = nI n) (hn2 : n < 2 ^ 30) : Ct l yX7_isNode cX7_isNode 2 (some FieldType.boolean) (mm_r 1 0 0) G [.ref g, .int x] M (fun r M1 => r = some (.int (bI (0 ≤ x ∧ x < S 7 0))) ∧ M = M1) := by
  refine Ct.of (by decide) (Nat.le_of_ble_eq_true rfl) ?_
  intro p e s m args below meth c ls Q X hin hl hw hQ
  have hx := X.1
  have hb := X.2.1
  have hl : lv_has ls 2 [(0, .ref g), (1, .int x)] := hl
  refine lv_iload_n hx hb dX7_isNode_0 rfl (lv_at hl 1 rfl) ?_
  refine lv_iconst (v := 0) hx hb dX7_isNode_1 (by decide) ?_
  refine lv_aload_n hx hb dX7_isNode_2 rfl (lv_at hl 0 rfl) ?_
  refine rg_86 X hw hR dX7_isNode_3 ?_
  refine lv_iconst (v := 1) hx hb dX7_isNode_6 (by decide) ?_
  refine lv_isub hx hb dX7_isNode_7 ?_
  refine mm_callS (As := [.int x, .int 0, .int ((S 7 0) - 1)]) (rest := []) X hw (m_in l G _ (x) (0) ((S 7 0) - 1)) wd_X7_82 ⟨Nat.le_of_ble_eq_true rfl, Nat.le_of_ble_eq_true rfl⟩ ⟨Nat.le_of_ble_eq_true rfl, Nat.le_of_ble_eq_true rfl⟩ rfl rfl (Nat.le_of_ble_eq_true rfl) hl.1 dX7_isNode_8 (fun v9 M9 H9 locs9 hp9 hw => ?_)
  obtain ⟨rfl, rfl⟩ := hp9
  refine W.eq (g2 := F0 m 11 ls [.int (bI (0 ≤ x ∧ x ≤ ((S 7 0) - 1)))]) rfl ?_
  exact mm_zret hQ X hw (bI_n _) (⟨congrArg (fun z => some (Value.int z)) (bI_e (and_congr_right fun h9 => le_pred hn hn2 h9)), rfl⟩) (Nat.le_of_ble_eq_true rfl) (Nat.le_of_ble_eq_true rfl) dX7_isNode_11
set_option maxHeartbeats 4000000 in
set_option maxRecDepth 100000 in
theorem m_isContract (l : Launch) (G : mG) (M : mM) (g : Nat) (L : Nat → Nat) (S : sS) (cs ar : Nat → Int64) (K : Nat → Nat → Int64) (hR : RV G g L S cs ar K M) (x : Int32) (n : Nat) (hn : S 12 0 = nI n) (hn2 : n < 2 ^ 30) : Ct l yX7_isContract cX7_isContract 2 (some FieldType.boolean) (mm_r 1 0 0) G [.ref g, .int x] M (fun r M1 => r = some (.int (bI (0 ≤ x ∧ x < S 12 0))) ∧ M = M1) := by
  refine Ct.of (by decide) (Nat.le_of_ble_eq_true rfl) ?_
  intro p e s m args below meth c ls Q X hin hl hw hQ
  have hx := X.1
  have hb := X.2.1
  have hl : lv_has ls 2 [(0, .ref g), (1, .int x)] := hl
  refine lv_iload_n hx hb dX7_isContract_0 rfl (lv_at hl 1 rfl) ?_
  refine lv_iconst (v := 0) hx hb dX7_isContract_1 (by decide) ?_
  refine lv_aload_n hx hb dX7_isContract_2 rfl (lv_at hl 0 rfl) ?_
  refine rg_89 X hw hR dX7_isContract_3 ?_
  refine lv_iconst (v := 1) hx hb dX7_isContract_6 (by decide) ?_
  refine lv_isub hx hb dX7_isContract_7 ?_
  refine mm_callS (As := [.int x, .int 0, .int ((S 12 0) - 1)]) (rest := []) X hw (m_in l G _ (x) (0) ((S 12 0) - 1)) wd_X7_82 ⟨Nat.le_of_ble_eq_true rfl, Nat.le_of_ble_eq_true rfl⟩ ⟨Nat.le_of_ble_eq_true rfl, Nat.le_of_ble_eq_true rfl⟩ rfl rfl (Nat.le_of_ble_eq_true rfl) hl.1 dX7_isContract_8 (fun v9 M9 H9 locs9 hp9 hw => ?_)
  obtain ⟨rfl, rfl⟩ := hp9
  refine W.eq (g2 := F0 m 11 ls [.int (bI (0 ≤ x ∧ x ≤ ((S 12 0) - 1)))]) rfl ?_
  exact mm_zret hQ X hw (bI_n _) (⟨congrArg (fun z => some (Value.int z)) (bI_e (and_congr_right fun h9 => le_pred hn hn2 h9)), rfl⟩) (Nat.le_of_ble_eq_true rfl) (Nat.le_of_ble_eq_true rfl) dX7_isContract_11
set_option maxHeartbeats 4000000 in
set_option maxRecDepth 100000 in
theorem m_price (l : Launch) (G : mG) (M : mM) (g : Nat) (L : Nat → Nat) (S : sS) (cs ar : Nat → Int64) (K : Nat → Nat → Int64) (hR : RV G g L S cs ar K M) (ne nn nc nl ht : Nat) (hN : NM S ne nn nc nl ht) (x y v : Int32) : Ct l yX7_price cX7_price 5 (some FieldType.int) (mm_r 2 0 0) G [.ref g, .int x, .int y, .int v] M (fun r M1 => r = some (.int (sp_price S x y v).1) ∧ ∃ K1, RV G g L (sp_price S x y v).2 cs ar K1 M1) := by
  refine Ct.of (by decide) (Nat.le_of_ble_eq_true rfl) ?_
  intro p e s m args below meth c ls Q X hin hl hw hQ
  have hx := X.1
  have hb := X.2.1
  have hl : lv_has ls 5 [(0, .ref g), (1, .int x), (2, .int y), (3, .int v)] := hl
  obtain ⟨hN0, hN1, hN2, hN7, hN8, hN12, hN13, hN18, hN19, hN5, hN6⟩ := id hN
  refine lv_aload_n hx hb dX7_price_0 rfl (lv_at hl 0 rfl) ?_
  refine lv_iload_n hx hb dX7_price_1 rfl (lv_at hl 1 rfl) ?_
  refine mm_callV (As := [.int x]) (rest := []) X hw (m_isEdition l G _ g L _ cs ar K hR (x) ne hN0 (by omega)) (hR.1) rfl wd_X7_92 ⟨Nat.le_of_ble_eq_true rfl, Nat.le_of_ble_eq_true rfl⟩ ⟨Nat.le_of_ble_eq_true rfl, Nat.le_of_ble_eq_true rfl⟩ rfl rfl (Nat.le_of_ble_eq_true rfl) hl.1 dX7_price_2 (fun v9 M9 H9 locs9 hp9 hw => ?_)
  obtain ⟨rfl, rfl⟩ := hp9
  refine W.eq (g2 := F0 m 5 ls [.int (bI (0 ≤ x ∧ x < S 0 0))]) rfl ?_
  refine mm_ifeqB (tgt := 28) hx hb dX7_price_5 (by decide) (fun c5 => ?_) (fun c5 => ?_)
  · refine lv_bipush (v := (-2)) hx hb dX7_price_28 (by decide) ?_
    exact mm_iret hQ X hw (by have e9 : sp_price S x y v = ((-2), S) := (by rw [sp_price, if_pos c5]); rw [e9]; exact ⟨rfl, _, hR⟩) (Nat.le_of_ble_eq_true rfl) (Nat.le_of_ble_eq_true rfl) dX7_price_30
  · have b_x : cl x < ne := cl_lt hN0 (by omega) c5
    refine lv_iload_n hx hb dX7_price_8 rfl (lv_at hl 2 rfl) ?_
    refine lv_iconst (v := 0) hx hb dX7_price_9 (by decide) ?_
    refine lv_bipush (v := 8) hx hb dX7_price_10 (by decide) ?_
    refine mm_callS (As := [.int y, .int 0, .int 8]) (rest := []) X hw (m_in l G _ (y) (0) (8)) wd_X7_82 ⟨Nat.le_of_ble_eq_true rfl, Nat.le_of_ble_eq_true rfl⟩ ⟨Nat.le_of_ble_eq_true rfl, Nat.le_of_ble_eq_true rfl⟩ rfl rfl (Nat.le_of_ble_eq_true rfl) hl.1 dX7_price_12 (fun v9 M9 H9 locs9 hp9 hw => ?_)
    obtain ⟨rfl, rfl⟩ := hp9
    refine W.eq (g2 := F0 m 15 ls [.int (bI (0 ≤ y ∧ y ≤ 8))]) rfl ?_
    refine mm_ifeqB (tgt := 28) hx hb dX7_price_15 (by decide) (fun c15 => ?_) (fun c15 => ?_)
    · refine lv_bipush (v := (-2)) hx hb dX7_price_28 (by decide) ?_
      exact mm_iret hQ X hw (by have e9 : sp_price S x y v = ((-2), S) := (by rw [sp_price, if_neg (fun h9 => h9 c5), if_pos c15]); rw [e9]; exact ⟨rfl, _, hR⟩) (Nat.le_of_ble_eq_true rfl) (Nat.le_of_ble_eq_true rfl) dX7_price_30
    · have b_y : cl y ≤ 8 := cl_le (n := 8) rfl (by decide) c15
      refine lv_iload_n hx hb dX7_price_18 rfl (lv_at hl 3 rfl) ?_
      refine lv_iconst (v := 0) hx hb dX7_price_19 (by decide) ?_
      refine lv_bipush (v := 100) hx hb dX7_price_20 (by decide) ?_
      refine mm_callS (As := [.int v, .int 0, .int 100]) (rest := []) X hw (m_in l G _ (v) (0) (100)) wd_X7_82 ⟨Nat.le_of_ble_eq_true rfl, Nat.le_of_ble_eq_true rfl⟩ ⟨Nat.le_of_ble_eq_true rfl, Nat.le_of_ble_eq_true rfl⟩ rfl rfl (Nat.le_of_ble_eq_true rfl) hl.1 dX7_price_22 (fun v9 M9 H9 locs9 hp9 hw => ?_)
      obtain ⟨rfl, rfl⟩ := hp9
      refine W.eq (g2 := F0 m 25 ls [.int (bI (0 ≤ v ∧ v ≤ 100))]) rfl ?_
      refine mm_ifneB (tgt := 31) hx hb dX7_price_25 (by decide) (fun c25 => ?_) (fun c25 => ?_)
      · refine lv_aload_n hx hb dX7_price_31 rfl (lv_at hl 0 rfl) ?_
        refine rg_23 X hw hR dX7_price_32 ?_
        refine lv_iload_n hx hb dX7_price_35 rfl (lv_at hl 1 rfl) ?_
        refine ri_iald X hw hR 4 rfl (cl x) (nI_cl c5.1) (by omega) dX7_price_36 ?_
        refine lv_if_eq (tgt := 43) hx hb dX7_price_37 (by decide) (fun c37 => ?_) (fun c37 => ?_)
        · refine lv_aload_n hx hb dX7_price_43 rfl (lv_at hl 0 rfl) ?_
          refine rg_13 X hw hR dX7_price_44 ?_
          refine lv_bipush (v := 9) hx hb dX7_price_47 (by decide) ?_
          refine lv_iload_n hx hb dX7_price_49 rfl (lv_at hl 1 rfl) ?_
          refine lv_imul hx hb dX7_price_50 ?_
          refine lv_iload_n hx hb dX7_price_51 rfl (lv_at hl 2 rfl) ?_
          refine lv_iadd hx hb dX7_price_52 ?_
          refine ri_iald X hw hR 1 rfl (9 * cl x + cl y) (jx 9 c5.1 c15.1) (by omega) dX7_price_53 ?_
          refine lv_istore (lv' := [(4, .int (S 1 (9 * cl x + cl y))), (0, .ref g), (1, .int x), (2, .int y), (3, .int v)]) hx hb dX7_price_54 hl (by decide) rfl (fun ls hl => ?_)
          refine lv_aload_n hx hb dX7_price_56 rfl (lv_at hl 1 rfl) ?_
          refine rg_13 X hw hR dX7_price_57 ?_
          refine lv_bipush (v := 9) hx hb dX7_price_60 (by decide) ?_
          refine lv_iload_n hx hb dX7_price_62 rfl (lv_at hl 2 rfl) ?_
          refine lv_imul hx hb dX7_price_63 ?_
          refine lv_iload_n hx hb dX7_price_64 rfl (lv_at hl 3 rfl) ?_
          refine lv_iadd hx hb dX7_price_65 ?_
          refine lv_iload_n hx hb dX7_price_66 rfl (lv_at hl 4 rfl) ?_
          refine ri_iast X hw hR 1 rfl (9 * cl x + cl y) (jx 9 c5.1 c15.1) (by omega) dX7_price_67 (fun M9 H9 locs9 hw hR => ?_)
          refine lv_iload hx hb dX7_price_68 (lv_at hl 0 rfl) ?_
          exact mm_iret hQ X hw (by have e9 : sp_price S x y v = (S 1 (9 * cl x + cl y), va_up S 1 (upd (S 1) (9 * cl x + cl y) (v))) := (by rw [sp_price, if_neg (fun h9 => h9 c5), if_neg (fun h9 => h9 c15), if_neg (fun h9 => h9 c25), if_neg (fun h9 => h9 c37)]); rw [e9]; exact ⟨rfl, _, hR⟩) (Nat.le_of_ble_eq_true rfl) (Nat.le_of_ble_eq_true rfl) dX7_price_70
        · refine lv_bipush (v := (-3)) hx hb dX7_price_40 (by decide) ?_
          exact mm_iret hQ X hw (by have e9 : sp_price S x y v = ((-3), S) := (by rw [sp_price, if_neg (fun h9 => h9 c5), if_neg (fun h9 => h9 c15), if_neg (fun h9 => h9 c25), if_pos c37]); rw [e9]; exact ⟨rfl, _, hR⟩) (Nat.le_of_ble_eq_true rfl) (Nat.le_of_ble_eq_true rfl) dX7_price_42
      · refine lv_bipush (v := (-2)) hx hb dX7_price_28 (by decide) ?_
        exact mm_iret hQ X hw (by have e9 : sp_price S x y v = ((-2), S) := (by rw [sp_price, if_neg (fun h9 => h9 c5), if_neg (fun h9 => h9 c15), if_pos c25]); rw [e9]; exact ⟨rfl, _, hR⟩) (Nat.le_of_ble_eq_true rfl) (Nat.le_of_ble_eq_true rfl) dX7_price_30
set_option maxHeartbeats 4000000 in
set_option maxRecDepth 100000 in
theorem m_member (l : Launch) (G : mG) (M : mM) (g : Nat) (L : Nat → Nat) (S : sS) (cs ar : Nat → Int64) (K : Nat → Nat → Int64) (hR : RV G g L S cs ar K M) (ne nn nc nl ht : Nat) (hN : NM S ne nn nc nl ht) (x y v : Int32) : Ct l yX7_member cX7_member 5 (some FieldType.int) (mm_r 2 0 0) G [.ref g, .int x, .int y, .int v] M (fun r M1 => r = some (.int (sp_member S x y v).1) ∧ ∃ K1, RV G g L (sp_member S x y v).2 cs ar K1 M1) := by
  refine Ct.of (by decide) (Nat.le_of_ble_eq_true rfl) ?_
  intro p e s m args below meth c ls Q X hin hl hw hQ
  have hx := X.1
  have hb := X.2.1
  have hl : lv_has ls 5 [(0, .ref g), (1, .int x), (2, .int y), (3, .int v)] := hl
  obtain ⟨hN0, hN1, hN2, hN7, hN8, hN12, hN13, hN18, hN19, hN5, hN6⟩ := id hN
  refine lv_aload_n hx hb dX7_member_0 rfl (lv_at hl 0 rfl) ?_
  refine lv_iload_n hx hb dX7_member_1 rfl (lv_at hl 1 rfl) ?_
  refine mm_callV (As := [.int x]) (rest := []) X hw (m_isEdition l G _ g L _ cs ar K hR (x) ne hN0 (by omega)) (hR.1) rfl wd_X7_92 ⟨Nat.le_of_ble_eq_true rfl, Nat.le_of_ble_eq_true rfl⟩ ⟨Nat.le_of_ble_eq_true rfl, Nat.le_of_ble_eq_true rfl⟩ rfl rfl (Nat.le_of_ble_eq_true rfl) hl.1 dX7_member_2 (fun v9 M9 H9 locs9 hp9 hw => ?_)
  obtain ⟨rfl, rfl⟩ := hp9
  refine W.eq (g2 := F0 m 5 ls [.int (bI (0 ≤ x ∧ x < S 0 0))]) rfl ?_
  refine mm_ifeqB (tgt := 27) hx hb dX7_member_5 (by decide) (fun c5 => ?_) (fun c5 => ?_)
  · refine lv_bipush (v := (-2)) hx hb dX7_member_27 (by decide) ?_
    exact mm_iret hQ X hw (by have e9 : sp_member S x y v = ((-2), S) := (by rw [sp_member, if_pos c5]); rw [e9]; exact ⟨rfl, _, hR⟩) (Nat.le_of_ble_eq_true rfl) (Nat.le_of_ble_eq_true rfl) dX7_member_29
  · have b_x : cl x < ne := cl_lt hN0 (by omega) c5
    refine lv_iload_n hx hb dX7_member_8 rfl (lv_at hl 2 rfl) ?_
    refine lv_iconst (v := 0) hx hb dX7_member_9 (by decide) ?_
    refine lv_bipush (v := 7) hx hb dX7_member_10 (by decide) ?_
    refine mm_callS (As := [.int y, .int 0, .int 7]) (rest := []) X hw (m_in l G _ (y) (0) (7)) wd_X7_82 ⟨Nat.le_of_ble_eq_true rfl, Nat.le_of_ble_eq_true rfl⟩ ⟨Nat.le_of_ble_eq_true rfl, Nat.le_of_ble_eq_true rfl⟩ rfl rfl (Nat.le_of_ble_eq_true rfl) hl.1 dX7_member_12 (fun v9 M9 H9 locs9 hp9 hw => ?_)
    obtain ⟨rfl, rfl⟩ := hp9
    refine W.eq (g2 := F0 m 15 ls [.int (bI (0 ≤ y ∧ y ≤ 7))]) rfl ?_
    refine mm_ifeqB (tgt := 27) hx hb dX7_member_15 (by decide) (fun c15 => ?_) (fun c15 => ?_)
    · refine lv_bipush (v := (-2)) hx hb dX7_member_27 (by decide) ?_
      exact mm_iret hQ X hw (by have e9 : sp_member S x y v = ((-2), S) := (by rw [sp_member, if_neg (fun h9 => h9 c5), if_pos c15]); rw [e9]; exact ⟨rfl, _, hR⟩) (Nat.le_of_ble_eq_true rfl) (Nat.le_of_ble_eq_true rfl) dX7_member_29
    · have b_y : cl y ≤ 7 := cl_le (n := 7) rfl (by decide) c15
      refine lv_iload_n hx hb dX7_member_18 rfl (lv_at hl 3 rfl) ?_
      refine lv_iconst (v := (-1)) hx hb dX7_member_19 (by decide) ?_
      refine lv_iconst (v := 5) hx hb dX7_member_20 (by decide) ?_
      refine mm_callS (As := [.int v, .int ((-1)), .int 5]) (rest := []) X hw (m_in l G _ (v) ((-1)) (5)) wd_X7_82 ⟨Nat.le_of_ble_eq_true rfl, Nat.le_of_ble_eq_true rfl⟩ ⟨Nat.le_of_ble_eq_true rfl, Nat.le_of_ble_eq_true rfl⟩ rfl rfl (Nat.le_of_ble_eq_true rfl) hl.1 dX7_member_21 (fun v9 M9 H9 locs9 hp9 hw => ?_)
      obtain ⟨rfl, rfl⟩ := hp9
      refine W.eq (g2 := F0 m 24 ls [.int (bI (((-1)) ≤ v ∧ v ≤ 5))]) rfl ?_
      refine mm_ifneB (tgt := 30) hx hb dX7_member_24 (by decide) (fun c24 => ?_) (fun c24 => ?_)
      · refine lv_aload_n hx hb dX7_member_30 rfl (lv_at hl 0 rfl) ?_
        refine rg_23 X hw hR dX7_member_31 ?_
        refine lv_iload_n hx hb dX7_member_34 rfl (lv_at hl 1 rfl) ?_
        refine ri_iald X hw hR 4 rfl (cl x) (nI_cl c5.1) (by omega) dX7_member_35 ?_
        refine lv_if_eq (tgt := 42) hx hb dX7_member_36 (by decide) (fun c36 => ?_) (fun c36 => ?_)
        · refine lv_aload_n hx hb dX7_member_42 rfl (lv_at hl 0 rfl) ?_
          refine rg_17 X hw hR dX7_member_43 ?_
          refine lv_bipush (v := 8) hx hb dX7_member_46 (by decide) ?_
          refine lv_iload_n hx hb dX7_member_48 rfl (lv_at hl 1 rfl) ?_
          refine lv_imul hx hb dX7_member_49 ?_
          refine lv_iload_n hx hb dX7_member_50 rfl (lv_at hl 2 rfl) ?_
          refine lv_iadd hx hb dX7_member_51 ?_
          refine ri_iald X hw hR 2 rfl (8 * cl x + cl y) (jx 8 c5.1 c15.1) (by omega) dX7_member_52 ?_
          refine lv_istore (lv' := [(4, .int (S 2 (8 * cl x + cl y))), (0, .ref g), (1, .int x), (2, .int y), (3, .int v)]) hx hb dX7_member_53 hl (by decide) rfl (fun ls hl => ?_)
          refine lv_aload_n hx hb dX7_member_55 rfl (lv_at hl 1 rfl) ?_
          refine rg_17 X hw hR dX7_member_56 ?_
          refine lv_bipush (v := 8) hx hb dX7_member_59 (by decide) ?_
          refine lv_iload_n hx hb dX7_member_61 rfl (lv_at hl 2 rfl) ?_
          refine lv_imul hx hb dX7_member_62 ?_
          refine lv_iload_n hx hb dX7_member_63 rfl (lv_at hl 3 rfl) ?_
          refine lv_iadd hx hb dX7_member_64 ?_
          refine lv_iload_n hx hb dX7_member_65 rfl (lv_at hl 4 rfl) ?_
          refine ri_iast X hw hR 2 rfl (8 * cl x + cl y) (jx 8 c5.1 c15.1) (by omega) dX7_member_66 (fun M9 H9 locs9 hw hR => ?_)
          refine lv_iload hx hb dX7_member_67 (lv_at hl 0 rfl) ?_
          exact mm_iret hQ X hw (by have e9 : sp_member S x y v = (S 2 (8 * cl x + cl y), va_up S 2 (upd (S 2) (8 * cl x + cl y) (v))) := (by rw [sp_member, if_neg (fun h9 => h9 c5), if_neg (fun h9 => h9 c15), if_neg (fun h9 => h9 c24), if_neg (fun h9 => h9 c36)]); rw [e9]; exact ⟨rfl, _, hR⟩) (Nat.le_of_ble_eq_true rfl) (Nat.le_of_ble_eq_true rfl) dX7_member_69
        · refine lv_bipush (v := (-3)) hx hb dX7_member_39 (by decide) ?_
          exact mm_iret hQ X hw (by have e9 : sp_member S x y v = ((-3), S) := (by rw [sp_member, if_neg (fun h9 => h9 c5), if_neg (fun h9 => h9 c15), if_neg (fun h9 => h9 c24), if_pos c36]); rw [e9]; exact ⟨rfl, _, hR⟩) (Nat.le_of_ble_eq_true rfl) (Nat.le_of_ble_eq_true rfl) dX7_member_41
      · refine lv_bipush (v := (-2)) hx hb dX7_member_27 (by decide) ?_
        exact mm_iret hQ X hw (by have e9 : sp_member S x y v = ((-2), S) := (by rw [sp_member, if_neg (fun h9 => h9 c5), if_neg (fun h9 => h9 c15), if_pos c24]); rw [e9]; exact ⟨rfl, _, hR⟩) (Nat.le_of_ble_eq_true rfl) (Nat.le_of_ble_eq_true rfl) dX7_member_29
set_option maxHeartbeats 4000000 in
set_option maxRecDepth 100000 in
theorem m_about (l : Launch) (G : mG) (M : mM) (g : Nat) (L : Nat → Nat) (S : sS) (cs ar : Nat → Int64) (K : Nat → Nat → Int64) (hR : RV G g L S cs ar K M) (ne nn nc nl ht : Nat) (hN : NM S ne nn nc nl ht) (x w k : Int32) : Ct l yX7_about cX7_about 4 (some FieldType.int) (mm_r 2 0 0) G [.ref g, .int x, .int w, .int k] M (fun r M1 => r = some (.int (sp_about S x w k)) ∧ M = M1) := by
  refine Ct.of (by decide) (Nat.le_of_ble_eq_true rfl) ?_
  intro p e s m args below meth c ls Q X hin hl hw hQ
  have hx := X.1
  have hb := X.2.1
  have hl : lv_has ls 4 [(0, .ref g), (1, .int x), (2, .int w), (3, .int k)] := hl
  obtain ⟨hN0, hN1, hN2, hN7, hN8, hN12, hN13, hN18, hN19, hN5, hN6⟩ := id hN
  refine lv_aload_n hx hb dX7_about_0 rfl (lv_at hl 0 rfl) ?_
  refine lv_iload_n hx hb dX7_about_1 rfl (lv_at hl 1 rfl) ?_
  refine mm_callV (As := [.int x]) (rest := []) X hw (m_isEdition l G _ g L _ cs ar K hR (x) ne hN0 (by omega)) (hR.1) rfl wd_X7_92 ⟨Nat.le_of_ble_eq_true rfl, Nat.le_of_ble_eq_true rfl⟩ ⟨Nat.le_of_ble_eq_true rfl, Nat.le_of_ble_eq_true rfl⟩ rfl rfl (Nat.le_of_ble_eq_true rfl) hl.1 dX7_about_2 (fun v9 M9 H9 locs9 hp9 hw => ?_)
  obtain ⟨rfl, rfl⟩ := hp9
  refine W.eq (g2 := F0 m 5 ls [.int (bI (0 ≤ x ∧ x < S 0 0))]) rfl ?_
  refine mm_ifneB (tgt := 11) hx hb dX7_about_5 (by decide) (fun c5 => ?_) (fun c5 => ?_)
  · have b_x : cl x < ne := cl_lt hN0 (by omega) c5
    refine lv_iload_n hx hb dX7_about_11 rfl (lv_at hl 2 rfl) ?_
    rcases mm_sw w 0 4 (by decide) (by decide) with ⟨k9, hk9, c12⟩ | c12
    · rcases (show k9 = 0 ∨ k9 = 1 ∨ k9 = 2 ∨ k9 = 3 by omega) with rfl | rfl | rfl | rfl
      · have c12 : w = 0 := c12
        refine lv_tableIn (off := 32) (tgt := 44) hx hb dX7_about_12 (by rw [c12]; decide) (by rw [c12]; decide) (by rw [c12]; rfl) (by decide) ?_
        refine lv_iload_n hx hb dX7_about_44 rfl (lv_at hl 3 rfl) ?_
        refine lv_iconst (v := 0) hx hb dX7_about_45 (by decide) ?_
        refine lv_bipush (v := 8) hx hb dX7_about_46 (by decide) ?_
        refine mm_callS (As := [.int k, .int 0, .int 8]) (rest := []) X hw (m_in l G _ (k) (0) (8)) wd_X7_82 ⟨Nat.le_of_ble_eq_true rfl, Nat.le_of_ble_eq_true rfl⟩ ⟨Nat.le_of_ble_eq_true rfl, Nat.le_of_ble_eq_true rfl⟩ rfl rfl (Nat.le_of_ble_eq_true rfl) hl.1 dX7_about_48 (fun v9 M9 H9 locs9 hp9 hw => ?_)
        obtain ⟨rfl, rfl⟩ := hp9
        refine W.eq (g2 := F0 m 51 ls [.int (bI (0 ≤ k ∧ k ≤ 8))]) rfl ?_
        refine mm_ifeqB (tgt := 68) hx hb dX7_about_51 (by decide) (fun c51 => ?_) (fun c51 => ?_)
        · refine lv_bipush (v := (-2)) hx hb dX7_about_68 (by decide) ?_
          exact mm_iret hQ X hw (⟨by rw [sp_about, if_neg (fun h9 => h9 c5), if_pos c12, if_neg c51], rfl⟩) (Nat.le_of_ble_eq_true rfl) (Nat.le_of_ble_eq_true rfl) dX7_about_70
        · have b_k : cl k ≤ 8 := cl_le (n := 8) rfl (by decide) c51
          refine lv_aload_n hx hb dX7_about_54 rfl (lv_at hl 0 rfl) ?_
          refine rg_13 X hw hR dX7_about_55 ?_
          refine lv_bipush (v := 9) hx hb dX7_about_58 (by decide) ?_
          refine lv_iload_n hx hb dX7_about_60 rfl (lv_at hl 1 rfl) ?_
          refine lv_imul hx hb dX7_about_61 ?_
          refine lv_iload_n hx hb dX7_about_62 rfl (lv_at hl 3 rfl) ?_
          refine lv_iadd hx hb dX7_about_63 ?_
          refine ri_iald X hw hR 1 rfl (9 * cl x + cl k) (jx 9 c5.1 c51.1) (by omega) dX7_about_64 ?_
          refine lv_goto (tgt := 70) hx hb dX7_about_65 (by decide) ?_
          exact mm_iret hQ X hw (⟨by rw [sp_about, if_neg (fun h9 => h9 c5), if_pos c12, if_pos c51], rfl⟩) (Nat.le_of_ble_eq_true rfl) (Nat.le_of_ble_eq_true rfl) dX7_about_70
      · have c12 : w = 1 := c12
        refine lv_tableIn (off := 59) (tgt := 71) hx hb dX7_about_12 (by rw [c12]; decide) (by rw [c12]; decide) (by rw [c12]; rfl) (by decide) ?_
        refine lv_iload_n hx hb dX7_about_71 rfl (lv_at hl 3 rfl) ?_
        refine lv_iconst (v := 0) hx hb dX7_about_72 (by decide) ?_
        refine lv_bipush (v := 7) hx hb dX7_about_73 (by decide) ?_
        refine mm_callS (As := [.int k, .int 0, .int 7]) (rest := []) X hw (m_in l G _ (k) (0) (7)) wd_X7_82 ⟨Nat.le_of_ble_eq_true rfl, Nat.le_of_ble_eq_true rfl⟩ ⟨Nat.le_of_ble_eq_true rfl, Nat.le_of_ble_eq_true rfl⟩ rfl rfl (Nat.le_of_ble_eq_true rfl) hl.1 dX7_about_75 (fun v9 M9 H9 locs9 hp9 hw => ?_)
        obtain ⟨rfl, rfl⟩ := hp9
        refine W.eq (g2 := F0 m 78 ls [.int (bI (0 ≤ k ∧ k ≤ 7))]) rfl ?_
        refine mm_ifeqB (tgt := 95) hx hb dX7_about_78 (by decide) (fun c78 => ?_) (fun c78 => ?_)
        · refine lv_bipush (v := (-2)) hx hb dX7_about_95 (by decide) ?_
          exact mm_iret hQ X hw (⟨by rw [sp_about, if_neg (fun h9 => h9 c5), if_neg (by rw [c12]; decide), if_pos c12, if_neg c78], rfl⟩) (Nat.le_of_ble_eq_true rfl) (Nat.le_of_ble_eq_true rfl) dX7_about_97
        · have b_k : cl k ≤ 7 := cl_le (n := 7) rfl (by decide) c78
          refine lv_aload_n hx hb dX7_about_81 rfl (lv_at hl 0 rfl) ?_
          refine rg_17 X hw hR dX7_about_82 ?_
          refine lv_bipush (v := 8) hx hb dX7_about_85 (by decide) ?_
          refine lv_iload_n hx hb dX7_about_87 rfl (lv_at hl 1 rfl) ?_
          refine lv_imul hx hb dX7_about_88 ?_
          refine lv_iload_n hx hb dX7_about_89 rfl (lv_at hl 3 rfl) ?_
          refine lv_iadd hx hb dX7_about_90 ?_
          refine ri_iald X hw hR 2 rfl (8 * cl x + cl k) (jx 8 c5.1 c78.1) (by omega) dX7_about_91 ?_
          refine lv_goto (tgt := 97) hx hb dX7_about_92 (by decide) ?_
          exact mm_iret hQ X hw (⟨by rw [sp_about, if_neg (fun h9 => h9 c5), if_neg (by rw [c12]; decide), if_pos c12, if_pos c78], rfl⟩) (Nat.le_of_ble_eq_true rfl) (Nat.le_of_ble_eq_true rfl) dX7_about_97
      · have c12 : w = 2 := c12
        refine lv_tableIn (off := 86) (tgt := 98) hx hb dX7_about_12 (by rw [c12]; decide) (by rw [c12]; decide) (by rw [c12]; rfl) (by decide) ?_
        refine lv_aload_n hx hb dX7_about_98 rfl (lv_at hl 0 rfl) ?_
        refine rg_20 X hw hR dX7_about_99 ?_
        refine lv_iload_n hx hb dX7_about_102 rfl (lv_at hl 1 rfl) ?_
        refine ri_iald X hw hR 3 rfl (cl x) (nI_cl c5.1) (by omega) dX7_about_103 ?_
        exact mm_iret hQ X hw (⟨by rw [sp_about, if_neg (fun h9 => h9 c5), if_neg (by rw [c12]; decide), if_neg (by rw [c12]; decide), if_pos c12], rfl⟩) (Nat.le_of_ble_eq_true rfl) (Nat.le_of_ble_eq_true rfl) dX7_about_104
      · have c12 : w = 3 := c12
        refine lv_tableIn (off := 93) (tgt := 105) hx hb dX7_about_12 (by rw [c12]; decide) (by rw [c12]; decide) (by rw [c12]; rfl) (by decide) ?_
        refine lv_aload_n hx hb dX7_about_105 rfl (lv_at hl 0 rfl) ?_
        refine rg_23 X hw hR dX7_about_106 ?_
        refine lv_iload_n hx hb dX7_about_109 rfl (lv_at hl 1 rfl) ?_
        refine ri_iald X hw hR 4 rfl (cl x) (nI_cl c5.1) (by omega) dX7_about_110 ?_
        exact mm_iret hQ X hw (⟨by rw [sp_about, if_neg (fun h9 => h9 c5), if_neg (by rw [c12]; decide), if_neg (by rw [c12]; decide), if_neg (by rw [c12]; decide), if_pos c12], rfl⟩) (Nat.le_of_ble_eq_true rfl) (Nat.le_of_ble_eq_true rfl) dX7_about_111
    · refine lv_tableOut (tgt := 112) hx hb dX7_about_12 c12 (by decide) ?_
      refine lv_bipush (v := (-2)) hx hb dX7_about_112 (by decide) ?_
      exact mm_iret hQ X hw (⟨by rw [sp_about, if_neg (fun h9 => h9 c5), if_neg (by intro h9; rw [h9] at c12; revert c12; decide), if_neg (by intro h9; rw [h9] at c12; revert c12; decide), if_neg (by intro h9; rw [h9] at c12; revert c12; decide), if_neg (by intro h9; rw [h9] at c12; revert c12; decide)], rfl⟩) (Nat.le_of_ble_eq_true rfl) (Nat.le_of_ble_eq_true rfl) dX7_about_114
  · refine lv_bipush (v := (-2)) hx hb dX7_about_8 (by decide) ?_
    exact mm_iret hQ X hw (⟨by rw [sp_about, if_pos c5], rfl⟩) (Nat.le_of_ble_eq_true rfl) (Nat.le_of_ble_eq_true rfl) dX7_about_10
set_option maxHeartbeats 4000000 in
set_option maxRecDepth 100000 in
theorem m_node (l : Launch) (G : mG) (M : mM) (g : Nat) (L : Nat → Nat) (S : sS) (cs ar : Nat → Int64) (K : Nat → Nat → Int64) (hR : RV G g L S cs ar K M) (ne nn nc nl ht : Nat) (hN : NM S ne nn nc nl ht) (x y : Int32) : Ct l yX7_node cX7_node 3 (some FieldType.int) (mm_r 1 0 0) G [.ref g, .int x, .int y] M (fun r M1 => r = some (.int (sp_node S x y).1) ∧ ∃ K1, RV G g L (sp_node S x y).2 cs ar K1 M1) := by
  refine Ct.of (by decide) (Nat.le_of_ble_eq_true rfl) ?_
  intro p e s m args below meth c ls Q X hin hl hw hQ
  have hx := X.1
  have hb := X.2.1
  have hl : lv_has ls 3 [(0, .ref g), (1, .int x), (2, .int y)] := hl
  obtain ⟨hN0, hN1, hN2, hN7, hN8, hN12, hN13, hN18, hN19, hN5, hN6⟩ := id hN
  have h7c : S 7 0 = nI (cl (S 7 0)) := by rw [hN7, cl_n (by omega)]
  have h7b : cl (S 7 0) = nn := by rw [hN7, cl_n (by omega)]
  refine lv_iload_n hx hb dX7_node_0 rfl (lv_at hl 1 rfl) ?_
  refine lv_iconst (v := 1) hx hb dX7_node_1 (by decide) ?_
  refine lv_sipush (v := 1000) hx hb dX7_node_2 (by decide) ?_
  refine mm_callS (As := [.int x, .int 1, .int 1000]) (rest := []) X hw (m_in l G _ (x) (1) (1000)) wd_X7_82 ⟨Nat.le_of_ble_eq_true rfl, Nat.le_of_ble_eq_true rfl⟩ ⟨Nat.le_of_ble_eq_true rfl, Nat.le_of_ble_eq_true rfl⟩ rfl rfl (Nat.le_of_ble_eq_true rfl) hl.1 dX7_node_5 (fun v9 M9 H9 locs9 hp9 hw => ?_)
  obtain ⟨rfl, rfl⟩ := hp9
  refine W.eq (g2 := F0 m 8 ls [.int (bI (1 ≤ x ∧ x ≤ 1000))]) rfl ?_
  refine mm_ifeqB (tgt := 22) hx hb dX7_node_8 (by decide) (fun c8 => ?_) (fun c8 => ?_)
  · refine lv_bipush (v := (-2)) hx hb dX7_node_22 (by decide) ?_
    exact mm_iret hQ X hw (by have e9 : sp_node S x y = ((-2), S) := (by rw [sp_node, if_pos c8]); rw [e9]; exact ⟨rfl, _, hR⟩) (Nat.le_of_ble_eq_true rfl) (Nat.le_of_ble_eq_true rfl) dX7_node_24
  · refine lv_iload_n hx hb dX7_node_11 rfl (lv_at hl 2 rfl) ?_
    refine lv_iconst (v := 0) hx hb dX7_node_12 (by decide) ?_
    refine lv_sipush (v := 1023) hx hb dX7_node_13 (by decide) ?_
    refine mm_callS (As := [.int y, .int 0, .int 1023]) (rest := []) X hw (m_in l G _ (y) (0) (1023)) wd_X7_82 ⟨Nat.le_of_ble_eq_true rfl, Nat.le_of_ble_eq_true rfl⟩ ⟨Nat.le_of_ble_eq_true rfl, Nat.le_of_ble_eq_true rfl⟩ rfl rfl (Nat.le_of_ble_eq_true rfl) hl.1 dX7_node_16 (fun v9 M9 H9 locs9 hp9 hw => ?_)
    obtain ⟨rfl, rfl⟩ := hp9
    refine W.eq (g2 := F0 m 19 ls [.int (bI (0 ≤ y ∧ y ≤ 1023))]) rfl ?_
    refine mm_ifneB (tgt := 25) hx hb dX7_node_19 (by decide) (fun c19 => ?_) (fun c19 => ?_)
    · refine lv_aload_n hx hb dX7_node_25 rfl (lv_at hl 0 rfl) ?_
      refine rg_86 X hw hR dX7_node_26 ?_
      refine lv_bipush (v := 12) hx hb dX7_node_29 (by decide) ?_
      refine lv_icmp_ne (tgt := 37) hx hb dX7_node_31 (by decide) (fun c31 => ?_) (fun c31 => ?_)
      · have q7 : nn ≠ 12 := fun h9 => c31 (by rw [hN7, h9]; rfl)
        refine lv_aload_n hx hb dX7_node_37 rfl (lv_at hl 0 rfl) ?_
        refine rg_29 X hw hR dX7_node_38 ?_
        refine lv_aload_n hx hb dX7_node_41 rfl (lv_at hl 0 rfl) ?_
        refine rg_86 X hw hR dX7_node_42 ?_
        refine lv_iload_n hx hb dX7_node_45 rfl (lv_at hl 1 rfl) ?_
        refine ri_iast X hw hR 8 rfl (cl (S 7 0)) (h7c) (by omega) dX7_node_46 (fun M9 H9 locs9 hw hR => ?_)
        refine lv_aload_n hx hb dX7_node_47 rfl (lv_at hl 0 rfl) ?_
        refine rg_32 X hw hR dX7_node_48 ?_
        refine W.eq (g2 := F0 m 51 ls [.ref (L 9)]) rfl ?_
        refine lv_aload_n hx hb dX7_node_51 rfl (lv_at hl 0 rfl) ?_
        refine rg_86 X hw hR dX7_node_52 ?_
        refine W.eq (g2 := F0 m 55 ls [.int (S 7 0), .ref (L 9)]) rfl ?_
        refine lv_iload_n hx hb dX7_node_55 rfl (lv_at hl 2 rfl) ?_
        refine ri_iast X hw hR 9 rfl (cl (S 7 0)) (h7c) (by omega) dX7_node_56 (fun M9 H9 locs9 hw hR => ?_)
        have hR : RV G g L (va_up (va_up S 8 (upd (S 8) (cl (S 7 0)) (x))) 9 (upd (S 9) (cl (S 7 0)) (y))) cs ar K M9 := hR
        refine lv_aload_n hx hb dX7_node_57 rfl (lv_at hl 0 rfl) ?_
        refine rg_35 X hw hR dX7_node_58 ?_
        refine W.eq (g2 := F0 m 61 ls [.ref (L 10)]) rfl ?_
        refine lv_aload_n hx hb dX7_node_61 rfl (lv_at hl 0 rfl) ?_
        refine rg_86 X hw hR dX7_node_62 ?_
        refine W.eq (g2 := F0 m 65 ls [.int (S 7 0), .ref (L 10)]) rfl ?_
        refine lv_iconst (v := (-1)) hx hb dX7_node_65 (by decide) ?_
        refine ri_iast X hw hR 10 rfl (cl (S 7 0)) (h7c) (by omega) dX7_node_66 (fun M9 H9 locs9 hw hR => ?_)
        have hR : RV G g L (va_up (va_up (va_up S 8 (upd (S 8) (cl (S 7 0)) (x))) 9 (upd (S 9) (cl (S 7 0)) (y))) 10 (upd (S 10) (cl (S 7 0)) ((-1)))) cs ar K M9 := hR
        refine lv_aload_n hx hb dX7_node_67 rfl (lv_at hl 0 rfl) ?_
        refine lv_dup hx hb dX7_node_68 rfl ?_
        refine rg_86 X hw hR dX7_node_69 ?_
        refine W.eq (g2 := F0 m 72 ls [.int (S 7 0), .ref g]) rfl ?_
        refine lv_iconst (v := 1) hx hb dX7_node_72 (by decide) ?_
        refine lv_iadd hx hb dX7_node_73 ?_
        refine rp_86 X hw hR dX7_node_74 (fun M9 H9 locs9 hw hR => ?_)
        have hR : RV G g L (va_up (va_up (va_up (va_up S 8 (upd (S 8) (cl (S 7 0)) (x))) 9 (upd (S 9) (cl (S 7 0)) (y))) 10 (upd (S 10) (cl (S 7 0)) ((-1)))) 7 (fun _ => (S 7 0) + 1)) cs ar K M9 := hR
        refine lv_aload_n hx hb dX7_node_77 rfl (lv_at hl 0 rfl) ?_
        refine rg_86 X hw hR dX7_node_78 ?_
        refine W.eq (g2 := F0 m 81 ls [.int ((S 7 0) + 1)]) rfl ?_
        refine lv_iconst (v := 1) hx hb dX7_node_81 (by decide) ?_
        refine lv_isub hx hb dX7_node_82 ?_
        exact mm_iret hQ X hw (by have e9 : sp_node S x y = (((S 7 0) + 1) - 1, va_up (va_up (va_up (va_up S 8 (upd (S 8) (cl (S 7 0)) (x))) 9 (upd (S 9) (cl (S 7 0)) (y))) 10 (upd (S 10) (cl (S 7 0)) ((-1)))) 7 (fun _ => (S 7 0) + 1)) := (by rw [sp_node, if_neg (fun h9 => h9 c8), if_neg (fun h9 => h9 c19), if_neg c31]); rw [e9]; exact ⟨rfl, _, hR⟩) (Nat.le_of_ble_eq_true rfl) (Nat.le_of_ble_eq_true rfl) dX7_node_83
      · refine lv_bipush (v := (-4)) hx hb dX7_node_34 (by decide) ?_
        exact mm_iret hQ X hw (by have e9 : sp_node S x y = ((-4), S) := (by rw [sp_node, if_neg (fun h9 => h9 c8), if_neg (fun h9 => h9 c19), if_pos c31]); rw [e9]; exact ⟨rfl, _, hR⟩) (Nat.le_of_ble_eq_true rfl) (Nat.le_of_ble_eq_true rfl) dX7_node_36
    · refine lv_bipush (v := (-2)) hx hb dX7_node_22 (by decide) ?_
      exact mm_iret hQ X hw (by have e9 : sp_node S x y = ((-2), S) := (by rw [sp_node, if_neg (fun h9 => h9 c8), if_pos c19]); rw [e9]; exact ⟨rfl, _, hR⟩) (Nat.le_of_ble_eq_true rfl) (Nat.le_of_ble_eq_true rfl) dX7_node_24
set_option maxHeartbeats 4000000 in
set_option maxRecDepth 100000 in
theorem m_build (l : Launch) (G : mG) (M : mM) (g : Nat) (L : Nat → Nat) (S : sS) (cs ar : Nat → Int64) (K : Nat → Nat → Int64) (hR : RV G g L S cs ar K M) (ne nn nc nl ht : Nat) (hN : NM S ne nn nc nl ht) (x y : Int32) : Ct l yX7_build cX7_build 3 (some FieldType.int) (mm_r 2 0 0) G [.ref g, .int x, .int y] M (fun r M1 => r = some (.int (sp_build S x y).1) ∧ ∃ K1, RV G g L (sp_build S x y).2 cs ar K1 M1) := by
  refine Ct.of (by decide) (Nat.le_of_ble_eq_true rfl) ?_
  intro p e s m args below meth c ls Q X hin hl hw hQ
  have hx := X.1
  have hb := X.2.1
  have hl : lv_has ls 3 [(0, .ref g), (1, .int x), (2, .int y)] := hl
  obtain ⟨hN0, hN1, hN2, hN7, hN8, hN12, hN13, hN18, hN19, hN5, hN6⟩ := id hN
  refine lv_aload_n hx hb dX7_build_0 rfl (lv_at hl 0 rfl) ?_
  refine lv_iload_n hx hb dX7_build_1 rfl (lv_at hl 1 rfl) ?_
  refine mm_callV (As := [.int x]) (rest := []) X hw (m_isNode l G _ g L _ cs ar K hR (x) nn hN7 (by omega)) (hR.1) rfl wd_X7_96 ⟨Nat.le_of_ble_eq_true rfl, Nat.le_of_ble_eq_true rfl⟩ ⟨Nat.le_of_ble_eq_true rfl, Nat.le_of_ble_eq_true rfl⟩ rfl rfl (Nat.le_of_ble_eq_true rfl) hl.1 dX7_build_2 (fun v9 M9 H9 locs9 hp9 hw => ?_)
  obtain ⟨rfl, rfl⟩ := hp9
  refine W.eq (g2 := F0 m 5 ls [.int (bI (0 ≤ x ∧ x < S 7 0))]) rfl ?_
  refine mm_ifeqB (tgt := 19) hx hb dX7_build_5 (by decide) (fun c5 => ?_) (fun c5 => ?_)
  · refine lv_bipush (v := (-2)) hx hb dX7_build_19 (by decide) ?_
    exact mm_iret hQ X hw (by have e9 : sp_build S x y = ((-2), S) := (by rw [sp_build, if_pos c5]); rw [e9]; exact ⟨rfl, _, hR⟩) (Nat.le_of_ble_eq_true rfl) (Nat.le_of_ble_eq_true rfl) dX7_build_21
  · have b_x : cl x < nn := cl_lt hN7 (by omega) c5
    refine lv_iload_n hx hb dX7_build_8 rfl (lv_at hl 2 rfl) ?_
    refine lv_iconst (v := 0) hx hb dX7_build_9 (by decide) ?_
    refine lv_sipush (v := 1023) hx hb dX7_build_10 (by decide) ?_
    refine mm_callS (As := [.int y, .int 0, .int 1023]) (rest := []) X hw (m_in l G _ (y) (0) (1023)) wd_X7_82 ⟨Nat.le_of_ble_eq_true rfl, Nat.le_of_ble_eq_true rfl⟩ ⟨Nat.le_of_ble_eq_true rfl, Nat.le_of_ble_eq_true rfl⟩ rfl rfl (Nat.le_of_ble_eq_true rfl) hl.1 dX7_build_13 (fun v9 M9 H9 locs9 hp9 hw => ?_)
    obtain ⟨rfl, rfl⟩ := hp9
    refine W.eq (g2 := F0 m 16 ls [.int (bI (0 ≤ y ∧ y ≤ 1023))]) rfl ?_
    refine mm_ifneB (tgt := 22) hx hb dX7_build_16 (by decide) (fun c16 => ?_) (fun c16 => ?_)
    · refine lv_aload_n hx hb dX7_build_22 rfl (lv_at hl 0 rfl) ?_
      refine rg_35 X hw hR dX7_build_23 ?_
      refine lv_iload_n hx hb dX7_build_26 rfl (lv_at hl 1 rfl) ?_
      refine ri_iald X hw hR 10 rfl (cl x) (nI_cl c5.1) (by omega) dX7_build_27 ?_
      refine lv_iconst (v := (-1)) hx hb dX7_build_28 (by decide) ?_
      refine lv_icmp_eq (tgt := 35) hx hb dX7_build_29 (by decide) (fun c29 => ?_) (fun c29 => ?_)
      · refine lv_aload_n hx hb dX7_build_35 rfl (lv_at hl 0 rfl) ?_
        refine rg_32 X hw hR dX7_build_36 ?_
        refine lv_iload_n hx hb dX7_build_39 rfl (lv_at hl 1 rfl) ?_
        refine lv_iload_n hx hb dX7_build_40 rfl (lv_at hl 2 rfl) ?_
        refine ri_iast X hw hR 9 rfl (cl x) (nI_cl c5.1) (by omega) dX7_build_41 (fun M9 H9 locs9 hw hR => ?_)
        refine lv_iconst (v := 1) hx hb dX7_build_42 (by decide) ?_
        exact mm_iret hQ X hw (by have e9 : sp_build S x y = (1, va_up S 9 (upd (S 9) (cl x) (y))) := (by rw [sp_build, if_neg (fun h9 => h9 c5), if_neg (fun h9 => h9 c16), if_neg (fun h9 => h9 c29)]); rw [e9]; exact ⟨rfl, _, hR⟩) (Nat.le_of_ble_eq_true rfl) (Nat.le_of_ble_eq_true rfl) dX7_build_43
      · refine lv_bipush (v := (-3)) hx hb dX7_build_32 (by decide) ?_
        exact mm_iret hQ X hw (by have e9 : sp_build S x y = ((-3), S) := (by rw [sp_build, if_neg (fun h9 => h9 c5), if_neg (fun h9 => h9 c16), if_pos c29]); rw [e9]; exact ⟨rfl, _, hR⟩) (Nat.le_of_ble_eq_true rfl) (Nat.le_of_ble_eq_true rfl) dX7_build_34
    · refine lv_bipush (v := (-2)) hx hb dX7_build_19 (by decide) ?_
      exact mm_iret hQ X hw (by have e9 : sp_build S x y = ((-2), S) := (by rw [sp_build, if_neg (fun h9 => h9 c5), if_pos c16]); rw [e9]; exact ⟨rfl, _, hR⟩) (Nat.le_of_ble_eq_true rfl) (Nat.le_of_ble_eq_true rfl) dX7_build_21
set_option maxHeartbeats 4000000 in
set_option maxRecDepth 100000 in
theorem m_vote (l : Launch) (G : mG) (M : mM) (g : Nat) (L : Nat → Nat) (S : sS) (cs ar : Nat → Int64) (K : Nat → Nat → Int64) (hR : RV G g L S cs ar K M) (ne nn nc nl ht : Nat) (hN : NM S ne nn nc nl ht) (x y v : Int32) (hv : v = 0 ∨ v = 1) : Ct l yX7_vote cX7_vote 4 (some FieldType.int) (mm_r 2 0 0) G [.ref g, .int x, .int y, .int v] M (fun r M1 => r = some (.int (sp_vote S x y v).1) ∧ ∃ K1, RV G g L (sp_vote S x y v).2 cs ar K1 M1) := by
  refine Ct.of (by decide) (Nat.le_of_ble_eq_true rfl) ?_
  intro p e s m args below meth c ls Q X hin hl hw hQ
  have hx := X.1
  have hb := X.2.1
  have hl : lv_has ls 4 [(0, .ref g), (1, .int x), (2, .int y), (3, .int v)] := hl
  obtain ⟨hN0, hN1, hN2, hN7, hN8, hN12, hN13, hN18, hN19, hN5, hN6⟩ := id hN
  refine lv_aload_n hx hb dX7_vote_0 rfl (lv_at hl 0 rfl) ?_
  refine lv_iload_n hx hb dX7_vote_1 rfl (lv_at hl 1 rfl) ?_
  refine mm_callV (As := [.int x]) (rest := []) X hw (m_isNode l G _ g L _ cs ar K hR (x) nn hN7 (by omega)) (hR.1) rfl wd_X7_96 ⟨Nat.le_of_ble_eq_true rfl, Nat.le_of_ble_eq_true rfl⟩ ⟨Nat.le_of_ble_eq_true rfl, Nat.le_of_ble_eq_true rfl⟩ rfl rfl (Nat.le_of_ble_eq_true rfl) hl.1 dX7_vote_2 (fun v9 M9 H9 locs9 hp9 hw => ?_)
  obtain ⟨rfl, rfl⟩ := hp9
  refine W.eq (g2 := F0 m 5 ls [.int (bI (0 ≤ x ∧ x < S 7 0))]) rfl ?_
  refine mm_ifeqB (tgt := 16) hx hb dX7_vote_5 (by decide) (fun c5 => ?_) (fun c5 => ?_)
  · refine lv_bipush (v := (-2)) hx hb dX7_vote_16 (by decide) ?_
    exact mm_iret hQ X hw (by have e9 : sp_vote S x y v = ((-2), S) := (by rw [sp_vote, if_pos c5]); rw [e9]; exact ⟨rfl, _, hR⟩) (Nat.le_of_ble_eq_true rfl) (Nat.le_of_ble_eq_true rfl) dX7_vote_18
  · have b_x : cl x < nn := cl_lt hN7 (by omega) c5
    refine lv_aload_n hx hb dX7_vote_8 rfl (lv_at hl 0 rfl) ?_
    refine lv_iload_n hx hb dX7_vote_9 rfl (lv_at hl 2 rfl) ?_
    refine mm_callV (As := [.int y]) (rest := []) X hw (m_isEdition l G _ g L _ cs ar K hR (y) ne hN0 (by omega)) (hR.1) rfl wd_X7_92 ⟨Nat.le_of_ble_eq_true rfl, Nat.le_of_ble_eq_true rfl⟩ ⟨Nat.le_of_ble_eq_true rfl, Nat.le_of_ble_eq_true rfl⟩ rfl rfl (Nat.le_of_ble_eq_true rfl) hl.1 dX7_vote_10 (fun v9 M9 H9 locs9 hp9 hw => ?_)
    obtain ⟨rfl, rfl⟩ := hp9
    refine W.eq (g2 := F0 m 13 ls [.int (bI (0 ≤ y ∧ y < S 0 0))]) rfl ?_
    refine mm_ifneB (tgt := 19) hx hb dX7_vote_13 (by decide) (fun c13 => ?_) (fun c13 => ?_)
    · have b_y : cl y < ne := cl_lt hN0 (by omega) c13
      refine lv_aload_n hx hb dX7_vote_19 rfl (lv_at hl 0 rfl) ?_
      refine rg_23 X hw hR dX7_vote_20 ?_
      refine lv_iload_n hx hb dX7_vote_23 rfl (lv_at hl 2 rfl) ?_
      refine ri_iald X hw hR 4 rfl (cl y) (nI_cl c13.1) (by omega) dX7_vote_24 ?_
      refine lv_iconst (v := 1) hx hb dX7_vote_25 (by decide) ?_
      refine lv_icmp_ne (tgt := 39) hx hb dX7_vote_26 (by decide) (fun c26 => ?_) (fun c26 => ?_)
      · refine lv_bipush (v := (-3)) hx hb dX7_vote_39 (by decide) ?_
        exact mm_iret hQ X hw (by have e9 : sp_vote S x y v = ((-3), S) := (by rw [sp_vote, if_neg (fun h9 => h9 c5), if_neg (fun h9 => h9 c13), if_pos c26]); rw [e9]; exact ⟨rfl, _, hR⟩) (Nat.le_of_ble_eq_true rfl) (Nat.le_of_ble_eq_true rfl) dX7_vote_41
      · refine lv_aload_n hx hb dX7_vote_29 rfl (lv_at hl 0 rfl) ?_
        refine rg_35 X hw hR dX7_vote_30 ?_
        refine lv_iload_n hx hb dX7_vote_33 rfl (lv_at hl 1 rfl) ?_
        refine ri_iald X hw hR 10 rfl (cl x) (nI_cl c5.1) (by omega) dX7_vote_34 ?_
        refine lv_iconst (v := (-1)) hx hb dX7_vote_35 (by decide) ?_
        refine lv_icmp_eq (tgt := 42) hx hb dX7_vote_36 (by decide) (fun c36 => ?_) (fun c36 => ?_)
        · refine lv_aload_n hx hb dX7_vote_42 rfl (lv_at hl 0 rfl) ?_
          refine rg_38 X hw hR dX7_vote_43 ?_
          refine lv_bipush (v := 12) hx hb dX7_vote_46 (by decide) ?_
          refine lv_iload_n hx hb dX7_vote_48 rfl (lv_at hl 2 rfl) ?_
          refine lv_imul hx hb dX7_vote_49 ?_
          refine lv_iload_n hx hb dX7_vote_50 rfl (lv_at hl 1 rfl) ?_
          refine lv_iadd hx hb dX7_vote_51 ?_
          refine lv_iload_n hx hb dX7_vote_52 rfl (lv_at hl 3 rfl) ?_
          refine rz_zast X hw hR (hv) (12 * cl y + cl x) (jx 12 c13.1 c5.1) (by omega) dX7_vote_53 (fun M9 H9 locs9 hw hR => ?_)
          refine lv_iconst (v := 1) hx hb dX7_vote_54 (by decide) ?_
          exact mm_iret hQ X hw (by have e9 : sp_vote S x y v = (1, va_up S 11 (upd (S 11) (12 * cl y + cl x) (v))) := (by rw [sp_vote, if_neg (fun h9 => h9 c5), if_neg (fun h9 => h9 c13), if_neg (fun h9 => h9 c26), if_neg (fun h9 => h9 c36)]); rw [e9]; exact ⟨rfl, _, hR⟩) (Nat.le_of_ble_eq_true rfl) (Nat.le_of_ble_eq_true rfl) dX7_vote_55
        · refine lv_bipush (v := (-3)) hx hb dX7_vote_39 (by decide) ?_
          exact mm_iret hQ X hw (by have e9 : sp_vote S x y v = ((-3), S) := (by rw [sp_vote, if_neg (fun h9 => h9 c5), if_neg (fun h9 => h9 c13), if_neg (fun h9 => h9 c26), if_pos c36]); rw [e9]; exact ⟨rfl, _, hR⟩) (Nat.le_of_ble_eq_true rfl) (Nat.le_of_ble_eq_true rfl) dX7_vote_41
    · refine lv_bipush (v := (-2)) hx hb dX7_vote_16 (by decide) ?_
      exact mm_iret hQ X hw (by have e9 : sp_vote S x y v = ((-2), S) := (by rw [sp_vote, if_neg (fun h9 => h9 c5), if_pos c13]); rw [e9]; exact ⟨rfl, _, hR⟩) (Nat.le_of_ble_eq_true rfl) (Nat.le_of_ble_eq_true rfl) dX7_vote_18
set_option maxHeartbeats 4000000 in
set_option maxRecDepth 100000 in
theorem m_force (l : Launch) (G : mG) (M : mM) (g : Nat) (L : Nat → Nat) (S : sS) (cs ar : Nat → Int64) (K : Nat → Nat → Int64) (hR : RV G g L S cs ar K M) (ne nn nc nl ht : Nat) (hN : NM S ne nn nc nl ht) (x : Int32) : Ct l yX7_force cX7_force 2 (some FieldType.int) (mm_r 1 0 0) G [.ref g, .int x] M (fun r M1 => r = some (.int (sp_force S x)) ∧ M = M1) := by
  refine Ct.of (by decide) (Nat.le_of_ble_eq_true rfl) ?_
  intro p e s m args below meth c ls Q X hin hl hw hQ
  have hx := X.1
  have hb := X.2.1
  have hl : lv_has ls 2 [(0, .ref g), (1, .int x)] := hl
  obtain ⟨hN0, hN1, hN2, hN7, hN8, hN12, hN13, hN18, hN19, hN5, hN6⟩ := id hN
  refine lv_iload_n hx hb dX7_force_0 rfl (lv_at hl 1 rfl) ?_
  refine lv_iconst (v := 0) hx hb dX7_force_1 (by decide) ?_
  refine lv_aload_n hx hb dX7_force_2 rfl (lv_at hl 0 rfl) ?_
  refine rg_99 X hw hR dX7_force_3 ?_
  refine mm_callS (As := [.int x, .int 0, .int (S 5 0)]) (rest := []) X hw (m_in l G _ (x) (0) (S 5 0)) wd_X7_82 ⟨Nat.le_of_ble_eq_true rfl, Nat.le_of_ble_eq_true rfl⟩ ⟨Nat.le_of_ble_eq_true rfl, Nat.le_of_ble_eq_true rfl⟩ rfl rfl (Nat.le_of_ble_eq_true rfl) hl.1 dX7_force_6 (fun v9 M9 H9 locs9 hp9 hw => ?_)
  obtain ⟨rfl, rfl⟩ := hp9
  refine W.eq (g2 := F0 m 9 ls [.int (bI (0 ≤ x ∧ x ≤ (S 5 0)))]) rfl ?_
  refine mm_ifeqB (tgt := 21) hx hb dX7_force_9 (by decide) (fun c9 => ?_) (fun c9 => ?_)
  · refine lv_bipush (v := (-2)) hx hb dX7_force_21 (by decide) ?_
    exact mm_iret hQ X hw (⟨by rw [sp_force, if_neg c9], rfl⟩) (Nat.le_of_ble_eq_true rfl) (Nat.le_of_ble_eq_true rfl) dX7_force_23
  · have b_x : cl x ≤ ht := cl_le hN5 (by omega) c9
    refine lv_aload_n hx hb dX7_force_12 rfl (lv_at hl 0 rfl) ?_
    refine rg_26 X hw hR dX7_force_13 ?_
    refine lv_iload_n hx hb dX7_force_16 rfl (lv_at hl 1 rfl) ?_
    refine ri_iald X hw hR 6 rfl (cl x) (nI_cl c9.1) (by omega) dX7_force_17 ?_
    refine lv_goto (tgt := 23) hx hb dX7_force_18 (by decide) ?_
    exact mm_iret hQ X hw (⟨by rw [sp_force, if_pos c9], rfl⟩) (Nat.le_of_ble_eq_true rfl) (Nat.le_of_ble_eq_true rfl) dX7_force_23
set_option maxHeartbeats 4000000 in
set_option maxRecDepth 100000 in
theorem m_halted (l : Launch) (G : mG) (M : mM) (g : Nat) (L : Nat → Nat) (S : sS) (cs ar : Nat → Int64) (K : Nat → Nat → Int64) (hR : RV G g L S cs ar K M) (ne nn nc nl ht : Nat) (hN : NM S ne nn nc nl ht) (x : Int32) : Ct l yX7_halted cX7_halted 2 (some FieldType.int) (mm_r 2 0 0) G [.ref g, .int x] M (fun r M1 => r = some (.int (sp_halted S x)) ∧ M = M1) := by
  refine Ct.of (by decide) (Nat.le_of_ble_eq_true rfl) ?_
  intro p e s m args below meth c ls Q X hin hl hw hQ
  have hx := X.1
  have hb := X.2.1
  have hl : lv_has ls 2 [(0, .ref g), (1, .int x)] := hl
  obtain ⟨hN0, hN1, hN2, hN7, hN8, hN12, hN13, hN18, hN19, hN5, hN6⟩ := id hN
  refine lv_aload_n hx hb dX7_halted_0 rfl (lv_at hl 0 rfl) ?_
  refine lv_iload_n hx hb dX7_halted_1 rfl (lv_at hl 1 rfl) ?_
  refine mm_callV (As := [.int x]) (rest := []) X hw (m_isNode l G _ g L _ cs ar K hR (x) nn hN7 (by omega)) (hR.1) rfl wd_X7_96 ⟨Nat.le_of_ble_eq_true rfl, Nat.le_of_ble_eq_true rfl⟩ ⟨Nat.le_of_ble_eq_true rfl, Nat.le_of_ble_eq_true rfl⟩ rfl rfl (Nat.le_of_ble_eq_true rfl) hl.1 dX7_halted_2 (fun v9 M9 H9 locs9 hp9 hw => ?_)
  obtain ⟨rfl, rfl⟩ := hp9
  refine W.eq (g2 := F0 m 5 ls [.int (bI (0 ≤ x ∧ x < S 7 0))]) rfl ?_
  refine mm_ifeqB (tgt := 17) hx hb dX7_halted_5 (by decide) (fun c5 => ?_) (fun c5 => ?_)
  · refine lv_bipush (v := (-2)) hx hb dX7_halted_17 (by decide) ?_
    exact mm_iret hQ X hw (⟨by rw [sp_halted, if_neg c5], rfl⟩) (Nat.le_of_ble_eq_true rfl) (Nat.le_of_ble_eq_true rfl) dX7_halted_19
  · have b_x : cl x < nn := cl_lt hN7 (by omega) c5
    refine lv_aload_n hx hb dX7_halted_8 rfl (lv_at hl 0 rfl) ?_
    refine rg_35 X hw hR dX7_halted_9 ?_
    refine lv_iload_n hx hb dX7_halted_12 rfl (lv_at hl 1 rfl) ?_
    refine ri_iald X hw hR 10 rfl (cl x) (nI_cl c5.1) (by omega) dX7_halted_13 ?_
    refine lv_goto (tgt := 19) hx hb dX7_halted_14 (by decide) ?_
    exact mm_iret hQ X hw (⟨by rw [sp_halted, if_pos c5], rfl⟩) (Nat.le_of_ble_eq_true rfl) (Nat.le_of_ble_eq_true rfl) dX7_halted_19
set_option maxHeartbeats 4000000 in
set_option maxRecDepth 100000 in
theorem m_contract (l : Launch) (G : mG) (M : mM) (g : Nat) (L : Nat → Nat) (S : sS) (cs ar : Nat → Int64) (K : Nat → Nat → Int64) (hR : RV G g L S cs ar K M) (ne nn nc nl ht : Nat) (hN : NM S ne nn nc nl ht)  : Ct l yX7_contract cX7_contract 1 (some FieldType.int) (mm_r 0 0 0) G [.ref g] M (fun r M1 => r = some (.int (sp_contract S).1) ∧ ∃ K1, RV G g L (sp_contract S).2 cs ar K1 M1) := by
  refine Ct.of (by decide) (Nat.le_of_ble_eq_true rfl) ?_
  intro p e s m args below meth c ls Q X hin hl hw hQ
  have hx := X.1
  have hb := X.2.1
  have hl : lv_has ls 1 [(0, .ref g)] := hl
  obtain ⟨hN0, hN1, hN2, hN7, hN8, hN12, hN13, hN18, hN19, hN5, hN6⟩ := id hN
  have h12c : S 12 0 = nI (cl (S 12 0)) := by rw [hN12, cl_n (by omega)]
  have h12b : cl (S 12 0) = nc := by rw [hN12, cl_n (by omega)]
  refine lv_aload_n hx hb dX7_contract_0 rfl (lv_at hl 0 rfl) ?_
  refine rg_89 X hw hR dX7_contract_1 ?_
  refine lv_bipush (v := 12) hx hb dX7_contract_4 (by decide) ?_
  refine lv_icmp_ne (tgt := 12) hx hb dX7_contract_6 (by decide) (fun c6 => ?_) (fun c6 => ?_)
  · have q12 : nc ≠ 12 := fun h9 => c6 (by rw [hN12, h9]; rfl)
    refine lv_aload_n hx hb dX7_contract_12 rfl (lv_at hl 0 rfl) ?_
    refine rg_42 X hw hR dX7_contract_13 ?_
    refine lv_aload_n hx hb dX7_contract_16 rfl (lv_at hl 0 rfl) ?_
    refine rg_89 X hw hR dX7_contract_17 ?_
    refine lv_iconst (v := (-1)) hx hb dX7_contract_20 (by decide) ?_
    refine ri_iast X hw hR 13 rfl (cl (S 12 0)) (h12c) (by omega) dX7_contract_21 (fun M9 H9 locs9 hw hR => ?_)
    refine lv_aload_n hx hb dX7_contract_22 rfl (lv_at hl 0 rfl) ?_
    refine lv_dup hx hb dX7_contract_23 rfl ?_
    refine rg_89 X hw hR dX7_contract_24 ?_
    refine W.eq (g2 := F0 m 27 ls [.int (S 12 0), .ref g]) rfl ?_
    refine lv_iconst (v := 1) hx hb dX7_contract_27 (by decide) ?_
    refine lv_iadd hx hb dX7_contract_28 ?_
    refine rp_89 X hw hR dX7_contract_29 (fun M9 H9 locs9 hw hR => ?_)
    have hR : RV G g L (va_up (va_up S 13 (upd (S 13) (cl (S 12 0)) ((-1)))) 12 (fun _ => (S 12 0) + 1)) cs ar K M9 := hR
    refine lv_aload_n hx hb dX7_contract_32 rfl (lv_at hl 0 rfl) ?_
    refine rg_89 X hw hR dX7_contract_33 ?_
    refine W.eq (g2 := F0 m 36 ls [.int ((S 12 0) + 1)]) rfl ?_
    refine lv_iconst (v := 1) hx hb dX7_contract_36 (by decide) ?_
    refine lv_isub hx hb dX7_contract_37 ?_
    exact mm_iret hQ X hw (by have e9 : sp_contract S = (((S 12 0) + 1) - 1, va_up (va_up S 13 (upd (S 13) (cl (S 12 0)) ((-1)))) 12 (fun _ => (S 12 0) + 1)) := (by rw [sp_contract, if_neg c6]); rw [e9]; exact ⟨rfl, _, hR⟩) (Nat.le_of_ble_eq_true rfl) (Nat.le_of_ble_eq_true rfl) dX7_contract_38
  · refine lv_bipush (v := (-4)) hx hb dX7_contract_9 (by decide) ?_
    exact mm_iret hQ X hw (by have e9 : sp_contract S = ((-4), S) := (by rw [sp_contract, if_pos c6]); rw [e9]; exact ⟨rfl, _, hR⟩) (Nat.le_of_ble_eq_true rfl) (Nat.le_of_ble_eq_true rfl) dX7_contract_11
set_option maxHeartbeats 4000000 in
set_option maxRecDepth 100000 in
theorem m_cell (l : Launch) (G : mG) (M : mM) (g : Nat) (L : Nat → Nat) (S : sS) (cs ar : Nat → Int64) (K : Nat → Nat → Int64) (hR : RV G g L S cs ar K M) (ne nn nc nl ht : Nat) (hN : NM S ne nn nc nl ht) (x y : Int32) : Ct l yX7_cell cX7_cell 3 (some FieldType.long) (mm_r 2 0 0) G [.ref g, .int x, .int y] M (fun r M1 => r = some (.long (sp_cell S cs x y)) ∧ M = M1) := by
  refine Ct.of (by decide) (Nat.le_of_ble_eq_true rfl) ?_
  intro p e s m args below meth c ls Q X hin hl hw hQ
  have hx := X.1
  have hb := X.2.1
  have hl : lv_has ls 3 [(0, .ref g), (1, .int x), (2, .int y)] := hl
  obtain ⟨hN0, hN1, hN2, hN7, hN8, hN12, hN13, hN18, hN19, hN5, hN6⟩ := id hN
  refine lv_aload_n hx hb dX7_cell_0 rfl (lv_at hl 0 rfl) ?_
  refine lv_iload_n hx hb dX7_cell_1 rfl (lv_at hl 1 rfl) ?_
  refine mm_callV (As := [.int x]) (rest := []) X hw (m_isContract l G _ g L _ cs ar K hR (x) nc hN12 (by omega)) (hR.1) rfl wd_X7_109 ⟨Nat.le_of_ble_eq_true rfl, Nat.le_of_ble_eq_true rfl⟩ ⟨Nat.le_of_ble_eq_true rfl, Nat.le_of_ble_eq_true rfl⟩ rfl rfl (Nat.le_of_ble_eq_true rfl) hl.1 dX7_cell_2 (fun v9 M9 H9 locs9 hp9 hw => ?_)
  obtain ⟨rfl, rfl⟩ := hp9
  refine W.eq (g2 := F0 m 5 ls [.int (bI (0 ≤ x ∧ x < S 12 0))]) rfl ?_
  refine mm_ifeqB (tgt := 30) hx hb dX7_cell_5 (by decide) (fun c5 => ?_) (fun c5 => ?_)
  · refine lv_lconst (v := 0) hx hb dX7_cell_30 (by decide) ?_
    exact mm_lret hQ X hw (⟨by rw [sp_cell, if_neg c5], rfl⟩) (Nat.le_of_ble_eq_true rfl) (Nat.le_of_ble_eq_true rfl) dX7_cell_31
  · have b_x : cl x < nc := cl_lt hN12 (by omega) c5
    refine lv_iload_n hx hb dX7_cell_8 rfl (lv_at hl 2 rfl) ?_
    refine lv_iconst (v := 0) hx hb dX7_cell_9 (by decide) ?_
    refine lv_iconst (v := 3) hx hb dX7_cell_10 (by decide) ?_
    refine mm_callS (As := [.int y, .int 0, .int 3]) (rest := []) X hw (m_in l G _ (y) (0) (3)) wd_X7_82 ⟨Nat.le_of_ble_eq_true rfl, Nat.le_of_ble_eq_true rfl⟩ ⟨Nat.le_of_ble_eq_true rfl, Nat.le_of_ble_eq_true rfl⟩ rfl rfl (Nat.le_of_ble_eq_true rfl) hl.1 dX7_cell_11 (fun v9 M9 H9 locs9 hp9 hw => ?_)
    obtain ⟨rfl, rfl⟩ := hp9
    refine W.eq (g2 := F0 m 14 ls [.int (bI (0 ≤ y ∧ y ≤ 3))]) rfl ?_
    refine mm_ifeqB (tgt := 30) hx hb dX7_cell_14 (by decide) (fun c14 => ?_) (fun c14 => ?_)
    · refine lv_lconst (v := 0) hx hb dX7_cell_30 (by decide) ?_
      exact mm_lret hQ X hw (⟨by rw [sp_cell, if_pos c5, if_neg c14], rfl⟩) (Nat.le_of_ble_eq_true rfl) (Nat.le_of_ble_eq_true rfl) dX7_cell_31
    · have b_y : cl y ≤ 3 := cl_le (n := 3) rfl (by decide) c14
      refine lv_aload_n hx hb dX7_cell_17 rfl (lv_at hl 0 rfl) ?_
      refine rg_54 X hw hR dX7_cell_18 ?_
      refine lv_iconst (v := 4) hx hb dX7_cell_21 (by decide) ?_
      refine lv_iload_n hx hb dX7_cell_22 rfl (lv_at hl 1 rfl) ?_
      refine lv_imul hx hb dX7_cell_23 ?_
      refine lv_iload_n hx hb dX7_cell_24 rfl (lv_at hl 2 rfl) ?_
      refine lv_iadd hx hb dX7_cell_25 ?_
      refine rc_lald X hw hR (4 * cl x + cl y) (jx 4 c5.1 c14.1) (by omega) dX7_cell_26 ?_
      refine lv_goto (tgt := 31) hx hb dX7_cell_27 (by decide) ?_
      exact mm_lret hQ X hw (⟨by rw [sp_cell, if_pos c5, if_pos c14], rfl⟩) (Nat.le_of_ble_eq_true rfl) (Nat.le_of_ble_eq_true rfl) dX7_cell_31
set_option maxHeartbeats 4000000 in
set_option maxRecDepth 100000 in
theorem m_logged (l : Launch) (G : mG) (M : mM) (g : Nat) (L : Nat → Nat) (S : sS) (cs ar : Nat → Int64) (K : Nat → Nat → Int64) (hR : RV G g L S cs ar K M) (ne nn nc nl ht : Nat) (hN : NM S ne nn nc nl ht) (x w : Int32) : Ct l yX7_logged cX7_logged 3 (some FieldType.int) (mm_r 1 0 0) G [.ref g, .int x, .int w] M (fun r M1 => r = some (.int (sp_logged S x w)) ∧ M = M1) := by
  refine Ct.of (by decide) (Nat.le_of_ble_eq_true rfl) ?_
  intro p e s m args below meth c ls Q X hin hl hw hQ
  have hx := X.1
  have hb := X.2.1
  have hl : lv_has ls 3 [(0, .ref g), (1, .int x), (2, .int w)] := hl
  obtain ⟨hN0, hN1, hN2, hN7, hN8, hN12, hN13, hN18, hN19, hN5, hN6⟩ := id hN
  refine lv_iload_n hx hb dX7_logged_0 rfl (lv_at hl 1 rfl) ?_
  refine lv_iconst (v := 0) hx hb dX7_logged_1 (by decide) ?_
  refine lv_aload_n hx hb dX7_logged_2 rfl (lv_at hl 0 rfl) ?_
  refine rg_126 X hw hR dX7_logged_3 ?_
  refine lv_iconst (v := 1) hx hb dX7_logged_6 (by decide) ?_
  refine lv_isub hx hb dX7_logged_7 ?_
  refine mm_callS (As := [.int x, .int 0, .int ((S 18 0) - 1)]) (rest := []) X hw (m_in l G _ (x) (0) ((S 18 0) - 1)) wd_X7_82 ⟨Nat.le_of_ble_eq_true rfl, Nat.le_of_ble_eq_true rfl⟩ ⟨Nat.le_of_ble_eq_true rfl, Nat.le_of_ble_eq_true rfl⟩ rfl rfl (Nat.le_of_ble_eq_true rfl) hl.1 dX7_logged_8 (fun v9 M9 H9 locs9 hp9 hw => ?_)
  obtain ⟨rfl, rfl⟩ := hp9
  refine W.eq (g2 := F0 m 11 ls [.int (bI (0 ≤ x ∧ x ≤ ((S 18 0) - 1)))]) rfl ?_
  refine mm_ifeqB (tgt := 23) hx hb dX7_logged_11 (by decide) (fun c11 => ?_) (fun c11 => ?_)
  · refine lv_bipush (v := (-2)) hx hb dX7_logged_23 (by decide) ?_
    exact mm_iret hQ X hw (⟨by rw [sp_logged, if_pos (fun h9 => c11 ⟨h9.1, (le_pred hN18 (by omega) h9.1).mpr h9.2⟩)], rfl⟩) (Nat.le_of_ble_eq_true rfl) (Nat.le_of_ble_eq_true rfl) dX7_logged_25
  · have b_x : cl x < nl := cl_lt hN18 (by omega) ⟨c11.1, (le_pred hN18 (by omega) c11.1).mp c11.2⟩
    refine lv_iload_n hx hb dX7_logged_14 rfl (lv_at hl 2 rfl) ?_
    refine lv_iconst (v := 0) hx hb dX7_logged_15 (by decide) ?_
    refine lv_iconst (v := 2) hx hb dX7_logged_16 (by decide) ?_
    refine mm_callS (As := [.int w, .int 0, .int 2]) (rest := []) X hw (m_in l G _ (w) (0) (2)) wd_X7_82 ⟨Nat.le_of_ble_eq_true rfl, Nat.le_of_ble_eq_true rfl⟩ ⟨Nat.le_of_ble_eq_true rfl, Nat.le_of_ble_eq_true rfl⟩ rfl rfl (Nat.le_of_ble_eq_true rfl) hl.1 dX7_logged_17 (fun v9 M9 H9 locs9 hp9 hw => ?_)
    obtain ⟨rfl, rfl⟩ := hp9
    refine W.eq (g2 := F0 m 20 ls [.int (bI (0 ≤ w ∧ w ≤ 2))]) rfl ?_
    refine mm_ifneB (tgt := 26) hx hb dX7_logged_20 (by decide) (fun c20 => ?_) (fun c20 => ?_)
    · refine lv_iload_n hx hb dX7_logged_26 rfl (lv_at hl 2 rfl) ?_
      refine lv_if_ne (tgt := 39) hx hb dX7_logged_27 (by decide) (fun c27 => ?_) (fun c27 => ?_)
      · refine lv_iload_n hx hb dX7_logged_39 rfl (lv_at hl 2 rfl) ?_
        refine lv_iconst (v := 1) hx hb dX7_logged_40 (by decide) ?_
        refine lv_icmp_ne (tgt := 53) hx hb dX7_logged_41 (by decide) (fun c41 => ?_) (fun c41 => ?_)
        · refine lv_aload_n hx hb dX7_logged_53 rfl (lv_at hl 0 rfl) ?_
          refine rg_70 X hw hR dX7_logged_54 ?_
          refine lv_iload_n hx hb dX7_logged_57 rfl (lv_at hl 1 rfl) ?_
          refine ri_iald X hw hR 23 rfl (cl x) (nI_cl c11.1) (by omega) dX7_logged_58 ?_
          exact mm_iret hQ X hw (⟨by rw [sp_logged, if_neg (fun h9 => h9 ⟨c11.1, (le_pred hN18 (by omega) c11.1).mp c11.2⟩), if_neg c27, if_neg c41, if_pos (w_two c20 c27 c41)], rfl⟩) (Nat.le_of_ble_eq_true rfl) (Nat.le_of_ble_eq_true rfl) dX7_logged_59
        · refine lv_aload_n hx hb dX7_logged_44 rfl (lv_at hl 0 rfl) ?_
          refine rg_61 X hw hR dX7_logged_45 ?_
          refine lv_iload_n hx hb dX7_logged_48 rfl (lv_at hl 1 rfl) ?_
          refine ri_iald X hw hR 20 rfl (cl x) (nI_cl c11.1) (by omega) dX7_logged_49 ?_
          refine lv_goto (tgt := 59) hx hb dX7_logged_50 (by decide) ?_
          exact mm_iret hQ X hw (⟨by rw [sp_logged, if_neg (fun h9 => h9 ⟨c11.1, (le_pred hN18 (by omega) c11.1).mp c11.2⟩), if_neg c27, if_pos c41], rfl⟩) (Nat.le_of_ble_eq_true rfl) (Nat.le_of_ble_eq_true rfl) dX7_logged_59
      · refine lv_aload_n hx hb dX7_logged_30 rfl (lv_at hl 0 rfl) ?_
        refine rg_58 X hw hR dX7_logged_31 ?_
        refine lv_iload_n hx hb dX7_logged_34 rfl (lv_at hl 1 rfl) ?_
        refine ri_iald X hw hR 19 rfl (cl x) (nI_cl c11.1) (by omega) dX7_logged_35 ?_
        refine lv_goto (tgt := 59) hx hb dX7_logged_36 (by decide) ?_
        exact mm_iret hQ X hw (⟨by rw [sp_logged, if_neg (fun h9 => h9 ⟨c11.1, (le_pred hN18 (by omega) c11.1).mp c11.2⟩), if_pos c27], rfl⟩) (Nat.le_of_ble_eq_true rfl) (Nat.le_of_ble_eq_true rfl) dX7_logged_59
    · refine lv_bipush (v := (-2)) hx hb dX7_logged_23 (by decide) ?_
      exact mm_iret hQ X hw (⟨by rw [sp_logged, if_neg (fun h9 => h9 ⟨c11.1, (le_pred hN18 (by omega) c11.1).mp c11.2⟩), if_neg (fun h9 => c20 (by rw [h9]; decide)), if_neg (fun h9 => c20 (by rw [h9]; decide)), if_neg (fun h9 => c20 (by rw [h9]; decide))], rfl⟩) (Nat.le_of_ble_eq_true rfl) (Nat.le_of_ble_eq_true rfl) dX7_logged_25
set_option maxHeartbeats 4000000 in
set_option maxRecDepth 100000 in
theorem m_digest (l : Launch) (G : mG) (M : mM) (g : Nat) (L : Nat → Nat) (S : sS) (cs ar : Nat → Int64) (K : Nat → Nat → Int64) (hR : RV G g L S cs ar K M) (ne nn nc nl ht : Nat) (hN : NM S ne nn nc nl ht)  : Ct l yX7_digest cX7_digest 1 (some FieldType.int) (mm_r 0 0 0) G [.ref g] M (fun r M1 => r = some (.int (S 24 0)) ∧ M = M1) := by
  refine Ct.of (by decide) (Nat.le_of_ble_eq_true rfl) ?_
  intro p e s m args below meth c ls Q X hin hl hw hQ
  have hx := X.1
  have hb := X.2.1
  have hl : lv_has ls 1 [(0, .ref g)] := hl
  obtain ⟨hN0, hN1, hN2, hN7, hN8, hN12, hN13, hN18, hN19, hN5, hN6⟩ := id hN
  refine lv_aload_n hx hb dX7_digest_0 rfl (lv_at hl 0 rfl) ?_
  refine rg_133 X hw hR dX7_digest_1 ?_
  exact mm_iret hQ X hw (⟨rfl, rfl⟩) (Nat.le_of_ble_eq_true rfl) (Nat.le_of_ble_eq_true rfl) dX7_digest_4
set_option maxHeartbeats 4000000 in
set_option maxRecDepth 100000 in
theorem m_count (l : Launch) (G : mG) (M : mM) (g : Nat) (L : Nat → Nat) (S : sS) (cs ar : Nat → Int64) (K : Nat → Nat → Int64) (hR : RV G g L S cs ar K M) (ne nn nc nl ht : Nat) (hN : NM S ne nn nc nl ht) (w : Int32) : Ct l yX7_count cX7_count 2 (some FieldType.int) (mm_r 0 0 0) G [.ref g, .int w] M (fun r M1 => r = some (.int (sp_count S w)) ∧ M = M1) := by
  refine Ct.of (by decide) (Nat.le_of_ble_eq_true rfl) ?_
  intro p e s m args below meth c ls Q X hin hl hw hQ
  have hx := X.1
  have hb := X.2.1
  have hl : lv_has ls 2 [(0, .ref g), (1, .int w)] := hl
  obtain ⟨hN0, hN1, hN2, hN7, hN8, hN12, hN13, hN18, hN19, hN5, hN6⟩ := id hN
  refine lv_iload_n hx hb dX7_count_0 rfl (lv_at hl 1 rfl) ?_
  rcases mm_sw w 0 5 (by decide) (by decide) with ⟨k9, hk9, c1⟩ | c1
  · rcases (show k9 = 0 ∨ k9 = 1 ∨ k9 = 2 ∨ k9 = 3 ∨ k9 = 4 by omega) with rfl | rfl | rfl | rfl | rfl
    · have c1 : w = 0 := c1
      refine lv_tableIn (off := 35) (tgt := 36) hx hb dX7_count_1 (by rw [c1]; decide) (by rw [c1]; decide) (by rw [c1]; rfl) (by decide) ?_
      refine lv_aload_n hx hb dX7_count_36 rfl (lv_at hl 0 rfl) ?_
      refine rg_7 X hw hR dX7_count_37 ?_
      exact mm_iret hQ X hw (⟨by rw [sp_count, if_pos c1], rfl⟩) (Nat.le_of_ble_eq_true rfl) (Nat.le_of_ble_eq_true rfl) dX7_count_40
    · have c1 : w = 1 := c1
      refine lv_tableIn (off := 40) (tgt := 41) hx hb dX7_count_1 (by rw [c1]; decide) (by rw [c1]; decide) (by rw [c1]; rfl) (by decide) ?_
      refine lv_aload_n hx hb dX7_count_41 rfl (lv_at hl 0 rfl) ?_
      refine rg_86 X hw hR dX7_count_42 ?_
      exact mm_iret hQ X hw (⟨by rw [sp_count, if_neg (by rw [c1]; decide), if_pos c1], rfl⟩) (Nat.le_of_ble_eq_true rfl) (Nat.le_of_ble_eq_true rfl) dX7_count_45
    · have c1 : w = 2 := c1
      refine lv_tableIn (off := 45) (tgt := 46) hx hb dX7_count_1 (by rw [c1]; decide) (by rw [c1]; decide) (by rw [c1]; rfl) (by decide) ?_
      refine lv_aload_n hx hb dX7_count_46 rfl (lv_at hl 0 rfl) ?_
      refine rg_89 X hw hR dX7_count_47 ?_
      exact mm_iret hQ X hw (⟨by rw [sp_count, if_neg (by rw [c1]; decide), if_neg (by rw [c1]; decide), if_pos c1], rfl⟩) (Nat.le_of_ble_eq_true rfl) (Nat.le_of_ble_eq_true rfl) dX7_count_50
    · have c1 : w = 3 := c1
      refine lv_tableIn (off := 50) (tgt := 51) hx hb dX7_count_1 (by rw [c1]; decide) (by rw [c1]; decide) (by rw [c1]; rfl) (by decide) ?_
      refine lv_aload_n hx hb dX7_count_51 rfl (lv_at hl 0 rfl) ?_
      refine rg_126 X hw hR dX7_count_52 ?_
      exact mm_iret hQ X hw (⟨by rw [sp_count, if_neg (by rw [c1]; decide), if_neg (by rw [c1]; decide), if_neg (by rw [c1]; decide), if_pos c1], rfl⟩) (Nat.le_of_ble_eq_true rfl) (Nat.le_of_ble_eq_true rfl) dX7_count_55
    · have c1 : w = 4 := c1
      refine lv_tableIn (off := 55) (tgt := 56) hx hb dX7_count_1 (by rw [c1]; decide) (by rw [c1]; decide) (by rw [c1]; rfl) (by decide) ?_
      refine lv_aload_n hx hb dX7_count_56 rfl (lv_at hl 0 rfl) ?_
      refine rg_99 X hw hR dX7_count_57 ?_
      exact mm_iret hQ X hw (⟨by rw [sp_count, if_neg (by rw [c1]; decide), if_neg (by rw [c1]; decide), if_neg (by rw [c1]; decide), if_neg (by rw [c1]; decide), if_pos c1], rfl⟩) (Nat.le_of_ble_eq_true rfl) (Nat.le_of_ble_eq_true rfl) dX7_count_60
  · refine lv_tableOut (tgt := 61) hx hb dX7_count_1 c1 (by decide) ?_
    refine lv_bipush (v := (-2)) hx hb dX7_count_61 (by decide) ?_
    exact mm_iret hQ X hw (⟨by rw [sp_count, if_neg (by intro h9; rw [h9] at c1; revert c1; decide), if_neg (by intro h9; rw [h9] at c1; revert c1; decide), if_neg (by intro h9; rw [h9] at c1; revert c1; decide), if_neg (by intro h9; rw [h9] at c1; revert c1; decide), if_neg (by intro h9; rw [h9] at c1; revert c1; decide)], rfl⟩) (Nat.le_of_ble_eq_true rfl) (Nat.le_of_ble_eq_true rfl) dX7_count_63
set_option maxHeartbeats 4000000 in
set_option maxRecDepth 100000 in
theorem m_edition (l : Launch) (G : mG) (M : mM) (g : Nat) (L : Nat → Nat) (S : sS) (cs ar : Nat → Int64) (K : Nat → Nat → Int64) (hR : RV G g L S cs ar K M) (ne nn nc nl ht : Nat) (hN : NM S ne nn nc nl ht) (x : Int32) : Ct l yX7_edition cX7_edition 3 (some FieldType.int) (mm_r 2 0 0) G [.ref g, .int x] M (fun r M1 => r = some (.int (sp_edition S x).1) ∧ ∃ K1, RV G g L (sp_edition S x).2 cs ar K1 M1) := by
  refine Ct.of (by decide) (Nat.le_of_ble_eq_true rfl) ?_
  intro p e s m args below meth c ls Q X hin hl hw hQ
  have hx := X.1
  have hb := X.2.1
  have hl : lv_has ls 3 [(0, .ref g), (1, .int x)] := hl
  obtain ⟨hN0, hN1, hN2, hN7, hN8, hN12, hN13, hN18, hN19, hN5, hN6⟩ := id hN
  have h0c : S 0 0 = nI (cl (S 0 0)) := by rw [hN0, cl_n (by omega)]
  have h0b : cl (S 0 0) = ne := by rw [hN0, cl_n (by omega)]
  have p0 : 0 ≤ S 0 0 := by rw [hN0]; exact nI_pos' (by omega)
  refine lv_aload_n hx hb dX7_edition_0 rfl (lv_at hl 0 rfl) ?_
  refine lv_iload_n hx hb dX7_edition_1 rfl (lv_at hl 1 rfl) ?_
  refine mm_callV (As := [.int x]) (rest := []) X hw (m_isEdition l G _ g L _ cs ar K hR (x) ne hN0 (by omega)) (hR.1) rfl wd_X7_92 ⟨Nat.le_of_ble_eq_true rfl, Nat.le_of_ble_eq_true rfl⟩ ⟨Nat.le_of_ble_eq_true rfl, Nat.le_of_ble_eq_true rfl⟩ rfl rfl (Nat.le_of_ble_eq_true rfl) hl.1 dX7_edition_2 (fun v9 M9 H9 locs9 hp9 hw => ?_)
  obtain ⟨rfl, rfl⟩ := hp9
  refine W.eq (g2 := F0 m 5 ls [.int (bI (0 ≤ x ∧ x < S 0 0))]) rfl ?_
  refine mm_ifneB (tgt := 11) hx hb dX7_edition_5 (by decide) (fun c5 => ?_) (fun c5 => ?_)
  · have b_x : cl x < ne := cl_lt hN0 (by omega) c5
    refine lv_aload_n hx hb dX7_edition_11 rfl (lv_at hl 0 rfl) ?_
    refine rg_7 X hw hR dX7_edition_12 ?_
    refine lv_bipush (v := 10) hx hb dX7_edition_15 (by decide) ?_
    refine lv_icmp_ne (tgt := 23) hx hb dX7_edition_17 (by decide) (fun c17 => ?_) (fun c17 => ?_)
    · have q0 : ne ≠ 10 := fun h9 => c17 (by rw [hN0, h9]; rfl)
      refine lv_iconst (v := 0) hx hb dX7_edition_23 (by decide) ?_
      refine lv_istore_n (lv' := [(2, .int 0), (0, .ref g), (1, .int x)]) hx hb dX7_edition_24 rfl hl (by decide) rfl (fun ls hl => ?_)
      have loop1 : ∀ (n : Nat) (k : Nat) (M1 : mM) (H1 : Heap) (locs1 : List Loc) (ls1 : Array Slot), (hk : k ≤ 9) → (hn : 10 ≤ k + n) → mm_W G.1 vwCl (ct_A M s.heap.size) s.heap M1 H1 locs1 → RV G g L (va_up S 1 (cp (S 1) (9 * cl (S 0 0)) (9 * cl x) k)) cs ar K M1 → lv_has ls1 3 [(0, .ref g), (1, .int x), (2, .int (nI k))] → W p l e (mm_r 2 0 0) s m args below meth c H1 locs1 0 0 Q (F0 m 25 ls1 []) := by
        intro n
        induction n with
        | zero => intro k M1 H1 locs1 ls hk hn hw hR hl; exact absurd hn (by omega)
        | succ n ih =>
          intro k M1 H1 locs1 ls hk hn hw hR hl
          refine lv_iload_n hx hb dX7_edition_25 rfl (lv_at hl 2 rfl) ?_
          refine lv_bipush (v := 9) hx hb dX7_edition_26 (by decide) ?_
          refine lv_icmp_ge (tgt := 62) hx hb dX7_edition_28 (by decide) (fun c28 => ?_) (fun c28 => ?_)
          · have hk9 : k = 9 := by have := nle (a := 9) (by decide) (by omega) c28; omega
            refine lv_iconst (v := 0) hx hb dX7_edition_62 (by decide) ?_
            refine lv_istore_n (lv' := [(2, .int 0), (0, .ref g), (1, .int x)]) hx hb dX7_edition_63 rfl hl (by decide) rfl (fun ls hl => ?_)
            have loop2 : ∀ (n : Nat) (k : Nat) (M1 : mM) (H1 : Heap) (locs1 : List Loc) (ls1 : Array Slot), (hk : k ≤ 8) → (hn : 9 ≤ k + n) → mm_W G.1 vwCl (ct_A M s.heap.size) s.heap M1 H1 locs1 → RV G g L (va_up (va_up S 1 (cp (S 1) (9 * cl (S 0 0)) (9 * cl x) 9)) 2 (cp (S 2) (8 * cl (S 0 0)) (8 * cl x) k)) cs ar K M1 → lv_has ls1 3 [(0, .ref g), (1, .int x), (2, .int (nI k))] → W p l e (mm_r 2 0 0) s m args below meth c H1 locs1 0 0 Q (F0 m 64 ls1 []) := by
              intro n
              induction n with
              | zero => intro k M1 H1 locs1 ls hk hn hw hR hl; exact absurd hn (by omega)
              | succ n ih =>
                intro k M1 H1 locs1 ls hk hn hw hR hl
                refine lv_iload_n hx hb dX7_edition_64 rfl (lv_at hl 2 rfl) ?_
                refine lv_bipush (v := 8) hx hb dX7_edition_65 (by decide) ?_
                refine lv_icmp_ge (tgt := 101) hx hb dX7_edition_67 (by decide) (fun c67 => ?_) (fun c67 => ?_)
                · have hk8 : k = 8 := by have := nle (a := 8) (by decide) (by omega) c67; omega
                  refine lv_aload_n hx hb dX7_edition_101 rfl (lv_at hl 0 rfl) ?_
                  refine rg_20 X hw hR dX7_edition_102 ?_
                  refine W.eq (g2 := F0 m 105 ls [.ref (L 3)]) rfl ?_
                  refine lv_aload_n hx hb dX7_edition_105 rfl (lv_at hl 0 rfl) ?_
                  refine rg_7 X hw hR dX7_edition_106 ?_
                  refine W.eq (g2 := F0 m 109 ls [.int (S 0 0), .ref (L 3)]) rfl ?_
                  refine lv_iconst (v := (-1)) hx hb dX7_edition_109 (by decide) ?_
                  refine ri_iast X hw hR 3 rfl (cl (S 0 0)) (h0c) (by omega) dX7_edition_110 (fun M9 H9 locs9 hw hR => ?_)
                  have hR : RV G g L (va_up (va_up (va_up S 1 (cp (S 1) (9 * cl (S 0 0)) (9 * cl x) 9)) 2 (cp (S 2) (8 * cl (S 0 0)) (8 * cl x) k)) 3 (upd (S 3) (cl (S 0 0)) ((-1)))) cs ar K M9 := hR
                  refine lv_aload_n hx hb dX7_edition_111 rfl (lv_at hl 0 rfl) ?_
                  refine rg_23 X hw hR dX7_edition_112 ?_
                  refine W.eq (g2 := F0 m 115 ls [.ref (L 4)]) rfl ?_
                  refine lv_aload_n hx hb dX7_edition_115 rfl (lv_at hl 0 rfl) ?_
                  refine rg_7 X hw hR dX7_edition_116 ?_
                  refine W.eq (g2 := F0 m 119 ls [.int (S 0 0), .ref (L 4)]) rfl ?_
                  refine lv_iconst (v := 0) hx hb dX7_edition_119 (by decide) ?_
                  refine ri_iast X hw hR 4 rfl (cl (S 0 0)) (h0c) (by omega) dX7_edition_120 (fun M9 H9 locs9 hw hR => ?_)
                  have hR : RV G g L (va_up (va_up (va_up (va_up S 1 (cp (S 1) (9 * cl (S 0 0)) (9 * cl x) 9)) 2 (cp (S 2) (8 * cl (S 0 0)) (8 * cl x) k)) 3 (upd (S 3) (cl (S 0 0)) ((-1)))) 4 (upd (S 4) (cl (S 0 0)) (0))) cs ar K M9 := hR
                  refine lv_aload_n hx hb dX7_edition_121 rfl (lv_at hl 0 rfl) ?_
                  refine lv_dup hx hb dX7_edition_122 rfl ?_
                  refine rg_7 X hw hR dX7_edition_123 ?_
                  refine W.eq (g2 := F0 m 126 ls [.int (S 0 0), .ref g]) rfl ?_
                  refine lv_iconst (v := 1) hx hb dX7_edition_126 (by decide) ?_
                  refine lv_iadd hx hb dX7_edition_127 ?_
                  refine rp_7 X hw hR dX7_edition_128 (fun M9 H9 locs9 hw hR => ?_)
                  have hR : RV G g L (va_up (va_up (va_up (va_up (va_up S 1 (cp (S 1) (9 * cl (S 0 0)) (9 * cl x) 9)) 2 (cp (S 2) (8 * cl (S 0 0)) (8 * cl x) k)) 3 (upd (S 3) (cl (S 0 0)) ((-1)))) 4 (upd (S 4) (cl (S 0 0)) (0))) 0 (fun _ => (S 0 0) + 1)) cs ar K M9 := hR
                  refine lv_aload_n hx hb dX7_edition_131 rfl (lv_at hl 0 rfl) ?_
                  refine rg_7 X hw hR dX7_edition_132 ?_
                  refine W.eq (g2 := F0 m 135 ls [.int ((S 0 0) + 1)]) rfl ?_
                  refine lv_iconst (v := 1) hx hb dX7_edition_135 (by decide) ?_
                  refine lv_isub hx hb dX7_edition_136 ?_
                  exact mm_iret hQ X hw (by rw [hk8] at hR; have e9 : sp_edition S x = (((S 0 0) + 1) - 1, va_up (va_up (va_up (va_up (va_up S 1 (cp (S 1) (9 * cl (S 0 0)) (9 * cl x) 9)) 2 (cp (S 2) (8 * cl (S 0 0)) (8 * cl x) 8)) 3 (upd (S 3) (cl (S 0 0)) ((-1)))) 4 (upd (S 4) (cl (S 0 0)) (0))) 0 (fun _ => (S 0 0) + 1)) := (by rw [sp_edition, if_neg (fun h9 => h9 c5), if_neg c17]); rw [e9]; exact ⟨rfl, _, hR⟩) (Nat.le_of_ble_eq_true rfl) (Nat.le_of_ble_eq_true rfl) dX7_edition_137
                · have hk8 : k < 8 := nnle (a := 8) (by decide) (by omega) c67
                  refine lv_aload_n hx hb dX7_edition_70 rfl (lv_at hl 0 rfl) ?_
                  refine rg_17 X hw hR dX7_edition_71 ?_
                  refine W.eq (g2 := F0 m 74 ls [.ref (L 2)]) rfl ?_
                  refine lv_bipush (v := 8) hx hb dX7_edition_74 (by decide) ?_
                  refine lv_aload_n hx hb dX7_edition_76 rfl (lv_at hl 0 rfl) ?_
                  refine rg_7 X hw hR dX7_edition_77 ?_
                  refine W.eq (g2 := F0 m 80 ls [.int (S 0 0), .int 8, .ref (L 2)]) rfl ?_
                  refine lv_imul hx hb dX7_edition_80 ?_
                  refine lv_iload_n hx hb dX7_edition_81 rfl (lv_at hl 2 rfl) ?_
                  refine lv_iadd hx hb dX7_edition_82 ?_
                  refine lv_aload_n hx hb dX7_edition_83 rfl (lv_at hl 0 rfl) ?_
                  refine rg_17 X hw hR dX7_edition_84 ?_
                  refine W.eq (g2 := F0 m 87 ls [.ref (L 2), .int ((8 * (S 0 0)) + (nI k)), .ref (L 2)]) rfl ?_
                  refine lv_bipush (v := 8) hx hb dX7_edition_87 (by decide) ?_
                  refine lv_iload_n hx hb dX7_edition_89 rfl (lv_at hl 1 rfl) ?_
                  refine lv_imul hx hb dX7_edition_90 ?_
                  refine lv_iload_n hx hb dX7_edition_91 rfl (lv_at hl 2 rfl) ?_
                  refine lv_iadd hx hb dX7_edition_92 ?_
                  refine ri_iald X hw hR 2 rfl (8 * cl x + k) (jxn 8 c5.1 k) (by omega) dX7_edition_93 ?_
                  refine W.eq (g2 := F0 m 94 ls [.int ((cp (S 2) (8 * cl (S 0 0)) (8 * cl x) k) (8 * cl x + k)), .int ((8 * (S 0 0)) + (nI k)), .ref (L 2)]) rfl ?_
                  refine ri_iast X hw hR 2 rfl (8 * cl (S 0 0) + k) (jxn 8 p0 k) (by omega) dX7_edition_94 (fun M9 H9 locs9 hw hR => ?_)
                  have hR : RV G g L (va_up (va_up (va_up S 1 (cp (S 1) (9 * cl (S 0 0)) (9 * cl x) 9)) 2 (cp (S 2) (8 * cl (S 0 0)) (8 * cl x) k)) 2 (upd ((cp (S 2) (8 * cl (S 0 0)) (8 * cl x) k)) (8 * cl (S 0 0) + k) ((cp (S 2) (8 * cl (S 0 0)) (8 * cl x) k) (8 * cl x + k)))) cs ar K M9 := hR
                  refine lv_iinc (v := nI (k + 1)) (lv' := [(2, .int (nI (k + 1))), (0, .ref g), (1, .int x)]) hx hb dX7_edition_95 hl (k := 2) rfl (nI_s k) (by decide) rfl (fun ls hl => ?_)
                  refine lv_goto (tgt := 64) hx hb dX7_edition_98 (by decide) ?_
                  exact ih (k + 1) _ _ _ _ (by omega) (by omega) hw (by rw [bx_uu, cpS (S 2) (by omega)] at hR; exact hR) (lv_sub hl [1, 2, 0] rfl)
            exact loop2 9 0 _ _ _ _ (by omega) (by omega) hw (by rw [hk9] at hR; rw [cp0, va_up_id' S (j := 2) (k := 1) (by decide)]; exact hR) (lv_sub hl [1, 2, 0] rfl)
          · have hk9 : k < 9 := nnle (a := 9) (by decide) (by omega) c28
            refine lv_aload_n hx hb dX7_edition_31 rfl (lv_at hl 0 rfl) ?_
            refine rg_13 X hw hR dX7_edition_32 ?_
            refine W.eq (g2 := F0 m 35 ls [.ref (L 1)]) rfl ?_
            refine lv_bipush (v := 9) hx hb dX7_edition_35 (by decide) ?_
            refine lv_aload_n hx hb dX7_edition_37 rfl (lv_at hl 0 rfl) ?_
            refine rg_7 X hw hR dX7_edition_38 ?_
            refine W.eq (g2 := F0 m 41 ls [.int (S 0 0), .int 9, .ref (L 1)]) rfl ?_
            refine lv_imul hx hb dX7_edition_41 ?_
            refine lv_iload_n hx hb dX7_edition_42 rfl (lv_at hl 2 rfl) ?_
            refine lv_iadd hx hb dX7_edition_43 ?_
            refine lv_aload_n hx hb dX7_edition_44 rfl (lv_at hl 0 rfl) ?_
            refine rg_13 X hw hR dX7_edition_45 ?_
            refine W.eq (g2 := F0 m 48 ls [.ref (L 1), .int ((9 * (S 0 0)) + (nI k)), .ref (L 1)]) rfl ?_
            refine lv_bipush (v := 9) hx hb dX7_edition_48 (by decide) ?_
            refine lv_iload_n hx hb dX7_edition_50 rfl (lv_at hl 1 rfl) ?_
            refine lv_imul hx hb dX7_edition_51 ?_
            refine lv_iload_n hx hb dX7_edition_52 rfl (lv_at hl 2 rfl) ?_
            refine lv_iadd hx hb dX7_edition_53 ?_
            refine ri_iald X hw hR 1 rfl (9 * cl x + k) (jxn 9 c5.1 k) (by omega) dX7_edition_54 ?_
            refine W.eq (g2 := F0 m 55 ls [.int ((cp (S 1) (9 * cl (S 0 0)) (9 * cl x) k) (9 * cl x + k)), .int ((9 * (S 0 0)) + (nI k)), .ref (L 1)]) rfl ?_
            refine ri_iast X hw hR 1 rfl (9 * cl (S 0 0) + k) (jxn 9 p0 k) (by omega) dX7_edition_55 (fun M9 H9 locs9 hw hR => ?_)
            have hR : RV G g L (va_up (va_up S 1 (cp (S 1) (9 * cl (S 0 0)) (9 * cl x) k)) 1 (upd ((cp (S 1) (9 * cl (S 0 0)) (9 * cl x) k)) (9 * cl (S 0 0) + k) ((cp (S 1) (9 * cl (S 0 0)) (9 * cl x) k) (9 * cl x + k)))) cs ar K M9 := hR
            refine lv_iinc (v := nI (k + 1)) (lv' := [(2, .int (nI (k + 1))), (0, .ref g), (1, .int x)]) hx hb dX7_edition_56 hl (k := 2) rfl (nI_s k) (by decide) rfl (fun ls hl => ?_)
            refine lv_goto (tgt := 25) hx hb dX7_edition_59 (by decide) ?_
            exact ih (k + 1) _ _ _ _ (by omega) (by omega) hw (by rw [bx_uu, cpS (S 1) (by omega)] at hR; exact hR) (lv_sub hl [1, 2, 0] rfl)
      exact loop1 10 0 _ _ _ _ (by omega) (by omega) hw (by rw [cp0, va_up_id]; exact hR) (lv_sub hl [1, 2, 0] rfl)
    · refine lv_bipush (v := (-4)) hx hb dX7_edition_20 (by decide) ?_
      exact mm_iret hQ X hw (by have e9 : sp_edition S x = ((-4), S) := (by rw [sp_edition, if_neg (fun h9 => h9 c5), if_pos c17]); rw [e9]; exact ⟨rfl, _, hR⟩) (Nat.le_of_ble_eq_true rfl) (Nat.le_of_ble_eq_true rfl) dX7_edition_22
  · refine lv_bipush (v := (-2)) hx hb dX7_edition_8 (by decide) ?_
    exact mm_iret hQ X hw (by have e9 : sp_edition S x = ((-2), S) := (by rw [sp_edition, if_pos c5]); rw [e9]; exact ⟨rfl, _, hR⟩) (Nat.le_of_ble_eq_true rfl) (Nat.le_of_ble_eq_true rfl) dX7_edition_10
set_option maxHeartbeats 4000000 in
set_option maxRecDepth 100000 in
theorem m_differs (l : Launch) (G : mG) (M : mM) (g : Nat) (L : Nat → Nat) (S : sS) (cs ar : Nat → Int64) (K : Nat → Nat → Int64) (hR : RV G g L S cs ar K M) (ne nn nc nl ht : Nat) (hN : NM S ne nn nc nl ht) (x y k : Int32) : Ct l yX7_differs cX7_differs 7 (some FieldType.int) (mm_r 2 0 0) G [.ref g, .int x, .int y, .int k] M (fun r M1 => r = some (.int (sp_differs S x y k)) ∧ M = M1) := by
  refine Ct.of (by decide) (Nat.le_of_ble_eq_true rfl) ?_
  intro p e s m args below meth c ls Q X hin hl hw hQ
  have hx := X.1
  have hb := X.2.1
  have hl : lv_has ls 7 [(0, .ref g), (1, .int x), (2, .int y), (3, .int k)] := hl
  obtain ⟨hN0, hN1, hN2, hN7, hN8, hN12, hN13, hN18, hN19, hN5, hN6⟩ := id hN
  refine lv_aload_n hx hb dX7_differs_0 rfl (lv_at hl 0 rfl) ?_
  refine lv_iload_n hx hb dX7_differs_1 rfl (lv_at hl 1 rfl) ?_
  refine mm_callV (As := [.int x]) (rest := []) X hw (m_isEdition l G _ g L _ cs ar K hR (x) ne hN0 (by omega)) (hR.1) rfl wd_X7_92 ⟨Nat.le_of_ble_eq_true rfl, Nat.le_of_ble_eq_true rfl⟩ ⟨Nat.le_of_ble_eq_true rfl, Nat.le_of_ble_eq_true rfl⟩ rfl rfl (Nat.le_of_ble_eq_true rfl) hl.1 dX7_differs_2 (fun v9 M9 H9 locs9 hp9 hw => ?_)
  obtain ⟨rfl, rfl⟩ := hp9
  refine W.eq (g2 := F0 m 5 ls [.int (bI (0 ≤ x ∧ x < S 0 0))]) rfl ?_
  refine mm_ifeqB (tgt := 16) hx hb dX7_differs_5 (by decide) (fun c5 => ?_) (fun c5 => ?_)
  · refine lv_bipush (v := (-2)) hx hb dX7_differs_16 (by decide) ?_
    exact mm_iret hQ X hw (⟨by rw [sp_differs, if_pos c5], rfl⟩) (Nat.le_of_ble_eq_true rfl) (Nat.le_of_ble_eq_true rfl) dX7_differs_18
  · have b_x : cl x < ne := cl_lt hN0 (by omega) c5
    refine lv_aload_n hx hb dX7_differs_8 rfl (lv_at hl 0 rfl) ?_
    refine lv_iload_n hx hb dX7_differs_9 rfl (lv_at hl 2 rfl) ?_
    refine mm_callV (As := [.int y]) (rest := []) X hw (m_isEdition l G _ g L _ cs ar K hR (y) ne hN0 (by omega)) (hR.1) rfl wd_X7_92 ⟨Nat.le_of_ble_eq_true rfl, Nat.le_of_ble_eq_true rfl⟩ ⟨Nat.le_of_ble_eq_true rfl, Nat.le_of_ble_eq_true rfl⟩ rfl rfl (Nat.le_of_ble_eq_true rfl) hl.1 dX7_differs_10 (fun v9 M9 H9 locs9 hp9 hw => ?_)
    obtain ⟨rfl, rfl⟩ := hp9
    refine W.eq (g2 := F0 m 13 ls [.int (bI (0 ≤ y ∧ y < S 0 0))]) rfl ?_
    refine mm_ifneB (tgt := 19) hx hb dX7_differs_13 (by decide) (fun c13 => ?_) (fun c13 => ?_)
    · have b_y : cl y < ne := cl_lt hN0 (by omega) c13
      refine lv_iconst (v := 0) hx hb dX7_differs_19 (by decide) ?_
      refine lv_istore (lv' := [(4, .int 0), (0, .ref g), (1, .int x), (2, .int y), (3, .int k)]) hx hb dX7_differs_20 hl (by decide) rfl (fun ls hl => ?_)
      refine lv_iconst (v := 0) hx hb dX7_differs_22 (by decide) ?_
      refine lv_istore (lv' := [(5, .int 0), (4, .int 0), (0, .ref g), (1, .int x), (2, .int y), (3, .int k)]) hx hb dX7_differs_23 hl (by decide) rfl (fun ls hl => ?_)
      have loop : ∀ (n : Nat) (i : Nat) (q : Int32) (H1 : Heap) (locs1 : List Loc) (ls1 : Array Slot), (hk : i ≤ 17) → (hn : 18 ≤ i + n) → (hv : df_go (df_b S (cl x) (cl y)) k (17 - i) i q = df_go (df_b S (cl x) (cl y)) k 17 0 0) → mm_W G.1 vwCl (ct_A M s.heap.size) s.heap M H1 locs1 → lv_has ls1 7 [(0, .ref g), (1, .int x), (2, .int y), (3, .int k), (4, .int q), (5, .int (nI i))] → W p l e (mm_r 2 0 0) s m args below meth c H1 locs1 0 0 Q (F0 m 25 ls1 []) := by
        intro n
        induction n with
        | zero => intro i q H1 locs1 ls hk hn hv hw hl; exact absurd hn (by omega)
        | succ n ih =>
          intro i q H1 locs1 ls hk hn hv hw hl
          refine lv_iload hx hb dX7_differs_25 (lv_at hl 5 rfl) ?_
          refine lv_bipush (v := 17) hx hb dX7_differs_27 (by decide) ?_
          refine lv_icmp_ge (tgt := 150) hx hb dX7_differs_29 (by decide) (fun c29 => ?_) (fun c29 => ?_)
          · have hi17 : i = 17 := by have := nle (a := 17) (by decide) (by omega) c29; omega
            refine lv_iconst (v := (-1)) hx hb dX7_differs_150 (by decide) ?_
            exact mm_iret hQ X hw (⟨by rw [sp_differs, if_neg (fun h9 => h9 c5), if_neg (fun h9 => h9 c13), ← hv, hi17]; rfl, rfl⟩) (Nat.le_of_ble_eq_true rfl) (Nat.le_of_ble_eq_true rfl) dX7_differs_151
          · have hi17 : i < 17 := nnle (a := 17) (by decide) (by omega) c29
            rw [show 17 - i = (16 - i) + 1 from by omega, df_go_s] at hv
            refine lv_iload hx hb dX7_differs_32 (lv_at hl 5 rfl) ?_
            refine lv_bipush (v := 9) hx hb dX7_differs_34 (by decide) ?_
            refine lv_icmp_ge (tgt := 74) hx hb dX7_differs_36 (by decide) (fun c36 => ?_) (fun c36 => ?_)
            · have hi9 : ¬ i < 9 := by have := nle (a := 9) (by decide) (by omega) c36; omega
              refine lv_aload_n hx hb dX7_differs_74 rfl (lv_at hl 0 rfl) ?_
              refine rg_17 X hw hR dX7_differs_75 ?_
              refine lv_bipush (v := 8) hx hb dX7_differs_78 (by decide) ?_
              refine lv_iload_n hx hb dX7_differs_80 rfl (lv_at hl 1 rfl) ?_
              refine lv_imul hx hb dX7_differs_81 ?_
              refine lv_iload hx hb dX7_differs_82 (lv_at hl 5 rfl) ?_
              refine lv_iadd hx hb dX7_differs_84 ?_
              refine lv_bipush (v := 9) hx hb dX7_differs_85 (by decide) ?_
              refine lv_isub hx hb dX7_differs_87 ?_
              refine ri_iald X hw hR 2 rfl (8 * cl x + i - 9) (by rw [show (8 : Int32) = nI 8 from rfl, jxn 8 c5.1 i]; exact pk_sub (a := 8 * cl x + i) (b := 9) (by omega)) (by omega) dX7_differs_88 ?_
              refine lv_aload_n hx hb dX7_differs_89 rfl (lv_at hl 0 rfl) ?_
              refine rg_17 X hw hR dX7_differs_90 ?_
              refine lv_bipush (v := 8) hx hb dX7_differs_93 (by decide) ?_
              refine lv_iload_n hx hb dX7_differs_95 rfl (lv_at hl 2 rfl) ?_
              refine lv_imul hx hb dX7_differs_96 ?_
              refine lv_iload hx hb dX7_differs_97 (lv_at hl 5 rfl) ?_
              refine lv_iadd hx hb dX7_differs_99 ?_
              refine lv_bipush (v := 9) hx hb dX7_differs_100 (by decide) ?_
              refine lv_isub hx hb dX7_differs_102 ?_
              refine ri_iald X hw hR 2 rfl (8 * cl y + i - 9) (by rw [show (8 : Int32) = nI 8 from rfl, jxn 8 c13.1 i]; exact pk_sub (a := 8 * cl y + i) (b := 9) (by omega)) (by omega) dX7_differs_103 ?_
              refine lv_icmp_eq (tgt := 111) hx hb dX7_differs_104 (by decide) (fun c104 => ?_) (fun c104 => ?_)
              · rw [if_neg (df_f2 hi9 c104)] at hv
                refine lv_iconst (v := 0) hx hb dX7_differs_111 (by decide) ?_
                refine lv_istore (lv' := [(6, .int 0), (0, .ref g), (1, .int x), (2, .int y), (3, .int k), (4, .int q), (5, .int (nI i))]) hx hb dX7_differs_112 hl (by decide) rfl (fun ls hl => ?_)
                refine lv_iload hx hb dX7_differs_114 (lv_at hl 0 rfl) ?_
                refine lv_if_eq (tgt := 128) hx hb dX7_differs_116 (by decide) (fun c116 => ?_) (fun c116 => ?_)
                · refine lv_iload hx hb dX7_differs_128 (lv_at hl 0 rfl) ?_
                  refine lv_if_eq (tgt := 140) hx hb dX7_differs_130 (by decide) (fun c130 => ?_) (fun c130 => ?_)
                  · refine lv_iload hx hb dX7_differs_140 (lv_at hl 5 rfl) ?_
                    refine lv_istore (lv' := [(4, .int q), (6, .int 0), (0, .ref g), (1, .int x), (2, .int y), (3, .int k), (5, .int (nI i))]) hx hb dX7_differs_142 hl (by decide) rfl (fun ls hl => ?_)
                    refine lv_iinc (v := nI (i + 1)) (lv' := [(5, .int (nI (i + 1))), (4, .int q), (6, .int 0), (0, .ref g), (1, .int x), (2, .int y), (3, .int k)]) hx hb dX7_differs_144 hl (k := 6) rfl (nI_s i) (by decide) rfl (fun ls hl => ?_)
                    refine lv_goto (tgt := 25) hx hb dX7_differs_147 (by decide) ?_
                    exact ih (i + 1) (q) _ _ _ (by omega) (by omega) (by rw [show 17 - (i + 1) = 16 - i from by omega]; exact hv) hw  (lv_sub hl [3, 4, 5, 6, 1, 0] rfl)
                  · exact absurd (by decide) c130
                · exact absurd (by decide) c116
              · rw [if_pos (df_t2 hi9 c104)] at hv
                refine lv_iconst (v := 1) hx hb dX7_differs_107 (by decide) ?_
                refine lv_goto (tgt := 112) hx hb dX7_differs_108 (by decide) ?_
                refine lv_istore (lv' := [(6, .int 1), (0, .ref g), (1, .int x), (2, .int y), (3, .int k), (4, .int q), (5, .int (nI i))]) hx hb dX7_differs_112 hl (by decide) rfl (fun ls hl => ?_)
                refine lv_iload hx hb dX7_differs_114 (lv_at hl 0 rfl) ?_
                refine lv_if_eq (tgt := 128) hx hb dX7_differs_116 (by decide) (fun c116 => ?_) (fun c116 => ?_)
                · exact absurd c116 (by decide)
                · refine lv_iload hx hb dX7_differs_119 (lv_at hl 5 rfl) ?_
                  refine lv_iload_n hx hb dX7_differs_121 rfl (lv_at hl 4 rfl) ?_
                  refine lv_icmp_ne (tgt := 128) hx hb dX7_differs_122 (by decide) (fun c122 => ?_) (fun c122 => ?_)
                  · rw [if_neg c122] at hv
                    refine lv_iload hx hb dX7_differs_128 (lv_at hl 0 rfl) ?_
                    refine lv_if_eq (tgt := 140) hx hb dX7_differs_130 (by decide) (fun c130 => ?_) (fun c130 => ?_)
                    · exact absurd c130 (by decide)
                    · refine lv_iload hx hb dX7_differs_133 (lv_at hl 5 rfl) ?_
                      refine lv_iconst (v := 1) hx hb dX7_differs_135 (by decide) ?_
                      refine lv_iadd hx hb dX7_differs_136 ?_
                      refine lv_goto (tgt := 142) hx hb dX7_differs_137 (by decide) ?_
                      refine lv_istore (lv' := [(4, .int (q + 1)), (6, .int 1), (0, .ref g), (1, .int x), (2, .int y), (3, .int k), (5, .int (nI i))]) hx hb dX7_differs_142 hl (by decide) rfl (fun ls hl => ?_)
                      refine lv_iinc (v := nI (i + 1)) (lv' := [(5, .int (nI (i + 1))), (4, .int (q + 1)), (6, .int 1), (0, .ref g), (1, .int x), (2, .int y), (3, .int k)]) hx hb dX7_differs_144 hl (k := 6) rfl (nI_s i) (by decide) rfl (fun ls hl => ?_)
                      refine lv_goto (tgt := 25) hx hb dX7_differs_147 (by decide) ?_
                      exact ih (i + 1) (q + 1) _ _ _ (by omega) (by omega) (by rw [show 17 - (i + 1) = 16 - i from by omega]; exact hv) hw  (lv_sub hl [3, 4, 5, 6, 1, 0] rfl)
                  · rw [if_pos c122] at hv
                    refine lv_iload hx hb dX7_differs_125 (lv_at hl 6 rfl) ?_
                    exact mm_iret hQ X hw (⟨by rw [sp_differs, if_neg (fun h9 => h9 c5), if_neg (fun h9 => h9 c13), ← hv], rfl⟩) (Nat.le_of_ble_eq_true rfl) (Nat.le_of_ble_eq_true rfl) dX7_differs_127
            · have hi9 : i < 9 := nnle (a := 9) (by decide) (by omega) c36
              refine lv_aload_n hx hb dX7_differs_39 rfl (lv_at hl 0 rfl) ?_
              refine rg_13 X hw hR dX7_differs_40 ?_
              refine lv_bipush (v := 9) hx hb dX7_differs_43 (by decide) ?_
              refine lv_iload_n hx hb dX7_differs_45 rfl (lv_at hl 1 rfl) ?_
              refine lv_imul hx hb dX7_differs_46 ?_
              refine lv_iload hx hb dX7_differs_47 (lv_at hl 5 rfl) ?_
              refine lv_iadd hx hb dX7_differs_49 ?_
              refine ri_iald X hw hR 1 rfl (9 * cl x + i) (jxn 9 c5.1 i) (by omega) dX7_differs_50 ?_
              refine lv_aload_n hx hb dX7_differs_51 rfl (lv_at hl 0 rfl) ?_
              refine rg_13 X hw hR dX7_differs_52 ?_
              refine lv_bipush (v := 9) hx hb dX7_differs_55 (by decide) ?_
              refine lv_iload_n hx hb dX7_differs_57 rfl (lv_at hl 2 rfl) ?_
              refine lv_imul hx hb dX7_differs_58 ?_
              refine lv_iload hx hb dX7_differs_59 (lv_at hl 5 rfl) ?_
              refine lv_iadd hx hb dX7_differs_61 ?_
              refine ri_iald X hw hR 1 rfl (9 * cl y + i) (jxn 9 c13.1 i) (by omega) dX7_differs_62 ?_
              refine lv_icmp_eq (tgt := 70) hx hb dX7_differs_63 (by decide) (fun c63 => ?_) (fun c63 => ?_)
              · rw [if_neg (df_f1 hi9 c63)] at hv
                refine lv_iconst (v := 0) hx hb dX7_differs_70 (by decide) ?_
                refine lv_goto (tgt := 112) hx hb dX7_differs_71 (by decide) ?_
                refine lv_istore (lv' := [(6, .int 0), (0, .ref g), (1, .int x), (2, .int y), (3, .int k), (4, .int q), (5, .int (nI i))]) hx hb dX7_differs_112 hl (by decide) rfl (fun ls hl => ?_)
                refine lv_iload hx hb dX7_differs_114 (lv_at hl 0 rfl) ?_
                refine lv_if_eq (tgt := 128) hx hb dX7_differs_116 (by decide) (fun c116 => ?_) (fun c116 => ?_)
                · refine lv_iload hx hb dX7_differs_128 (lv_at hl 0 rfl) ?_
                  refine lv_if_eq (tgt := 140) hx hb dX7_differs_130 (by decide) (fun c130 => ?_) (fun c130 => ?_)
                  · refine lv_iload hx hb dX7_differs_140 (lv_at hl 5 rfl) ?_
                    refine lv_istore (lv' := [(4, .int q), (6, .int 0), (0, .ref g), (1, .int x), (2, .int y), (3, .int k), (5, .int (nI i))]) hx hb dX7_differs_142 hl (by decide) rfl (fun ls hl => ?_)
                    refine lv_iinc (v := nI (i + 1)) (lv' := [(5, .int (nI (i + 1))), (4, .int q), (6, .int 0), (0, .ref g), (1, .int x), (2, .int y), (3, .int k)]) hx hb dX7_differs_144 hl (k := 6) rfl (nI_s i) (by decide) rfl (fun ls hl => ?_)
                    refine lv_goto (tgt := 25) hx hb dX7_differs_147 (by decide) ?_
                    exact ih (i + 1) (q) _ _ _ (by omega) (by omega) (by rw [show 17 - (i + 1) = 16 - i from by omega]; exact hv) hw  (lv_sub hl [3, 4, 5, 6, 1, 0] rfl)
                  · exact absurd (by decide) c130
                · exact absurd (by decide) c116
              · rw [if_pos (df_t1 hi9 c63)] at hv
                refine lv_iconst (v := 1) hx hb dX7_differs_66 (by decide) ?_
                refine lv_goto (tgt := 112) hx hb dX7_differs_67 (by decide) ?_
                refine lv_istore (lv' := [(6, .int 1), (0, .ref g), (1, .int x), (2, .int y), (3, .int k), (4, .int q), (5, .int (nI i))]) hx hb dX7_differs_112 hl (by decide) rfl (fun ls hl => ?_)
                refine lv_iload hx hb dX7_differs_114 (lv_at hl 0 rfl) ?_
                refine lv_if_eq (tgt := 128) hx hb dX7_differs_116 (by decide) (fun c116 => ?_) (fun c116 => ?_)
                · exact absurd c116 (by decide)
                · refine lv_iload hx hb dX7_differs_119 (lv_at hl 5 rfl) ?_
                  refine lv_iload_n hx hb dX7_differs_121 rfl (lv_at hl 4 rfl) ?_
                  refine lv_icmp_ne (tgt := 128) hx hb dX7_differs_122 (by decide) (fun c122 => ?_) (fun c122 => ?_)
                  · rw [if_neg c122] at hv
                    refine lv_iload hx hb dX7_differs_128 (lv_at hl 0 rfl) ?_
                    refine lv_if_eq (tgt := 140) hx hb dX7_differs_130 (by decide) (fun c130 => ?_) (fun c130 => ?_)
                    · exact absurd c130 (by decide)
                    · refine lv_iload hx hb dX7_differs_133 (lv_at hl 5 rfl) ?_
                      refine lv_iconst (v := 1) hx hb dX7_differs_135 (by decide) ?_
                      refine lv_iadd hx hb dX7_differs_136 ?_
                      refine lv_goto (tgt := 142) hx hb dX7_differs_137 (by decide) ?_
                      refine lv_istore (lv' := [(4, .int (q + 1)), (6, .int 1), (0, .ref g), (1, .int x), (2, .int y), (3, .int k), (5, .int (nI i))]) hx hb dX7_differs_142 hl (by decide) rfl (fun ls hl => ?_)
                      refine lv_iinc (v := nI (i + 1)) (lv' := [(5, .int (nI (i + 1))), (4, .int (q + 1)), (6, .int 1), (0, .ref g), (1, .int x), (2, .int y), (3, .int k)]) hx hb dX7_differs_144 hl (k := 6) rfl (nI_s i) (by decide) rfl (fun ls hl => ?_)
                      refine lv_goto (tgt := 25) hx hb dX7_differs_147 (by decide) ?_
                      exact ih (i + 1) (q + 1) _ _ _ (by omega) (by omega) (by rw [show 17 - (i + 1) = 16 - i from by omega]; exact hv) hw  (lv_sub hl [3, 4, 5, 6, 1, 0] rfl)
                  · rw [if_pos c122] at hv
                    refine lv_iload hx hb dX7_differs_125 (lv_at hl 6 rfl) ?_
                    exact mm_iret hQ X hw (⟨by rw [sp_differs, if_neg (fun h9 => h9 c5), if_neg (fun h9 => h9 c13), ← hv], rfl⟩) (Nat.le_of_ble_eq_true rfl) (Nat.le_of_ble_eq_true rfl) dX7_differs_127
      exact loop 18 0 0 _ _ _ (by omega) (by omega) (rfl) hw  (lv_sub hl [2, 3, 4, 5, 1, 0] rfl)
    · refine lv_bipush (v := (-2)) hx hb dX7_differs_16 (by decide) ?_
      exact mm_iret hQ X hw (⟨by rw [sp_differs, if_neg (fun h9 => h9 c5), if_pos c13], rfl⟩) (Nat.le_of_ble_eq_true rfl) (Nat.le_of_ble_eq_true rfl) dX7_differs_18
theorem i32_nle {a b : Int32} (h : ¬ a ≤ b) : b < a := by
  rw [Int32.le_iff_toInt_le] at h
  rw [Int32.lt_iff_toInt_lt]
  omega
set_option maxHeartbeats 4000000 in
set_option maxRecDepth 100000 in
theorem m_propose (l : Launch) (G : mG) (M : mM) (g : Nat) (L : Nat → Nat) (S : sS) (cs ar : Nat → Int64) (K : Nat → Nat → Int64) (hR : RV G g L S cs ar K M) (ne nn nc nl ht : Nat) (hN : NM S ne nn nc nl ht) (x h : Int32) : Ct l yX7_propose cX7_propose 5 (some FieldType.int) (mm_r 2 0 0) G [.ref g, .int x, .int h] M (fun r M1 => r = some (.int (sp_propose S x h).1) ∧ ∃ K1, RV G g L (sp_propose S x h).2 cs ar K1 M1) := by
  refine Ct.of (by decide) (Nat.le_of_ble_eq_true rfl) ?_
  intro p e s m args below meth c ls Q X hin hl hw hQ
  have hx := X.1
  have hb := X.2.1
  have hl : lv_has ls 5 [(0, .ref g), (1, .int x), (2, .int h)] := hl
  obtain ⟨hN0, hN1, hN2, hN7, hN8, hN12, hN13, hN18, hN19, hN5, hN6⟩ := id hN
  have h0b : cl (S 0 0) = ne := by rw [hN0, cl_n (by omega)]
  refine lv_aload_n hx hb dX7_propose_0 rfl (lv_at hl 0 rfl) ?_
  refine lv_iload_n hx hb dX7_propose_1 rfl (lv_at hl 1 rfl) ?_
  refine mm_callV (As := [.int x]) (rest := []) X hw (m_isEdition l G _ g L _ cs ar K hR (x) ne hN0 (by omega)) (hR.1) rfl wd_X7_92 ⟨Nat.le_of_ble_eq_true rfl, Nat.le_of_ble_eq_true rfl⟩ ⟨Nat.le_of_ble_eq_true rfl, Nat.le_of_ble_eq_true rfl⟩ rfl rfl (Nat.le_of_ble_eq_true rfl) hl.1 dX7_propose_2 (fun v9 M9 H9 locs9 hp9 hw => ?_)
  obtain ⟨rfl, rfl⟩ := hp9
  refine W.eq (g2 := F0 m 5 ls [.int (bI (0 ≤ x ∧ x < S 0 0))]) rfl ?_
  refine mm_ifeqB (tgt := 15) hx hb dX7_propose_5 (by decide) (fun c5 => ?_) (fun c5 => ?_)
  · refine lv_bipush (v := (-2)) hx hb dX7_propose_15 (by decide) ?_
    exact mm_iret hQ X hw (by have e9 : sp_propose S x h = (-2, S) := (by rw [sp_propose, if_pos c5]); rw [e9]; exact ⟨rfl, _, hR⟩) (Nat.le_of_ble_eq_true rfl) (Nat.le_of_ble_eq_true rfl) dX7_propose_17
  · have b_x : cl x < ne := cl_lt hN0 (by omega) c5
    refine lv_iload_n hx hb dX7_propose_8 rfl (lv_at hl 2 rfl) ?_
    refine lv_sipush (v := 1000) hx hb dX7_propose_9 (by decide) ?_
    refine lv_icmp_le (tgt := 18) hx hb dX7_propose_12 (by decide) (fun c12 => ?_) (fun c12 => ?_)
    · have loop : ∀ (n : Nat) (k : Nat) (b : Int32) (H1 : Heap) (locs1 : List Loc) (ls1 : Array Slot), (hk : k ≤ ne) → (hn : ne + 1 ≤ k + n) → (hv : (b = 1 ∧ pr_may S x h k) ∨ (b = 0 ∧ ¬ pr_may S x h k)) → mm_W G.1 vwCl (ct_A M s.heap.size) s.heap M H1 locs1 → lv_has ls1 5 [(0, .ref g), (1, .int x), (2, .int h), (3, .int b), (4, .int (nI k))] → W p l e (mm_r 2 0 0) s m args below meth c H1 locs1 0 0 Q (F0 m 44 ls1 []) := by
        intro n
        induction n with
        | zero => intro k b H1 locs1 ls hk hn hv hw hl; exact absurd hn (by omega)
        | succ n ih =>
          intro k b H1 locs1 ls hk hn hv hw hl
          refine lv_iload hx hb dX7_propose_44 (lv_at hl 4 rfl) ?_
          refine lv_aload_n hx hb dX7_propose_46 rfl (lv_at hl 0 rfl) ?_
          refine rg_7 X hw hR dX7_propose_47 ?_
          refine lv_icmp_ge (tgt := 91) hx hb dX7_propose_50 (by decide) (fun c50 => ?_) (fun c50 => ?_)
          · have hk9 : k = ne := by rw [hN0] at c50; have := nle (by omega) (by omega) c50; omega
            rw [hk9, ← h0b] at hv
            refine lv_iload_n hx hb dX7_propose_91 rfl (lv_at hl 3 rfl) ?_
            refine lv_if_ne (tgt := 98) hx hb dX7_propose_92 (by decide) (fun c92 => ?_) (fun c92 => ?_)
            · refine lv_aload_n hx hb dX7_propose_98 rfl (lv_at hl 0 rfl) ?_
              refine rg_23 X hw hR dX7_propose_99 ?_
              refine lv_iload_n hx hb dX7_propose_102 rfl (lv_at hl 1 rfl) ?_
              refine lv_iconst (v := 1) hx hb dX7_propose_103 (by decide) ?_
              refine ri_iast X hw hR 4 rfl (cl x) (nI_cl c5.1) (by omega) dX7_propose_104 (fun M9 H9 locs9 hw hR => ?_)
              refine lv_aload_n hx hb dX7_propose_105 rfl (lv_at hl 0 rfl) ?_
              refine rg_20 X hw hR dX7_propose_106 ?_
              refine W.eq (g2 := F0 m 109 ls [.ref (L 3)]) rfl ?_
              refine lv_iload_n hx hb dX7_propose_109 rfl (lv_at hl 1 rfl) ?_
              refine lv_iload_n hx hb dX7_propose_110 rfl (lv_at hl 2 rfl) ?_
              refine ri_iast X hw hR 3 rfl (cl x) (nI_cl c5.1) (by omega) dX7_propose_111 (fun M9 H9 locs9 hw hR => ?_)
              have hR : RV G g L (va_up (va_up S 4 (upd (S 4) (cl x) (1))) 3 (upd (S 3) (cl x) (h))) cs ar K M9 := hR
              refine lv_iconst (v := 1) hx hb dX7_propose_112 (by decide) ?_
              exact mm_iret hQ X hw (by have e9 : sp_propose S x h = (1, va_up (va_up S 4 (upd (S 4) (cl x) (1))) 3 (upd (S 3) (cl x) (h))) := (by rw [sp_propose, if_neg (fun h9 => h9 c5), if_neg (fun h9 => h9 c12), if_neg (fun h9 => h9 (hv.resolve_right (fun z => c92 z.1)).2)]); rw [e9]; exact ⟨rfl, _, hR⟩) (Nat.le_of_ble_eq_true rfl) (Nat.le_of_ble_eq_true rfl) dX7_propose_113
            · refine lv_bipush (v := (-3)) hx hb dX7_propose_95 (by decide) ?_
              exact mm_iret hQ X hw (by have e9 : sp_propose S x h = (-3, S) := (by rw [sp_propose, if_neg (fun h9 => h9 c5), if_neg (fun h9 => h9 c12), if_pos (hv.resolve_left (fun z => absurd (z.1.symm.trans c92) (by decide))).2]); rw [e9]; exact ⟨rfl, _, hR⟩) (Nat.le_of_ble_eq_true rfl) (Nat.le_of_ble_eq_true rfl) dX7_propose_97
          · have hk9 : k < ne := by rw [hN0] at c50; exact nnle (by omega) (by omega) c50
            refine lv_iload_n hx hb dX7_propose_53 rfl (lv_at hl 3 rfl) ?_
            refine lv_if_eq (tgt := 83) hx hb dX7_propose_54 (by decide) (fun c54 => ?_) (fun c54 => ?_)
            · refine lv_iconst (v := 0) hx hb dX7_propose_83 (by decide) ?_
              refine lv_istore_n (lv' := [(3, .int 0), (0, .ref g), (1, .int x), (2, .int h), (4, .int (nI k))]) hx hb dX7_propose_84 rfl hl (by decide) rfl (fun ls hl => ?_)
              refine lv_iinc (v := nI (k + 1)) (lv' := [(4, .int (nI (k + 1))), (3, .int 0), (0, .ref g), (1, .int x), (2, .int h)]) hx hb dX7_propose_85 hl (k := 4) rfl (nI_s k) (by decide) rfl (fun ls hl => ?_)
              refine lv_goto (tgt := 44) hx hb dX7_propose_88 (by decide) ?_
              exact ih (k + 1) 0 _ _ _ (by omega) (by omega) (Or.inr ⟨rfl, fun h9 => (hv.resolve_left (fun z => absurd (z.1.symm.trans c54) (by decide))).2 ⟨h9.1, h9.2.1, fun e he => h9.2.2 e (by omega)⟩⟩) hw  (lv_sub hl [2, 3, 4, 1, 0] rfl)
            · refine lv_aload_n hx hb dX7_propose_57 rfl (lv_at hl 0 rfl) ?_
              refine rg_23 X hw hR dX7_propose_58 ?_
              refine lv_iload hx hb dX7_propose_61 (lv_at hl 4 rfl) ?_
              refine ri_iald X hw hR 4 rfl (k) (rfl) (by omega) dX7_propose_63 ?_
              refine lv_iconst (v := 1) hx hb dX7_propose_64 (by decide) ?_
              refine lv_icmp_ne (tgt := 79) hx hb dX7_propose_65 (by decide) (fun c65 => ?_) (fun c65 => ?_)
              · refine lv_iconst (v := 1) hx hb dX7_propose_79 (by decide) ?_
                refine lv_goto (tgt := 84) hx hb dX7_propose_80 (by decide) ?_
                refine lv_istore_n (lv' := [(3, .int 1), (0, .ref g), (1, .int x), (2, .int h), (4, .int (nI k))]) hx hb dX7_propose_84 rfl hl (by decide) rfl (fun ls hl => ?_)
                refine lv_iinc (v := nI (k + 1)) (lv' := [(4, .int (nI (k + 1))), (3, .int 1), (0, .ref g), (1, .int x), (2, .int h)]) hx hb dX7_propose_85 hl (k := 4) rfl (nI_s k) (by decide) rfl (fun ls hl => ?_)
                refine lv_goto (tgt := 44) hx hb dX7_propose_88 (by decide) ?_
                exact ih (k + 1) 1 _ _ _ (by omega) (by omega) (Or.inl ⟨rfl, (hv.resolve_right (fun z => c54 z.1)).2.1, (hv.resolve_right (fun z => c54 z.1)).2.2.1, fun e he => (by rcases Nat.lt_succ_iff_lt_or_eq.mp he with h9 | h9; exact (hv.resolve_right (fun z => c54 z.1)).2.2.2 e h9; rw [h9]; exact Or.inl c65)⟩) hw  (lv_sub hl [2, 3, 4, 1, 0] rfl)
              · refine lv_aload_n hx hb dX7_propose_68 rfl (lv_at hl 0 rfl) ?_
                refine rg_20 X hw hR dX7_propose_69 ?_
                refine lv_iload hx hb dX7_propose_72 (lv_at hl 4 rfl) ?_
                refine ri_iald X hw hR 3 rfl (k) (rfl) (by omega) dX7_propose_74 ?_
                refine lv_iload_n hx hb dX7_propose_75 rfl (lv_at hl 2 rfl) ?_
                refine lv_icmp_ge (tgt := 83) hx hb dX7_propose_76 (by decide) (fun c76 => ?_) (fun c76 => ?_)
                · refine lv_iconst (v := 0) hx hb dX7_propose_83 (by decide) ?_
                  refine lv_istore_n (lv' := [(3, .int 0), (0, .ref g), (1, .int x), (2, .int h), (4, .int (nI k))]) hx hb dX7_propose_84 rfl hl (by decide) rfl (fun ls hl => ?_)
                  refine lv_iinc (v := nI (k + 1)) (lv' := [(4, .int (nI (k + 1))), (3, .int 0), (0, .ref g), (1, .int x), (2, .int h)]) hx hb dX7_propose_85 hl (k := 4) rfl (nI_s k) (by decide) rfl (fun ls hl => ?_)
                  refine lv_goto (tgt := 44) hx hb dX7_propose_88 (by decide) ?_
                  exact ih (k + 1) 0 _ _ _ (by omega) (by omega) (Or.inr ⟨rfl, fun h9 => (h9.2.2 k (by omega)).elim (fun z => z c65) (fun z => i32_lt_nle z c76)⟩) hw  (lv_sub hl [2, 3, 4, 1, 0] rfl)
                · refine lv_iconst (v := 1) hx hb dX7_propose_79 (by decide) ?_
                  refine lv_goto (tgt := 84) hx hb dX7_propose_80 (by decide) ?_
                  refine lv_istore_n (lv' := [(3, .int 1), (0, .ref g), (1, .int x), (2, .int h), (4, .int (nI k))]) hx hb dX7_propose_84 rfl hl (by decide) rfl (fun ls hl => ?_)
                  refine lv_iinc (v := nI (k + 1)) (lv' := [(4, .int (nI (k + 1))), (3, .int 1), (0, .ref g), (1, .int x), (2, .int h)]) hx hb dX7_propose_85 hl (k := 4) rfl (nI_s k) (by decide) rfl (fun ls hl => ?_)
                  refine lv_goto (tgt := 44) hx hb dX7_propose_88 (by decide) ?_
                  exact ih (k + 1) 1 _ _ _ (by omega) (by omega) (Or.inl ⟨rfl, (hv.resolve_right (fun z => c54 z.1)).2.1, (hv.resolve_right (fun z => c54 z.1)).2.2.1, fun e he => (by rcases Nat.lt_succ_iff_lt_or_eq.mp he with h9 | h9; exact (hv.resolve_right (fun z => c54 z.1)).2.2.2 e h9; rw [h9]; exact Or.inr (i32_nle c76))⟩) hw  (lv_sub hl [2, 3, 4, 1, 0] rfl)
      refine lv_aload_n hx hb dX7_propose_18 rfl (lv_at hl 0 rfl) ?_
      refine rg_23 X hw hR dX7_propose_19 ?_
      refine lv_iload_n hx hb dX7_propose_22 rfl (lv_at hl 1 rfl) ?_
      refine ri_iald X hw hR 4 rfl (cl x) (nI_cl c5.1) (by omega) dX7_propose_23 ?_
      refine lv_if_ne (tgt := 39) hx hb dX7_propose_24 (by decide) (fun c24 => ?_) (fun c24 => ?_)
      · refine lv_iconst (v := 0) hx hb dX7_propose_39 (by decide) ?_
        refine lv_istore_n (lv' := [(3, .int 0), (0, .ref g), (1, .int x), (2, .int h)]) hx hb dX7_propose_40 rfl hl (by decide) rfl (fun ls hl => ?_)
        refine lv_iconst (v := 0) hx hb dX7_propose_41 (by decide) ?_
        refine lv_istore (lv' := [(4, .int 0), (3, .int 0), (0, .ref g), (1, .int x), (2, .int h)]) hx hb dX7_propose_42 hl (by decide) rfl (fun ls hl => ?_)
        exact loop (ne + 1) 0 0 _ _ _ (by omega) (by omega) (Or.inr ⟨rfl, fun h9 => c24 h9.1⟩) hw  (lv_sub hl [2, 3, 4, 1, 0] rfl)
      · refine lv_iload_n hx hb dX7_propose_27 rfl (lv_at hl 2 rfl) ?_
        refine lv_aload_n hx hb dX7_propose_28 rfl (lv_at hl 0 rfl) ?_
        refine rg_99 X hw hR dX7_propose_29 ?_
        refine lv_icmp_le (tgt := 39) hx hb dX7_propose_32 (by decide) (fun c32 => ?_) (fun c32 => ?_)
        · refine lv_iconst (v := 0) hx hb dX7_propose_39 (by decide) ?_
          refine lv_istore_n (lv' := [(3, .int 0), (0, .ref g), (1, .int x), (2, .int h)]) hx hb dX7_propose_40 rfl hl (by decide) rfl (fun ls hl => ?_)
          refine lv_iconst (v := 0) hx hb dX7_propose_41 (by decide) ?_
          refine lv_istore (lv' := [(4, .int 0), (3, .int 0), (0, .ref g), (1, .int x), (2, .int h)]) hx hb dX7_propose_42 hl (by decide) rfl (fun ls hl => ?_)
          exact loop (ne + 1) 0 0 _ _ _ (by omega) (by omega) (Or.inr ⟨rfl, fun h9 => i32_lt_nle h9.2.1 c32⟩) hw  (lv_sub hl [2, 3, 4, 1, 0] rfl)
        · refine lv_iconst (v := 1) hx hb dX7_propose_35 (by decide) ?_
          refine lv_goto (tgt := 40) hx hb dX7_propose_36 (by decide) ?_
          refine lv_istore_n (lv' := [(3, .int 1), (0, .ref g), (1, .int x), (2, .int h)]) hx hb dX7_propose_40 rfl hl (by decide) rfl (fun ls hl => ?_)
          refine lv_iconst (v := 0) hx hb dX7_propose_41 (by decide) ?_
          refine lv_istore (lv' := [(4, .int 0), (3, .int 1), (0, .ref g), (1, .int x), (2, .int h)]) hx hb dX7_propose_42 hl (by decide) rfl (fun ls hl => ?_)
          exact loop (ne + 1) 0 1 _ _ _ (by omega) (by omega) (Or.inl ⟨rfl, c24, i32_nle c32, fun e he => absurd he (by omega)⟩) hw  (lv_sub hl [2, 3, 4, 1, 0] rfl)
    · refine lv_bipush (v := (-2)) hx hb dX7_propose_15 (by decide) ?_
      exact mm_iret hQ X hw (by have e9 : sp_propose S x h = (-2, S) := (by rw [sp_propose, if_neg (fun h9 => h9 c5), if_pos c12]); rw [e9]; exact ⟨rfl, _, hR⟩) (Nat.le_of_ble_eq_true rfl) (Nat.le_of_ble_eq_true rfl) dX7_propose_17
