set_option maxHeartbeats 4000000 in
set_option maxRecDepth 100000 in
theorem c_editionAt (l : Launch) (G : mG) (M : mM) (L : Nat → Nat → Nat) (S : sS) (cs ar : Nat → Int64) (J : eJ) (hE : EV G L S cs ar J M) (ne nn nc nl ht : Nat) (hN : NM S ne nn nc nl ht) (x : Int32) : Ct l yX6_editionAt cX6_editionAt 2 (some (FieldType.object "EngineVersions$Edition")) (mm_r 1 0 0) G [.ref (L 0 0), .int x] M (fun r M1 => r = some (va_rf (atR (S 0 0) (L 10) x)) ∧ M = M1) := by
  refine Ct.of (by decide) (Nat.le_of_ble_eq_true rfl) ?_
  intro p e s m args below meth c ls Q X hin hl hw hQ
  have hx := X.1
  have hb := X.2.1
  have hl : lv_has ls 2 [(0, .ref (L 0 0)), (1, .int x)] := hl
  obtain ⟨hN0, hN1, hN2, hN7, hN8, hN12, hN13, hN18, hN19, hN5, hN6⟩ := id hN
  have h0b : cl (S 0 0) = ne := by rw [hN0, cl_n (by omega)]
  have h7b : cl (S 7 0) = nn := by rw [hN7, cl_n (by omega)]
  have h12b : cl (S 12 0) = nc := by rw [hN12, cl_n (by omega)]
  have h18b : cl (S 18 0) = nl := by rw [hN18, cl_n (by omega)]
  have h5b : cl (S 5 0) = ht := by rw [hN5, cl_n (by omega)]
  refine lv_iload_n hx hb dX6_editionAt_0 rfl (lv_at hl 1 rfl) ?_
  refine lv_aload_n hx hb dX6_editionAt_1 rfl (lv_at hl 0 rfl) ?_
  refine gf_X6_11 X hw (hE.k0) rfl dX6_editionAt_2 ?_
  refine mi_alen X hw 3 (hE.k1) rfl dX6_editionAt_5 ?_
  refine W.eq (g2 := F0 m 6 ls [.int 10, .int x]) rfl ?_
  refine mm_callS (As := [.int x, .int 10]) (rest := []) X hw (c_isBelow l G _ (x) (10)) wd_X6_88 ⟨Nat.le_of_ble_eq_true rfl, Nat.le_of_ble_eq_true rfl⟩ ⟨Nat.le_of_ble_eq_true rfl, Nat.le_of_ble_eq_true rfl⟩ rfl rfl (Nat.le_of_ble_eq_true rfl) hl.1 dX6_editionAt_6 (fun v9 M9 H9 locs9 hp9 hw => ?_)
  obtain ⟨rfl, rfl⟩ := hp9
  refine W.eq (g2 := F0 m 9 ls [.int (bI (0 ≤ x ∧ x < 10))]) rfl ?_
  refine mm_ifeqB (tgt := 21) hx hb dX6_editionAt_9 (by decide) (fun c9 => ?_) (fun c9 => ?_)
  · refine lv_null hx hb dX6_editionAt_21 ?_
    exact mm_aret (r := none) hQ X hw (⟨by rw [atR_out (N := 10) (L 10) hN0 (by omega) (by decide) c9], rfl⟩) (Nat.le_of_ble_eq_true rfl) (Nat.le_of_ble_eq_true rfl) dX6_editionAt_22
  · have b_x : cl x < 10 := cl_lt (n := 10) rfl (by decide) c9
    refine lv_aload_n hx hb dX6_editionAt_12 rfl (lv_at hl 0 rfl) ?_
    refine gf_X6_11 X hw (hE.k0) rfl dX6_editionAt_13 ?_
    refine lv_iload_n hx hb dX6_editionAt_16 rfl (lv_at hl 1 rfl) ?_
    refine mi_aald X hw 3 (hE.k1) rfl (cl x) (nI_cl c9.1) (b_x) (by decide) dX6_editionAt_17 ?_
    refine lv_goto (tgt := 22) hx hb dX6_editionAt_18 (by decide) ?_
    exact mm_aret (r := (rfs (cl (S 0 0)) (L 10)) (cl x)) hQ X hw (⟨by rw [← rfs_at (N := 10) (L 10) hN0 (by omega) (by decide) c9], rfl⟩) (Nat.le_of_ble_eq_true rfl) (Nat.le_of_ble_eq_true rfl) dX6_editionAt_22
set_option maxHeartbeats 4000000 in
set_option maxRecDepth 100000 in
theorem c_nodeAt (l : Launch) (G : mG) (M : mM) (L : Nat → Nat → Nat) (S : sS) (cs ar : Nat → Int64) (J : eJ) (hE : EV G L S cs ar J M) (ne nn nc nl ht : Nat) (hN : NM S ne nn nc nl ht) (x : Int32) : Ct l yX6_nodeAt cX6_nodeAt 2 (some (FieldType.object "EngineVersions$Node")) (mm_r 1 0 0) G [.ref (L 0 0), .int x] M (fun r M1 => r = some (va_rf (atR (S 7 0) (L 20) x)) ∧ M = M1) := by
  refine Ct.of (by decide) (Nat.le_of_ble_eq_true rfl) ?_
  intro p e s m args below meth c ls Q X hin hl hw hQ
  have hx := X.1
  have hb := X.2.1
  have hl : lv_has ls 2 [(0, .ref (L 0 0)), (1, .int x)] := hl
  obtain ⟨hN0, hN1, hN2, hN7, hN8, hN12, hN13, hN18, hN19, hN5, hN6⟩ := id hN
  have h0b : cl (S 0 0) = ne := by rw [hN0, cl_n (by omega)]
  have h7b : cl (S 7 0) = nn := by rw [hN7, cl_n (by omega)]
  have h12b : cl (S 12 0) = nc := by rw [hN12, cl_n (by omega)]
  have h18b : cl (S 18 0) = nl := by rw [hN18, cl_n (by omega)]
  have h5b : cl (S 5 0) = ht := by rw [hN5, cl_n (by omega)]
  refine lv_iload_n hx hb dX6_nodeAt_0 rfl (lv_at hl 1 rfl) ?_
  refine lv_aload_n hx hb dX6_nodeAt_1 rfl (lv_at hl 0 rfl) ?_
  refine gf_X6_17 X hw (hE.k0) rfl dX6_nodeAt_2 ?_
  refine mi_alen X hw 4 (hE.k2) rfl dX6_nodeAt_5 ?_
  refine W.eq (g2 := F0 m 6 ls [.int 12, .int x]) rfl ?_
  refine mm_callS (As := [.int x, .int 12]) (rest := []) X hw (c_isBelow l G _ (x) (12)) wd_X6_88 ⟨Nat.le_of_ble_eq_true rfl, Nat.le_of_ble_eq_true rfl⟩ ⟨Nat.le_of_ble_eq_true rfl, Nat.le_of_ble_eq_true rfl⟩ rfl rfl (Nat.le_of_ble_eq_true rfl) hl.1 dX6_nodeAt_6 (fun v9 M9 H9 locs9 hp9 hw => ?_)
  obtain ⟨rfl, rfl⟩ := hp9
  refine W.eq (g2 := F0 m 9 ls [.int (bI (0 ≤ x ∧ x < 12))]) rfl ?_
  refine mm_ifeqB (tgt := 21) hx hb dX6_nodeAt_9 (by decide) (fun c9 => ?_) (fun c9 => ?_)
  · refine lv_null hx hb dX6_nodeAt_21 ?_
    exact mm_aret (r := none) hQ X hw (⟨by rw [atR_out (N := 12) (L 20) hN7 (by omega) (by decide) c9], rfl⟩) (Nat.le_of_ble_eq_true rfl) (Nat.le_of_ble_eq_true rfl) dX6_nodeAt_22
  · have b_x : cl x < 12 := cl_lt (n := 12) rfl (by decide) c9
    refine lv_aload_n hx hb dX6_nodeAt_12 rfl (lv_at hl 0 rfl) ?_
    refine gf_X6_17 X hw (hE.k0) rfl dX6_nodeAt_13 ?_
    refine lv_iload_n hx hb dX6_nodeAt_16 rfl (lv_at hl 1 rfl) ?_
    refine mi_aald X hw 4 (hE.k2) rfl (cl x) (nI_cl c9.1) (b_x) (by decide) dX6_nodeAt_17 ?_
    refine lv_goto (tgt := 22) hx hb dX6_nodeAt_18 (by decide) ?_
    exact mm_aret (r := (rfs (cl (S 7 0)) (L 20)) (cl x)) hQ X hw (⟨by rw [← rfs_at (N := 12) (L 20) hN7 (by omega) (by decide) c9], rfl⟩) (Nat.le_of_ble_eq_true rfl) (Nat.le_of_ble_eq_true rfl) dX6_nodeAt_22
set_option maxHeartbeats 4000000 in
set_option maxRecDepth 100000 in
theorem c_contractAt (l : Launch) (G : mG) (M : mM) (L : Nat → Nat → Nat) (S : sS) (cs ar : Nat → Int64) (J : eJ) (hE : EV G L S cs ar J M) (ne nn nc nl ht : Nat) (hN : NM S ne nn nc nl ht) (x : Int32) : Ct l yX6_contractAt cX6_contractAt 2 (some (FieldType.object "EngineVersions$Contract")) (mm_r 1 0 0) G [.ref (L 0 0), .int x] M (fun r M1 => r = some (va_rf (atR (S 12 0) (L 30) x)) ∧ M = M1) := by
  refine Ct.of (by decide) (Nat.le_of_ble_eq_true rfl) ?_
  intro p e s m args below meth c ls Q X hin hl hw hQ
  have hx := X.1
  have hb := X.2.1
  have hl : lv_has ls 2 [(0, .ref (L 0 0)), (1, .int x)] := hl
  obtain ⟨hN0, hN1, hN2, hN7, hN8, hN12, hN13, hN18, hN19, hN5, hN6⟩ := id hN
  have h0b : cl (S 0 0) = ne := by rw [hN0, cl_n (by omega)]
  have h7b : cl (S 7 0) = nn := by rw [hN7, cl_n (by omega)]
  have h12b : cl (S 12 0) = nc := by rw [hN12, cl_n (by omega)]
  have h18b : cl (S 18 0) = nl := by rw [hN18, cl_n (by omega)]
  have h5b : cl (S 5 0) = ht := by rw [hN5, cl_n (by omega)]
  refine lv_iload_n hx hb dX6_contractAt_0 rfl (lv_at hl 1 rfl) ?_
  refine lv_aload_n hx hb dX6_contractAt_1 rfl (lv_at hl 0 rfl) ?_
  refine gf_X6_23 X hw (hE.k0) rfl dX6_contractAt_2 ?_
  refine mi_alen X hw 5 (hE.k3) rfl dX6_contractAt_5 ?_
  refine W.eq (g2 := F0 m 6 ls [.int 12, .int x]) rfl ?_
  refine mm_callS (As := [.int x, .int 12]) (rest := []) X hw (c_isBelow l G _ (x) (12)) wd_X6_88 ⟨Nat.le_of_ble_eq_true rfl, Nat.le_of_ble_eq_true rfl⟩ ⟨Nat.le_of_ble_eq_true rfl, Nat.le_of_ble_eq_true rfl⟩ rfl rfl (Nat.le_of_ble_eq_true rfl) hl.1 dX6_contractAt_6 (fun v9 M9 H9 locs9 hp9 hw => ?_)
  obtain ⟨rfl, rfl⟩ := hp9
  refine W.eq (g2 := F0 m 9 ls [.int (bI (0 ≤ x ∧ x < 12))]) rfl ?_
  refine mm_ifeqB (tgt := 21) hx hb dX6_contractAt_9 (by decide) (fun c9 => ?_) (fun c9 => ?_)
  · refine lv_null hx hb dX6_contractAt_21 ?_
    exact mm_aret (r := none) hQ X hw (⟨by rw [atR_out (N := 12) (L 30) hN12 (by omega) (by decide) c9], rfl⟩) (Nat.le_of_ble_eq_true rfl) (Nat.le_of_ble_eq_true rfl) dX6_contractAt_22
  · have b_x : cl x < 12 := cl_lt (n := 12) rfl (by decide) c9
    refine lv_aload_n hx hb dX6_contractAt_12 rfl (lv_at hl 0 rfl) ?_
    refine gf_X6_23 X hw (hE.k0) rfl dX6_contractAt_13 ?_
    refine lv_iload_n hx hb dX6_contractAt_16 rfl (lv_at hl 1 rfl) ?_
    refine mi_aald X hw 5 (hE.k3) rfl (cl x) (nI_cl c9.1) (b_x) (by decide) dX6_contractAt_17 ?_
    refine lv_goto (tgt := 22) hx hb dX6_contractAt_18 (by decide) ?_
    exact mm_aret (r := (rfs (cl (S 12 0)) (L 30)) (cl x)) hQ X hw (⟨by rw [← rfs_at (N := 12) (L 30) hN12 (by omega) (by decide) c9], rfl⟩) (Nat.le_of_ble_eq_true rfl) (Nat.le_of_ble_eq_true rfl) dX6_contractAt_22
set_option maxHeartbeats 4000000 in
set_option maxRecDepth 100000 in
theorem c_entryAt (l : Launch) (G : mG) (M : mM) (L : Nat → Nat → Nat) (S : sS) (cs ar : Nat → Int64) (J : eJ) (hE : EV G L S cs ar J M) (ne nn nc nl ht : Nat) (hN : NM S ne nn nc nl ht) (x : Int32) : Ct l yX6_entryAt cX6_entryAt 2 (some (FieldType.object "EngineVersions$Entry")) (mm_r 1 0 0) G [.ref (L 0 0), .int x] M (fun r M1 => r = some (va_rf (atR (S 18 0) (L 40) x)) ∧ M = M1) := by
  refine Ct.of (by decide) (Nat.le_of_ble_eq_true rfl) ?_
  intro p e s m args below meth c ls Q X hin hl hw hQ
  have hx := X.1
  have hb := X.2.1
  have hl : lv_has ls 2 [(0, .ref (L 0 0)), (1, .int x)] := hl
  obtain ⟨hN0, hN1, hN2, hN7, hN8, hN12, hN13, hN18, hN19, hN5, hN6⟩ := id hN
  have h0b : cl (S 0 0) = ne := by rw [hN0, cl_n (by omega)]
  have h7b : cl (S 7 0) = nn := by rw [hN7, cl_n (by omega)]
  have h12b : cl (S 12 0) = nc := by rw [hN12, cl_n (by omega)]
  have h18b : cl (S 18 0) = nl := by rw [hN18, cl_n (by omega)]
  have h5b : cl (S 5 0) = ht := by rw [hN5, cl_n (by omega)]
  refine lv_iload_n hx hb dX6_entryAt_0 rfl (lv_at hl 1 rfl) ?_
  refine lv_aload_n hx hb dX6_entryAt_1 rfl (lv_at hl 0 rfl) ?_
  refine gf_X6_29 X hw (hE.k0) rfl dX6_entryAt_2 ?_
  refine mi_alen X hw 6 (hE.k4) rfl dX6_entryAt_5 ?_
  refine W.eq (g2 := F0 m 6 ls [.int 64, .int x]) rfl ?_
  refine mm_callS (As := [.int x, .int 64]) (rest := []) X hw (c_isBelow l G _ (x) (64)) wd_X6_88 ⟨Nat.le_of_ble_eq_true rfl, Nat.le_of_ble_eq_true rfl⟩ ⟨Nat.le_of_ble_eq_true rfl, Nat.le_of_ble_eq_true rfl⟩ rfl rfl (Nat.le_of_ble_eq_true rfl) hl.1 dX6_entryAt_6 (fun v9 M9 H9 locs9 hp9 hw => ?_)
  obtain ⟨rfl, rfl⟩ := hp9
  refine W.eq (g2 := F0 m 9 ls [.int (bI (0 ≤ x ∧ x < 64))]) rfl ?_
  refine mm_ifeqB (tgt := 21) hx hb dX6_entryAt_9 (by decide) (fun c9 => ?_) (fun c9 => ?_)
  · refine lv_null hx hb dX6_entryAt_21 ?_
    exact mm_aret (r := none) hQ X hw (⟨by rw [atR_out (N := 64) (L 40) hN18 (by omega) (by decide) c9], rfl⟩) (Nat.le_of_ble_eq_true rfl) (Nat.le_of_ble_eq_true rfl) dX6_entryAt_22
  · have b_x : cl x < 64 := cl_lt (n := 64) rfl (by decide) c9
    refine lv_aload_n hx hb dX6_entryAt_12 rfl (lv_at hl 0 rfl) ?_
    refine gf_X6_29 X hw (hE.k0) rfl dX6_entryAt_13 ?_
    refine lv_iload_n hx hb dX6_entryAt_16 rfl (lv_at hl 1 rfl) ?_
    refine mi_aald X hw 6 (hE.k4) rfl (cl x) (nI_cl c9.1) (b_x) (by decide) dX6_entryAt_17 ?_
    refine lv_goto (tgt := 22) hx hb dX6_entryAt_18 (by decide) ?_
    exact mm_aret (r := (rfs (cl (S 18 0)) (L 40)) (cl x)) hQ X hw (⟨by rw [← rfs_at (N := 64) (L 40) hN18 (by omega) (by decide) c9], rfl⟩) (Nat.le_of_ble_eq_true rfl) (Nat.le_of_ble_eq_true rfl) dX6_entryAt_22
set_option maxHeartbeats 4000000 in
set_option maxRecDepth 100000 in
theorem c_price (l : Launch) (G : mG) (M : mM) (L : Nat → Nat → Nat) (S : sS) (cs ar : Nat → Int64) (J : eJ) (hE : EV G L S cs ar J M) (ne nn nc nl ht : Nat) (hN : NM S ne nn nc nl ht) (x y v : Int32) : Ct l yX6_price cX6_price 6 (some FieldType.int) (mm_r 2 0 0) G [.ref (L 0 0), .int x, .int y, .int v] M (fun r M1 => r = some (.int (sp_price S x y v).1) ∧ ∃ J1, J1.1 = J.1 ∧ EV G L (sp_price S x y v).2 cs ar J1 M1) := by
  refine Ct.of (by decide) (Nat.le_of_ble_eq_true rfl) ?_
  intro p e s m args below meth c ls Q X hin hl hw hQ
  have hx := X.1
  have hb := X.2.1
  have hl : lv_has ls 6 [(0, .ref (L 0 0)), (1, .int x), (2, .int y), (3, .int v)] := hl
  obtain ⟨hN0, hN1, hN2, hN7, hN8, hN12, hN13, hN18, hN19, hN5, hN6⟩ := id hN
  have h0b : cl (S 0 0) = ne := by rw [hN0, cl_n (by omega)]
  have h7b : cl (S 7 0) = nn := by rw [hN7, cl_n (by omega)]
  have h12b : cl (S 12 0) = nc := by rw [hN12, cl_n (by omega)]
  have h18b : cl (S 18 0) = nl := by rw [hN18, cl_n (by omega)]
  have h5b : cl (S 5 0) = ht := by rw [hN5, cl_n (by omega)]
  refine lv_aload_n hx hb dX6_price_0 rfl (lv_at hl 0 rfl) ?_
  refine lv_iload_n hx hb dX6_price_1 rfl (lv_at hl 1 rfl) ?_
  refine mm_callV (As := [.int x]) (rest := []) X hw (c_editionAt l G _ L _ _ _ _ hE ne nn nc nl ht hN (x)) (hE.k0) rfl wd_X6_77 ⟨Nat.le_of_ble_eq_true rfl, Nat.le_of_ble_eq_true rfl⟩ ⟨Nat.le_of_ble_eq_true rfl, Nat.le_of_ble_eq_true rfl⟩ rfl rfl (Nat.le_of_ble_eq_true rfl) hl.1 dX6_price_2 (fun v9 M9 H9 locs9 hp9 hw => ?_)
  obtain ⟨rfl, rfl⟩ := hp9
  refine W.eq (g2 := F0 m 5 ls [va_rf (atR (S 0 0) (L 10) (x))]) rfl ?_
  by_cases c2 : 0 ≤ x ∧ x < S 0 0
  · have l2 : cl x < cl (S 0 0) := by rw [h0b]; exact cl_lt hN0 (by omega) c2
    refine mm_rfS (atR_s c2) ?_
    refine lv_astore (lv' := [(4, .ref (L 10 (cl x))), (0, .ref (L 0 0)), (1, .int x), (2, .int y), (3, .int v)]) hx hb dX6_price_5 hl (by decide) rfl (fun ls hl => ?_)
    refine lv_aload hx hb dX6_price_7 (lv_at hl 0 rfl) ?_
    refine lv_ifnull hx hb dX6_price_9 ?_
    refine lv_iload_n hx hb dX6_price_12 rfl (lv_at hl 3 rfl) ?_
    refine lv_bipush (v := 9) hx hb dX6_price_13 (by decide) ?_
    refine mm_callS (As := [.int y, .int 9]) (rest := []) X hw (c_isBelow l G _ (y) (9)) wd_X6_88 ⟨Nat.le_of_ble_eq_true rfl, Nat.le_of_ble_eq_true rfl⟩ ⟨Nat.le_of_ble_eq_true rfl, Nat.le_of_ble_eq_true rfl⟩ rfl rfl (Nat.le_of_ble_eq_true rfl) hl.1 dX6_price_15 (fun v9 M9 H9 locs9 hp9 hw => ?_)
    obtain ⟨rfl, rfl⟩ := hp9
    refine W.eq (g2 := F0 m 18 ls [.int (bI (0 ≤ y ∧ y < 9))]) rfl ?_
    refine mm_ifeqB (tgt := 31) hx hb dX6_price_18 (by decide) (fun c18 => ?_) (fun c18 => ?_)
    · refine lv_bipush (v := (-2)) hx hb dX6_price_31 (by decide) ?_
      exact mm_iret hQ X hw (by have e9 : sp_price S x y v = ((-2), S) := (by rw [sp_price, if_neg (fun h9 => h9 c2), if_pos (fun h9 => c18 ⟨h9.1, lt_le9.mpr h9.2⟩)]); rw [e9]; exact ⟨rfl, _, rfl, hE⟩) (Nat.le_of_ble_eq_true rfl) (Nat.le_of_ble_eq_true rfl) dX6_price_33
    · have b_y : cl y < 9 := cl_lt (n := 9) rfl (by decide) c18
      refine lv_iload_n hx hb dX6_price_21 rfl (lv_at hl 4 rfl) ?_
      refine lv_if_lt (tgt := 31) hx hb dX6_price_22 (by decide) (fun c22 => ?_) (fun c22 => ?_)
      · refine lv_bipush (v := (-2)) hx hb dX6_price_31 (by decide) ?_
        exact mm_iret hQ X hw (by have e9 : sp_price S x y v = ((-2), S) := (by rw [sp_price, if_neg (fun h9 => h9 c2), if_neg (fun h9 => h9 ⟨c18.1, lt_le9.mp c18.2⟩), if_pos (fun h9 => i32_lt_nle c22 h9.1)]); rw [e9]; exact ⟨rfl, _, rfl, hE⟩) (Nat.le_of_ble_eq_true rfl) (Nat.le_of_ble_eq_true rfl) dX6_price_33
      · refine lv_iload_n hx hb dX6_price_25 rfl (lv_at hl 4 rfl) ?_
        refine lv_bipush (v := 100) hx hb dX6_price_26 (by decide) ?_
        refine lv_icmp_le (tgt := 34) hx hb dX6_price_28 (by decide) (fun c28 => ?_) (fun c28 => ?_)
        · refine lv_aload hx hb dX6_price_34 (lv_at hl 0 rfl) ?_
          refine gf_X6_74 X hw (hE.k10 l2) rfl dX6_price_36 ?_
          refine lv_if_eq (tgt := 45) hx hb dX6_price_39 (by decide) (fun c39 => ?_) (fun c39 => ?_)
          · refine lv_aload hx hb dX6_price_45 (lv_at hl 0 rfl) ?_
            refine gf_X6_66 X hw (hE.k10 l2) rfl dX6_price_47 ?_
            refine lv_iload_n hx hb dX6_price_50 rfl (lv_at hl 3 rfl) ?_
            refine mi_iald X hw (hE.k11 l2) (cl y) (nI_cl c18.1) (b_y) (by decide) dX6_price_51 ?_
            refine mm_eqI (y := S 1 (9 * cl x + cl y)) (tr_at b_y) ?_
            refine lv_istore (lv' := [(5, .int (S 1 (9 * cl x + cl y))), (4, .ref (L 10 (cl x))), (0, .ref (L 0 0)), (1, .int x), (2, .int y), (3, .int v)]) hx hb dX6_price_52 hl (by decide) rfl (fun ls hl => ?_)
            refine lv_aload hx hb dX6_price_54 (lv_at hl 1 rfl) ?_
            refine gf_X6_66 X hw (hE.k10 l2) rfl dX6_price_56 ?_
            refine lv_iload_n hx hb dX6_price_59 rfl (lv_at hl 4 rfl) ?_
            refine lv_iload_n hx hb dX6_price_60 rfl (lv_at hl 5 rfl) ?_
            refine mi_iast X hw (hE.k11 l2) (cl y) (nI_cl c18.1) (b_y) (by decide) dX6_price_61 (fun H9 locs9 hw => ?_)
            obtain ⟨M_1, eM_1⟩ : ∃ z, z = mm_up M (L 11 (cl x)) (aI G 9 (upd (tr 9 (fun j => S 1 (9 * (cl x) + j))) (cl y) (v))) := ⟨_, rfl⟩
            have hw : mm_W G.1 vwCl (ct_A M s.heap.size) s.heap M_1 H9 locs9 := by rw [eM_1]; exact hw
            have hE : EV G L (va_up S 1 (upd (S 1) (9 * (cl x) + cl y) (v))) (cs) (ar) (J) M_1 := hE.w_pr l2 (j := cl y) (b_y) (v) eM_1
            refine lv_iload hx hb dX6_price_62 (lv_at hl 0 rfl) ?_
            exact mm_iret hQ X hw (by have e9 : sp_price S x y v = (S 1 (9 * cl x + cl y), va_up S 1 (upd (S 1) (9 * (cl x) + cl y) (v))) := (by rw [sp_price, if_neg (fun h9 => h9 c2), if_neg (fun h9 => h9 ⟨c18.1, lt_le9.mp c18.2⟩), if_neg (fun h9 => h9 ⟨i32_nlt c22, c28⟩), if_neg (fun h9 => h9 c39)]); rw [e9]; exact ⟨rfl, _, rfl, hE⟩) (Nat.le_of_ble_eq_true rfl) (Nat.le_of_ble_eq_true rfl) dX6_price_64
          · refine lv_bipush (v := (-3)) hx hb dX6_price_42 (by decide) ?_
            exact mm_iret hQ X hw (by have e9 : sp_price S x y v = ((-3), S) := (by rw [sp_price, if_neg (fun h9 => h9 c2), if_neg (fun h9 => h9 ⟨c18.1, lt_le9.mp c18.2⟩), if_neg (fun h9 => h9 ⟨i32_nlt c22, c28⟩), if_pos c39]); rw [e9]; exact ⟨rfl, _, rfl, hE⟩) (Nat.le_of_ble_eq_true rfl) (Nat.le_of_ble_eq_true rfl) dX6_price_44
        · refine lv_bipush (v := (-2)) hx hb dX6_price_31 (by decide) ?_
          exact mm_iret hQ X hw (by have e9 : sp_price S x y v = ((-2), S) := (by rw [sp_price, if_neg (fun h9 => h9 c2), if_neg (fun h9 => h9 ⟨c18.1, lt_le9.mp c18.2⟩), if_pos (fun h9 => c28 h9.2)]); rw [e9]; exact ⟨rfl, _, rfl, hE⟩) (Nat.le_of_ble_eq_true rfl) (Nat.le_of_ble_eq_true rfl) dX6_price_33
  · refine mm_rfN (atR_n c2) ?_
    refine lv_astoreN (lv' := [(4, .null), (0, .ref (L 0 0)), (1, .int x), (2, .int y), (3, .int v)]) hx hb dX6_price_5 hl (by decide) rfl (fun ls hl => ?_)
    refine lv_aloadN hx hb dX6_price_7 (lv_at hl 0 rfl) ?_
    refine lv_ifnullN (tgt := 31) hx hb dX6_price_9 (by decide) ?_
    refine lv_bipush (v := (-2)) hx hb dX6_price_31 (by decide) ?_
    exact mm_iret hQ X hw (by have e9 : sp_price S x y v = ((-2), S) := (by rw [sp_price, if_pos c2]); rw [e9]; exact ⟨rfl, _, rfl, hE⟩) (Nat.le_of_ble_eq_true rfl) (Nat.le_of_ble_eq_true rfl) dX6_price_33
set_option maxHeartbeats 4000000 in
set_option maxRecDepth 100000 in
theorem c_member (l : Launch) (G : mG) (M : mM) (L : Nat → Nat → Nat) (S : sS) (cs ar : Nat → Int64) (J : eJ) (hE : EV G L S cs ar J M) (ne nn nc nl ht : Nat) (hN : NM S ne nn nc nl ht) (x y v : Int32) : Ct l yX6_member cX6_member 6 (some FieldType.int) (mm_r 2 0 0) G [.ref (L 0 0), .int x, .int y, .int v] M (fun r M1 => r = some (.int (sp_member S x y v).1) ∧ ∃ J1, J1.1 = J.1 ∧ EV G L (sp_member S x y v).2 cs ar J1 M1) := by
  refine Ct.of (by decide) (Nat.le_of_ble_eq_true rfl) ?_
  intro p e s m args below meth c ls Q X hin hl hw hQ
  have hx := X.1
  have hb := X.2.1
  have hl : lv_has ls 6 [(0, .ref (L 0 0)), (1, .int x), (2, .int y), (3, .int v)] := hl
  obtain ⟨hN0, hN1, hN2, hN7, hN8, hN12, hN13, hN18, hN19, hN5, hN6⟩ := id hN
  have h0b : cl (S 0 0) = ne := by rw [hN0, cl_n (by omega)]
  have h7b : cl (S 7 0) = nn := by rw [hN7, cl_n (by omega)]
  have h12b : cl (S 12 0) = nc := by rw [hN12, cl_n (by omega)]
  have h18b : cl (S 18 0) = nl := by rw [hN18, cl_n (by omega)]
  have h5b : cl (S 5 0) = ht := by rw [hN5, cl_n (by omega)]
  refine lv_aload_n hx hb dX6_member_0 rfl (lv_at hl 0 rfl) ?_
  refine lv_iload_n hx hb dX6_member_1 rfl (lv_at hl 1 rfl) ?_
  refine mm_callV (As := [.int x]) (rest := []) X hw (c_editionAt l G _ L _ _ _ _ hE ne nn nc nl ht hN (x)) (hE.k0) rfl wd_X6_77 ⟨Nat.le_of_ble_eq_true rfl, Nat.le_of_ble_eq_true rfl⟩ ⟨Nat.le_of_ble_eq_true rfl, Nat.le_of_ble_eq_true rfl⟩ rfl rfl (Nat.le_of_ble_eq_true rfl) hl.1 dX6_member_2 (fun v9 M9 H9 locs9 hp9 hw => ?_)
  obtain ⟨rfl, rfl⟩ := hp9
  refine W.eq (g2 := F0 m 5 ls [va_rf (atR (S 0 0) (L 10) (x))]) rfl ?_
  by_cases c2 : 0 ≤ x ∧ x < S 0 0
  · have l2 : cl x < cl (S 0 0) := by rw [h0b]; exact cl_lt hN0 (by omega) c2
    refine mm_rfS (atR_s c2) ?_
    refine lv_astore (lv' := [(4, .ref (L 10 (cl x))), (0, .ref (L 0 0)), (1, .int x), (2, .int y), (3, .int v)]) hx hb dX6_member_5 hl (by decide) rfl (fun ls hl => ?_)
    refine lv_aload hx hb dX6_member_7 (lv_at hl 0 rfl) ?_
    refine lv_ifnull hx hb dX6_member_9 ?_
    refine lv_iload_n hx hb dX6_member_12 rfl (lv_at hl 3 rfl) ?_
    refine lv_bipush (v := 8) hx hb dX6_member_13 (by decide) ?_
    refine mm_callS (As := [.int y, .int 8]) (rest := []) X hw (c_isBelow l G _ (y) (8)) wd_X6_88 ⟨Nat.le_of_ble_eq_true rfl, Nat.le_of_ble_eq_true rfl⟩ ⟨Nat.le_of_ble_eq_true rfl, Nat.le_of_ble_eq_true rfl⟩ rfl rfl (Nat.le_of_ble_eq_true rfl) hl.1 dX6_member_15 (fun v9 M9 H9 locs9 hp9 hw => ?_)
    obtain ⟨rfl, rfl⟩ := hp9
    refine W.eq (g2 := F0 m 18 ls [.int (bI (0 ≤ y ∧ y < 8))]) rfl ?_
    refine mm_ifneB (tgt := 24) hx hb dX6_member_18 (by decide) (fun c18 => ?_) (fun c18 => ?_)
    · have b_y : cl y < 8 := cl_lt (n := 8) rfl (by decide) c18
      refine lv_iload_n hx hb dX6_member_24 rfl (lv_at hl 4 rfl) ?_
      refine lv_iconst (v := (-1)) hx hb dX6_member_25 (by decide) ?_
      refine lv_icmp_eq (tgt := 41) hx hb dX6_member_26 (by decide) (fun c26 => ?_) (fun c26 => ?_)
      · refine lv_aload hx hb dX6_member_41 (lv_at hl 0 rfl) ?_
        refine gf_X6_74 X hw (hE.k10 l2) rfl dX6_member_43 ?_
        refine lv_if_eq (tgt := 52) hx hb dX6_member_46 (by decide) (fun c46 => ?_) (fun c46 => ?_)
        · refine lv_aload hx hb dX6_member_52 (lv_at hl 0 rfl) ?_
          refine gf_X6_70 X hw (hE.k10 l2) rfl dX6_member_54 ?_
          refine lv_iload_n hx hb dX6_member_57 rfl (lv_at hl 3 rfl) ?_
          refine mi_iald X hw (hE.k12 l2) (cl y) (nI_cl c18.1) (b_y) (by decide) dX6_member_58 ?_
          refine mm_eqI (y := S 2 (8 * cl x + cl y)) (tr_at b_y) ?_
          refine lv_istore (lv' := [(5, .int (S 2 (8 * cl x + cl y))), (4, .ref (L 10 (cl x))), (0, .ref (L 0 0)), (1, .int x), (2, .int y), (3, .int v)]) hx hb dX6_member_59 hl (by decide) rfl (fun ls hl => ?_)
          refine lv_aload hx hb dX6_member_61 (lv_at hl 1 rfl) ?_
          refine gf_X6_70 X hw (hE.k10 l2) rfl dX6_member_63 ?_
          refine lv_iload_n hx hb dX6_member_66 rfl (lv_at hl 4 rfl) ?_
          refine lv_iload_n hx hb dX6_member_67 rfl (lv_at hl 5 rfl) ?_
          refine mi_iast X hw (hE.k12 l2) (cl y) (nI_cl c18.1) (b_y) (by decide) dX6_member_68 (fun H9 locs9 hw => ?_)
          obtain ⟨M_1, eM_1⟩ : ∃ z, z = mm_up M (L 12 (cl x)) (aI G 8 (upd (tr 8 (fun j => S 2 (8 * (cl x) + j))) (cl y) (v))) := ⟨_, rfl⟩
          have hw : mm_W G.1 vwCl (ct_A M s.heap.size) s.heap M_1 H9 locs9 := by rw [eM_1]; exact hw
          have hE : EV G L (va_up S 2 (upd (S 2) (8 * (cl x) + cl y) (v))) (cs) (ar) (J) M_1 := hE.w_me l2 (j := cl y) (b_y) (v) eM_1
          refine lv_iload hx hb dX6_member_69 (lv_at hl 0 rfl) ?_
          exact mm_iret hQ X hw (by have e9 : sp_member S x y v = (S 2 (8 * cl x + cl y), va_up S 2 (upd (S 2) (8 * (cl x) + cl y) (v))) := (by rw [sp_member, if_neg (fun h9 => h9 c2), if_neg (fun h9 => h9 ⟨c18.1, lt_le8.mp c18.2⟩), if_neg (fun h9 => h9 (m1_le (Or.inl c26))), if_neg (fun h9 => h9 c46)]); rw [e9]; exact ⟨rfl, _, rfl, hE⟩) (Nat.le_of_ble_eq_true rfl) (Nat.le_of_ble_eq_true rfl) dX6_member_71
        · refine lv_bipush (v := (-3)) hx hb dX6_member_49 (by decide) ?_
          exact mm_iret hQ X hw (by have e9 : sp_member S x y v = ((-3), S) := (by rw [sp_member, if_neg (fun h9 => h9 c2), if_neg (fun h9 => h9 ⟨c18.1, lt_le8.mp c18.2⟩), if_neg (fun h9 => h9 (m1_le (Or.inl c26))), if_pos c46]); rw [e9]; exact ⟨rfl, _, rfl, hE⟩) (Nat.le_of_ble_eq_true rfl) (Nat.le_of_ble_eq_true rfl) dX6_member_51
      · refine lv_iload_n hx hb dX6_member_29 rfl (lv_at hl 4 rfl) ?_
        refine lv_bipush (v := 6) hx hb dX6_member_30 (by decide) ?_
        refine mm_callS (As := [.int v, .int 6]) (rest := []) X hw (c_isBelow l G _ (v) (6)) wd_X6_88 ⟨Nat.le_of_ble_eq_true rfl, Nat.le_of_ble_eq_true rfl⟩ ⟨Nat.le_of_ble_eq_true rfl, Nat.le_of_ble_eq_true rfl⟩ rfl rfl (Nat.le_of_ble_eq_true rfl) hl.1 dX6_member_32 (fun v9 M9 H9 locs9 hp9 hw => ?_)
        obtain ⟨rfl, rfl⟩ := hp9
        refine W.eq (g2 := F0 m 35 ls [.int (bI (0 ≤ v ∧ v < 6))]) rfl ?_
        refine mm_ifneB (tgt := 41) hx hb dX6_member_35 (by decide) (fun c35 => ?_) (fun c35 => ?_)
        · refine lv_aload hx hb dX6_member_41 (lv_at hl 0 rfl) ?_
          refine gf_X6_74 X hw (hE.k10 l2) rfl dX6_member_43 ?_
          refine lv_if_eq (tgt := 52) hx hb dX6_member_46 (by decide) (fun c46 => ?_) (fun c46 => ?_)
          · refine lv_aload hx hb dX6_member_52 (lv_at hl 0 rfl) ?_
            refine gf_X6_70 X hw (hE.k10 l2) rfl dX6_member_54 ?_
            refine lv_iload_n hx hb dX6_member_57 rfl (lv_at hl 3 rfl) ?_
            refine mi_iald X hw (hE.k12 l2) (cl y) (nI_cl c18.1) (b_y) (by decide) dX6_member_58 ?_
            refine mm_eqI (y := S 2 (8 * cl x + cl y)) (tr_at b_y) ?_
            refine lv_istore (lv' := [(5, .int (S 2 (8 * cl x + cl y))), (4, .ref (L 10 (cl x))), (0, .ref (L 0 0)), (1, .int x), (2, .int y), (3, .int v)]) hx hb dX6_member_59 hl (by decide) rfl (fun ls hl => ?_)
            refine lv_aload hx hb dX6_member_61 (lv_at hl 1 rfl) ?_
            refine gf_X6_70 X hw (hE.k10 l2) rfl dX6_member_63 ?_
            refine lv_iload_n hx hb dX6_member_66 rfl (lv_at hl 4 rfl) ?_
            refine lv_iload_n hx hb dX6_member_67 rfl (lv_at hl 5 rfl) ?_
            refine mi_iast X hw (hE.k12 l2) (cl y) (nI_cl c18.1) (b_y) (by decide) dX6_member_68 (fun H9 locs9 hw => ?_)
            obtain ⟨M_2, eM_2⟩ : ∃ z, z = mm_up M (L 12 (cl x)) (aI G 8 (upd (tr 8 (fun j => S 2 (8 * (cl x) + j))) (cl y) (v))) := ⟨_, rfl⟩
            have hw : mm_W G.1 vwCl (ct_A M s.heap.size) s.heap M_2 H9 locs9 := by rw [eM_2]; exact hw
            have hE : EV G L (va_up S 2 (upd (S 2) (8 * (cl x) + cl y) (v))) (cs) (ar) (J) M_2 := hE.w_me l2 (j := cl y) (b_y) (v) eM_2
            refine lv_iload hx hb dX6_member_69 (lv_at hl 0 rfl) ?_
            exact mm_iret hQ X hw (by have e9 : sp_member S x y v = (S 2 (8 * cl x + cl y), va_up S 2 (upd (S 2) (8 * (cl x) + cl y) (v))) := (by rw [sp_member, if_neg (fun h9 => h9 c2), if_neg (fun h9 => h9 ⟨c18.1, lt_le8.mp c18.2⟩), if_neg (fun h9 => h9 (m1_le (Or.inr c35))), if_neg (fun h9 => h9 c46)]); rw [e9]; exact ⟨rfl, _, rfl, hE⟩) (Nat.le_of_ble_eq_true rfl) (Nat.le_of_ble_eq_true rfl) dX6_member_71
          · refine lv_bipush (v := (-3)) hx hb dX6_member_49 (by decide) ?_
            exact mm_iret hQ X hw (by have e9 : sp_member S x y v = ((-3), S) := (by rw [sp_member, if_neg (fun h9 => h9 c2), if_neg (fun h9 => h9 ⟨c18.1, lt_le8.mp c18.2⟩), if_neg (fun h9 => h9 (m1_le (Or.inr c35))), if_pos c46]); rw [e9]; exact ⟨rfl, _, rfl, hE⟩) (Nat.le_of_ble_eq_true rfl) (Nat.le_of_ble_eq_true rfl) dX6_member_51
        · refine lv_bipush (v := (-2)) hx hb dX6_member_38 (by decide) ?_
          exact mm_iret hQ X hw (by have e9 : sp_member S x y v = ((-2), S) := (by rw [sp_member, if_neg (fun h9 => h9 c2), if_neg (fun h9 => h9 ⟨c18.1, lt_le8.mp c18.2⟩), if_pos (fun h9 => (m1_le' h9).elim c26 c35)]); rw [e9]; exact ⟨rfl, _, rfl, hE⟩) (Nat.le_of_ble_eq_true rfl) (Nat.le_of_ble_eq_true rfl) dX6_member_40
    · refine lv_bipush (v := (-2)) hx hb dX6_member_21 (by decide) ?_
      exact mm_iret hQ X hw (by have e9 : sp_member S x y v = ((-2), S) := (by rw [sp_member, if_neg (fun h9 => h9 c2), if_pos (fun h9 => c18 ⟨h9.1, lt_le8.mpr h9.2⟩)]); rw [e9]; exact ⟨rfl, _, rfl, hE⟩) (Nat.le_of_ble_eq_true rfl) (Nat.le_of_ble_eq_true rfl) dX6_member_23
  · refine mm_rfN (atR_n c2) ?_
    refine lv_astoreN (lv' := [(4, .null), (0, .ref (L 0 0)), (1, .int x), (2, .int y), (3, .int v)]) hx hb dX6_member_5 hl (by decide) rfl (fun ls hl => ?_)
    refine lv_aloadN hx hb dX6_member_7 (lv_at hl 0 rfl) ?_
    refine lv_ifnullN (tgt := 21) hx hb dX6_member_9 (by decide) ?_
    refine lv_bipush (v := (-2)) hx hb dX6_member_21 (by decide) ?_
    exact mm_iret hQ X hw (by have e9 : sp_member S x y v = ((-2), S) := (by rw [sp_member, if_pos c2]); rw [e9]; exact ⟨rfl, _, rfl, hE⟩) (Nat.le_of_ble_eq_true rfl) (Nat.le_of_ble_eq_true rfl) dX6_member_23
theorem ab_if {k a b : Int32} {n : Nat} {f : Nat → Int32} (h : k < b ↔ k ≤ a) (hb : b = nI n := by rfl) (hn : n < 2 ^ 31 := by decide) : (if 0 ≤ k ∧ k < b then tr n f (cl k) else -2) = if 0 ≤ k ∧ k ≤ a then f (cl k) else -2 := by
  by_cases h1 : 0 ≤ k ∧ k < b
  · rw [if_pos h1, if_pos ⟨h1.1, h.mp h1.2⟩, tr_at (cl_lt hb hn h1)]
  · rw [if_neg h1, if_neg (fun h2 => h1 ⟨h2.1, h.mpr h2.2⟩)]
set_option maxHeartbeats 4000000 in
set_option maxRecDepth 100000 in
theorem c_about (l : Launch) (G : mG) (M : mM) (L : Nat → Nat → Nat) (S : sS) (cs ar : Nat → Int64) (J : eJ) (hE : EV G L S cs ar J M) (ne nn nc nl ht : Nat) (hN : NM S ne nn nc nl ht) (x w k : Int32) : Ct l yX6_about cX6_about 5 (some FieldType.int) (mm_r 2 0 0) G [.ref (L 0 0), .int x, .int w, .int k] M (fun r M1 => r = some (.int (sp_about S x w k)) ∧ M = M1) := by
  refine Ct.of (by decide) (Nat.le_of_ble_eq_true rfl) ?_
  intro p e s m args below meth c ls Q X hin hl hw hQ
  have hx := X.1
  have hb := X.2.1
  have hl : lv_has ls 5 [(0, .ref (L 0 0)), (1, .int x), (2, .int w), (3, .int k)] := hl
  obtain ⟨hN0, hN1, hN2, hN7, hN8, hN12, hN13, hN18, hN19, hN5, hN6⟩ := id hN
  have h0b : cl (S 0 0) = ne := by rw [hN0, cl_n (by omega)]
  have h7b : cl (S 7 0) = nn := by rw [hN7, cl_n (by omega)]
  have h12b : cl (S 12 0) = nc := by rw [hN12, cl_n (by omega)]
  have h18b : cl (S 18 0) = nl := by rw [hN18, cl_n (by omega)]
  have h5b : cl (S 5 0) = ht := by rw [hN5, cl_n (by omega)]
  refine lv_aload_n hx hb dX6_about_0 rfl (lv_at hl 0 rfl) ?_
  refine lv_iload_n hx hb dX6_about_1 rfl (lv_at hl 1 rfl) ?_
  refine mm_callV (As := [.int x]) (rest := []) X hw (c_editionAt l G _ L _ _ _ _ hE ne nn nc nl ht hN (x)) (hE.k0) rfl wd_X6_77 ⟨Nat.le_of_ble_eq_true rfl, Nat.le_of_ble_eq_true rfl⟩ ⟨Nat.le_of_ble_eq_true rfl, Nat.le_of_ble_eq_true rfl⟩ rfl rfl (Nat.le_of_ble_eq_true rfl) hl.1 dX6_about_2 (fun v9 M9 H9 locs9 hp9 hw => ?_)
  obtain ⟨rfl, rfl⟩ := hp9
  refine W.eq (g2 := F0 m 5 ls [va_rf (atR (S 0 0) (L 10) (x))]) rfl ?_
  by_cases c2 : 0 ≤ x ∧ x < S 0 0
  · have l2 : cl x < cl (S 0 0) := by rw [h0b]; exact cl_lt hN0 (by omega) c2
    refine mm_rfS (atR_s c2) ?_
    refine lv_astore (lv' := [(4, .ref (L 10 (cl x))), (0, .ref (L 0 0)), (1, .int x), (2, .int w), (3, .int k)]) hx hb dX6_about_5 hl (by decide) rfl (fun ls hl => ?_)
    refine lv_aload hx hb dX6_about_7 (lv_at hl 0 rfl) ?_
    refine lv_ifnonnull (tgt := 15) hx hb dX6_about_9 (by decide) ?_
    refine lv_iload_n hx hb dX6_about_15 rfl (lv_at hl 3 rfl) ?_
    rcases mm_sw w 0 4 (by decide) (by decide) with ⟨k9, hk9, c16⟩ | c16
    · rcases (show k9 = 0 ∨ k9 = 1 ∨ k9 = 2 ∨ k9 = 3 by omega) with rfl | rfl | rfl | rfl
      · have c16 : w = 0 := c16
        refine lv_tableIn (off := 32) (tgt := 48) hx hb dX6_about_16 (by rw [c16]; decide) (by rw [c16]; decide) (by rw [c16]; rfl) (by decide) ?_
        refine lv_aload hx hb dX6_about_48 (lv_at hl 0 rfl) ?_
        refine lv_iload_n hx hb dX6_about_50 rfl (lv_at hl 4 rfl) ?_
        refine mm_callV (As := [.int k]) (rest := []) X hw (c_priceOf l G _ _ _ _ _ _ _ _ _ (k) (hE.k10 l2) (hE.k11 l2) (hE.k12 l2)) (hE.k10 l2) rfl wd_X6_92 ⟨Nat.le_of_ble_eq_true rfl, Nat.le_of_ble_eq_true rfl⟩ ⟨Nat.le_of_ble_eq_true rfl, Nat.le_of_ble_eq_true rfl⟩ rfl rfl (Nat.le_of_ble_eq_true rfl) hl.1 dX6_about_51 (fun v9 M9 H9 locs9 hp9 hw => ?_)
        obtain ⟨rfl, rfl⟩ := hp9
        refine W.eq (g2 := F0 m 54 ls [.int (if 0 ≤ k ∧ k < 9 then tr 9 (fun j => S 1 (9 * (cl x) + j)) (cl k) else -2)]) rfl ?_
        exact mm_iret hQ X hw (⟨by rw [show sp_about S x w k = (if 0 ≤ k ∧ k ≤ 8 then S 1 (9 * cl x + cl k) else -2) from (by rw [sp_about, if_neg (fun h9 => h9 c2), if_pos c16])]; exact congrArg (fun z => some (Value.int z)) (ab_if lt_le9), rfl⟩) (Nat.le_of_ble_eq_true rfl) (Nat.le_of_ble_eq_true rfl) dX6_about_54
      · have c16 : w = 1 := c16
        refine lv_tableIn (off := 39) (tgt := 55) hx hb dX6_about_16 (by rw [c16]; decide) (by rw [c16]; decide) (by rw [c16]; rfl) (by decide) ?_
        refine lv_aload hx hb dX6_about_55 (lv_at hl 0 rfl) ?_
        refine lv_iload_n hx hb dX6_about_57 rfl (lv_at hl 4 rfl) ?_
        refine mm_callV (As := [.int k]) (rest := []) X hw (c_meaningOf l G _ _ _ _ _ _ _ _ _ (k) (hE.k10 l2) (hE.k11 l2) (hE.k12 l2)) (hE.k10 l2) rfl wd_X6_96 ⟨Nat.le_of_ble_eq_true rfl, Nat.le_of_ble_eq_true rfl⟩ ⟨Nat.le_of_ble_eq_true rfl, Nat.le_of_ble_eq_true rfl⟩ rfl rfl (Nat.le_of_ble_eq_true rfl) hl.1 dX6_about_58 (fun v9 M9 H9 locs9 hp9 hw => ?_)
        obtain ⟨rfl, rfl⟩ := hp9
        refine W.eq (g2 := F0 m 61 ls [.int (if 0 ≤ k ∧ k < 8 then tr 8 (fun j => S 2 (8 * (cl x) + j)) (cl k) else -2)]) rfl ?_
        exact mm_iret hQ X hw (⟨by rw [show sp_about S x w k = (if 0 ≤ k ∧ k ≤ 7 then S 2 (8 * cl x + cl k) else -2) from (by rw [sp_about, if_neg (fun h9 => h9 c2), if_neg (by rw [c16]; decide), if_pos c16])]; exact congrArg (fun z => some (Value.int z)) (ab_if lt_le8), rfl⟩) (Nat.le_of_ble_eq_true rfl) (Nat.le_of_ble_eq_true rfl) dX6_about_61
      · have c16 : w = 2 := c16
        refine lv_tableIn (off := 46) (tgt := 62) hx hb dX6_about_16 (by rw [c16]; decide) (by rw [c16]; decide) (by rw [c16]; rfl) (by decide) ?_
        refine lv_aload hx hb dX6_about_62 (lv_at hl 0 rfl) ?_
        refine gf_X6_73 X hw (hE.k10 l2) rfl dX6_about_64 ?_
        exact mm_iret hQ X hw (⟨by rw [sp_about, if_neg (fun h9 => h9 c2), if_neg (by rw [c16]; decide), if_neg (by rw [c16]; decide), if_pos c16], rfl⟩) (Nat.le_of_ble_eq_true rfl) (Nat.le_of_ble_eq_true rfl) dX6_about_67
      · have c16 : w = 3 := c16
        refine lv_tableIn (off := 52) (tgt := 68) hx hb dX6_about_16 (by rw [c16]; decide) (by rw [c16]; decide) (by rw [c16]; rfl) (by decide) ?_
        refine lv_aload hx hb dX6_about_68 (lv_at hl 0 rfl) ?_
        refine gf_X6_74 X hw (hE.k10 l2) rfl dX6_about_70 ?_
        exact mm_iret hQ X hw (⟨by rw [sp_about, if_neg (fun h9 => h9 c2), if_neg (by rw [c16]; decide), if_neg (by rw [c16]; decide), if_neg (by rw [c16]; decide), if_pos c16], rfl⟩) (Nat.le_of_ble_eq_true rfl) (Nat.le_of_ble_eq_true rfl) dX6_about_73
    · refine lv_tableOut (tgt := 74) hx hb dX6_about_16 c16 (by decide) ?_
      refine lv_bipush (v := (-2)) hx hb dX6_about_74 (by decide) ?_
      exact mm_iret hQ X hw (⟨by rw [sp_about, if_neg (fun h9 => h9 c2), if_neg (by intro h9; rw [h9] at c16; revert c16; decide), if_neg (by intro h9; rw [h9] at c16; revert c16; decide), if_neg (by intro h9; rw [h9] at c16; revert c16; decide), if_neg (by intro h9; rw [h9] at c16; revert c16; decide)], rfl⟩) (Nat.le_of_ble_eq_true rfl) (Nat.le_of_ble_eq_true rfl) dX6_about_76
  · refine mm_rfN (atR_n c2) ?_
    refine lv_astoreN (lv' := [(4, .null), (0, .ref (L 0 0)), (1, .int x), (2, .int w), (3, .int k)]) hx hb dX6_about_5 hl (by decide) rfl (fun ls hl => ?_)
    refine lv_aloadN hx hb dX6_about_7 (lv_at hl 0 rfl) ?_
    refine lv_ifnonnullN hx hb dX6_about_9 ?_
    refine lv_bipush (v := (-2)) hx hb dX6_about_12 (by decide) ?_
    exact mm_iret hQ X hw (⟨by rw [sp_about, if_pos c2], rfl⟩) (Nat.le_of_ble_eq_true rfl) (Nat.le_of_ble_eq_true rfl) dX6_about_14
theorem df_tr {S : sS} {e f i : Nat} (hi : i < 17) (c : (if i < 9 then tr 9 (fun j => S 1 (9 * e + j)) i else tr 8 (fun j => S 2 (8 * e + j)) (i - 9)) = if i < 9 then tr 9 (fun j => S 1 (9 * f + j)) i else tr 8 (fun j => S 2 (8 * f + j)) (i - 9)) : ¬ df_b S e f i = true := by
  by_cases h : i < 9
  · rw [if_pos h, if_pos h, tr_at h, tr_at h] at c; exact df_f1 h c
  · rw [if_neg h, if_neg h, tr_at (by omega), tr_at (by omega)] at c
    refine df_f2 h ?_
    rw [show 8 * e + i - 9 = 8 * e + (i - 9) from by omega, show 8 * f + i - 9 = 8 * f + (i - 9) from by omega]; exact c
theorem df_tn {S : sS} {e f i : Nat} (hi : i < 17) (c : ¬ (if i < 9 then tr 9 (fun j => S 1 (9 * e + j)) i else tr 8 (fun j => S 2 (8 * e + j)) (i - 9)) = if i < 9 then tr 9 (fun j => S 1 (9 * f + j)) i else tr 8 (fun j => S 2 (8 * f + j)) (i - 9)) : df_b S e f i = true := by
  by_cases h : i < 9
  · rw [if_pos h, if_pos h, tr_at h, tr_at h] at c; exact df_t1 h c
  · rw [if_neg h, if_neg h, tr_at (by omega), tr_at (by omega)] at c
    refine df_t2 h ?_
    rw [show 8 * e + i - 9 = 8 * e + (i - 9) from by omega, show 8 * f + i - 9 = 8 * f + (i - 9) from by omega]; exact c
set_option maxHeartbeats 4000000 in
set_option maxRecDepth 100000 in
theorem c_differs (l : Launch) (G : mG) (M : mM) (L : Nat → Nat → Nat) (S : sS) (cs ar : Nat → Int64) (J : eJ) (hE : EV G L S cs ar J M) (ne nn nc nl ht : Nat) (hN : NM S ne nn nc nl ht) (x y k : Int32) : Ct l yX6_differs cX6_differs 8 (some FieldType.int) (mm_r 3 0 0) G [.ref (L 0 0), .int x, .int y, .int k] M (fun r M1 => r = some (.int (sp_differs S x y k)) ∧ M = M1) := by
  refine Ct.of (by decide) (Nat.le_of_ble_eq_true rfl) ?_
  intro p e s m args below meth c ls Q X hin hl hw hQ
  have hx := X.1
  have hb := X.2.1
  have hl : lv_has ls 8 [(0, .ref (L 0 0)), (1, .int x), (2, .int y), (3, .int k)] := hl
  obtain ⟨hN0, hN1, hN2, hN7, hN8, hN12, hN13, hN18, hN19, hN5, hN6⟩ := id hN
  have h0b : cl (S 0 0) = ne := by rw [hN0, cl_n (by omega)]
  have h7b : cl (S 7 0) = nn := by rw [hN7, cl_n (by omega)]
  have h12b : cl (S 12 0) = nc := by rw [hN12, cl_n (by omega)]
  have h18b : cl (S 18 0) = nl := by rw [hN18, cl_n (by omega)]
  have h5b : cl (S 5 0) = ht := by rw [hN5, cl_n (by omega)]
  refine lv_aload_n hx hb dX6_differs_0 rfl (lv_at hl 0 rfl) ?_
  refine lv_iload_n hx hb dX6_differs_1 rfl (lv_at hl 1 rfl) ?_
  refine mm_callV (As := [.int x]) (rest := []) X hw (c_editionAt l G _ L _ _ _ _ hE ne nn nc nl ht hN (x)) (hE.k0) rfl wd_X6_77 ⟨Nat.le_of_ble_eq_true rfl, Nat.le_of_ble_eq_true rfl⟩ ⟨Nat.le_of_ble_eq_true rfl, Nat.le_of_ble_eq_true rfl⟩ rfl rfl (Nat.le_of_ble_eq_true rfl) hl.1 dX6_differs_2 (fun v9 M9 H9 locs9 hp9 hw => ?_)
  obtain ⟨rfl, rfl⟩ := hp9
  refine W.eq (g2 := F0 m 5 ls [va_rf (atR (S 0 0) (L 10) (x))]) rfl ?_
  by_cases c2 : 0 ≤ x ∧ x < S 0 0
  · have l2 : cl x < cl (S 0 0) := by rw [h0b]; exact cl_lt hN0 (by omega) c2
    refine mm_rfS (atR_s c2) ?_
    refine lv_astore (lv' := [(4, .ref (L 10 (cl x))), (0, .ref (L 0 0)), (1, .int x), (2, .int y), (3, .int k)]) hx hb dX6_differs_5 hl (by decide) rfl (fun ls hl => ?_)
    refine lv_aload_n hx hb dX6_differs_7 rfl (lv_at hl 1 rfl) ?_
    refine lv_iload_n hx hb dX6_differs_8 rfl (lv_at hl 3 rfl) ?_
    refine mm_callV (As := [.int y]) (rest := []) X hw (c_editionAt l G _ L _ _ _ _ hE ne nn nc nl ht hN (y)) (hE.k0) rfl wd_X6_77 ⟨Nat.le_of_ble_eq_true rfl, Nat.le_of_ble_eq_true rfl⟩ ⟨Nat.le_of_ble_eq_true rfl, Nat.le_of_ble_eq_true rfl⟩ rfl rfl (Nat.le_of_ble_eq_true rfl) hl.1 dX6_differs_9 (fun v9 M9 H9 locs9 hp9 hw => ?_)
    obtain ⟨rfl, rfl⟩ := hp9
    refine W.eq (g2 := F0 m 12 ls [va_rf (atR (S 0 0) (L 10) (y))]) rfl ?_
    by_cases c9 : 0 ≤ y ∧ y < S 0 0
    · have l9 : cl y < cl (S 0 0) := by rw [h0b]; exact cl_lt hN0 (by omega) c9
      refine mm_rfS (atR_s c9) ?_
      refine lv_astore (lv' := [(5, .ref (L 10 (cl y))), (4, .ref (L 10 (cl x))), (0, .ref (L 0 0)), (1, .int x), (2, .int y), (3, .int k)]) hx hb dX6_differs_12 hl (by decide) rfl (fun ls hl => ?_)
      refine lv_aload hx hb dX6_differs_14 (lv_at hl 1 rfl) ?_
      refine lv_ifnull hx hb dX6_differs_16 ?_
      refine lv_aload hx hb dX6_differs_19 (lv_at hl 0 rfl) ?_
      refine lv_ifnonnull (tgt := 27) hx hb dX6_differs_21 (by decide) ?_
      refine lv_iconst (v := 0) hx hb dX6_differs_27 (by decide) ?_
      refine lv_istore (lv' := [(6, .int 0), (5, .ref (L 10 (cl y))), (4, .ref (L 10 (cl x))), (0, .ref (L 0 0)), (1, .int x), (2, .int y), (3, .int k)]) hx hb dX6_differs_28 hl (by decide) rfl (fun ls hl => ?_)
      refine lv_iconst (v := 0) hx hb dX6_differs_30 (by decide) ?_
      refine lv_istore (lv' := [(7, .int 0), (6, .int 0), (5, .ref (L 10 (cl y))), (4, .ref (L 10 (cl x))), (0, .ref (L 0 0)), (1, .int x), (2, .int y), (3, .int k)]) hx hb dX6_differs_31 hl (by decide) rfl (fun ls hl => ?_)
      have loop : ∀ (n : Nat) (i : Nat) (q : Int32) (H1 : Heap) (locs1 : List Loc) (ls1 : Array Slot), (hk : i ≤ 17) → (hn : 18 ≤ i + n) → (hv : df_go (df_b S (cl x) (cl y)) k (17 - i) i q = df_go (df_b S (cl x) (cl y)) k 17 0 0) → mm_W G.1 vwCl (ct_A M s.heap.size) s.heap M H1 locs1 → lv_has ls1 8 [(0, .ref (L 0 0)), (3, .int k), (4, .ref (L 10 (cl x))), (5, .ref (L 10 (cl y))), (6, .int q), (7, .int (nI i))] → W p l e (mm_r 3 0 0) s m args below meth c H1 locs1 0 0 Q (F0 m 33 ls1 []) := by
        intro n
        induction n with
        | zero => intro i q H1 locs1 ls hk hn hv hw hl; exact absurd hn (by omega)
        | succ n ih =>
          intro i q H1 locs1 ls hk hn hv hw hl
          refine lv_iload hx hb dX6_differs_33 (lv_at hl 5 rfl) ?_
          refine lv_bipush (v := 17) hx hb dX6_differs_35 (by decide) ?_
          refine lv_icmp_ge (tgt := 75) hx hb dX6_differs_37 (by decide) (fun c37 => ?_) (fun c37 => ?_)
          · have hi17 : i = 17 := by have := nle (a := 17) (by decide) (by omega) c37; omega
            refine lv_iconst (v := (-1)) hx hb dX6_differs_75 (by decide) ?_
            exact mm_iret hQ X hw (⟨by rw [sp_differs, if_neg (fun h9 => h9 c2), if_neg (fun h9 => h9 c9), ← hv, hi17]; rfl, rfl⟩) (Nat.le_of_ble_eq_true rfl) (Nat.le_of_ble_eq_true rfl) dX6_differs_76
          · have hi17 : i < 17 := nnle (a := 17) (by decide) (by omega) c37
            rw [show 17 - i = (16 - i) + 1 from by omega, df_go_s] at hv
            refine lv_aload hx hb dX6_differs_40 (lv_at hl 2 rfl) ?_
            refine lv_iload hx hb dX6_differs_42 (lv_at hl 5 rfl) ?_
            refine mm_callV (As := [.int (nI i)]) (rest := []) X hw (c_traitOf l G _ _ _ _ _ _ _ _ _ i hi17 (hE.k10 l2) (hE.k11 l2) (hE.k12 l2)) (hE.k10 l2) rfl wd_X6_99 ⟨Nat.le_of_ble_eq_true rfl, Nat.le_of_ble_eq_true rfl⟩ ⟨Nat.le_of_ble_eq_true rfl, Nat.le_of_ble_eq_true rfl⟩ rfl rfl (Nat.le_of_ble_eq_true rfl) hl.1 dX6_differs_44 (fun v9 M9 H9 locs9 hp9 hw => ?_)
            obtain ⟨rfl, rfl⟩ := hp9
            refine W.eq (g2 := F0 m 47 ls [.int (if i < 9 then tr 9 (fun j => S 1 (9 * (cl x) + j)) i else tr 8 (fun j => S 2 (8 * (cl x) + j)) (i - 9))]) rfl ?_
            refine lv_aload hx hb dX6_differs_47 (lv_at hl 3 rfl) ?_
            refine lv_iload hx hb dX6_differs_49 (lv_at hl 5 rfl) ?_
            refine mm_callV (As := [.int (nI i)]) (rest := [.int (if i < 9 then tr 9 (fun j => S 1 (9 * (cl x) + j)) i else tr 8 (fun j => S 2 (8 * (cl x) + j)) (i - 9))]) X hw (c_traitOf l G _ _ _ _ _ _ _ _ _ i hi17 (hE.k10 l9) (hE.k11 l9) (hE.k12 l9)) (hE.k10 l9) rfl wd_X6_99 ⟨Nat.le_of_ble_eq_true rfl, Nat.le_of_ble_eq_true rfl⟩ ⟨Nat.le_of_ble_eq_true rfl, Nat.le_of_ble_eq_true rfl⟩ rfl rfl (Nat.le_of_ble_eq_true rfl) hl.1 dX6_differs_51 (fun v9 M9 H9 locs9 hp9 hw => ?_)
            obtain ⟨rfl, rfl⟩ := hp9
            refine W.eq (g2 := F0 m 54 ls [.int (if i < 9 then tr 9 (fun j => S 1 (9 * (cl y) + j)) i else tr 8 (fun j => S 2 (8 * (cl y) + j)) (i - 9)), .int (if i < 9 then tr 9 (fun j => S 1 (9 * (cl x) + j)) i else tr 8 (fun j => S 2 (8 * (cl x) + j)) (i - 9))]) rfl ?_
            refine lv_icmp_eq (tgt := 69) hx hb dX6_differs_54 (by decide) (fun c54 => ?_) (fun c54 => ?_)
            · rw [if_neg (df_tr hi17 c54)] at hv
              refine lv_iinc (v := nI (i + 1)) (lv' := [(7, .int (nI (i + 1))), (0, .ref (L 0 0)), (3, .int k), (4, .ref (L 10 (cl x))), (5, .ref (L 10 (cl y))), (6, .int q)]) hx hb dX6_differs_69 hl (k := 5) rfl (nI_s i) (by decide) rfl (fun ls hl => ?_)
              refine lv_goto (tgt := 33) hx hb dX6_differs_72 (by decide) ?_
              exact ih (i + 1) (q) _ _ _ (by omega) (by omega) (by rw [show 17 - (i + 1) = 16 - i from by omega]; exact hv) hw  (lv_sub hl [1, 2, 3, 4, 5, 0] rfl)
            · rw [if_pos (df_tn hi17 c54)] at hv
              refine lv_iload hx hb dX6_differs_57 (lv_at hl 4 rfl) ?_
              refine lv_iload_n hx hb dX6_differs_59 rfl (lv_at hl 1 rfl) ?_
              refine lv_icmp_ne (tgt := 66) hx hb dX6_differs_60 (by decide) (fun c60 => ?_) (fun c60 => ?_)
              · rw [if_neg c60] at hv
                refine lv_iinc (v := q + 1) (lv' := [(6, .int (q + 1)), (0, .ref (L 0 0)), (3, .int k), (4, .ref (L 10 (cl x))), (5, .ref (L 10 (cl y))), (7, .int (nI i))]) hx hb dX6_differs_66 hl (k := 4) rfl (rfl) (by decide) rfl (fun ls hl => ?_)
                refine lv_iinc (v := nI (i + 1)) (lv' := [(7, .int (nI (i + 1))), (6, .int (q + 1)), (0, .ref (L 0 0)), (3, .int k), (4, .ref (L 10 (cl x))), (5, .ref (L 10 (cl y)))]) hx hb dX6_differs_69 hl (k := 5) rfl (nI_s i) (by decide) rfl (fun ls hl => ?_)
                refine lv_goto (tgt := 33) hx hb dX6_differs_72 (by decide) ?_
                exact ih (i + 1) (q + 1) _ _ _ (by omega) (by omega) (by rw [show 17 - (i + 1) = 16 - i from by omega]; exact hv) hw  (lv_sub hl [2, 3, 4, 5, 1, 0] rfl)
              · rw [if_pos c60] at hv
                refine lv_iload hx hb dX6_differs_63 (lv_at hl 5 rfl) ?_
                exact mm_iret hQ X hw (⟨by rw [sp_differs, if_neg (fun h9 => h9 c2), if_neg (fun h9 => h9 c9), ← hv], rfl⟩) (Nat.le_of_ble_eq_true rfl) (Nat.le_of_ble_eq_true rfl) dX6_differs_65
      exact loop 18 0 0 _ _ _ (by omega) (by omega) (rfl) hw  (lv_sub hl [4, 7, 3, 2, 1, 0] rfl)
    · refine mm_rfN (atR_n c9) ?_
      refine lv_astoreN (lv' := [(5, .null), (4, .ref (L 10 (cl x))), (0, .ref (L 0 0)), (1, .int x), (2, .int y), (3, .int k)]) hx hb dX6_differs_12 hl (by decide) rfl (fun ls hl => ?_)
      refine lv_aload hx hb dX6_differs_14 (lv_at hl 1 rfl) ?_
      refine lv_ifnull hx hb dX6_differs_16 ?_
      refine lv_aloadN hx hb dX6_differs_19 (lv_at hl 0 rfl) ?_
      refine lv_ifnonnullN hx hb dX6_differs_21 ?_
      refine lv_bipush (v := (-2)) hx hb dX6_differs_24 (by decide) ?_
      exact mm_iret hQ X hw (⟨by rw [sp_differs, if_neg (fun h9 => h9 c2), if_pos c9], rfl⟩) (Nat.le_of_ble_eq_true rfl) (Nat.le_of_ble_eq_true rfl) dX6_differs_26
  · refine mm_rfN (atR_n c2) ?_
    refine lv_astoreN (lv' := [(4, .null), (0, .ref (L 0 0)), (1, .int x), (2, .int y), (3, .int k)]) hx hb dX6_differs_5 hl (by decide) rfl (fun ls hl => ?_)
    refine lv_aload_n hx hb dX6_differs_7 rfl (lv_at hl 1 rfl) ?_
    refine lv_iload_n hx hb dX6_differs_8 rfl (lv_at hl 3 rfl) ?_
    refine mm_callV (As := [.int y]) (rest := []) X hw (c_editionAt l G _ L _ _ _ _ hE ne nn nc nl ht hN (y)) (hE.k0) rfl wd_X6_77 ⟨Nat.le_of_ble_eq_true rfl, Nat.le_of_ble_eq_true rfl⟩ ⟨Nat.le_of_ble_eq_true rfl, Nat.le_of_ble_eq_true rfl⟩ rfl rfl (Nat.le_of_ble_eq_true rfl) hl.1 dX6_differs_9 (fun v9 M9 H9 locs9 hp9 hw => ?_)
    obtain ⟨rfl, rfl⟩ := hp9
    refine W.eq (g2 := F0 m 12 ls [va_rf (atR (S 0 0) (L 10) (y))]) rfl ?_
    by_cases c9 : 0 ≤ y ∧ y < S 0 0
    · have l9 : cl y < cl (S 0 0) := by rw [h0b]; exact cl_lt hN0 (by omega) c9
      refine mm_rfS (atR_s c9) ?_
      refine lv_astore (lv' := [(5, .ref (L 10 (cl y))), (4, .null), (0, .ref (L 0 0)), (1, .int x), (2, .int y), (3, .int k)]) hx hb dX6_differs_12 hl (by decide) rfl (fun ls hl => ?_)
      refine lv_aloadN hx hb dX6_differs_14 (lv_at hl 1 rfl) ?_
      refine lv_ifnullN (tgt := 24) hx hb dX6_differs_16 (by decide) ?_
      refine lv_bipush (v := (-2)) hx hb dX6_differs_24 (by decide) ?_
      exact mm_iret hQ X hw (⟨by rw [sp_differs, if_pos c2], rfl⟩) (Nat.le_of_ble_eq_true rfl) (Nat.le_of_ble_eq_true rfl) dX6_differs_26
    · refine mm_rfN (atR_n c9) ?_
      refine lv_astoreN (lv' := [(5, .null), (4, .null), (0, .ref (L 0 0)), (1, .int x), (2, .int y), (3, .int k)]) hx hb dX6_differs_12 hl (by decide) rfl (fun ls hl => ?_)
      refine lv_aloadN hx hb dX6_differs_14 (lv_at hl 1 rfl) ?_
      refine lv_ifnullN (tgt := 24) hx hb dX6_differs_16 (by decide) ?_
      refine lv_bipush (v := (-2)) hx hb dX6_differs_24 (by decide) ?_
      exact mm_iret hQ X hw (⟨by rw [sp_differs, if_pos c2], rfl⟩) (Nat.le_of_ble_eq_true rfl) (Nat.le_of_ble_eq_true rfl) dX6_differs_26
set_option maxHeartbeats 4000000 in
set_option maxRecDepth 100000 in
theorem c_build (l : Launch) (G : mG) (M : mM) (L : Nat → Nat → Nat) (S : sS) (cs ar : Nat → Int64) (J : eJ) (hE : EV G L S cs ar J M) (ne nn nc nl ht : Nat) (hN : NM S ne nn nc nl ht) (x y : Int32) : Ct l yX6_build cX6_build 4 (some FieldType.int) (mm_r 2 0 0) G [.ref (L 0 0), .int x, .int y] M (fun r M1 => r = some (.int (sp_build S x y).1) ∧ ∃ J1, J1.1 = J.1 ∧ EV G L (sp_build S x y).2 cs ar J1 M1) := by
  refine Ct.of (by decide) (Nat.le_of_ble_eq_true rfl) ?_
  intro p e s m args below meth c ls Q X hin hl hw hQ
  have hx := X.1
  have hb := X.2.1
  have hl : lv_has ls 4 [(0, .ref (L 0 0)), (1, .int x), (2, .int y)] := hl
  obtain ⟨hN0, hN1, hN2, hN7, hN8, hN12, hN13, hN18, hN19, hN5, hN6⟩ := id hN
  have h0b : cl (S 0 0) = ne := by rw [hN0, cl_n (by omega)]
  have h7b : cl (S 7 0) = nn := by rw [hN7, cl_n (by omega)]
  have h12b : cl (S 12 0) = nc := by rw [hN12, cl_n (by omega)]
  have h18b : cl (S 18 0) = nl := by rw [hN18, cl_n (by omega)]
  have h5b : cl (S 5 0) = ht := by rw [hN5, cl_n (by omega)]
  refine lv_aload_n hx hb dX6_build_0 rfl (lv_at hl 0 rfl) ?_
  refine lv_iload_n hx hb dX6_build_1 rfl (lv_at hl 1 rfl) ?_
  refine mm_callV (As := [.int x]) (rest := []) X hw (c_nodeAt l G _ L _ _ _ _ hE ne nn nc nl ht hN (x)) (hE.k0) rfl wd_X6_109 ⟨Nat.le_of_ble_eq_true rfl, Nat.le_of_ble_eq_true rfl⟩ ⟨Nat.le_of_ble_eq_true rfl, Nat.le_of_ble_eq_true rfl⟩ rfl rfl (Nat.le_of_ble_eq_true rfl) hl.1 dX6_build_2 (fun v9 M9 H9 locs9 hp9 hw => ?_)
  obtain ⟨rfl, rfl⟩ := hp9
  refine W.eq (g2 := F0 m 5 ls [va_rf (atR (S 7 0) (L 20) (x))]) rfl ?_
  by_cases c2 : 0 ≤ x ∧ x < S 7 0
  · have l2 : cl x < cl (S 7 0) := by rw [h7b]; exact cl_lt hN7 (by omega) c2
    refine mm_rfS (atR_s c2) ?_
    refine lv_astore_n (lv' := [(3, .ref (L 20 (cl x))), (0, .ref (L 0 0)), (1, .int x), (2, .int y)]) hx hb dX6_build_5 rfl hl (by decide) rfl (fun ls hl => ?_)
    refine lv_aload_n hx hb dX6_build_6 rfl (lv_at hl 0 rfl) ?_
    refine lv_ifnull hx hb dX6_build_7 ?_
    refine lv_iload_n hx hb dX6_build_10 rfl (lv_at hl 3 rfl) ?_
    refine mm_callS (As := [.int y]) (rest := []) X hw (c_isBuild l G _ (y)) wd_X6_102 ⟨Nat.le_of_ble_eq_true rfl, Nat.le_of_ble_eq_true rfl⟩ ⟨Nat.le_of_ble_eq_true rfl, Nat.le_of_ble_eq_true rfl⟩ rfl rfl (Nat.le_of_ble_eq_true rfl) hl.1 dX6_build_11 (fun v9 M9 H9 locs9 hp9 hw => ?_)
    obtain ⟨rfl, rfl⟩ := hp9
    refine W.eq (g2 := F0 m 14 ls [.int (bI (0 ≤ y ∧ y ≤ 1023))]) rfl ?_
    refine mm_ifneB (tgt := 20) hx hb dX6_build_14 (by decide) (fun c14 => ?_) (fun c14 => ?_)
    · refine lv_aload_n hx hb dX6_build_20 rfl (lv_at hl 0 rfl) ?_
      refine mm_callV (As := []) (rest := []) X hw (c_isHalted l G _ _ _ _ _ _ (hE.k20 l2)) (hE.k20 l2) rfl wd_X6_113 ⟨Nat.le_of_ble_eq_true rfl, Nat.le_of_ble_eq_true rfl⟩ ⟨Nat.le_of_ble_eq_true rfl, Nat.le_of_ble_eq_true rfl⟩ rfl rfl (Nat.le_of_ble_eq_true rfl) hl.1 dX6_build_21 (fun v9 M9 H9 locs9 hp9 hw => ?_)
      obtain ⟨rfl, rfl⟩ := hp9
      refine W.eq (g2 := F0 m 24 ls [.int (bI (¬ S 10 ((cl x)) = -1))]) rfl ?_
      refine mm_ifeqB (tgt := 30) hx hb dX6_build_24 (by decide) (fun c24 => ?_) (fun c24 => ?_)
      · refine lv_aload_n hx hb dX6_build_30 rfl (lv_at hl 0 rfl) ?_
        refine lv_iload_n hx hb dX6_build_31 rfl (lv_at hl 3 rfl) ?_
        refine pf_X6_117 X hw (hE.k20 l2) (Nat.le_of_ble_eq_true rfl) dX6_build_32 (fun H9 locs9 hw => ?_)
        obtain ⟨M_1, eM_1⟩ : ∃ z, z = mm_up M (L 20 (cl x)) (.inr (5, [.int (S 8 ((cl x))), .int y, .int (J.1 (cl x)), .int (S 10 ((cl x)))])) := ⟨_, rfl⟩
        have hw : mm_W G.1 vwCl (ct_A M s.heap.size) s.heap M_1 H9 locs9 := by rw [eM_1]; exact hw
        have hE : EV G L (va_up S 9 (upd (S 9) ((cl x)) (y))) (cs) (ar) (J) M_1 := hE.w_bd l2 (y) eM_1
        refine lv_iconst (v := 1) hx hb dX6_build_35 (by decide) ?_
        exact mm_iret hQ X hw (by have e9 : sp_build S x y = (1, va_up S 9 (upd (S 9) ((cl x)) (y))) := (by rw [sp_build, if_neg (fun h9 => h9 c2), if_neg (fun h9 => h9 c14), if_neg c24]); rw [e9]; exact ⟨rfl, _, rfl, hE⟩) (Nat.le_of_ble_eq_true rfl) (Nat.le_of_ble_eq_true rfl) dX6_build_36
      · refine lv_bipush (v := (-3)) hx hb dX6_build_27 (by decide) ?_
        exact mm_iret hQ X hw (by have e9 : sp_build S x y = ((-3), S) := (by rw [sp_build, if_neg (fun h9 => h9 c2), if_neg (fun h9 => h9 c14), if_pos c24]); rw [e9]; exact ⟨rfl, _, rfl, hE⟩) (Nat.le_of_ble_eq_true rfl) (Nat.le_of_ble_eq_true rfl) dX6_build_29
    · refine lv_bipush (v := (-2)) hx hb dX6_build_17 (by decide) ?_
      exact mm_iret hQ X hw (by have e9 : sp_build S x y = ((-2), S) := (by rw [sp_build, if_neg (fun h9 => h9 c2), if_pos c14]); rw [e9]; exact ⟨rfl, _, rfl, hE⟩) (Nat.le_of_ble_eq_true rfl) (Nat.le_of_ble_eq_true rfl) dX6_build_19
  · refine mm_rfN (atR_n c2) ?_
    refine lv_astore_nN (lv' := [(3, .null), (0, .ref (L 0 0)), (1, .int x), (2, .int y)]) hx hb dX6_build_5 rfl hl (by decide) rfl (fun ls hl => ?_)
    refine lv_aload_nN hx hb dX6_build_6 rfl (lv_at hl 0 rfl) ?_
    refine lv_ifnullN (tgt := 17) hx hb dX6_build_7 (by decide) ?_
    refine lv_bipush (v := (-2)) hx hb dX6_build_17 (by decide) ?_
    exact mm_iret hQ X hw (by have e9 : sp_build S x y = ((-2), S) := (by rw [sp_build, if_pos c2]); rw [e9]; exact ⟨rfl, _, rfl, hE⟩) (Nat.le_of_ble_eq_true rfl) (Nat.le_of_ble_eq_true rfl) dX6_build_19
set_option maxHeartbeats 4000000 in
set_option maxRecDepth 100000 in
theorem c_halted (l : Launch) (G : mG) (M : mM) (L : Nat → Nat → Nat) (S : sS) (cs ar : Nat → Int64) (J : eJ) (hE : EV G L S cs ar J M) (ne nn nc nl ht : Nat) (hN : NM S ne nn nc nl ht) (x : Int32) : Ct l yX6_halted cX6_halted 3 (some FieldType.int) (mm_r 2 0 0) G [.ref (L 0 0), .int x] M (fun r M1 => r = some (.int (sp_halted S x)) ∧ M = M1) := by
  refine Ct.of (by decide) (Nat.le_of_ble_eq_true rfl) ?_
  intro p e s m args below meth c ls Q X hin hl hw hQ
  have hx := X.1
  have hb := X.2.1
  have hl : lv_has ls 3 [(0, .ref (L 0 0)), (1, .int x)] := hl
  obtain ⟨hN0, hN1, hN2, hN7, hN8, hN12, hN13, hN18, hN19, hN5, hN6⟩ := id hN
  have h0b : cl (S 0 0) = ne := by rw [hN0, cl_n (by omega)]
  have h7b : cl (S 7 0) = nn := by rw [hN7, cl_n (by omega)]
  have h12b : cl (S 12 0) = nc := by rw [hN12, cl_n (by omega)]
  have h18b : cl (S 18 0) = nl := by rw [hN18, cl_n (by omega)]
  have h5b : cl (S 5 0) = ht := by rw [hN5, cl_n (by omega)]
  refine lv_aload_n hx hb dX6_halted_0 rfl (lv_at hl 0 rfl) ?_
  refine lv_iload_n hx hb dX6_halted_1 rfl (lv_at hl 1 rfl) ?_
  refine mm_callV (As := [.int x]) (rest := []) X hw (c_nodeAt l G _ L _ _ _ _ hE ne nn nc nl ht hN (x)) (hE.k0) rfl wd_X6_109 ⟨Nat.le_of_ble_eq_true rfl, Nat.le_of_ble_eq_true rfl⟩ ⟨Nat.le_of_ble_eq_true rfl, Nat.le_of_ble_eq_true rfl⟩ rfl rfl (Nat.le_of_ble_eq_true rfl) hl.1 dX6_halted_2 (fun v9 M9 H9 locs9 hp9 hw => ?_)
  obtain ⟨rfl, rfl⟩ := hp9
  refine W.eq (g2 := F0 m 5 ls [va_rf (atR (S 7 0) (L 20) (x))]) rfl ?_
  by_cases c2 : 0 ≤ x ∧ x < S 7 0
  · have l2 : cl x < cl (S 7 0) := by rw [h7b]; exact cl_lt hN7 (by omega) c2
    refine mm_rfS (atR_s c2) ?_
    refine lv_astore_n (lv' := [(2, .ref (L 20 (cl x))), (0, .ref (L 0 0)), (1, .int x)]) hx hb dX6_halted_5 rfl hl (by decide) rfl (fun ls hl => ?_)
    refine lv_aload_n hx hb dX6_halted_6 rfl (lv_at hl 0 rfl) ?_
    refine lv_ifnonnull (tgt := 15) hx hb dX6_halted_7 (by decide) ?_
    refine lv_aload_n hx hb dX6_halted_15 rfl (lv_at hl 0 rfl) ?_
    refine gf_X6_137 X hw (hE.k20 l2) rfl dX6_halted_16 ?_
    exact mm_iret hQ X hw (⟨by rw [sp_halted, if_pos c2], rfl⟩) (Nat.le_of_ble_eq_true rfl) (Nat.le_of_ble_eq_true rfl) dX6_halted_19
  · refine mm_rfN (atR_n c2) ?_
    refine lv_astore_nN (lv' := [(2, .null), (0, .ref (L 0 0)), (1, .int x)]) hx hb dX6_halted_5 rfl hl (by decide) rfl (fun ls hl => ?_)
    refine lv_aload_nN hx hb dX6_halted_6 rfl (lv_at hl 0 rfl) ?_
    refine lv_ifnonnullN hx hb dX6_halted_7 ?_
    refine lv_bipush (v := (-2)) hx hb dX6_halted_10 (by decide) ?_
    refine lv_goto (tgt := 19) hx hb dX6_halted_12 (by decide) ?_
    exact mm_iret hQ X hw (⟨by rw [sp_halted, if_neg c2], rfl⟩) (Nat.le_of_ble_eq_true rfl) (Nat.le_of_ble_eq_true rfl) dX6_halted_19
set_option maxHeartbeats 4000000 in
set_option maxRecDepth 100000 in
theorem c_logged (l : Launch) (G : mG) (M : mM) (L : Nat → Nat → Nat) (S : sS) (cs ar : Nat → Int64) (J : eJ) (hE : EV G L S cs ar J M) (ne nn nc nl ht : Nat) (hN : NM S ne nn nc nl ht) (x w : Int32) : Ct l yX6_logged cX6_logged 4 (some FieldType.int) (mm_r 2 0 0) G [.ref (L 0 0), .int x, .int w] M (fun r M1 => r = some (.int (sp_logged S x w)) ∧ M = M1) := by
  refine Ct.of (by decide) (Nat.le_of_ble_eq_true rfl) ?_
  intro p e s m args below meth c ls Q X hin hl hw hQ
  have hx := X.1
  have hb := X.2.1
  have hl : lv_has ls 4 [(0, .ref (L 0 0)), (1, .int x), (2, .int w)] := hl
  obtain ⟨hN0, hN1, hN2, hN7, hN8, hN12, hN13, hN18, hN19, hN5, hN6⟩ := id hN
  have h0b : cl (S 0 0) = ne := by rw [hN0, cl_n (by omega)]
  have h7b : cl (S 7 0) = nn := by rw [hN7, cl_n (by omega)]
  have h12b : cl (S 12 0) = nc := by rw [hN12, cl_n (by omega)]
  have h18b : cl (S 18 0) = nl := by rw [hN18, cl_n (by omega)]
  have h5b : cl (S 5 0) = ht := by rw [hN5, cl_n (by omega)]
  refine lv_aload_n hx hb dX6_logged_0 rfl (lv_at hl 0 rfl) ?_
  refine lv_iload_n hx hb dX6_logged_1 rfl (lv_at hl 1 rfl) ?_
  refine mm_callV (As := [.int x]) (rest := []) X hw (c_entryAt l G _ L _ _ _ _ hE ne nn nc nl ht hN (x)) (hE.k0) rfl wd_X6_188 ⟨Nat.le_of_ble_eq_true rfl, Nat.le_of_ble_eq_true rfl⟩ ⟨Nat.le_of_ble_eq_true rfl, Nat.le_of_ble_eq_true rfl⟩ rfl rfl (Nat.le_of_ble_eq_true rfl) hl.1 dX6_logged_2 (fun v9 M9 H9 locs9 hp9 hw => ?_)
  obtain ⟨rfl, rfl⟩ := hp9
  refine W.eq (g2 := F0 m 5 ls [va_rf (atR (S 18 0) (L 40) (x))]) rfl ?_
  by_cases c2 : 0 ≤ x ∧ x < S 18 0
  · have l2 : cl x < cl (S 18 0) := by rw [h18b]; exact cl_lt hN18 (by omega) c2
    refine mm_rfS (atR_s c2) ?_
    refine lv_astore_n (lv' := [(3, .ref (L 40 (cl x))), (0, .ref (L 0 0)), (1, .int x), (2, .int w)]) hx hb dX6_logged_5 rfl hl (by decide) rfl (fun ls hl => ?_)
    refine lv_aload_n hx hb dX6_logged_6 rfl (lv_at hl 0 rfl) ?_
    refine lv_ifnonnull (tgt := 13) hx hb dX6_logged_7 (by decide) ?_
    refine lv_iload_n hx hb dX6_logged_13 rfl (lv_at hl 3 rfl) ?_
    rcases mm_sw w 0 3 (by decide) (by decide) with ⟨k9, hk9, c14⟩ | c14
    · rcases (show k9 = 0 ∨ k9 = 1 ∨ k9 = 2 by omega) with rfl | rfl | rfl
      · have c14 : w = 0 := c14
        refine lv_tableIn (off := 26) (tgt := 40) hx hb dX6_logged_14 (by rw [c14]; decide) (by rw [c14]; decide) (by rw [c14]; rfl) (by decide) ?_
        refine lv_aload_n hx hb dX6_logged_40 rfl (lv_at hl 0 rfl) ?_
        refine gf_X6_192 X hw (hE.k40 l2) rfl dX6_logged_41 ?_
        exact mm_iret hQ X hw (⟨by rw [sp_logged, if_neg (fun h9 => h9 c2), if_pos c14], rfl⟩) (Nat.le_of_ble_eq_true rfl) (Nat.le_of_ble_eq_true rfl) dX6_logged_44
      · have c14 : w = 1 := c14
        refine lv_tableIn (off := 31) (tgt := 45) hx hb dX6_logged_14 (by rw [c14]; decide) (by rw [c14]; decide) (by rw [c14]; rfl) (by decide) ?_
        refine lv_aload_n hx hb dX6_logged_45 rfl (lv_at hl 0 rfl) ?_
        refine gf_X6_195 X hw (hE.k40 l2) rfl dX6_logged_46 ?_
        exact mm_iret hQ X hw (⟨by rw [sp_logged, if_neg (fun h9 => h9 c2), if_neg (by rw [c14]; decide), if_pos c14], rfl⟩) (Nat.le_of_ble_eq_true rfl) (Nat.le_of_ble_eq_true rfl) dX6_logged_49
      · have c14 : w = 2 := c14
        refine lv_tableIn (off := 36) (tgt := 50) hx hb dX6_logged_14 (by rw [c14]; decide) (by rw [c14]; decide) (by rw [c14]; rfl) (by decide) ?_
        refine lv_aload_n hx hb dX6_logged_50 rfl (lv_at hl 0 rfl) ?_
        refine gf_X6_175 X hw (hE.k40 l2) rfl dX6_logged_51 ?_
        exact mm_iret hQ X hw (⟨by rw [sp_logged, if_neg (fun h9 => h9 c2), if_neg (by rw [c14]; decide), if_neg (by rw [c14]; decide), if_pos c14], rfl⟩) (Nat.le_of_ble_eq_true rfl) (Nat.le_of_ble_eq_true rfl) dX6_logged_54
    · refine lv_tableOut (tgt := 55) hx hb dX6_logged_14 c14 (by decide) ?_
      refine lv_bipush (v := (-2)) hx hb dX6_logged_55 (by decide) ?_
      exact mm_iret hQ X hw (⟨by rw [sp_logged, if_neg (fun h9 => h9 c2), if_neg (by intro h9; rw [h9] at c14; revert c14; decide), if_neg (by intro h9; rw [h9] at c14; revert c14; decide), if_neg (by intro h9; rw [h9] at c14; revert c14; decide)], rfl⟩) (Nat.le_of_ble_eq_true rfl) (Nat.le_of_ble_eq_true rfl) dX6_logged_57
  · refine mm_rfN (atR_n c2) ?_
    refine lv_astore_nN (lv' := [(3, .null), (0, .ref (L 0 0)), (1, .int x), (2, .int w)]) hx hb dX6_logged_5 rfl hl (by decide) rfl (fun ls hl => ?_)
    refine lv_aload_nN hx hb dX6_logged_6 rfl (lv_at hl 0 rfl) ?_
    refine lv_ifnonnullN hx hb dX6_logged_7 ?_
    refine lv_bipush (v := (-2)) hx hb dX6_logged_10 (by decide) ?_
    exact mm_iret hQ X hw (⟨by rw [sp_logged, if_pos c2], rfl⟩) (Nat.le_of_ble_eq_true rfl) (Nat.le_of_ble_eq_true rfl) dX6_logged_12
set_option maxHeartbeats 4000000 in
set_option maxRecDepth 100000 in
theorem c_count (l : Launch) (G : mG) (M : mM) (L : Nat → Nat → Nat) (S : sS) (cs ar : Nat → Int64) (J : eJ) (hE : EV G L S cs ar J M) (ne nn nc nl ht : Nat) (hN : NM S ne nn nc nl ht) (w : Int32) : Ct l yX6_count cX6_count 2 (some FieldType.int) (mm_r 0 0 0) G [.ref (L 0 0), .int w] M (fun r M1 => r = some (.int (sp_count S w)) ∧ M = M1) := by
  refine Ct.of (by decide) (Nat.le_of_ble_eq_true rfl) ?_
  intro p e s m args below meth c ls Q X hin hl hw hQ
  have hx := X.1
  have hb := X.2.1
  have hl : lv_has ls 2 [(0, .ref (L 0 0)), (1, .int w)] := hl
  obtain ⟨hN0, hN1, hN2, hN7, hN8, hN12, hN13, hN18, hN19, hN5, hN6⟩ := id hN
  have h0b : cl (S 0 0) = ne := by rw [hN0, cl_n (by omega)]
  have h7b : cl (S 7 0) = nn := by rw [hN7, cl_n (by omega)]
  have h12b : cl (S 12 0) = nc := by rw [hN12, cl_n (by omega)]
  have h18b : cl (S 18 0) = nl := by rw [hN18, cl_n (by omega)]
  have h5b : cl (S 5 0) = ht := by rw [hN5, cl_n (by omega)]
  refine lv_iload_n hx hb dX6_count_0 rfl (lv_at hl 1 rfl) ?_
  rcases mm_sw w 0 5 (by decide) (by decide) with ⟨k9, hk9, c1⟩ | c1
  · rcases (show k9 = 0 ∨ k9 = 1 ∨ k9 = 2 ∨ k9 = 3 ∨ k9 = 4 by omega) with rfl | rfl | rfl | rfl | rfl
    · have c1 : w = 0 := c1
      refine lv_tableIn (off := 35) (tgt := 36) hx hb dX6_count_1 (by rw [c1]; decide) (by rw [c1]; decide) (by rw [c1]; rfl) (by decide) ?_
      refine lv_aload_n hx hb dX6_count_36 rfl (lv_at hl 0 rfl) ?_
      refine gf_X6_47 X hw (hE.k0) rfl dX6_count_37 ?_
      exact mm_iret hQ X hw (⟨by rw [sp_count, if_pos c1], rfl⟩) (Nat.le_of_ble_eq_true rfl) (Nat.le_of_ble_eq_true rfl) dX6_count_40
    · have c1 : w = 1 := c1
      refine lv_tableIn (off := 40) (tgt := 41) hx hb dX6_count_1 (by rw [c1]; decide) (by rw [c1]; decide) (by rw [c1]; rfl) (by decide) ?_
      refine lv_aload_n hx hb dX6_count_41 rfl (lv_at hl 0 rfl) ?_
      refine gf_X6_51 X hw (hE.k0) rfl dX6_count_42 ?_
      exact mm_iret hQ X hw (⟨by rw [sp_count, if_neg (by rw [c1]; decide), if_pos c1], rfl⟩) (Nat.le_of_ble_eq_true rfl) (Nat.le_of_ble_eq_true rfl) dX6_count_45
    · have c1 : w = 2 := c1
      refine lv_tableIn (off := 45) (tgt := 46) hx hb dX6_count_1 (by rw [c1]; decide) (by rw [c1]; decide) (by rw [c1]; rfl) (by decide) ?_
      refine lv_aload_n hx hb dX6_count_46 rfl (lv_at hl 0 rfl) ?_
      refine gf_X6_54 X hw (hE.k0) rfl dX6_count_47 ?_
      exact mm_iret hQ X hw (⟨by rw [sp_count, if_neg (by rw [c1]; decide), if_neg (by rw [c1]; decide), if_pos c1], rfl⟩) (Nat.le_of_ble_eq_true rfl) (Nat.le_of_ble_eq_true rfl) dX6_count_50
    · have c1 : w = 3 := c1
      refine lv_tableIn (off := 50) (tgt := 51) hx hb dX6_count_1 (by rw [c1]; decide) (by rw [c1]; decide) (by rw [c1]; rfl) (by decide) ?_
      refine lv_aload_n hx hb dX6_count_51 rfl (lv_at hl 0 rfl) ?_
      refine gf_X6_57 X hw (hE.k0) rfl dX6_count_52 ?_
      exact mm_iret hQ X hw (⟨by rw [sp_count, if_neg (by rw [c1]; decide), if_neg (by rw [c1]; decide), if_neg (by rw [c1]; decide), if_pos c1], rfl⟩) (Nat.le_of_ble_eq_true rfl) (Nat.le_of_ble_eq_true rfl) dX6_count_55
    · have c1 : w = 4 := c1
      refine lv_tableIn (off := 55) (tgt := 56) hx hb dX6_count_1 (by rw [c1]; decide) (by rw [c1]; decide) (by rw [c1]; rfl) (by decide) ?_
      refine lv_aload_n hx hb dX6_count_56 rfl (lv_at hl 0 rfl) ?_
      refine gf_X6_60 X hw (hE.k0) rfl dX6_count_57 ?_
      exact mm_iret hQ X hw (⟨by rw [sp_count, if_neg (by rw [c1]; decide), if_neg (by rw [c1]; decide), if_neg (by rw [c1]; decide), if_neg (by rw [c1]; decide), if_pos c1], rfl⟩) (Nat.le_of_ble_eq_true rfl) (Nat.le_of_ble_eq_true rfl) dX6_count_60
  · refine lv_tableOut (tgt := 61) hx hb dX6_count_1 c1 (by decide) ?_
    refine lv_bipush (v := (-2)) hx hb dX6_count_61 (by decide) ?_
    exact mm_iret hQ X hw (⟨by rw [sp_count, if_neg (by intro h9; rw [h9] at c1; revert c1; decide), if_neg (by intro h9; rw [h9] at c1; revert c1; decide), if_neg (by intro h9; rw [h9] at c1; revert c1; decide), if_neg (by intro h9; rw [h9] at c1; revert c1; decide), if_neg (by intro h9; rw [h9] at c1; revert c1; decide)], rfl⟩) (Nat.le_of_ble_eq_true rfl) (Nat.le_of_ble_eq_true rfl) dX6_count_63
set_option maxHeartbeats 4000000 in
set_option maxRecDepth 100000 in
theorem c_digest (l : Launch) (G : mG) (M : mM) (L : Nat → Nat → Nat) (S : sS) (cs ar : Nat → Int64) (J : eJ) (hE : EV G L S cs ar J M) (ne nn nc nl ht : Nat) (hN : NM S ne nn nc nl ht)  : Ct l yX6_digest cX6_digest 1 (some FieldType.int) (mm_r 0 0 0) G [.ref (L 0 0)] M (fun r M1 => r = some (.int (S 24 0)) ∧ M = M1) := by
  refine Ct.of (by decide) (Nat.le_of_ble_eq_true rfl) ?_
  intro p e s m args below meth c ls Q X hin hl hw hQ
  have hx := X.1
  have hb := X.2.1
  have hl : lv_has ls 1 [(0, .ref (L 0 0))] := hl
  obtain ⟨hN0, hN1, hN2, hN7, hN8, hN12, hN13, hN18, hN19, hN5, hN6⟩ := id hN
  have h0b : cl (S 0 0) = ne := by rw [hN0, cl_n (by omega)]
  have h7b : cl (S 7 0) = nn := by rw [hN7, cl_n (by omega)]
  have h12b : cl (S 12 0) = nc := by rw [hN12, cl_n (by omega)]
  have h18b : cl (S 18 0) = nl := by rw [hN18, cl_n (by omega)]
  have h5b : cl (S 5 0) = ht := by rw [hN5, cl_n (by omega)]
  refine lv_aload_n hx hb dX6_digest_0 rfl (lv_at hl 0 rfl) ?_
  refine gf_X6_63 X hw (hE.k0) rfl dX6_digest_1 ?_
  exact mm_iret hQ X hw (⟨rfl, rfl⟩) (Nat.le_of_ble_eq_true rfl) (Nat.le_of_ble_eq_true rfl) dX6_digest_4
theorem ce_if {k : Int32} {f : Nat → Int64} : (if 0 ≤ k ∧ k < 4 then trL 4 f (cl k) else 0) = if 0 ≤ k ∧ k ≤ 3 then f (cl k) else 0 := by
  by_cases h1 : 0 ≤ k ∧ k < 4
  · rw [if_pos h1, if_pos ⟨h1.1, lt_le4.mp h1.2⟩, trL_at (cl_lt (n := 4) rfl (by decide) h1)]
  · rw [if_neg h1, if_neg (fun h2 => h1 ⟨h2.1, lt_le4.mpr h2.2⟩)]
set_option maxHeartbeats 4000000 in
set_option maxRecDepth 100000 in
theorem c_cell (l : Launch) (G : mG) (M : mM) (L : Nat → Nat → Nat) (S : sS) (cs ar : Nat → Int64) (J : eJ) (hE : EV G L S cs ar J M) (ne nn nc nl ht : Nat) (hN : NM S ne nn nc nl ht) (x y : Int32) : Ct l yX6_cell cX6_cell 4 (some FieldType.long) (mm_r 2 0 0) G [.ref (L 0 0), .int x, .int y] M (fun r M1 => r = some (.long (sp_cell S cs x y)) ∧ M = M1) := by
  refine Ct.of (by decide) (Nat.le_of_ble_eq_true rfl) ?_
  intro p e s m args below meth c ls Q X hin hl hw hQ
  have hx := X.1
  have hb := X.2.1
  have hl : lv_has ls 4 [(0, .ref (L 0 0)), (1, .int x), (2, .int y)] := hl
  obtain ⟨hN0, hN1, hN2, hN7, hN8, hN12, hN13, hN18, hN19, hN5, hN6⟩ := id hN
  have h0b : cl (S 0 0) = ne := by rw [hN0, cl_n (by omega)]
  have h7b : cl (S 7 0) = nn := by rw [hN7, cl_n (by omega)]
  have h12b : cl (S 12 0) = nc := by rw [hN12, cl_n (by omega)]
  have h18b : cl (S 18 0) = nl := by rw [hN18, cl_n (by omega)]
  have h5b : cl (S 5 0) = ht := by rw [hN5, cl_n (by omega)]
  refine lv_aload_n hx hb dX6_cell_0 rfl (lv_at hl 0 rfl) ?_
  refine lv_iload_n hx hb dX6_cell_1 rfl (lv_at hl 1 rfl) ?_
  refine mm_callV (As := [.int x]) (rest := []) X hw (c_contractAt l G _ L _ _ _ _ hE ne nn nc nl ht hN (x)) (hE.k0) rfl wd_X6_141 ⟨Nat.le_of_ble_eq_true rfl, Nat.le_of_ble_eq_true rfl⟩ ⟨Nat.le_of_ble_eq_true rfl, Nat.le_of_ble_eq_true rfl⟩ rfl rfl (Nat.le_of_ble_eq_true rfl) hl.1 dX6_cell_2 (fun v9 M9 H9 locs9 hp9 hw => ?_)
  obtain ⟨rfl, rfl⟩ := hp9
  refine W.eq (g2 := F0 m 5 ls [va_rf (atR (S 12 0) (L 30) (x))]) rfl ?_
  by_cases c2 : 0 ≤ x ∧ x < S 12 0
  · have l2 : cl x < cl (S 12 0) := by rw [h12b]; exact cl_lt hN12 (by omega) c2
    refine mm_rfS (atR_s c2) ?_
    refine lv_astore_n (lv' := [(3, .ref (L 30 (cl x))), (0, .ref (L 0 0)), (1, .int x), (2, .int y)]) hx hb dX6_cell_5 rfl hl (by decide) rfl (fun ls hl => ?_)
    refine lv_aload_n hx hb dX6_cell_6 rfl (lv_at hl 0 rfl) ?_
    refine lv_ifnonnull (tgt := 14) hx hb dX6_cell_7 (by decide) ?_
    refine lv_aload_n hx hb dX6_cell_14 rfl (lv_at hl 0 rfl) ?_
    refine gf_X6_167 X hw (hE.k30 l2) rfl dX6_cell_15 ?_
    refine lv_iload_n hx hb dX6_cell_18 rfl (lv_at hl 3 rfl) ?_
    refine mm_callV (As := [.int y]) (rest := []) X hw (c_valueOf l G _ _ _ _ y (hE.k33 l2) (hE.k34 l2)) (hE.k33 l2) rfl wd_X6_184 ⟨Nat.le_of_ble_eq_true rfl, Nat.le_of_ble_eq_true rfl⟩ ⟨Nat.le_of_ble_eq_true rfl, Nat.le_of_ble_eq_true rfl⟩ rfl rfl (Nat.le_of_ble_eq_true rfl) hl.1 dX6_cell_19 (fun v9 M9 H9 locs9 hp9 hw => ?_)
    obtain ⟨rfl, rfl⟩ := hp9
    refine W.eq (g2 := F0 m 22 ls [.long (if 0 ≤ y ∧ y < 4 then trL 4 (fun j => cs (4 * (cl x) + j)) (cl y) else 0)]) rfl ?_
    exact mm_lret hQ X hw (⟨by rw [sp_cell, if_pos c2]; exact congrArg (fun z => some (Value.long z)) ce_if, rfl⟩) (Nat.le_of_ble_eq_true rfl) (Nat.le_of_ble_eq_true rfl) dX6_cell_22
  · refine mm_rfN (atR_n c2) ?_
    refine lv_astore_nN (lv' := [(3, .null), (0, .ref (L 0 0)), (1, .int x), (2, .int y)]) hx hb dX6_cell_5 rfl hl (by decide) rfl (fun ls hl => ?_)
    refine lv_aload_nN hx hb dX6_cell_6 rfl (lv_at hl 0 rfl) ?_
    refine lv_ifnonnullN hx hb dX6_cell_7 ?_
    refine lv_lconst (v := 0) hx hb dX6_cell_10 (by decide) ?_
    refine lv_goto (tgt := 22) hx hb dX6_cell_11 (by decide) ?_
    exact mm_lret hQ X hw (⟨by rw [sp_cell, if_neg c2], rfl⟩) (Nat.le_of_ble_eq_true rfl) (Nat.le_of_ble_eq_true rfl) dX6_cell_22
