set_option maxHeartbeats 4000000 in
set_option maxRecDepth 100000 in
theorem c_valueOf (l : Launch) (G : mG) (M : mM) (a b : Nat) (f : Nat → Int64) (x : Int32) (h0 : M (a) = some (.inr (0, [.ref b]))) (h1 : M (b) = some (aJ G 4 (f))) : Ct l yX0_valueOf cX0_valueOf 2 (some FieldType.long) (mm_r 1 0 0) G [.ref a, .int x] M (fun r M1 => r = some (.long (if 0 ≤ x ∧ x < 4 then f (cl x) else 0)) ∧ M = M1) := by
  refine Ct.of (by decide) (Nat.le_of_ble_eq_true rfl) ?_
  intro p e s m args below meth c ls Q X hin hl hw hQ
  have hx := X.1
  have hb := X.2.1
  have hl : lv_has ls 2 [(0, .ref a), (1, .int x)] := hl
  refine lv_iload_n hx hb dX0_valueOf_0 rfl (lv_at hl 1 rfl) ?_
  refine lv_aload_n hx hb dX0_valueOf_1 rfl (lv_at hl 0 rfl) ?_
  refine gf_X0_9 X hw (h0) rfl dX0_valueOf_2 ?_
  refine mi_llen X hw (h1) dX0_valueOf_5 ?_
  refine W.eq (g2 := F0 m 6 ls [.int 4, .int x]) rfl ?_
  refine mm_callSN (As := [.int x, .int 4]) (rest := []) X hw (c_isBelow l G _ (x) (4)) wd_X0_15 ⟨Nat.le_of_ble_eq_true rfl, Nat.le_of_ble_eq_true rfl⟩ ⟨Nat.le_of_ble_eq_true rfl, Nat.le_of_ble_eq_true rfl⟩ rfl rfl (Nat.le_of_ble_eq_true rfl) hl.1 dX0_valueOf_6 (fun v9 M9 H9 locs9 hp9 hw => ?_)
  obtain ⟨rfl, rfl⟩ := hp9
  refine W.eq (g2 := F0 m 9 ls [.int (bI (0 ≤ x ∧ x < 4))]) rfl ?_
  refine mm_ifeqB (tgt := 21) hx hb dX0_valueOf_9 (by decide) (fun c9 => ?_) (fun c9 => ?_)
  · refine lv_lconst (v := 0) hx hb dX0_valueOf_21 (by decide) ?_
    exact mm_lret hQ X hw (⟨by rw [if_neg c9], rfl⟩) (Nat.le_of_ble_eq_true rfl) (Nat.le_of_ble_eq_true rfl) dX0_valueOf_22
  · have b_x : cl x < 4 := cl_lt (n := 4) rfl (by decide) c9
    refine lv_aload_n hx hb dX0_valueOf_12 rfl (lv_at hl 0 rfl) ?_
    refine gf_X0_9 X hw (h0) rfl dX0_valueOf_13 ?_
    refine lv_iload_n hx hb dX0_valueOf_16 rfl (lv_at hl 1 rfl) ?_
    refine mi_lald X hw (h1) (cl x) (nI_cl c9.1) (b_x) (by decide) dX0_valueOf_17 ?_
    refine lv_goto (tgt := 22) hx hb dX0_valueOf_18 (by decide) ?_
    exact mm_lret hQ X hw (⟨by rw [if_pos c9], rfl⟩) (Nat.le_of_ble_eq_true rfl) (Nat.le_of_ble_eq_true rfl) dX0_valueOf_22
set_option maxHeartbeats 4000000 in
set_option maxRecDepth 100000 in
theorem c_store (l : Launch) (G : mG) (M : mM) (a b : Nat) (f : Nat → Int64) (x : Int32) (v : Int64) (hxr : 0 ≤ x ∧ x < 4) (h0 : M (a) = some (.inr (0, [.ref b]))) (h1 : M (b) = some (aJ G 4 (f))) : Ct l yX0_store cX0_store 4 none (mm_r 1 0 0) G [.ref a, .int x, .long v] M (fun r M1 => r = none ∧ M1 = mm_up M b (aJ G 4 (vp_updL f (cl x) v))) := by
  refine Ct.of (by decide) (Nat.le_of_ble_eq_true rfl) ?_
  intro p e s m args below meth c ls Q X hin hl hw hQ
  have hx := X.1
  have hb := X.2.1
  have hl : lv_has ls 4 [(0, .ref a), (1, .int x), (2, .long v)] := hl
  have b_x : cl x < 4 := cl_lt (n := 4) rfl (by decide) hxr
  refine lv_iload_n hx hb dX0_store_0 rfl (lv_at hl 1 rfl) ?_
  refine lv_aload_n hx hb dX0_store_1 rfl (lv_at hl 0 rfl) ?_
  refine gf_X0_9 X hw (h0) rfl dX0_store_2 ?_
  refine mi_llen X hw (h1) dX0_store_5 ?_
  refine W.eq (g2 := F0 m 6 ls [.int 4, .int x]) rfl ?_
  refine mm_callSN (As := [.int x, .int 4]) (rest := []) X hw (c_isBelow l G _ (x) (4)) wd_X0_15 ⟨Nat.le_of_ble_eq_true rfl, Nat.le_of_ble_eq_true rfl⟩ ⟨Nat.le_of_ble_eq_true rfl, Nat.le_of_ble_eq_true rfl⟩ rfl rfl (Nat.le_of_ble_eq_true rfl) hl.1 dX0_store_6 (fun v9 M9 H9 locs9 hp9 hw => ?_)
  obtain ⟨rfl, rfl⟩ := hp9
  refine W.eq (g2 := F0 m 9 ls [.int (bI (0 ≤ x ∧ x < 4))]) rfl ?_
  refine mm_ifeqB (tgt := 19) hx hb dX0_store_9 (by decide) (fun c9 => ?_) (fun c9 => ?_)
  · exact absurd hxr c9
  · refine lv_aload_n hx hb dX0_store_12 rfl (lv_at hl 0 rfl) ?_
    refine gf_X0_9 X hw (h0) rfl dX0_store_13 ?_
    refine lv_iload_n hx hb dX0_store_16 rfl (lv_at hl 1 rfl) ?_
    refine lv_lload_n hx hb dX0_store_17 rfl (lv_at hl 2 rfl) ?_
    refine mi_last X hw (h1) (cl x) (nI_cl hxr.1) (b_x) (by decide) dX0_store_18 (fun H9 locs9 hw => ?_)
    obtain ⟨M_1, eM_1⟩ : ∃ z, z = mm_up M (b) (aJ G 4 (vp_updL f (cl x) (v))) := ⟨_, rfl⟩
    have hw : mm_W G.1 vwCl (ct_A M s.heap.size) s.heap M_1 H9 locs9 := by rw [eM_1]; exact hw
    have f0_M_1 : M_1 (a) = some (.inr (0, [.ref b])) := by rw [eM_1, mm_up_n _ _ (ne_oa h0 h1)]; exact h0
    have f1_M_1 : M_1 (b) = some (aJ G 4 (vp_updL f (cl x) (v))) := by rw [eM_1]; exact mm_up_s _ _ _
    exact mm_vret hQ X hw (⟨rfl, eM_1⟩) (Nat.le_of_ble_eq_true rfl) (Nat.le_of_ble_eq_true rfl) dX0_store_19
set_option maxHeartbeats 4000000 in
set_option maxRecDepth 100000 in
theorem c_clear (l : Launch) (G : mG) (M : mM) (a b : Nat) (f : Nat → Int64) (h0 : M (a) = some (.inr (0, [.ref b]))) (h1 : M (b) = some (aJ G 4 (f))) : Ct l yX0_clear cX0_clear 2 none (mm_r 0 0 0) G [.ref a] M (fun r M1 => r = none ∧ M1 = mm_up M b (aJ G 4 (z48 f 4))) := by
  refine Ct.of (by decide) (Nat.le_of_ble_eq_true rfl) ?_
  intro p e s m args below meth c ls Q X hin hl hw hQ
  have hx := X.1
  have hb := X.2.1
  have hl : lv_has ls 2 [(0, .ref a)] := hl
  refine lv_iconst (v := 0) hx hb dX0_clear_0 (by decide) ?_
  refine lv_istore_n (lv' := [(1, .int 0), (0, .ref a)]) hx hb dX0_clear_1 rfl hl (by decide) rfl (fun ls hl => ?_)
  have loop : ∀ (n k : Nat) (M1 : mM) (H1 : Heap) (locs1 : List Loc) (ls1 : Array Slot), k ≤ 4 → 5 ≤ k + n → M1 = mm_up M b (aJ G 4 (z48 f k)) → mm_W G.1 vwCl (ct_A M s.heap.size) s.heap M1 H1 locs1 → lv_has ls1 2 [(0, .ref a), (1, .int (nI k))] → W p l e (mm_r 0 0 0) s m args below meth c H1 locs1 0 0 Q (F0 m 2 ls1 []) := by
    intro n
    induction n with
    | zero => intro k M1 H1 locs1 ls hk hn eM hw hl; exact absurd hn (by omega)
    | succ n ih =>
      intro k M1 H1 locs1 ls hk hn eM hw hl
      have g1 : M1 b = some (aJ G 4 (z48 f k)) := by rw [eM]; exact mm_up_s _ _ _
      have g0 : M1 a = some (oCe b) := by rw [eM, mm_up_n _ _ (ne_oa h0 h1)]; exact h0
      refine lv_iload_n hx hb dX0_clear_2 rfl (lv_at hl 1 rfl) ?_
      refine lv_iconst (v := 4) hx hb dX0_clear_3 (by decide) ?_
      refine lv_icmp_ge (tgt := 20) hx hb dX0_clear_4 (by decide) (fun c4 => ?_) (fun c4 => ?_)
      · have hk9 : k = 4 := by have := nle (a := 4) (by decide) (by omega) c4; omega
        exact mm_vret hQ X hw (⟨rfl, by rw [eM, hk9]⟩) (Nat.le_of_ble_eq_true rfl) (Nat.le_of_ble_eq_true rfl) dX0_clear_20
      · have hk9 : k < 4 := nnle (a := 4) (by decide) (by omega) c4
        refine lv_aload_n hx hb dX0_clear_7 rfl (lv_at hl 0 rfl) ?_
        refine gf_X0_9 X hw (g0) rfl dX0_clear_8 ?_
        refine lv_iload_n hx hb dX0_clear_11 rfl (lv_at hl 1 rfl) ?_
        refine lv_lconst (v := 0) hx hb dX0_clear_12 (by decide) ?_
        refine mi_last X hw (g1) (k) (rfl) (hk9) (by decide) dX0_clear_13 (fun H9 locs9 hw => ?_)
        obtain ⟨M_1, eM_1⟩ : ∃ z, z = mm_up M1 (b) (aJ G 4 (vp_updL (z48 f k) (k) (0))) := ⟨_, rfl⟩
        have hw : mm_W G.1 vwCl (ct_A M s.heap.size) s.heap M_1 H9 locs9 := by rw [eM_1]; exact hw
        have f0_M_1 : M_1 (a) = some (.inr (0, [.ref b])) := by rw [eM_1, mm_up_n _ _ (ne_oa g0 g1)]; exact g0
        have f1_M_1 : M_1 (b) = some (aJ G 4 (vp_updL (z48 f k) (k) (0))) := by rw [eM_1]; exact mm_up_s _ _ _
        refine lv_iinc (v := nI (k + 1)) (lv' := [(1, .int (nI (k + 1))), (0, .ref a)]) hx hb dX0_clear_14 hl (k := 1) rfl (nI_s k) (by decide) rfl (fun ls hl => ?_)
        refine lv_goto (tgt := 2) hx hb dX0_clear_17 (by decide) ?_
        exact ih (k + 1) _ _ _ _ (by omega) (by omega) (by rw [eM_1, eM, mm_up_up, z48_s]) hw (lv_sub hl [1, 0] rfl)
  exact loop 5 0 _ _ _ _ (by omega) (by omega) (by rw [z48_0, mm_up_id h1]) hw (lv_sub hl [1, 0] rfl)
set_option maxHeartbeats 4000000 in
set_option maxRecDepth 100000 in
theorem c_cellsLike (l : Launch) (G : mG) (M : mM) (a b : Nat) (f : Nat → Int64) (a2 b2 : Nat) (f2 : Nat → Int64) (hbb : b2 ≠ b) (h0 : M (a) = some (.inr (0, [.ref b]))) (h1 : M (b) = some (aJ G 4 (f))) (h2 : M (a2) = some (.inr (0, [.ref b2]))) (h3 : M (b2) = some (aJ G 4 (f2))) : Ct l yX0_becomeLike cX0_becomeLike 3 none (mm_r 0 0 0) G [.ref a, .ref a2] M (fun r M1 => r = none ∧ M1 = mm_up M b (aJ G 4 (r48 f2 f 4))) := by
  refine Ct.of (by decide) (Nat.le_of_ble_eq_true rfl) ?_
  intro p e s m args below meth c ls Q X hin hl hw hQ
  have hx := X.1
  have hb := X.2.1
  have hl : lv_has ls 3 [(0, .ref a), (1, .ref a2)] := hl
  refine lv_iconst (v := 0) hx hb dX0_becomeLike_0 (by decide) ?_
  refine lv_istore_n (lv' := [(2, .int 0), (0, .ref a), (1, .ref a2)]) hx hb dX0_becomeLike_1 rfl hl (by decide) rfl (fun ls hl => ?_)
  have loop : ∀ (n k : Nat) (M1 : mM) (H1 : Heap) (locs1 : List Loc) (ls1 : Array Slot), k ≤ 4 → 5 ≤ k + n → M1 = mm_up M b (aJ G 4 (r48 f2 f k)) → mm_W G.1 vwCl (ct_A M s.heap.size) s.heap M1 H1 locs1 → lv_has ls1 3 [(0, .ref a), (1, .ref a2), (2, .int (nI k))] → W p l e (mm_r 0 0 0) s m args below meth c H1 locs1 0 0 Q (F0 m 2 ls1 []) := by
    intro n
    induction n with
    | zero => intro k M1 H1 locs1 ls hk hn eM hw hl; exact absurd hn (by omega)
    | succ n ih =>
      intro k M1 H1 locs1 ls hk hn eM hw hl
      have g1 : M1 b = some (aJ G 4 (r48 f2 f k)) := by rw [eM]; exact mm_up_s _ _ _
      have g0 : M1 a = some (oCe b) := by rw [eM, mm_up_n _ _ (ne_oa h0 h1)]; exact h0
      have g2 : M1 a2 = some (oCe b2) := by rw [eM, mm_up_n _ _ (ne_oa h2 h1)]; exact h2
      have g3 : M1 b2 = some (aJ G 4 f2) := by rw [eM, mm_up_n _ _ hbb]; exact h3
      refine lv_iload_n hx hb dX0_becomeLike_2 rfl (lv_at hl 2 rfl) ?_
      refine lv_iconst (v := 4) hx hb dX0_becomeLike_3 (by decide) ?_
      refine lv_icmp_ge (tgt := 25) hx hb dX0_becomeLike_4 (by decide) (fun c4 => ?_) (fun c4 => ?_)
      · have hk9 : k = 4 := by have := nle (a := 4) (by decide) (by omega) c4; omega
        exact mm_vret hQ X hw (⟨rfl, by rw [eM, hk9]⟩) (Nat.le_of_ble_eq_true rfl) (Nat.le_of_ble_eq_true rfl) dX0_becomeLike_25
      · have hk9 : k < 4 := nnle (a := 4) (by decide) (by omega) c4
        refine lv_aload_n hx hb dX0_becomeLike_7 rfl (lv_at hl 0 rfl) ?_
        refine gf_X0_9 X hw (g0) rfl dX0_becomeLike_8 ?_
        refine lv_iload_n hx hb dX0_becomeLike_11 rfl (lv_at hl 2 rfl) ?_
        refine lv_aload_n hx hb dX0_becomeLike_12 rfl (lv_at hl 1 rfl) ?_
        refine gf_X0_9 X hw (g2) rfl dX0_becomeLike_13 ?_
        refine lv_iload_n hx hb dX0_becomeLike_16 rfl (lv_at hl 2 rfl) ?_
        refine mi_lald X hw (g3) (k) (rfl) (hk9) (by decide) dX0_becomeLike_17 ?_
        refine mi_last X hw (g1) (k) (rfl) (hk9) (by decide) dX0_becomeLike_18 (fun H9 locs9 hw => ?_)
        obtain ⟨M_1, eM_1⟩ : ∃ z, z = mm_up M1 (b) (aJ G 4 (vp_updL (r48 f2 f k) (k) (f2 (k)))) := ⟨_, rfl⟩
        have hw : mm_W G.1 vwCl (ct_A M s.heap.size) s.heap M_1 H9 locs9 := by rw [eM_1]; exact hw
        have f0_M_1 : M_1 (a) = some (.inr (0, [.ref b])) := by rw [eM_1, mm_up_n _ _ (ne_oa g0 g1)]; exact g0
        have f1_M_1 : M_1 (b) = some (aJ G 4 (vp_updL (r48 f2 f k) (k) (f2 (k)))) := by rw [eM_1]; exact mm_up_s _ _ _
        have f2_M_1 : M_1 (a2) = some (.inr (0, [.ref b2])) := by rw [eM_1, mm_up_n _ _ (ne_oa g2 g1)]; exact g2
        have f3_M_1 : M_1 (b2) = some (aJ G 4 (f2)) := by rw [eM_1, mm_up_n _ _ (hbb)]; exact g3
        refine lv_iinc (v := nI (k + 1)) (lv' := [(2, .int (nI (k + 1))), (0, .ref a), (1, .ref a2)]) hx hb dX0_becomeLike_19 hl (k := 2) rfl (nI_s k) (by decide) rfl (fun ls hl => ?_)
        refine lv_goto (tgt := 2) hx hb dX0_becomeLike_22 (by decide) ?_
        exact ih (k + 1) _ _ _ _ (by omega) (by omega) (by rw [eM_1, eM, mm_up_up, r48_s _ _ _ rfl]) hw (lv_sub hl [1, 2, 0] rfl)
  exact loop 5 0 _ _ _ _ (by omega) (by omega) (by rw [r48_0, mm_up_id h1]) hw (lv_sub hl [1, 2, 0] rfl)
theorem hi_u (v : Int64) : ((v.toUInt64 >>> ((32 : Int32).toInt64.toUInt64 &&& Int64.toUInt64 63)).toInt64 : Int64).toInt32 = (v >>> ((32 : Int32).toInt64 &&& 63)).toInt32 := by
  rw [← Int32.toBitVec_inj, Int64.toBitVec_toInt32, Int64.toBitVec_toInt32]
  have h1 : (v >>> ((32 : Int32).toInt64 &&& 63)).toBitVec = v.toBitVec.sshiftRight 32 := by
    rw [Int64.toBitVec_shiftRight]; rfl
  have h2 : ((v.toUInt64 >>> ((32 : Int32).toInt64.toUInt64 &&& Int64.toUInt64 63)).toInt64 : Int64).toBitVec = v.toBitVec >>> 32 := by
    show (v.toUInt64 >>> ((32 : Int32).toInt64.toUInt64 &&& Int64.toUInt64 63)).toBitVec = _
    rw [UInt64.toBitVec_shiftRight]; rfl
  rw [h1, h2]
  apply BitVec.eq_of_getLsbD_eq
  intro i hi
  rw [BitVec.getLsbD_signExtend, BitVec.getLsbD_signExtend]
  simp [BitVec.getLsbD_sshiftRight]
  rw [if_pos (show 32 + i < 64 by omega)]
  have h3 : i < 64 := by omega
  have h4 : ¬ 64 ≤ i := by omega
  simp [h3, h4]
theorem dg_u (d : Int32) (v : Int64) : 31 * (31 * d + ((v.toUInt64 >>> ((32 : Int32).toInt64.toUInt64 &&& Int64.toUInt64 63)).toInt64 : Int64).toInt32) + (v : Int64).toInt32 = dg1 d v := by
  rw [dg1, hi_u]
set_option maxHeartbeats 4000000 in
set_option maxRecDepth 100000 in
theorem c_digestBehind (l : Launch) (G : mG) (M : mM) (a b : Nat) (f : Nat → Int64) (bf an : Int32) (h0 : M (a) = some (.inr (0, [.ref b]))) (h1 : M (b) = some (aJ G 4 (f))) : Ct l yX0_digestBehind cX0_digestBehind 9 (some FieldType.int) (mm_r 0 0 0) G [.ref a, .int bf, .int an] M (fun r M1 => r = some (.int (dg_go f (31 * bf + an) 4)) ∧ M = M1) := by
  refine Ct.of (by decide) (Nat.le_of_ble_eq_true rfl) ?_
  intro p e s m args below meth c ls Q X hin hl hw hQ
  have hx := X.1
  have hb := X.2.1
  have hl : lv_has ls 9 [(0, .ref a), (1, .int bf), (2, .int an)] := hl
  refine lv_bipush (v := 31) hx hb dX0_digestBehind_0 (by decide) ?_
  refine lv_iload_n hx hb dX0_digestBehind_2 rfl (lv_at hl 1 rfl) ?_
  refine lv_imul hx hb dX0_digestBehind_3 ?_
  refine lv_iload_n hx hb dX0_digestBehind_4 rfl (lv_at hl 2 rfl) ?_
  refine lv_iadd hx hb dX0_digestBehind_5 ?_
  refine lv_istore_n (lv' := [(3, .int ((31 * bf) + an)), (0, .ref a), (1, .int bf), (2, .int an)]) hx hb dX0_digestBehind_6 rfl hl (by decide) rfl (fun ls hl => ?_)
  refine lv_aload_n hx hb dX0_digestBehind_7 rfl (lv_at hl 1 rfl) ?_
  refine gf_X0_9 X hw (h0) rfl dX0_digestBehind_8 ?_
  refine lv_astore (lv' := [(4, .ref b), (3, .int ((31 * bf) + an)), (0, .ref a), (1, .int bf), (2, .int an)]) hx hb dX0_digestBehind_11 hl (by decide) rfl (fun ls hl => ?_)
  refine lv_aload hx hb dX0_digestBehind_13 (lv_at hl 0 rfl) ?_
  refine mi_llen X hw (h1) dX0_digestBehind_15 ?_
  refine W.eq (g2 := F0 m 16 ls [.int 4]) rfl ?_
  refine lv_istore (lv' := [(5, .int 4), (4, .ref b), (3, .int ((31 * bf) + an)), (0, .ref a), (1, .int bf), (2, .int an)]) hx hb dX0_digestBehind_16 hl (by decide) rfl (fun ls hl => ?_)
  refine lv_iconst (v := 0) hx hb dX0_digestBehind_18 (by decide) ?_
  refine lv_istore (lv' := [(6, .int 0), (5, .int 4), (4, .ref b), (3, .int ((31 * bf) + an)), (0, .ref a), (1, .int bf), (2, .int an)]) hx hb dX0_digestBehind_19 hl (by decide) rfl (fun ls hl => ?_)
  have loop : ∀ (n : Nat) (k : Nat) (d : Int32) (H1 : Heap) (locs1 : List Loc) (ls1 : Array Slot), (hk : k ≤ 4) → (hn : 5 ≤ k + n) → (hd : d = dg_go f (31 * bf + an) k) → mm_W G.1 vwCl (ct_A M s.heap.size) s.heap M H1 locs1 → lv_has ls1 9 [(3, .int d), (4, .ref b), (5, .int 4), (6, .int (nI k))] → W p l e (mm_r 0 0 0) s m args below meth c H1 locs1 0 0 Q (F0 m 21 ls1 []) := by
    intro n
    induction n with
    | zero => intro k d H1 locs1 ls hk hn hd hw hl; exact absurd hn (by omega)
    | succ n ih =>
      intro k d H1 locs1 ls hk hn hd hw hl
      refine lv_iload hx hb dX0_digestBehind_21 (lv_at hl 3 rfl) ?_
      refine lv_iload hx hb dX0_digestBehind_23 (lv_at hl 2 rfl) ?_
      refine lv_icmp_ge (tgt := 62) hx hb dX0_digestBehind_25 (by decide) (fun c25 => ?_) (fun c25 => ?_)
      · have hk9 : k = 4 := by have := nle (a := 4) (by decide) (by omega) c25; omega
        refine lv_iload_n hx hb dX0_digestBehind_62 rfl (lv_at hl 0 rfl) ?_
        exact mm_iret hQ X hw (⟨by rw [hd, hk9], rfl⟩) (Nat.le_of_ble_eq_true rfl) (Nat.le_of_ble_eq_true rfl) dX0_digestBehind_63
      · have hk9 : k < 4 := nnle (a := 4) (by decide) (by omega) c25
        refine lv_aload hx hb dX0_digestBehind_28 (lv_at hl 1 rfl) ?_
        refine lv_iload hx hb dX0_digestBehind_30 (lv_at hl 3 rfl) ?_
        refine mi_lald X hw (h1) (k) (rfl) (hk9) (by decide) dX0_digestBehind_32 ?_
        refine lv_lstore (lv' := [(7, .long (f (k))), (3, .int d), (4, .ref b), (5, .int 4), (6, .int (nI k))]) hx hb dX0_digestBehind_33 hl (by decide) rfl (fun ls hl => ?_)
        refine lv_bipush (v := 31) hx hb dX0_digestBehind_35 (by decide) ?_
        refine lv_iload_n hx hb dX0_digestBehind_37 rfl (lv_at hl 1 rfl) ?_
        refine lv_imul hx hb dX0_digestBehind_38 ?_
        refine lv_lload hx hb dX0_digestBehind_39 (lv_at hl 0 rfl) ?_
        refine lv_bipush (v := 32) hx hb dX0_digestBehind_41 (by decide) ?_
        refine lv_lushr (v := ((f (k)).toUInt64 >>> ((32 : Int32).toInt64.toUInt64 &&& Int64.toUInt64 63)).toInt64) hx hb dX0_digestBehind_43 rfl ?_
        refine lv_l2i (v := (((f (k)).toUInt64 >>> ((32 : Int32).toInt64.toUInt64 &&& Int64.toUInt64 63)).toInt64 : Int64).toInt32) hx hb dX0_digestBehind_44 rfl ?_
        refine lv_iadd hx hb dX0_digestBehind_45 ?_
        refine lv_istore_n (lv' := [(3, .int ((31 * d) + ((((f (k)).toUInt64 >>> ((32 : Int32).toInt64.toUInt64 &&& Int64.toUInt64 63)).toInt64 : Int64).toInt32))), (7, .long (f (k))), (4, .ref b), (5, .int 4), (6, .int (nI k))]) hx hb dX0_digestBehind_46 rfl hl (by decide) rfl (fun ls hl => ?_)
        refine lv_bipush (v := 31) hx hb dX0_digestBehind_47 (by decide) ?_
        refine lv_iload_n hx hb dX0_digestBehind_49 rfl (lv_at hl 0 rfl) ?_
        refine lv_imul hx hb dX0_digestBehind_50 ?_
        refine lv_lload hx hb dX0_digestBehind_51 (lv_at hl 1 rfl) ?_
        refine lv_l2i (v := (f (k) : Int64).toInt32) hx hb dX0_digestBehind_53 rfl ?_
        refine lv_iadd hx hb dX0_digestBehind_54 ?_
        refine lv_istore_n (lv' := [(3, .int ((31 * ((31 * d) + ((((f (k)).toUInt64 >>> ((32 : Int32).toInt64.toUInt64 &&& Int64.toUInt64 63)).toInt64 : Int64).toInt32))) + ((f (k) : Int64).toInt32))), (7, .long (f (k))), (4, .ref b), (5, .int 4), (6, .int (nI k))]) hx hb dX0_digestBehind_55 rfl hl (by decide) rfl (fun ls hl => ?_)
        refine lv_iinc (v := nI (k + 1)) (lv' := [(6, .int (nI (k + 1))), (3, .int ((31 * ((31 * d) + ((((f (k)).toUInt64 >>> ((32 : Int32).toInt64.toUInt64 &&& Int64.toUInt64 63)).toInt64 : Int64).toInt32))) + ((f (k) : Int64).toInt32))), (7, .long (f (k))), (4, .ref b), (5, .int 4)]) hx hb dX0_digestBehind_56 hl (k := 4) rfl (nI_s k) (by decide) rfl (fun ls hl => ?_)
        refine lv_goto (tgt := 21) hx hb dX0_digestBehind_59 (by decide) ?_
        exact ih (k + 1) _ _ _ _ (by omega) (by omega) (by rw [hd]; exact dg_u _ _) hw  (lv_sub hl [1, 3, 4, 0] rfl)
  exact loop 5 0 _ _ _ _ (by omega) (by omega) (rfl) hw  (lv_sub hl [3, 2, 1, 0] rfl)
set_option maxHeartbeats 4000000 in
set_option maxRecDepth 100000 in
theorem c_isHalted (l : Launch) (G : mG) (M : mM) (a : Nat) (wt bd vt hl0 : Int32) (h0 : M (a) = some (.inr (5, [.int wt, .int bd, .int vt, .int hl0]))) : Ct l yX5_isHalted cX5_isHalted 1 (some FieldType.boolean) (mm_r 0 0 0) G [.ref a] M (fun r M1 => r = some (.int (bI (¬ hl0 = -1))) ∧ M = M1) := by
  refine Ct.of (by decide) (Nat.le_of_ble_eq_true rfl) ?_
  intro p e s m args below meth c ls Q X hin hl hw hQ
  have hx := X.1
  have hb := X.2.1
  have hl : lv_has ls 1 [(0, .ref a)] := hl
  refine lv_aload_n hx hb dX5_isHalted_0 rfl (lv_at hl 0 rfl) ?_
  refine gf_X5_15 X hw (h0) rfl dX5_isHalted_1 ?_
  refine lv_iconst (v := (-1)) hx hb dX5_isHalted_4 (by decide) ?_
  refine lv_icmp_eq (tgt := 12) hx hb dX5_isHalted_5 (by decide) (fun c5 => ?_) (fun c5 => ?_)
  · refine lv_iconst (v := 0) hx hb dX5_isHalted_12 (by decide) ?_
    exact mm_zret hQ X hw (rfl) (⟨by rw [bI_f (fun h9 => h9 c5)], rfl⟩) (Nat.le_of_ble_eq_true rfl) (Nat.le_of_ble_eq_true rfl) dX5_isHalted_13
  · refine lv_iconst (v := 1) hx hb dX5_isHalted_8 (by decide) ?_
    refine lv_goto (tgt := 13) hx hb dX5_isHalted_9 (by decide) ?_
    exact mm_zret hQ X hw (rfl) (⟨by rw [bI_t c5], rfl⟩) (Nat.le_of_ble_eq_true rfl) (Nat.le_of_ble_eq_true rfl) dX5_isHalted_13
set_option maxHeartbeats 4000000 in
set_option maxRecDepth 100000 in
theorem c_hasEdition (l : Launch) (G : mG) (M : mM) (a : Nat) (wt bd vt hl0 : Int32) (x : Int32) (h0 : M (a) = some (.inr (5, [.int wt, .int bd, .int vt, .int hl0]))) : Ct l yX5_hasEdition cX5_hasEdition 2 (some FieldType.boolean) (mm_r 0 0 0) G [.ref a, .int x] M (fun r M1 => r = some (.int (bI (¬ bd &&& (1 <<< (x &&& 31)) = 0))) ∧ M = M1) := by
  refine Ct.of (by decide) (Nat.le_of_ble_eq_true rfl) ?_
  intro p e s m args below meth c ls Q X hin hl hw hQ
  have hx := X.1
  have hb := X.2.1
  have hl : lv_has ls 2 [(0, .ref a), (1, .int x)] := hl
  refine lv_aload_n hx hb dX5_hasEdition_0 rfl (lv_at hl 0 rfl) ?_
  refine gf_X5_21 X hw (h0) rfl dX5_hasEdition_1 ?_
  refine lv_iconst (v := 1) hx hb dX5_hasEdition_4 (by decide) ?_
  refine lv_iload_n hx hb dX5_hasEdition_5 rfl (lv_at hl 1 rfl) ?_
  refine lv_ishl hx hb dX5_hasEdition_6 ?_
  refine lv_iand hx hb dX5_hasEdition_7 ?_
  refine lv_if_eq (tgt := 15) hx hb dX5_hasEdition_8 (by decide) (fun c8 => ?_) (fun c8 => ?_)
  · refine lv_iconst (v := 0) hx hb dX5_hasEdition_15 (by decide) ?_
    exact mm_zret hQ X hw (rfl) (⟨by rw [bI_f (fun h9 => h9 c8)], rfl⟩) (Nat.le_of_ble_eq_true rfl) (Nat.le_of_ble_eq_true rfl) dX5_hasEdition_16
  · refine lv_iconst (v := 1) hx hb dX5_hasEdition_11 (by decide) ?_
    refine lv_goto (tgt := 16) hx hb dX5_hasEdition_12 (by decide) ?_
    exact mm_zret hQ X hw (rfl) (⟨by rw [bI_t c8], rfl⟩) (Nat.le_of_ble_eq_true rfl) (Nat.le_of_ble_eq_true rfl) dX5_hasEdition_16
set_option maxHeartbeats 4000000 in
set_option maxRecDepth 100000 in
theorem c_votedFor (l : Launch) (G : mG) (M : mM) (a : Nat) (wt bd vt hl0 : Int32) (x : Int32) (h0 : M (a) = some (.inr (5, [.int wt, .int bd, .int vt, .int hl0]))) : Ct l yX5_votedFor cX5_votedFor 2 (some FieldType.boolean) (mm_r 0 0 0) G [.ref a, .int x] M (fun r M1 => r = some (.int (bI (¬ vt &&& (1 <<< (x &&& 31)) = 0))) ∧ M = M1) := by
  refine Ct.of (by decide) (Nat.le_of_ble_eq_true rfl) ?_
  intro p e s m args below meth c ls Q X hin hl hw hQ
  have hx := X.1
  have hb := X.2.1
  have hl : lv_has ls 2 [(0, .ref a), (1, .int x)] := hl
  refine lv_aload_n hx hb dX5_votedFor_0 rfl (lv_at hl 0 rfl) ?_
  refine gf_X5_9 X hw (h0) rfl dX5_votedFor_1 ?_
  refine lv_iconst (v := 1) hx hb dX5_votedFor_4 (by decide) ?_
  refine lv_iload_n hx hb dX5_votedFor_5 rfl (lv_at hl 1 rfl) ?_
  refine lv_ishl hx hb dX5_votedFor_6 ?_
  refine lv_iand hx hb dX5_votedFor_7 ?_
  refine lv_if_eq (tgt := 15) hx hb dX5_votedFor_8 (by decide) (fun c8 => ?_) (fun c8 => ?_)
  · refine lv_iconst (v := 0) hx hb dX5_votedFor_15 (by decide) ?_
    exact mm_zret hQ X hw (rfl) (⟨by rw [bI_f (fun h9 => h9 c8)], rfl⟩) (Nat.le_of_ble_eq_true rfl) (Nat.le_of_ble_eq_true rfl) dX5_votedFor_16
  · refine lv_iconst (v := 1) hx hb dX5_votedFor_11 (by decide) ?_
    refine lv_goto (tgt := 16) hx hb dX5_votedFor_12 (by decide) ?_
    exact mm_zret hQ X hw (rfl) (⟨by rw [bI_t c8], rfl⟩) (Nat.le_of_ble_eq_true rfl) (Nat.le_of_ble_eq_true rfl) dX5_votedFor_16
set_option maxHeartbeats 4000000 in
set_option maxRecDepth 100000 in
theorem c_setVote (l : Launch) (G : mG) (M : mM) (a : Nat) (wt bd vt hl0 : Int32) (x y : Int32) (h0 : M (a) = some (.inr (5, [.int wt, .int bd, .int vt, .int hl0]))) : Ct l yX5_setVote cX5_setVote 4 none (mm_r 0 0 0) G [.ref a, .int x, .int y] M (fun r M1 => r = none ∧ M1 = mm_up M a (oNo wt bd (if y = 0 then vt &&& ((1 <<< (x &&& 31)) ^^^ (-1)) else vt ||| (1 <<< (x &&& 31))) hl0)) := by
  refine Ct.of (by decide) (Nat.le_of_ble_eq_true rfl) ?_
  intro p e s m args below meth c ls Q X hin hl hw hQ
  have hx := X.1
  have hb := X.2.1
  have hl : lv_has ls 4 [(0, .ref a), (1, .int x), (2, .int y)] := hl
  refine lv_iconst (v := 1) hx hb dX5_setVote_0 (by decide) ?_
  refine lv_iload_n hx hb dX5_setVote_1 rfl (lv_at hl 1 rfl) ?_
  refine lv_ishl hx hb dX5_setVote_2 ?_
  refine lv_istore_n (lv' := [(3, .int (1 <<< (x &&& 31))), (0, .ref a), (1, .int x), (2, .int y)]) hx hb dX5_setVote_3 rfl hl (by decide) rfl (fun ls hl => ?_)
  refine lv_aload_n hx hb dX5_setVote_4 rfl (lv_at hl 1 rfl) ?_
  refine lv_iload_n hx hb dX5_setVote_5 rfl (lv_at hl 3 rfl) ?_
  refine lv_if_eq (tgt := 18) hx hb dX5_setVote_6 (by decide) (fun c6 => ?_) (fun c6 => ?_)
  · refine lv_aload_n hx hb dX5_setVote_18 rfl (lv_at hl 1 rfl) ?_
    refine gf_X5_9 X hw (h0) rfl dX5_setVote_19 ?_
    refine lv_iload_n hx hb dX5_setVote_22 rfl (lv_at hl 0 rfl) ?_
    refine lv_iconst (v := (-1)) hx hb dX5_setVote_23 (by decide) ?_
    refine lv_ixor hx hb dX5_setVote_24 ?_
    refine lv_iand hx hb dX5_setVote_25 ?_
    refine pf_X5_9 X hw (h0) (Nat.le_of_ble_eq_true rfl) dX5_setVote_26 (fun H9 locs9 hw => ?_)
    obtain ⟨M_1, eM_1⟩ : ∃ z, z = mm_up M (a) (.inr (5, [.int wt, .int bd, .int (vt &&& ((1 <<< (x &&& 31)) ^^^ ((-1)))), .int hl0])) := ⟨_, rfl⟩
    have hw : mm_W G.1 vwCl (ct_A M s.heap.size) s.heap M_1 H9 locs9 := by rw [eM_1]; exact hw
    have f0_M_1 : M_1 (a) = some (.inr (5, [.int wt, .int bd, .int (vt &&& ((1 <<< (x &&& 31)) ^^^ ((-1)))), .int hl0])) := by rw [eM_1]; exact mm_up_s _ _ _
    exact mm_vret hQ X hw (⟨rfl, by rw [if_pos c6]; exact eM_1⟩) (Nat.le_of_ble_eq_true rfl) (Nat.le_of_ble_eq_true rfl) dX5_setVote_29
  · refine lv_aload_n hx hb dX5_setVote_9 rfl (lv_at hl 1 rfl) ?_
    refine gf_X5_9 X hw (h0) rfl dX5_setVote_10 ?_
    refine lv_iload_n hx hb dX5_setVote_13 rfl (lv_at hl 0 rfl) ?_
    refine lv_ior hx hb dX5_setVote_14 ?_
    refine lv_goto (tgt := 26) hx hb dX5_setVote_15 (by decide) ?_
    refine pf_X5_9 X hw (h0) (Nat.le_of_ble_eq_true rfl) dX5_setVote_26 (fun H9 locs9 hw => ?_)
    obtain ⟨M_2, eM_2⟩ : ∃ z, z = mm_up M (a) (.inr (5, [.int wt, .int bd, .int (vt ||| (1 <<< (x &&& 31))), .int hl0])) := ⟨_, rfl⟩
    have hw : mm_W G.1 vwCl (ct_A M s.heap.size) s.heap M_2 H9 locs9 := by rw [eM_2]; exact hw
    have f0_M_2 : M_2 (a) = some (.inr (5, [.int wt, .int bd, .int (vt ||| (1 <<< (x &&& 31))), .int hl0])) := by rw [eM_2]; exact mm_up_s _ _ _
    exact mm_vret hQ X hw (⟨rfl, by rw [if_neg c6]; exact eM_2⟩) (Nat.le_of_ble_eq_true rfl) (Nat.le_of_ble_eq_true rfl) dX5_setVote_29
set_option maxHeartbeats 4000000 in
set_option maxRecDepth 100000 in
theorem c_priceOf (l : Launch) (G : mG) (M : mM) (a pr me : Nat) (nm hh sta : Int32) (f f2 : Nat → Int32) (x : Int32) (h0 : M (a) = some (.inr (2, [.int nm, .ref pr, .ref me, .int hh, .int sta]))) (h1 : M (pr) = some (aI G 9 (f))) (h2 : M (me) = some (aI G 8 (f2))) : Ct l yX2_priceOf cX2_priceOf 2 (some FieldType.int) (mm_r 1 0 0) G [.ref a, .int x] M (fun r M1 => r = some (.int (if 0 ≤ x ∧ x < 9 then f (cl x) else -2)) ∧ M = M1) := by
  refine Ct.of (by decide) (Nat.le_of_ble_eq_true rfl) ?_
  intro p e s m args below meth c ls Q X hin hl hw hQ
  have hx := X.1
  have hb := X.2.1
  have hl : lv_has ls 2 [(0, .ref a), (1, .int x)] := hl
  refine lv_iload_n hx hb dX2_priceOf_0 rfl (lv_at hl 1 rfl) ?_
  refine lv_aload_n hx hb dX2_priceOf_1 rfl (lv_at hl 0 rfl) ?_
  refine gf_X2_9 X hw (h0) rfl dX2_priceOf_2 ?_
  refine mi_ilen X hw (h1) dX2_priceOf_5 ?_
  refine W.eq (g2 := F0 m 6 ls [.int 9, .int x]) rfl ?_
  refine mm_callSN (As := [.int x, .int 9]) (rest := []) X hw (c_isBelow l G _ (x) (9)) wd_X2_28 ⟨Nat.le_of_ble_eq_true rfl, Nat.le_of_ble_eq_true rfl⟩ ⟨Nat.le_of_ble_eq_true rfl, Nat.le_of_ble_eq_true rfl⟩ rfl rfl (Nat.le_of_ble_eq_true rfl) hl.1 dX2_priceOf_6 (fun v9 M9 H9 locs9 hp9 hw => ?_)
  obtain ⟨rfl, rfl⟩ := hp9
  refine W.eq (g2 := F0 m 9 ls [.int (bI (0 ≤ x ∧ x < 9))]) rfl ?_
  refine mm_ifeqB (tgt := 21) hx hb dX2_priceOf_9 (by decide) (fun c9 => ?_) (fun c9 => ?_)
  · refine lv_bipush (v := (-2)) hx hb dX2_priceOf_21 (by decide) ?_
    exact mm_iret hQ X hw (⟨by rw [if_neg c9], rfl⟩) (Nat.le_of_ble_eq_true rfl) (Nat.le_of_ble_eq_true rfl) dX2_priceOf_23
  · have b_x : cl x < 9 := cl_lt (n := 9) rfl (by decide) c9
    refine lv_aload_n hx hb dX2_priceOf_12 rfl (lv_at hl 0 rfl) ?_
    refine gf_X2_9 X hw (h0) rfl dX2_priceOf_13 ?_
    refine lv_iload_n hx hb dX2_priceOf_16 rfl (lv_at hl 1 rfl) ?_
    refine mi_iald X hw (h1) (cl x) (nI_cl c9.1) (b_x) (by decide) dX2_priceOf_17 ?_
    refine lv_goto (tgt := 23) hx hb dX2_priceOf_18 (by decide) ?_
    exact mm_iret hQ X hw (⟨by rw [if_pos c9], rfl⟩) (Nat.le_of_ble_eq_true rfl) (Nat.le_of_ble_eq_true rfl) dX2_priceOf_23
set_option maxHeartbeats 4000000 in
set_option maxRecDepth 100000 in
theorem c_meaningOf (l : Launch) (G : mG) (M : mM) (a pr me : Nat) (nm hh sta : Int32) (f f2 : Nat → Int32) (x : Int32) (h0 : M (a) = some (.inr (2, [.int nm, .ref pr, .ref me, .int hh, .int sta]))) (h1 : M (pr) = some (aI G 9 (f))) (h2 : M (me) = some (aI G 8 (f2))) : Ct l yX2_meaningOf cX2_meaningOf 2 (some FieldType.int) (mm_r 1 0 0) G [.ref a, .int x] M (fun r M1 => r = some (.int (if 0 ≤ x ∧ x < 8 then f2 (cl x) else -2)) ∧ M = M1) := by
  refine Ct.of (by decide) (Nat.le_of_ble_eq_true rfl) ?_
  intro p e s m args below meth c ls Q X hin hl hw hQ
  have hx := X.1
  have hb := X.2.1
  have hl : lv_has ls 2 [(0, .ref a), (1, .int x)] := hl
  refine lv_iload_n hx hb dX2_meaningOf_0 rfl (lv_at hl 1 rfl) ?_
  refine lv_aload_n hx hb dX2_meaningOf_1 rfl (lv_at hl 0 rfl) ?_
  refine gf_X2_15 X hw (h0) rfl dX2_meaningOf_2 ?_
  refine mi_ilen X hw (h2) dX2_meaningOf_5 ?_
  refine W.eq (g2 := F0 m 6 ls [.int 8, .int x]) rfl ?_
  refine mm_callSN (As := [.int x, .int 8]) (rest := []) X hw (c_isBelow l G _ (x) (8)) wd_X2_28 ⟨Nat.le_of_ble_eq_true rfl, Nat.le_of_ble_eq_true rfl⟩ ⟨Nat.le_of_ble_eq_true rfl, Nat.le_of_ble_eq_true rfl⟩ rfl rfl (Nat.le_of_ble_eq_true rfl) hl.1 dX2_meaningOf_6 (fun v9 M9 H9 locs9 hp9 hw => ?_)
  obtain ⟨rfl, rfl⟩ := hp9
  refine W.eq (g2 := F0 m 9 ls [.int (bI (0 ≤ x ∧ x < 8))]) rfl ?_
  refine mm_ifeqB (tgt := 21) hx hb dX2_meaningOf_9 (by decide) (fun c9 => ?_) (fun c9 => ?_)
  · refine lv_bipush (v := (-2)) hx hb dX2_meaningOf_21 (by decide) ?_
    exact mm_iret hQ X hw (⟨by rw [if_neg c9], rfl⟩) (Nat.le_of_ble_eq_true rfl) (Nat.le_of_ble_eq_true rfl) dX2_meaningOf_23
  · have b_x : cl x < 8 := cl_lt (n := 8) rfl (by decide) c9
    refine lv_aload_n hx hb dX2_meaningOf_12 rfl (lv_at hl 0 rfl) ?_
    refine gf_X2_15 X hw (h0) rfl dX2_meaningOf_13 ?_
    refine lv_iload_n hx hb dX2_meaningOf_16 rfl (lv_at hl 1 rfl) ?_
    refine mi_iald X hw (h2) (cl x) (nI_cl c9.1) (b_x) (by decide) dX2_meaningOf_17 ?_
    refine lv_goto (tgt := 23) hx hb dX2_meaningOf_18 (by decide) ?_
    exact mm_iret hQ X hw (⟨by rw [if_pos c9], rfl⟩) (Nat.le_of_ble_eq_true rfl) (Nat.le_of_ble_eq_true rfl) dX2_meaningOf_23
set_option maxHeartbeats 4000000 in
set_option maxRecDepth 100000 in
theorem c_traitOf (l : Launch) (G : mG) (M : mM) (a pr me : Nat) (nm hh sta : Int32) (f f2 : Nat → Int32) (i : Nat) (hi : i < 17) (h0 : M (a) = some (.inr (2, [.int nm, .ref pr, .ref me, .int hh, .int sta]))) (h1 : M (pr) = some (aI G 9 (f))) (h2 : M (me) = some (aI G 8 (f2))) : Ct l yX2_traitOf cX2_traitOf 2 (some FieldType.int) (mm_r 2 0 0) G [.ref a, .int (nI i)] M (fun r M1 => r = some (.int (if i < 9 then f i else f2 (i - 9))) ∧ M = M1) := by
  refine Ct.of (by decide) (Nat.le_of_ble_eq_true rfl) ?_
  intro p e s m args below meth c ls Q X hin hl hw hQ
  have hx := X.1
  have hb := X.2.1
  have hl : lv_has ls 2 [(0, .ref a), (1, .int (nI i))] := hl
  refine lv_iload_n hx hb dX2_traitOf_0 rfl (lv_at hl 1 rfl) ?_
  refine lv_bipush (v := 9) hx hb dX2_traitOf_1 (by decide) ?_
  refine lv_icmp_ge (tgt := 14) hx hb dX2_traitOf_3 (by decide) (fun c3 => ?_) (fun c3 => ?_)
  · refine lv_aload_n hx hb dX2_traitOf_14 rfl (lv_at hl 0 rfl) ?_
    refine lv_iload_n hx hb dX2_traitOf_15 rfl (lv_at hl 1 rfl) ?_
    refine lv_bipush (v := 9) hx hb dX2_traitOf_16 (by decide) ?_
    refine lv_isub hx hb dX2_traitOf_18 ?_
    refine mm_callV (As := [.int ((nI i) - 9)]) (rest := []) X hw (c_meaningOf l G _ a pr me nm hh sta f f2 (nI i - 9) h0 h1 h2) (h0) rfl wd_X2_36 ⟨Nat.le_of_ble_eq_true rfl, Nat.le_of_ble_eq_true rfl⟩ ⟨Nat.le_of_ble_eq_true rfl, Nat.le_of_ble_eq_true rfl⟩ rfl rfl (Nat.le_of_ble_eq_true rfl) hl.1 dX2_traitOf_19 (fun v9 M9 H9 locs9 hp9 hw => ?_)
    obtain ⟨rfl, rfl⟩ := hp9
    refine W.eq (g2 := F0 m 22 ls [.int (if 0 ≤ nI i - 9 ∧ nI i - 9 < 8 then f2 (cl (nI i - 9)) else -2)]) rfl ?_
    exact mm_iret hQ X hw (⟨by have h9 : 9 ≤ i := nle (a := 9) (by decide) (by omega) c3; rw [show nI i - 9 = nI (i - 9) from pk_sub h9, if_pos (show 0 ≤ nI (i - 9) ∧ nI (i - 9) < 8 from in_lt (n := 8) (by omega) (by decide)), if_neg (show ¬ i < 9 by omega), cl_n (by omega)], rfl⟩) (Nat.le_of_ble_eq_true rfl) (Nat.le_of_ble_eq_true rfl) dX2_traitOf_22
  · refine lv_aload_n hx hb dX2_traitOf_6 rfl (lv_at hl 0 rfl) ?_
    refine lv_iload_n hx hb dX2_traitOf_7 rfl (lv_at hl 1 rfl) ?_
    refine mm_callV (As := [.int (nI i)]) (rest := []) X hw (c_priceOf l G _ a pr me nm hh sta f f2 (nI i) h0 h1 h2) (h0) rfl wd_X2_32 ⟨Nat.le_of_ble_eq_true rfl, Nat.le_of_ble_eq_true rfl⟩ ⟨Nat.le_of_ble_eq_true rfl, Nat.le_of_ble_eq_true rfl⟩ rfl rfl (Nat.le_of_ble_eq_true rfl) hl.1 dX2_traitOf_8 (fun v9 M9 H9 locs9 hp9 hw => ?_)
    obtain ⟨rfl, rfl⟩ := hp9
    refine W.eq (g2 := F0 m 11 ls [.int (if 0 ≤ nI i ∧ nI i < 9 then f (cl (nI i)) else -2)]) rfl ?_
    refine lv_goto (tgt := 22) hx hb dX2_traitOf_11 (by decide) ?_
    exact mm_iret hQ X hw (⟨by have h9 : i < 9 := nnle (a := 9) (by decide) (by omega) c3; rw [if_pos (show 0 ≤ nI i ∧ nI i < 9 from in_lt (n := 9) h9 (by decide)), if_pos h9, cl_n (by omega)], rfl⟩) (Nat.le_of_ble_eq_true rfl) (Nat.le_of_ble_eq_true rfl) dX2_traitOf_22
