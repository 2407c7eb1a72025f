set_option maxHeartbeats 4000000 in
set_option maxRecDepth 100000 in
theorem m_ones (l : Launch) (G : mG) (M : mM) (v : Int64) : Ct l yX7_ones cX7_ones 5 (some FieldType.long) (mm_r 0 0 0) G [.long v] M (fun r M1 => r = some (.long (on_go v 64)) ∧ M = M1) := by
  refine Ct.of (by decide) (Nat.le_of_ble_eq_true rfl) ?_
  intro p e s m args below meth c ls Q X hin hl hw hQ
  have hx := X.1
  have hb := X.2.1
  have hl : lv_has ls 5 [(0, .long v)] := hl
  refine lv_lconst (v := 0) hx hb dX7_ones_0 (by decide) ?_
  refine lv_lstore_n (lv' := [(2, .long 0), (0, .long v)]) hx hb dX7_ones_1 rfl hl (by decide) rfl (fun ls hl => ?_)
  refine lv_iconst (v := 0) hx hb dX7_ones_2 (by decide) ?_
  refine lv_istore (lv' := [(4, .int 0), (2, .long 0), (0, .long v)]) hx hb dX7_ones_3 hl (by decide) rfl (fun ls hl => ?_)
  have loop : ∀ (n : Nat) (k : Nat) (q : Int64) (H1 : Heap) (locs1 : List Loc) (ls1 : Array Slot), (hk : k ≤ 64) → (hn : 65 ≤ k + n) → (hq : q = on_go v k) → mm_W G.1 vwCl (ct_A M s.heap.size) s.heap M H1 locs1 → lv_has ls1 5 [(0, .long v), (2, .long q), (4, .int (nI k))] → W p l e (mm_r 0 0 0) s m args below meth c H1 locs1 0 0 Q (F0 m 5 ls1 []) := by
    intro n
    induction n with
    | zero => intro k q H1 locs1 ls hk hn hq hw hl; exact absurd hn (by omega)
    | succ n ih =>
      intro k q H1 locs1 ls hk hn hq hw hl
      refine lv_iload hx hb dX7_ones_5 (lv_at hl 2 rfl) ?_
      refine lv_bipush (v := 64) hx hb dX7_ones_7 (by decide) ?_
      refine lv_icmp_ge (tgt := 27) hx hb dX7_ones_9 (by decide) (fun c9 => ?_) (fun c9 => ?_)
      · have hk9 : k = 64 := by have := nle (a := 64) (by decide) (by omega) c9; omega
        refine lv_lload_n hx hb dX7_ones_27 rfl (lv_at hl 1 rfl) ?_
        exact mm_lret hQ X hw (⟨by rw [hq, hk9], rfl⟩) (Nat.le_of_ble_eq_true rfl) (Nat.le_of_ble_eq_true rfl) dX7_ones_28
      · have hk9 : k < 64 := nnle (a := 64) (by decide) (by omega) c9
        refine lv_lload_n hx hb dX7_ones_12 rfl (lv_at hl 1 rfl) ?_
        refine lv_lload_n hx hb dX7_ones_13 rfl (lv_at hl 0 rfl) ?_
        refine lv_iload hx hb dX7_ones_14 (lv_at hl 2 rfl) ?_
        refine lv_lshr (v := v >>> ((nI k : Int32).toInt64 &&& 63)) hx hb dX7_ones_16 rfl ?_
        refine lv_lconst (v := 1) hx hb dX7_ones_17 (by decide) ?_
        refine lv_land hx hb dX7_ones_18 ?_
        refine lv_ladd hx hb dX7_ones_19 ?_
        refine lv_lstore_n (lv' := [(2, .long (q + ((v >>> ((nI k : Int32).toInt64 &&& 63)) &&& 1))), (0, .long v), (4, .int (nI k))]) hx hb dX7_ones_20 rfl hl (by decide) rfl (fun ls hl => ?_)
        refine lv_iinc (v := nI (k + 1)) (lv' := [(4, .int (nI (k + 1))), (2, .long (q + ((v >>> ((nI k : Int32).toInt64 &&& 63)) &&& 1))), (0, .long v)]) hx hb dX7_ones_21 hl (k := 2) rfl (nI_s k) (by decide) rfl (fun ls hl => ?_)
        refine lv_goto (tgt := 5) hx hb dX7_ones_24 (by decide) ?_
        exact ih (k + 1) (q + ((v >>> ((nI k : Int32).toInt64 &&& 63)) &&& 1)) _ _ _ (by omega) (by omega) (by rw [hq]; rfl) hw  (lv_sub hl [2, 1, 0] rfl)
  exact loop 65 0 0 _ _ _ (by omega) (by omega) (rfl) hw  (lv_sub hl [2, 1, 0] rfl)
set_option maxHeartbeats 4000000 in
set_option maxRecDepth 100000 in
theorem m_meant (l : Launch) (G : mG) (M : mM) (k : Int32) (v : Int64) : Ct l yX7_meant cX7_meant 3 (some FieldType.long) (mm_r 1 0 0) G [.int k, .long v] M (fun r M1 => r = some (.long (mean k v)) ∧ M = M1) := by
  refine Ct.of (by decide) (Nat.le_of_ble_eq_true rfl) ?_
  intro p e s m args below meth c ls Q X hin hl hw hQ
  have hx := X.1
  have hb := X.2.1
  have hl : lv_has ls 3 [(0, .int k), (1, .long v)] := hl
  refine lv_iload_n hx hb dX7_meant_0 rfl (lv_at hl 0 rfl) ?_
  rcases mm_sw k 0 5 (by decide) (by decide) with ⟨k9, hk9, c1⟩ | c1
  · rcases (show k9 = 0 ∨ k9 = 1 ∨ k9 = 2 ∨ k9 = 3 ∨ k9 = 4 by omega) with rfl | rfl | rfl | rfl | rfl
    · have c1 : k = 0 := c1
      refine lv_tableIn (off := 35) (tgt := 36) hx hb dX7_meant_1 (by rw [c1]; decide) (by rw [c1]; decide) (by rw [c1]; rfl) (by decide) ?_
      refine lv_lload_n hx hb dX7_meant_36 rfl (lv_at hl 1 rfl) ?_
      refine lv_lconst (v := 0) hx hb dX7_meant_37 (by decide) ?_
      refine W.lcmp hx hb dX7_meant_38 ?_
      refine mm_lif_ge (tgt := 47) hx hb dX7_meant_39 (by decide) (fun c39 => ?_) (fun c39 => ?_)
      · refine lv_lload_n hx hb dX7_meant_47 rfl (lv_at hl 1 rfl) ?_
        exact mm_lret hQ X hw (⟨by rw [mean, if_pos c1, if_pos c39], rfl⟩) (Nat.le_of_ble_eq_true rfl) (Nat.le_of_ble_eq_true rfl) dX7_meant_48
      · refine lv_lload_n hx hb dX7_meant_42 rfl (lv_at hl 1 rfl) ?_
        refine lv_lneg hx hb dX7_meant_43 ?_
        refine lv_goto (tgt := 48) hx hb dX7_meant_44 (by decide) ?_
        exact mm_lret hQ X hw (⟨by rw [mean, if_pos c1, if_neg c39], rfl⟩) (Nat.le_of_ble_eq_true rfl) (Nat.le_of_ble_eq_true rfl) dX7_meant_48
    · have c1 : k = 1 := c1
      refine lv_tableIn (off := 48) (tgt := 49) hx hb dX7_meant_1 (by rw [c1]; decide) (by rw [c1]; decide) (by rw [c1]; rfl) (by decide) ?_
      refine lv_lload_n hx hb dX7_meant_49 rfl (lv_at hl 1 rfl) ?_
      refine lv_lneg hx hb dX7_meant_50 ?_
      exact mm_lret hQ X hw (⟨by rw [mean, if_neg (by rw [c1]; decide), if_pos c1], rfl⟩) (Nat.le_of_ble_eq_true rfl) (Nat.le_of_ble_eq_true rfl) dX7_meant_51
    · have c1 : k = 2 := c1
      refine lv_tableIn (off := 51) (tgt := 52) hx hb dX7_meant_1 (by rw [c1]; decide) (by rw [c1]; decide) (by rw [c1]; rfl) (by decide) ?_
      refine lv_lload_n hx hb dX7_meant_52 rfl (lv_at hl 1 rfl) ?_
      refine lv_lload_n hx hb dX7_meant_53 rfl (lv_at hl 1 rfl) ?_
      refine lv_lmul hx hb dX7_meant_54 ?_
      exact mm_lret hQ X hw (⟨by rw [mean, if_neg (by rw [c1]; decide), if_neg (by rw [c1]; decide), if_pos c1], rfl⟩) (Nat.le_of_ble_eq_true rfl) (Nat.le_of_ble_eq_true rfl) dX7_meant_55
    · have c1 : k = 3 := c1
      refine lv_tableIn (off := 55) (tgt := 56) hx hb dX7_meant_1 (by rw [c1]; decide) (by rw [c1]; decide) (by rw [c1]; rfl) (by decide) ?_
      refine lv_lload_n hx hb dX7_meant_56 rfl (lv_at hl 1 rfl) ?_
      refine lv_ldc2 (v := 2) hx hb X.2.2.2.1 (X.2.2.2.2.1 _ cn_X7_112) dX7_meant_57 ?_
      refine lv_ldiv hx hb dX7_meant_60 (by decide) ?_
      exact mm_lret hQ X hw (⟨by rw [mean, if_neg (by rw [c1]; decide), if_neg (by rw [c1]; decide), if_neg (by rw [c1]; decide), if_pos c1], rfl⟩) (Nat.le_of_ble_eq_true rfl) (Nat.le_of_ble_eq_true rfl) dX7_meant_61
    · have c1 : k = 4 := c1
      refine lv_tableIn (off := 61) (tgt := 62) hx hb dX7_meant_1 (by rw [c1]; decide) (by rw [c1]; decide) (by rw [c1]; rfl) (by decide) ?_
      refine lv_lload_n hx hb dX7_meant_62 rfl (lv_at hl 1 rfl) ?_
      refine lv_iconst (v := 1) hx hb dX7_meant_63 (by decide) ?_
      refine lv_lshr (v := v >>> ((1 : Int32).toInt64 &&& 63)) hx hb dX7_meant_64 rfl ?_
      exact mm_lret hQ X hw (⟨by rw [mean, if_neg (by rw [c1]; decide), if_neg (by rw [c1]; decide), if_neg (by rw [c1]; decide), if_neg (by rw [c1]; decide), if_pos c1], rfl⟩) (Nat.le_of_ble_eq_true rfl) (Nat.le_of_ble_eq_true rfl) dX7_meant_65
  · refine lv_tableOut (tgt := 66) hx hb dX7_meant_1 c1 (by decide) ?_
    refine lv_lload_n hx hb dX7_meant_66 rfl (lv_at hl 1 rfl) ?_
    refine mm_callS (As := [.long v]) (rest := []) X hw (m_ones l G _ v) wd_X7_114 ⟨Nat.le_of_ble_eq_true rfl, Nat.le_of_ble_eq_true rfl⟩ ⟨Nat.le_of_ble_eq_true rfl, Nat.le_of_ble_eq_true rfl⟩ rfl rfl (Nat.le_of_ble_eq_true rfl) hl.1 dX7_meant_67 (fun v9 M9 H9 locs9 hp9 hw => ?_)
    obtain ⟨rfl, rfl⟩ := hp9
    refine W.eq (g2 := F0 m 70 ls [.long (on_go v 64)]) rfl ?_
    exact mm_lret hQ X hw (⟨by rw [mean, if_neg (by intro h9; rw [h9] at c1; revert c1; decide), if_neg (by intro h9; rw [h9] at c1; revert c1; decide), if_neg (by intro h9; rw [h9] at c1; revert c1; decide), if_neg (by intro h9; rw [h9] at c1; revert c1; decide), if_neg (by intro h9; rw [h9] at c1; revert c1; decide)], rfl⟩) (Nat.le_of_ble_eq_true rfl) (Nat.le_of_ble_eq_true rfl) dX7_meant_70
set_option maxHeartbeats 4000000 in
set_option maxRecDepth 100000 in
theorem m_worked (l : Launch) (G : mG) (M : mM) (k : Int32) (x y : Int64) (hy : ¬ k = 2 → ¬ k = 3 → ¬ k = 4 → ¬ y = 0) : Ct l yX7_worked cX7_worked 5 (some FieldType.long) (mm_r 0 0 0) G [.int k, .long x, .long y] M (fun r M1 => r = some (.long (wk k x y)) ∧ M = M1) := by
  refine Ct.of (by decide) (Nat.le_of_ble_eq_true rfl) ?_
  intro p e s m args below meth c ls Q X hin hl hw hQ
  have hx := X.1
  have hb := X.2.1
  have hl : lv_has ls 5 [(0, .int k), (1, .long x), (3, .long y)] := hl
  refine lv_iload_n hx hb dX7_worked_0 rfl (lv_at hl 0 rfl) ?_
  refine lv_iconst (v := 2) hx hb dX7_worked_1 (by decide) ?_
  refine lv_icmp_ne (tgt := 11) hx hb dX7_worked_2 (by decide) (fun c2 => ?_) (fun c2 => ?_)
  · refine lv_iload_n hx hb dX7_worked_11 rfl (lv_at hl 0 rfl) ?_
    refine lv_iconst (v := 3) hx hb dX7_worked_12 (by decide) ?_
    refine lv_icmp_ne (tgt := 22) hx hb dX7_worked_13 (by decide) (fun c13 => ?_) (fun c13 => ?_)
    · refine lv_iload_n hx hb dX7_worked_22 rfl (lv_at hl 0 rfl) ?_
      refine lv_iconst (v := 4) hx hb dX7_worked_23 (by decide) ?_
      refine lv_icmp_ne (tgt := 33) hx hb dX7_worked_24 (by decide) (fun c24 => ?_) (fun c24 => ?_)
      · refine lv_lload_n hx hb dX7_worked_33 rfl (lv_at hl 1 rfl) ?_
        refine lv_lload_n hx hb dX7_worked_34 rfl (lv_at hl 2 rfl) ?_
        refine lv_ldiv hx hb dX7_worked_35 (hy c2 c13 c24) ?_
        exact mm_lret hQ X hw (⟨by rw [wk, if_neg c2, if_neg c13, if_neg c24], rfl⟩) (Nat.le_of_ble_eq_true rfl) (Nat.le_of_ble_eq_true rfl) dX7_worked_36
      · refine lv_lload_n hx hb dX7_worked_27 rfl (lv_at hl 1 rfl) ?_
        refine lv_lload_n hx hb dX7_worked_28 rfl (lv_at hl 2 rfl) ?_
        refine lv_lmul hx hb dX7_worked_29 ?_
        refine lv_goto (tgt := 36) hx hb dX7_worked_30 (by decide) ?_
        exact mm_lret hQ X hw (⟨by rw [wk, if_neg c2, if_neg c13, if_pos c24], rfl⟩) (Nat.le_of_ble_eq_true rfl) (Nat.le_of_ble_eq_true rfl) dX7_worked_36
    · refine lv_lload_n hx hb dX7_worked_16 rfl (lv_at hl 1 rfl) ?_
      refine lv_lload_n hx hb dX7_worked_17 rfl (lv_at hl 2 rfl) ?_
      refine lv_lsub hx hb dX7_worked_18 ?_
      refine lv_goto (tgt := 36) hx hb dX7_worked_19 (by decide) ?_
      exact mm_lret hQ X hw (⟨by rw [wk, if_neg c2, if_pos c13], rfl⟩) (Nat.le_of_ble_eq_true rfl) (Nat.le_of_ble_eq_true rfl) dX7_worked_36
  · refine lv_lload_n hx hb dX7_worked_5 rfl (lv_at hl 1 rfl) ?_
    refine lv_lload_n hx hb dX7_worked_6 rfl (lv_at hl 2 rfl) ?_
    refine lv_ladd hx hb dX7_worked_7 ?_
    refine lv_goto (tgt := 36) hx hb dX7_worked_8 (by decide) ?_
    exact mm_lret hQ X hw (⟨by rw [wk, if_pos c2], rfl⟩) (Nat.le_of_ble_eq_true rfl) (Nat.le_of_ble_eq_true rfl) dX7_worked_36
set_option maxHeartbeats 4000000 in
set_option maxRecDepth 100000 in
theorem m_digested (l : Launch) (G : mG) (M : mM) (g : Nat) (L : Nat → Nat) (S : sS) (cs ar : Nat → Int64) (K : Nat → Nat → Int64) (hR : RV G g L S cs ar K M) (b a : Int32) (c0 : Nat) (hc0 : c0 < 12) : Ct l yX7_digested cX7_digested 8 (some FieldType.int) (mm_r 0 0 0) G [.ref g, .int b, .int a, .int (nI c0)] M (fun r M1 => r = some (.int (dgs cs c0 b a)) ∧ M = M1) := by
  refine Ct.of (by decide) (Nat.le_of_ble_eq_true rfl) ?_
  intro p e s m args below meth c ls Q X hin hl hw hQ
  have hx := X.1
  have hb := X.2.1
  have hl : lv_has ls 8 [(0, .ref g), (1, .int b), (2, .int a), (3, .int (nI c0))] := hl
  refine lv_bipush (v := 31) hx hb dX7_digested_0 (by decide) ?_
  refine lv_iload_n hx hb dX7_digested_2 rfl (lv_at hl 1 rfl) ?_
  refine lv_imul hx hb dX7_digested_3 ?_
  refine lv_iload_n hx hb dX7_digested_4 rfl (lv_at hl 2 rfl) ?_
  refine lv_iadd hx hb dX7_digested_5 ?_
  refine lv_istore (lv' := [(4, .int ((31 * b) + a)), (0, .ref g), (1, .int b), (2, .int a), (3, .int (nI c0))]) hx hb dX7_digested_6 hl (by decide) rfl (fun ls hl => ?_)
  refine lv_iconst (v := 0) hx hb dX7_digested_8 (by decide) ?_
  refine lv_istore (lv' := [(5, .int 0), (4, .int ((31 * b) + a)), (0, .ref g), (1, .int b), (2, .int a), (3, .int (nI c0))]) hx hb dX7_digested_9 hl (by decide) rfl (fun ls hl => ?_)
  have loop : ∀ (n : Nat) (k : Nat) (d : Int32) (H1 : Heap) (locs1 : List Loc) (ls1 : Array Slot), (hk : k ≤ 4) → (hn : 5 ≤ k + n) → (hd : d = dg_go (fun k => cs (4 * c0 + k)) (31 * b + a) k) → mm_W G.1 vwCl (ct_A M s.heap.size) s.heap M H1 locs1 → lv_has ls1 8 [(0, .ref g), (3, .int (nI c0)), (4, .int d), (5, .int (nI k))] → W p l e (mm_r 0 0 0) s m args below meth c H1 locs1 0 0 Q (F0 m 11 ls1 []) := by
    intro n
    induction n with
    | zero => intro k d H1 locs1 ls hk hn hd hw hl; exact absurd hn (by omega)
    | succ n ih =>
      intro k d H1 locs1 ls hk hn hd hw hl
      refine lv_iload hx hb dX7_digested_11 (lv_at hl 3 rfl) ?_
      refine lv_iconst (v := 4) hx hb dX7_digested_13 (by decide) ?_
      refine lv_icmp_ge (tgt := 61) hx hb dX7_digested_14 (by decide) (fun c14 => ?_) (fun c14 => ?_)
      · have hk9 : k = 4 := by have := nle (a := 4) (by decide) (by omega) c14; omega
        refine lv_iload hx hb dX7_digested_61 (lv_at hl 2 rfl) ?_
        exact mm_iret hQ X hw (⟨by rw [hd, hk9]; rfl, rfl⟩) (Nat.le_of_ble_eq_true rfl) (Nat.le_of_ble_eq_true rfl) dX7_digested_63
      · have hk9 : k < 4 := nnle (a := 4) (by decide) (by omega) c14
        refine lv_aload_n hx hb dX7_digested_17 rfl (lv_at hl 0 rfl) ?_
        refine rg_54 X hw hR dX7_digested_18 ?_
        refine lv_iconst (v := 4) hx hb dX7_digested_21 (by decide) ?_
        refine lv_iload_n hx hb dX7_digested_22 rfl (lv_at hl 1 rfl) ?_
        refine lv_imul hx hb dX7_digested_23 ?_
        refine lv_iload hx hb dX7_digested_24 (lv_at hl 3 rfl) ?_
        refine lv_iadd hx hb dX7_digested_26 ?_
        refine rc_lald X hw hR (4 * c0 + k) (ix4 c0 k) (by omega) dX7_digested_27 ?_
        refine lv_lstore (lv' := [(6, .long (cs (4 * c0 + k))), (0, .ref g), (3, .int (nI c0)), (4, .int d), (5, .int (nI k))]) hx hb dX7_digested_28 hl (by decide) rfl (fun ls hl => ?_)
        refine lv_bipush (v := 31) hx hb dX7_digested_30 (by decide) ?_
        refine lv_iload hx hb dX7_digested_32 (lv_at hl 3 rfl) ?_
        refine lv_imul hx hb dX7_digested_34 ?_
        refine lv_lload hx hb dX7_digested_35 (lv_at hl 0 rfl) ?_
        refine lv_bipush (v := 32) hx hb dX7_digested_37 (by decide) ?_
        refine lv_lshr (v := (cs (4 * c0 + k)) >>> ((32 : Int32).toInt64 &&& 63)) hx hb dX7_digested_39 rfl ?_
        refine lv_l2i (v := ((cs (4 * c0 + k)) >>> ((32 : Int32).toInt64 &&& 63) : Int64).toInt32) hx hb dX7_digested_40 rfl ?_
        refine lv_iadd hx hb dX7_digested_41 ?_
        refine lv_istore (lv' := [(4, .int ((31 * d) + (((cs (4 * c0 + k)) >>> ((32 : Int32).toInt64 &&& 63) : Int64).toInt32))), (6, .long (cs (4 * c0 + k))), (0, .ref g), (3, .int (nI c0)), (5, .int (nI k))]) hx hb dX7_digested_42 hl (by decide) rfl (fun ls hl => ?_)
        refine lv_bipush (v := 31) hx hb dX7_digested_44 (by decide) ?_
        refine lv_iload hx hb dX7_digested_46 (lv_at hl 0 rfl) ?_
        refine lv_imul hx hb dX7_digested_48 ?_
        refine lv_lload hx hb dX7_digested_49 (lv_at hl 1 rfl) ?_
        refine lv_l2i (v := (cs (4 * c0 + k) : Int64).toInt32) hx hb dX7_digested_51 rfl ?_
        refine lv_iadd hx hb dX7_digested_52 ?_
        refine lv_istore (lv' := [(4, .int ((31 * ((31 * d) + (((cs (4 * c0 + k)) >>> ((32 : Int32).toInt64 &&& 63) : Int64).toInt32))) + ((cs (4 * c0 + k) : Int64).toInt32))), (6, .long (cs (4 * c0 + k))), (0, .ref g), (3, .int (nI c0)), (5, .int (nI k))]) hx hb dX7_digested_53 hl (by decide) rfl (fun ls hl => ?_)
        refine lv_iinc (v := nI (k + 1)) (lv' := [(5, .int (nI (k + 1))), (4, .int ((31 * ((31 * d) + (((cs (4 * c0 + k)) >>> ((32 : Int32).toInt64 &&& 63) : Int64).toInt32))) + ((cs (4 * c0 + k) : Int64).toInt32))), (6, .long (cs (4 * c0 + k))), (0, .ref g), (3, .int (nI c0))]) hx hb dX7_digested_55 hl (k := 4) rfl (nI_s k) (by decide) rfl (fun ls hl => ?_)
        refine lv_goto (tgt := 11) hx hb dX7_digested_58 (by decide) ?_
        exact ih (k + 1) _ _ _ _ (by omega) (by omega) (by rw [hd]; rfl) hw  (lv_sub hl [3, 4, 1, 0] rfl)
  exact loop 5 0 _ _ _ _ (by omega) (by omega) (rfl) hw  (lv_sub hl [2, 5, 1, 0] rfl)
set_option maxHeartbeats 4000000 in
set_option maxRecDepth 100000 in
theorem m_deploy (l : Launch) (G : mG) (M : mM) (g : Nat) (L : Nat → Nat) (S : sS) (cs ar : Nat → Int64) (K : Nat → Nat → Int64) (hR : RV G g L S cs ar K M) (ne nn nc nl ht : Nat) (hN : NM S ne nn nc nl ht) (hW : ∀ i, i < nc → ∃ k, k ≤ 24 ∧ S 14 i = nI k ∧ AC S i k) (hF : ∃ e, e < ne ∧ S 6 ht = nI e) (x : Int32) : Ct l yX7_deploy cX7_deploy 7 (some FieldType.int) (mm_r 2 0 0) G [.ref g, .int x] M (fun r M1 => r = some (.int (sp_deploy S x).1) ∧ ∃ K1, RV G g L (sp_deploy S x).2 cs ar K1 M1) := by
  refine Ct.of (by decide) (Nat.le_of_ble_eq_true rfl) ?_
  intro p e s m args below meth c ls Q X hin hl hw hQ
  have hx := X.1
  have hb := X.2.1
  have hl : lv_has ls 7 [(0, .ref g), (1, .int x)] := hl
  obtain ⟨hN0, hN1, hN2, hN7, hN8, hN12, hN13, hN18, hN19, hN5, hN6⟩ := id hN
  have h5b : cl (S 5 0) = ht := by rw [hN5, cl_n (by omega)]
  have h5c : S 5 0 = nI (cl (S 5 0)) := by rw [hN5, cl_n (by omega)]
  obtain ⟨e0, he0, ef⟩ := hF
  have pe : 0 ≤ S 6 (cl (S 5 0)) := by rw [h5b, ef]; exact nI_pos' (by omega)
  have be : cl (S 6 (cl (S 5 0))) = e0 := by rw [h5b, ef, cl_n (by omega)]
  refine lv_aload_n hx hb dX7_deploy_0 rfl (lv_at hl 0 rfl) ?_
  refine lv_iload_n hx hb dX7_deploy_1 rfl (lv_at hl 1 rfl) ?_
  refine mm_callV (As := [.int x]) (rest := []) X hw (m_isContract l G _ g L _ cs ar K hR (x) nc hN12 (by omega)) (hR.1) rfl wd_X7_109 ⟨Nat.le_of_ble_eq_true rfl, Nat.le_of_ble_eq_true rfl⟩ ⟨Nat.le_of_ble_eq_true rfl, Nat.le_of_ble_eq_true rfl⟩ rfl rfl (Nat.le_of_ble_eq_true rfl) hl.1 dX7_deploy_2 (fun v9 M9 H9 locs9 hp9 hw => ?_)
  obtain ⟨rfl, rfl⟩ := hp9
  refine W.eq (g2 := F0 m 5 ls [.int (bI (0 ≤ x ∧ x < S 12 0))]) rfl ?_
  refine mm_ifneB (tgt := 11) hx hb dX7_deploy_5 (by decide) (fun c5 => ?_) (fun c5 => ?_)
  · have b_x : cl x < nc := cl_lt hN12 (by omega) c5
    obtain ⟨j14, hj14, e14, hA⟩ := hW (cl x) b_x
    have p14 : 0 ≤ S 14 (cl x) := by rw [e14]; exact nI_pos' (by omega)
    have b14 : cl (S 14 (cl x)) = j14 := by rw [e14, cl_n (by omega)]
    refine lv_aload_n hx hb dX7_deploy_11 rfl (lv_at hl 0 rfl) ?_
    refine rg_42 X hw hR dX7_deploy_12 ?_
    refine lv_iload_n hx hb dX7_deploy_15 rfl (lv_at hl 1 rfl) ?_
    refine ri_iald X hw hR 13 rfl (cl x) (nI_cl c5.1) (by omega) dX7_deploy_16 ?_
    refine lv_iconst (v := (-1)) hx hb dX7_deploy_17 (by decide) ?_
    refine lv_icmp_ne (tgt := 30) hx hb dX7_deploy_18 (by decide) (fun c18 => ?_) (fun c18 => ?_)
    · refine lv_bipush (v := (-3)) hx hb dX7_deploy_30 (by decide) ?_
      exact mm_iret hQ X hw (by have e9 : sp_deploy S x = ((-3), S) := (by rw [sp_deploy, if_neg (fun h9 => h9 c5), if_pos c18]); rw [e9]; exact ⟨rfl, _, hR⟩) (Nat.le_of_ble_eq_true rfl) (Nat.le_of_ble_eq_true rfl) dX7_deploy_32
    · refine lv_aload_n hx hb dX7_deploy_21 rfl (lv_at hl 0 rfl) ?_
      refine rg_45 X hw hR dX7_deploy_22 ?_
      refine lv_iload_n hx hb dX7_deploy_25 rfl (lv_at hl 1 rfl) ?_
      refine ri_iald X hw hR 14 rfl (cl x) (nI_cl c5.1) (by omega) dX7_deploy_26 ?_
      refine lv_if_ne (tgt := 33) hx hb dX7_deploy_27 (by decide) (fun c27 => ?_) (fun c27 => ?_)
      · refine lv_aload_n hx hb dX7_deploy_33 rfl (lv_at hl 0 rfl) ?_
        refine rg_26 X hw hR dX7_deploy_34 ?_
        refine lv_aload_n hx hb dX7_deploy_37 rfl (lv_at hl 0 rfl) ?_
        refine rg_99 X hw hR dX7_deploy_38 ?_
        refine ri_iald X hw hR 6 rfl (cl (S 5 0)) (h5c) (by omega) dX7_deploy_41 ?_
        refine lv_istore_n (lv' := [(2, .int (S 6 (cl (S 5 0)))), (0, .ref g), (1, .int x)]) hx hb dX7_deploy_42 rfl hl (by decide) rfl (fun ls hl => ?_)
        refine lv_iconst (v := 0) hx hb dX7_deploy_43 (by decide) ?_
        refine lv_istore_n (lv' := [(3, .int 0), (2, .int (S 6 (cl (S 5 0)))), (0, .ref g), (1, .int x)]) hx hb dX7_deploy_44 rfl hl (by decide) rfl (fun ls hl => ?_)
        refine lv_bipush (v := 24) hx hb dX7_deploy_45 (by decide) ?_
        refine lv_iload_n hx hb dX7_deploy_47 rfl (lv_at hl 3 rfl) ?_
        refine lv_imul hx hb dX7_deploy_48 ?_
        refine mm_eqI (y := nI (24 * cl x + 0)) (by have h9 := m24 (cl x); rw [← nI_cl c5.1] at h9; exact h9) ?_
        refine lv_istore (lv' := [(4, .int (nI (24 * cl x + 0))), (3, .int 0), (2, .int (S 6 (cl (S 5 0)))), (0, .ref g), (1, .int x)]) hx hb dX7_deploy_49 hl (by decide) rfl (fun ls hl => ?_)
        have loop : ∀ (n : Nat) (k : Nat) (q : Int32) (H1 : Heap) (locs1 : List Loc) (ls1 : Array Slot), (hk : k ≤ j14) → (hn : j14 + 1 ≤ k + n) → (hv : dp_go S (cl (S 6 (cl (S 5 0)))) (cl x) (j14 - k) k q = dp_go S (cl (S 6 (cl (S 5 0)))) (cl x) (cl (S 14 (cl x))) 0 0) → mm_W G.1 vwCl (ct_A M s.heap.size) s.heap M H1 locs1 → lv_has ls1 7 [(0, .ref g), (1, .int x), (2, .int (S 6 (cl (S 5 0)))), (3, .int q), (4, .int (nI (24 * cl x + k)))] → W p l e (mm_r 2 0 0) s m args below meth c H1 locs1 0 0 Q (F0 m 51 ls1 []) := by
          intro n
          induction n with
          | zero => intro k q H1 locs1 ls hk hn hv hw hl; exact absurd hn (by omega)
          | succ n ih =>
            intro k q H1 locs1 ls hk hn hv hw hl
            refine lv_iload hx hb dX7_deploy_51 (lv_at hl 4 rfl) ?_
            refine lv_bipush (v := 24) hx hb dX7_deploy_53 (by decide) ?_
            refine lv_iload_n hx hb dX7_deploy_55 rfl (lv_at hl 1 rfl) ?_
            refine lv_imul hx hb dX7_deploy_56 ?_
            refine lv_aload_n hx hb dX7_deploy_57 rfl (lv_at hl 0 rfl) ?_
            refine rg_45 X hw hR dX7_deploy_58 ?_
            refine lv_iload_n hx hb dX7_deploy_61 rfl (lv_at hl 1 rfl) ?_
            refine ri_iald X hw hR 14 rfl (cl x) (nI_cl c5.1) (by omega) dX7_deploy_62 ?_
            refine lv_iadd hx hb dX7_deploy_63 ?_
            refine lv_icmp_ge (tgt := 177) hx hb dX7_deploy_64 (by decide) (fun c64 => ?_) (fun c64 => ?_)
            · rw [show (24 : Int32) * x + S 14 (cl x) = nI (24 * cl x + cl (S 14 (cl x))) from jx 24 c5.1 p14] at c64
              have hk9 : k = j14 := by have := nle (by omega) (by omega) c64; omega
              refine lv_aload_n hx hb dX7_deploy_177 rfl (lv_at hl 0 rfl) ?_
              refine rg_42 X hw hR dX7_deploy_178 ?_
              refine lv_iload_n hx hb dX7_deploy_181 rfl (lv_at hl 1 rfl) ?_
              refine lv_iload_n hx hb dX7_deploy_182 rfl (lv_at hl 2 rfl) ?_
              refine ri_iast X hw hR 13 rfl (cl x) (nI_cl c5.1) (by omega) dX7_deploy_183 (fun M9 H9 locs9 hw hR => ?_)
              refine lv_iload_n hx hb dX7_deploy_184 rfl (lv_at hl 2 rfl) ?_
              exact mm_iret hQ X hw (by rw [hk9, Nat.sub_self] at hv; have e9 : sp_deploy S x = (S 6 (cl (S 5 0)), va_up S 13 (upd (S 13) (cl x) (S 6 (cl (S 5 0))))) := (by rw [sp_deploy, if_neg (fun h9 => h9 c5), if_neg (fun h9 => h9 c18), if_neg c27, if_neg (fun h9 => h9 hv.symm)]); rw [e9]; exact ⟨rfl, _, hR⟩) (Nat.le_of_ble_eq_true rfl) (Nat.le_of_ble_eq_true rfl) dX7_deploy_185
            · rw [show (24 : Int32) * x + S 14 (cl x) = nI (24 * cl x + cl (S 14 (cl x))) from jx 24 c5.1 p14] at c64
              have hk9 : k < j14 := by have := nnle (by omega) (by omega) c64; omega
              rw [show j14 - k = (j14 - 1 - k) + 1 from by omega, dp_go_s] at hv
              refine lv_aload_n hx hb dX7_deploy_67 rfl (lv_at hl 0 rfl) ?_
              refine rg_48 X hw hR dX7_deploy_68 ?_
              refine lv_iload hx hb dX7_deploy_71 (lv_at hl 4 rfl) ?_
              refine ri_iald X hw hR 15 rfl (24 * cl x + k) (rfl) (by omega) dX7_deploy_73 ?_
              refine lv_istore (lv' := [(5, .int (S 15 (24 * cl x + k))), (0, .ref g), (1, .int x), (2, .int (S 6 (cl (S 5 0)))), (3, .int q), (4, .int (nI (24 * cl x + k)))]) hx hb dX7_deploy_74 hl (by decide) rfl (fun ls hl => ?_)
              refine lv_iload hx hb dX7_deploy_76 (lv_at hl 0 rfl) ?_
              refine lv_bipush (v := 6) hx hb dX7_deploy_78 (by decide) ?_
              refine lv_icmp_ne (tgt := 107) hx hb dX7_deploy_80 (by decide) (fun c80 => ?_) (fun c80 => ?_)
              · rw [if_neg (fun h9 => c80 h9.1)] at hv
                refine lv_iload hx hb dX7_deploy_107 (lv_at hl 0 rfl) ?_
                refine lv_iconst (v := 2) hx hb dX7_deploy_109 (by decide) ?_
                refine lv_icmp_lt (tgt := 123) hx hb dX7_deploy_110 (by decide) (fun c110 => ?_) (fun c110 => ?_)
                · refine lv_iload hx hb dX7_deploy_123 (lv_at hl 0 rfl) ?_
                  refine lv_bipush (v := 6) hx hb dX7_deploy_125 (by decide) ?_
                  refine lv_icmp_eq (tgt := 137) hx hb dX7_deploy_127 (by decide) (fun c127 => ?_) (fun c127 => ?_)
                  · refine lv_iconst (v := 1) hx hb dX7_deploy_137 (by decide) ?_
                    refine lv_goto (tgt := 142) hx hb dX7_deploy_138 (by decide) ?_
                    have tk9 : takes (S 15 (24 * cl x + k)) = 1 := by rw [takes, if_neg (fun h9 => i32_lt_nle c110 h9.1), if_pos (Or.inl c127)]
                    refine lv_istore (lv' := [(6, .int 1), (5, .int (S 15 (24 * cl x + k))), (0, .ref g), (1, .int x), (2, .int (S 6 (cl (S 5 0)))), (3, .int q), (4, .int (nI (24 * cl x + k)))]) hx hb dX7_deploy_142 hl (by decide) rfl (fun ls hl => ?_)
                    refine lv_iload_n hx hb dX7_deploy_144 rfl (lv_at hl 5 rfl) ?_
                    refine lv_iload hx hb dX7_deploy_145 (lv_at hl 0 rfl) ?_
                    refine lv_icmp_ge (tgt := 153) hx hb dX7_deploy_147 (by decide) (fun c147 => ?_) (fun c147 => ?_)
                    · rw [tk9, if_neg (fun h9 => i32_lt_nle h9 c147)] at hv
                      refine lv_iload_n hx hb dX7_deploy_153 rfl (lv_at hl 5 rfl) ?_
                      refine lv_iload hx hb dX7_deploy_154 (lv_at hl 1 rfl) ?_
                      refine lv_bipush (v := 7) hx hb dX7_deploy_156 (by decide) ?_
                      refine lv_icmp_ne (tgt := 165) hx hb dX7_deploy_158 (by decide) (fun c158 => ?_) (fun c158 => ?_)
                      · refine lv_iconst (v := 1) hx hb dX7_deploy_165 (by decide) ?_
                        refine lv_iload hx hb dX7_deploy_166 (lv_at hl 0 rfl) ?_
                        refine lv_isub hx hb dX7_deploy_168 ?_
                        refine lv_iadd hx hb dX7_deploy_169 ?_
                        refine lv_istore_n (lv' := [(3, .int (q + (1 - 1))), (6, .int 1), (5, .int (S 15 (24 * cl x + k))), (0, .ref g), (1, .int x), (2, .int (S 6 (cl (S 5 0)))), (4, .int (nI (24 * cl x + k)))]) hx hb dX7_deploy_170 rfl hl (by decide) rfl (fun ls hl => ?_)
                        refine lv_iinc (v := nI (24 * cl x + (k + 1))) (lv' := [(4, .int (nI (24 * cl x + (k + 1)))), (3, .int (q + (1 - 1))), (6, .int 1), (5, .int (S 15 (24 * cl x + k))), (0, .ref g), (1, .int x), (2, .int (S 6 (cl (S 5 0))))]) hx hb dX7_deploy_171 hl (k := 6) rfl (nI_s _) (by decide) rfl (fun ls hl => ?_)
                        refine lv_goto (tgt := 51) hx hb dX7_deploy_174 (by decide) ?_
                        exact ih (k + 1) _ _ _ _ (by omega) (by omega) (by rw [show j14 - (k + 1) = j14 - 1 - k from by omega]; rw [delta, if_neg c158, tk9] at hv; exact hv) hw  (lv_sub hl [4, 5, 6, 1, 0] rfl)
                      · refine lv_iconst (v := (-1)) hx hb dX7_deploy_161 (by decide) ?_
                        refine lv_goto (tgt := 169) hx hb dX7_deploy_162 (by decide) ?_
                        refine lv_iadd hx hb dX7_deploy_169 ?_
                        refine lv_istore_n (lv' := [(3, .int (q + ((-1)))), (6, .int 1), (5, .int (S 15 (24 * cl x + k))), (0, .ref g), (1, .int x), (2, .int (S 6 (cl (S 5 0)))), (4, .int (nI (24 * cl x + k)))]) hx hb dX7_deploy_170 rfl hl (by decide) rfl (fun ls hl => ?_)
                        refine lv_iinc (v := nI (24 * cl x + (k + 1))) (lv' := [(4, .int (nI (24 * cl x + (k + 1)))), (3, .int (q + ((-1)))), (6, .int 1), (5, .int (S 15 (24 * cl x + k))), (0, .ref g), (1, .int x), (2, .int (S 6 (cl (S 5 0))))]) hx hb dX7_deploy_171 hl (k := 6) rfl (nI_s _) (by decide) rfl (fun ls hl => ?_)
                        refine lv_goto (tgt := 51) hx hb dX7_deploy_174 (by decide) ?_
                        exact ih (k + 1) _ _ _ _ (by omega) (by omega) (by rw [show j14 - (k + 1) = j14 - 1 - k from by omega]; rw [delta, if_pos c158] at hv; exact hv) hw  (lv_sub hl [4, 5, 6, 1, 0] rfl)
                    · rw [tk9, if_pos (i32_nle c147)] at hv
                      refine lv_bipush (v := (-12)) hx hb dX7_deploy_150 (by decide) ?_
                      exact mm_iret hQ X hw (by have e9 : sp_deploy S x = ((-12), S) := (by rw [sp_deploy, if_neg (fun h9 => h9 c5), if_neg (fun h9 => h9 c18), if_neg c27, ← hv, if_pos (by decide)]); rw [e9]; exact ⟨rfl, _, hR⟩) (Nat.le_of_ble_eq_true rfl) (Nat.le_of_ble_eq_true rfl) dX7_deploy_152
                  · refine lv_iload hx hb dX7_deploy_130 (lv_at hl 0 rfl) ?_
                    refine lv_bipush (v := 7) hx hb dX7_deploy_132 (by decide) ?_
                    refine lv_icmp_ne (tgt := 141) hx hb dX7_deploy_134 (by decide) (fun c134 => ?_) (fun c134 => ?_)
                    · refine lv_iconst (v := 0) hx hb dX7_deploy_141 (by decide) ?_
                      have tk9 : takes (S 15 (24 * cl x + k)) = 0 := by rw [takes, if_neg (fun h9 => i32_lt_nle c110 h9.1), if_neg (fun h9 => h9.elim c127 c134)]
                      refine lv_istore (lv' := [(6, .int 0), (5, .int (S 15 (24 * cl x + k))), (0, .ref g), (1, .int x), (2, .int (S 6 (cl (S 5 0)))), (3, .int q), (4, .int (nI (24 * cl x + k)))]) hx hb dX7_deploy_142 hl (by decide) rfl (fun ls hl => ?_)
                      refine lv_iload_n hx hb dX7_deploy_144 rfl (lv_at hl 5 rfl) ?_
                      refine lv_iload hx hb dX7_deploy_145 (lv_at hl 0 rfl) ?_
                      refine lv_icmp_ge (tgt := 153) hx hb dX7_deploy_147 (by decide) (fun c147 => ?_) (fun c147 => ?_)
                      · rw [tk9, if_neg (fun h9 => i32_lt_nle h9 c147)] at hv
                        refine lv_iload_n hx hb dX7_deploy_153 rfl (lv_at hl 5 rfl) ?_
                        refine lv_iload hx hb dX7_deploy_154 (lv_at hl 1 rfl) ?_
                        refine lv_bipush (v := 7) hx hb dX7_deploy_156 (by decide) ?_
                        refine lv_icmp_ne (tgt := 165) hx hb dX7_deploy_158 (by decide) (fun c158 => ?_) (fun c158 => ?_)
                        · refine lv_iconst (v := 1) hx hb dX7_deploy_165 (by decide) ?_
                          refine lv_iload hx hb dX7_deploy_166 (lv_at hl 0 rfl) ?_
                          refine lv_isub hx hb dX7_deploy_168 ?_
                          refine lv_iadd hx hb dX7_deploy_169 ?_
                          refine lv_istore_n (lv' := [(3, .int (q + (1 - 0))), (6, .int 0), (5, .int (S 15 (24 * cl x + k))), (0, .ref g), (1, .int x), (2, .int (S 6 (cl (S 5 0)))), (4, .int (nI (24 * cl x + k)))]) hx hb dX7_deploy_170 rfl hl (by decide) rfl (fun ls hl => ?_)
                          refine lv_iinc (v := nI (24 * cl x + (k + 1))) (lv' := [(4, .int (nI (24 * cl x + (k + 1)))), (3, .int (q + (1 - 0))), (6, .int 0), (5, .int (S 15 (24 * cl x + k))), (0, .ref g), (1, .int x), (2, .int (S 6 (cl (S 5 0))))]) hx hb dX7_deploy_171 hl (k := 6) rfl (nI_s _) (by decide) rfl (fun ls hl => ?_)
                          refine lv_goto (tgt := 51) hx hb dX7_deploy_174 (by decide) ?_
                          exact ih (k + 1) _ _ _ _ (by omega) (by omega) (by rw [show j14 - (k + 1) = j14 - 1 - k from by omega]; rw [delta, if_neg c158, tk9] at hv; exact hv) hw  (lv_sub hl [4, 5, 6, 1, 0] rfl)
                        · refine lv_iconst (v := (-1)) hx hb dX7_deploy_161 (by decide) ?_
                          refine lv_goto (tgt := 169) hx hb dX7_deploy_162 (by decide) ?_
                          refine lv_iadd hx hb dX7_deploy_169 ?_
                          refine lv_istore_n (lv' := [(3, .int (q + ((-1)))), (6, .int 0), (5, .int (S 15 (24 * cl x + k))), (0, .ref g), (1, .int x), (2, .int (S 6 (cl (S 5 0)))), (4, .int (nI (24 * cl x + k)))]) hx hb dX7_deploy_170 rfl hl (by decide) rfl (fun ls hl => ?_)
                          refine lv_iinc (v := nI (24 * cl x + (k + 1))) (lv' := [(4, .int (nI (24 * cl x + (k + 1)))), (3, .int (q + ((-1)))), (6, .int 0), (5, .int (S 15 (24 * cl x + k))), (0, .ref g), (1, .int x), (2, .int (S 6 (cl (S 5 0))))]) hx hb dX7_deploy_171 hl (k := 6) rfl (nI_s _) (by decide) rfl (fun ls hl => ?_)
                          refine lv_goto (tgt := 51) hx hb dX7_deploy_174 (by decide) ?_
                          exact ih (k + 1) _ _ _ _ (by omega) (by omega) (by rw [show j14 - (k + 1) = j14 - 1 - k from by omega]; rw [delta, if_pos c158] at hv; exact hv) hw  (lv_sub hl [4, 5, 6, 1, 0] rfl)
                      · rw [tk9, if_pos (i32_nle c147)] at hv
                        refine lv_bipush (v := (-12)) hx hb dX7_deploy_150 (by decide) ?_
                        exact mm_iret hQ X hw (by have e9 : sp_deploy S x = ((-12), S) := (by rw [sp_deploy, if_neg (fun h9 => h9 c5), if_neg (fun h9 => h9 c18), if_neg c27, ← hv, if_pos (by decide)]); rw [e9]; exact ⟨rfl, _, hR⟩) (Nat.le_of_ble_eq_true rfl) (Nat.le_of_ble_eq_true rfl) dX7_deploy_152
                    · refine lv_iconst (v := 1) hx hb dX7_deploy_137 (by decide) ?_
                      refine lv_goto (tgt := 142) hx hb dX7_deploy_138 (by decide) ?_
                      have tk9 : takes (S 15 (24 * cl x + k)) = 1 := by rw [takes, if_neg (fun h9 => i32_lt_nle c110 h9.1), if_pos (Or.inr c134)]
                      refine lv_istore (lv' := [(6, .int 1), (5, .int (S 15 (24 * cl x + k))), (0, .ref g), (1, .int x), (2, .int (S 6 (cl (S 5 0)))), (3, .int q), (4, .int (nI (24 * cl x + k)))]) hx hb dX7_deploy_142 hl (by decide) rfl (fun ls hl => ?_)
                      refine lv_iload_n hx hb dX7_deploy_144 rfl (lv_at hl 5 rfl) ?_
                      refine lv_iload hx hb dX7_deploy_145 (lv_at hl 0 rfl) ?_
                      refine lv_icmp_ge (tgt := 153) hx hb dX7_deploy_147 (by decide) (fun c147 => ?_) (fun c147 => ?_)
                      · rw [tk9, if_neg (fun h9 => i32_lt_nle h9 c147)] at hv
                        refine lv_iload_n hx hb dX7_deploy_153 rfl (lv_at hl 5 rfl) ?_
                        refine lv_iload hx hb dX7_deploy_154 (lv_at hl 1 rfl) ?_
                        refine lv_bipush (v := 7) hx hb dX7_deploy_156 (by decide) ?_
                        refine lv_icmp_ne (tgt := 165) hx hb dX7_deploy_158 (by decide) (fun c158 => ?_) (fun c158 => ?_)
                        · refine lv_iconst (v := 1) hx hb dX7_deploy_165 (by decide) ?_
                          refine lv_iload hx hb dX7_deploy_166 (lv_at hl 0 rfl) ?_
                          refine lv_isub hx hb dX7_deploy_168 ?_
                          refine lv_iadd hx hb dX7_deploy_169 ?_
                          refine lv_istore_n (lv' := [(3, .int (q + (1 - 1))), (6, .int 1), (5, .int (S 15 (24 * cl x + k))), (0, .ref g), (1, .int x), (2, .int (S 6 (cl (S 5 0)))), (4, .int (nI (24 * cl x + k)))]) hx hb dX7_deploy_170 rfl hl (by decide) rfl (fun ls hl => ?_)
                          refine lv_iinc (v := nI (24 * cl x + (k + 1))) (lv' := [(4, .int (nI (24 * cl x + (k + 1)))), (3, .int (q + (1 - 1))), (6, .int 1), (5, .int (S 15 (24 * cl x + k))), (0, .ref g), (1, .int x), (2, .int (S 6 (cl (S 5 0))))]) hx hb dX7_deploy_171 hl (k := 6) rfl (nI_s _) (by decide) rfl (fun ls hl => ?_)
                          refine lv_goto (tgt := 51) hx hb dX7_deploy_174 (by decide) ?_
                          exact ih (k + 1) _ _ _ _ (by omega) (by omega) (by rw [show j14 - (k + 1) = j14 - 1 - k from by omega]; rw [delta, if_neg c158, tk9] at hv; exact hv) hw  (lv_sub hl [4, 5, 6, 1, 0] rfl)
                        · refine lv_iconst (v := (-1)) hx hb dX7_deploy_161 (by decide) ?_
                          refine lv_goto (tgt := 169) hx hb dX7_deploy_162 (by decide) ?_
                          refine lv_iadd hx hb dX7_deploy_169 ?_
                          refine lv_istore_n (lv' := [(3, .int (q + ((-1)))), (6, .int 1), (5, .int (S 15 (24 * cl x + k))), (0, .ref g), (1, .int x), (2, .int (S 6 (cl (S 5 0)))), (4, .int (nI (24 * cl x + k)))]) hx hb dX7_deploy_170 rfl hl (by decide) rfl (fun ls hl => ?_)
                          refine lv_iinc (v := nI (24 * cl x + (k + 1))) (lv' := [(4, .int (nI (24 * cl x + (k + 1)))), (3, .int (q + ((-1)))), (6, .int 1), (5, .int (S 15 (24 * cl x + k))), (0, .ref g), (1, .int x), (2, .int (S 6 (cl (S 5 0))))]) hx hb dX7_deploy_171 hl (k := 6) rfl (nI_s _) (by decide) rfl (fun ls hl => ?_)
                          refine lv_goto (tgt := 51) hx hb dX7_deploy_174 (by decide) ?_
                          exact ih (k + 1) _ _ _ _ (by omega) (by omega) (by rw [show j14 - (k + 1) = j14 - 1 - k from by omega]; rw [delta, if_pos c158] at hv; exact hv) hw  (lv_sub hl [4, 5, 6, 1, 0] rfl)
                      · rw [tk9, if_pos (i32_nle c147)] at hv
                        refine lv_bipush (v := (-12)) hx hb dX7_deploy_150 (by decide) ?_
                        exact mm_iret hQ X hw (by have e9 : sp_deploy S x = ((-12), S) := (by rw [sp_deploy, if_neg (fun h9 => h9 c5), if_neg (fun h9 => h9 c18), if_neg c27, ← hv, if_pos (by decide)]); rw [e9]; exact ⟨rfl, _, hR⟩) (Nat.le_of_ble_eq_true rfl) (Nat.le_of_ble_eq_true rfl) dX7_deploy_152
                · refine lv_iload hx hb dX7_deploy_113 (lv_at hl 0 rfl) ?_
                  refine lv_iconst (v := 5) hx hb dX7_deploy_115 (by decide) ?_
                  refine lv_icmp_gt (tgt := 123) hx hb dX7_deploy_116 (by decide) (fun c116 => ?_) (fun c116 => ?_)
                  · refine lv_iload hx hb dX7_deploy_123 (lv_at hl 0 rfl) ?_
                    refine lv_bipush (v := 6) hx hb dX7_deploy_125 (by decide) ?_
                    refine lv_icmp_eq (tgt := 137) hx hb dX7_deploy_127 (by decide) (fun c127 => ?_) (fun c127 => ?_)
                    · refine lv_iconst (v := 1) hx hb dX7_deploy_137 (by decide) ?_
                      refine lv_goto (tgt := 142) hx hb dX7_deploy_138 (by decide) ?_
                      have tk9 : takes (S 15 (24 * cl x + k)) = 1 := by rw [takes, if_neg (fun h9 => i32_lt_nle c116 h9.2), if_pos (Or.inl c127)]
                      refine lv_istore (lv' := [(6, .int 1), (5, .int (S 15 (24 * cl x + k))), (0, .ref g), (1, .int x), (2, .int (S 6 (cl (S 5 0)))), (3, .int q), (4, .int (nI (24 * cl x + k)))]) hx hb dX7_deploy_142 hl (by decide) rfl (fun ls hl => ?_)
                      refine lv_iload_n hx hb dX7_deploy_144 rfl (lv_at hl 5 rfl) ?_
                      refine lv_iload hx hb dX7_deploy_145 (lv_at hl 0 rfl) ?_
                      refine lv_icmp_ge (tgt := 153) hx hb dX7_deploy_147 (by decide) (fun c147 => ?_) (fun c147 => ?_)
                      · rw [tk9, if_neg (fun h9 => i32_lt_nle h9 c147)] at hv
                        refine lv_iload_n hx hb dX7_deploy_153 rfl (lv_at hl 5 rfl) ?_
                        refine lv_iload hx hb dX7_deploy_154 (lv_at hl 1 rfl) ?_
                        refine lv_bipush (v := 7) hx hb dX7_deploy_156 (by decide) ?_
                        refine lv_icmp_ne (tgt := 165) hx hb dX7_deploy_158 (by decide) (fun c158 => ?_) (fun c158 => ?_)
                        · refine lv_iconst (v := 1) hx hb dX7_deploy_165 (by decide) ?_
                          refine lv_iload hx hb dX7_deploy_166 (lv_at hl 0 rfl) ?_
                          refine lv_isub hx hb dX7_deploy_168 ?_
                          refine lv_iadd hx hb dX7_deploy_169 ?_
                          refine lv_istore_n (lv' := [(3, .int (q + (1 - 1))), (6, .int 1), (5, .int (S 15 (24 * cl x + k))), (0, .ref g), (1, .int x), (2, .int (S 6 (cl (S 5 0)))), (4, .int (nI (24 * cl x + k)))]) hx hb dX7_deploy_170 rfl hl (by decide) rfl (fun ls hl => ?_)
                          refine lv_iinc (v := nI (24 * cl x + (k + 1))) (lv' := [(4, .int (nI (24 * cl x + (k + 1)))), (3, .int (q + (1 - 1))), (6, .int 1), (5, .int (S 15 (24 * cl x + k))), (0, .ref g), (1, .int x), (2, .int (S 6 (cl (S 5 0))))]) hx hb dX7_deploy_171 hl (k := 6) rfl (nI_s _) (by decide) rfl (fun ls hl => ?_)
                          refine lv_goto (tgt := 51) hx hb dX7_deploy_174 (by decide) ?_
                          exact ih (k + 1) _ _ _ _ (by omega) (by omega) (by rw [show j14 - (k + 1) = j14 - 1 - k from by omega]; rw [delta, if_neg c158, tk9] at hv; exact hv) hw  (lv_sub hl [4, 5, 6, 1, 0] rfl)
                        · refine lv_iconst (v := (-1)) hx hb dX7_deploy_161 (by decide) ?_
                          refine lv_goto (tgt := 169) hx hb dX7_deploy_162 (by decide) ?_
                          refine lv_iadd hx hb dX7_deploy_169 ?_
                          refine lv_istore_n (lv' := [(3, .int (q + ((-1)))), (6, .int 1), (5, .int (S 15 (24 * cl x + k))), (0, .ref g), (1, .int x), (2, .int (S 6 (cl (S 5 0)))), (4, .int (nI (24 * cl x + k)))]) hx hb dX7_deploy_170 rfl hl (by decide) rfl (fun ls hl => ?_)
                          refine lv_iinc (v := nI (24 * cl x + (k + 1))) (lv' := [(4, .int (nI (24 * cl x + (k + 1)))), (3, .int (q + ((-1)))), (6, .int 1), (5, .int (S 15 (24 * cl x + k))), (0, .ref g), (1, .int x), (2, .int (S 6 (cl (S 5 0))))]) hx hb dX7_deploy_171 hl (k := 6) rfl (nI_s _) (by decide) rfl (fun ls hl => ?_)
                          refine lv_goto (tgt := 51) hx hb dX7_deploy_174 (by decide) ?_
                          exact ih (k + 1) _ _ _ _ (by omega) (by omega) (by rw [show j14 - (k + 1) = j14 - 1 - k from by omega]; rw [delta, if_pos c158] at hv; exact hv) hw  (lv_sub hl [4, 5, 6, 1, 0] rfl)
                      · rw [tk9, if_pos (i32_nle c147)] at hv
                        refine lv_bipush (v := (-12)) hx hb dX7_deploy_150 (by decide) ?_
                        exact mm_iret hQ X hw (by have e9 : sp_deploy S x = ((-12), S) := (by rw [sp_deploy, if_neg (fun h9 => h9 c5), if_neg (fun h9 => h9 c18), if_neg c27, ← hv, if_pos (by decide)]); rw [e9]; exact ⟨rfl, _, hR⟩) (Nat.le_of_ble_eq_true rfl) (Nat.le_of_ble_eq_true rfl) dX7_deploy_152
                    · refine lv_iload hx hb dX7_deploy_130 (lv_at hl 0 rfl) ?_
                      refine lv_bipush (v := 7) hx hb dX7_deploy_132 (by decide) ?_
                      refine lv_icmp_ne (tgt := 141) hx hb dX7_deploy_134 (by decide) (fun c134 => ?_) (fun c134 => ?_)
                      · refine lv_iconst (v := 0) hx hb dX7_deploy_141 (by decide) ?_
                        have tk9 : takes (S 15 (24 * cl x + k)) = 0 := by rw [takes, if_neg (fun h9 => i32_lt_nle c116 h9.2), if_neg (fun h9 => h9.elim c127 c134)]
                        refine lv_istore (lv' := [(6, .int 0), (5, .int (S 15 (24 * cl x + k))), (0, .ref g), (1, .int x), (2, .int (S 6 (cl (S 5 0)))), (3, .int q), (4, .int (nI (24 * cl x + k)))]) hx hb dX7_deploy_142 hl (by decide) rfl (fun ls hl => ?_)
                        refine lv_iload_n hx hb dX7_deploy_144 rfl (lv_at hl 5 rfl) ?_
                        refine lv_iload hx hb dX7_deploy_145 (lv_at hl 0 rfl) ?_
                        refine lv_icmp_ge (tgt := 153) hx hb dX7_deploy_147 (by decide) (fun c147 => ?_) (fun c147 => ?_)
                        · rw [tk9, if_neg (fun h9 => i32_lt_nle h9 c147)] at hv
                          refine lv_iload_n hx hb dX7_deploy_153 rfl (lv_at hl 5 rfl) ?_
                          refine lv_iload hx hb dX7_deploy_154 (lv_at hl 1 rfl) ?_
                          refine lv_bipush (v := 7) hx hb dX7_deploy_156 (by decide) ?_
                          refine lv_icmp_ne (tgt := 165) hx hb dX7_deploy_158 (by decide) (fun c158 => ?_) (fun c158 => ?_)
                          · refine lv_iconst (v := 1) hx hb dX7_deploy_165 (by decide) ?_
                            refine lv_iload hx hb dX7_deploy_166 (lv_at hl 0 rfl) ?_
                            refine lv_isub hx hb dX7_deploy_168 ?_
                            refine lv_iadd hx hb dX7_deploy_169 ?_
                            refine lv_istore_n (lv' := [(3, .int (q + (1 - 0))), (6, .int 0), (5, .int (S 15 (24 * cl x + k))), (0, .ref g), (1, .int x), (2, .int (S 6 (cl (S 5 0)))), (4, .int (nI (24 * cl x + k)))]) hx hb dX7_deploy_170 rfl hl (by decide) rfl (fun ls hl => ?_)
                            refine lv_iinc (v := nI (24 * cl x + (k + 1))) (lv' := [(4, .int (nI (24 * cl x + (k + 1)))), (3, .int (q + (1 - 0))), (6, .int 0), (5, .int (S 15 (24 * cl x + k))), (0, .ref g), (1, .int x), (2, .int (S 6 (cl (S 5 0))))]) hx hb dX7_deploy_171 hl (k := 6) rfl (nI_s _) (by decide) rfl (fun ls hl => ?_)
                            refine lv_goto (tgt := 51) hx hb dX7_deploy_174 (by decide) ?_
                            exact ih (k + 1) _ _ _ _ (by omega) (by omega) (by rw [show j14 - (k + 1) = j14 - 1 - k from by omega]; rw [delta, if_neg c158, tk9] at hv; exact hv) hw  (lv_sub hl [4, 5, 6, 1, 0] rfl)
                          · refine lv_iconst (v := (-1)) hx hb dX7_deploy_161 (by decide) ?_
                            refine lv_goto (tgt := 169) hx hb dX7_deploy_162 (by decide) ?_
                            refine lv_iadd hx hb dX7_deploy_169 ?_
                            refine lv_istore_n (lv' := [(3, .int (q + ((-1)))), (6, .int 0), (5, .int (S 15 (24 * cl x + k))), (0, .ref g), (1, .int x), (2, .int (S 6 (cl (S 5 0)))), (4, .int (nI (24 * cl x + k)))]) hx hb dX7_deploy_170 rfl hl (by decide) rfl (fun ls hl => ?_)
                            refine lv_iinc (v := nI (24 * cl x + (k + 1))) (lv' := [(4, .int (nI (24 * cl x + (k + 1)))), (3, .int (q + ((-1)))), (6, .int 0), (5, .int (S 15 (24 * cl x + k))), (0, .ref g), (1, .int x), (2, .int (S 6 (cl (S 5 0))))]) hx hb dX7_deploy_171 hl (k := 6) rfl (nI_s _) (by decide) rfl (fun ls hl => ?_)
                            refine lv_goto (tgt := 51) hx hb dX7_deploy_174 (by decide) ?_
                            exact ih (k + 1) _ _ _ _ (by omega) (by omega) (by rw [show j14 - (k + 1) = j14 - 1 - k from by omega]; rw [delta, if_pos c158] at hv; exact hv) hw  (lv_sub hl [4, 5, 6, 1, 0] rfl)
                        · rw [tk9, if_pos (i32_nle c147)] at hv
                          refine lv_bipush (v := (-12)) hx hb dX7_deploy_150 (by decide) ?_
                          exact mm_iret hQ X hw (by have e9 : sp_deploy S x = ((-12), S) := (by rw [sp_deploy, if_neg (fun h9 => h9 c5), if_neg (fun h9 => h9 c18), if_neg c27, ← hv, if_pos (by decide)]); rw [e9]; exact ⟨rfl, _, hR⟩) (Nat.le_of_ble_eq_true rfl) (Nat.le_of_ble_eq_true rfl) dX7_deploy_152
                      · refine lv_iconst (v := 1) hx hb dX7_deploy_137 (by decide) ?_
                        refine lv_goto (tgt := 142) hx hb dX7_deploy_138 (by decide) ?_
                        have tk9 : takes (S 15 (24 * cl x + k)) = 1 := by rw [takes, if_neg (fun h9 => i32_lt_nle c116 h9.2), if_pos (Or.inr c134)]
                        refine lv_istore (lv' := [(6, .int 1), (5, .int (S 15 (24 * cl x + k))), (0, .ref g), (1, .int x), (2, .int (S 6 (cl (S 5 0)))), (3, .int q), (4, .int (nI (24 * cl x + k)))]) hx hb dX7_deploy_142 hl (by decide) rfl (fun ls hl => ?_)
                        refine lv_iload_n hx hb dX7_deploy_144 rfl (lv_at hl 5 rfl) ?_
                        refine lv_iload hx hb dX7_deploy_145 (lv_at hl 0 rfl) ?_
                        refine lv_icmp_ge (tgt := 153) hx hb dX7_deploy_147 (by decide) (fun c147 => ?_) (fun c147 => ?_)
                        · rw [tk9, if_neg (fun h9 => i32_lt_nle h9 c147)] at hv
                          refine lv_iload_n hx hb dX7_deploy_153 rfl (lv_at hl 5 rfl) ?_
                          refine lv_iload hx hb dX7_deploy_154 (lv_at hl 1 rfl) ?_
                          refine lv_bipush (v := 7) hx hb dX7_deploy_156 (by decide) ?_
                          refine lv_icmp_ne (tgt := 165) hx hb dX7_deploy_158 (by decide) (fun c158 => ?_) (fun c158 => ?_)
                          · refine lv_iconst (v := 1) hx hb dX7_deploy_165 (by decide) ?_
                            refine lv_iload hx hb dX7_deploy_166 (lv_at hl 0 rfl) ?_
                            refine lv_isub hx hb dX7_deploy_168 ?_
                            refine lv_iadd hx hb dX7_deploy_169 ?_
                            refine lv_istore_n (lv' := [(3, .int (q + (1 - 1))), (6, .int 1), (5, .int (S 15 (24 * cl x + k))), (0, .ref g), (1, .int x), (2, .int (S 6 (cl (S 5 0)))), (4, .int (nI (24 * cl x + k)))]) hx hb dX7_deploy_170 rfl hl (by decide) rfl (fun ls hl => ?_)
                            refine lv_iinc (v := nI (24 * cl x + (k + 1))) (lv' := [(4, .int (nI (24 * cl x + (k + 1)))), (3, .int (q + (1 - 1))), (6, .int 1), (5, .int (S 15 (24 * cl x + k))), (0, .ref g), (1, .int x), (2, .int (S 6 (cl (S 5 0))))]) hx hb dX7_deploy_171 hl (k := 6) rfl (nI_s _) (by decide) rfl (fun ls hl => ?_)
                            refine lv_goto (tgt := 51) hx hb dX7_deploy_174 (by decide) ?_
                            exact ih (k + 1) _ _ _ _ (by omega) (by omega) (by rw [show j14 - (k + 1) = j14 - 1 - k from by omega]; rw [delta, if_neg c158, tk9] at hv; exact hv) hw  (lv_sub hl [4, 5, 6, 1, 0] rfl)
                          · refine lv_iconst (v := (-1)) hx hb dX7_deploy_161 (by decide) ?_
                            refine lv_goto (tgt := 169) hx hb dX7_deploy_162 (by decide) ?_
                            refine lv_iadd hx hb dX7_deploy_169 ?_
                            refine lv_istore_n (lv' := [(3, .int (q + ((-1)))), (6, .int 1), (5, .int (S 15 (24 * cl x + k))), (0, .ref g), (1, .int x), (2, .int (S 6 (cl (S 5 0)))), (4, .int (nI (24 * cl x + k)))]) hx hb dX7_deploy_170 rfl hl (by decide) rfl (fun ls hl => ?_)
                            refine lv_iinc (v := nI (24 * cl x + (k + 1))) (lv' := [(4, .int (nI (24 * cl x + (k + 1)))), (3, .int (q + ((-1)))), (6, .int 1), (5, .int (S 15 (24 * cl x + k))), (0, .ref g), (1, .int x), (2, .int (S 6 (cl (S 5 0))))]) hx hb dX7_deploy_171 hl (k := 6) rfl (nI_s _) (by decide) rfl (fun ls hl => ?_)
                            refine lv_goto (tgt := 51) hx hb dX7_deploy_174 (by decide) ?_
                            exact ih (k + 1) _ _ _ _ (by omega) (by omega) (by rw [show j14 - (k + 1) = j14 - 1 - k from by omega]; rw [delta, if_pos c158] at hv; exact hv) hw  (lv_sub hl [4, 5, 6, 1, 0] rfl)
                        · rw [tk9, if_pos (i32_nle c147)] at hv
                          refine lv_bipush (v := (-12)) hx hb dX7_deploy_150 (by decide) ?_
                          exact mm_iret hQ X hw (by have e9 : sp_deploy S x = ((-12), S) := (by rw [sp_deploy, if_neg (fun h9 => h9 c5), if_neg (fun h9 => h9 c18), if_neg c27, ← hv, if_pos (by decide)]); rw [e9]; exact ⟨rfl, _, hR⟩) (Nat.le_of_ble_eq_true rfl) (Nat.le_of_ble_eq_true rfl) dX7_deploy_152
                  · refine lv_iconst (v := 2) hx hb dX7_deploy_119 (by decide) ?_
                    refine lv_goto (tgt := 142) hx hb dX7_deploy_120 (by decide) ?_
                    have tk9 : takes (S 15 (24 * cl x + k)) = 2 := by rw [takes, if_pos ⟨i32_nlt c110, i32_nlt c116⟩]
                    refine lv_istore (lv' := [(6, .int 2), (5, .int (S 15 (24 * cl x + k))), (0, .ref g), (1, .int x), (2, .int (S 6 (cl (S 5 0)))), (3, .int q), (4, .int (nI (24 * cl x + k)))]) hx hb dX7_deploy_142 hl (by decide) rfl (fun ls hl => ?_)
                    refine lv_iload_n hx hb dX7_deploy_144 rfl (lv_at hl 5 rfl) ?_
                    refine lv_iload hx hb dX7_deploy_145 (lv_at hl 0 rfl) ?_
                    refine lv_icmp_ge (tgt := 153) hx hb dX7_deploy_147 (by decide) (fun c147 => ?_) (fun c147 => ?_)
                    · rw [tk9, if_neg (fun h9 => i32_lt_nle h9 c147)] at hv
                      refine lv_iload_n hx hb dX7_deploy_153 rfl (lv_at hl 5 rfl) ?_
                      refine lv_iload hx hb dX7_deploy_154 (lv_at hl 1 rfl) ?_
                      refine lv_bipush (v := 7) hx hb dX7_deploy_156 (by decide) ?_
                      refine lv_icmp_ne (tgt := 165) hx hb dX7_deploy_158 (by decide) (fun c158 => ?_) (fun c158 => ?_)
                      · refine lv_iconst (v := 1) hx hb dX7_deploy_165 (by decide) ?_
                        refine lv_iload hx hb dX7_deploy_166 (lv_at hl 0 rfl) ?_
                        refine lv_isub hx hb dX7_deploy_168 ?_
                        refine lv_iadd hx hb dX7_deploy_169 ?_
                        refine lv_istore_n (lv' := [(3, .int (q + (1 - 2))), (6, .int 2), (5, .int (S 15 (24 * cl x + k))), (0, .ref g), (1, .int x), (2, .int (S 6 (cl (S 5 0)))), (4, .int (nI (24 * cl x + k)))]) hx hb dX7_deploy_170 rfl hl (by decide) rfl (fun ls hl => ?_)
                        refine lv_iinc (v := nI (24 * cl x + (k + 1))) (lv' := [(4, .int (nI (24 * cl x + (k + 1)))), (3, .int (q + (1 - 2))), (6, .int 2), (5, .int (S 15 (24 * cl x + k))), (0, .ref g), (1, .int x), (2, .int (S 6 (cl (S 5 0))))]) hx hb dX7_deploy_171 hl (k := 6) rfl (nI_s _) (by decide) rfl (fun ls hl => ?_)
                        refine lv_goto (tgt := 51) hx hb dX7_deploy_174 (by decide) ?_
                        exact ih (k + 1) _ _ _ _ (by omega) (by omega) (by rw [show j14 - (k + 1) = j14 - 1 - k from by omega]; rw [delta, if_neg c158, tk9] at hv; exact hv) hw  (lv_sub hl [4, 5, 6, 1, 0] rfl)
                      · refine lv_iconst (v := (-1)) hx hb dX7_deploy_161 (by decide) ?_
                        refine lv_goto (tgt := 169) hx hb dX7_deploy_162 (by decide) ?_
                        refine lv_iadd hx hb dX7_deploy_169 ?_
                        refine lv_istore_n (lv' := [(3, .int (q + ((-1)))), (6, .int 2), (5, .int (S 15 (24 * cl x + k))), (0, .ref g), (1, .int x), (2, .int (S 6 (cl (S 5 0)))), (4, .int (nI (24 * cl x + k)))]) hx hb dX7_deploy_170 rfl hl (by decide) rfl (fun ls hl => ?_)
                        refine lv_iinc (v := nI (24 * cl x + (k + 1))) (lv' := [(4, .int (nI (24 * cl x + (k + 1)))), (3, .int (q + ((-1)))), (6, .int 2), (5, .int (S 15 (24 * cl x + k))), (0, .ref g), (1, .int x), (2, .int (S 6 (cl (S 5 0))))]) hx hb dX7_deploy_171 hl (k := 6) rfl (nI_s _) (by decide) rfl (fun ls hl => ?_)
                        refine lv_goto (tgt := 51) hx hb dX7_deploy_174 (by decide) ?_
                        exact ih (k + 1) _ _ _ _ (by omega) (by omega) (by rw [show j14 - (k + 1) = j14 - 1 - k from by omega]; rw [delta, if_pos c158] at hv; exact hv) hw  (lv_sub hl [4, 5, 6, 1, 0] rfl)
                    · rw [tk9, if_pos (i32_nle c147)] at hv
                      refine lv_bipush (v := (-12)) hx hb dX7_deploy_150 (by decide) ?_
                      exact mm_iret hQ X hw (by have e9 : sp_deploy S x = ((-12), S) := (by rw [sp_deploy, if_neg (fun h9 => h9 c5), if_neg (fun h9 => h9 c18), if_neg c27, ← hv, if_pos (by decide)]); rw [e9]; exact ⟨rfl, _, hR⟩) (Nat.le_of_ble_eq_true rfl) (Nat.le_of_ble_eq_true rfl) dX7_deploy_152
              · obtain ⟨a0, ha0, ea0, hb6, -⟩ := hA k hk9
                have ha6 : a0 = 6 := nI_inj (by omega) (by decide) (ea0.symm.trans c80)
                obtain ⟨b0, hb0, eb0⟩ := hb6 ha6
                have p16 : 0 ≤ S 16 (24 * cl x + k) := by rw [eb0]; exact nI_pos' (by omega)
                have b16 : cl (S 16 (24 * cl x + k)) = b0 := by rw [eb0, cl_n (by omega)]
                refine lv_aload_n hx hb dX7_deploy_83 rfl (lv_at hl 1 rfl) ?_
                refine rg_17 X hw hR dX7_deploy_84 ?_
                refine lv_bipush (v := 8) hx hb dX7_deploy_87 (by decide) ?_
                refine lv_iload_n hx hb dX7_deploy_89 rfl (lv_at hl 3 rfl) ?_
                refine lv_imul hx hb dX7_deploy_90 ?_
                refine lv_aload_n hx hb dX7_deploy_91 rfl (lv_at hl 1 rfl) ?_
                refine rg_51 X hw hR dX7_deploy_92 ?_
                refine lv_iload hx hb dX7_deploy_95 (lv_at hl 5 rfl) ?_
                refine ri_iald X hw hR 16 rfl (24 * cl x + k) (rfl) (by omega) dX7_deploy_97 ?_
                refine lv_iadd hx hb dX7_deploy_98 ?_
                refine ri_iald X hw hR 2 rfl (8 * cl (S 6 (cl (S 5 0))) + cl (S 16 (24 * cl x + k))) (jx 8 pe p16) (by omega) dX7_deploy_99 ?_
                refine lv_iconst (v := (-1)) hx hb dX7_deploy_100 (by decide) ?_
                refine lv_icmp_ne (tgt := 107) hx hb dX7_deploy_101 (by decide) (fun c101 => ?_) (fun c101 => ?_)
                · rw [if_neg (fun h9 => c101 h9.2)] at hv
                  refine lv_iload hx hb dX7_deploy_107 (lv_at hl 0 rfl) ?_
                  refine lv_iconst (v := 2) hx hb dX7_deploy_109 (by decide) ?_
                  refine lv_icmp_lt (tgt := 123) hx hb dX7_deploy_110 (by decide) (fun c110 => ?_) (fun c110 => ?_)
                  · refine lv_iload hx hb dX7_deploy_123 (lv_at hl 0 rfl) ?_
                    refine lv_bipush (v := 6) hx hb dX7_deploy_125 (by decide) ?_
                    refine lv_icmp_eq (tgt := 137) hx hb dX7_deploy_127 (by decide) (fun c127 => ?_) (fun c127 => ?_)
                    · refine lv_iconst (v := 1) hx hb dX7_deploy_137 (by decide) ?_
                      refine lv_goto (tgt := 142) hx hb dX7_deploy_138 (by decide) ?_
                      have tk9 : takes (S 15 (24 * cl x + k)) = 1 := by rw [takes, if_neg (fun h9 => i32_lt_nle c110 h9.1), if_pos (Or.inl c127)]
                      refine lv_istore (lv' := [(6, .int 1), (5, .int (S 15 (24 * cl x + k))), (0, .ref g), (1, .int x), (2, .int (S 6 (cl (S 5 0)))), (3, .int q), (4, .int (nI (24 * cl x + k)))]) hx hb dX7_deploy_142 hl (by decide) rfl (fun ls hl => ?_)
                      refine lv_iload_n hx hb dX7_deploy_144 rfl (lv_at hl 5 rfl) ?_
                      refine lv_iload hx hb dX7_deploy_145 (lv_at hl 0 rfl) ?_
                      refine lv_icmp_ge (tgt := 153) hx hb dX7_deploy_147 (by decide) (fun c147 => ?_) (fun c147 => ?_)
                      · rw [tk9, if_neg (fun h9 => i32_lt_nle h9 c147)] at hv
                        refine lv_iload_n hx hb dX7_deploy_153 rfl (lv_at hl 5 rfl) ?_
                        refine lv_iload hx hb dX7_deploy_154 (lv_at hl 1 rfl) ?_
                        refine lv_bipush (v := 7) hx hb dX7_deploy_156 (by decide) ?_
                        refine lv_icmp_ne (tgt := 165) hx hb dX7_deploy_158 (by decide) (fun c158 => ?_) (fun c158 => ?_)
                        · refine lv_iconst (v := 1) hx hb dX7_deploy_165 (by decide) ?_
                          refine lv_iload hx hb dX7_deploy_166 (lv_at hl 0 rfl) ?_
                          refine lv_isub hx hb dX7_deploy_168 ?_
                          refine lv_iadd hx hb dX7_deploy_169 ?_
                          refine lv_istore_n (lv' := [(3, .int (q + (1 - 1))), (6, .int 1), (5, .int (S 15 (24 * cl x + k))), (0, .ref g), (1, .int x), (2, .int (S 6 (cl (S 5 0)))), (4, .int (nI (24 * cl x + k)))]) hx hb dX7_deploy_170 rfl hl (by decide) rfl (fun ls hl => ?_)
                          refine lv_iinc (v := nI (24 * cl x + (k + 1))) (lv' := [(4, .int (nI (24 * cl x + (k + 1)))), (3, .int (q + (1 - 1))), (6, .int 1), (5, .int (S 15 (24 * cl x + k))), (0, .ref g), (1, .int x), (2, .int (S 6 (cl (S 5 0))))]) hx hb dX7_deploy_171 hl (k := 6) rfl (nI_s _) (by decide) rfl (fun ls hl => ?_)
                          refine lv_goto (tgt := 51) hx hb dX7_deploy_174 (by decide) ?_
                          exact ih (k + 1) _ _ _ _ (by omega) (by omega) (by rw [show j14 - (k + 1) = j14 - 1 - k from by omega]; rw [delta, if_neg c158, tk9] at hv; exact hv) hw  (lv_sub hl [4, 5, 6, 1, 0] rfl)
                        · refine lv_iconst (v := (-1)) hx hb dX7_deploy_161 (by decide) ?_
                          refine lv_goto (tgt := 169) hx hb dX7_deploy_162 (by decide) ?_
                          refine lv_iadd hx hb dX7_deploy_169 ?_
                          refine lv_istore_n (lv' := [(3, .int (q + ((-1)))), (6, .int 1), (5, .int (S 15 (24 * cl x + k))), (0, .ref g), (1, .int x), (2, .int (S 6 (cl (S 5 0)))), (4, .int (nI (24 * cl x + k)))]) hx hb dX7_deploy_170 rfl hl (by decide) rfl (fun ls hl => ?_)
                          refine lv_iinc (v := nI (24 * cl x + (k + 1))) (lv' := [(4, .int (nI (24 * cl x + (k + 1)))), (3, .int (q + ((-1)))), (6, .int 1), (5, .int (S 15 (24 * cl x + k))), (0, .ref g), (1, .int x), (2, .int (S 6 (cl (S 5 0))))]) hx hb dX7_deploy_171 hl (k := 6) rfl (nI_s _) (by decide) rfl (fun ls hl => ?_)
                          refine lv_goto (tgt := 51) hx hb dX7_deploy_174 (by decide) ?_
                          exact ih (k + 1) _ _ _ _ (by omega) (by omega) (by rw [show j14 - (k + 1) = j14 - 1 - k from by omega]; rw [delta, if_pos c158] at hv; exact hv) hw  (lv_sub hl [4, 5, 6, 1, 0] rfl)
                      · rw [tk9, if_pos (i32_nle c147)] at hv
                        refine lv_bipush (v := (-12)) hx hb dX7_deploy_150 (by decide) ?_
                        exact mm_iret hQ X hw (by have e9 : sp_deploy S x = ((-12), S) := (by rw [sp_deploy, if_neg (fun h9 => h9 c5), if_neg (fun h9 => h9 c18), if_neg c27, ← hv, if_pos (by decide)]); rw [e9]; exact ⟨rfl, _, hR⟩) (Nat.le_of_ble_eq_true rfl) (Nat.le_of_ble_eq_true rfl) dX7_deploy_152
                    · refine lv_iload hx hb dX7_deploy_130 (lv_at hl 0 rfl) ?_
                      refine lv_bipush (v := 7) hx hb dX7_deploy_132 (by decide) ?_
                      refine lv_icmp_ne (tgt := 141) hx hb dX7_deploy_134 (by decide) (fun c134 => ?_) (fun c134 => ?_)
                      · refine lv_iconst (v := 0) hx hb dX7_deploy_141 (by decide) ?_
                        have tk9 : takes (S 15 (24 * cl x + k)) = 0 := by rw [takes, if_neg (fun h9 => i32_lt_nle c110 h9.1), if_neg (fun h9 => h9.elim c127 c134)]
                        refine lv_istore (lv' := [(6, .int 0), (5, .int (S 15 (24 * cl x + k))), (0, .ref g), (1, .int x), (2, .int (S 6 (cl (S 5 0)))), (3, .int q), (4, .int (nI (24 * cl x + k)))]) hx hb dX7_deploy_142 hl (by decide) rfl (fun ls hl => ?_)
                        refine lv_iload_n hx hb dX7_deploy_144 rfl (lv_at hl 5 rfl) ?_
                        refine lv_iload hx hb dX7_deploy_145 (lv_at hl 0 rfl) ?_
                        refine lv_icmp_ge (tgt := 153) hx hb dX7_deploy_147 (by decide) (fun c147 => ?_) (fun c147 => ?_)
                        · rw [tk9, if_neg (fun h9 => i32_lt_nle h9 c147)] at hv
                          refine lv_iload_n hx hb dX7_deploy_153 rfl (lv_at hl 5 rfl) ?_
                          refine lv_iload hx hb dX7_deploy_154 (lv_at hl 1 rfl) ?_
                          refine lv_bipush (v := 7) hx hb dX7_deploy_156 (by decide) ?_
                          refine lv_icmp_ne (tgt := 165) hx hb dX7_deploy_158 (by decide) (fun c158 => ?_) (fun c158 => ?_)
                          · refine lv_iconst (v := 1) hx hb dX7_deploy_165 (by decide) ?_
                            refine lv_iload hx hb dX7_deploy_166 (lv_at hl 0 rfl) ?_
                            refine lv_isub hx hb dX7_deploy_168 ?_
                            refine lv_iadd hx hb dX7_deploy_169 ?_
                            refine lv_istore_n (lv' := [(3, .int (q + (1 - 0))), (6, .int 0), (5, .int (S 15 (24 * cl x + k))), (0, .ref g), (1, .int x), (2, .int (S 6 (cl (S 5 0)))), (4, .int (nI (24 * cl x + k)))]) hx hb dX7_deploy_170 rfl hl (by decide) rfl (fun ls hl => ?_)
                            refine lv_iinc (v := nI (24 * cl x + (k + 1))) (lv' := [(4, .int (nI (24 * cl x + (k + 1)))), (3, .int (q + (1 - 0))), (6, .int 0), (5, .int (S 15 (24 * cl x + k))), (0, .ref g), (1, .int x), (2, .int (S 6 (cl (S 5 0))))]) hx hb dX7_deploy_171 hl (k := 6) rfl (nI_s _) (by decide) rfl (fun ls hl => ?_)
                            refine lv_goto (tgt := 51) hx hb dX7_deploy_174 (by decide) ?_
                            exact ih (k + 1) _ _ _ _ (by omega) (by omega) (by rw [show j14 - (k + 1) = j14 - 1 - k from by omega]; rw [delta, if_neg c158, tk9] at hv; exact hv) hw  (lv_sub hl [4, 5, 6, 1, 0] rfl)
                          · refine lv_iconst (v := (-1)) hx hb dX7_deploy_161 (by decide) ?_
                            refine lv_goto (tgt := 169) hx hb dX7_deploy_162 (by decide) ?_
                            refine lv_iadd hx hb dX7_deploy_169 ?_
                            refine lv_istore_n (lv' := [(3, .int (q + ((-1)))), (6, .int 0), (5, .int (S 15 (24 * cl x + k))), (0, .ref g), (1, .int x), (2, .int (S 6 (cl (S 5 0)))), (4, .int (nI (24 * cl x + k)))]) hx hb dX7_deploy_170 rfl hl (by decide) rfl (fun ls hl => ?_)
                            refine lv_iinc (v := nI (24 * cl x + (k + 1))) (lv' := [(4, .int (nI (24 * cl x + (k + 1)))), (3, .int (q + ((-1)))), (6, .int 0), (5, .int (S 15 (24 * cl x + k))), (0, .ref g), (1, .int x), (2, .int (S 6 (cl (S 5 0))))]) hx hb dX7_deploy_171 hl (k := 6) rfl (nI_s _) (by decide) rfl (fun ls hl => ?_)
                            refine lv_goto (tgt := 51) hx hb dX7_deploy_174 (by decide) ?_
                            exact ih (k + 1) _ _ _ _ (by omega) (by omega) (by rw [show j14 - (k + 1) = j14 - 1 - k from by omega]; rw [delta, if_pos c158] at hv; exact hv) hw  (lv_sub hl [4, 5, 6, 1, 0] rfl)
                        · rw [tk9, if_pos (i32_nle c147)] at hv
                          refine lv_bipush (v := (-12)) hx hb dX7_deploy_150 (by decide) ?_
                          exact mm_iret hQ X hw (by have e9 : sp_deploy S x = ((-12), S) := (by rw [sp_deploy, if_neg (fun h9 => h9 c5), if_neg (fun h9 => h9 c18), if_neg c27, ← hv, if_pos (by decide)]); rw [e9]; exact ⟨rfl, _, hR⟩) (Nat.le_of_ble_eq_true rfl) (Nat.le_of_ble_eq_true rfl) dX7_deploy_152
                      · refine lv_iconst (v := 1) hx hb dX7_deploy_137 (by decide) ?_
                        refine lv_goto (tgt := 142) hx hb dX7_deploy_138 (by decide) ?_
                        have tk9 : takes (S 15 (24 * cl x + k)) = 1 := by rw [takes, if_neg (fun h9 => i32_lt_nle c110 h9.1), if_pos (Or.inr c134)]
                        refine lv_istore (lv' := [(6, .int 1), (5, .int (S 15 (24 * cl x + k))), (0, .ref g), (1, .int x), (2, .int (S 6 (cl (S 5 0)))), (3, .int q), (4, .int (nI (24 * cl x + k)))]) hx hb dX7_deploy_142 hl (by decide) rfl (fun ls hl => ?_)
                        refine lv_iload_n hx hb dX7_deploy_144 rfl (lv_at hl 5 rfl) ?_
                        refine lv_iload hx hb dX7_deploy_145 (lv_at hl 0 rfl) ?_
                        refine lv_icmp_ge (tgt := 153) hx hb dX7_deploy_147 (by decide) (fun c147 => ?_) (fun c147 => ?_)
                        · rw [tk9, if_neg (fun h9 => i32_lt_nle h9 c147)] at hv
                          refine lv_iload_n hx hb dX7_deploy_153 rfl (lv_at hl 5 rfl) ?_
                          refine lv_iload hx hb dX7_deploy_154 (lv_at hl 1 rfl) ?_
                          refine lv_bipush (v := 7) hx hb dX7_deploy_156 (by decide) ?_
                          refine lv_icmp_ne (tgt := 165) hx hb dX7_deploy_158 (by decide) (fun c158 => ?_) (fun c158 => ?_)
                          · refine lv_iconst (v := 1) hx hb dX7_deploy_165 (by decide) ?_
                            refine lv_iload hx hb dX7_deploy_166 (lv_at hl 0 rfl) ?_
                            refine lv_isub hx hb dX7_deploy_168 ?_
                            refine lv_iadd hx hb dX7_deploy_169 ?_
                            refine lv_istore_n (lv' := [(3, .int (q + (1 - 1))), (6, .int 1), (5, .int (S 15 (24 * cl x + k))), (0, .ref g), (1, .int x), (2, .int (S 6 (cl (S 5 0)))), (4, .int (nI (24 * cl x + k)))]) hx hb dX7_deploy_170 rfl hl (by decide) rfl (fun ls hl => ?_)
                            refine lv_iinc (v := nI (24 * cl x + (k + 1))) (lv' := [(4, .int (nI (24 * cl x + (k + 1)))), (3, .int (q + (1 - 1))), (6, .int 1), (5, .int (S 15 (24 * cl x + k))), (0, .ref g), (1, .int x), (2, .int (S 6 (cl (S 5 0))))]) hx hb dX7_deploy_171 hl (k := 6) rfl (nI_s _) (by decide) rfl (fun ls hl => ?_)
                            refine lv_goto (tgt := 51) hx hb dX7_deploy_174 (by decide) ?_
                            exact ih (k + 1) _ _ _ _ (by omega) (by omega) (by rw [show j14 - (k + 1) = j14 - 1 - k from by omega]; rw [delta, if_neg c158, tk9] at hv; exact hv) hw  (lv_sub hl [4, 5, 6, 1, 0] rfl)
                          · refine lv_iconst (v := (-1)) hx hb dX7_deploy_161 (by decide) ?_
                            refine lv_goto (tgt := 169) hx hb dX7_deploy_162 (by decide) ?_
                            refine lv_iadd hx hb dX7_deploy_169 ?_
                            refine lv_istore_n (lv' := [(3, .int (q + ((-1)))), (6, .int 1), (5, .int (S 15 (24 * cl x + k))), (0, .ref g), (1, .int x), (2, .int (S 6 (cl (S 5 0)))), (4, .int (nI (24 * cl x + k)))]) hx hb dX7_deploy_170 rfl hl (by decide) rfl (fun ls hl => ?_)
                            refine lv_iinc (v := nI (24 * cl x + (k + 1))) (lv' := [(4, .int (nI (24 * cl x + (k + 1)))), (3, .int (q + ((-1)))), (6, .int 1), (5, .int (S 15 (24 * cl x + k))), (0, .ref g), (1, .int x), (2, .int (S 6 (cl (S 5 0))))]) hx hb dX7_deploy_171 hl (k := 6) rfl (nI_s _) (by decide) rfl (fun ls hl => ?_)
                            refine lv_goto (tgt := 51) hx hb dX7_deploy_174 (by decide) ?_
                            exact ih (k + 1) _ _ _ _ (by omega) (by omega) (by rw [show j14 - (k + 1) = j14 - 1 - k from by omega]; rw [delta, if_pos c158] at hv; exact hv) hw  (lv_sub hl [4, 5, 6, 1, 0] rfl)
                        · rw [tk9, if_pos (i32_nle c147)] at hv
                          refine lv_bipush (v := (-12)) hx hb dX7_deploy_150 (by decide) ?_
                          exact mm_iret hQ X hw (by have e9 : sp_deploy S x = ((-12), S) := (by rw [sp_deploy, if_neg (fun h9 => h9 c5), if_neg (fun h9 => h9 c18), if_neg c27, ← hv, if_pos (by decide)]); rw [e9]; exact ⟨rfl, _, hR⟩) (Nat.le_of_ble_eq_true rfl) (Nat.le_of_ble_eq_true rfl) dX7_deploy_152
                  · refine lv_iload hx hb dX7_deploy_113 (lv_at hl 0 rfl) ?_
                    refine lv_iconst (v := 5) hx hb dX7_deploy_115 (by decide) ?_
                    refine lv_icmp_gt (tgt := 123) hx hb dX7_deploy_116 (by decide) (fun c116 => ?_) (fun c116 => ?_)
                    · refine lv_iload hx hb dX7_deploy_123 (lv_at hl 0 rfl) ?_
                      refine lv_bipush (v := 6) hx hb dX7_deploy_125 (by decide) ?_
                      refine lv_icmp_eq (tgt := 137) hx hb dX7_deploy_127 (by decide) (fun c127 => ?_) (fun c127 => ?_)
                      · refine lv_iconst (v := 1) hx hb dX7_deploy_137 (by decide) ?_
                        refine lv_goto (tgt := 142) hx hb dX7_deploy_138 (by decide) ?_
                        have tk9 : takes (S 15 (24 * cl x + k)) = 1 := by rw [takes, if_neg (fun h9 => i32_lt_nle c116 h9.2), if_pos (Or.inl c127)]
                        refine lv_istore (lv' := [(6, .int 1), (5, .int (S 15 (24 * cl x + k))), (0, .ref g), (1, .int x), (2, .int (S 6 (cl (S 5 0)))), (3, .int q), (4, .int (nI (24 * cl x + k)))]) hx hb dX7_deploy_142 hl (by decide) rfl (fun ls hl => ?_)
                        refine lv_iload_n hx hb dX7_deploy_144 rfl (lv_at hl 5 rfl) ?_
                        refine lv_iload hx hb dX7_deploy_145 (lv_at hl 0 rfl) ?_
                        refine lv_icmp_ge (tgt := 153) hx hb dX7_deploy_147 (by decide) (fun c147 => ?_) (fun c147 => ?_)
                        · rw [tk9, if_neg (fun h9 => i32_lt_nle h9 c147)] at hv
                          refine lv_iload_n hx hb dX7_deploy_153 rfl (lv_at hl 5 rfl) ?_
                          refine lv_iload hx hb dX7_deploy_154 (lv_at hl 1 rfl) ?_
                          refine lv_bipush (v := 7) hx hb dX7_deploy_156 (by decide) ?_
                          refine lv_icmp_ne (tgt := 165) hx hb dX7_deploy_158 (by decide) (fun c158 => ?_) (fun c158 => ?_)
                          · refine lv_iconst (v := 1) hx hb dX7_deploy_165 (by decide) ?_
                            refine lv_iload hx hb dX7_deploy_166 (lv_at hl 0 rfl) ?_
                            refine lv_isub hx hb dX7_deploy_168 ?_
                            refine lv_iadd hx hb dX7_deploy_169 ?_
                            refine lv_istore_n (lv' := [(3, .int (q + (1 - 1))), (6, .int 1), (5, .int (S 15 (24 * cl x + k))), (0, .ref g), (1, .int x), (2, .int (S 6 (cl (S 5 0)))), (4, .int (nI (24 * cl x + k)))]) hx hb dX7_deploy_170 rfl hl (by decide) rfl (fun ls hl => ?_)
                            refine lv_iinc (v := nI (24 * cl x + (k + 1))) (lv' := [(4, .int (nI (24 * cl x + (k + 1)))), (3, .int (q + (1 - 1))), (6, .int 1), (5, .int (S 15 (24 * cl x + k))), (0, .ref g), (1, .int x), (2, .int (S 6 (cl (S 5 0))))]) hx hb dX7_deploy_171 hl (k := 6) rfl (nI_s _) (by decide) rfl (fun ls hl => ?_)
                            refine lv_goto (tgt := 51) hx hb dX7_deploy_174 (by decide) ?_
                            exact ih (k + 1) _ _ _ _ (by omega) (by omega) (by rw [show j14 - (k + 1) = j14 - 1 - k from by omega]; rw [delta, if_neg c158, tk9] at hv; exact hv) hw  (lv_sub hl [4, 5, 6, 1, 0] rfl)
                          · refine lv_iconst (v := (-1)) hx hb dX7_deploy_161 (by decide) ?_
                            refine lv_goto (tgt := 169) hx hb dX7_deploy_162 (by decide) ?_
                            refine lv_iadd hx hb dX7_deploy_169 ?_
                            refine lv_istore_n (lv' := [(3, .int (q + ((-1)))), (6, .int 1), (5, .int (S 15 (24 * cl x + k))), (0, .ref g), (1, .int x), (2, .int (S 6 (cl (S 5 0)))), (4, .int (nI (24 * cl x + k)))]) hx hb dX7_deploy_170 rfl hl (by decide) rfl (fun ls hl => ?_)
                            refine lv_iinc (v := nI (24 * cl x + (k + 1))) (lv' := [(4, .int (nI (24 * cl x + (k + 1)))), (3, .int (q + ((-1)))), (6, .int 1), (5, .int (S 15 (24 * cl x + k))), (0, .ref g), (1, .int x), (2, .int (S 6 (cl (S 5 0))))]) hx hb dX7_deploy_171 hl (k := 6) rfl (nI_s _) (by decide) rfl (fun ls hl => ?_)
                            refine lv_goto (tgt := 51) hx hb dX7_deploy_174 (by decide) ?_
                            exact ih (k + 1) _ _ _ _ (by omega) (by omega) (by rw [show j14 - (k + 1) = j14 - 1 - k from by omega]; rw [delta, if_pos c158] at hv; exact hv) hw  (lv_sub hl [4, 5, 6, 1, 0] rfl)
                        · rw [tk9, if_pos (i32_nle c147)] at hv
                          refine lv_bipush (v := (-12)) hx hb dX7_deploy_150 (by decide) ?_
                          exact mm_iret hQ X hw (by have e9 : sp_deploy S x = ((-12), S) := (by rw [sp_deploy, if_neg (fun h9 => h9 c5), if_neg (fun h9 => h9 c18), if_neg c27, ← hv, if_pos (by decide)]); rw [e9]; exact ⟨rfl, _, hR⟩) (Nat.le_of_ble_eq_true rfl) (Nat.le_of_ble_eq_true rfl) dX7_deploy_152
                      · refine lv_iload hx hb dX7_deploy_130 (lv_at hl 0 rfl) ?_
                        refine lv_bipush (v := 7) hx hb dX7_deploy_132 (by decide) ?_
                        refine lv_icmp_ne (tgt := 141) hx hb dX7_deploy_134 (by decide) (fun c134 => ?_) (fun c134 => ?_)
                        · refine lv_iconst (v := 0) hx hb dX7_deploy_141 (by decide) ?_
                          have tk9 : takes (S 15 (24 * cl x + k)) = 0 := by rw [takes, if_neg (fun h9 => i32_lt_nle c116 h9.2), if_neg (fun h9 => h9.elim c127 c134)]
                          refine lv_istore (lv' := [(6, .int 0), (5, .int (S 15 (24 * cl x + k))), (0, .ref g), (1, .int x), (2, .int (S 6 (cl (S 5 0)))), (3, .int q), (4, .int (nI (24 * cl x + k)))]) hx hb dX7_deploy_142 hl (by decide) rfl (fun ls hl => ?_)
                          refine lv_iload_n hx hb dX7_deploy_144 rfl (lv_at hl 5 rfl) ?_
                          refine lv_iload hx hb dX7_deploy_145 (lv_at hl 0 rfl) ?_
                          refine lv_icmp_ge (tgt := 153) hx hb dX7_deploy_147 (by decide) (fun c147 => ?_) (fun c147 => ?_)
                          · rw [tk9, if_neg (fun h9 => i32_lt_nle h9 c147)] at hv
                            refine lv_iload_n hx hb dX7_deploy_153 rfl (lv_at hl 5 rfl) ?_
                            refine lv_iload hx hb dX7_deploy_154 (lv_at hl 1 rfl) ?_
                            refine lv_bipush (v := 7) hx hb dX7_deploy_156 (by decide) ?_
                            refine lv_icmp_ne (tgt := 165) hx hb dX7_deploy_158 (by decide) (fun c158 => ?_) (fun c158 => ?_)
                            · refine lv_iconst (v := 1) hx hb dX7_deploy_165 (by decide) ?_
                              refine lv_iload hx hb dX7_deploy_166 (lv_at hl 0 rfl) ?_
                              refine lv_isub hx hb dX7_deploy_168 ?_
                              refine lv_iadd hx hb dX7_deploy_169 ?_
                              refine lv_istore_n (lv' := [(3, .int (q + (1 - 0))), (6, .int 0), (5, .int (S 15 (24 * cl x + k))), (0, .ref g), (1, .int x), (2, .int (S 6 (cl (S 5 0)))), (4, .int (nI (24 * cl x + k)))]) hx hb dX7_deploy_170 rfl hl (by decide) rfl (fun ls hl => ?_)
                              refine lv_iinc (v := nI (24 * cl x + (k + 1))) (lv' := [(4, .int (nI (24 * cl x + (k + 1)))), (3, .int (q + (1 - 0))), (6, .int 0), (5, .int (S 15 (24 * cl x + k))), (0, .ref g), (1, .int x), (2, .int (S 6 (cl (S 5 0))))]) hx hb dX7_deploy_171 hl (k := 6) rfl (nI_s _) (by decide) rfl (fun ls hl => ?_)
                              refine lv_goto (tgt := 51) hx hb dX7_deploy_174 (by decide) ?_
                              exact ih (k + 1) _ _ _ _ (by omega) (by omega) (by rw [show j14 - (k + 1) = j14 - 1 - k from by omega]; rw [delta, if_neg c158, tk9] at hv; exact hv) hw  (lv_sub hl [4, 5, 6, 1, 0] rfl)
                            · refine lv_iconst (v := (-1)) hx hb dX7_deploy_161 (by decide) ?_
                              refine lv_goto (tgt := 169) hx hb dX7_deploy_162 (by decide) ?_
                              refine lv_iadd hx hb dX7_deploy_169 ?_
                              refine lv_istore_n (lv' := [(3, .int (q + ((-1)))), (6, .int 0), (5, .int (S 15 (24 * cl x + k))), (0, .ref g), (1, .int x), (2, .int (S 6 (cl (S 5 0)))), (4, .int (nI (24 * cl x + k)))]) hx hb dX7_deploy_170 rfl hl (by decide) rfl (fun ls hl => ?_)
                              refine lv_iinc (v := nI (24 * cl x + (k + 1))) (lv' := [(4, .int (nI (24 * cl x + (k + 1)))), (3, .int (q + ((-1)))), (6, .int 0), (5, .int (S 15 (24 * cl x + k))), (0, .ref g), (1, .int x), (2, .int (S 6 (cl (S 5 0))))]) hx hb dX7_deploy_171 hl (k := 6) rfl (nI_s _) (by decide) rfl (fun ls hl => ?_)
                              refine lv_goto (tgt := 51) hx hb dX7_deploy_174 (by decide) ?_
                              exact ih (k + 1) _ _ _ _ (by omega) (by omega) (by rw [show j14 - (k + 1) = j14 - 1 - k from by omega]; rw [delta, if_pos c158] at hv; exact hv) hw  (lv_sub hl [4, 5, 6, 1, 0] rfl)
                          · rw [tk9, if_pos (i32_nle c147)] at hv
                            refine lv_bipush (v := (-12)) hx hb dX7_deploy_150 (by decide) ?_
                            exact mm_iret hQ X hw (by have e9 : sp_deploy S x = ((-12), S) := (by rw [sp_deploy, if_neg (fun h9 => h9 c5), if_neg (fun h9 => h9 c18), if_neg c27, ← hv, if_pos (by decide)]); rw [e9]; exact ⟨rfl, _, hR⟩) (Nat.le_of_ble_eq_true rfl) (Nat.le_of_ble_eq_true rfl) dX7_deploy_152
                        · refine lv_iconst (v := 1) hx hb dX7_deploy_137 (by decide) ?_
                          refine lv_goto (tgt := 142) hx hb dX7_deploy_138 (by decide) ?_
                          have tk9 : takes (S 15 (24 * cl x + k)) = 1 := by rw [takes, if_neg (fun h9 => i32_lt_nle c116 h9.2), if_pos (Or.inr c134)]
                          refine lv_istore (lv' := [(6, .int 1), (5, .int (S 15 (24 * cl x + k))), (0, .ref g), (1, .int x), (2, .int (S 6 (cl (S 5 0)))), (3, .int q), (4, .int (nI (24 * cl x + k)))]) hx hb dX7_deploy_142 hl (by decide) rfl (fun ls hl => ?_)
                          refine lv_iload_n hx hb dX7_deploy_144 rfl (lv_at hl 5 rfl) ?_
                          refine lv_iload hx hb dX7_deploy_145 (lv_at hl 0 rfl) ?_
                          refine lv_icmp_ge (tgt := 153) hx hb dX7_deploy_147 (by decide) (fun c147 => ?_) (fun c147 => ?_)
                          · rw [tk9, if_neg (fun h9 => i32_lt_nle h9 c147)] at hv
                            refine lv_iload_n hx hb dX7_deploy_153 rfl (lv_at hl 5 rfl) ?_
                            refine lv_iload hx hb dX7_deploy_154 (lv_at hl 1 rfl) ?_
                            refine lv_bipush (v := 7) hx hb dX7_deploy_156 (by decide) ?_
                            refine lv_icmp_ne (tgt := 165) hx hb dX7_deploy_158 (by decide) (fun c158 => ?_) (fun c158 => ?_)
                            · refine lv_iconst (v := 1) hx hb dX7_deploy_165 (by decide) ?_
                              refine lv_iload hx hb dX7_deploy_166 (lv_at hl 0 rfl) ?_
                              refine lv_isub hx hb dX7_deploy_168 ?_
                              refine lv_iadd hx hb dX7_deploy_169 ?_
                              refine lv_istore_n (lv' := [(3, .int (q + (1 - 1))), (6, .int 1), (5, .int (S 15 (24 * cl x + k))), (0, .ref g), (1, .int x), (2, .int (S 6 (cl (S 5 0)))), (4, .int (nI (24 * cl x + k)))]) hx hb dX7_deploy_170 rfl hl (by decide) rfl (fun ls hl => ?_)
                              refine lv_iinc (v := nI (24 * cl x + (k + 1))) (lv' := [(4, .int (nI (24 * cl x + (k + 1)))), (3, .int (q + (1 - 1))), (6, .int 1), (5, .int (S 15 (24 * cl x + k))), (0, .ref g), (1, .int x), (2, .int (S 6 (cl (S 5 0))))]) hx hb dX7_deploy_171 hl (k := 6) rfl (nI_s _) (by decide) rfl (fun ls hl => ?_)
                              refine lv_goto (tgt := 51) hx hb dX7_deploy_174 (by decide) ?_
                              exact ih (k + 1) _ _ _ _ (by omega) (by omega) (by rw [show j14 - (k + 1) = j14 - 1 - k from by omega]; rw [delta, if_neg c158, tk9] at hv; exact hv) hw  (lv_sub hl [4, 5, 6, 1, 0] rfl)
                            · refine lv_iconst (v := (-1)) hx hb dX7_deploy_161 (by decide) ?_
                              refine lv_goto (tgt := 169) hx hb dX7_deploy_162 (by decide) ?_
                              refine lv_iadd hx hb dX7_deploy_169 ?_
                              refine lv_istore_n (lv' := [(3, .int (q + ((-1)))), (6, .int 1), (5, .int (S 15 (24 * cl x + k))), (0, .ref g), (1, .int x), (2, .int (S 6 (cl (S 5 0)))), (4, .int (nI (24 * cl x + k)))]) hx hb dX7_deploy_170 rfl hl (by decide) rfl (fun ls hl => ?_)
                              refine lv_iinc (v := nI (24 * cl x + (k + 1))) (lv' := [(4, .int (nI (24 * cl x + (k + 1)))), (3, .int (q + ((-1)))), (6, .int 1), (5, .int (S 15 (24 * cl x + k))), (0, .ref g), (1, .int x), (2, .int (S 6 (cl (S 5 0))))]) hx hb dX7_deploy_171 hl (k := 6) rfl (nI_s _) (by decide) rfl (fun ls hl => ?_)
                              refine lv_goto (tgt := 51) hx hb dX7_deploy_174 (by decide) ?_
                              exact ih (k + 1) _ _ _ _ (by omega) (by omega) (by rw [show j14 - (k + 1) = j14 - 1 - k from by omega]; rw [delta, if_pos c158] at hv; exact hv) hw  (lv_sub hl [4, 5, 6, 1, 0] rfl)
                          · rw [tk9, if_pos (i32_nle c147)] at hv
                            refine lv_bipush (v := (-12)) hx hb dX7_deploy_150 (by decide) ?_
                            exact mm_iret hQ X hw (by have e9 : sp_deploy S x = ((-12), S) := (by rw [sp_deploy, if_neg (fun h9 => h9 c5), if_neg (fun h9 => h9 c18), if_neg c27, ← hv, if_pos (by decide)]); rw [e9]; exact ⟨rfl, _, hR⟩) (Nat.le_of_ble_eq_true rfl) (Nat.le_of_ble_eq_true rfl) dX7_deploy_152
                    · refine lv_iconst (v := 2) hx hb dX7_deploy_119 (by decide) ?_
                      refine lv_goto (tgt := 142) hx hb dX7_deploy_120 (by decide) ?_
                      have tk9 : takes (S 15 (24 * cl x + k)) = 2 := by rw [takes, if_pos ⟨i32_nlt c110, i32_nlt c116⟩]
                      refine lv_istore (lv' := [(6, .int 2), (5, .int (S 15 (24 * cl x + k))), (0, .ref g), (1, .int x), (2, .int (S 6 (cl (S 5 0)))), (3, .int q), (4, .int (nI (24 * cl x + k)))]) hx hb dX7_deploy_142 hl (by decide) rfl (fun ls hl => ?_)
                      refine lv_iload_n hx hb dX7_deploy_144 rfl (lv_at hl 5 rfl) ?_
                      refine lv_iload hx hb dX7_deploy_145 (lv_at hl 0 rfl) ?_
                      refine lv_icmp_ge (tgt := 153) hx hb dX7_deploy_147 (by decide) (fun c147 => ?_) (fun c147 => ?_)
                      · rw [tk9, if_neg (fun h9 => i32_lt_nle h9 c147)] at hv
                        refine lv_iload_n hx hb dX7_deploy_153 rfl (lv_at hl 5 rfl) ?_
                        refine lv_iload hx hb dX7_deploy_154 (lv_at hl 1 rfl) ?_
                        refine lv_bipush (v := 7) hx hb dX7_deploy_156 (by decide) ?_
                        refine lv_icmp_ne (tgt := 165) hx hb dX7_deploy_158 (by decide) (fun c158 => ?_) (fun c158 => ?_)
                        · refine lv_iconst (v := 1) hx hb dX7_deploy_165 (by decide) ?_
                          refine lv_iload hx hb dX7_deploy_166 (lv_at hl 0 rfl) ?_
                          refine lv_isub hx hb dX7_deploy_168 ?_
                          refine lv_iadd hx hb dX7_deploy_169 ?_
                          refine lv_istore_n (lv' := [(3, .int (q + (1 - 2))), (6, .int 2), (5, .int (S 15 (24 * cl x + k))), (0, .ref g), (1, .int x), (2, .int (S 6 (cl (S 5 0)))), (4, .int (nI (24 * cl x + k)))]) hx hb dX7_deploy_170 rfl hl (by decide) rfl (fun ls hl => ?_)
                          refine lv_iinc (v := nI (24 * cl x + (k + 1))) (lv' := [(4, .int (nI (24 * cl x + (k + 1)))), (3, .int (q + (1 - 2))), (6, .int 2), (5, .int (S 15 (24 * cl x + k))), (0, .ref g), (1, .int x), (2, .int (S 6 (cl (S 5 0))))]) hx hb dX7_deploy_171 hl (k := 6) rfl (nI_s _) (by decide) rfl (fun ls hl => ?_)
                          refine lv_goto (tgt := 51) hx hb dX7_deploy_174 (by decide) ?_
                          exact ih (k + 1) _ _ _ _ (by omega) (by omega) (by rw [show j14 - (k + 1) = j14 - 1 - k from by omega]; rw [delta, if_neg c158, tk9] at hv; exact hv) hw  (lv_sub hl [4, 5, 6, 1, 0] rfl)
                        · refine lv_iconst (v := (-1)) hx hb dX7_deploy_161 (by decide) ?_
                          refine lv_goto (tgt := 169) hx hb dX7_deploy_162 (by decide) ?_
                          refine lv_iadd hx hb dX7_deploy_169 ?_
                          refine lv_istore_n (lv' := [(3, .int (q + ((-1)))), (6, .int 2), (5, .int (S 15 (24 * cl x + k))), (0, .ref g), (1, .int x), (2, .int (S 6 (cl (S 5 0)))), (4, .int (nI (24 * cl x + k)))]) hx hb dX7_deploy_170 rfl hl (by decide) rfl (fun ls hl => ?_)
                          refine lv_iinc (v := nI (24 * cl x + (k + 1))) (lv' := [(4, .int (nI (24 * cl x + (k + 1)))), (3, .int (q + ((-1)))), (6, .int 2), (5, .int (S 15 (24 * cl x + k))), (0, .ref g), (1, .int x), (2, .int (S 6 (cl (S 5 0))))]) hx hb dX7_deploy_171 hl (k := 6) rfl (nI_s _) (by decide) rfl (fun ls hl => ?_)
                          refine lv_goto (tgt := 51) hx hb dX7_deploy_174 (by decide) ?_
                          exact ih (k + 1) _ _ _ _ (by omega) (by omega) (by rw [show j14 - (k + 1) = j14 - 1 - k from by omega]; rw [delta, if_pos c158] at hv; exact hv) hw  (lv_sub hl [4, 5, 6, 1, 0] rfl)
                      · rw [tk9, if_pos (i32_nle c147)] at hv
                        refine lv_bipush (v := (-12)) hx hb dX7_deploy_150 (by decide) ?_
                        exact mm_iret hQ X hw (by have e9 : sp_deploy S x = ((-12), S) := (by rw [sp_deploy, if_neg (fun h9 => h9 c5), if_neg (fun h9 => h9 c18), if_neg c27, ← hv, if_pos (by decide)]); rw [e9]; exact ⟨rfl, _, hR⟩) (Nat.le_of_ble_eq_true rfl) (Nat.le_of_ble_eq_true rfl) dX7_deploy_152
                · rw [if_pos ⟨c80, c101⟩] at hv
                  refine lv_bipush (v := (-11)) hx hb dX7_deploy_104 (by decide) ?_
                  exact mm_iret hQ X hw (by have e9 : sp_deploy S x = ((-11), S) := (by rw [sp_deploy, if_neg (fun h9 => h9 c5), if_neg (fun h9 => h9 c18), if_neg c27, ← hv, if_pos (by decide)]); rw [e9]; exact ⟨rfl, _, hR⟩) (Nat.le_of_ble_eq_true rfl) (Nat.le_of_ble_eq_true rfl) dX7_deploy_106
        exact loop (j14 + 1) 0 0 _ _ _ (by omega) (by omega) (by rw [b14]; rfl) hw  (lv_sub hl [3, 4, 2, 1, 0] rfl)
      · refine lv_bipush (v := (-3)) hx hb dX7_deploy_30 (by decide) ?_
        exact mm_iret hQ X hw (by have e9 : sp_deploy S x = ((-3), S) := (by rw [sp_deploy, if_neg (fun h9 => h9 c5), if_neg (fun h9 => h9 c18), if_pos c27]); rw [e9]; exact ⟨rfl, _, hR⟩) (Nat.le_of_ble_eq_true rfl) (Nat.le_of_ble_eq_true rfl) dX7_deploy_32
  · refine lv_bipush (v := (-2)) hx hb dX7_deploy_8 (by decide) ?_
    exact mm_iret hQ X hw (by have e9 : sp_deploy S x = ((-2), S) := (by rw [sp_deploy, if_pos c5]); rw [e9]; exact ⟨rfl, _, hR⟩) (Nat.le_of_ble_eq_true rfl) (Nat.le_of_ble_eq_true rfl) dX7_deploy_10
