set_option maxHeartbeats 4000000 in
set_option maxRecDepth 100000 in
theorem c_isBelow (l : Launch) (G : mG) (M : mM) (x b : Int32) : Ct l yX6_isBelow cX6_isBelow 2 (some FieldType.boolean) (mm_r 0 0 0) G [.int x, .int b] M (fun r M1 => r = some (.int (bI (0 ≤ x ∧ x < b))) ∧ M = M1) := by
  refine Ct.of (by decide) (Nat.le_of_ble_eq_true rfl) ?_
  intro p e s m args below meth c ls Q X hin hl hw hQ
  have hx := X.1
  have hb := X.2.1
  have hl : lv_has ls 2 [(0, .int x), (1, .int b)] := hl
  refine lv_iload_n hx hb dX6_isBelow_0 rfl (lv_at hl 0 rfl) ?_
  refine lv_if_lt (tgt := 13) hx hb dX6_isBelow_1 (by decide) (fun c1 => ?_) (fun c1 => ?_)
  · refine lv_iconst (v := 0) hx hb dX6_isBelow_13 (by decide) ?_
    exact mm_zret hQ X hw (rfl) (⟨by rw [bI_f (fun h9 => i32_lt_nle c1 h9.1)], rfl⟩) (Nat.le_of_ble_eq_true rfl) (Nat.le_of_ble_eq_true rfl) dX6_isBelow_14
  · refine lv_iload_n hx hb dX6_isBelow_4 rfl (lv_at hl 0 rfl) ?_
    refine lv_iload_n hx hb dX6_isBelow_5 rfl (lv_at hl 1 rfl) ?_
    refine lv_icmp_ge (tgt := 13) hx hb dX6_isBelow_6 (by decide) (fun c6 => ?_) (fun c6 => ?_)
    · refine lv_iconst (v := 0) hx hb dX6_isBelow_13 (by decide) ?_
      exact mm_zret hQ X hw (rfl) (⟨by rw [bI_f (fun h9 => i32_lt_nle h9.2 c6)], rfl⟩) (Nat.le_of_ble_eq_true rfl) (Nat.le_of_ble_eq_true rfl) dX6_isBelow_14
    · refine lv_iconst (v := 1) hx hb dX6_isBelow_9 (by decide) ?_
      refine lv_goto (tgt := 14) hx hb dX6_isBelow_10 (by decide) ?_
      exact mm_zret hQ X hw (rfl) (⟨by rw [bI_t ⟨i32_nlt c1, i32_nle c6⟩], rfl⟩) (Nat.le_of_ble_eq_true rfl) (Nat.le_of_ble_eq_true rfl) dX6_isBelow_14
set_option maxHeartbeats 4000000 in
set_option maxRecDepth 100000 in
theorem c_isBuild (l : Launch) (G : mG) (M : mM) (x : Int32) : Ct l yX6_isBuild cX6_isBuild 1 (some FieldType.boolean) (mm_r 0 0 0) G [.int x] M (fun r M1 => r = some (.int (bI (0 ≤ x ∧ x ≤ 1023))) ∧ M = M1) := by
  refine Ct.of (by decide) (Nat.le_of_ble_eq_true rfl) ?_
  intro p e s m args below meth c ls Q X hin hl hw hQ
  have hx := X.1
  have hb := X.2.1
  have hl : lv_has ls 1 [(0, .int x)] := hl
  refine lv_iload_n hx hb dX6_isBuild_0 rfl (lv_at hl 0 rfl) ?_
  refine lv_if_lt (tgt := 15) hx hb dX6_isBuild_1 (by decide) (fun c1 => ?_) (fun c1 => ?_)
  · refine lv_iconst (v := 0) hx hb dX6_isBuild_15 (by decide) ?_
    exact mm_zret hQ X hw (rfl) (⟨by rw [bI_f (fun h9 => i32_lt_nle c1 h9.1)], rfl⟩) (Nat.le_of_ble_eq_true rfl) (Nat.le_of_ble_eq_true rfl) dX6_isBuild_16
  · refine lv_iload_n hx hb dX6_isBuild_4 rfl (lv_at hl 0 rfl) ?_
    refine lv_sipush (v := 1023) hx hb dX6_isBuild_5 (by decide) ?_
    refine lv_icmp_gt (tgt := 15) hx hb dX6_isBuild_8 (by decide) (fun c8 => ?_) (fun c8 => ?_)
    · refine lv_iconst (v := 0) hx hb dX6_isBuild_15 (by decide) ?_
      exact mm_zret hQ X hw (rfl) (⟨by rw [bI_f (fun h9 => i32_lt_nle c8 h9.2)], rfl⟩) (Nat.le_of_ble_eq_true rfl) (Nat.le_of_ble_eq_true rfl) dX6_isBuild_16
    · refine lv_iconst (v := 1) hx hb dX6_isBuild_11 (by decide) ?_
      refine lv_goto (tgt := 16) hx hb dX6_isBuild_12 (by decide) ?_
      exact mm_zret hQ X hw (rfl) (⟨by rw [bI_t ⟨i32_nlt c1, i32_nlt c8⟩], rfl⟩) (Nat.le_of_ble_eq_true rfl) (Nat.le_of_ble_eq_true rfl) dX6_isBuild_16
set_option maxHeartbeats 4000000 in
set_option maxRecDepth 100000 in
theorem c_isActWith (l : Launch) (G : mG) (M : mM) (a v : Int32) : Ct l yX6_isActWith cX6_isActWith 2 (some FieldType.boolean) (mm_r 1 0 0) G [.int a, .int v] M (fun r M1 => r = some (.int (bI (ac_ok a v))) ∧ M = M1) := by
  refine Ct.of (by decide) (Nat.le_of_ble_eq_true rfl) ?_
  intro p e s m args below meth c ls Q X hin hl hw hQ
  have hx := X.1
  have hb := X.2.1
  have hl : lv_has ls 2 [(0, .int a), (1, .int v)] := hl
  refine lv_iload_n hx hb dX6_isActWith_0 rfl (lv_at hl 0 rfl) ?_
  rcases mm_sw a 6 3 (by decide) (by decide) with ⟨k9, hk9, c1⟩ | c1
  · rcases (show k9 = 0 ∨ k9 = 1 ∨ k9 = 2 by omega) with rfl | rfl | rfl
    · have c1 : a = 6 := c1
      refine lv_tableIn (off := 27) (tgt := 28) hx hb dX6_isActWith_1 (by rw [c1]; decide) (by rw [c1]; decide) (by rw [c1]; rfl) (by decide) ?_
      refine lv_iload_n hx hb dX6_isActWith_28 rfl (lv_at hl 1 rfl) ?_
      refine lv_bipush (v := 8) hx hb dX6_isActWith_29 (by decide) ?_
      refine mm_callS (As := [.int v, .int 8]) (rest := []) X hw (c_isBelow l G _ (v) (8)) wd_X6_88 ⟨Nat.le_of_ble_eq_true rfl, Nat.le_of_ble_eq_true rfl⟩ ⟨Nat.le_of_ble_eq_true rfl, Nat.le_of_ble_eq_true rfl⟩ rfl rfl (Nat.le_of_ble_eq_true rfl) hl.1 dX6_isActWith_31 (fun v9 M9 H9 locs9 hp9 hw => ?_)
      obtain ⟨rfl, rfl⟩ := hp9
      refine W.eq (g2 := F0 m 34 ls [.int (bI (0 ≤ v ∧ v < 8))]) rfl ?_
      exact mm_zret hQ X hw (bI_n _) (⟨congrArg (fun z => some (Value.int z)) (bI_e (⟨fun h9 => ⟨by rw [c1]; decide, fun _ => h9, fun z => absurd z (by rw [c1]; decide)⟩, fun h9 => h9.2.1 c1⟩)), rfl⟩) (Nat.le_of_ble_eq_true rfl) (Nat.le_of_ble_eq_true rfl) dX6_isActWith_34
    · have c1 : a = 7 := c1
      refine lv_tableIn (off := 34) (tgt := 35) hx hb dX6_isActWith_1 (by rw [c1]; decide) (by rw [c1]; decide) (by rw [c1]; rfl) (by decide) ?_
      refine lv_iload_n hx hb dX6_isActWith_35 rfl (lv_at hl 1 rfl) ?_
      refine lv_iconst (v := 4) hx hb dX6_isActWith_36 (by decide) ?_
      refine mm_callS (As := [.int v, .int 4]) (rest := []) X hw (c_isBelow l G _ (v) (4)) wd_X6_88 ⟨Nat.le_of_ble_eq_true rfl, Nat.le_of_ble_eq_true rfl⟩ ⟨Nat.le_of_ble_eq_true rfl, Nat.le_of_ble_eq_true rfl⟩ rfl rfl (Nat.le_of_ble_eq_true rfl) hl.1 dX6_isActWith_37 (fun v9 M9 H9 locs9 hp9 hw => ?_)
      obtain ⟨rfl, rfl⟩ := hp9
      refine W.eq (g2 := F0 m 40 ls [.int (bI (0 ≤ v ∧ v < 4))]) rfl ?_
      exact mm_zret hQ X hw (bI_n _) (⟨congrArg (fun z => some (Value.int z)) (bI_e (⟨fun h9 => ⟨by rw [c1]; decide, fun z => absurd z (by rw [c1]; decide), fun _ => h9⟩, fun h9 => h9.2.2 (by rw [c1]; decide)⟩)), rfl⟩) (Nat.le_of_ble_eq_true rfl) (Nat.le_of_ble_eq_true rfl) dX6_isActWith_40
    · have c1 : a = 8 := c1
      refine lv_tableIn (off := 34) (tgt := 35) hx hb dX6_isActWith_1 (by rw [c1]; decide) (by rw [c1]; decide) (by rw [c1]; rfl) (by decide) ?_
      refine lv_iload_n hx hb dX6_isActWith_35 rfl (lv_at hl 1 rfl) ?_
      refine lv_iconst (v := 4) hx hb dX6_isActWith_36 (by decide) ?_
      refine mm_callS (As := [.int v, .int 4]) (rest := []) X hw (c_isBelow l G _ (v) (4)) wd_X6_88 ⟨Nat.le_of_ble_eq_true rfl, Nat.le_of_ble_eq_true rfl⟩ ⟨Nat.le_of_ble_eq_true rfl, Nat.le_of_ble_eq_true rfl⟩ rfl rfl (Nat.le_of_ble_eq_true rfl) hl.1 dX6_isActWith_37 (fun v9 M9 H9 locs9 hp9 hw => ?_)
      obtain ⟨rfl, rfl⟩ := hp9
      refine W.eq (g2 := F0 m 40 ls [.int (bI (0 ≤ v ∧ v < 4))]) rfl ?_
      exact mm_zret hQ X hw (bI_n _) (⟨congrArg (fun z => some (Value.int z)) (bI_e (⟨fun h9 => ⟨by rw [c1]; decide, fun z => absurd z (by rw [c1]; decide), fun _ => h9⟩, fun h9 => h9.2.2 (by rw [c1]; decide)⟩)), rfl⟩) (Nat.le_of_ble_eq_true rfl) (Nat.le_of_ble_eq_true rfl) dX6_isActWith_40
  · refine lv_tableOut (tgt := 41) hx hb dX6_isActWith_1 c1 (by decide) ?_
    refine lv_iload_n hx hb dX6_isActWith_41 rfl (lv_at hl 0 rfl) ?_
    refine lv_bipush (v := 9) hx hb dX6_isActWith_42 (by decide) ?_
    refine mm_callS (As := [.int a, .int 9]) (rest := []) X hw (c_isBelow l G _ (a) (9)) wd_X6_88 ⟨Nat.le_of_ble_eq_true rfl, Nat.le_of_ble_eq_true rfl⟩ ⟨Nat.le_of_ble_eq_true rfl, Nat.le_of_ble_eq_true rfl⟩ rfl rfl (Nat.le_of_ble_eq_true rfl) hl.1 dX6_isActWith_44 (fun v9 M9 H9 locs9 hp9 hw => ?_)
    obtain ⟨rfl, rfl⟩ := hp9
    refine W.eq (g2 := F0 m 47 ls [.int (bI (0 ≤ a ∧ a < 9))]) rfl ?_
    exact mm_zret hQ X hw (bI_n _) (⟨congrArg (fun z => some (Value.int z)) (bI_e (ac_out c1)), rfl⟩) (Nat.le_of_ble_eq_true rfl) (Nat.le_of_ble_eq_true rfl) dX6_isActWith_47
set_option maxHeartbeats 4000000 in
set_option maxRecDepth 100000 in
theorem c_answerOfRule (l : Launch) (G : mG) (M : mM) (x : Int32) : Ct l yX6_answerOfRule cX6_answerOfRule 1 (some FieldType.int) (mm_r 0 0 0) G [.int x] M (fun r M1 => r = some (.int (-10 - x)) ∧ M = M1) := by
  refine Ct.of (by decide) (Nat.le_of_ble_eq_true rfl) ?_
  intro p e s m args below meth c ls Q X hin hl hw hQ
  have hx := X.1
  have hb := X.2.1
  have hl : lv_has ls 1 [(0, .int x)] := hl
  refine lv_bipush (v := (-10)) hx hb dX6_answerOfRule_0 (by decide) ?_
  refine lv_iload_n hx hb dX6_answerOfRule_2 rfl (lv_at hl 0 rfl) ?_
  refine lv_isub hx hb dX6_answerOfRule_3 ?_
  exact mm_iret hQ X hw (⟨rfl, rfl⟩) (Nat.le_of_ble_eq_true rfl) (Nat.le_of_ble_eq_true rfl) dX6_answerOfRule_4
set_option maxHeartbeats 4000000 in
set_option maxRecDepth 100000 in
theorem c_takenBy (l : Launch) (G : mG) (M : mM) (a : Int32) : Ct l yX1_takenBy cX1_takenBy 1 (some FieldType.int) (mm_r 0 0 0) G [.int a] M (fun r M1 => r = some (.int (takes a)) ∧ M = M1) := by
  refine Ct.of (by decide) (Nat.le_of_ble_eq_true rfl) ?_
  intro p e s m args below meth c ls Q X hin hl hw hQ
  have hx := X.1
  have hb := X.2.1
  have hl : lv_has ls 1 [(0, .int a)] := hl
  refine lv_iload_n hx hb dX1_takenBy_0 rfl (lv_at hl 0 rfl) ?_
  rcases mm_sw a 2 6 (by decide) (by decide) with ⟨k9, hk9, c1⟩ | c1
  · rcases (show k9 = 0 ∨ k9 = 1 ∨ k9 = 2 ∨ k9 = 3 ∨ k9 = 4 ∨ k9 = 5 by omega) with rfl | rfl | rfl | rfl | rfl | rfl
    · have c1 : a = 2 := c1
      refine lv_tableIn (off := 39) (tgt := 40) hx hb dX1_takenBy_1 (by rw [c1]; decide) (by rw [c1]; decide) (by rw [c1]; rfl) (by decide) ?_
      refine lv_iconst (v := 2) hx hb dX1_takenBy_40 (by decide) ?_
      exact mm_iret hQ X hw (⟨by rw [c1]; rfl, rfl⟩) (Nat.le_of_ble_eq_true rfl) (Nat.le_of_ble_eq_true rfl) dX1_takenBy_41
    · have c1 : a = 3 := c1
      refine lv_tableIn (off := 39) (tgt := 40) hx hb dX1_takenBy_1 (by rw [c1]; decide) (by rw [c1]; decide) (by rw [c1]; rfl) (by decide) ?_
      refine lv_iconst (v := 2) hx hb dX1_takenBy_40 (by decide) ?_
      exact mm_iret hQ X hw (⟨by rw [c1]; rfl, rfl⟩) (Nat.le_of_ble_eq_true rfl) (Nat.le_of_ble_eq_true rfl) dX1_takenBy_41
    · have c1 : a = 4 := c1
      refine lv_tableIn (off := 39) (tgt := 40) hx hb dX1_takenBy_1 (by rw [c1]; decide) (by rw [c1]; decide) (by rw [c1]; rfl) (by decide) ?_
      refine lv_iconst (v := 2) hx hb dX1_takenBy_40 (by decide) ?_
      exact mm_iret hQ X hw (⟨by rw [c1]; rfl, rfl⟩) (Nat.le_of_ble_eq_true rfl) (Nat.le_of_ble_eq_true rfl) dX1_takenBy_41
    · have c1 : a = 5 := c1
      refine lv_tableIn (off := 39) (tgt := 40) hx hb dX1_takenBy_1 (by rw [c1]; decide) (by rw [c1]; decide) (by rw [c1]; rfl) (by decide) ?_
      refine lv_iconst (v := 2) hx hb dX1_takenBy_40 (by decide) ?_
      exact mm_iret hQ X hw (⟨by rw [c1]; rfl, rfl⟩) (Nat.le_of_ble_eq_true rfl) (Nat.le_of_ble_eq_true rfl) dX1_takenBy_41
    · have c1 : a = 6 := c1
      refine lv_tableIn (off := 41) (tgt := 42) hx hb dX1_takenBy_1 (by rw [c1]; decide) (by rw [c1]; decide) (by rw [c1]; rfl) (by decide) ?_
      refine lv_iconst (v := 1) hx hb dX1_takenBy_42 (by decide) ?_
      exact mm_iret hQ X hw (⟨by rw [c1]; rfl, rfl⟩) (Nat.le_of_ble_eq_true rfl) (Nat.le_of_ble_eq_true rfl) dX1_takenBy_43
    · have c1 : a = 7 := c1
      refine lv_tableIn (off := 41) (tgt := 42) hx hb dX1_takenBy_1 (by rw [c1]; decide) (by rw [c1]; decide) (by rw [c1]; rfl) (by decide) ?_
      refine lv_iconst (v := 1) hx hb dX1_takenBy_42 (by decide) ?_
      exact mm_iret hQ X hw (⟨by rw [c1]; rfl, rfl⟩) (Nat.le_of_ble_eq_true rfl) (Nat.le_of_ble_eq_true rfl) dX1_takenBy_43
  · refine lv_tableOut (tgt := 44) hx hb dX1_takenBy_1 c1 (by decide) ?_
    refine lv_iconst (v := 0) hx hb dX1_takenBy_44 (by decide) ?_
    exact mm_iret hQ X hw (⟨by rw [takes_out c1], rfl⟩) (Nat.le_of_ble_eq_true rfl) (Nat.le_of_ble_eq_true rfl) dX1_takenBy_45
set_option maxHeartbeats 4000000 in
set_option maxRecDepth 100000 in
theorem c_laidBy (l : Launch) (G : mG) (M : mM) (a : Int32) : Ct l yX1_laidBy cX1_laidBy 1 (some FieldType.int) (mm_r 0 0 0) G [.int a] M (fun r M1 => r = some (.int (if a = 7 then 0 else 1)) ∧ M = M1) := by
  refine Ct.of (by decide) (Nat.le_of_ble_eq_true rfl) ?_
  intro p e s m args below meth c ls Q X hin hl hw hQ
  have hx := X.1
  have hb := X.2.1
  have hl : lv_has ls 1 [(0, .int a)] := hl
  refine lv_iload_n hx hb dX1_laidBy_0 rfl (lv_at hl 0 rfl) ?_
  refine lv_bipush (v := 7) hx hb dX1_laidBy_1 (by decide) ?_
  refine lv_icmp_ne (tgt := 10) hx hb dX1_laidBy_3 (by decide) (fun c3 => ?_) (fun c3 => ?_)
  · refine lv_iconst (v := 1) hx hb dX1_laidBy_10 (by decide) ?_
    exact mm_iret hQ X hw (⟨by rw [if_neg c3], rfl⟩) (Nat.le_of_ble_eq_true rfl) (Nat.le_of_ble_eq_true rfl) dX1_laidBy_11
  · refine lv_iconst (v := 0) hx hb dX1_laidBy_6 (by decide) ?_
    refine lv_goto (tgt := 11) hx hb dX1_laidBy_7 (by decide) ?_
    exact mm_iret hQ X hw (⟨by rw [if_pos c3], rfl⟩) (Nat.le_of_ble_eq_true rfl) (Nat.le_of_ble_eq_true rfl) dX1_laidBy_11
set_option maxHeartbeats 4000000 in
set_option maxRecDepth 100000 in
theorem c_joined (l : Launch) (G : mG) (M : mM) (a : Int32) (x y : Int64) (ha : a = 2 ∨ a = 3 ∨ a = 4 ∨ a = 5) (hy : a = 5 → ¬ y = 0) : Ct l yX4_joined cX4_joined 5 (some FieldType.long) (mm_r 0 0 0) G [.int a, .long x, .long y] M (fun r M1 => r = some (.long (wk a x y)) ∧ M = M1) := by
  refine Ct.of (by decide) (Nat.le_of_ble_eq_true rfl) ?_
  intro p e s m args below meth c ls Q X hin hl hw hQ
  have hx := X.1
  have hb := X.2.1
  have hl : lv_has ls 5 [(0, .int a), (1, .long x), (3, .long y)] := hl
  refine lv_iload_n hx hb dX4_joined_0 rfl (lv_at hl 0 rfl) ?_
  rcases mm_sw a 2 4 (by decide) (by decide) with ⟨k9, hk9, c1⟩ | c1
  · rcases (show k9 = 0 ∨ k9 = 1 ∨ k9 = 2 ∨ k9 = 3 by omega) with rfl | rfl | rfl | rfl
    · have c1 : a = 2 := c1
      refine lv_tableIn (off := 31) (tgt := 32) hx hb dX4_joined_1 (by rw [c1]; decide) (by rw [c1]; decide) (by rw [c1]; rfl) (by decide) ?_
      refine lv_lload_n hx hb dX4_joined_32 rfl (lv_at hl 1 rfl) ?_
      refine lv_lload_n hx hb dX4_joined_33 rfl (lv_at hl 2 rfl) ?_
      refine lv_ladd hx hb dX4_joined_34 ?_
      exact mm_lret hQ X hw (⟨by rw [wk, if_pos c1], rfl⟩) (Nat.le_of_ble_eq_true rfl) (Nat.le_of_ble_eq_true rfl) dX4_joined_35
    · have c1 : a = 3 := c1
      refine lv_tableIn (off := 35) (tgt := 36) hx hb dX4_joined_1 (by rw [c1]; decide) (by rw [c1]; decide) (by rw [c1]; rfl) (by decide) ?_
      refine lv_lload_n hx hb dX4_joined_36 rfl (lv_at hl 1 rfl) ?_
      refine lv_lload_n hx hb dX4_joined_37 rfl (lv_at hl 2 rfl) ?_
      refine lv_lsub hx hb dX4_joined_38 ?_
      exact mm_lret hQ X hw (⟨by rw [wk, if_neg (by rw [c1]; decide), if_pos c1], rfl⟩) (Nat.le_of_ble_eq_true rfl) (Nat.le_of_ble_eq_true rfl) dX4_joined_39
    · have c1 : a = 4 := c1
      refine lv_tableIn (off := 39) (tgt := 40) hx hb dX4_joined_1 (by rw [c1]; decide) (by rw [c1]; decide) (by rw [c1]; rfl) (by decide) ?_
      refine lv_lload_n hx hb dX4_joined_40 rfl (lv_at hl 1 rfl) ?_
      refine lv_lload_n hx hb dX4_joined_41 rfl (lv_at hl 2 rfl) ?_
      refine lv_lmul hx hb dX4_joined_42 ?_
      exact mm_lret hQ X hw (⟨by rw [wk, if_neg (by rw [c1]; decide), if_neg (by rw [c1]; decide), if_pos c1], rfl⟩) (Nat.le_of_ble_eq_true rfl) (Nat.le_of_ble_eq_true rfl) dX4_joined_43
    · have c1 : a = 5 := c1
      refine lv_tableIn (off := 43) (tgt := 44) hx hb dX4_joined_1 (by rw [c1]; decide) (by rw [c1]; decide) (by rw [c1]; rfl) (by decide) ?_
      refine lv_lload_n hx hb dX4_joined_44 rfl (lv_at hl 2 rfl) ?_
      refine lv_lconst (v := 0) hx hb dX4_joined_45 (by decide) ?_
      refine W.lcmp hx hb dX4_joined_46 ?_
      refine mm_lif_ne (tgt := 54) hx hb dX4_joined_47 (by decide) (fun c47 => ?_) (fun c47 => ?_)
      · refine lv_lload_n hx hb dX4_joined_54 rfl (lv_at hl 1 rfl) ?_
        refine lv_lload_n hx hb dX4_joined_55 rfl (lv_at hl 2 rfl) ?_
        refine lv_ldiv hx hb dX4_joined_56 (c47) ?_
        exact mm_lret hQ X hw (⟨by rw [wk, if_neg (by rw [c1]; decide), if_neg (by rw [c1]; decide), if_neg (by rw [c1]; decide)], rfl⟩) (Nat.le_of_ble_eq_true rfl) (Nat.le_of_ble_eq_true rfl) dX4_joined_57
      · exact absurd c47 (hy c1)
  · refine lv_tableOut (tgt := 58) hx hb dX4_joined_1 c1 (by decide) ?_
    rcases ha with h9 | h9 | h9 | h9 <;> exact absurd c1 (by rw [h9]; decide)
set_option maxHeartbeats 4000000 in
set_option maxRecDepth 100000 in
theorem c_max (l : Launch) (G : mG) (M : mM) (x y : Int32) : Ct l yJ9_max_7cf53 cJ9_max_7cf53 2 (some FieldType.int) (mm_r 0 0 0) G [.int x, .int y] M (fun r M1 => r = some (.int (if x < y then y else x)) ∧ M = M1) := by
  refine Ct.ofF (by decide +kernel) (Nat.le_of_ble_eq_true rfl) ?_
  intro p e s m args below meth c ls Q X hin hl hw hQ
  have hx := X.1
  have hb := X.2.1
  have hl : lv_has ls 2 [(0, .int x), (1, .int y)] := hl
  refine lv_iload_n hx hb dJ9_max_7cf53_0 rfl (lv_at hl 0 rfl) ?_
  refine lv_iload_n hx hb dJ9_max_7cf53_1 rfl (lv_at hl 1 rfl) ?_
  refine lv_icmp_lt (tgt := 9) hx hb dJ9_max_7cf53_2 (by decide) (fun c2 => ?_) (fun c2 => ?_)
  · refine lv_iload_n hx hb dJ9_max_7cf53_9 rfl (lv_at hl 1 rfl) ?_
    exact mm_iret hQ X hw (⟨by rw [if_pos c2], rfl⟩) (Nat.le_of_ble_eq_true rfl) (Nat.le_of_ble_eq_true rfl) dJ9_max_7cf53_10
  · refine lv_iload_n hx hb dJ9_max_7cf53_5 rfl (lv_at hl 0 rfl) ?_
    refine lv_goto (tgt := 10) hx hb dJ9_max_7cf53_6 (by decide) ?_
    exact mm_iret hQ X hw (⟨by rw [if_neg c2], rfl⟩) (Nat.le_of_ble_eq_true rfl) (Nat.le_of_ble_eq_true rfl) dJ9_max_7cf53_10
set_option maxHeartbeats 4000000 in
set_option maxRecDepth 100000 in
theorem c_abs (l : Launch) (G : mG) (M : mM) (v : Int64) : Ct l yJ9_abs_067f4 cJ9_abs_067f4 2 (some FieldType.long) (mm_r 0 0 0) G [.long v] M (fun r M1 => r = some (.long (if 0 ≤ v then v else -v)) ∧ M = M1) := by
  refine Ct.ofF (by decide +kernel) (Nat.le_of_ble_eq_true rfl) ?_
  intro p e s m args below meth c ls Q X hin hl hw hQ
  have hx := X.1
  have hb := X.2.1
  have hl : lv_has ls 2 [(0, .long v)] := hl
  refine lv_lload_n hx hb dJ9_abs_067f4_0 rfl (lv_at hl 0 rfl) ?_
  refine lv_lconst (v := 0) hx hb dJ9_abs_067f4_1 (by decide) ?_
  refine W.lcmp hx hb dJ9_abs_067f4_2 ?_
  refine mm_lif_ge (tgt := 11) hx hb dJ9_abs_067f4_3 (by decide) (fun c3 => ?_) (fun c3 => ?_)
  · refine lv_lload_n hx hb dJ9_abs_067f4_11 rfl (lv_at hl 0 rfl) ?_
    exact mm_lret hQ X hw (⟨by rw [if_pos c3], rfl⟩) (Nat.le_of_ble_eq_true rfl) (Nat.le_of_ble_eq_true rfl) dJ9_abs_067f4_12
  · refine lv_lload_n hx hb dJ9_abs_067f4_6 rfl (lv_at hl 0 rfl) ?_
    refine lv_lneg hx hb dJ9_abs_067f4_7 ?_
    refine lv_goto (tgt := 12) hx hb dJ9_abs_067f4_8 (by decide) ?_
    exact mm_lret hQ X hw (⟨by rw [if_neg c3], rfl⟩) (Nat.le_of_ble_eq_true rfl) (Nat.le_of_ble_eq_true rfl) dJ9_abs_067f4_12
set_option maxHeartbeats 4000000 in
set_option maxRecDepth 100000 in
theorem c_floorDiv (l : Launch) (G : mG) (M : mM) (x y : Int64) (hy : ¬ y = 0) : Ct l yJ9_floorDiv_f86c9 cJ9_floorDiv_f86c9 6 (some FieldType.long) (mm_r 0 0 0) G [.long x, .long y] M (fun r M1 => r = some (.long (fd x y)) ∧ M = M1) := by
  refine Ct.ofF (by decide +kernel) (Nat.le_of_ble_eq_true rfl) ?_
  intro p e s m args below meth c ls Q X hin hl hw hQ
  have hx := X.1
  have hb := X.2.1
  have hl : lv_has ls 6 [(0, .long x), (2, .long y)] := hl
  refine lv_lload_n hx hb dJ9_floorDiv_f86c9_0 rfl (lv_at hl 0 rfl) ?_
  refine lv_lload_n hx hb dJ9_floorDiv_f86c9_1 rfl (lv_at hl 1 rfl) ?_
  refine lv_ldiv hx hb dJ9_floorDiv_f86c9_2 (hy) ?_
  refine lv_lstore (lv' := [(4, .long (x / y)), (0, .long x), (2, .long y)]) hx hb dJ9_floorDiv_f86c9_3 hl (by decide) rfl (fun ls hl => ?_)
  refine lv_lload_n hx hb dJ9_floorDiv_f86c9_5 rfl (lv_at hl 1 rfl) ?_
  refine lv_lload_n hx hb dJ9_floorDiv_f86c9_6 rfl (lv_at hl 2 rfl) ?_
  refine lv_lxor hx hb dJ9_floorDiv_f86c9_7 ?_
  refine lv_lconst (v := 0) hx hb dJ9_floorDiv_f86c9_8 (by decide) ?_
  refine W.lcmp hx hb dJ9_floorDiv_f86c9_9 ?_
  refine mm_lif_ge (tgt := 27) hx hb dJ9_floorDiv_f86c9_10 (by decide) (fun c10 => ?_) (fun c10 => ?_)
  · refine lv_lload hx hb dJ9_floorDiv_f86c9_27 (lv_at hl 0 rfl) ?_
    exact mm_lret hQ X hw (⟨by rw [fd, if_pos c10], rfl⟩) (Nat.le_of_ble_eq_true rfl) (Nat.le_of_ble_eq_true rfl) dJ9_floorDiv_f86c9_29
  · refine lv_lload hx hb dJ9_floorDiv_f86c9_13 (lv_at hl 0 rfl) ?_
    refine lv_lload_n hx hb dJ9_floorDiv_f86c9_15 rfl (lv_at hl 2 rfl) ?_
    refine lv_lmul hx hb dJ9_floorDiv_f86c9_16 ?_
    refine lv_lload_n hx hb dJ9_floorDiv_f86c9_17 rfl (lv_at hl 1 rfl) ?_
    refine W.lcmp hx hb dJ9_floorDiv_f86c9_18 ?_
    refine mm_lif_eq (tgt := 27) hx hb dJ9_floorDiv_f86c9_19 (by decide) (fun c19 => ?_) (fun c19 => ?_)
    · refine lv_lload hx hb dJ9_floorDiv_f86c9_27 (lv_at hl 0 rfl) ?_
      exact mm_lret hQ X hw (⟨by rw [fd, if_neg c10, if_pos c19], rfl⟩) (Nat.le_of_ble_eq_true rfl) (Nat.le_of_ble_eq_true rfl) dJ9_floorDiv_f86c9_29
    · refine lv_lload hx hb dJ9_floorDiv_f86c9_22 (lv_at hl 0 rfl) ?_
      refine lv_lconst (v := 1) hx hb dJ9_floorDiv_f86c9_24 (by decide) ?_
      refine lv_lsub hx hb dJ9_floorDiv_f86c9_25 ?_
      exact mm_lret hQ X hw (⟨by rw [fd, if_neg c10, if_neg c19], rfl⟩) (Nat.le_of_ble_eq_true rfl) (Nat.le_of_ble_eq_true rfl) dJ9_floorDiv_f86c9_26
set_option maxHeartbeats 4000000 in
set_option maxRecDepth 100000 in
theorem c_bitCount (l : Launch) (G : mG) (M : mM) (v : Int64) : Ct l yJ13_bitCount_95d88 cJ13_bitCount_95d88 2 (some FieldType.int) (mm_r 0 0 0) G [.long v] M (fun r M1 => r = some (.int (bc v)) ∧ M = M1) := by
  refine Ct.of (by decide) (Nat.le_of_ble_eq_true rfl) ?_
  intro p e s m args below meth c ls Q X hin hl hw hQ
  have hx := X.1
  have hb := X.2.1
  have hl : lv_has ls 2 [(0, .long v)] := hl
  refine lv_lload_n hx hb dJ13_bitCount_95d88_0 rfl (lv_at hl 0 rfl) ?_
  refine lv_lload_n hx hb dJ13_bitCount_95d88_1 rfl (lv_at hl 0 rfl) ?_
  refine lv_iconst (v := 1) hx hb dJ13_bitCount_95d88_2 (by decide) ?_
  refine lv_lushr (v := (v.toUInt64 >>> ((1 : Int32).toInt64.toUInt64 &&& Int64.toUInt64 63)).toInt64) hx hb dJ13_bitCount_95d88_3 rfl ?_
  refine lv_ldc2 (v := 6148914691236517205) hx hb X.2.2.2.1 (X.2.2.2.2.1 _ cn_J13_314) dJ13_bitCount_95d88_4 ?_
  refine lv_land hx hb dJ13_bitCount_95d88_7 ?_
  refine lv_lsub hx hb dJ13_bitCount_95d88_8 ?_
  refine mm_eqL (y := bc1 v) rfl ?_
  refine lv_lstore_n (lv' := [(0, .long (bc1 v))]) hx hb dJ13_bitCount_95d88_9 rfl hl (by decide) rfl (fun ls hl => ?_)
  refine lv_lload_n hx hb dJ13_bitCount_95d88_10 rfl (lv_at hl 0 rfl) ?_
  refine lv_ldc2 (v := 3689348814741910323) hx hb X.2.2.2.1 (X.2.2.2.2.1 _ cn_J13_316) dJ13_bitCount_95d88_11 ?_
  refine lv_land hx hb dJ13_bitCount_95d88_14 ?_
  refine lv_lload_n hx hb dJ13_bitCount_95d88_15 rfl (lv_at hl 0 rfl) ?_
  refine lv_iconst (v := 2) hx hb dJ13_bitCount_95d88_16 (by decide) ?_
  refine lv_lushr (v := ((bc1 v).toUInt64 >>> ((2 : Int32).toInt64.toUInt64 &&& Int64.toUInt64 63)).toInt64) hx hb dJ13_bitCount_95d88_17 rfl ?_
  refine lv_ldc2 (v := 3689348814741910323) hx hb X.2.2.2.1 (X.2.2.2.2.1 _ cn_J13_316) dJ13_bitCount_95d88_18 ?_
  refine lv_land hx hb dJ13_bitCount_95d88_21 ?_
  refine lv_ladd hx hb dJ13_bitCount_95d88_22 ?_
  refine mm_eqL (y := bc2 (bc1 v)) rfl ?_
  refine lv_lstore_n (lv' := [(0, .long (bc2 (bc1 v)))]) hx hb dJ13_bitCount_95d88_23 rfl hl (by decide) rfl (fun ls hl => ?_)
  refine lv_lload_n hx hb dJ13_bitCount_95d88_24 rfl (lv_at hl 0 rfl) ?_
  refine lv_lload_n hx hb dJ13_bitCount_95d88_25 rfl (lv_at hl 0 rfl) ?_
  refine lv_iconst (v := 4) hx hb dJ13_bitCount_95d88_26 (by decide) ?_
  refine lv_lushr (v := ((bc2 (bc1 v)).toUInt64 >>> ((4 : Int32).toInt64.toUInt64 &&& Int64.toUInt64 63)).toInt64) hx hb dJ13_bitCount_95d88_27 rfl ?_
  refine lv_ladd hx hb dJ13_bitCount_95d88_28 ?_
  refine lv_ldc2 (v := 1085102592571150095) hx hb X.2.2.2.1 (X.2.2.2.2.1 _ cn_J13_318) dJ13_bitCount_95d88_29 ?_
  refine lv_land hx hb dJ13_bitCount_95d88_32 ?_
  refine mm_eqL (y := bc3 (bc2 (bc1 v))) rfl ?_
  refine lv_lstore_n (lv' := [(0, .long (bc3 (bc2 (bc1 v))))]) hx hb dJ13_bitCount_95d88_33 rfl hl (by decide) rfl (fun ls hl => ?_)
  refine lv_lload_n hx hb dJ13_bitCount_95d88_34 rfl (lv_at hl 0 rfl) ?_
  refine lv_lload_n hx hb dJ13_bitCount_95d88_35 rfl (lv_at hl 0 rfl) ?_
  refine lv_bipush (v := 8) hx hb dJ13_bitCount_95d88_36 (by decide) ?_
  refine lv_lushr (v := ((bc3 (bc2 (bc1 v))).toUInt64 >>> ((8 : Int32).toInt64.toUInt64 &&& Int64.toUInt64 63)).toInt64) hx hb dJ13_bitCount_95d88_38 rfl ?_
  refine lv_ladd hx hb dJ13_bitCount_95d88_39 ?_
  refine mm_eqL (y := bc4 (bc3 (bc2 (bc1 v)))) rfl ?_
  refine lv_lstore_n (lv' := [(0, .long (bc4 (bc3 (bc2 (bc1 v)))))]) hx hb dJ13_bitCount_95d88_40 rfl hl (by decide) rfl (fun ls hl => ?_)
  refine lv_lload_n hx hb dJ13_bitCount_95d88_41 rfl (lv_at hl 0 rfl) ?_
  refine lv_lload_n hx hb dJ13_bitCount_95d88_42 rfl (lv_at hl 0 rfl) ?_
  refine lv_bipush (v := 16) hx hb dJ13_bitCount_95d88_43 (by decide) ?_
  refine lv_lushr (v := ((bc4 (bc3 (bc2 (bc1 v)))).toUInt64 >>> ((16 : Int32).toInt64.toUInt64 &&& Int64.toUInt64 63)).toInt64) hx hb dJ13_bitCount_95d88_45 rfl ?_
  refine lv_ladd hx hb dJ13_bitCount_95d88_46 ?_
  refine mm_eqL (y := bc5 (bc4 (bc3 (bc2 (bc1 v))))) rfl ?_
  refine lv_lstore_n (lv' := [(0, .long (bc5 (bc4 (bc3 (bc2 (bc1 v))))))]) hx hb dJ13_bitCount_95d88_47 rfl hl (by decide) rfl (fun ls hl => ?_)
  refine lv_lload_n hx hb dJ13_bitCount_95d88_48 rfl (lv_at hl 0 rfl) ?_
  refine lv_lload_n hx hb dJ13_bitCount_95d88_49 rfl (lv_at hl 0 rfl) ?_
  refine lv_bipush (v := 32) hx hb dJ13_bitCount_95d88_50 (by decide) ?_
  refine lv_lushr (v := ((bc5 (bc4 (bc3 (bc2 (bc1 v))))).toUInt64 >>> ((32 : Int32).toInt64.toUInt64 &&& Int64.toUInt64 63)).toInt64) hx hb dJ13_bitCount_95d88_52 rfl ?_
  refine lv_ladd hx hb dJ13_bitCount_95d88_53 ?_
  refine mm_eqL (y := bc6 (bc5 (bc4 (bc3 (bc2 (bc1 v)))))) rfl ?_
  refine lv_lstore_n (lv' := [(0, .long (bc6 (bc5 (bc4 (bc3 (bc2 (bc1 v)))))))]) hx hb dJ13_bitCount_95d88_54 rfl hl (by decide) rfl (fun ls hl => ?_)
  refine lv_lload_n hx hb dJ13_bitCount_95d88_55 rfl (lv_at hl 0 rfl) ?_
  refine lv_l2i (v := (bc6 (bc5 (bc4 (bc3 (bc2 (bc1 v))))) : Int64).toInt32) hx hb dJ13_bitCount_95d88_56 rfl ?_
  refine lv_bipush (v := 127) hx hb dJ13_bitCount_95d88_57 (by decide) ?_
  refine lv_iand hx hb dJ13_bitCount_95d88_59 ?_
  exact mm_iret hQ X hw (⟨rfl, rfl⟩) (Nat.le_of_ble_eq_true rfl) (Nat.le_of_ble_eq_true rfl) dJ13_bitCount_95d88_60
set_option maxHeartbeats 4000000 in
set_option maxRecDepth 100000 in
theorem c_meant (l : Launch) (G : mG) (M : mM) (k : Int32) (v : Int64) (hk : ∃ j : Nat, j ≤ 5 ∧ k = nI j) : Ct l yX4_meant cX4_meant 3 (some FieldType.long) (mm_r 1 0 0) G [.int k, .long v] M (fun r M1 => r = some (.long (mean k v)) ∧ M = M1) := by
  refine Ct.of (by decide) (Nat.le_of_ble_eq_true rfl) ?_
  intro p e s m args below meth c ls Q X hin hl hw hQ
  have hx := X.1
  have hb := X.2.1
  have hl : lv_has ls 3 [(0, .int k), (1, .long v)] := hl
  refine lv_iload_n hx hb dX4_meant_0 rfl (lv_at hl 0 rfl) ?_
  rcases mm_sw k 0 6 (by decide) (by decide) with ⟨k9, hk9, c1⟩ | c1
  · rcases (show k9 = 0 ∨ k9 = 1 ∨ k9 = 2 ∨ k9 = 3 ∨ k9 = 4 ∨ k9 = 5 by omega) with rfl | rfl | rfl | rfl | rfl | rfl
    · have c1 : k = 0 := c1
      refine lv_tableIn (off := 39) (tgt := 40) hx hb dX4_meant_1 (by rw [c1]; decide) (by rw [c1]; decide) (by rw [c1]; rfl) (by decide) ?_
      refine lv_lload_n hx hb dX4_meant_40 rfl (lv_at hl 1 rfl) ?_
      refine mm_callS (As := [.long v]) (rest := []) X hw (c_abs l G _ v) wd_X4_89 ⟨Nat.le_of_ble_eq_true rfl, Nat.le_of_ble_eq_true rfl⟩ ⟨Nat.le_of_ble_eq_true rfl, Nat.le_of_ble_eq_true rfl⟩ rfl rfl (Nat.le_of_ble_eq_true rfl) hl.1 dX4_meant_41 (fun v9 M9 H9 locs9 hp9 hw => ?_)
      obtain ⟨rfl, rfl⟩ := hp9
      refine W.eq (g2 := F0 m 44 ls [.long (if 0 ≤ v then v else -v)]) rfl ?_
      exact mm_lret hQ X hw (⟨by rw [mean, if_pos c1], rfl⟩) (Nat.le_of_ble_eq_true rfl) (Nat.le_of_ble_eq_true rfl) dX4_meant_44
    · have c1 : k = 1 := c1
      refine lv_tableIn (off := 44) (tgt := 45) hx hb dX4_meant_1 (by rw [c1]; decide) (by rw [c1]; decide) (by rw [c1]; rfl) (by decide) ?_
      refine lv_lload_n hx hb dX4_meant_45 rfl (lv_at hl 1 rfl) ?_
      refine lv_lneg hx hb dX4_meant_46 ?_
      exact mm_lret hQ X hw (⟨by rw [mean, if_neg (by rw [c1]; decide), if_pos c1], rfl⟩) (Nat.le_of_ble_eq_true rfl) (Nat.le_of_ble_eq_true rfl) dX4_meant_47
    · have c1 : k = 2 := c1
      refine lv_tableIn (off := 47) (tgt := 48) hx hb dX4_meant_1 (by rw [c1]; decide) (by rw [c1]; decide) (by rw [c1]; rfl) (by decide) ?_
      refine lv_lload_n hx hb dX4_meant_48 rfl (lv_at hl 1 rfl) ?_
      refine lv_lload_n hx hb dX4_meant_49 rfl (lv_at hl 1 rfl) ?_
      refine lv_lmul hx hb dX4_meant_50 ?_
      exact mm_lret hQ X hw (⟨by rw [mean, if_neg (by rw [c1]; decide), if_neg (by rw [c1]; decide), if_pos c1], rfl⟩) (Nat.le_of_ble_eq_true rfl) (Nat.le_of_ble_eq_true rfl) dX4_meant_51
    · have c1 : k = 3 := c1
      refine lv_tableIn (off := 51) (tgt := 52) hx hb dX4_meant_1 (by rw [c1]; decide) (by rw [c1]; decide) (by rw [c1]; rfl) (by decide) ?_
      refine lv_lload_n hx hb dX4_meant_52 rfl (lv_at hl 1 rfl) ?_
      refine lv_ldc2 (v := 2) hx hb X.2.2.2.1 (X.2.2.2.2.1 _ cn_X4_95) dX4_meant_53 ?_
      refine lv_ldiv hx hb dX4_meant_56 (by decide) ?_
      exact mm_lret hQ X hw (⟨by rw [mean, if_neg (by rw [c1]; decide), if_neg (by rw [c1]; decide), if_neg (by rw [c1]; decide), if_pos c1], rfl⟩) (Nat.le_of_ble_eq_true rfl) (Nat.le_of_ble_eq_true rfl) dX4_meant_57
    · have c1 : k = 4 := c1
      refine lv_tableIn (off := 57) (tgt := 58) hx hb dX4_meant_1 (by rw [c1]; decide) (by rw [c1]; decide) (by rw [c1]; rfl) (by decide) ?_
      refine lv_lload_n hx hb dX4_meant_58 rfl (lv_at hl 1 rfl) ?_
      refine lv_ldc2 (v := 2) hx hb X.2.2.2.1 (X.2.2.2.2.1 _ cn_X4_95) dX4_meant_59 ?_
      refine mm_callS (As := [.long v, .long 2]) (rest := []) X hw (c_floorDiv l G _ v 2 (by decide)) wd_X4_97 ⟨Nat.le_of_ble_eq_true rfl, Nat.le_of_ble_eq_true rfl⟩ ⟨Nat.le_of_ble_eq_true rfl, Nat.le_of_ble_eq_true rfl⟩ rfl rfl (Nat.le_of_ble_eq_true rfl) hl.1 dX4_meant_62 (fun v9 M9 H9 locs9 hp9 hw => ?_)
      obtain ⟨rfl, rfl⟩ := hp9
      refine W.eq (g2 := F0 m 65 ls [.long (fd v 2)]) rfl ?_
      exact mm_lret hQ X hw (⟨by rw [mean, if_neg (by rw [c1]; decide), if_neg (by rw [c1]; decide), if_neg (by rw [c1]; decide), if_neg (by rw [c1]; decide), if_pos c1]; exact congrArg (fun z => some (Value.long z)) (fd_half v), rfl⟩) (Nat.le_of_ble_eq_true rfl) (Nat.le_of_ble_eq_true rfl) dX4_meant_65
    · have c1 : k = 5 := c1
      refine lv_tableIn (off := 65) (tgt := 66) hx hb dX4_meant_1 (by rw [c1]; decide) (by rw [c1]; decide) (by rw [c1]; rfl) (by decide) ?_
      refine lv_lload_n hx hb dX4_meant_66 rfl (lv_at hl 1 rfl) ?_
      refine mm_callS (As := [.long v]) (rest := []) X hw (c_bitCount l G _ v) wd_X4_101 ⟨Nat.le_of_ble_eq_true rfl, Nat.le_of_ble_eq_true rfl⟩ ⟨Nat.le_of_ble_eq_true rfl, Nat.le_of_ble_eq_true rfl⟩ rfl rfl (Nat.le_of_ble_eq_true rfl) hl.1 dX4_meant_67 (fun v9 M9 H9 locs9 hp9 hw => ?_)
      obtain ⟨rfl, rfl⟩ := hp9
      refine W.eq (g2 := F0 m 70 ls [.int (bc v)]) rfl ?_
      refine lv_i2l (v := (bc v : Int32).toInt64) hx hb dX4_meant_70 rfl ?_
      exact mm_lret hQ X hw (⟨by rw [mean, if_neg (by rw [c1]; decide), if_neg (by rw [c1]; decide), if_neg (by rw [c1]; decide), if_neg (by rw [c1]; decide), if_neg (by rw [c1]; decide)]; exact congrArg (fun z => some (Value.long z)) (bc_ones v), rfl⟩) (Nat.le_of_ble_eq_true rfl) (Nat.le_of_ble_eq_true rfl) dX4_meant_71
  · refine lv_tableOut (tgt := 72) hx hb dX4_meant_1 c1 (by decide) ?_
    obtain ⟨j, hj, ej⟩ := hk; exact absurd c1 (by rw [ej, nI_toInt (by omega)]; omega)
