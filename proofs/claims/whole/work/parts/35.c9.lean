set_option maxHeartbeats 4000000 in
set_option maxRecDepth 100000 in
theorem c_perform (l : Launch) (G : mG) (M : mM) (L : Nat → Nat → Nat) (S : sS) (cs ar : Nat → Int64) (J : eJ) (hE : EV G L S cs ar J M) (st : List Int64) (as : Nat → Int64) (hMS : MS J st as) (hl24 : st.length < 24) (a v : Int32) (a0 : Nat) (ha : a = nI a0) (ha8 : a0 ≤ 8) (kp : Nat) (hkp : kp < cl (S 0 0)) (arg : Int64) (h6 : a = 6 → ∃ b, b < 8 ∧ v = nI b ∧ ∃ j, j ≤ 5 ∧ S 2 (8 * kp + cl v) = nI j) (h78 : a = 7 ∨ a = 8 → ∃ b, b < 4 ∧ v = nI b) (htk : tkN a ≤ st.length) (h5 : a = 5 → ¬ hd st = 0) : Ct l yX4_perform cX4_perform 10 none (mm_r 3 0 0) G [.ref (L 5 0), .int a, .int v, .ref (L 10 kp), .long arg] M (fun r M1 => r = none ∧ ∃ J1, MK J J1 ∧ MS J1 (pxs a v arg (S 2 (8 * kp + cl v)) st as) (pxa a v st as) ∧ EV G L S cs ar J1 M1) := by
  refine Ct.of (by decide) (Nat.le_of_ble_eq_true rfl) ?_
  intro p e s m args below meth c ls Q X hin hl hw hQ
  have hx := X.1
  have hb := X.2.1
  have hl : lv_has ls 10 [(0, .ref (L 5 0)), (1, .int a), (2, .int v), (3, .ref (L 10 kp)), (4, .long arg)] := hl
  obtain ⟨hm1, hm2, hm3⟩ := hMS
  refine lv_iload_n hx hb dX4_perform_0 rfl (lv_at hl 1 rfl) ?_
  rcases mm_sw a 0 9 (by decide) (by decide) with ⟨k9, hk9, c1⟩ | c1
  · rcases (show k9 = 0 ∨ k9 = 1 ∨ k9 = 2 ∨ k9 = 3 ∨ k9 = 4 ∨ k9 = 5 ∨ k9 = 6 ∨ k9 = 7 ∨ k9 = 8 by omega) with rfl | rfl | rfl | rfl | rfl | rfl | rfl | rfl | rfl
    · have c1 : a = 0 := c1
      refine lv_tableIn (off := 51) (tgt := 52) hx hb dX4_perform_1 (by rw [c1]; decide) (by rw [c1]; decide) (by rw [c1]; rfl) (by decide) ?_
      refine lv_aload_n hx hb dX4_perform_52 rfl (lv_at hl 0 rfl) ?_
      refine lv_iload_n hx hb dX4_perform_53 rfl (lv_at hl 2 rfl) ?_
      refine lv_i2l (v := (v : Int32).toInt64) hx hb dX4_perform_54 rfl ?_
      refine mm_callV (As := [.long ((v : Int32).toInt64)]) (rest := []) X hw (c_lay l G _ L _ _ _ _ hE (st.length) hm1 (by omega) ((v : Int32).toInt64)) (hE.k5) rfl wd_X4_63 ⟨Nat.le_of_ble_eq_true rfl, Nat.le_of_ble_eq_true rfl⟩ ⟨Nat.le_of_ble_eq_true rfl, Nat.le_of_ble_eq_true rfl⟩ rfl rfl (Nat.le_of_ble_eq_true rfl) hl.1 dX4_perform_55 (fun v9 M9 H9 locs9 hp9 hw => ?_)
      obtain ⟨rfl, hE⟩ := hp9
      refine W.eq (g2 := F0 m 58 ls []) rfl ?_
      have hE : EV G L S cs ar (J.1, nI (st.length + 1), vp_updL J.2.2.1 (st.length) ((v : Int32).toInt64), J.2.2.2) M9 := hE
      refine lv_goto (tgt := 151) hx hb dX4_perform_58 (by decide) ?_
      exact mm_vret hQ X hw (⟨rfl, (J.1, nI (st.length + 1), vp_updL J.2.2.1 (st.length) ((v : Int32).toInt64), J.2.2.2), ⟨rfl, rfl⟩, by rw [show pxs a v arg (S 2 (8 * kp + cl v)) st as = v.toInt64 :: st from (by rw [pxs, if_pos c1]), show pxa a v st as = as from (by rw [pxa, if_neg (by rw [c1]; decide)])]; exact ⟨rfl, pl_push hm2 _, hm3⟩, hE⟩) (Nat.le_of_ble_eq_true rfl) (Nat.le_of_ble_eq_true rfl) dX4_perform_151
    · have c1 : a = 1 := c1
      refine lv_tableIn (off := 60) (tgt := 61) hx hb dX4_perform_1 (by rw [c1]; decide) (by rw [c1]; decide) (by rw [c1]; rfl) (by decide) ?_
      refine lv_aload_n hx hb dX4_perform_61 rfl (lv_at hl 0 rfl) ?_
      refine lv_lload hx hb dX4_perform_62 (lv_at hl 4 rfl) ?_
      refine mm_callV (As := [.long arg]) (rest := []) X hw (c_lay l G _ L _ _ _ _ hE (st.length) hm1 (by omega) (arg)) (hE.k5) rfl wd_X4_63 ⟨Nat.le_of_ble_eq_true rfl, Nat.le_of_ble_eq_true rfl⟩ ⟨Nat.le_of_ble_eq_true rfl, Nat.le_of_ble_eq_true rfl⟩ rfl rfl (Nat.le_of_ble_eq_true rfl) hl.1 dX4_perform_64 (fun v9 M9 H9 locs9 hp9 hw => ?_)
      obtain ⟨rfl, hE⟩ := hp9
      refine W.eq (g2 := F0 m 67 ls []) rfl ?_
      have hE : EV G L S cs ar (J.1, nI (st.length + 1), vp_updL J.2.2.1 (st.length) (arg), J.2.2.2) M9 := hE
      refine lv_goto (tgt := 151) hx hb dX4_perform_67 (by decide) ?_
      exact mm_vret hQ X hw (⟨rfl, (J.1, nI (st.length + 1), vp_updL J.2.2.1 (st.length) (arg), J.2.2.2), ⟨rfl, rfl⟩, by rw [show pxs a v arg (S 2 (8 * kp + cl v)) st as = arg :: st from (by rw [pxs, if_neg (by rw [c1]; decide), if_pos c1]), show pxa a v st as = as from (by rw [pxa, if_neg (by rw [c1]; decide)])]; exact ⟨rfl, pl_push hm2 _, hm3⟩, hE⟩) (Nat.le_of_ble_eq_true rfl) (Nat.le_of_ble_eq_true rfl) dX4_perform_151
    · have c1 : a = 2 := c1
      refine lv_tableIn (off := 126) (tgt := 127) hx hb dX4_perform_1 (by rw [c1]; decide) (by rw [c1]; decide) (by rw [c1]; rfl) (by decide) ?_
      have hg : 2 ≤ st.length := by have h9 := htk; rw [c1, show tkN 2 = 2 from by decide] at h9; exact h9
      obtain ⟨u, y, t, hst⟩ := l_2 hg
      have hlen : st.length = t.length + 1 + 1 := by rw [hst]; rfl
      rw [hst] at hm2
      obtain ⟨hp1, hu⟩ := pl_pop hm2
      obtain ⟨hp2, hy⟩ := pl_pop hp1
      have hu : J.2.2.1 (t.length + 1) = u := hu
      rw [hlen] at hm1
      refine lv_aload_n hx hb dX4_perform_127 rfl (lv_at hl 0 rfl) ?_
      refine mm_callV (As := []) (rest := []) X hw (c_take l G _ L _ _ _ _ hE (t.length + 1) hm1 (by omega)) (hE.k5) rfl wd_X4_70 ⟨Nat.le_of_ble_eq_true rfl, Nat.le_of_ble_eq_true rfl⟩ ⟨Nat.le_of_ble_eq_true rfl, Nat.le_of_ble_eq_true rfl⟩ rfl rfl (Nat.le_of_ble_eq_true rfl) hl.1 dX4_perform_128 (fun v9 M9 H9 locs9 hp9 hw => ?_)
      obtain ⟨rfl, hE⟩ := hp9
      refine W.eq (g2 := F0 m 131 ls [.long (J.2.2.1 (t.length + 1))]) rfl ?_
      have hE : EV G L S cs ar (J.1, nI (t.length + 1), J.2.2) M9 := hE
      refine mm_eqL (y := u) (hu) ?_
      refine lv_lstore (lv' := [(6, .long u), (0, .ref (L 5 0)), (1, .int a), (2, .int v), (3, .ref (L 10 kp)), (4, .long arg)]) hx hb dX4_perform_131 hl (by decide) rfl (fun ls hl => ?_)
      refine lv_aload_n hx hb dX4_perform_133 rfl (lv_at hl 1 rfl) ?_
      refine mm_callV (As := []) (rest := []) X hw (c_take l G _ L _ _ _ _ hE (t.length) rfl (by omega)) (hE.k5) rfl wd_X4_70 ⟨Nat.le_of_ble_eq_true rfl, Nat.le_of_ble_eq_true rfl⟩ ⟨Nat.le_of_ble_eq_true rfl, Nat.le_of_ble_eq_true rfl⟩ rfl rfl (Nat.le_of_ble_eq_true rfl) hl.1 dX4_perform_134 (fun v9 M9 H9 locs9 hp9 hw => ?_)
      obtain ⟨rfl, hE⟩ := hp9
      refine W.eq (g2 := F0 m 137 ls [.long (J.2.2.1 (t.length))]) rfl ?_
      have hE : EV G L S cs ar (J.1, nI (t.length), J.2.2) M9 := hE
      refine mm_eqL (y := y) (hy) ?_
      refine lv_lstore (lv' := [(8, .long y), (6, .long u), (0, .ref (L 5 0)), (1, .int a), (2, .int v), (3, .ref (L 10 kp)), (4, .long arg)]) hx hb dX4_perform_137 hl (by decide) rfl (fun ls hl => ?_)
      refine lv_aload_n hx hb dX4_perform_139 rfl (lv_at hl 2 rfl) ?_
      refine lv_iload_n hx hb dX4_perform_140 rfl (lv_at hl 3 rfl) ?_
      refine lv_lload hx hb dX4_perform_141 (lv_at hl 0 rfl) ?_
      refine lv_lload hx hb dX4_perform_143 (lv_at hl 1 rfl) ?_
      refine mm_callS (As := [.int a, .long y, .long u]) (rest := [.ref (L 5 0)]) X hw (c_joined l G _ a y u (Or.inl c1) (fun z => by have h9 := h5 z; rw [hst] at h9; exact h9)) wd_X4_85 ⟨Nat.le_of_ble_eq_true rfl, Nat.le_of_ble_eq_true rfl⟩ ⟨Nat.le_of_ble_eq_true rfl, Nat.le_of_ble_eq_true rfl⟩ rfl rfl (Nat.le_of_ble_eq_true rfl) hl.1 dX4_perform_145 (fun v9 M9 H9 locs9 hp9 hw => ?_)
      obtain ⟨rfl, rfl⟩ := hp9
      refine W.eq (g2 := F0 m 148 ls [.long (wk a y u), .ref (L 5 0)]) rfl ?_
      refine mm_callV (As := [.long (wk a y u)]) (rest := []) X hw (c_lay l G _ L _ _ _ _ hE (t.length) rfl (by omega) (wk a y u)) (hE.k5) rfl wd_X4_63 ⟨Nat.le_of_ble_eq_true rfl, Nat.le_of_ble_eq_true rfl⟩ ⟨Nat.le_of_ble_eq_true rfl, Nat.le_of_ble_eq_true rfl⟩ rfl rfl (Nat.le_of_ble_eq_true rfl) hl.1 dX4_perform_148 (fun v9 M9 H9 locs9 hp9 hw => ?_)
      obtain ⟨rfl, hE⟩ := hp9
      refine W.eq (g2 := F0 m 151 ls []) rfl ?_
      have hE : EV G L S cs ar (J.1, nI (t.length + 1), vp_updL J.2.2.1 (t.length) (wk a y u), J.2.2.2) M9 := hE
      exact mm_vret hQ X hw (⟨rfl, (J.1, nI (t.length + 1), vp_updL J.2.2.1 (t.length) (wk a y u), J.2.2.2), ⟨rfl, rfl⟩, by rw [show pxs a v arg (S 2 (8 * kp + cl v)) st as = wk a y u :: t from (by rw [pxs, if_neg (by rw [c1]; decide), if_neg (by rw [c1]; decide), if_neg (by rw [c1]; decide), if_neg (by rw [c1]; decide), if_neg (by rw [c1]; decide), hst]; rfl), show pxa a v st as = as from (by rw [pxa, if_neg (by rw [c1]; decide)])]; exact ⟨rfl, pl_push hp2 _, hm3⟩, hE⟩) (Nat.le_of_ble_eq_true rfl) (Nat.le_of_ble_eq_true rfl) dX4_perform_151
    · have c1 : a = 3 := c1
      refine lv_tableIn (off := 126) (tgt := 127) hx hb dX4_perform_1 (by rw [c1]; decide) (by rw [c1]; decide) (by rw [c1]; rfl) (by decide) ?_
      have hg : 2 ≤ st.length := by have h9 := htk; rw [c1, show tkN 3 = 2 from by decide] at h9; exact h9
      obtain ⟨u, y, t, hst⟩ := l_2 hg
      have hlen : st.length = t.length + 1 + 1 := by rw [hst]; rfl
      rw [hst] at hm2
      obtain ⟨hp1, hu⟩ := pl_pop hm2
      obtain ⟨hp2, hy⟩ := pl_pop hp1
      have hu : J.2.2.1 (t.length + 1) = u := hu
      rw [hlen] at hm1
      refine lv_aload_n hx hb dX4_perform_127 rfl (lv_at hl 0 rfl) ?_
      refine mm_callV (As := []) (rest := []) X hw (c_take l G _ L _ _ _ _ hE (t.length + 1) hm1 (by omega)) (hE.k5) rfl wd_X4_70 ⟨Nat.le_of_ble_eq_true rfl, Nat.le_of_ble_eq_true rfl⟩ ⟨Nat.le_of_ble_eq_true rfl, Nat.le_of_ble_eq_true rfl⟩ rfl rfl (Nat.le_of_ble_eq_true rfl) hl.1 dX4_perform_128 (fun v9 M9 H9 locs9 hp9 hw => ?_)
      obtain ⟨rfl, hE⟩ := hp9
      refine W.eq (g2 := F0 m 131 ls [.long (J.2.2.1 (t.length + 1))]) rfl ?_
      have hE : EV G L S cs ar (J.1, nI (t.length + 1), J.2.2) M9 := hE
      refine mm_eqL (y := u) (hu) ?_
      refine lv_lstore (lv' := [(6, .long u), (0, .ref (L 5 0)), (1, .int a), (2, .int v), (3, .ref (L 10 kp)), (4, .long arg)]) hx hb dX4_perform_131 hl (by decide) rfl (fun ls hl => ?_)
      refine lv_aload_n hx hb dX4_perform_133 rfl (lv_at hl 1 rfl) ?_
      refine mm_callV (As := []) (rest := []) X hw (c_take l G _ L _ _ _ _ hE (t.length) rfl (by omega)) (hE.k5) rfl wd_X4_70 ⟨Nat.le_of_ble_eq_true rfl, Nat.le_of_ble_eq_true rfl⟩ ⟨Nat.le_of_ble_eq_true rfl, Nat.le_of_ble_eq_true rfl⟩ rfl rfl (Nat.le_of_ble_eq_true rfl) hl.1 dX4_perform_134 (fun v9 M9 H9 locs9 hp9 hw => ?_)
      obtain ⟨rfl, hE⟩ := hp9
      refine W.eq (g2 := F0 m 137 ls [.long (J.2.2.1 (t.length))]) rfl ?_
      have hE : EV G L S cs ar (J.1, nI (t.length), J.2.2) M9 := hE
      refine mm_eqL (y := y) (hy) ?_
      refine lv_lstore (lv' := [(8, .long y), (6, .long u), (0, .ref (L 5 0)), (1, .int a), (2, .int v), (3, .ref (L 10 kp)), (4, .long arg)]) hx hb dX4_perform_137 hl (by decide) rfl (fun ls hl => ?_)
      refine lv_aload_n hx hb dX4_perform_139 rfl (lv_at hl 2 rfl) ?_
      refine lv_iload_n hx hb dX4_perform_140 rfl (lv_at hl 3 rfl) ?_
      refine lv_lload hx hb dX4_perform_141 (lv_at hl 0 rfl) ?_
      refine lv_lload hx hb dX4_perform_143 (lv_at hl 1 rfl) ?_
      refine mm_callS (As := [.int a, .long y, .long u]) (rest := [.ref (L 5 0)]) X hw (c_joined l G _ a y u (Or.inr (Or.inl c1)) (fun z => by have h9 := h5 z; rw [hst] at h9; exact h9)) wd_X4_85 ⟨Nat.le_of_ble_eq_true rfl, Nat.le_of_ble_eq_true rfl⟩ ⟨Nat.le_of_ble_eq_true rfl, Nat.le_of_ble_eq_true rfl⟩ rfl rfl (Nat.le_of_ble_eq_true rfl) hl.1 dX4_perform_145 (fun v9 M9 H9 locs9 hp9 hw => ?_)
      obtain ⟨rfl, rfl⟩ := hp9
      refine W.eq (g2 := F0 m 148 ls [.long (wk a y u), .ref (L 5 0)]) rfl ?_
      refine mm_callV (As := [.long (wk a y u)]) (rest := []) X hw (c_lay l G _ L _ _ _ _ hE (t.length) rfl (by omega) (wk a y u)) (hE.k5) rfl wd_X4_63 ⟨Nat.le_of_ble_eq_true rfl, Nat.le_of_ble_eq_true rfl⟩ ⟨Nat.le_of_ble_eq_true rfl, Nat.le_of_ble_eq_true rfl⟩ rfl rfl (Nat.le_of_ble_eq_true rfl) hl.1 dX4_perform_148 (fun v9 M9 H9 locs9 hp9 hw => ?_)
      obtain ⟨rfl, hE⟩ := hp9
      refine W.eq (g2 := F0 m 151 ls []) rfl ?_
      have hE : EV G L S cs ar (J.1, nI (t.length + 1), vp_updL J.2.2.1 (t.length) (wk a y u), J.2.2.2) M9 := hE
      exact mm_vret hQ X hw (⟨rfl, (J.1, nI (t.length + 1), vp_updL J.2.2.1 (t.length) (wk a y u), J.2.2.2), ⟨rfl, rfl⟩, by rw [show pxs a v arg (S 2 (8 * kp + cl v)) st as = wk a y u :: t from (by rw [pxs, if_neg (by rw [c1]; decide), if_neg (by rw [c1]; decide), if_neg (by rw [c1]; decide), if_neg (by rw [c1]; decide), if_neg (by rw [c1]; decide), hst]; rfl), show pxa a v st as = as from (by rw [pxa, if_neg (by rw [c1]; decide)])]; exact ⟨rfl, pl_push hp2 _, hm3⟩, hE⟩) (Nat.le_of_ble_eq_true rfl) (Nat.le_of_ble_eq_true rfl) dX4_perform_151
    · have c1 : a = 4 := c1
      refine lv_tableIn (off := 126) (tgt := 127) hx hb dX4_perform_1 (by rw [c1]; decide) (by rw [c1]; decide) (by rw [c1]; rfl) (by decide) ?_
      have hg : 2 ≤ st.length := by have h9 := htk; rw [c1, show tkN 4 = 2 from by decide] at h9; exact h9
      obtain ⟨u, y, t, hst⟩ := l_2 hg
      have hlen : st.length = t.length + 1 + 1 := by rw [hst]; rfl
      rw [hst] at hm2
      obtain ⟨hp1, hu⟩ := pl_pop hm2
      obtain ⟨hp2, hy⟩ := pl_pop hp1
      have hu : J.2.2.1 (t.length + 1) = u := hu
      rw [hlen] at hm1
      refine lv_aload_n hx hb dX4_perform_127 rfl (lv_at hl 0 rfl) ?_
      refine mm_callV (As := []) (rest := []) X hw (c_take l G _ L _ _ _ _ hE (t.length + 1) hm1 (by omega)) (hE.k5) rfl wd_X4_70 ⟨Nat.le_of_ble_eq_true rfl, Nat.le_of_ble_eq_true rfl⟩ ⟨Nat.le_of_ble_eq_true rfl, Nat.le_of_ble_eq_true rfl⟩ rfl rfl (Nat.le_of_ble_eq_true rfl) hl.1 dX4_perform_128 (fun v9 M9 H9 locs9 hp9 hw => ?_)
      obtain ⟨rfl, hE⟩ := hp9
      refine W.eq (g2 := F0 m 131 ls [.long (J.2.2.1 (t.length + 1))]) rfl ?_
      have hE : EV G L S cs ar (J.1, nI (t.length + 1), J.2.2) M9 := hE
      refine mm_eqL (y := u) (hu) ?_
      refine lv_lstore (lv' := [(6, .long u), (0, .ref (L 5 0)), (1, .int a), (2, .int v), (3, .ref (L 10 kp)), (4, .long arg)]) hx hb dX4_perform_131 hl (by decide) rfl (fun ls hl => ?_)
      refine lv_aload_n hx hb dX4_perform_133 rfl (lv_at hl 1 rfl) ?_
      refine mm_callV (As := []) (rest := []) X hw (c_take l G _ L _ _ _ _ hE (t.length) rfl (by omega)) (hE.k5) rfl wd_X4_70 ⟨Nat.le_of_ble_eq_true rfl, Nat.le_of_ble_eq_true rfl⟩ ⟨Nat.le_of_ble_eq_true rfl, Nat.le_of_ble_eq_true rfl⟩ rfl rfl (Nat.le_of_ble_eq_true rfl) hl.1 dX4_perform_134 (fun v9 M9 H9 locs9 hp9 hw => ?_)
      obtain ⟨rfl, hE⟩ := hp9
      refine W.eq (g2 := F0 m 137 ls [.long (J.2.2.1 (t.length))]) rfl ?_
      have hE : EV G L S cs ar (J.1, nI (t.length), J.2.2) M9 := hE
      refine mm_eqL (y := y) (hy) ?_
      refine lv_lstore (lv' := [(8, .long y), (6, .long u), (0, .ref (L 5 0)), (1, .int a), (2, .int v), (3, .ref (L 10 kp)), (4, .long arg)]) hx hb dX4_perform_137 hl (by decide) rfl (fun ls hl => ?_)
      refine lv_aload_n hx hb dX4_perform_139 rfl (lv_at hl 2 rfl) ?_
      refine lv_iload_n hx hb dX4_perform_140 rfl (lv_at hl 3 rfl) ?_
      refine lv_lload hx hb dX4_perform_141 (lv_at hl 0 rfl) ?_
      refine lv_lload hx hb dX4_perform_143 (lv_at hl 1 rfl) ?_
      refine mm_callS (As := [.int a, .long y, .long u]) (rest := [.ref (L 5 0)]) X hw (c_joined l G _ a y u (Or.inr (Or.inr (Or.inl c1))) (fun z => by have h9 := h5 z; rw [hst] at h9; exact h9)) wd_X4_85 ⟨Nat.le_of_ble_eq_true rfl, Nat.le_of_ble_eq_true rfl⟩ ⟨Nat.le_of_ble_eq_true rfl, Nat.le_of_ble_eq_true rfl⟩ rfl rfl (Nat.le_of_ble_eq_true rfl) hl.1 dX4_perform_145 (fun v9 M9 H9 locs9 hp9 hw => ?_)
      obtain ⟨rfl, rfl⟩ := hp9
      refine W.eq (g2 := F0 m 148 ls [.long (wk a y u), .ref (L 5 0)]) rfl ?_
      refine mm_callV (As := [.long (wk a y u)]) (rest := []) X hw (c_lay l G _ L _ _ _ _ hE (t.length) rfl (by omega) (wk a y u)) (hE.k5) rfl wd_X4_63 ⟨Nat.le_of_ble_eq_true rfl, Nat.le_of_ble_eq_true rfl⟩ ⟨Nat.le_of_ble_eq_true rfl, Nat.le_of_ble_eq_true rfl⟩ rfl rfl (Nat.le_of_ble_eq_true rfl) hl.1 dX4_perform_148 (fun v9 M9 H9 locs9 hp9 hw => ?_)
      obtain ⟨rfl, hE⟩ := hp9
      refine W.eq (g2 := F0 m 151 ls []) rfl ?_
      have hE : EV G L S cs ar (J.1, nI (t.length + 1), vp_updL J.2.2.1 (t.length) (wk a y u), J.2.2.2) M9 := hE
      exact mm_vret hQ X hw (⟨rfl, (J.1, nI (t.length + 1), vp_updL J.2.2.1 (t.length) (wk a y u), J.2.2.2), ⟨rfl, rfl⟩, by rw [show pxs a v arg (S 2 (8 * kp + cl v)) st as = wk a y u :: t from (by rw [pxs, if_neg (by rw [c1]; decide), if_neg (by rw [c1]; decide), if_neg (by rw [c1]; decide), if_neg (by rw [c1]; decide), if_neg (by rw [c1]; decide), hst]; rfl), show pxa a v st as = as from (by rw [pxa, if_neg (by rw [c1]; decide)])]; exact ⟨rfl, pl_push hp2 _, hm3⟩, hE⟩) (Nat.le_of_ble_eq_true rfl) (Nat.le_of_ble_eq_true rfl) dX4_perform_151
    · have c1 : a = 5 := c1
      refine lv_tableIn (off := 126) (tgt := 127) hx hb dX4_perform_1 (by rw [c1]; decide) (by rw [c1]; decide) (by rw [c1]; rfl) (by decide) ?_
      have hg : 2 ≤ st.length := by have h9 := htk; rw [c1, show tkN 5 = 2 from by decide] at h9; exact h9
      obtain ⟨u, y, t, hst⟩ := l_2 hg
      have hlen : st.length = t.length + 1 + 1 := by rw [hst]; rfl
      rw [hst] at hm2
      obtain ⟨hp1, hu⟩ := pl_pop hm2
      obtain ⟨hp2, hy⟩ := pl_pop hp1
      have hu : J.2.2.1 (t.length + 1) = u := hu
      rw [hlen] at hm1
      refine lv_aload_n hx hb dX4_perform_127 rfl (lv_at hl 0 rfl) ?_
      refine mm_callV (As := []) (rest := []) X hw (c_take l G _ L _ _ _ _ hE (t.length + 1) hm1 (by omega)) (hE.k5) rfl wd_X4_70 ⟨Nat.le_of_ble_eq_true rfl, Nat.le_of_ble_eq_true rfl⟩ ⟨Nat.le_of_ble_eq_true rfl, Nat.le_of_ble_eq_true rfl⟩ rfl rfl (Nat.le_of_ble_eq_true rfl) hl.1 dX4_perform_128 (fun v9 M9 H9 locs9 hp9 hw => ?_)
      obtain ⟨rfl, hE⟩ := hp9
      refine W.eq (g2 := F0 m 131 ls [.long (J.2.2.1 (t.length + 1))]) rfl ?_
      have hE : EV G L S cs ar (J.1, nI (t.length + 1), J.2.2) M9 := hE
      refine mm_eqL (y := u) (hu) ?_
      refine lv_lstore (lv' := [(6, .long u), (0, .ref (L 5 0)), (1, .int a), (2, .int v), (3, .ref (L 10 kp)), (4, .long arg)]) hx hb dX4_perform_131 hl (by decide) rfl (fun ls hl => ?_)
      refine lv_aload_n hx hb dX4_perform_133 rfl (lv_at hl 1 rfl) ?_
      refine mm_callV (As := []) (rest := []) X hw (c_take l G _ L _ _ _ _ hE (t.length) rfl (by omega)) (hE.k5) rfl wd_X4_70 ⟨Nat.le_of_ble_eq_true rfl, Nat.le_of_ble_eq_true rfl⟩ ⟨Nat.le_of_ble_eq_true rfl, Nat.le_of_ble_eq_true rfl⟩ rfl rfl (Nat.le_of_ble_eq_true rfl) hl.1 dX4_perform_134 (fun v9 M9 H9 locs9 hp9 hw => ?_)
      obtain ⟨rfl, hE⟩ := hp9
      refine W.eq (g2 := F0 m 137 ls [.long (J.2.2.1 (t.length))]) rfl ?_
      have hE : EV G L S cs ar (J.1, nI (t.length), J.2.2) M9 := hE
      refine mm_eqL (y := y) (hy) ?_
      refine lv_lstore (lv' := [(8, .long y), (6, .long u), (0, .ref (L 5 0)), (1, .int a), (2, .int v), (3, .ref (L 10 kp)), (4, .long arg)]) hx hb dX4_perform_137 hl (by decide) rfl (fun ls hl => ?_)
      refine lv_aload_n hx hb dX4_perform_139 rfl (lv_at hl 2 rfl) ?_
      refine lv_iload_n hx hb dX4_perform_140 rfl (lv_at hl 3 rfl) ?_
      refine lv_lload hx hb dX4_perform_141 (lv_at hl 0 rfl) ?_
      refine lv_lload hx hb dX4_perform_143 (lv_at hl 1 rfl) ?_
      refine mm_callS (As := [.int a, .long y, .long u]) (rest := [.ref (L 5 0)]) X hw (c_joined l G _ a y u (Or.inr (Or.inr (Or.inr c1))) (fun z => by have h9 := h5 z; rw [hst] at h9; exact h9)) wd_X4_85 ⟨Nat.le_of_ble_eq_true rfl, Nat.le_of_ble_eq_true rfl⟩ ⟨Nat.le_of_ble_eq_true rfl, Nat.le_of_ble_eq_true rfl⟩ rfl rfl (Nat.le_of_ble_eq_true rfl) hl.1 dX4_perform_145 (fun v9 M9 H9 locs9 hp9 hw => ?_)
      obtain ⟨rfl, rfl⟩ := hp9
      refine W.eq (g2 := F0 m 148 ls [.long (wk a y u), .ref (L 5 0)]) rfl ?_
      refine mm_callV (As := [.long (wk a y u)]) (rest := []) X hw (c_lay l G _ L _ _ _ _ hE (t.length) rfl (by omega) (wk a y u)) (hE.k5) rfl wd_X4_63 ⟨Nat.le_of_ble_eq_true rfl, Nat.le_of_ble_eq_true rfl⟩ ⟨Nat.le_of_ble_eq_true rfl, Nat.le_of_ble_eq_true rfl⟩ rfl rfl (Nat.le_of_ble_eq_true rfl) hl.1 dX4_perform_148 (fun v9 M9 H9 locs9 hp9 hw => ?_)
      obtain ⟨rfl, hE⟩ := hp9
      refine W.eq (g2 := F0 m 151 ls []) rfl ?_
      have hE : EV G L S cs ar (J.1, nI (t.length + 1), vp_updL J.2.2.1 (t.length) (wk a y u), J.2.2.2) M9 := hE
      exact mm_vret hQ X hw (⟨rfl, (J.1, nI (t.length + 1), vp_updL J.2.2.1 (t.length) (wk a y u), J.2.2.2), ⟨rfl, rfl⟩, by rw [show pxs a v arg (S 2 (8 * kp + cl v)) st as = wk a y u :: t from (by rw [pxs, if_neg (by rw [c1]; decide), if_neg (by rw [c1]; decide), if_neg (by rw [c1]; decide), if_neg (by rw [c1]; decide), if_neg (by rw [c1]; decide), hst]; rfl), show pxa a v st as = as from (by rw [pxa, if_neg (by rw [c1]; decide)])]; exact ⟨rfl, pl_push hp2 _, hm3⟩, hE⟩) (Nat.le_of_ble_eq_true rfl) (Nat.le_of_ble_eq_true rfl) dX4_perform_151
    · have c1 : a = 6 := c1
      refine lv_tableIn (off := 69) (tgt := 70) hx hb dX4_perform_1 (by rw [c1]; decide) (by rw [c1]; decide) (by rw [c1]; rfl) (by decide) ?_
      have hg : 1 ≤ st.length := by have h9 := htk; rw [c1, show tkN 6 = 1 from by decide] at h9; exact h9
      obtain ⟨u, t, hst⟩ := l_1 hg
      have hlen : st.length = t.length + 1 := by rw [hst]; rfl
      rw [hst] at hm2
      obtain ⟨hp1, hu⟩ := pl_pop hm2
      rw [hlen] at hm1
      obtain ⟨b0, hb0, eb0, j0, hj0, ej0⟩ := h6 c1
      have e2 : (if 0 ≤ v ∧ v < 8 then tr 8 (fun j => S 2 (8 * kp + j)) (cl v) else -2) = S 2 (8 * kp + cl v) := by rw [if_pos (by rw [eb0]; exact in_lt (n := 8) hb0 (by decide)), tr_at (by rw [eb0, cl_n (by omega)]; exact hb0)]
      refine lv_aload_n hx hb dX4_perform_70 rfl (lv_at hl 0 rfl) ?_
      refine lv_aload_n hx hb dX4_perform_71 rfl (lv_at hl 3 rfl) ?_
      refine lv_ifnonnull (tgt := 79) hx hb dX4_perform_72 (by decide) ?_
      refine lv_aload_n hx hb dX4_perform_79 rfl (lv_at hl 3 rfl) ?_
      refine lv_iload_n hx hb dX4_perform_80 rfl (lv_at hl 2 rfl) ?_
      refine mm_callV (As := [.int v]) (rest := [.ref (L 5 0)]) X hw (c_meaningOf l G _ _ _ _ _ _ _ _ _ v (hE.k10 hkp) (hE.k11 hkp) (hE.k12 hkp)) (hE.k10 hkp) rfl wd_X4_67 ⟨Nat.le_of_ble_eq_true rfl, Nat.le_of_ble_eq_true rfl⟩ ⟨Nat.le_of_ble_eq_true rfl, Nat.le_of_ble_eq_true rfl⟩ rfl rfl (Nat.le_of_ble_eq_true rfl) hl.1 dX4_perform_81 (fun v9 M9 H9 locs9 hp9 hw => ?_)
      obtain ⟨rfl, rfl⟩ := hp9
      refine W.eq (g2 := F0 m 84 ls [.int (if 0 ≤ v ∧ v < 8 then tr 8 (fun j => S 2 (8 * kp + j)) (cl v) else -2), .ref (L 5 0)]) rfl ?_
      refine mm_eqI (y := S 2 (8 * kp + cl v)) e2 ?_
      refine lv_aload_n hx hb dX4_perform_84 rfl (lv_at hl 0 rfl) ?_
      refine mm_callV (As := []) (rest := [.int (S 2 (8 * kp + cl v)), .ref (L 5 0)]) X hw (c_take l G _ L _ _ _ _ hE (t.length) hm1 (by omega)) (hE.k5) rfl wd_X4_70 ⟨Nat.le_of_ble_eq_true rfl, Nat.le_of_ble_eq_true rfl⟩ ⟨Nat.le_of_ble_eq_true rfl, Nat.le_of_ble_eq_true rfl⟩ rfl rfl (Nat.le_of_ble_eq_true rfl) hl.1 dX4_perform_85 (fun v9 M9 H9 locs9 hp9 hw => ?_)
      obtain ⟨rfl, hE⟩ := hp9
      refine W.eq (g2 := F0 m 88 ls [.long (J.2.2.1 (t.length)), .int (S 2 (8 * kp + cl v)), .ref (L 5 0)]) rfl ?_
      have hE : EV G L S cs ar (J.1, nI (t.length), J.2.2) M9 := hE
      refine mm_eqL (y := u) (hu) ?_
      refine mm_callS (As := [.int (S 2 (8 * kp + cl v)), .long u]) (rest := [.ref (L 5 0)]) X hw (c_meant l G _ (S 2 (8 * kp + cl v)) u ⟨j0, hj0, ej0⟩) wd_X4_73 ⟨Nat.le_of_ble_eq_true rfl, Nat.le_of_ble_eq_true rfl⟩ ⟨Nat.le_of_ble_eq_true rfl, Nat.le_of_ble_eq_true rfl⟩ rfl rfl (Nat.le_of_ble_eq_true rfl) hl.1 dX4_perform_88 (fun v9 M9 H9 locs9 hp9 hw => ?_)
      obtain ⟨rfl, rfl⟩ := hp9
      refine W.eq (g2 := F0 m 91 ls [.long (mean (S 2 (8 * kp + cl v)) u), .ref (L 5 0)]) rfl ?_
      refine mm_callV (As := [.long (mean (S 2 (8 * kp + cl v)) u)]) (rest := []) X hw (c_lay l G _ L _ _ _ _ hE (t.length) rfl (by omega) (mean (S 2 (8 * kp + cl v)) u)) (hE.k5) rfl wd_X4_63 ⟨Nat.le_of_ble_eq_true rfl, Nat.le_of_ble_eq_true rfl⟩ ⟨Nat.le_of_ble_eq_true rfl, Nat.le_of_ble_eq_true rfl⟩ rfl rfl (Nat.le_of_ble_eq_true rfl) hl.1 dX4_perform_91 (fun v9 M9 H9 locs9 hp9 hw => ?_)
      obtain ⟨rfl, hE⟩ := hp9
      refine W.eq (g2 := F0 m 94 ls []) rfl ?_
      have hE : EV G L S cs ar (J.1, nI (t.length + 1), vp_updL J.2.2.1 (t.length) (mean (S 2 (8 * kp + cl v)) u), J.2.2.2) M9 := hE
      refine lv_goto (tgt := 151) hx hb dX4_perform_94 (by decide) ?_
      exact mm_vret hQ X hw (⟨rfl, (J.1, nI (t.length + 1), vp_updL J.2.2.1 (t.length) (mean (S 2 (8 * kp + cl v)) u), J.2.2.2), ⟨rfl, rfl⟩, by rw [show pxs a v arg (S 2 (8 * kp + cl v)) st as = mean (S 2 (8 * kp + cl v)) u :: t from (by rw [pxs, if_neg (by rw [c1]; decide), if_neg (by rw [c1]; decide), if_pos c1, hst]; rfl), show pxa a v st as = as from (by rw [pxa, if_neg (by rw [c1]; decide)])]; exact ⟨rfl, pl_push hp1 _, hm3⟩, hE⟩) (Nat.le_of_ble_eq_true rfl) (Nat.le_of_ble_eq_true rfl) dX4_perform_151
    · have c1 : a = 7 := c1
      refine lv_tableIn (off := 96) (tgt := 97) hx hb dX4_perform_1 (by rw [c1]; decide) (by rw [c1]; decide) (by rw [c1]; rfl) (by decide) ?_
      have hg : 1 ≤ st.length := by have h9 := htk; rw [c1, show tkN 7 = 1 from by decide] at h9; exact h9
      obtain ⟨u, t, hst⟩ := l_1 hg
      have hlen : st.length = t.length + 1 := by rw [hst]; rfl
      rw [hst] at hm2
      obtain ⟨hp1, hu⟩ := pl_pop hm2
      rw [hlen] at hm1
      obtain ⟨b0, hb0, eb0⟩ := h78 (Or.inl c1)
      have hv4 : 0 ≤ v ∧ v < 4 := by rw [eb0]; exact in_lt (n := 4) hb0 (by decide)
      refine lv_aload_n hx hb dX4_perform_97 rfl (lv_at hl 0 rfl) ?_
      refine gf_X4_18 X hw (hE.k5) rfl dX4_perform_98 ?_
      refine lv_iload_n hx hb dX4_perform_101 rfl (lv_at hl 2 rfl) ?_
      refine lv_aload_n hx hb dX4_perform_102 rfl (lv_at hl 0 rfl) ?_
      refine mm_callV (As := []) (rest := [.int v, .ref (L 7 0)]) X hw (c_take l G _ L _ _ _ _ hE (t.length) hm1 (by omega)) (hE.k5) rfl wd_X4_70 ⟨Nat.le_of_ble_eq_true rfl, Nat.le_of_ble_eq_true rfl⟩ ⟨Nat.le_of_ble_eq_true rfl, Nat.le_of_ble_eq_true rfl⟩ rfl rfl (Nat.le_of_ble_eq_true rfl) hl.1 dX4_perform_103 (fun v9 M9 H9 locs9 hp9 hw => ?_)
      obtain ⟨rfl, hE⟩ := hp9
      refine W.eq (g2 := F0 m 106 ls [.long (J.2.2.1 (t.length)), .int v, .ref (L 7 0)]) rfl ?_
      have hE : EV G L S cs ar (J.1, nI (t.length), J.2.2) M9 := hE
      refine mm_eqL (y := u) (hu) ?_
      refine mm_callV (As := [.int v, .long u]) (rest := []) X hw (c_store l G _ _ _ _ v u hv4 hE.k7 hE.k8) (hE.k7) rfl wd_X4_77 ⟨Nat.le_of_ble_eq_true rfl, Nat.le_of_ble_eq_true rfl⟩ ⟨Nat.le_of_ble_eq_true rfl, Nat.le_of_ble_eq_true rfl⟩ rfl rfl (Nat.le_of_ble_eq_true rfl) hl.1 dX4_perform_106 (fun v9 M9 H9 locs9 hp9 hw => ?_)
      obtain ⟨rfl, e9⟩ := hp9
      refine W.eq (g2 := F0 m 109 ls []) rfl ?_
      have hE : EV G L S cs ar (J.1, nI t.length, J.2.2.1, vp_updL J.2.2.2.1 (cl v) u, J.2.2.2.2) M9 := hE.w_df _ e9
      refine lv_goto (tgt := 151) hx hb dX4_perform_109 (by decide) ?_
      exact mm_vret hQ X hw (⟨rfl, (J.1, nI t.length, J.2.2.1, vp_updL J.2.2.2.1 (cl v) u, J.2.2.2.2), ⟨rfl, rfl⟩, by rw [show pxs a v arg (S 2 (8 * kp + cl v)) st as = t from (by rw [pxs, if_neg (by rw [c1]; decide), if_neg (by rw [c1]; decide), if_neg (by rw [c1]; decide), if_pos c1, hst]; rfl), show pxa a v st as = vp_updL as (cl v) u from (by rw [pxa, if_pos c1, hst]; rfl)]; exact ⟨rfl, hp1, fun j h9 => (by by_cases e9 : j = cl v; rw [e9]; exact pk_uLs.trans pk_uLs.symm; exact (pk_uLn e9).trans ((hm3 j h9).trans (pk_uLn e9).symm))⟩, hE⟩) (Nat.le_of_ble_eq_true rfl) (Nat.le_of_ble_eq_true rfl) dX4_perform_151
    · have c1 : a = 8 := c1
      refine lv_tableIn (off := 111) (tgt := 112) hx hb dX4_perform_1 (by rw [c1]; decide) (by rw [c1]; decide) (by rw [c1]; rfl) (by decide) ?_
      obtain ⟨b0, hb0, eb0⟩ := h78 (Or.inr c1)
      have hv4 : 0 ≤ v ∧ v < 4 := by rw [eb0]; exact in_lt (n := 4) hb0 (by decide)
      have e8 : (if 0 ≤ v ∧ v < 4 then J.2.2.2.1 (cl v) else 0) = as (cl v) := by rw [if_pos hv4]; exact hm3 _ (by rw [eb0, cl_n (by omega)]; exact hb0)
      refine lv_aload_n hx hb dX4_perform_112 rfl (lv_at hl 0 rfl) ?_
      refine lv_aload_n hx hb dX4_perform_113 rfl (lv_at hl 0 rfl) ?_
      refine gf_X4_18 X hw (hE.k5) rfl dX4_perform_114 ?_
      refine lv_iload_n hx hb dX4_perform_117 rfl (lv_at hl 2 rfl) ?_
      refine mm_callV (As := [.int v]) (rest := [.ref (L 5 0)]) X hw (c_valueOf l G _ _ _ _ v hE.k7 hE.k8) (hE.k7) rfl wd_X4_81 ⟨Nat.le_of_ble_eq_true rfl, Nat.le_of_ble_eq_true rfl⟩ ⟨Nat.le_of_ble_eq_true rfl, Nat.le_of_ble_eq_true rfl⟩ rfl rfl (Nat.le_of_ble_eq_true rfl) hl.1 dX4_perform_118 (fun v9 M9 H9 locs9 hp9 hw => ?_)
      obtain ⟨rfl, rfl⟩ := hp9
      refine W.eq (g2 := F0 m 121 ls [.long (if 0 ≤ v ∧ v < 4 then J.2.2.2.1 (cl v) else 0), .ref (L 5 0)]) rfl ?_
      refine mm_eqL (y := as (cl v)) e8 ?_
      refine mm_callV (As := [.long (as (cl v))]) (rest := []) X hw (c_lay l G _ L _ _ _ _ hE (st.length) hm1 (by omega) (as (cl v))) (hE.k5) rfl wd_X4_63 ⟨Nat.le_of_ble_eq_true rfl, Nat.le_of_ble_eq_true rfl⟩ ⟨Nat.le_of_ble_eq_true rfl, Nat.le_of_ble_eq_true rfl⟩ rfl rfl (Nat.le_of_ble_eq_true rfl) hl.1 dX4_perform_121 (fun v9 M9 H9 locs9 hp9 hw => ?_)
      obtain ⟨rfl, hE⟩ := hp9
      refine W.eq (g2 := F0 m 124 ls []) rfl ?_
      have hE : EV G L S cs ar (J.1, nI (st.length + 1), vp_updL J.2.2.1 (st.length) (as (cl v)), J.2.2.2) M9 := hE
      refine lv_goto (tgt := 151) hx hb dX4_perform_124 (by decide) ?_
      exact mm_vret hQ X hw (⟨rfl, (J.1, nI (st.length + 1), vp_updL J.2.2.1 (st.length) (as (cl v)), J.2.2.2), ⟨rfl, rfl⟩, by rw [show pxs a v arg (S 2 (8 * kp + cl v)) st as = as (cl v) :: st from (by rw [pxs, if_neg (by rw [c1]; decide), if_neg (by rw [c1]; decide), if_neg (by rw [c1]; decide), if_neg (by rw [c1]; decide), if_pos c1]), show pxa a v st as = as from (by rw [pxa, if_neg (by rw [c1]; decide)])]; exact ⟨rfl, pl_push hm2 _, hm3⟩, hE⟩) (Nat.le_of_ble_eq_true rfl) (Nat.le_of_ble_eq_true rfl) dX4_perform_151
  · refine lv_tableOut (tgt := 127) hx hb dX4_perform_1 c1 (by decide) ?_
    exact absurd c1 (by rw [ha, nI_toInt (by omega)]; omega)
