theorem pl_top {f : Nat → Int64} {st : List Int64} (h : pl f st) : (if st.length = 0 then 0 else f (st.length - 1)) = hd st := by
  cases st with
  | nil => rfl
  | cons u t => exact (pl_pop h).2
theorem nx_le (a : Int32) (d : Nat) : nxN a d ≤ d + 1 := by
  unfold nxN
  split <;> omega
/-- the replay's cells, as one row -/
def RC (J : eJ) (n : Nat) (cz : Nat → Int64) : Prop := ∀ i j, i < n → j < 4 → J.2.2.2.2 i j = cz (4 * i + j)
/-- a contract's calls have a meaning in edition kp -/
def CK (S : sS) (i kp n : Nat) : Prop := ∀ k, k < n → S 15 (24 * i + k) = 6 → ∃ j, j ≤ 5 ∧ S 2 (8 * kp + cl (S 16 (24 * i + k))) = nI j
theorem ly_o {cs : Nat → Int64} {i : Nat} {as : Nat → Int64} {i1 : Nat} (h : i1 ≠ i) {j : Nat} (hj : j < 4) : ly cs i as 4 (4 * i1 + j) = cs (4 * i1 + j) := by
  unfold ly
  rw [if_neg (by omega)]
theorem ly_m {cs : Nat → Int64} {i : Nat} {as : Nat → Int64} {j : Nat} (hj : j < 4) : ly cs i as 4 (4 * i + j) = as j := by
  unfold ly
  rw [if_pos (by omega), Nat.add_sub_cancel_left]
theorem r4_tr {f g h : Nat → Int64} (e : ∀ j, j < 4 → f j = h j) : r48 f (trL 4 g) 4 = trL 4 h := by
  funext j
  unfold r48 trL
  by_cases hj : j < 4
  · rw [if_pos hj, if_pos hj, e j hj]
  · rw [if_neg hj, if_neg hj, if_neg hj]
theorem r4_at {f g : Nat → Int64} {j : Nat} (hj : j < 4) : r48 f g 4 j = f j := if_pos hj
set_option maxHeartbeats 4000000 in
set_option maxRecDepth 100000 in
theorem c_execute (l : Launch) (G : mG) (M : mM) (L : Nat → Nat → Nat) (S : sS) (cs ar : Nat → Int64) (J : eJ) (hE : EV G L S cs ar J M) (i0 n0 pz kp : Nat) (hi0 : i0 < cl (S 12 0)) (hpz : pz < cl (S 0 0)) (hkp : kp < cl (S 0 0)) (hn0 : n0 ≤ 24) (h14 : S 14 i0 = nI n0) (hA : AC S i0 n0) (hk31 : kp < 2 ^ 31) (h13 : S 13 i0 = nI kp) (hV : vd S i0 n0 0 0) (hC : CK S i0 kp n0) (arg : Int64) (lim : Int32) : Ct l yX4_execute cX4_execute 10 (some FieldType.int) (mm_r 4 0 0) G [.ref (L 5 0), .ref (L 30 i0), .ref (L 33 i0), .ref (L 10 pz), .long arg, .int lim] M (fun r M1 => r = some (.int (rn S cs i0 pz kp n0 arg lim).1) ∧ ∃ J1, MK J J1 ∧ EV G L S (rn S cs i0 pz kp n0 arg lim).2 ar J1 M1) := by
  refine Ct.of (by decide) (Nat.le_of_ble_eq_true rfl) ?_
  intro p e s m args below meth c ls Q X hin hl hw hQ
  have hx := X.1
  have hb := X.2.1
  have hl : lv_has ls 10 [(0, .ref (L 5 0)), (1, .ref (L 30 i0)), (2, .ref (L 33 i0)), (3, .ref (L 10 pz)), (4, .long arg), (6, .int lim)] := hl
  refine lv_aload_n hx hb dX4_execute_0 rfl (lv_at hl 0 rfl) ?_
  refine gf_X4_18 X hw (hE.k5) rfl dX4_execute_1 ?_
  refine lv_aload_n hx hb dX4_execute_4 rfl (lv_at hl 2 rfl) ?_
  refine mm_callV (As := [.ref (L 33 i0)]) (rest := []) X hw (c_cellsLike l G _ _ _ _ _ _ _ (hE.ne (lv_c S (k := 34) (by decide) hi0) (lv_0 S 8 (by decide)) (fun h9 => absurd h9.1 (by decide))) hE.k7 hE.k8 (hE.k33 hi0) (hE.k34 hi0)) (hE.k7) rfl wd_X4_26 ⟨Nat.le_of_ble_eq_true rfl, Nat.le_of_ble_eq_true rfl⟩ ⟨Nat.le_of_ble_eq_true rfl, Nat.le_of_ble_eq_true rfl⟩ rfl rfl (Nat.le_of_ble_eq_true rfl) hl.1 dX4_execute_5 (fun v9 M9 H9 locs9 hp9 hw => ?_)
  obtain ⟨rfl, e9⟩ := hp9
  refine W.eq (g2 := F0 m 8 ls []) rfl ?_
  have hE : EV G L S cs ar (J.1, J.2.1, J.2.2.1, r48 (trL 4 (fun j => cs (4 * i0 + j))) J.2.2.2.1 4, J.2.2.2.2) M9 := hE.w_df _ e9
  refine lv_aload_n hx hb dX4_execute_8 rfl (lv_at hl 0 rfl) ?_
  refine lv_iconst (v := 0) hx hb dX4_execute_9 (by decide) ?_
  refine pf_X4_22 X hw (hE.k5) (Nat.le_of_ble_eq_true rfl) dX4_execute_10 (fun H9 locs9 hw => ?_)
  obtain ⟨M_1, eM_1⟩ : ∃ z, z = mm_up M9 (L 5 0) (.inr (4, [.ref (L 6 0), .ref (L 7 0), .int 0])) := ⟨_, rfl⟩
  have hw : mm_W G.1 vwCl (ct_A M s.heap.size) s.heap M_1 H9 locs9 := by rw [eM_1]; exact hw
  have hE : EV G L (S) (cs) (ar) ((((J.1, J.2.1, J.2.2.1, r48 (trL 4 (fun j => cs (4 * i0 + j))) J.2.2.2.1 4, J.2.2.2.2)).1, 0, ((J.1, J.2.1, J.2.2.1, r48 (trL 4 (fun j => cs (4 * i0 + j))) J.2.2.2.1 4, J.2.2.2.2)).2.2)) M_1 := hE.w_dp (0) eM_1
  refine lv_iconst (v := 0) hx hb dX4_execute_13 (by decide) ?_
  refine lv_istore (lv' := [(7, .int 0), (0, .ref (L 5 0)), (1, .ref (L 30 i0)), (2, .ref (L 33 i0)), (3, .ref (L 10 pz)), (4, .long arg), (6, .int lim)]) hx hb dX4_execute_14 hl (by decide) rfl (fun ls hl => ?_)
  refine lv_iconst (v := 0) hx hb dX4_execute_16 (by decide) ?_
  refine lv_istore (lv' := [(8, .int 0), (7, .int 0), (0, .ref (L 5 0)), (1, .ref (L 30 i0)), (2, .ref (L 33 i0)), (3, .ref (L 10 pz)), (4, .long arg), (6, .int lim)]) hx hb dX4_execute_17 hl (by decide) rfl (fun ls hl => ?_)
  have hE : EV G L S cs ar (J.1, 0, J.2.2.1, r48 (trL 4 (fun j => cs (4 * i0 + j))) J.2.2.2.1 4, J.2.2.2.2) M_1 := hE
  obtain ⟨o, eo⟩ : ∃ o, o = ex_go S i0 pz kp arg lim n0 0 0 [] (fun j => cs (4 * i0 + j)) := ⟨_, rfl⟩
  have loop : ∀ (n : Nat) (k : Nat) (q : Int32) (st : List Int64) (as : Nat → Int64) (J1 : eJ) (M1 : mM) (H1 : Heap) (locs1 : List Loc) (ls1 : Array Slot), (hk : k ≤ n0) → (hn : n0 + 1 ≤ k + n) → (ho : ex_go S i0 pz kp arg lim (n0 - k) k q st as = o) → (hMS : MS J1 st as) → (hMK : MK J J1) → (hls : st.length ≤ k) → (hv : vd S i0 (n0 - k) k st.length) → mm_W G.1 vwCl (ct_A M s.heap.size) s.heap M1 H1 locs1 → EV G L S cs ar J1 M1 → lv_has ls1 10 [(0, .ref (L 5 0)), (1, .ref (L 30 i0)), (2, .ref (L 33 i0)), (3, .ref (L 10 pz)), (4, .long arg), (6, .int lim), (7, .int q), (8, .int (nI k))] → W p l e (mm_r 4 0 0) s m args below meth c H1 locs1 0 0 Q (F0 m 19 ls1 []) := by
    intro n
    induction n with
    | zero => intro k q st as J1 M1 H1 locs1 ls hk hn ho hMS hMK hls hv hw hE hl; exact absurd hn (by omega)
    | succ n ih =>
      intro k q st as J1 M1 H1 locs1 ls hk hn ho hMS hMK hls hv hw hE hl
      refine lv_iload hx hb dX4_execute_19 (lv_at hl 7 rfl) ?_
      refine lv_aload_n hx hb dX4_execute_21 rfl (lv_at hl 1 rfl) ?_
      refine gf_X4_30 X hw (hE.k30 hi0) rfl dX4_execute_22 ?_
      refine lv_icmp_ge (tgt := 112) hx hb dX4_execute_25 (by decide) (fun c25 => ?_) (fun c25 => ?_)
      · have hk9 : k = n0 := by rw [h14] at c25; have := nle (by omega) (by omega) c25; omega
        rw [hk9, Nat.sub_self] at ho
        refine lv_aload_n hx hb dX4_execute_112 rfl (lv_at hl 2 rfl) ?_
        refine lv_aload_n hx hb dX4_execute_113 rfl (lv_at hl 0 rfl) ?_
        refine gf_X4_18 X hw (hE.k5) rfl dX4_execute_114 ?_
        refine mm_callV (As := [.ref (L 7 0)]) (rest := []) X hw (c_cellsLike l G _ _ _ _ _ _ _ (hE.ne (lv_0 S 8 (by decide)) (lv_c S (k := 34) (by decide) hi0) (fun h9 => absurd h9.1 (by decide))) (hE.k33 hi0) (hE.k34 hi0) hE.k7 hE.k8) (hE.k33 hi0) rfl wd_X4_26 ⟨Nat.le_of_ble_eq_true rfl, Nat.le_of_ble_eq_true rfl⟩ ⟨Nat.le_of_ble_eq_true rfl, Nat.le_of_ble_eq_true rfl⟩ rfl rfl (Nat.le_of_ble_eq_true rfl) hl.1 dX4_execute_117 (fun v9 M9 H9 locs9 hp9 hw => ?_)
        obtain ⟨rfl, e9⟩ := hp9
        refine W.eq (g2 := F0 m 120 ls []) rfl ?_
        rw [r4_tr (h := fun j => ly cs i0 as 4 (4 * i0 + j)) (fun j hj => (hMS.2.2 j hj).trans (ly_m hj).symm)] at e9
        have hE : EV G L S (ly cs i0 as 4) ar J1 M9 := hE.w_ce hi0 (fun i1 h1 j hj => ly_o h1 hj) e9
        refine lv_iload hx hb dX4_execute_120 (lv_at hl 6 rfl) ?_
        exact mm_iret hQ X hw (by have e9 : rn S cs i0 pz kp n0 arg lim = (q, ly cs i0 as 4) := (by rw [rn, ← eo, ← ho]; rfl); rw [e9]; exact ⟨rfl, J1, hMK, hE⟩) (Nat.le_of_ble_eq_true rfl) (Nat.le_of_ble_eq_true rfl) dX4_execute_122
      · have hk9 : k < n0 := by rw [h14] at c25; exact nnle (by omega) (by omega) c25
        rw [show n0 - k = (n0 - 1 - k) + 1 from by omega, ex_px] at ho
        rw [show n0 - k = (n0 - 1 - k) + 1 from by omega, vd_s] at hv
        obtain ⟨a0, ha0, ea0, hb6, hb7⟩ := hA k hk9
        have ep : (if 0 ≤ S 15 (24 * i0 + k) ∧ S 15 (24 * i0 + k) < 9 then tr 9 (fun j => S 1 (9 * pz + j)) (cl (S 15 (24 * i0 + k))) else -2) = S 1 (9 * pz + cl (S 15 (24 * i0 + k))) := by rw [if_pos (by rw [ea0]; exact in_lt (n := 9) (by omega) (by decide)), tr_at (by rw [ea0, cl_n (by omega)]; omega)]
        refine lv_iload hx hb dX4_execute_28 (lv_at hl 7 rfl) ?_
        refine lv_bipush (v := 24) hx hb dX4_execute_30 (by decide) ?_
        refine lv_icmp_ge (tgt := 112) hx hb dX4_execute_32 (by decide) (fun c32 => ?_) (fun c32 => ?_)
        · exact absurd (nle (a := 24) (by decide) (by omega) c32) (by omega)
        · refine lv_aload_n hx hb dX4_execute_35 rfl (lv_at hl 1 rfl) ?_
          refine gf_X4_35 X hw (hE.k30 hi0) rfl dX4_execute_36 ?_
          refine lv_iload hx hb dX4_execute_39 (lv_at hl 7 rfl) ?_
          refine mi_iald X hw (hE.k31 hi0) (k) (rfl) (by omega) (by decide) dX4_execute_41 ?_
          refine mm_eqI (y := S 15 (24 * i0 + k)) (tr_at (by omega)) ?_
          refine lv_istore (lv' := [(9, .int (S 15 (24 * i0 + k))), (0, .ref (L 5 0)), (1, .ref (L 30 i0)), (2, .ref (L 33 i0)), (3, .ref (L 10 pz)), (4, .long arg), (6, .int lim), (7, .int q), (8, .int (nI k))]) hx hb dX4_execute_42 hl (by decide) rfl (fun ls hl => ?_)
          refine lv_iload hx hb dX4_execute_44 (lv_at hl 7 rfl) ?_
          refine lv_aload_n hx hb dX4_execute_46 rfl (lv_at hl 4 rfl) ?_
          refine lv_iload hx hb dX4_execute_47 (lv_at hl 0 rfl) ?_
          refine mm_callV (As := [.int (S 15 (24 * i0 + k))]) (rest := [.int q]) X hw (c_priceOf l G _ _ _ _ _ _ _ _ _ (S 15 (24 * i0 + k)) (hE.k10 hpz) (hE.k11 hpz) (hE.k12 hpz)) (hE.k10 hpz) rfl wd_X4_39 ⟨Nat.le_of_ble_eq_true rfl, Nat.le_of_ble_eq_true rfl⟩ ⟨Nat.le_of_ble_eq_true rfl, Nat.le_of_ble_eq_true rfl⟩ rfl rfl (Nat.le_of_ble_eq_true rfl) hl.1 dX4_execute_49 (fun v9 M9 H9 locs9 hp9 hw => ?_)
          obtain ⟨rfl, rfl⟩ := hp9
          refine W.eq (g2 := F0 m 52 ls [.int (if 0 ≤ S 15 (24 * i0 + k) ∧ S 15 (24 * i0 + k) < 9 then tr 9 (fun j => S 1 (9 * pz + j)) (cl (S 15 (24 * i0 + k))) else -2), .int q]) rfl ?_
          refine mm_eqI (y := S 1 (9 * pz + cl (S 15 (24 * i0 + k)))) ep ?_
          refine lv_iadd hx hb dX4_execute_52 ?_
          refine lv_istore (lv' := [(7, .int (q + (S 1 (9 * pz + cl (S 15 (24 * i0 + k)))))), (9, .int (S 15 (24 * i0 + k))), (0, .ref (L 5 0)), (1, .ref (L 30 i0)), (2, .ref (L 33 i0)), (3, .ref (L 10 pz)), (4, .long arg), (6, .int lim), (8, .int (nI k))]) hx hb dX4_execute_53 hl (by decide) rfl (fun ls hl => ?_)
          refine lv_iload hx hb dX4_execute_55 (lv_at hl 0 rfl) ?_
          refine lv_iload hx hb dX4_execute_57 (lv_at hl 7 rfl) ?_
          refine lv_icmp_le (tgt := 67) hx hb dX4_execute_59 (by decide) (fun c59 => ?_) (fun c59 => ?_)
          · rw [if_neg (fun h9 => i32_lt_nle h9 c59)] at ho
            refine lv_iload hx hb dX4_execute_67 (lv_at hl 1 rfl) ?_
            refine lv_iconst (v := 5) hx hb dX4_execute_69 (by decide) ?_
            refine lv_icmp_ne (tgt := 87) hx hb dX4_execute_70 (by decide) (fun c70 => ?_) (fun c70 => ?_)
            · rw [if_neg (fun h9 => c70 h9.1)] at ho
              refine lv_aload_n hx hb dX4_execute_87 rfl (lv_at hl 2 rfl) ?_
              refine lv_iload hx hb dX4_execute_88 (lv_at hl 1 rfl) ?_
              refine lv_aload_n hx hb dX4_execute_90 rfl (lv_at hl 3 rfl) ?_
              refine gf_X4_52 X hw (hE.k30 hi0) rfl dX4_execute_91 ?_
              refine lv_iload hx hb dX4_execute_94 (lv_at hl 8 rfl) ?_
              refine mi_iald X hw (hE.k32 hi0) (k) (rfl) (by omega) (by decide) dX4_execute_96 ?_
              refine mm_eqI (y := S 16 (24 * i0 + k)) (tr_at (by omega)) ?_
              refine lv_aload_n hx hb dX4_execute_97 rfl (lv_at hl 3 rfl) ?_
              refine gf_X4_55 X hw (hE.k30 hi0) rfl dX4_execute_98 ?_
              refine mm_rfS (q := L 10 kp) (by rw [h13, kpt_s L (nI_ne_m1 (by omega)), cl_n (by omega)]) ?_
              refine lv_lload hx hb dX4_execute_101 (lv_at hl 6 rfl) ?_
              refine mm_callV (As := [.int (S 15 (24 * i0 + k)), .int (S 16 (24 * i0 + k)), .ref (L 10 kp), .long arg]) (rest := []) X hw (c_perform l G _ L _ _ _ _ hE st as hMS (by omega) (S 15 (24 * i0 + k)) (S 16 (24 * i0 + k)) a0 ea0 ha0 kp hkp arg (fun h9 => (by obtain ⟨b0, hb0, eb0⟩ := hb6 (nI_inj (by omega) (by decide) (ea0.symm.trans h9)); exact ⟨b0, hb0, eb0, hC k hk9 h9⟩)) (fun h9 => hb7 (by rcases h9 with h9 | h9; exact Or.inl (nI_inj (by omega) (by decide) (ea0.symm.trans h9)); exact Or.inr (nI_inj (by omega) (by decide) (ea0.symm.trans h9)))) hv.1 (fun h9 => absurd h9 c70)) (hE.k5) rfl wd_X4_59 ⟨Nat.le_of_ble_eq_true rfl, Nat.le_of_ble_eq_true rfl⟩ ⟨Nat.le_of_ble_eq_true rfl, Nat.le_of_ble_eq_true rfl⟩ rfl rfl (Nat.le_of_ble_eq_true rfl) hl.1 dX4_execute_103 (fun v9 M9 H9 locs9 hp9 hw => ?_)
              obtain ⟨rfl, J2, hK2, hMS2, hE⟩ := hp9
              refine W.eq (g2 := F0 m 106 ls []) rfl ?_
              refine lv_iinc (v := nI (k + 1)) (lv' := [(8, .int (nI (k + 1))), (7, .int (q + (S 1 (9 * pz + cl (S 15 (24 * i0 + k)))))), (9, .int (S 15 (24 * i0 + k))), (0, .ref (L 5 0)), (1, .ref (L 30 i0)), (2, .ref (L 33 i0)), (3, .ref (L 10 pz)), (4, .long arg), (6, .int lim)]) hx hb dX4_execute_106 hl (k := 8) rfl (nI_s k) (by decide) rfl (fun ls hl => ?_)
              refine lv_goto (tgt := 19) hx hb dX4_execute_109 (by decide) ?_
              exact ih (k + 1) _ _ _ J2 _ _ _ _ (by omega) (by omega) (by rw [show n0 - (k + 1) = n0 - 1 - k from by omega]; exact ho) (hMS2) (hMK.tr hK2) (by rw [px_len ea0 ha0 hv.1]; have := nx_le (S 15 (24 * i0 + k)) st.length; omega) (by rw [show n0 - (k + 1) = n0 - 1 - k from by omega, px_len ea0 ha0 hv.1]; exact hv.2) hw hE (lv_sub hl [3, 4, 5, 6, 7, 8, 1, 0] rfl)
            · refine lv_aload_n hx hb dX4_execute_73 rfl (lv_at hl 2 rfl) ?_
              refine mm_callV (As := []) (rest := []) X hw (c_top l G _ L _ _ _ _ hE (st.length) hMS.1 (by omega)) (hE.k5) rfl wd_X4_48 ⟨Nat.le_of_ble_eq_true rfl, Nat.le_of_ble_eq_true rfl⟩ ⟨Nat.le_of_ble_eq_true rfl, Nat.le_of_ble_eq_true rfl⟩ rfl rfl (Nat.le_of_ble_eq_true rfl) hl.1 dX4_execute_74 (fun v9 M9 H9 locs9 hp9 hw => ?_)
              obtain ⟨rfl, rfl⟩ := hp9
              refine W.eq (g2 := F0 m 77 ls [.long (if st.length = 0 then 0 else J1.2.2.1 (st.length - 1))]) rfl ?_
              refine mm_eqL (y := hd st) (pl_top hMS.2.1) ?_
              refine lv_lconst (v := 0) hx hb dX4_execute_77 (by decide) ?_
              refine W.lcmp hx hb dX4_execute_78 ?_
              refine mm_lif_ne (tgt := 87) hx hb dX4_execute_79 (by decide) (fun c79 => ?_) (fun c79 => ?_)
              · rw [if_neg (fun h9 => c79 h9.2)] at ho
                refine lv_aload_n hx hb dX4_execute_87 rfl (lv_at hl 2 rfl) ?_
                refine lv_iload hx hb dX4_execute_88 (lv_at hl 1 rfl) ?_
                refine lv_aload_n hx hb dX4_execute_90 rfl (lv_at hl 3 rfl) ?_
                refine gf_X4_52 X hw (hE.k30 hi0) rfl dX4_execute_91 ?_
                refine lv_iload hx hb dX4_execute_94 (lv_at hl 8 rfl) ?_
                refine mi_iald X hw (hE.k32 hi0) (k) (rfl) (by omega) (by decide) dX4_execute_96 ?_
                refine mm_eqI (y := S 16 (24 * i0 + k)) (tr_at (by omega)) ?_
                refine lv_aload_n hx hb dX4_execute_97 rfl (lv_at hl 3 rfl) ?_
                refine gf_X4_55 X hw (hE.k30 hi0) rfl dX4_execute_98 ?_
                refine mm_rfS (q := L 10 kp) (by rw [h13, kpt_s L (nI_ne_m1 (by omega)), cl_n (by omega)]) ?_
                refine lv_lload hx hb dX4_execute_101 (lv_at hl 6 rfl) ?_
                refine mm_callV (As := [.int (S 15 (24 * i0 + k)), .int (S 16 (24 * i0 + k)), .ref (L 10 kp), .long arg]) (rest := []) X hw (c_perform l G _ L _ _ _ _ hE st as hMS (by omega) (S 15 (24 * i0 + k)) (S 16 (24 * i0 + k)) a0 ea0 ha0 kp hkp arg (fun h9 => (by obtain ⟨b0, hb0, eb0⟩ := hb6 (nI_inj (by omega) (by decide) (ea0.symm.trans h9)); exact ⟨b0, hb0, eb0, hC k hk9 h9⟩)) (fun h9 => hb7 (by rcases h9 with h9 | h9; exact Or.inl (nI_inj (by omega) (by decide) (ea0.symm.trans h9)); exact Or.inr (nI_inj (by omega) (by decide) (ea0.symm.trans h9)))) hv.1 (fun _ => c79)) (hE.k5) rfl wd_X4_59 ⟨Nat.le_of_ble_eq_true rfl, Nat.le_of_ble_eq_true rfl⟩ ⟨Nat.le_of_ble_eq_true rfl, Nat.le_of_ble_eq_true rfl⟩ rfl rfl (Nat.le_of_ble_eq_true rfl) hl.1 dX4_execute_103 (fun v9 M9 H9 locs9 hp9 hw => ?_)
                obtain ⟨rfl, J2, hK2, hMS2, hE⟩ := hp9
                refine W.eq (g2 := F0 m 106 ls []) rfl ?_
                refine lv_iinc (v := nI (k + 1)) (lv' := [(8, .int (nI (k + 1))), (7, .int (q + (S 1 (9 * pz + cl (S 15 (24 * i0 + k)))))), (9, .int (S 15 (24 * i0 + k))), (0, .ref (L 5 0)), (1, .ref (L 30 i0)), (2, .ref (L 33 i0)), (3, .ref (L 10 pz)), (4, .long arg), (6, .int lim)]) hx hb dX4_execute_106 hl (k := 8) rfl (nI_s k) (by decide) rfl (fun ls hl => ?_)
                refine lv_goto (tgt := 19) hx hb dX4_execute_109 (by decide) ?_
                exact ih (k + 1) _ _ _ J2 _ _ _ _ (by omega) (by omega) (by rw [show n0 - (k + 1) = n0 - 1 - k from by omega]; exact ho) (hMS2) (hMK.tr hK2) (by rw [px_len ea0 ha0 hv.1]; have := nx_le (S 15 (24 * i0 + k)) st.length; omega) (by rw [show n0 - (k + 1) = n0 - 1 - k from by omega, px_len ea0 ha0 hv.1]; exact hv.2) hw hE (lv_sub hl [3, 4, 5, 6, 7, 8, 1, 0] rfl)
              · rw [if_pos ⟨c70, c79⟩] at ho
                refine lv_iconst (v := 4) hx hb dX4_execute_82 (by decide) ?_
                refine mm_callSN (As := [.int 4]) (rest := []) X hw (c_answerOfRule l G _ 4) wd_X4_45 ⟨Nat.le_of_ble_eq_true rfl, Nat.le_of_ble_eq_true rfl⟩ ⟨Nat.le_of_ble_eq_true rfl, Nat.le_of_ble_eq_true rfl⟩ rfl rfl (Nat.le_of_ble_eq_true rfl) hl.1 dX4_execute_83 (fun v9 M9 H9 locs9 hp9 hw => ?_)
                obtain ⟨rfl, rfl⟩ := hp9
                refine W.eq (g2 := F0 m 86 ls [.int (-10 - 4)]) rfl ?_
                exact mm_iret hQ X hw (by have e9 : rn S cs i0 pz kp n0 arg lim = (-14, cs) := (by rw [rn, ← eo, ← ho]; rfl); rw [e9]; exact ⟨rfl, J1, hMK, hE⟩) (Nat.le_of_ble_eq_true rfl) (Nat.le_of_ble_eq_true rfl) dX4_execute_86
          · rw [if_pos (i32_nle c59)] at ho
            refine lv_iconst (v := 3) hx hb dX4_execute_62 (by decide) ?_
            refine mm_callSN (As := [.int 3]) (rest := []) X hw (c_answerOfRule l G _ 3) wd_X4_45 ⟨Nat.le_of_ble_eq_true rfl, Nat.le_of_ble_eq_true rfl⟩ ⟨Nat.le_of_ble_eq_true rfl, Nat.le_of_ble_eq_true rfl⟩ rfl rfl (Nat.le_of_ble_eq_true rfl) hl.1 dX4_execute_63 (fun v9 M9 H9 locs9 hp9 hw => ?_)
            obtain ⟨rfl, rfl⟩ := hp9
            refine W.eq (g2 := F0 m 66 ls [.int (-10 - 3)]) rfl ?_
            exact mm_iret hQ X hw (by have e9 : rn S cs i0 pz kp n0 arg lim = (-13, cs) := (by rw [rn, ← eo, ← ho]; rfl); rw [e9]; exact ⟨rfl, J1, hMK, hE⟩) (Nat.le_of_ble_eq_true rfl) (Nat.le_of_ble_eq_true rfl) dX4_execute_66
  exact loop (n0 + 1) 0 0 [] (fun j => cs (4 * i0 + j)) (J.1, 0, J.2.2.1, r48 (trL 4 (fun j => cs (4 * i0 + j))) J.2.2.2.1 4, J.2.2.2.2) _ _ _ _ (by omega) (by omega) (eo.symm) (⟨rfl, pl_0 _, fun j hj => (r4_at hj).trans (trL_at hj)⟩) (⟨rfl, rfl⟩) (by simp) (hV) hw hE (lv_sub hl [2, 3, 4, 5, 6, 7, 1, 0] rfl)
set_option maxHeartbeats 4000000 in
set_option maxRecDepth 100000 in
theorem c_executeR (l : Launch) (G : mG) (M : mM) (L : Nat → Nat → Nat) (S : sS) (cs ar : Nat → Int64) (J : eJ) (hE : EV G L S cs ar J M) (cz : Nat → Int64) (hRC : RC J (cl (S 12 0)) cz) (i0 n0 pz kp : Nat) (hi0 : i0 < cl (S 12 0)) (hpz : pz < cl (S 0 0)) (hkp : kp < cl (S 0 0)) (hn0 : n0 ≤ 24) (h14 : S 14 i0 = nI n0) (hA : AC S i0 n0) (hk31 : kp < 2 ^ 31) (h13 : S 13 i0 = nI kp) (hV : vd S i0 n0 0 0) (hC : CK S i0 kp n0) (arg : Int64) (lim : Int32) : Ct l yX4_execute cX4_execute 10 (some FieldType.int) (mm_r 4 0 0) G [.ref (L 5 0), .ref (L 30 i0), .ref (L 35 i0), .ref (L 10 pz), .long arg, .int lim] M (fun r M1 => r = some (.int (rn S cz i0 pz kp n0 arg lim).1) ∧ ∃ J1, J1.1 = J.1 ∧ RC J1 (cl (S 12 0)) (rn S cz i0 pz kp n0 arg lim).2 ∧ EV G L S cs ar J1 M1) := by
  refine Ct.of (by decide) (Nat.le_of_ble_eq_true rfl) ?_
  intro p e s m args below meth c ls Q X hin hl hw hQ
  have hx := X.1
  have hb := X.2.1
  have hl : lv_has ls 10 [(0, .ref (L 5 0)), (1, .ref (L 30 i0)), (2, .ref (L 35 i0)), (3, .ref (L 10 pz)), (4, .long arg), (6, .int lim)] := hl
  refine lv_aload_n hx hb dX4_execute_0 rfl (lv_at hl 0 rfl) ?_
  refine gf_X4_18 X hw (hE.k5) rfl dX4_execute_1 ?_
  refine lv_aload_n hx hb dX4_execute_4 rfl (lv_at hl 2 rfl) ?_
  refine mm_callV (As := [.ref (L 35 i0)]) (rest := []) X hw (c_cellsLike l G _ _ _ _ _ _ _ (hE.ne (lv_c S (k := 36) (by decide) hi0) (lv_0 S 8 (by decide)) (fun h9 => absurd h9.1 (by decide))) hE.k7 hE.k8 (hE.k35 hi0) (hE.k36 hi0)) (hE.k7) rfl wd_X4_26 ⟨Nat.le_of_ble_eq_true rfl, Nat.le_of_ble_eq_true rfl⟩ ⟨Nat.le_of_ble_eq_true rfl, Nat.le_of_ble_eq_true rfl⟩ rfl rfl (Nat.le_of_ble_eq_true rfl) hl.1 dX4_execute_5 (fun v9 M9 H9 locs9 hp9 hw => ?_)
  obtain ⟨rfl, e9⟩ := hp9
  refine W.eq (g2 := F0 m 8 ls []) rfl ?_
  have hE : EV G L S cs ar (J.1, J.2.1, J.2.2.1, r48 (J.2.2.2.2 i0) J.2.2.2.1 4, J.2.2.2.2) M9 := hE.w_df _ e9
  refine lv_aload_n hx hb dX4_execute_8 rfl (lv_at hl 0 rfl) ?_
  refine lv_iconst (v := 0) hx hb dX4_execute_9 (by decide) ?_
  refine pf_X4_22 X hw (hE.k5) (Nat.le_of_ble_eq_true rfl) dX4_execute_10 (fun H9 locs9 hw => ?_)
  obtain ⟨M_1, eM_1⟩ : ∃ z, z = mm_up M9 (L 5 0) (.inr (4, [.ref (L 6 0), .ref (L 7 0), .int 0])) := ⟨_, rfl⟩
  have hw : mm_W G.1 vwCl (ct_A M s.heap.size) s.heap M_1 H9 locs9 := by rw [eM_1]; exact hw
  have hE : EV G L (S) (cs) (ar) ((((J.1, J.2.1, J.2.2.1, r48 (J.2.2.2.2 i0) J.2.2.2.1 4, J.2.2.2.2)).1, 0, ((J.1, J.2.1, J.2.2.1, r48 (J.2.2.2.2 i0) J.2.2.2.1 4, J.2.2.2.2)).2.2)) M_1 := hE.w_dp (0) eM_1
  refine lv_iconst (v := 0) hx hb dX4_execute_13 (by decide) ?_
  refine lv_istore (lv' := [(7, .int 0), (0, .ref (L 5 0)), (1, .ref (L 30 i0)), (2, .ref (L 35 i0)), (3, .ref (L 10 pz)), (4, .long arg), (6, .int lim)]) hx hb dX4_execute_14 hl (by decide) rfl (fun ls hl => ?_)
  refine lv_iconst (v := 0) hx hb dX4_execute_16 (by decide) ?_
  refine lv_istore (lv' := [(8, .int 0), (7, .int 0), (0, .ref (L 5 0)), (1, .ref (L 30 i0)), (2, .ref (L 35 i0)), (3, .ref (L 10 pz)), (4, .long arg), (6, .int lim)]) hx hb dX4_execute_17 hl (by decide) rfl (fun ls hl => ?_)
  have hE : EV G L S cs ar (J.1, 0, J.2.2.1, r48 (J.2.2.2.2 i0) J.2.2.2.1 4, J.2.2.2.2) M_1 := hE
  obtain ⟨o, eo⟩ : ∃ o, o = ex_go S i0 pz kp arg lim n0 0 0 [] (fun j => cz (4 * i0 + j)) := ⟨_, rfl⟩
  have loop : ∀ (n : Nat) (k : Nat) (q : Int32) (st : List Int64) (as : Nat → Int64) (J1 : eJ) (M1 : mM) (H1 : Heap) (locs1 : List Loc) (ls1 : Array Slot), (hk : k ≤ n0) → (hn : n0 + 1 ≤ k + n) → (ho : ex_go S i0 pz kp arg lim (n0 - k) k q st as = o) → (hMS : MS J1 st as) → (hMK : MK J J1) → (hls : st.length ≤ k) → (hv : vd S i0 (n0 - k) k st.length) → mm_W G.1 vwCl (ct_A M s.heap.size) s.heap M1 H1 locs1 → EV G L S cs ar J1 M1 → lv_has ls1 10 [(0, .ref (L 5 0)), (1, .ref (L 30 i0)), (2, .ref (L 35 i0)), (3, .ref (L 10 pz)), (4, .long arg), (6, .int lim), (7, .int q), (8, .int (nI k))] → W p l e (mm_r 4 0 0) s m args below meth c H1 locs1 0 0 Q (F0 m 19 ls1 []) := by
    intro n
    induction n with
    | zero => intro k q st as J1 M1 H1 locs1 ls hk hn ho hMS hMK hls hv hw hE hl; exact absurd hn (by omega)
    | succ n ih =>
      intro k q st as J1 M1 H1 locs1 ls hk hn ho hMS hMK hls hv hw hE hl
      refine lv_iload hx hb dX4_execute_19 (lv_at hl 7 rfl) ?_
      refine lv_aload_n hx hb dX4_execute_21 rfl (lv_at hl 1 rfl) ?_
      refine gf_X4_30 X hw (hE.k30 hi0) rfl dX4_execute_22 ?_
      refine lv_icmp_ge (tgt := 112) hx hb dX4_execute_25 (by decide) (fun c25 => ?_) (fun c25 => ?_)
      · have hk9 : k = n0 := by rw [h14] at c25; have := nle (by omega) (by omega) c25; omega
        rw [hk9, Nat.sub_self] at ho
        refine lv_aload_n hx hb dX4_execute_112 rfl (lv_at hl 2 rfl) ?_
        refine lv_aload_n hx hb dX4_execute_113 rfl (lv_at hl 0 rfl) ?_
        refine gf_X4_18 X hw (hE.k5) rfl dX4_execute_114 ?_
        refine mm_callV (As := [.ref (L 7 0)]) (rest := []) X hw (c_cellsLike l G _ _ _ _ _ _ _ (hE.ne (lv_0 S 8 (by decide)) (lv_c S (k := 36) (by decide) hi0) (fun h9 => absurd h9.1 (by decide))) (hE.k35 hi0) (hE.k36 hi0) hE.k7 hE.k8) (hE.k35 hi0) rfl wd_X4_26 ⟨Nat.le_of_ble_eq_true rfl, Nat.le_of_ble_eq_true rfl⟩ ⟨Nat.le_of_ble_eq_true rfl, Nat.le_of_ble_eq_true rfl⟩ rfl rfl (Nat.le_of_ble_eq_true rfl) hl.1 dX4_execute_117 (fun v9 M9 H9 locs9 hp9 hw => ?_)
        obtain ⟨rfl, e9⟩ := hp9
        refine W.eq (g2 := F0 m 120 ls []) rfl ?_
        have hE : EV G L S cs ar (J1.1, J1.2.1, J1.2.2.1, J1.2.2.2.1, va_up J1.2.2.2.2 i0 (r48 J1.2.2.2.1 (J1.2.2.2.2 i0) 4)) M9 := hE.w_rp hi0 _ e9
        refine lv_iload hx hb dX4_execute_120 (lv_at hl 6 rfl) ?_
        exact mm_iret hQ X hw (by have e9 : rn S cz i0 pz kp n0 arg lim = (q, ly cz i0 as 4) := (by rw [rn, ← eo, ← ho]; rfl); rw [e9]; exact ⟨rfl, (J1.1, J1.2.1, J1.2.2.1, J1.2.2.2.1, va_up J1.2.2.2.2 i0 (r48 J1.2.2.2.1 (J1.2.2.2.2 i0) 4)), hMK.1, fun i1 j hi1 hj => (by by_cases h9 : i1 = i0; subst h9; show va_up J1.2.2.2.2 i1 (r48 J1.2.2.2.1 (J1.2.2.2.2 i1) 4) i1 j = ly cz i1 as 4 (4 * i1 + j); rw [va_up_self, r4_at hj, ly_m hj]; exact hMS.2.2 j hj; show va_up J1.2.2.2.2 i0 (r48 J1.2.2.2.1 (J1.2.2.2.2 i0) 4) i1 j = ly cz i0 as 4 (4 * i1 + j); rw [va_up_ne _ _ h9, ly_o h9 hj, hMK.2]; exact hRC i1 j hi1 hj), hE⟩) (Nat.le_of_ble_eq_true rfl) (Nat.le_of_ble_eq_true rfl) dX4_execute_122
      · have hk9 : k < n0 := by rw [h14] at c25; exact nnle (by omega) (by omega) c25
        rw [show n0 - k = (n0 - 1 - k) + 1 from by omega, ex_px] at ho
        rw [show n0 - k = (n0 - 1 - k) + 1 from by omega, vd_s] at hv
        obtain ⟨a0, ha0, ea0, hb6, hb7⟩ := hA k hk9
        have ep : (if 0 ≤ S 15 (24 * i0 + k) ∧ S 15 (24 * i0 + k) < 9 then tr 9 (fun j => S 1 (9 * pz + j)) (cl (S 15 (24 * i0 + k))) else -2) = S 1 (9 * pz + cl (S 15 (24 * i0 + k))) := by rw [if_pos (by rw [ea0]; exact in_lt (n := 9) (by omega) (by decide)), tr_at (by rw [ea0, cl_n (by omega)]; omega)]
        refine lv_iload hx hb dX4_execute_28 (lv_at hl 7 rfl) ?_
        refine lv_bipush (v := 24) hx hb dX4_execute_30 (by decide) ?_
        refine lv_icmp_ge (tgt := 112) hx hb dX4_execute_32 (by decide) (fun c32 => ?_) (fun c32 => ?_)
        · exact absurd (nle (a := 24) (by decide) (by omega) c32) (by omega)
        · refine lv_aload_n hx hb dX4_execute_35 rfl (lv_at hl 1 rfl) ?_
          refine gf_X4_35 X hw (hE.k30 hi0) rfl dX4_execute_36 ?_
          refine lv_iload hx hb dX4_execute_39 (lv_at hl 7 rfl) ?_
          refine mi_iald X hw (hE.k31 hi0) (k) (rfl) (by omega) (by decide) dX4_execute_41 ?_
          refine mm_eqI (y := S 15 (24 * i0 + k)) (tr_at (by omega)) ?_
          refine lv_istore (lv' := [(9, .int (S 15 (24 * i0 + k))), (0, .ref (L 5 0)), (1, .ref (L 30 i0)), (2, .ref (L 35 i0)), (3, .ref (L 10 pz)), (4, .long arg), (6, .int lim), (7, .int q), (8, .int (nI k))]) hx hb dX4_execute_42 hl (by decide) rfl (fun ls hl => ?_)
          refine lv_iload hx hb dX4_execute_44 (lv_at hl 7 rfl) ?_
          refine lv_aload_n hx hb dX4_execute_46 rfl (lv_at hl 4 rfl) ?_
          refine lv_iload hx hb dX4_execute_47 (lv_at hl 0 rfl) ?_
          refine mm_callV (As := [.int (S 15 (24 * i0 + k))]) (rest := [.int q]) X hw (c_priceOf l G _ _ _ _ _ _ _ _ _ (S 15 (24 * i0 + k)) (hE.k10 hpz) (hE.k11 hpz) (hE.k12 hpz)) (hE.k10 hpz) rfl wd_X4_39 ⟨Nat.le_of_ble_eq_true rfl, Nat.le_of_ble_eq_true rfl⟩ ⟨Nat.le_of_ble_eq_true rfl, Nat.le_of_ble_eq_true rfl⟩ rfl rfl (Nat.le_of_ble_eq_true rfl) hl.1 dX4_execute_49 (fun v9 M9 H9 locs9 hp9 hw => ?_)
          obtain ⟨rfl, rfl⟩ := hp9
          refine W.eq (g2 := F0 m 52 ls [.int (if 0 ≤ S 15 (24 * i0 + k) ∧ S 15 (24 * i0 + k) < 9 then tr 9 (fun j => S 1 (9 * pz + j)) (cl (S 15 (24 * i0 + k))) else -2), .int q]) rfl ?_
          refine mm_eqI (y := S 1 (9 * pz + cl (S 15 (24 * i0 + k)))) ep ?_
          refine lv_iadd hx hb dX4_execute_52 ?_
          refine lv_istore (lv' := [(7, .int (q + (S 1 (9 * pz + cl (S 15 (24 * i0 + k)))))), (9, .int (S 15 (24 * i0 + k))), (0, .ref (L 5 0)), (1, .ref (L 30 i0)), (2, .ref (L 35 i0)), (3, .ref (L 10 pz)), (4, .long arg), (6, .int lim), (8, .int (nI k))]) hx hb dX4_execute_53 hl (by decide) rfl (fun ls hl => ?_)
          refine lv_iload hx hb dX4_execute_55 (lv_at hl 0 rfl) ?_
          refine lv_iload hx hb dX4_execute_57 (lv_at hl 7 rfl) ?_
          refine lv_icmp_le (tgt := 67) hx hb dX4_execute_59 (by decide) (fun c59 => ?_) (fun c59 => ?_)
          · rw [if_neg (fun h9 => i32_lt_nle h9 c59)] at ho
            refine lv_iload hx hb dX4_execute_67 (lv_at hl 1 rfl) ?_
            refine lv_iconst (v := 5) hx hb dX4_execute_69 (by decide) ?_
            refine lv_icmp_ne (tgt := 87) hx hb dX4_execute_70 (by decide) (fun c70 => ?_) (fun c70 => ?_)
            · rw [if_neg (fun h9 => c70 h9.1)] at ho
              refine lv_aload_n hx hb dX4_execute_87 rfl (lv_at hl 2 rfl) ?_
              refine lv_iload hx hb dX4_execute_88 (lv_at hl 1 rfl) ?_
              refine lv_aload_n hx hb dX4_execute_90 rfl (lv_at hl 3 rfl) ?_
              refine gf_X4_52 X hw (hE.k30 hi0) rfl dX4_execute_91 ?_
              refine lv_iload hx hb dX4_execute_94 (lv_at hl 8 rfl) ?_
              refine mi_iald X hw (hE.k32 hi0) (k) (rfl) (by omega) (by decide) dX4_execute_96 ?_
              refine mm_eqI (y := S 16 (24 * i0 + k)) (tr_at (by omega)) ?_
              refine lv_aload_n hx hb dX4_execute_97 rfl (lv_at hl 3 rfl) ?_
              refine gf_X4_55 X hw (hE.k30 hi0) rfl dX4_execute_98 ?_
              refine mm_rfS (q := L 10 kp) (by rw [h13, kpt_s L (nI_ne_m1 (by omega)), cl_n (by omega)]) ?_
              refine lv_lload hx hb dX4_execute_101 (lv_at hl 6 rfl) ?_
              refine mm_callV (As := [.int (S 15 (24 * i0 + k)), .int (S 16 (24 * i0 + k)), .ref (L 10 kp), .long arg]) (rest := []) X hw (c_perform l G _ L _ _ _ _ hE st as hMS (by omega) (S 15 (24 * i0 + k)) (S 16 (24 * i0 + k)) a0 ea0 ha0 kp hkp arg (fun h9 => (by obtain ⟨b0, hb0, eb0⟩ := hb6 (nI_inj (by omega) (by decide) (ea0.symm.trans h9)); exact ⟨b0, hb0, eb0, hC k hk9 h9⟩)) (fun h9 => hb7 (by rcases h9 with h9 | h9; exact Or.inl (nI_inj (by omega) (by decide) (ea0.symm.trans h9)); exact Or.inr (nI_inj (by omega) (by decide) (ea0.symm.trans h9)))) hv.1 (fun h9 => absurd h9 c70)) (hE.k5) rfl wd_X4_59 ⟨Nat.le_of_ble_eq_true rfl, Nat.le_of_ble_eq_true rfl⟩ ⟨Nat.le_of_ble_eq_true rfl, Nat.le_of_ble_eq_true rfl⟩ rfl rfl (Nat.le_of_ble_eq_true rfl) hl.1 dX4_execute_103 (fun v9 M9 H9 locs9 hp9 hw => ?_)
              obtain ⟨rfl, J2, hK2, hMS2, hE⟩ := hp9
              refine W.eq (g2 := F0 m 106 ls []) rfl ?_
              refine lv_iinc (v := nI (k + 1)) (lv' := [(8, .int (nI (k + 1))), (7, .int (q + (S 1 (9 * pz + cl (S 15 (24 * i0 + k)))))), (9, .int (S 15 (24 * i0 + k))), (0, .ref (L 5 0)), (1, .ref (L 30 i0)), (2, .ref (L 35 i0)), (3, .ref (L 10 pz)), (4, .long arg), (6, .int lim)]) hx hb dX4_execute_106 hl (k := 8) rfl (nI_s k) (by decide) rfl (fun ls hl => ?_)
              refine lv_goto (tgt := 19) hx hb dX4_execute_109 (by decide) ?_
              exact ih (k + 1) _ _ _ J2 _ _ _ _ (by omega) (by omega) (by rw [show n0 - (k + 1) = n0 - 1 - k from by omega]; exact ho) (hMS2) (hMK.tr hK2) (by rw [px_len ea0 ha0 hv.1]; have := nx_le (S 15 (24 * i0 + k)) st.length; omega) (by rw [show n0 - (k + 1) = n0 - 1 - k from by omega, px_len ea0 ha0 hv.1]; exact hv.2) hw hE (lv_sub hl [3, 4, 5, 6, 7, 8, 1, 0] rfl)
            · refine lv_aload_n hx hb dX4_execute_73 rfl (lv_at hl 2 rfl) ?_
              refine mm_callV (As := []) (rest := []) X hw (c_top l G _ L _ _ _ _ hE (st.length) hMS.1 (by omega)) (hE.k5) rfl wd_X4_48 ⟨Nat.le_of_ble_eq_true rfl, Nat.le_of_ble_eq_true rfl⟩ ⟨Nat.le_of_ble_eq_true rfl, Nat.le_of_ble_eq_true rfl⟩ rfl rfl (Nat.le_of_ble_eq_true rfl) hl.1 dX4_execute_74 (fun v9 M9 H9 locs9 hp9 hw => ?_)
              obtain ⟨rfl, rfl⟩ := hp9
              refine W.eq (g2 := F0 m 77 ls [.long (if st.length = 0 then 0 else J1.2.2.1 (st.length - 1))]) rfl ?_
              refine mm_eqL (y := hd st) (pl_top hMS.2.1) ?_
              refine lv_lconst (v := 0) hx hb dX4_execute_77 (by decide) ?_
              refine W.lcmp hx hb dX4_execute_78 ?_
              refine mm_lif_ne (tgt := 87) hx hb dX4_execute_79 (by decide) (fun c79 => ?_) (fun c79 => ?_)
              · rw [if_neg (fun h9 => c79 h9.2)] at ho
                refine lv_aload_n hx hb dX4_execute_87 rfl (lv_at hl 2 rfl) ?_
                refine lv_iload hx hb dX4_execute_88 (lv_at hl 1 rfl) ?_
                refine lv_aload_n hx hb dX4_execute_90 rfl (lv_at hl 3 rfl) ?_
                refine gf_X4_52 X hw (hE.k30 hi0) rfl dX4_execute_91 ?_
                refine lv_iload hx hb dX4_execute_94 (lv_at hl 8 rfl) ?_
                refine mi_iald X hw (hE.k32 hi0) (k) (rfl) (by omega) (by decide) dX4_execute_96 ?_
                refine mm_eqI (y := S 16 (24 * i0 + k)) (tr_at (by omega)) ?_
                refine lv_aload_n hx hb dX4_execute_97 rfl (lv_at hl 3 rfl) ?_
                refine gf_X4_55 X hw (hE.k30 hi0) rfl dX4_execute_98 ?_
                refine mm_rfS (q := L 10 kp) (by rw [h13, kpt_s L (nI_ne_m1 (by omega)), cl_n (by omega)]) ?_
                refine lv_lload hx hb dX4_execute_101 (lv_at hl 6 rfl) ?_
                refine mm_callV (As := [.int (S 15 (24 * i0 + k)), .int (S 16 (24 * i0 + k)), .ref (L 10 kp), .long arg]) (rest := []) X hw (c_perform l G _ L _ _ _ _ hE st as hMS (by omega) (S 15 (24 * i0 + k)) (S 16 (24 * i0 + k)) a0 ea0 ha0 kp hkp arg (fun h9 => (by obtain ⟨b0, hb0, eb0⟩ := hb6 (nI_inj (by omega) (by decide) (ea0.symm.trans h9)); exact ⟨b0, hb0, eb0, hC k hk9 h9⟩)) (fun h9 => hb7 (by rcases h9 with h9 | h9; exact Or.inl (nI_inj (by omega) (by decide) (ea0.symm.trans h9)); exact Or.inr (nI_inj (by omega) (by decide) (ea0.symm.trans h9)))) hv.1 (fun _ => c79)) (hE.k5) rfl wd_X4_59 ⟨Nat.le_of_ble_eq_true rfl, Nat.le_of_ble_eq_true rfl⟩ ⟨Nat.le_of_ble_eq_true rfl, Nat.le_of_ble_eq_true rfl⟩ rfl rfl (Nat.le_of_ble_eq_true rfl) hl.1 dX4_execute_103 (fun v9 M9 H9 locs9 hp9 hw => ?_)
                obtain ⟨rfl, J2, hK2, hMS2, hE⟩ := hp9
                refine W.eq (g2 := F0 m 106 ls []) rfl ?_
                refine lv_iinc (v := nI (k + 1)) (lv' := [(8, .int (nI (k + 1))), (7, .int (q + (S 1 (9 * pz + cl (S 15 (24 * i0 + k)))))), (9, .int (S 15 (24 * i0 + k))), (0, .ref (L 5 0)), (1, .ref (L 30 i0)), (2, .ref (L 35 i0)), (3, .ref (L 10 pz)), (4, .long arg), (6, .int lim)]) hx hb dX4_execute_106 hl (k := 8) rfl (nI_s k) (by decide) rfl (fun ls hl => ?_)
                refine lv_goto (tgt := 19) hx hb dX4_execute_109 (by decide) ?_
                exact ih (k + 1) _ _ _ J2 _ _ _ _ (by omega) (by omega) (by rw [show n0 - (k + 1) = n0 - 1 - k from by omega]; exact ho) (hMS2) (hMK.tr hK2) (by rw [px_len ea0 ha0 hv.1]; have := nx_le (S 15 (24 * i0 + k)) st.length; omega) (by rw [show n0 - (k + 1) = n0 - 1 - k from by omega, px_len ea0 ha0 hv.1]; exact hv.2) hw hE (lv_sub hl [3, 4, 5, 6, 7, 8, 1, 0] rfl)
              · rw [if_pos ⟨c70, c79⟩] at ho
                refine lv_iconst (v := 4) hx hb dX4_execute_82 (by decide) ?_
                refine mm_callSN (As := [.int 4]) (rest := []) X hw (c_answerOfRule l G _ 4) wd_X4_45 ⟨Nat.le_of_ble_eq_true rfl, Nat.le_of_ble_eq_true rfl⟩ ⟨Nat.le_of_ble_eq_true rfl, Nat.le_of_ble_eq_true rfl⟩ rfl rfl (Nat.le_of_ble_eq_true rfl) hl.1 dX4_execute_83 (fun v9 M9 H9 locs9 hp9 hw => ?_)
                obtain ⟨rfl, rfl⟩ := hp9
                refine W.eq (g2 := F0 m 86 ls [.int (-10 - 4)]) rfl ?_
                exact mm_iret hQ X hw (by have e9 : rn S cz i0 pz kp n0 arg lim = (-14, cz) := (by rw [rn, ← eo, ← ho]; rfl); rw [e9]; exact ⟨rfl, J1, hMK.1, fun i1 j hi1 hj => (by rw [hMK.2]; exact hRC i1 j hi1 hj), hE⟩) (Nat.le_of_ble_eq_true rfl) (Nat.le_of_ble_eq_true rfl) dX4_execute_86
          · rw [if_pos (i32_nle c59)] at ho
            refine lv_iconst (v := 3) hx hb dX4_execute_62 (by decide) ?_
            refine mm_callSN (As := [.int 3]) (rest := []) X hw (c_answerOfRule l G _ 3) wd_X4_45 ⟨Nat.le_of_ble_eq_true rfl, Nat.le_of_ble_eq_true rfl⟩ ⟨Nat.le_of_ble_eq_true rfl, Nat.le_of_ble_eq_true rfl⟩ rfl rfl (Nat.le_of_ble_eq_true rfl) hl.1 dX4_execute_63 (fun v9 M9 H9 locs9 hp9 hw => ?_)
            obtain ⟨rfl, rfl⟩ := hp9
            refine W.eq (g2 := F0 m 66 ls [.int (-10 - 3)]) rfl ?_
            exact mm_iret hQ X hw (by have e9 : rn S cz i0 pz kp n0 arg lim = (-13, cz) := (by rw [rn, ← eo, ← ho]; rfl); rw [e9]; exact ⟨rfl, J1, hMK.1, fun i1 j hi1 hj => (by rw [hMK.2]; exact hRC i1 j hi1 hj), hE⟩) (Nat.le_of_ble_eq_true rfl) (Nat.le_of_ble_eq_true rfl) dX4_execute_66
  exact loop (n0 + 1) 0 0 [] (fun j => cz (4 * i0 + j)) (J.1, 0, J.2.2.1, r48 (J.2.2.2.2 i0) J.2.2.2.1 4, J.2.2.2.2) _ _ _ _ (by omega) (by omega) (eo.symm) (⟨rfl, pl_0 _, fun j hj => (r4_at hj).trans (hRC i0 j hi0 hj)⟩) (⟨rfl, rfl⟩) (by simp) (hV) hw hE (lv_sub hl [2, 3, 4, 5, 6, 7, 1, 0] rfl)
