theorem dl_eq (a : Int32) : (if a = 7 then 0 else 1) - takes a = delta a := by
  unfold delta
  by_cases h : a = 7
  · rw [if_pos h, if_pos h, h]; rfl
  · rw [if_neg h, if_neg h]
set_option maxHeartbeats 4000000 in
set_option maxRecDepth 100000 in
theorem c_ruleBroken (l : Launch) (G : mG) (M : mM) (L : Nat → Nat → Nat) (S : sS) (cs ar : Nat → Int64) (J : eJ) (hE : EV G L S cs ar J M) (ne nn nc nl ht : Nat) (hN : NM S ne nn nc nl ht) (i0 n0 e0 : Nat) (hi0 : i0 < cl (S 12 0)) (he0 : e0 < cl (S 0 0)) (hn0 : n0 ≤ 24) (h14 : S 14 i0 = nI n0) (hA : AC S i0 n0) (hM : MR S ne) : Ct l yX1_ruleBrokenUnder cX1_ruleBrokenUnder 5 (some FieldType.int) (mm_r 2 0 0) G [.ref (L 30 i0), .ref (L 10 e0)] M (fun r M1 => r = some (.int (rbv (dp_go S e0 i0 n0 0 0))) ∧ M = M1) := by
  refine Ct.of (by decide) (Nat.le_of_ble_eq_true rfl) ?_
  intro p e s m args below meth c ls Q X hin hl hw hQ
  have hx := X.1
  have hb := X.2.1
  have hl : lv_has ls 5 [(0, .ref (L 30 i0)), (1, .ref (L 10 e0))] := hl
  obtain ⟨hN0, hN1, hN2, hN7, hN8, hN12, hN13, hN18, hN19, hN5, hN6⟩ := id hN
  have h0b : cl (S 0 0) = ne := by rw [hN0, cl_n (by omega)]
  have h7b : cl (S 7 0) = nn := by rw [hN7, cl_n (by omega)]
  have h12b : cl (S 12 0) = nc := by rw [hN12, cl_n (by omega)]
  have h18b : cl (S 18 0) = nl := by rw [hN18, cl_n (by omega)]
  have h5b : cl (S 5 0) = ht := by rw [hN5, cl_n (by omega)]
  refine lv_iconst (v := 0) hx hb dX1_ruleBrokenUnder_0 (by decide) ?_
  refine lv_istore_n (lv' := [(2, .int 0), (0, .ref (L 30 i0)), (1, .ref (L 10 e0))]) hx hb dX1_ruleBrokenUnder_1 rfl hl (by decide) rfl (fun ls hl => ?_)
  refine lv_iconst (v := 0) hx hb dX1_ruleBrokenUnder_2 (by decide) ?_
  refine lv_istore_n (lv' := [(3, .int 0), (2, .int 0), (0, .ref (L 30 i0)), (1, .ref (L 10 e0))]) hx hb dX1_ruleBrokenUnder_3 rfl hl (by decide) rfl (fun ls hl => ?_)
  have loop : ∀ (n : Nat) (k : Nat) (q : Int32) (H1 : Heap) (locs1 : List Loc) (ls1 : Array Slot), (hk : k ≤ n0) → (hn : n0 + 1 ≤ k + n) → (hv : dp_go S e0 i0 (n0 - k) k q = dp_go S e0 i0 n0 0 0) → mm_W G.1 vwCl (ct_A M s.heap.size) s.heap M H1 locs1 → lv_has ls1 5 [(0, .ref (L 30 i0)), (1, .ref (L 10 e0)), (2, .int q), (3, .int (nI k))] → W p l e (mm_r 2 0 0) s m args below meth c H1 locs1 0 0 Q (F0 m 4 ls1 []) := by
    intro n
    induction n with
    | zero => intro k q H1 locs1 ls hk hn hv hw hl; exact absurd hn (by omega)
    | succ n ih =>
      intro k q H1 locs1 ls hk hn hv hw hl
      refine lv_iload_n hx hb dX1_ruleBrokenUnder_4 rfl (lv_at hl 3 rfl) ?_
      refine lv_aload_n hx hb dX1_ruleBrokenUnder_5 rfl (lv_at hl 0 rfl) ?_
      refine gf_X1_28 X hw (hE.k30 hi0) rfl dX1_ruleBrokenUnder_6 ?_
      refine lv_icmp_ge (tgt := 79) hx hb dX1_ruleBrokenUnder_9 (by decide) (fun c9 => ?_) (fun c9 => ?_)
      · have hk9 : k = n0 := by rw [h14] at c9; have := nle (by omega) (by omega) c9; omega
        refine lv_iconst (v := 0) hx hb dX1_ruleBrokenUnder_79 (by decide) ?_
        exact mm_iret hQ X hw (⟨by rw [hk9, Nat.sub_self] at hv; rw [← hv]; rfl, rfl⟩) (Nat.le_of_ble_eq_true rfl) (Nat.le_of_ble_eq_true rfl) dX1_ruleBrokenUnder_80
      · have hk9 : k < n0 := by rw [h14] at c9; exact nnle (by omega) (by omega) c9
        rw [show n0 - k = (n0 - 1 - k) + 1 from by omega, dp_go_s] at hv
        refine lv_iload_n hx hb dX1_ruleBrokenUnder_12 rfl (lv_at hl 3 rfl) ?_
        refine lv_bipush (v := 24) hx hb dX1_ruleBrokenUnder_13 (by decide) ?_
        refine lv_icmp_ge (tgt := 79) hx hb dX1_ruleBrokenUnder_15 (by decide) (fun c15 => ?_) (fun c15 => ?_)
        · exact absurd (nle (a := 24) (by decide) (by omega) c15) (by omega)
        · refine lv_aload_n hx hb dX1_ruleBrokenUnder_18 rfl (lv_at hl 0 rfl) ?_
          refine gf_X1_9 X hw (hE.k30 hi0) rfl dX1_ruleBrokenUnder_19 ?_
          refine lv_iload_n hx hb dX1_ruleBrokenUnder_22 rfl (lv_at hl 3 rfl) ?_
          refine mi_iald X hw (hE.k31 hi0) (k) (rfl) (by omega) (by decide) dX1_ruleBrokenUnder_23 ?_
          refine mm_eqI (y := S 15 (24 * i0 + k)) (tr_at (by omega)) ?_
          refine lv_istore (lv' := [(4, .int (S 15 (24 * i0 + k))), (0, .ref (L 30 i0)), (1, .ref (L 10 e0)), (2, .int q), (3, .int (nI k))]) hx hb dX1_ruleBrokenUnder_24 hl (by decide) rfl (fun ls hl => ?_)
          refine lv_iload hx hb dX1_ruleBrokenUnder_26 (lv_at hl 0 rfl) ?_
          refine lv_bipush (v := 6) hx hb dX1_ruleBrokenUnder_28 (by decide) ?_
          refine lv_icmp_ne (tgt := 48) hx hb dX1_ruleBrokenUnder_30 (by decide) (fun c30 => ?_) (fun c30 => ?_)
          · rw [if_neg (fun h9 => c30 h9.1)] at hv
            refine lv_iload_n hx hb dX1_ruleBrokenUnder_48 rfl (lv_at hl 3 rfl) ?_
            refine lv_iload hx hb dX1_ruleBrokenUnder_49 (lv_at hl 0 rfl) ?_
            refine mm_callS (As := [.int (S 15 (24 * i0 + k))]) (rest := [.int q]) X hw (c_takenBy l G _ (S 15 (24 * i0 + k))) wd_X1_46 ⟨Nat.le_of_ble_eq_true rfl, Nat.le_of_ble_eq_true rfl⟩ ⟨Nat.le_of_ble_eq_true rfl, Nat.le_of_ble_eq_true rfl⟩ rfl rfl (Nat.le_of_ble_eq_true rfl) hl.1 dX1_ruleBrokenUnder_51 (fun v9 M9 H9 locs9 hp9 hw => ?_)
            obtain ⟨rfl, rfl⟩ := hp9
            refine W.eq (g2 := F0 m 54 ls [.int (takes (S 15 (24 * i0 + k))), .int q]) rfl ?_
            refine lv_icmp_ge (tgt := 59) hx hb dX1_ruleBrokenUnder_54 (by decide) (fun c54 => ?_) (fun c54 => ?_)
            · rw [if_neg (fun h9 => i32_lt_nle h9 c54)] at hv
              refine lv_iload_n hx hb dX1_ruleBrokenUnder_59 rfl (lv_at hl 3 rfl) ?_
              refine lv_iload hx hb dX1_ruleBrokenUnder_60 (lv_at hl 0 rfl) ?_
              refine mm_callS (As := [.int (S 15 (24 * i0 + k))]) (rest := [.int q]) X hw (c_laidBy l G _ (S 15 (24 * i0 + k))) wd_X1_49 ⟨Nat.le_of_ble_eq_true rfl, Nat.le_of_ble_eq_true rfl⟩ ⟨Nat.le_of_ble_eq_true rfl, Nat.le_of_ble_eq_true rfl⟩ rfl rfl (Nat.le_of_ble_eq_true rfl) hl.1 dX1_ruleBrokenUnder_62 (fun v9 M9 H9 locs9 hp9 hw => ?_)
              obtain ⟨rfl, rfl⟩ := hp9
              refine W.eq (g2 := F0 m 65 ls [.int (if S 15 (24 * i0 + k) = 7 then 0 else 1), .int q]) rfl ?_
              refine lv_iload hx hb dX1_ruleBrokenUnder_65 (lv_at hl 0 rfl) ?_
              refine mm_callS (As := [.int (S 15 (24 * i0 + k))]) (rest := [.int (if S 15 (24 * i0 + k) = 7 then 0 else 1), .int q]) X hw (c_takenBy l G _ (S 15 (24 * i0 + k))) wd_X1_46 ⟨Nat.le_of_ble_eq_true rfl, Nat.le_of_ble_eq_true rfl⟩ ⟨Nat.le_of_ble_eq_true rfl, Nat.le_of_ble_eq_true rfl⟩ rfl rfl (Nat.le_of_ble_eq_true rfl) hl.1 dX1_ruleBrokenUnder_67 (fun v9 M9 H9 locs9 hp9 hw => ?_)
              obtain ⟨rfl, rfl⟩ := hp9
              refine W.eq (g2 := F0 m 70 ls [.int (takes (S 15 (24 * i0 + k))), .int (if S 15 (24 * i0 + k) = 7 then 0 else 1), .int q]) rfl ?_
              refine lv_isub hx hb dX1_ruleBrokenUnder_70 ?_
              refine lv_iadd hx hb dX1_ruleBrokenUnder_71 ?_
              refine lv_istore_n (lv' := [(2, .int (q + ((if S 15 (24 * i0 + k) = 7 then 0 else 1) - (takes (S 15 (24 * i0 + k)))))), (4, .int (S 15 (24 * i0 + k))), (0, .ref (L 30 i0)), (1, .ref (L 10 e0)), (3, .int (nI k))]) hx hb dX1_ruleBrokenUnder_72 rfl hl (by decide) rfl (fun ls hl => ?_)
              refine lv_iinc (v := nI (k + 1)) (lv' := [(3, .int (nI (k + 1))), (2, .int (q + ((if S 15 (24 * i0 + k) = 7 then 0 else 1) - (takes (S 15 (24 * i0 + k)))))), (4, .int (S 15 (24 * i0 + k))), (0, .ref (L 30 i0)), (1, .ref (L 10 e0))]) hx hb dX1_ruleBrokenUnder_73 hl (k := 4) rfl (nI_s k) (by decide) rfl (fun ls hl => ?_)
              refine lv_goto (tgt := 4) hx hb dX1_ruleBrokenUnder_76 (by decide) ?_
              exact ih (k + 1) _ _ _ _ (by omega) (by omega) (by rw [show n0 - (k + 1) = n0 - 1 - k from by omega, dl_eq]; exact hv) hw  (lv_sub hl [3, 4, 1, 0] rfl)
            · rw [if_pos (i32_nle c54)] at hv
              refine lv_iconst (v := 2) hx hb dX1_ruleBrokenUnder_57 (by decide) ?_
              exact mm_iret hQ X hw (⟨by rw [← hv]; rfl, rfl⟩) (Nat.le_of_ble_eq_true rfl) (Nat.le_of_ble_eq_true rfl) dX1_ruleBrokenUnder_58
          · obtain ⟨a0, ha0, ea0, hb6, -⟩ := hA k hk9
            obtain ⟨b0, hb0, eb0⟩ := hb6 (nI_inj (by omega) (by decide) (ea0.symm.trans c30))
            have b16 : cl (S 16 (24 * i0 + k)) = b0 := by rw [eb0, cl_n (by omega)]
            have hm0 := hM e0 (by omega) b0 hb0
            refine lv_aload_n hx hb dX1_ruleBrokenUnder_33 rfl (lv_at hl 2 rfl) ?_
            refine lv_aload_n hx hb dX1_ruleBrokenUnder_34 rfl (lv_at hl 1 rfl) ?_
            refine gf_X1_15 X hw (hE.k30 hi0) rfl dX1_ruleBrokenUnder_35 ?_
            refine lv_iload_n hx hb dX1_ruleBrokenUnder_38 rfl (lv_at hl 4 rfl) ?_
            refine mi_iald X hw (hE.k32 hi0) (k) (rfl) (by omega) (by decide) dX1_ruleBrokenUnder_39 ?_
            refine mm_eqI (y := nI b0) ((tr_at (by omega)).trans eb0) ?_
            refine mm_callV (As := [.int (nI b0)]) (rest := []) X hw (c_meaningOf l G _ _ _ _ _ _ _ _ _ (nI b0) (hE.k10 he0) (hE.k11 he0) (hE.k12 he0)) (hE.k10 he0) rfl wd_X1_40 ⟨Nat.le_of_ble_eq_true rfl, Nat.le_of_ble_eq_true rfl⟩ ⟨Nat.le_of_ble_eq_true rfl, Nat.le_of_ble_eq_true rfl⟩ rfl rfl (Nat.le_of_ble_eq_true rfl) hl.1 dX1_ruleBrokenUnder_40 (fun v9 M9 H9 locs9 hp9 hw => ?_)
            obtain ⟨rfl, rfl⟩ := hp9
            refine W.eq (g2 := F0 m 43 ls [.int (if 0 ≤ nI b0 ∧ nI b0 < 8 then tr 8 (fun j => S 2 (8 * e0 + j)) (cl (nI b0)) else -2)]) rfl ?_
            refine mm_eqI (y := S 2 (8 * e0 + b0)) (by rw [if_pos (show 0 ≤ nI b0 ∧ nI b0 < 8 from in_lt (n := 8) hb0 (by decide)), cl_n (by omega), tr_at hb0]) ?_
            refine lv_if_ge (tgt := 48) hx hb dX1_ruleBrokenUnder_43 (by decide) (fun c43 => ?_) (fun c43 => ?_)
            · rw [if_neg (fun h9 => (neg_iff hm0).mp c43 (by rw [← b16]; exact h9.2))] at hv
              refine lv_iload_n hx hb dX1_ruleBrokenUnder_48 rfl (lv_at hl 3 rfl) ?_
              refine lv_iload hx hb dX1_ruleBrokenUnder_49 (lv_at hl 0 rfl) ?_
              refine mm_callS (As := [.int (S 15 (24 * i0 + k))]) (rest := [.int q]) X hw (c_takenBy l G _ (S 15 (24 * i0 + k))) wd_X1_46 ⟨Nat.le_of_ble_eq_true rfl, Nat.le_of_ble_eq_true rfl⟩ ⟨Nat.le_of_ble_eq_true rfl, Nat.le_of_ble_eq_true rfl⟩ rfl rfl (Nat.le_of_ble_eq_true rfl) hl.1 dX1_ruleBrokenUnder_51 (fun v9 M9 H9 locs9 hp9 hw => ?_)
              obtain ⟨rfl, rfl⟩ := hp9
              refine W.eq (g2 := F0 m 54 ls [.int (takes (S 15 (24 * i0 + k))), .int q]) rfl ?_
              refine lv_icmp_ge (tgt := 59) hx hb dX1_ruleBrokenUnder_54 (by decide) (fun c54 => ?_) (fun c54 => ?_)
              · rw [if_neg (fun h9 => i32_lt_nle h9 c54)] at hv
                refine lv_iload_n hx hb dX1_ruleBrokenUnder_59 rfl (lv_at hl 3 rfl) ?_
                refine lv_iload hx hb dX1_ruleBrokenUnder_60 (lv_at hl 0 rfl) ?_
                refine mm_callS (As := [.int (S 15 (24 * i0 + k))]) (rest := [.int q]) X hw (c_laidBy l G _ (S 15 (24 * i0 + k))) wd_X1_49 ⟨Nat.le_of_ble_eq_true rfl, Nat.le_of_ble_eq_true rfl⟩ ⟨Nat.le_of_ble_eq_true rfl, Nat.le_of_ble_eq_true rfl⟩ rfl rfl (Nat.le_of_ble_eq_true rfl) hl.1 dX1_ruleBrokenUnder_62 (fun v9 M9 H9 locs9 hp9 hw => ?_)
                obtain ⟨rfl, rfl⟩ := hp9
                refine W.eq (g2 := F0 m 65 ls [.int (if S 15 (24 * i0 + k) = 7 then 0 else 1), .int q]) rfl ?_
                refine lv_iload hx hb dX1_ruleBrokenUnder_65 (lv_at hl 0 rfl) ?_
                refine mm_callS (As := [.int (S 15 (24 * i0 + k))]) (rest := [.int (if S 15 (24 * i0 + k) = 7 then 0 else 1), .int q]) X hw (c_takenBy l G _ (S 15 (24 * i0 + k))) wd_X1_46 ⟨Nat.le_of_ble_eq_true rfl, Nat.le_of_ble_eq_true rfl⟩ ⟨Nat.le_of_ble_eq_true rfl, Nat.le_of_ble_eq_true rfl⟩ rfl rfl (Nat.le_of_ble_eq_true rfl) hl.1 dX1_ruleBrokenUnder_67 (fun v9 M9 H9 locs9 hp9 hw => ?_)
                obtain ⟨rfl, rfl⟩ := hp9
                refine W.eq (g2 := F0 m 70 ls [.int (takes (S 15 (24 * i0 + k))), .int (if S 15 (24 * i0 + k) = 7 then 0 else 1), .int q]) rfl ?_
                refine lv_isub hx hb dX1_ruleBrokenUnder_70 ?_
                refine lv_iadd hx hb dX1_ruleBrokenUnder_71 ?_
                refine lv_istore_n (lv' := [(2, .int (q + ((if S 15 (24 * i0 + k) = 7 then 0 else 1) - (takes (S 15 (24 * i0 + k)))))), (4, .int (S 15 (24 * i0 + k))), (0, .ref (L 30 i0)), (1, .ref (L 10 e0)), (3, .int (nI k))]) hx hb dX1_ruleBrokenUnder_72 rfl hl (by decide) rfl (fun ls hl => ?_)
                refine lv_iinc (v := nI (k + 1)) (lv' := [(3, .int (nI (k + 1))), (2, .int (q + ((if S 15 (24 * i0 + k) = 7 then 0 else 1) - (takes (S 15 (24 * i0 + k)))))), (4, .int (S 15 (24 * i0 + k))), (0, .ref (L 30 i0)), (1, .ref (L 10 e0))]) hx hb dX1_ruleBrokenUnder_73 hl (k := 4) rfl (nI_s k) (by decide) rfl (fun ls hl => ?_)
                refine lv_goto (tgt := 4) hx hb dX1_ruleBrokenUnder_76 (by decide) ?_
                exact ih (k + 1) _ _ _ _ (by omega) (by omega) (by rw [show n0 - (k + 1) = n0 - 1 - k from by omega, dl_eq]; exact hv) hw  (lv_sub hl [3, 4, 1, 0] rfl)
              · rw [if_pos (i32_nle c54)] at hv
                refine lv_iconst (v := 2) hx hb dX1_ruleBrokenUnder_57 (by decide) ?_
                exact mm_iret hQ X hw (⟨by rw [← hv]; rfl, rfl⟩) (Nat.le_of_ble_eq_true rfl) (Nat.le_of_ble_eq_true rfl) dX1_ruleBrokenUnder_58
            · rw [if_pos ⟨c30, by rw [b16]; exact Decidable.byContradiction (fun h9 => c43 ((neg_iff hm0).mpr h9))⟩] at hv
              refine lv_iconst (v := 1) hx hb dX1_ruleBrokenUnder_46 (by decide) ?_
              exact mm_iret hQ X hw (⟨by rw [← hv]; rfl, rfl⟩) (Nat.le_of_ble_eq_true rfl) (Nat.le_of_ble_eq_true rfl) dX1_ruleBrokenUnder_47
  exact loop (n0 + 1) 0 0 _ _ _ (by omega) (by omega) (rfl) hw  (lv_sub hl [2, 3, 1, 0] rfl)
theorem dp_vals (S : sS) (e c : Nat) : ∀ (r k : Nat) (q : Int32), dp_go S e c r k q = 0 ∨ dp_go S e c r k q = -11 ∨ dp_go S e c r k q = -12
  | 0, _, _ => Or.inl rfl
  | r + 1, k, q => by
    rw [dp_go_s]
    split
    · exact Or.inr (Or.inl rfl)
    · split
      · exact Or.inr (Or.inr rfl)
      · exact dp_vals S e c r (k + 1) _
theorem rbv_ne {d : Int32} (hd : d = 0 ∨ d = -11 ∨ d = -12) (h : ¬ rbv d = 0) : d ≠ 0 ∧ -10 - rbv d = d := by
  rcases hd with rfl | rfl | rfl
  · exact absurd rfl h
  · decide
  · decide
theorem rbv_0 {d : Int32} (hd : d = 0 ∨ d = -11 ∨ d = -12) (h : rbv d = 0) : d = 0 := by
  rcases hd with rfl | rfl | rfl
  · rfl
  · exact absurd h (by decide)
  · exact absurd h (by decide)
set_option maxHeartbeats 4000000 in
set_option maxRecDepth 100000 in
theorem c_deploy (l : Launch) (G : mG) (M : mM) (L : Nat → Nat → Nat) (S : sS) (cs ar : Nat → Int64) (J : eJ) (hE : EV G L S cs ar J M) (ne nn nc nl ht : Nat) (hN : NM S ne nn nc nl ht) (hW : ∀ i, i < nc → ∃ k, k ≤ 24 ∧ S 14 i = nI k ∧ AC S i k) (hM : MR S ne) (hF : ∀ h, h ≤ ht → S 6 h = nI (if_go S (nI h) ne)) (x : Int32) : Ct l yX6_deploy cX6_deploy 5 (some FieldType.int) (mm_r 3 0 0) G [.ref (L 0 0), .int x] M (fun r M1 => r = some (.int (sp_deploy S x).1) ∧ ∃ J1, J1.1 = J.1 ∧ EV G L (sp_deploy S x).2 cs ar J1 M1) := by
  refine Ct.of (by decide) (Nat.le_of_ble_eq_true rfl) ?_
  intro p e s m args below meth c ls Q X hin hl hw hQ
  have hx := X.1
  have hb := X.2.1
  have hl : lv_has ls 5 [(0, .ref (L 0 0)), (1, .int x)] := hl
  obtain ⟨hN0, hN1, hN2, hN7, hN8, hN12, hN13, hN18, hN19, hN5, hN6⟩ := id hN
  have h0b : cl (S 0 0) = ne := by rw [hN0, cl_n (by omega)]
  have h7b : cl (S 7 0) = nn := by rw [hN7, cl_n (by omega)]
  have h12b : cl (S 12 0) = nc := by rw [hN12, cl_n (by omega)]
  have h18b : cl (S 18 0) = nl := by rw [hN18, cl_n (by omega)]
  have h5b : cl (S 5 0) = ht := by rw [hN5, cl_n (by omega)]
  have f0 : S 6 (cl (S 5 0)) = nI (if_go S (S 5 0) ne) := by rw [h5b, hF ht (Nat.le_refl _), hN5]
  have hel : if_go S (S 5 0) ne < ne := if_go_lt _ _ ne hN1
  have f1 : cl (S 6 (cl (S 5 0))) = if_go S (S 5 0) ne := by rw [f0, cl_n (by omega)]
  refine lv_aload_n hx hb dX6_deploy_0 rfl (lv_at hl 0 rfl) ?_
  refine lv_iload_n hx hb dX6_deploy_1 rfl (lv_at hl 1 rfl) ?_
  refine mm_callV (As := [.int x]) (rest := []) X hw (c_contractAt l G _ L _ _ _ _ hE ne nn nc nl ht hN (x)) (hE.k0) rfl wd_X6_141 ⟨Nat.le_of_ble_eq_true rfl, Nat.le_of_ble_eq_true rfl⟩ ⟨Nat.le_of_ble_eq_true rfl, Nat.le_of_ble_eq_true rfl⟩ rfl rfl (Nat.le_of_ble_eq_true rfl) hl.1 dX6_deploy_2 (fun v9 M9 H9 locs9 hp9 hw => ?_)
  obtain ⟨rfl, rfl⟩ := hp9
  refine W.eq (g2 := F0 m 5 ls [va_rf (atR (S 12 0) (L 30) (x))]) rfl ?_
  by_cases c2 : 0 ≤ x ∧ x < S 12 0
  · have l2 : cl x < cl (S 12 0) := by rw [h12b]; exact cl_lt hN12 (by omega) c2
    refine mm_rfS (atR_s c2) ?_
    refine lv_astore_n (lv' := [(2, .ref (L 30 (cl x))), (0, .ref (L 0 0)), (1, .int x)]) hx hb dX6_deploy_5 rfl hl (by decide) rfl (fun ls hl => ?_)
    refine lv_aload_n hx hb dX6_deploy_6 rfl (lv_at hl 0 rfl) ?_
    refine lv_ifnonnull (tgt := 13) hx hb dX6_deploy_7 (by decide) ?_
    refine lv_aload_n hx hb dX6_deploy_13 rfl (lv_at hl 0 rfl) ?_
    refine gf_X6_148 X hw (hE.k30 l2) rfl dX6_deploy_14 ?_
    by_cases k17 : ¬ S 13 (cl x) = -1
    · refine mm_rfS (kpt_s L k17) ?_
      refine lv_ifnonnull (tgt := 27) hx hb dX6_deploy_17 (by decide) ?_
      refine lv_bipush (v := (-3)) hx hb dX6_deploy_27 (by decide) ?_
      exact mm_iret hQ X hw (by have e9 : sp_deploy S x = ((-3), S) := (by rw [sp_deploy, if_neg (fun h9 => h9 c2), if_pos k17]); rw [e9]; exact ⟨rfl, _, rfl, hE⟩) (Nat.le_of_ble_eq_true rfl) (Nat.le_of_ble_eq_true rfl) dX6_deploy_29
    · refine mm_rfN (kpt_n L (Decidable.byContradiction k17)) ?_
      refine lv_ifnonnullN hx hb dX6_deploy_17 ?_
      refine lv_aload_n hx hb dX6_deploy_20 rfl (lv_at hl 0 rfl) ?_
      refine gf_X6_151 X hw (hE.k30 l2) rfl dX6_deploy_21 ?_
      refine lv_if_ne (tgt := 30) hx hb dX6_deploy_24 (by decide) (fun c24 => ?_) (fun c24 => ?_)
      · obtain ⟨j14, hj14, e14, hA⟩ := hW (cl x) (by omega)
        have b14 : cl (S 14 (cl x)) = j14 := by rw [e14, cl_n (by omega)]
        refine lv_aload_n hx hb dX6_deploy_30 rfl (lv_at hl 1 rfl) ?_
        refine lv_aload_n hx hb dX6_deploy_31 rfl (lv_at hl 1 rfl) ?_
        refine gf_X6_60 X hw (hE.k0) rfl dX6_deploy_32 ?_
        refine mm_callV (As := [.int (S 5 0)]) (rest := []) X hw (c_inForceAt l G _ L _ _ _ _ hE ne nn nc nl ht hN (S 5 0)) (hE.k0) rfl wd_X6_134 ⟨Nat.le_of_ble_eq_true rfl, Nat.le_of_ble_eq_true rfl⟩ ⟨Nat.le_of_ble_eq_true rfl, Nat.le_of_ble_eq_true rfl⟩ rfl rfl (Nat.le_of_ble_eq_true rfl) hl.1 dX6_deploy_35 (fun v9 M9 H9 locs9 hp9 hw => ?_)
        obtain ⟨rfl, rfl⟩ := hp9
        refine W.eq (g2 := F0 m 38 ls [.ref (L 10 (if_go S (S 5 0) ne))]) rfl ?_
        refine lv_astore_n (lv' := [(3, .ref (L 10 (if_go S (S 5 0) ne))), (2, .ref (L 30 (cl x))), (0, .ref (L 0 0)), (1, .int x)]) hx hb dX6_deploy_38 rfl hl (by decide) rfl (fun ls hl => ?_)
        refine lv_aload_n hx hb dX6_deploy_39 rfl (lv_at hl 1 rfl) ?_
        refine lv_aload_n hx hb dX6_deploy_40 rfl (lv_at hl 0 rfl) ?_
        refine mm_callV (As := [.ref (L 10 (if_go S (S 5 0) ne))]) (rest := []) X hw (c_ruleBroken l G _ L _ _ _ _ hE ne nn nc nl ht hN (cl x) (cl (S 14 (cl x))) (if_go S (S 5 0) ne) l2 (show (if_go S (S 5 0) ne) < cl (S 0 0) from (by rw [h0b]; exact if_go_lt _ _ ne hN1)) (by omega) (by rw [e14, cl_n (by omega)]) (by rw [b14]; exact hA) hM) (hE.k30 l2) rfl wd_X6_157 ⟨Nat.le_of_ble_eq_true rfl, Nat.le_of_ble_eq_true rfl⟩ ⟨Nat.le_of_ble_eq_true rfl, Nat.le_of_ble_eq_true rfl⟩ rfl rfl (Nat.le_of_ble_eq_true rfl) hl.1 dX6_deploy_41 (fun v9 M9 H9 locs9 hp9 hw => ?_)
        obtain ⟨rfl, rfl⟩ := hp9
        refine W.eq (g2 := F0 m 44 ls [.int (rbv (dp_go S (if_go S (S 5 0) ne) (cl x) (cl (S 14 (cl x))) 0 0))]) rfl ?_
        refine lv_istore (lv' := [(4, .int (rbv (dp_go S (if_go S (S 5 0) ne) (cl x) (cl (S 14 (cl x))) 0 0))), (3, .ref (L 10 (if_go S (S 5 0) ne))), (2, .ref (L 30 (cl x))), (0, .ref (L 0 0)), (1, .int x)]) hx hb dX6_deploy_44 hl (by decide) rfl (fun ls hl => ?_)
        refine lv_iload hx hb dX6_deploy_46 (lv_at hl 0 rfl) ?_
        refine lv_if_eq (tgt := 57) hx hb dX6_deploy_48 (by decide) (fun c48 => ?_) (fun c48 => ?_)
        · refine lv_aload_n hx hb dX6_deploy_57 rfl (lv_at hl 2 rfl) ?_
          refine lv_aload_n hx hb dX6_deploy_58 rfl (lv_at hl 1 rfl) ?_
          refine pf_X6_148 X hw (hE.k30 l2) (Nat.le_of_ble_eq_true rfl) dX6_deploy_59 (fun H9 locs9 hw => ?_)
          obtain ⟨M_1, eM_1⟩ : ∃ z, z = mm_up M (L 30 (cl x)) (.inr (1, [.ref (L 31 (cl x)), .ref (L 32 (cl x)), .ref (L 33 (cl x)), .ref (L 35 (cl x)), .int (S 14 ((cl x))), .ref (L 10 (if_go S (S 5 0) ne))])) := ⟨_, rfl⟩
          have hw : mm_W G.1 vwCl (ct_A M s.heap.size) s.heap M_1 H9 locs9 := by rw [eM_1]; exact hw
          have hE : EV G L (va_up S 13 (upd (S 13) (cl x) (S 6 (cl (S 5 0))))) (cs) (ar) (J) M_1 := hE.w_kp l2 (S 6 (cl (S 5 0))) (by rw [f0]; exact nI_ne_m1 (by omega)) f1 eM_1
          refine lv_aload_n hx hb dX6_deploy_62 rfl (lv_at hl 1 rfl) ?_
          refine gf_X6_85 X hw (hE.k10 (show (if_go S (S 5 0) ne) < cl (S 0 0) from (by rw [h0b]; exact if_go_lt _ _ ne hN1))) rfl dX6_deploy_63 ?_
          exact mm_iret hQ X hw (by have q9 := rbv_0 (dp_vals _ _ _ _ _ _) c48; have e9 : sp_deploy S x = (S 6 (cl (S 5 0)), va_up S 13 (upd (S 13) (cl x) (S 6 (cl (S 5 0))))) := (by rw [sp_deploy, if_neg (fun h9 => h9 c2), if_neg k17, if_neg c24, f1, if_neg (fun h9 => h9 q9)]); rw [e9]; exact ⟨by rw [f0], _, rfl, hE⟩) (Nat.le_of_ble_eq_true rfl) (Nat.le_of_ble_eq_true rfl) dX6_deploy_66
        · refine lv_iload hx hb dX6_deploy_51 (lv_at hl 0 rfl) ?_
          refine mm_callS (As := [.int (rbv (dp_go S (if_go S (S 5 0) ne) (cl x) (cl (S 14 (cl x))) 0 0))]) (rest := []) X hw (c_answerOfRule l G _ (rbv (dp_go S (if_go S (S 5 0) ne) (cl x) (cl (S 14 (cl x))) 0 0))) wd_X6_161 ⟨Nat.le_of_ble_eq_true rfl, Nat.le_of_ble_eq_true rfl⟩ ⟨Nat.le_of_ble_eq_true rfl, Nat.le_of_ble_eq_true rfl⟩ rfl rfl (Nat.le_of_ble_eq_true rfl) hl.1 dX6_deploy_53 (fun v9 M9 H9 locs9 hp9 hw => ?_)
          obtain ⟨rfl, rfl⟩ := hp9
          refine W.eq (g2 := F0 m 56 ls [.int (-10 - (rbv (dp_go S (if_go S (S 5 0) ne) (cl x) (cl (S 14 (cl x))) 0 0)))]) rfl ?_
          exact mm_iret hQ X hw (by have q9 := rbv_ne (dp_vals _ _ _ _ _ _) c48; have e9 : sp_deploy S x = (dp_go S (if_go S (S 5 0) ne) (cl x) (cl (S 14 (cl x))) 0 0, S) := (by rw [sp_deploy, if_neg (fun h9 => h9 c2), if_neg k17, if_neg c24, f1, if_pos q9.1]); rw [e9]; exact ⟨by rw [q9.2], _, rfl, hE⟩) (Nat.le_of_ble_eq_true rfl) (Nat.le_of_ble_eq_true rfl) dX6_deploy_56
      · refine lv_bipush (v := (-3)) hx hb dX6_deploy_27 (by decide) ?_
        exact mm_iret hQ X hw (by have e9 : sp_deploy S x = ((-3), S) := (by rw [sp_deploy, if_neg (fun h9 => h9 c2), if_neg k17, if_pos c24]); rw [e9]; exact ⟨rfl, _, rfl, hE⟩) (Nat.le_of_ble_eq_true rfl) (Nat.le_of_ble_eq_true rfl) dX6_deploy_29
  · refine mm_rfN (atR_n c2) ?_
    refine lv_astore_nN (lv' := [(2, .null), (0, .ref (L 0 0)), (1, .int x)]) hx hb dX6_deploy_5 rfl hl (by decide) rfl (fun ls hl => ?_)
    refine lv_aload_nN hx hb dX6_deploy_6 rfl (lv_at hl 0 rfl) ?_
    refine lv_ifnonnullN hx hb dX6_deploy_7 ?_
    refine lv_bipush (v := (-2)) hx hb dX6_deploy_10 (by decide) ?_
    exact mm_iret hQ X hw (by have e9 : sp_deploy S x = ((-2), S) := (by rw [sp_deploy, if_pos c2]); rw [e9]; exact ⟨rfl, _, rfl, hE⟩) (Nat.le_of_ble_eq_true rfl) (Nat.le_of_ble_eq_true rfl) dX6_deploy_12
set_option maxHeartbeats 4000000 in
set_option maxRecDepth 100000 in
theorem c_isAgreed (l : Launch) (G : mG) (M : mM) (L : Nat → Nat → Nat) (S : sS) (cs ar : Nat → Int64) (J : eJ) (hE : EV G L S cs ar J M) (ne nn nc nl ht : Nat) (hN : NM S ne nn nc nl ht) (hV : VR S J.1) (e0 : Nat) (he0 : e0 < ne) : Ct l yX6_isAgreed cX6_isAgreed 8 (some FieldType.boolean) (mm_r 1 0 0) G [.ref (L 0 0), .int (nI e0)] M (fun r M1 => r = some (.int (bI (¬ 3 * ag_its S e0 nn < 2 * ag_all S nn))) ∧ M = M1) := by
  refine Ct.of (by decide) (Nat.le_of_ble_eq_true rfl) ?_
  intro p e s m args below meth c ls Q X hin hl hw hQ
  have hx := X.1
  have hb := X.2.1
  have hl : lv_has ls 8 [(0, .ref (L 0 0)), (1, .int (nI e0))] := hl
  obtain ⟨hN0, hN1, hN2, hN7, hN8, hN12, hN13, hN18, hN19, hN5, hN6⟩ := id hN
  have h0b : cl (S 0 0) = ne := by rw [hN0, cl_n (by omega)]
  have h7b : cl (S 7 0) = nn := by rw [hN7, cl_n (by omega)]
  have h12b : cl (S 12 0) = nc := by rw [hN12, cl_n (by omega)]
  have h18b : cl (S 18 0) = nl := by rw [hN18, cl_n (by omega)]
  have h5b : cl (S 5 0) = ht := by rw [hN5, cl_n (by omega)]
  refine lv_iconst (v := 0) hx hb dX6_isAgreed_0 (by decide) ?_
  refine lv_istore_n (lv' := [(2, .int 0), (0, .ref (L 0 0)), (1, .int (nI e0))]) hx hb dX6_isAgreed_1 rfl hl (by decide) rfl (fun ls hl => ?_)
  refine lv_iconst (v := 0) hx hb dX6_isAgreed_2 (by decide) ?_
  refine lv_istore_n (lv' := [(3, .int 0), (2, .int 0), (0, .ref (L 0 0)), (1, .int (nI e0))]) hx hb dX6_isAgreed_3 rfl hl (by decide) rfl (fun ls hl => ?_)
  refine lv_aload_n hx hb dX6_isAgreed_4 rfl (lv_at hl 2 rfl) ?_
  refine gf_X6_17 X hw (hE.k0) rfl dX6_isAgreed_5 ?_
  refine lv_astore (lv' := [(4, .ref (L 2 0)), (3, .int 0), (2, .int 0), (0, .ref (L 0 0)), (1, .int (nI e0))]) hx hb dX6_isAgreed_8 hl (by decide) rfl (fun ls hl => ?_)
  refine lv_aload hx hb dX6_isAgreed_10 (lv_at hl 0 rfl) ?_
  refine mi_alen X hw 4 (hE.k2) rfl dX6_isAgreed_12 ?_
  refine W.eq (g2 := F0 m 13 ls [.int 12]) rfl ?_
  refine lv_istore (lv' := [(5, .int 12), (4, .ref (L 2 0)), (3, .int 0), (2, .int 0), (0, .ref (L 0 0)), (1, .int (nI e0))]) hx hb dX6_isAgreed_13 hl (by decide) rfl (fun ls hl => ?_)
  refine lv_iconst (v := 0) hx hb dX6_isAgreed_15 (by decide) ?_
  refine lv_istore (lv' := [(6, .int 0), (5, .int 12), (4, .ref (L 2 0)), (3, .int 0), (2, .int 0), (0, .ref (L 0 0)), (1, .int (nI e0))]) hx hb dX6_isAgreed_16 hl (by decide) rfl (fun ls hl => ?_)
  have loop : ∀ (n : Nat) (k : Nat) (a q : Int32) (H1 : Heap) (locs1 : List Loc) (ls1 : Array Slot), (hk : k ≤ 12) → (hn : 13 ≤ k + n) → (ha : a = ag_all S (min k nn)) → (hq : q = ag_its S e0 (min k nn)) → mm_W G.1 vwCl (ct_A M s.heap.size) s.heap M H1 locs1 → lv_has ls1 8 [(0, .ref (L 0 0)), (1, .int (nI e0)), (2, .int a), (3, .int q), (4, .ref (L 2 0)), (5, .int 12), (6, .int (nI k))] → W p l e (mm_r 1 0 0) s m args below meth c H1 locs1 0 0 Q (F0 m 18 ls1 []) := by
    intro n
    induction n with
    | zero => intro k a q H1 locs1 ls hk hn ha hq hw hl; exact absurd hn (by omega)
    | succ n ih =>
      intro k a q H1 locs1 ls hk hn ha hq hw hl
      refine lv_iload hx hb dX6_isAgreed_18 (lv_at hl 6 rfl) ?_
      refine lv_iload hx hb dX6_isAgreed_20 (lv_at hl 5 rfl) ?_
      refine lv_icmp_ge (tgt := 76) hx hb dX6_isAgreed_22 (by decide) (fun c22 => ?_) (fun c22 => ?_)
      · have hk9 : k = 12 := by have := nle (a := 12) (by decide) (by omega) c22; omega
        refine lv_iconst (v := 3) hx hb dX6_isAgreed_76 (by decide) ?_
        refine lv_iload_n hx hb dX6_isAgreed_77 rfl (lv_at hl 3 rfl) ?_
        refine lv_imul hx hb dX6_isAgreed_78 ?_
        refine lv_iconst (v := 2) hx hb dX6_isAgreed_79 (by decide) ?_
        refine lv_iload_n hx hb dX6_isAgreed_80 rfl (lv_at hl 2 rfl) ?_
        refine lv_imul hx hb dX6_isAgreed_81 ?_
        refine lv_icmp_lt (tgt := 89) hx hb dX6_isAgreed_82 (by decide) (fun c82 => ?_) (fun c82 => ?_)
        · refine lv_iconst (v := 0) hx hb dX6_isAgreed_89 (by decide) ?_
          exact mm_zret hQ X hw (rfl) (⟨by rw [ha, hq, show min k nn = nn from by omega] at c82; rw [bI_f (fun h9 => h9 c82)], rfl⟩) (Nat.le_of_ble_eq_true rfl) (Nat.le_of_ble_eq_true rfl) dX6_isAgreed_90
        · refine lv_iconst (v := 1) hx hb dX6_isAgreed_85 (by decide) ?_
          refine lv_goto (tgt := 90) hx hb dX6_isAgreed_86 (by decide) ?_
          exact mm_zret hQ X hw (rfl) (⟨by rw [ha, hq, show min k nn = nn from by omega] at c82; rw [bI_t c82], rfl⟩) (Nat.le_of_ble_eq_true rfl) (Nat.le_of_ble_eq_true rfl) dX6_isAgreed_90
      · have hk9 : k < 12 := nnle (a := 12) (by decide) (by omega) c22
        refine lv_aload hx hb dX6_isAgreed_25 (lv_at hl 4 rfl) ?_
        refine lv_iload hx hb dX6_isAgreed_27 (lv_at hl 6 rfl) ?_
        refine mi_aald X hw 4 (hE.k2) rfl (k) (rfl) (hk9) (by decide) dX6_isAgreed_29 ?_
        by_cases q30 : k < cl (S 7 0)
        · refine mm_rfS (rfs_s q30) ?_
          refine lv_astore (lv' := [(7, .ref (L 20 k)), (0, .ref (L 0 0)), (1, .int (nI e0)), (2, .int a), (3, .int q), (4, .ref (L 2 0)), (5, .int 12), (6, .int (nI k))]) hx hb dX6_isAgreed_30 hl (by decide) rfl (fun ls hl => ?_)
          refine lv_aload hx hb dX6_isAgreed_32 (lv_at hl 0 rfl) ?_
          refine lv_ifnull hx hb dX6_isAgreed_34 ?_
          refine lv_iload_n hx hb dX6_isAgreed_37 rfl (lv_at hl 3 rfl) ?_
          refine lv_aload hx hb dX6_isAgreed_38 (lv_at hl 0 rfl) ?_
          refine gf_X6_211 X hw (hE.k20 q30) rfl dX6_isAgreed_40 ?_
          refine lv_iadd hx hb dX6_isAgreed_43 ?_
          refine lv_istore_n (lv' := [(2, .int (a + (S 8 k))), (7, .ref (L 20 k)), (0, .ref (L 0 0)), (1, .int (nI e0)), (3, .int q), (4, .ref (L 2 0)), (5, .int 12), (6, .int (nI k))]) hx hb dX6_isAgreed_44 rfl hl (by decide) rfl (fun ls hl => ?_)
          refine lv_aload hx hb dX6_isAgreed_45 (lv_at hl 1 rfl) ?_
          refine lv_iload_n hx hb dX6_isAgreed_47 rfl (lv_at hl 3 rfl) ?_
          refine mm_callV (As := [.int (nI e0)]) (rest := []) X hw (c_votedFor l G _ _ _ _ _ _ (nI e0) (hE.k20 q30)) (hE.k20 q30) rfl wd_X6_214 ⟨Nat.le_of_ble_eq_true rfl, Nat.le_of_ble_eq_true rfl⟩ ⟨Nat.le_of_ble_eq_true rfl, Nat.le_of_ble_eq_true rfl⟩ rfl rfl (Nat.le_of_ble_eq_true rfl) hl.1 dX6_isAgreed_48 (fun v9 M9 H9 locs9 hp9 hw => ?_)
          obtain ⟨rfl, rfl⟩ := hp9
          refine W.eq (g2 := F0 m 51 ls [.int (bI (¬ J.1 k &&& (1 <<< ((nI e0) &&& 31)) = 0))]) rfl ?_
          refine mm_ifeqB (tgt := 70) hx hb dX6_isAgreed_51 (by decide) (fun c51 => ?_) (fun c51 => ?_)
          · refine lv_iinc (v := nI (k + 1)) (lv' := [(6, .int (nI (k + 1))), (2, .int (a + (S 8 k))), (7, .ref (L 20 k)), (0, .ref (L 0 0)), (1, .int (nI e0)), (3, .int q), (4, .ref (L 2 0)), (5, .int 12)]) hx hb dX6_isAgreed_70 hl (k := 7) rfl (nI_s k) (by decide) rfl (fun ls hl => ?_)
            refine lv_goto (tgt := 18) hx hb dX6_isAgreed_73 (by decide) ?_
            exact ih (k + 1) (a + (S 8 k)) (q) _ _ _ (by omega) (by omega) (by rw [show min (k + 1) nn = k + 1 from by omega, ag_all_s]; rw [show min k nn = k from by omega] at ha; rw [ha]) (by rw [show min (k + 1) nn = k + 1 from by omega, ag_its_s]; rw [show min k nn = k from by omega] at hq; rw [← hq, if_pos ((hV k hk9 e0 (by omega)).mp (Decidable.byContradiction c51)), Int32.add_zero]) hw  (lv_sub hl [3, 4, 1, 5, 6, 7, 0] rfl)
          · refine lv_aload hx hb dX6_isAgreed_54 (lv_at hl 1 rfl) ?_
            refine mm_callV (As := []) (rest := []) X hw (c_isHalted l G _ _ _ _ _ _ (hE.k20 q30)) (hE.k20 q30) rfl wd_X6_113 ⟨Nat.le_of_ble_eq_true rfl, Nat.le_of_ble_eq_true rfl⟩ ⟨Nat.le_of_ble_eq_true rfl, Nat.le_of_ble_eq_true rfl⟩ rfl rfl (Nat.le_of_ble_eq_true rfl) hl.1 dX6_isAgreed_56 (fun v9 M9 H9 locs9 hp9 hw => ?_)
            obtain ⟨rfl, rfl⟩ := hp9
            refine W.eq (g2 := F0 m 59 ls [.int (bI (¬ S 10 k = -1))]) rfl ?_
            refine mm_ifneB (tgt := 70) hx hb dX6_isAgreed_59 (by decide) (fun c59 => ?_) (fun c59 => ?_)
            · refine lv_iinc (v := nI (k + 1)) (lv' := [(6, .int (nI (k + 1))), (2, .int (a + (S 8 k))), (7, .ref (L 20 k)), (0, .ref (L 0 0)), (1, .int (nI e0)), (3, .int q), (4, .ref (L 2 0)), (5, .int 12)]) hx hb dX6_isAgreed_70 hl (k := 7) rfl (nI_s k) (by decide) rfl (fun ls hl => ?_)
              refine lv_goto (tgt := 18) hx hb dX6_isAgreed_73 (by decide) ?_
              exact ih (k + 1) (a + (S 8 k)) (q) _ _ _ (by omega) (by omega) (by rw [show min (k + 1) nn = k + 1 from by omega, ag_all_s]; rw [show min k nn = k from by omega] at ha; rw [ha]) (by rw [show min (k + 1) nn = k + 1 from by omega, ag_its_s]; rw [show min k nn = k from by omega] at hq; rw [← hq, if_neg (fun h9 => c51 ((hV k hk9 e0 (by omega)).mpr h9)), if_neg c59, Int32.add_zero]) hw  (lv_sub hl [3, 4, 1, 5, 6, 7, 0] rfl)
            · refine lv_iload_n hx hb dX6_isAgreed_62 rfl (lv_at hl 4 rfl) ?_
              refine lv_aload hx hb dX6_isAgreed_63 (lv_at hl 1 rfl) ?_
              refine gf_X6_211 X hw (hE.k20 q30) rfl dX6_isAgreed_65 ?_
              refine lv_iadd hx hb dX6_isAgreed_68 ?_
              refine lv_istore_n (lv' := [(3, .int (q + (S 8 k))), (2, .int (a + (S 8 k))), (7, .ref (L 20 k)), (0, .ref (L 0 0)), (1, .int (nI e0)), (4, .ref (L 2 0)), (5, .int 12), (6, .int (nI k))]) hx hb dX6_isAgreed_69 rfl hl (by decide) rfl (fun ls hl => ?_)
              refine lv_iinc (v := nI (k + 1)) (lv' := [(6, .int (nI (k + 1))), (3, .int (q + (S 8 k))), (2, .int (a + (S 8 k))), (7, .ref (L 20 k)), (0, .ref (L 0 0)), (1, .int (nI e0)), (4, .ref (L 2 0)), (5, .int 12)]) hx hb dX6_isAgreed_70 hl (k := 7) rfl (nI_s k) (by decide) rfl (fun ls hl => ?_)
              refine lv_goto (tgt := 18) hx hb dX6_isAgreed_73 (by decide) ?_
              exact ih (k + 1) (a + (S 8 k)) (q + (S 8 k)) _ _ _ (by omega) (by omega) (by rw [show min (k + 1) nn = k + 1 from by omega, ag_all_s]; rw [show min k nn = k from by omega] at ha; rw [ha]) (by rw [show min (k + 1) nn = k + 1 from by omega, ag_its_s]; rw [show min k nn = k from by omega] at hq; rw [← hq, if_neg (fun h9 => c51 ((hV k hk9 e0 (by omega)).mpr h9)), if_pos (Decidable.byContradiction c59)]) hw  (lv_sub hl [4, 5, 2, 1, 6, 7, 0] rfl)
        · refine mm_rfN (rfs_n q30) ?_
          refine lv_astoreN (lv' := [(7, .null), (0, .ref (L 0 0)), (1, .int (nI e0)), (2, .int a), (3, .int q), (4, .ref (L 2 0)), (5, .int 12), (6, .int (nI k))]) hx hb dX6_isAgreed_30 hl (by decide) rfl (fun ls hl => ?_)
          refine lv_aloadN hx hb dX6_isAgreed_32 (lv_at hl 0 rfl) ?_
          refine lv_ifnullN (tgt := 70) hx hb dX6_isAgreed_34 (by decide) ?_
          refine lv_iinc (v := nI (k + 1)) (lv' := [(6, .int (nI (k + 1))), (7, .null), (0, .ref (L 0 0)), (1, .int (nI e0)), (2, .int a), (3, .int q), (4, .ref (L 2 0)), (5, .int 12)]) hx hb dX6_isAgreed_70 hl (k := 7) rfl (nI_s k) (by decide) rfl (fun ls hl => ?_)
          refine lv_goto (tgt := 18) hx hb dX6_isAgreed_73 (by decide) ?_
          exact ih (k + 1) a q _ _ _ (by omega) (by omega) (by rw [show min (k + 1) nn = min k nn from by omega]; exact ha) (by rw [show min (k + 1) nn = min k nn from by omega]; exact hq) hw  (lv_sub hl [2, 3, 4, 5, 6, 7, 0] rfl)
  exact loop 13 0 0 0 _ _ _ (by omega) (by omega) (by rw [show min 0 nn = 0 from by omega]; rfl) (by rw [show min 0 nn = 0 from by omega]; rfl) hw  (lv_sub hl [5, 6, 4, 3, 2, 1, 0] rfl)
