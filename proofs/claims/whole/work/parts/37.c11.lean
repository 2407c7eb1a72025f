theorem dg_cong {f g : Nat → Int64} (d : Int32) : ∀ n, (∀ j, j < n → f j = g j) → dg_go f d n = dg_go g d n
  | 0, _ => rfl
  | n + 1, h => by
    show dg1 (dg_go f d n) (f n) = dg1 (dg_go g d n) (g n)
    rw [dg_cong d n (fun j hj => h j (by omega)), h n (by omega)]
/-- each contract that is deployed: its calls have meanings -/
def WC (S : sS) (nc : Nat) : Prop := ∀ i, i < nc → ¬ S 13 i = -1 → CK S i (cl (S 13 i)) (cl (S 14 i))
def FI (S : sS) (ne ht : Nat) : Prop := ∀ h, h ≤ ht → S 6 h = nI (if_go S (nI h) ne)
set_option maxHeartbeats 4000000 in
set_option maxRecDepth 100000 in
theorem c_clearReplayCells (l : Launch) (G : mG) (M : mM) (L : Nat → Nat → Nat) (S : sS) (cs ar : Nat → Int64) (J : eJ) (hE : EV G L S cs ar J M) (ne nn nc nl ht : Nat) (hN : NM S ne nn nc nl ht)  : Ct l yX6_clearReplayCells cX6_clearReplayCells 5 none (mm_r 1 0 0) G [.ref (L 0 0)] M (fun r M1 => r = none ∧ ∃ J1, J1.1 = J.1 ∧ RC J1 (cl (S 12 0)) (fun _ => 0) ∧ EV G L S cs ar J1 M1) := by
  refine Ct.of (by decide) (Nat.le_of_ble_eq_true rfl) ?_
  intro p e s m args below meth c ls Q X hin hl hw hQ
  have hx := X.1
  have hb := X.2.1
  have hl : lv_has ls 5 [(0, .ref (L 0 0))] := hl
  obtain ⟨hN0, hN1, hN2, hN7, hN8, hN12, hN13, hN18, hN19, hN5, hN6⟩ := id hN
  have h0b : cl (S 0 0) = ne := by rw [hN0, cl_n (by omega)]
  have h7b : cl (S 7 0) = nn := by rw [hN7, cl_n (by omega)]
  have h12b : cl (S 12 0) = nc := by rw [hN12, cl_n (by omega)]
  have h18b : cl (S 18 0) = nl := by rw [hN18, cl_n (by omega)]
  have h5b : cl (S 5 0) = ht := by rw [hN5, cl_n (by omega)]
  refine lv_aload_n hx hb dX6_clearReplayCells_0 rfl (lv_at hl 0 rfl) ?_
  refine gf_X6_23 X hw (hE.k0) rfl dX6_clearReplayCells_1 ?_
  refine lv_astore_n (lv' := [(1, .ref (L 3 0)), (0, .ref (L 0 0))]) hx hb dX6_clearReplayCells_4 rfl hl (by decide) rfl (fun ls hl => ?_)
  refine lv_aload_n hx hb dX6_clearReplayCells_5 rfl (lv_at hl 0 rfl) ?_
  refine mi_alen X hw 5 (hE.k3) rfl dX6_clearReplayCells_6 ?_
  refine W.eq (g2 := F0 m 7 ls [.int 12]) rfl ?_
  refine lv_istore_n (lv' := [(2, .int 12), (1, .ref (L 3 0)), (0, .ref (L 0 0))]) hx hb dX6_clearReplayCells_7 rfl hl (by decide) rfl (fun ls hl => ?_)
  refine lv_iconst (v := 0) hx hb dX6_clearReplayCells_8 (by decide) ?_
  refine lv_istore_n (lv' := [(3, .int 0), (2, .int 12), (1, .ref (L 3 0)), (0, .ref (L 0 0))]) hx hb dX6_clearReplayCells_9 rfl hl (by decide) rfl (fun ls hl => ?_)
  have loop : ∀ (n : Nat) (k : Nat) (J1 : eJ) (M1 : mM) (H1 : Heap) (locs1 : List Loc) (ls1 : Array Slot), (hk : k ≤ 12) → (hn : 13 ≤ k + n) → (hJ : J1.1 = J.1) → (hz : ∀ i j, i < k → i < cl (S 12 0) → j < 4 → J1.2.2.2.2 i j = 0) → mm_W G.1 vwCl (ct_A M s.heap.size) s.heap M1 H1 locs1 → EV G L S cs ar J1 M1 → lv_has ls1 5 [(0, .ref (L 0 0)), (1, .ref (L 3 0)), (2, .int 12), (3, .int (nI k))] → W p l e (mm_r 1 0 0) s m args below meth c H1 locs1 0 0 Q (F0 m 10 ls1 []) := by
    intro n
    induction n with
    | zero => intro k J1 M1 H1 locs1 ls hk hn hJ hz hw hE hl; exact absurd hn (by omega)
    | succ n ih =>
      intro k J1 M1 H1 locs1 ls hk hn hJ hz hw hE hl
      refine lv_iload_n hx hb dX6_clearReplayCells_10 rfl (lv_at hl 3 rfl) ?_
      refine lv_iload_n hx hb dX6_clearReplayCells_11 rfl (lv_at hl 2 rfl) ?_
      refine lv_icmp_ge (tgt := 39) hx hb dX6_clearReplayCells_12 (by decide) (fun c12 => ?_) (fun c12 => ?_)
      · have hk9 : k = 12 := by have := nle (a := 12) (by decide) (by omega) c12; omega
        exact mm_vret hQ X hw (⟨rfl, J1, hJ, fun i j h1 h2 => hz i j (by omega) h1 h2, hE⟩) (Nat.le_of_ble_eq_true rfl) (Nat.le_of_ble_eq_true rfl) dX6_clearReplayCells_39
      · have hk9 : k < 12 := nnle (a := 12) (by decide) (by omega) c12
        refine lv_aload_n hx hb dX6_clearReplayCells_15 rfl (lv_at hl 1 rfl) ?_
        refine lv_iload_n hx hb dX6_clearReplayCells_16 rfl (lv_at hl 3 rfl) ?_
        refine mi_aald X hw 5 (hE.k3) rfl (k) (rfl) (hk9) (by decide) dX6_clearReplayCells_17 ?_
        by_cases q18 : k < cl (S 12 0)
        · refine mm_rfS (rfs_s q18) ?_
          refine lv_astore (lv' := [(4, .ref (L 30 k)), (0, .ref (L 0 0)), (1, .ref (L 3 0)), (2, .int 12), (3, .int (nI k))]) hx hb dX6_clearReplayCells_18 hl (by decide) rfl (fun ls hl => ?_)
          refine lv_aload hx hb dX6_clearReplayCells_20 (lv_at hl 0 rfl) ?_
          refine lv_ifnull hx hb dX6_clearReplayCells_22 ?_
          refine lv_aload hx hb dX6_clearReplayCells_25 (lv_at hl 0 rfl) ?_
          refine gf_X6_220 X hw (hE.k30 q18) rfl dX6_clearReplayCells_27 ?_
          refine mm_callV (As := []) (rest := []) X hw (c_clear l G _ _ _ _ (hE.k35 q18) (hE.k36 q18)) (hE.k35 q18) rfl wd_X6_223 ⟨Nat.le_of_ble_eq_true rfl, Nat.le_of_ble_eq_true rfl⟩ ⟨Nat.le_of_ble_eq_true rfl, Nat.le_of_ble_eq_true rfl⟩ rfl rfl (Nat.le_of_ble_eq_true rfl) hl.1 dX6_clearReplayCells_30 (fun v9 M9 H9 locs9 hp9 hw => ?_)
          obtain ⟨rfl, e9⟩ := hp9
          refine W.eq (g2 := F0 m 33 ls []) rfl ?_
          have hE : EV G L S cs ar (J1.1, J1.2.1, J1.2.2.1, J1.2.2.2.1, va_up J1.2.2.2.2 k (z48 (J1.2.2.2.2 k) 4)) M9 := hE.w_rp q18 _ e9
          refine lv_iinc (v := nI (k + 1)) (lv' := [(3, .int (nI (k + 1))), (4, .ref (L 30 k)), (0, .ref (L 0 0)), (1, .ref (L 3 0)), (2, .int 12)]) hx hb dX6_clearReplayCells_33 hl (k := 4) rfl (nI_s k) (by decide) rfl (fun ls hl => ?_)
          refine lv_goto (tgt := 10) hx hb dX6_clearReplayCells_36 (by decide) ?_
          exact ih (k + 1) (J1.1, J1.2.1, J1.2.2.1, J1.2.2.2.1, va_up J1.2.2.2.2 k (z48 (J1.2.2.2.2 k) 4)) _ _ _ _ (by omega) (by omega) (hJ) (fun i j h1 h2 h3 => (by show va_up J1.2.2.2.2 k (z48 (J1.2.2.2.2 k) 4) i j = 0; by_cases h9 : i = k; rw [h9, va_up_self]; exact if_pos h3; rw [va_up_ne _ _ h9]; exact hz i j (by omega) h2 h3)) hw hE (lv_sub hl [2, 3, 4, 0] rfl)
        · refine mm_rfN (rfs_n q18) ?_
          refine lv_astoreN (lv' := [(4, .null), (0, .ref (L 0 0)), (1, .ref (L 3 0)), (2, .int 12), (3, .int (nI k))]) hx hb dX6_clearReplayCells_18 hl (by decide) rfl (fun ls hl => ?_)
          refine lv_aloadN hx hb dX6_clearReplayCells_20 (lv_at hl 0 rfl) ?_
          refine lv_ifnullN (tgt := 33) hx hb dX6_clearReplayCells_22 (by decide) ?_
          refine lv_iinc (v := nI (k + 1)) (lv' := [(3, .int (nI (k + 1))), (4, .null), (0, .ref (L 0 0)), (1, .ref (L 3 0)), (2, .int 12)]) hx hb dX6_clearReplayCells_33 hl (k := 4) rfl (nI_s k) (by decide) rfl (fun ls hl => ?_)
          refine lv_goto (tgt := 10) hx hb dX6_clearReplayCells_36 (by decide) ?_
          exact ih (k + 1) J1 _ _ _ _ (by omega) (by omega) (hJ) (fun i j h1 h2 h3 => hz i j (by omega) h2 h3) hw hE (lv_sub hl [2, 3, 4, 0] rfl)
  exact loop 13 0 J _ _ _ _ (by omega) (by omega) (rfl) (fun i j h1 => absurd h1 (by omega)) hw hE (lv_sub hl [3, 2, 1, 0] rfl)
set_option maxHeartbeats 4000000 in
set_option maxRecDepth 100000 in
theorem c_digestBehindReplayOf (l : Launch) (G : mG) (M : mM) (L : Nat → Nat → Nat) (S : sS) (cs ar : Nat → Int64) (J : eJ) (hE : EV G L S cs ar J M) (ne nn nc nl ht : Nat) (hN : NM S ne nn nc nl ht) (hW : WK S ne nc) (hF : FI S ne ht) (hG : WL S nc nl ht) (hC : WC S nc) (cz : Nat → Int64) (hRC : RC J (cl (S 12 0)) cz) (k0 : Nat) (hk0 : k0 < cl (S 18 0)) (bf : Int32) : Ct l yX6_digestBehindReplayOf cX6_digestBehindReplayOf 5 (some FieldType.int) (mm_r 5 0 0) G [.ref (L 0 0), .ref (L 40 k0), .int bf] M (fun r M1 => r = some (.int (dgs (rp_1 S ar cz k0).2 (cl (S 19 k0)) bf (rp_1 S ar cz k0).1)) ∧ ∃ J1, J1.1 = J.1 ∧ RC J1 (cl (S 12 0)) (rp_1 S ar cz k0).2 ∧ EV G L S cs ar J1 M1) := by
  refine Ct.of (by decide) (Nat.le_of_ble_eq_true rfl) ?_
  intro p e s m args below meth c ls Q X hin hl hw hQ
  have hx := X.1
  have hb := X.2.1
  have hl : lv_has ls 5 [(0, .ref (L 0 0)), (1, .ref (L 40 k0)), (2, .int bf)] := hl
  obtain ⟨hN0, hN1, hN2, hN7, hN8, hN12, hN13, hN18, hN19, hN5, hN6⟩ := id hN
  have h0b : cl (S 0 0) = ne := by rw [hN0, cl_n (by omega)]
  have h7b : cl (S 7 0) = nn := by rw [hN7, cl_n (by omega)]
  have h12b : cl (S 12 0) = nc := by rw [hN12, cl_n (by omega)]
  have h18b : cl (S 18 0) = nl := by rw [hN18, cl_n (by omega)]
  have h5b : cl (S 5 0) = ht := by rw [hN5, cl_n (by omega)]
  obtain ⟨c1, h1, hc1, hh1, e19, e20, hdp⟩ := hG k0 (by omega)
  obtain ⟨j14, hj14, e14, hA, hK⟩ := hW c1 hc1
  obtain ⟨kp, hkp, e13, hV⟩ := hK.resolve_left hdp
  have hic : c1 < cl (S 12 0) := by omega
  have hel : if_go S (S 20 k0) ne < ne := if_go_lt _ _ ne hN1
  have f1 : cl (S 6 (cl (S 20 k0))) = if_go S (S 20 k0) ne := by rw [e20, cl_n (by omega), hF h1 hh1, cl_n]; have := if_go_lt S (nI h1) ne hN1; omega
  have eo : rp_1 S ar cz k0 = rn S cz c1 (if_go S (S 20 k0) ne) kp j14 (ar k0) (S 22 k0) := by rw [rp_1, f1, e19, cl_n (by omega), e13, cl_n (by omega), e14, cl_n (by omega)]
  have hCK : CK S c1 kp j14 := by have h9 := hC c1 hc1 hdp; rw [e13, cl_n (by omega), e14, cl_n (by omega)] at h9; exact h9
  have b19 : cl (S 19 k0) = c1 := by rw [e19, cl_n (by omega)]
  refine lv_aload_n hx hb dX6_digestBehindReplayOf_0 rfl (lv_at hl 1 rfl) ?_
  refine lv_ifnonnull (tgt := 8) hx hb dX6_digestBehindReplayOf_1 (by decide) ?_
  refine lv_aload_n hx hb dX6_digestBehindReplayOf_8 rfl (lv_at hl 0 rfl) ?_
  refine lv_aload_n hx hb dX6_digestBehindReplayOf_9 rfl (lv_at hl 1 rfl) ?_
  refine gf_X6_192 X hw (hE.k40 hk0) rfl dX6_digestBehindReplayOf_10 ?_
  refine mm_callV (As := [.int (S 19 k0)]) (rest := []) X hw (c_contractAt l G _ L _ _ _ _ hE ne nn nc nl ht hN (S 19 k0)) (hE.k0) rfl wd_X6_141 ⟨Nat.le_of_ble_eq_true rfl, Nat.le_of_ble_eq_true rfl⟩ ⟨Nat.le_of_ble_eq_true rfl, Nat.le_of_ble_eq_true rfl⟩ rfl rfl (Nat.le_of_ble_eq_true rfl) hl.1 dX6_digestBehindReplayOf_13 (fun v9 M9 H9 locs9 hp9 hw => ?_)
  obtain ⟨rfl, rfl⟩ := hp9
  refine W.eq (g2 := F0 m 16 ls [va_rf (atR (S 12 0) (L 30) (S 19 k0))]) rfl ?_
  refine mm_rfS (q := L 30 c1) (by rw [atR_s (by rw [e19, hN12]; exact in_lt hc1 (by omega)), b19]) ?_
  refine lv_astore_n (lv' := [(3, .ref (L 30 c1)), (0, .ref (L 0 0)), (1, .ref (L 40 k0)), (2, .int bf)]) hx hb dX6_digestBehindReplayOf_16 rfl hl (by decide) rfl (fun ls hl => ?_)
  refine lv_aload_n hx hb dX6_digestBehindReplayOf_17 rfl (lv_at hl 0 rfl) ?_
  refine lv_ifnonnull (tgt := 23) hx hb dX6_digestBehindReplayOf_18 (by decide) ?_
  refine lv_aload_n hx hb dX6_digestBehindReplayOf_23 rfl (lv_at hl 1 rfl) ?_
  refine gf_X6_43 X hw (hE.k0) rfl dX6_digestBehindReplayOf_24 ?_
  refine lv_aload_n hx hb dX6_digestBehindReplayOf_27 rfl (lv_at hl 0 rfl) ?_
  refine lv_aload_n hx hb dX6_digestBehindReplayOf_28 rfl (lv_at hl 0 rfl) ?_
  refine gf_X6_220 X hw (hE.k30 hic) rfl dX6_digestBehindReplayOf_29 ?_
  refine lv_aload_n hx hb dX6_digestBehindReplayOf_32 rfl (lv_at hl 1 rfl) ?_
  refine lv_aload_n hx hb dX6_digestBehindReplayOf_33 rfl (lv_at hl 2 rfl) ?_
  refine gf_X6_195 X hw (hE.k40 hk0) rfl dX6_digestBehindReplayOf_34 ?_
  refine mm_callV (As := [.int (S 20 k0)]) (rest := [.ref (L 35 c1), .ref (L 30 c1), .ref (L 5 0)]) X hw (c_inForceAt l G _ L _ _ _ _ hE ne nn nc nl ht hN (S 20 k0)) (hE.k0) rfl wd_X6_134 ⟨Nat.le_of_ble_eq_true rfl, Nat.le_of_ble_eq_true rfl⟩ ⟨Nat.le_of_ble_eq_true rfl, Nat.le_of_ble_eq_true rfl⟩ rfl rfl (Nat.le_of_ble_eq_true rfl) hl.1 dX6_digestBehindReplayOf_37 (fun v9 M9 H9 locs9 hp9 hw => ?_)
  obtain ⟨rfl, rfl⟩ := hp9
  refine W.eq (g2 := F0 m 40 ls [.ref (L 10 (if_go S (S 20 k0) ne)), .ref (L 35 c1), .ref (L 30 c1), .ref (L 5 0)]) rfl ?_
  refine lv_aload_n hx hb dX6_digestBehindReplayOf_40 rfl (lv_at hl 2 rfl) ?_
  refine gf_X6_226 X hw (hE.k40 hk0) rfl dX6_digestBehindReplayOf_41 ?_
  refine lv_aload_n hx hb dX6_digestBehindReplayOf_44 rfl (lv_at hl 2 rfl) ?_
  refine gf_X6_230 X hw (hE.k40 hk0) rfl dX6_digestBehindReplayOf_45 ?_
  refine mm_callV (As := [.ref (L 30 c1), .ref (L 35 c1), .ref (L 10 (if_go S (S 20 k0) ne)), .long (ar k0), .int (S 22 k0)]) (rest := []) X hw (c_executeR l G _ L _ _ _ _ hE cz hRC c1 j14 (if_go S (S 20 k0) ne) kp hic (by omega) (by omega) hj14 e14 hA (by omega) e13 hV hCK (ar k0) (S 22 k0)) (hE.k5) rfl wd_X6_171 ⟨Nat.le_of_ble_eq_true rfl, Nat.le_of_ble_eq_true rfl⟩ ⟨Nat.le_of_ble_eq_true rfl, Nat.le_of_ble_eq_true rfl⟩ rfl rfl (Nat.le_of_ble_eq_true rfl) hl.1 dX6_digestBehindReplayOf_48 (fun v9 M9 H9 locs9 hp9 hw => ?_)
  obtain ⟨rfl, J1, hJ1, hRC1, hE⟩ := hp9
  refine W.eq (g2 := F0 m 51 ls [.int ((rn S cz c1 (if_go S (S 20 k0) ne) kp j14 (ar k0) (S 22 k0)).1)]) rfl ?_
  rw [← eo] at hRC1
  rw [← eo]
  refine lv_istore (lv' := [(4, .int ((rp_1 S ar cz k0).1)), (3, .ref (L 30 c1)), (0, .ref (L 0 0)), (1, .ref (L 40 k0)), (2, .int bf)]) hx hb dX6_digestBehindReplayOf_51 hl (by decide) rfl (fun ls hl => ?_)
  refine lv_aload_n hx hb dX6_digestBehindReplayOf_53 rfl (lv_at hl 1 rfl) ?_
  refine gf_X6_220 X hw (hE.k30 hic) rfl dX6_digestBehindReplayOf_54 ?_
  refine lv_iload_n hx hb dX6_digestBehindReplayOf_57 rfl (lv_at hl 4 rfl) ?_
  refine lv_iload hx hb dX6_digestBehindReplayOf_58 (lv_at hl 0 rfl) ?_
  refine mm_callV (As := [.int bf, .int ((rp_1 S ar cz k0).1)]) (rest := []) X hw (c_digestBehind l G _ _ _ _ bf (rp_1 S ar cz k0).1 (hE.k35 hic) (hE.k36 hic)) (hE.k35 hic) rfl wd_X6_178 ⟨Nat.le_of_ble_eq_true rfl, Nat.le_of_ble_eq_true rfl⟩ ⟨Nat.le_of_ble_eq_true rfl, Nat.le_of_ble_eq_true rfl⟩ rfl rfl (Nat.le_of_ble_eq_true rfl) hl.1 dX6_digestBehindReplayOf_60 (fun v9 M9 H9 locs9 hp9 hw => ?_)
  obtain ⟨rfl, rfl⟩ := hp9
  refine W.eq (g2 := F0 m 63 ls [.int (dg_go (J1.2.2.2.2 c1) (31 * bf + (rp_1 S ar cz k0).1) 4)]) rfl ?_
  exact mm_iret hQ X hw (⟨by rw [dgs, b19, dg_cong (g := fun k => (rp_1 S ar cz k0).2 (4 * c1 + k)) _ 4 (fun j hj => hRC1 c1 j hic hj)], J1, hJ1, hRC1, hE⟩) (Nat.le_of_ble_eq_true rfl) (Nat.le_of_ble_eq_true rfl) dX6_digestBehindReplayOf_63
set_option maxHeartbeats 4000000 in
set_option maxRecDepth 100000 in
theorem c_replay (l : Launch) (G : mG) (M : mM) (L : Nat → Nat → Nat) (S : sS) (cs ar : Nat → Int64) (J : eJ) (hE : EV G L S cs ar J M) (ne nn nc nl ht : Nat) (hN : NM S ne nn nc nl ht) (hW : WK S ne nc) (hF : FI S ne ht) (hG : WL S nc nl ht) (hC : WC S nc) (x : Int32) : Ct l yX6_replay cX6_replay 4 (some FieldType.int) (mm_r 6 0 0) G [.ref (L 0 0), .int x] M (fun r M1 => r = some (.int (sp_replay S ar x)) ∧ ∃ J1, J1.1 = J.1 ∧ EV G L S cs ar J1 M1) := by
  refine Ct.of (by decide) (Nat.le_of_ble_eq_true rfl) ?_
  intro p e s m args below meth c ls Q X hin hl hw hQ
  have hx := X.1
  have hb := X.2.1
  have hl : lv_has ls 4 [(0, .ref (L 0 0)), (1, .int x)] := hl
  obtain ⟨hN0, hN1, hN2, hN7, hN8, hN12, hN13, hN18, hN19, hN5, hN6⟩ := id hN
  have h0b : cl (S 0 0) = ne := by rw [hN0, cl_n (by omega)]
  have h7b : cl (S 7 0) = nn := by rw [hN7, cl_n (by omega)]
  have h12b : cl (S 12 0) = nc := by rw [hN12, cl_n (by omega)]
  have h18b : cl (S 18 0) = nl := by rw [hN18, cl_n (by omega)]
  have h5b : cl (S 5 0) = ht := by rw [hN5, cl_n (by omega)]
  refine lv_iload_n hx hb dX6_replay_0 rfl (lv_at hl 1 rfl) ?_
  refine lv_if_lt (tgt := 12) hx hb dX6_replay_1 (by decide) (fun c1 => ?_) (fun c1 => ?_)
  · refine lv_iconst (v := 0) hx hb dX6_replay_12 (by decide) ?_
    exact mm_iret hQ X hw (⟨by rw [sp_replay, if_pos (fun h9 => i32_lt_nle c1 h9.1)], J, rfl, hE⟩) (Nat.le_of_ble_eq_true rfl) (Nat.le_of_ble_eq_true rfl) dX6_replay_13
  · refine lv_iload_n hx hb dX6_replay_4 rfl (lv_at hl 1 rfl) ?_
    refine lv_aload_n hx hb dX6_replay_5 rfl (lv_at hl 0 rfl) ?_
    refine gf_X6_57 X hw (hE.k0) rfl dX6_replay_6 ?_
    refine lv_icmp_le (tgt := 14) hx hb dX6_replay_9 (by decide) (fun c9 => ?_) (fun c9 => ?_)
    · have c9x : 0 ≤ x ∧ x ≤ S 18 0 := ⟨i32_nlt c1, c9⟩
      have b_x : cl x ≤ nl := cl_le hN18 (by omega) c9x
      refine lv_aload_n hx hb dX6_replay_14 rfl (lv_at hl 0 rfl) ?_
      refine mm_callV (As := []) (rest := []) X hw (c_clearReplayCells l G _ L _ _ _ _ hE ne nn nc nl ht hN) (hE.k0) rfl wd_X6_196 ⟨Nat.le_of_ble_eq_true rfl, Nat.le_of_ble_eq_true rfl⟩ ⟨Nat.le_of_ble_eq_true rfl, Nat.le_of_ble_eq_true rfl⟩ rfl rfl (Nat.le_of_ble_eq_true rfl) hl.1 dX6_replay_15 (fun v9 M9 H9 locs9 hp9 hw => ?_)
      obtain ⟨rfl, J1, hJ1, hRC, hE⟩ := hp9
      refine W.eq (g2 := F0 m 18 ls []) rfl ?_
      refine lv_iconst (v := 0) hx hb dX6_replay_18 (by decide) ?_
      refine lv_istore_n (lv' := [(2, .int 0), (0, .ref (L 0 0)), (1, .int x)]) hx hb dX6_replay_19 rfl hl (by decide) rfl (fun ls hl => ?_)
      refine lv_iconst (v := 0) hx hb dX6_replay_20 (by decide) ?_
      refine lv_istore_n (lv' := [(3, .int 0), (2, .int 0), (0, .ref (L 0 0)), (1, .int x)]) hx hb dX6_replay_21 rfl hl (by decide) rfl (fun ls hl => ?_)
      have loop : ∀ (n : Nat) (k : Nat) (d : Int32) (cz : Nat → Int64) (J1 : eJ) (M1 : mM) (H1 : Heap) (locs1 : List Loc) (ls1 : Array Slot), (hk : k ≤ cl x) → (hn : cl x + 1 ≤ k + n) → (hJ : J1.1 = J.1) → (hRC : RC J1 (cl (S 12 0)) cz) → (hd1 : d = (rp_go S ar k).1) → (hd2 : cz = (rp_go S ar k).2) → mm_W G.1 vwCl (ct_A M s.heap.size) s.heap M1 H1 locs1 → EV G L S cs ar J1 M1 → lv_has ls1 4 [(0, .ref (L 0 0)), (1, .int x), (2, .int d), (3, .int (nI k))] → W p l e (mm_r 6 0 0) s m args below meth c H1 locs1 0 0 Q (F0 m 22 ls1 []) := by
        intro n
        induction n with
        | zero => intro k d cz J1 M1 H1 locs1 ls hk hn hJ hRC hd1 hd2 hw hE hl; exact absurd hn (by omega)
        | succ n ih =>
          intro k d cz J1 M1 H1 locs1 ls hk hn hJ hRC hd1 hd2 hw hE hl
          refine lv_iload_n hx hb dX6_replay_22 rfl (lv_at hl 3 rfl) ?_
          refine lv_iload_n hx hb dX6_replay_23 rfl (lv_at hl 1 rfl) ?_
          refine lv_icmp_ge (tgt := 44) hx hb dX6_replay_24 (by decide) (fun c24 => ?_) (fun c24 => ?_)
          · have hi9 : k = cl x := by rw [nI_cl c9x.1] at c24; have := nle (by omega) (by omega) c24; omega
            refine lv_iload_n hx hb dX6_replay_44 rfl (lv_at hl 2 rfl) ?_
            exact mm_iret hQ X hw (⟨by rw [sp_replay, if_neg (fun h9 => h9 c9x), hd1, hi9], J1, hJ, hE⟩) (Nat.le_of_ble_eq_true rfl) (Nat.le_of_ble_eq_true rfl) dX6_replay_45
          · have hi9 : k < cl x := by rw [nI_cl c9x.1] at c24; exact nnle (by omega) (by omega) c24
            have hkl : k < cl (S 18 0) := by omega
            refine lv_aload_n hx hb dX6_replay_27 rfl (lv_at hl 0 rfl) ?_
            refine lv_aload_n hx hb dX6_replay_28 rfl (lv_at hl 0 rfl) ?_
            refine lv_iload_n hx hb dX6_replay_29 rfl (lv_at hl 3 rfl) ?_
            refine mm_callV (As := [.int (nI k)]) (rest := [.ref (L 0 0)]) X hw (c_entryAt l G _ L _ _ _ _ hE ne nn nc nl ht hN (nI k)) (hE.k0) rfl wd_X6_188 ⟨Nat.le_of_ble_eq_true rfl, Nat.le_of_ble_eq_true rfl⟩ ⟨Nat.le_of_ble_eq_true rfl, Nat.le_of_ble_eq_true rfl⟩ rfl rfl (Nat.le_of_ble_eq_true rfl) hl.1 dX6_replay_30 (fun v9 M9 H9 locs9 hp9 hw => ?_)
            obtain ⟨rfl, rfl⟩ := hp9
            refine W.eq (g2 := F0 m 33 ls [va_rf (atR (S 18 0) (L 40) (nI k)), .ref (L 0 0)]) rfl ?_
            refine mm_rfS (q := L 40 k) (by rw [atR_s (by rw [hN18]; exact in_lt (by omega) (by omega)), cl_n (by omega)]) ?_
            refine lv_iload_n hx hb dX6_replay_33 rfl (lv_at hl 2 rfl) ?_
            refine mm_callV (As := [.ref (L 40 k), .int d]) (rest := []) X hw (c_digestBehindReplayOf l G _ L _ _ _ _ hE ne nn nc nl ht hN hW hF hG hC cz hRC k hkl d) (hE.k0) rfl wd_X6_199 ⟨Nat.le_of_ble_eq_true rfl, Nat.le_of_ble_eq_true rfl⟩ ⟨Nat.le_of_ble_eq_true rfl, Nat.le_of_ble_eq_true rfl⟩ rfl rfl (Nat.le_of_ble_eq_true rfl) hl.1 dX6_replay_34 (fun v9 M9 H9 locs9 hp9 hw => ?_)
            obtain ⟨rfl, J2, hJ2, hRC2, hE⟩ := hp9
            refine W.eq (g2 := F0 m 37 ls [.int (dgs (rp_1 S ar cz k).2 (cl (S 19 k)) d (rp_1 S ar cz k).1)]) rfl ?_
            refine lv_istore_n (lv' := [(2, .int (dgs (rp_1 S ar cz k).2 (cl (S 19 k)) d (rp_1 S ar cz k).1)), (0, .ref (L 0 0)), (1, .int x), (3, .int (nI k))]) hx hb dX6_replay_37 rfl hl (by decide) rfl (fun ls hl => ?_)
            refine lv_iinc (v := nI (k + 1)) (lv' := [(3, .int (nI (k + 1))), (2, .int (dgs (rp_1 S ar cz k).2 (cl (S 19 k)) d (rp_1 S ar cz k).1)), (0, .ref (L 0 0)), (1, .int x)]) hx hb dX6_replay_38 hl (k := 3) rfl (nI_s k) (by decide) rfl (fun ls hl => ?_)
            refine lv_goto (tgt := 22) hx hb dX6_replay_41 (by decide) ?_
            exact ih (k + 1) _ _ J2 _ _ _ _ (by omega) (by omega) (hJ2.trans hJ) (hRC2) (by rw [rp_go_s, ← hd2, ← hd1]) (by rw [rp_go_s, ← hd2]) hw hE (lv_sub hl [2, 3, 1, 0] rfl)
      exact loop (cl x + 1) 0 0 _ J1 _ _ _ _ (by omega) (by omega) (hJ1) (hRC) (rfl) (rfl) hw hE (lv_sub hl [2, 3, 1, 0] rfl)
    · refine lv_iconst (v := 0) hx hb dX6_replay_12 (by decide) ?_
      exact mm_iret hQ X hw (⟨by rw [sp_replay, if_pos (fun h9 => c9 h9.2)], J, rfl, hE⟩) (Nat.le_of_ble_eq_true rfl) (Nat.le_of_ble_eq_true rfl) dX6_replay_13
