set_option maxHeartbeats 4000000 in
set_option maxRecDepth 100000 in
theorem m_agrees (l : Launch) (G : mG) (M : mM) (g : Nat) (L : Nat → Nat) (S : sS) (cs ar : Nat → Int64) (K : Nat → Nat → Int64) (hR : RV G g L S cs ar K M) (ne nn nc nl ht : Nat) (hN : NM S ne nn nc nl ht) (e0 : Nat) (he0 : e0 < ne) : Ct l yX7_agrees cX7_agrees 5 none (mm_r 0 0 0) G [.ref g, .int (nI e0)] M (fun r M1 => r = none ∧ RV G g L (sp_agrees S e0) cs ar K M1) := by
  refine Ct.of (by decide) (Nat.le_of_ble_eq_true rfl) ?_
  intro p e s m args below meth c ls Q X hin hl hw hQ
  have hx := X.1
  have hb := X.2.1
  have hl : lv_has ls 5 [(0, .ref g), (1, .int (nI e0))] := hl
  obtain ⟨hN0, hN1, hN2, hN7, hN8, hN12, hN13, hN18, hN19, hN5, hN6⟩ := id hN
  have h7b : cl (S 7 0) = nn := by rw [hN7, cl_n (by omega)]
  have h5c : S 5 0 = nI (cl (S 5 0)) := by rw [hN5, cl_n (by omega)]
  have h5b : cl (S 5 0) = ht := by rw [hN5, cl_n (by omega)]
  refine lv_iconst (v := 0) hx hb dX7_agrees_0 (by decide) ?_
  refine lv_istore_n (lv' := [(2, .int 0), (0, .ref g), (1, .int (nI e0))]) hx hb dX7_agrees_1 rfl hl (by decide) rfl (fun ls hl => ?_)
  refine lv_iconst (v := 0) hx hb dX7_agrees_2 (by decide) ?_
  refine lv_istore_n (lv' := [(3, .int 0), (2, .int 0), (0, .ref g), (1, .int (nI e0))]) hx hb dX7_agrees_3 rfl hl (by decide) rfl (fun ls hl => ?_)
  refine lv_iconst (v := 0) hx hb dX7_agrees_4 (by decide) ?_
  refine lv_istore (lv' := [(4, .int 0), (3, .int 0), (2, .int 0), (0, .ref g), (1, .int (nI e0))]) hx hb dX7_agrees_5 hl (by decide) rfl (fun ls hl => ?_)
  have loop : ∀ (n : Nat) (k : Nat) (a q : Int32) (H1 : Heap) (locs1 : List Loc) (ls1 : Array Slot), (hk : k ≤ nn) → (hn : nn + 1 ≤ k + n) → (ha : a = ag_all S k) → (hq : q = ag_its S e0 k) → mm_W G.1 vwCl (ct_A M s.heap.size) s.heap M H1 locs1 → lv_has ls1 5 [(0, .ref g), (1, .int (nI e0)), (2, .int a), (3, .int q), (4, .int (nI k))] → W p l e (mm_r 0 0 0) s m args below meth c H1 locs1 0 0 Q (F0 m 7 ls1 []) := by
    intro n
    induction n with
    | zero => intro k a q H1 locs1 ls hk hn ha hq hw hl; exact absurd hn (by omega)
    | succ n ih =>
      intro k a q H1 locs1 ls hk hn ha hq hw hl
      refine lv_iload hx hb dX7_agrees_7 (lv_at hl 4 rfl) ?_
      refine lv_aload_n hx hb dX7_agrees_9 rfl (lv_at hl 0 rfl) ?_
      refine rg_86 X hw hR dX7_agrees_10 ?_
      refine lv_icmp_ge (tgt := 72) hx hb dX7_agrees_13 (by decide) (fun c13 => ?_) (fun c13 => ?_)
      · have hk9 : k = nn := by rw [hN7] at c13; have := nle (by omega) (by omega) c13; omega
        refine lv_iconst (v := 3) hx hb dX7_agrees_72 (by decide) ?_
        refine lv_iload_n hx hb dX7_agrees_73 rfl (lv_at hl 3 rfl) ?_
        refine lv_imul hx hb dX7_agrees_74 ?_
        refine lv_iconst (v := 2) hx hb dX7_agrees_75 (by decide) ?_
        refine lv_iload_n hx hb dX7_agrees_76 rfl (lv_at hl 2 rfl) ?_
        refine lv_imul hx hb dX7_agrees_77 ?_
        refine lv_icmp_lt (tgt := 85) hx hb dX7_agrees_78 (by decide) (fun c78 => ?_) (fun c78 => ?_)
        · refine lv_iconst (v := 0) hx hb dX7_agrees_85 (by decide) ?_
          refine lv_istore (lv' := [(4, .int 0), (0, .ref g), (1, .int (nI e0)), (2, .int a), (3, .int q)]) hx hb dX7_agrees_86 hl (by decide) rfl (fun ls hl => ?_)
          refine lv_aload_n hx hb dX7_agrees_88 rfl (lv_at hl 1 rfl) ?_
          refine rg_23 X hw hR dX7_agrees_89 ?_
          refine lv_iload_n hx hb dX7_agrees_92 rfl (lv_at hl 2 rfl) ?_
          refine lv_iload hx hb dX7_agrees_93 (lv_at hl 0 rfl) ?_
          refine lv_if_eq (tgt := 102) hx hb dX7_agrees_95 (by decide) (fun c95 => ?_) (fun c95 => ?_)
          · refine lv_iconst (v := 3) hx hb dX7_agrees_102 (by decide) ?_
            refine ri_iast X hw hR 4 rfl (e0) (rfl) (by omega) dX7_agrees_103 (fun M9 H9 locs9 hw hR => ?_)
            refine lv_aload_n hx hb dX7_agrees_104 rfl (lv_at hl 1 rfl) ?_
            refine rg_26 X hw hR dX7_agrees_105 ?_
            refine W.eq (g2 := F0 m 108 ls [.ref (L 6)]) rfl ?_
            refine lv_aload_n hx hb dX7_agrees_108 rfl (lv_at hl 1 rfl) ?_
            refine rg_99 X hw hR dX7_agrees_109 ?_
            refine W.eq (g2 := F0 m 112 ls [.int (S 5 0), .ref (L 6)]) rfl ?_
            refine lv_iload hx hb dX7_agrees_112 (lv_at hl 0 rfl) ?_
            refine lv_if_eq (tgt := 121) hx hb dX7_agrees_114 (by decide) (fun c114 => ?_) (fun c114 => ?_)
            · refine lv_aload_n hx hb dX7_agrees_121 rfl (lv_at hl 1 rfl) ?_
              refine rg_26 X hw hR dX7_agrees_122 ?_
              refine W.eq (g2 := F0 m 125 ls [.ref (L 6), .int (S 5 0), .ref (L 6)]) rfl ?_
              refine lv_aload_n hx hb dX7_agrees_125 rfl (lv_at hl 1 rfl) ?_
              refine rg_99 X hw hR dX7_agrees_126 ?_
              refine W.eq (g2 := F0 m 129 ls [.int (S 5 0), .ref (L 6), .int (S 5 0), .ref (L 6)]) rfl ?_
              refine ri_iald X hw hR 6 rfl (cl (S 5 0)) (h5c) (by omega) dX7_agrees_129 ?_
              refine W.eq (g2 := F0 m 130 ls [.int (S 6 (cl (S 5 0))), .int (S 5 0), .ref (L 6)]) rfl ?_
              refine ri_iast X hw hR 6 rfl (cl (S 5 0)) (h5c) (by omega) dX7_agrees_130 (fun M9 H9 locs9 hw hR => ?_)
              have hR : RV G g L (va_up (va_up S 4 (upd (S 4) (e0) (3))) 6 (upd (S 6) (cl (S 5 0)) (S 6 (cl (S 5 0))))) cs ar K M9 := hR
              exact mm_vret hQ X hw (⟨rfl, by rw [sp_agrees, if_pos (by rw [h7b, ← hk9, ← ha, ← hq]; exact c78)]; exact hR⟩) (Nat.le_of_ble_eq_true rfl) (Nat.le_of_ble_eq_true rfl) dX7_agrees_131
            · exact absurd (by decide) c114
          · exact absurd (by decide) c95
        · refine lv_iconst (v := 1) hx hb dX7_agrees_81 (by decide) ?_
          refine lv_goto (tgt := 86) hx hb dX7_agrees_82 (by decide) ?_
          refine lv_istore (lv' := [(4, .int 1), (0, .ref g), (1, .int (nI e0)), (2, .int a), (3, .int q)]) hx hb dX7_agrees_86 hl (by decide) rfl (fun ls hl => ?_)
          refine lv_aload_n hx hb dX7_agrees_88 rfl (lv_at hl 1 rfl) ?_
          refine rg_23 X hw hR dX7_agrees_89 ?_
          refine lv_iload_n hx hb dX7_agrees_92 rfl (lv_at hl 2 rfl) ?_
          refine lv_iload hx hb dX7_agrees_93 (lv_at hl 0 rfl) ?_
          refine lv_if_eq (tgt := 102) hx hb dX7_agrees_95 (by decide) (fun c95 => ?_) (fun c95 => ?_)
          · exact absurd c95 (by decide)
          · refine lv_iconst (v := 2) hx hb dX7_agrees_98 (by decide) ?_
            refine lv_goto (tgt := 103) hx hb dX7_agrees_99 (by decide) ?_
            refine ri_iast X hw hR 4 rfl (e0) (rfl) (by omega) dX7_agrees_103 (fun M9 H9 locs9 hw hR => ?_)
            refine lv_aload_n hx hb dX7_agrees_104 rfl (lv_at hl 1 rfl) ?_
            refine rg_26 X hw hR dX7_agrees_105 ?_
            refine W.eq (g2 := F0 m 108 ls [.ref (L 6)]) rfl ?_
            refine lv_aload_n hx hb dX7_agrees_108 rfl (lv_at hl 1 rfl) ?_
            refine rg_99 X hw hR dX7_agrees_109 ?_
            refine W.eq (g2 := F0 m 112 ls [.int (S 5 0), .ref (L 6)]) rfl ?_
            refine lv_iload hx hb dX7_agrees_112 (lv_at hl 0 rfl) ?_
            refine lv_if_eq (tgt := 121) hx hb dX7_agrees_114 (by decide) (fun c114 => ?_) (fun c114 => ?_)
            · exact absurd c114 (by decide)
            · refine lv_iload_n hx hb dX7_agrees_117 rfl (lv_at hl 2 rfl) ?_
              refine lv_goto (tgt := 130) hx hb dX7_agrees_118 (by decide) ?_
              refine ri_iast X hw hR 6 rfl (cl (S 5 0)) (h5c) (by omega) dX7_agrees_130 (fun M9 H9 locs9 hw hR => ?_)
              have hR : RV G g L (va_up (va_up S 4 (upd (S 4) (e0) (2))) 6 (upd (S 6) (cl (S 5 0)) (nI e0))) cs ar K M9 := hR
              exact mm_vret hQ X hw (⟨rfl, by rw [sp_agrees, if_neg (by rw [h7b, ← hk9, ← ha, ← hq]; exact c78)]; exact hR⟩) (Nat.le_of_ble_eq_true rfl) (Nat.le_of_ble_eq_true rfl) dX7_agrees_131
      · have hk9 : k < nn := by rw [hN7] at c13; exact nnle (by omega) (by omega) c13
        refine lv_iload_n hx hb dX7_agrees_16 rfl (lv_at hl 2 rfl) ?_
        refine lv_aload_n hx hb dX7_agrees_17 rfl (lv_at hl 0 rfl) ?_
        refine rg_29 X hw hR dX7_agrees_18 ?_
        refine lv_iload hx hb dX7_agrees_21 (lv_at hl 4 rfl) ?_
        refine ri_iald X hw hR 8 rfl (k) (rfl) (by omega) dX7_agrees_23 ?_
        refine lv_iadd hx hb dX7_agrees_24 ?_
        refine lv_istore_n (lv' := [(2, .int (a + (S 8 (k)))), (0, .ref g), (1, .int (nI e0)), (3, .int q), (4, .int (nI k))]) hx hb dX7_agrees_25 rfl hl (by decide) rfl (fun ls hl => ?_)
        refine lv_iload_n hx hb dX7_agrees_26 rfl (lv_at hl 3 rfl) ?_
        refine lv_aload_n hx hb dX7_agrees_27 rfl (lv_at hl 1 rfl) ?_
        refine rg_38 X hw hR dX7_agrees_28 ?_
        refine lv_bipush (v := 12) hx hb dX7_agrees_31 (by decide) ?_
        refine lv_iload_n hx hb dX7_agrees_33 rfl (lv_at hl 2 rfl) ?_
        refine lv_imul hx hb dX7_agrees_34 ?_
        refine lv_iload hx hb dX7_agrees_35 (lv_at hl 4 rfl) ?_
        refine lv_iadd hx hb dX7_agrees_37 ?_
        refine rz_zald X hw hR (12 * e0 + k) (ix12 e0 k) (by omega) dX7_agrees_38 ?_
        refine lv_if_eq (tgt := 63) hx hb dX7_agrees_39 (by decide) (fun c39 => ?_) (fun c39 => ?_)
        · refine lv_iconst (v := 0) hx hb dX7_agrees_63 (by decide) ?_
          refine lv_iadd hx hb dX7_agrees_64 ?_
          refine lv_istore_n (lv' := [(3, .int (q + 0)), (2, .int (a + (S 8 (k)))), (0, .ref g), (1, .int (nI e0)), (4, .int (nI k))]) hx hb dX7_agrees_65 rfl hl (by decide) rfl (fun ls hl => ?_)
          refine lv_iinc (v := nI (k + 1)) (lv' := [(4, .int (nI (k + 1))), (3, .int (q + 0)), (2, .int (a + (S 8 (k)))), (0, .ref g), (1, .int (nI e0))]) hx hb dX7_agrees_66 hl (k := 4) rfl (nI_s k) (by decide) rfl (fun ls hl => ?_)
          refine lv_goto (tgt := 7) hx hb dX7_agrees_69 (by decide) ?_
          exact ih (k + 1) (a + (S 8 (k))) (q + 0) _ _ _ (by omega) (by omega) (by rw [ag_all_s, ha]) (by rw [ag_its_s, if_pos c39, hq]) hw  (lv_sub hl [3, 4, 2, 1, 0] rfl)
        · refine lv_aload_n hx hb dX7_agrees_42 rfl (lv_at hl 1 rfl) ?_
          refine rg_35 X hw hR dX7_agrees_43 ?_
          refine lv_iload hx hb dX7_agrees_46 (lv_at hl 4 rfl) ?_
          refine ri_iald X hw hR 10 rfl (k) (rfl) (by omega) dX7_agrees_48 ?_
          refine lv_iconst (v := (-1)) hx hb dX7_agrees_49 (by decide) ?_
          refine lv_icmp_ne (tgt := 63) hx hb dX7_agrees_50 (by decide) (fun c50 => ?_) (fun c50 => ?_)
          · refine lv_iconst (v := 0) hx hb dX7_agrees_63 (by decide) ?_
            refine lv_iadd hx hb dX7_agrees_64 ?_
            refine lv_istore_n (lv' := [(3, .int (q + 0)), (2, .int (a + (S 8 (k)))), (0, .ref g), (1, .int (nI e0)), (4, .int (nI k))]) hx hb dX7_agrees_65 rfl hl (by decide) rfl (fun ls hl => ?_)
            refine lv_iinc (v := nI (k + 1)) (lv' := [(4, .int (nI (k + 1))), (3, .int (q + 0)), (2, .int (a + (S 8 (k)))), (0, .ref g), (1, .int (nI e0))]) hx hb dX7_agrees_66 hl (k := 4) rfl (nI_s k) (by decide) rfl (fun ls hl => ?_)
            refine lv_goto (tgt := 7) hx hb dX7_agrees_69 (by decide) ?_
            exact ih (k + 1) (a + (S 8 (k))) (q + 0) _ _ _ (by omega) (by omega) (by rw [ag_all_s, ha]) (by rw [ag_its_s, if_neg c39, if_neg c50, hq]) hw  (lv_sub hl [3, 4, 2, 1, 0] rfl)
          · refine lv_aload_n hx hb dX7_agrees_53 rfl (lv_at hl 1 rfl) ?_
            refine rg_29 X hw hR dX7_agrees_54 ?_
            refine lv_iload hx hb dX7_agrees_57 (lv_at hl 4 rfl) ?_
            refine ri_iald X hw hR 8 rfl (k) (rfl) (by omega) dX7_agrees_59 ?_
            refine lv_goto (tgt := 64) hx hb dX7_agrees_60 (by decide) ?_
            refine lv_iadd hx hb dX7_agrees_64 ?_
            refine lv_istore_n (lv' := [(3, .int (q + (S 8 (k)))), (2, .int (a + (S 8 (k)))), (0, .ref g), (1, .int (nI e0)), (4, .int (nI k))]) hx hb dX7_agrees_65 rfl hl (by decide) rfl (fun ls hl => ?_)
            refine lv_iinc (v := nI (k + 1)) (lv' := [(4, .int (nI (k + 1))), (3, .int (q + (S 8 (k)))), (2, .int (a + (S 8 (k)))), (0, .ref g), (1, .int (nI e0))]) hx hb dX7_agrees_66 hl (k := 4) rfl (nI_s k) (by decide) rfl (fun ls hl => ?_)
            refine lv_goto (tgt := 7) hx hb dX7_agrees_69 (by decide) ?_
            exact ih (k + 1) (a + (S 8 (k))) (q + (S 8 (k))) _ _ _ (by omega) (by omega) (by rw [ag_all_s, ha]) (by rw [ag_its_s, if_neg c39, if_pos c50, hq]) hw  (lv_sub hl [3, 4, 2, 1, 0] rfl)
  exact loop (nn + 1) 0 0 0 _ _ _ (by omega) (by omega) (rfl) (rfl) hw  (lv_sub hl [3, 4, 2, 1, 0] rfl)
set_option maxHeartbeats 4000000 in
set_option maxRecDepth 100000 in
theorem m_comes (l : Launch) (G : mG) (M : mM) (g : Nat) (L : Nat → Nat) (S : sS) (cs ar : Nat → Int64) (K : Nat → Nat → Int64) (hR : RV G g L S cs ar K M) (ne nn nc nl ht : Nat) (hN : NM S ne nn nc nl ht) (hh : ht < 1000) : Ct l yX7_comes cX7_comes 2 none (mm_r 1 0 0) G [.ref g] M (fun r M1 => r = none ∧ RV G g L (sp_comes S) cs ar K M1) := by
  refine Ct.of (by decide) (Nat.le_of_ble_eq_true rfl) ?_
  intro p e s m args below meth c ls Q X hin hl hw hQ
  have hx := X.1
  have hb := X.2.1
  have hl : lv_has ls 2 [(0, .ref g)] := hl
  obtain ⟨hN0, hN1, hN2, hN7, hN8, hN12, hN13, hN18, hN19, hN5, hN6⟩ := id hN
  have h0b : cl (S 0 0) = ne := by rw [hN0, cl_n (by omega)]
  have h7b : cl (S 7 0) = nn := by rw [hN7, cl_n (by omega)]
  have h5b : cl (S 5 0) = ht := by rw [hN5, cl_n (by omega)]
  have h5s : S 5 0 + 1 = nI (cl (S 5 0 + 1)) := by rw [hN5, nI_s, cl_n (by omega)]
  have h5t : cl (S 5 0 + 1) = ht + 1 := by rw [hN5, nI_s, cl_n (by omega)]
  have h5u : S 5 0 + 1 - 1 = nI (cl (S 5 0)) := by rw [hN5, nI_s, nI_p, cl_n (by omega)]
  refine lv_aload_n hx hb dX7_comes_0 rfl (lv_at hl 0 rfl) ?_
  refine lv_dup hx hb dX7_comes_1 rfl ?_
  refine rg_99 X hw hR dX7_comes_2 ?_
  refine lv_iconst (v := 1) hx hb dX7_comes_5 (by decide) ?_
  refine lv_iadd hx hb dX7_comes_6 ?_
  refine rp_99 X hw hR dX7_comes_7 (fun M9 H9 locs9 hw hR => ?_)
  refine lv_aload_n hx hb dX7_comes_10 rfl (lv_at hl 0 rfl) ?_
  refine rg_26 X hw hR dX7_comes_11 ?_
  refine W.eq (g2 := F0 m 14 ls [.ref (L 6)]) rfl ?_
  refine lv_aload_n hx hb dX7_comes_14 rfl (lv_at hl 0 rfl) ?_
  refine rg_99 X hw hR dX7_comes_15 ?_
  refine W.eq (g2 := F0 m 18 ls [.int ((S 5 0) + 1), .ref (L 6)]) rfl ?_
  refine lv_aload_n hx hb dX7_comes_18 rfl (lv_at hl 0 rfl) ?_
  refine rg_26 X hw hR dX7_comes_19 ?_
  refine W.eq (g2 := F0 m 22 ls [.ref (L 6), .int ((S 5 0) + 1), .ref (L 6)]) rfl ?_
  refine lv_aload_n hx hb dX7_comes_22 rfl (lv_at hl 0 rfl) ?_
  refine rg_99 X hw hR dX7_comes_23 ?_
  refine W.eq (g2 := F0 m 26 ls [.int ((S 5 0) + 1), .ref (L 6), .int ((S 5 0) + 1), .ref (L 6)]) rfl ?_
  refine lv_iconst (v := 1) hx hb dX7_comes_26 (by decide) ?_
  refine lv_isub hx hb dX7_comes_27 ?_
  refine ri_iald X hw hR 6 rfl (cl (S 5 0)) (h5u) (by omega) dX7_comes_28 ?_
  refine W.eq (g2 := F0 m 29 ls [.int (S 6 (cl (S 5 0))), .int ((S 5 0) + 1), .ref (L 6)]) rfl ?_
  refine ri_iast X hw hR 6 rfl (cl (S 5 0 + 1)) (h5s) (by omega) dX7_comes_29 (fun M9 H9 locs9 hw hR => ?_)
  have hR : RV G g L (va_up (va_up S 5 (fun _ => (S 5 0) + 1)) 6 (upd (S 6) (cl (S 5 0 + 1)) (S 6 (cl (S 5 0))))) cs ar K M9 := hR
  refine lv_iconst (v := 0) hx hb dX7_comes_30 (by decide) ?_
  refine lv_istore_n (lv' := [(1, .int 0), (0, .ref g)]) hx hb dX7_comes_31 rfl hl (by decide) rfl (fun ls hl => ?_)
  have loop1 : ∀ (n : Nat) (k : Nat) (S1 : sS) (M1 : mM) (H1 : Heap) (locs1 : List Loc) (ls1 : Array Slot), (hk : k ≤ ne) → (hn : ne + 1 ≤ k + n) → (hS : S1 = co_e S k) → (hM : NM S1 ne nn nc nl (ht + 1)) → mm_W G.1 vwCl (ct_A M s.heap.size) s.heap M1 H1 locs1 → RV G g L S1 cs ar K M1 → lv_has ls1 2 [(0, .ref g), (1, .int (nI k))] → W p l e (mm_r 1 0 0) s m args below meth c H1 locs1 0 0 Q (F0 m 32 ls1 []) := by
    intro n
    induction n with
    | zero => intro k S1 M1 H1 locs1 ls hk hn hS hM hw hR hl; exact absurd hn (by omega)
    | succ n ih =>
      intro k S1 M1 H1 locs1 ls hk hn hS hM hw hR hl
      refine lv_iload_n hx hb dX7_comes_32 rfl (lv_at hl 1 rfl) ?_
      refine lv_aload_n hx hb dX7_comes_33 rfl (lv_at hl 0 rfl) ?_
      refine rg_7 X hw hR dX7_comes_34 ?_
      refine lv_icmp_ge (tgt := 74) hx hb dX7_comes_37 (by decide) (fun c37 => ?_) (fun c37 => ?_)
      · have hk9 : k = ne := by rw [hM.1] at c37; have := nle (by omega) (by omega) c37; omega
        refine lv_iconst (v := 0) hx hb dX7_comes_74 (by decide) ?_
        refine lv_istore_n (lv' := [(1, .int 0), (0, .ref g)]) hx hb dX7_comes_75 rfl hl (by decide) rfl (fun ls hl => ?_)
        have loop2 : ∀ (n : Nat) (k : Nat) (S2 : sS) (M1 : mM) (H1 : Heap) (locs1 : List Loc) (ls1 : Array Slot), (hk : k ≤ nn) → (hn : nn + 1 ≤ k + n) → (hS2 : S2 = co_n (co_e S (cl (S 0 0))) k) → (hM : NM S2 ne nn nc nl (ht + 1)) → mm_W G.1 vwCl (ct_A M s.heap.size) s.heap M1 H1 locs1 → RV G g L S2 cs ar K M1 → lv_has ls1 2 [(0, .ref g), (1, .int (nI k))] → W p l e (mm_r 1 0 0) s m args below meth c H1 locs1 0 0 Q (F0 m 76 ls1 []) := by
          intro n
          induction n with
          | zero => intro k S2 M1 H1 locs1 ls hk hn hS2 hM hw hR hl; exact absurd hn (by omega)
          | succ n ih =>
            intro k S2 M1 H1 locs1 ls hk hn hS2 hM hw hR hl
            refine lv_iload_n hx hb dX7_comes_76 rfl (lv_at hl 1 rfl) ?_
            refine lv_aload_n hx hb dX7_comes_77 rfl (lv_at hl 0 rfl) ?_
            refine rg_86 X hw hR dX7_comes_78 ?_
            refine lv_icmp_ge (tgt := 131) hx hb dX7_comes_81 (by decide) (fun c81 => ?_) (fun c81 => ?_)
            · have hk9 : k = nn := by rw [hM.2.2.2.1] at c81; have := nle (by omega) (by omega) c81; omega
              exact mm_vret hQ X hw (⟨rfl, by rw [sp_comes, h7b, ← hk9, ← hS2]; exact hR⟩) (Nat.le_of_ble_eq_true rfl) (Nat.le_of_ble_eq_true rfl) dX7_comes_131
            · have hk9 : k < nn := by rw [hM.2.2.2.1] at c81; exact nnle (by omega) (by omega) c81
              refine lv_aload_n hx hb dX7_comes_84 rfl (lv_at hl 0 rfl) ?_
              refine rg_35 X hw hR dX7_comes_85 ?_
              refine lv_iload_n hx hb dX7_comes_88 rfl (lv_at hl 1 rfl) ?_
              refine ri_iald X hw hR 10 rfl (k) (rfl) (by omega) dX7_comes_89 ?_
              refine lv_iconst (v := (-1)) hx hb dX7_comes_90 (by decide) ?_
              refine lv_icmp_ne (tgt := 125) hx hb dX7_comes_91 (by decide) (fun c91 => ?_) (fun c91 => ?_)
              · refine lv_iinc (v := nI (k + 1)) (lv' := [(1, .int (nI (k + 1))), (0, .ref g)]) hx hb dX7_comes_125 hl (k := 1) rfl (nI_s k) (by decide) rfl (fun ls hl => ?_)
                refine lv_goto (tgt := 76) hx hb dX7_comes_128 (by decide) ?_
                exact ih (k + 1) S2 _ _ _ _ (by omega) (by omega) (by rw [co_n_s, ← hS2, if_neg (fun h9 => c91 h9.1)]) (hM) hw hR (lv_sub hl [1, 0] rfl)
              · refine lv_aload_n hx hb dX7_comes_94 rfl (lv_at hl 0 rfl) ?_
                refine rg_32 X hw hR dX7_comes_95 ?_
                refine lv_iload_n hx hb dX7_comes_98 rfl (lv_at hl 1 rfl) ?_
                refine ri_iald X hw hR 9 rfl (k) (rfl) (by omega) dX7_comes_99 ?_
                refine lv_aload_n hx hb dX7_comes_100 rfl (lv_at hl 0 rfl) ?_
                refine rg_26 X hw hR dX7_comes_101 ?_
                refine lv_aload_n hx hb dX7_comes_104 rfl (lv_at hl 0 rfl) ?_
                refine rg_99 X hw hR dX7_comes_105 ?_
                refine ri_iald X hw hR 6 rfl (cl (S2 5 0)) (by rw [hM.2.2.2.2.2.2.2.2.2.1, cl_n (by omega)]) (by rw [hM.2.2.2.2.2.2.2.2.2.1, cl_n (by omega)]; omega) dX7_comes_108 ?_
                refine lv_ishr hx hb dX7_comes_109 ?_
                refine lv_iconst (v := 1) hx hb dX7_comes_110 (by decide) ?_
                refine lv_iand hx hb dX7_comes_111 ?_
                refine lv_if_ne (tgt := 125) hx hb dX7_comes_112 (by decide) (fun c112 => ?_) (fun c112 => ?_)
                · refine lv_iinc (v := nI (k + 1)) (lv' := [(1, .int (nI (k + 1))), (0, .ref g)]) hx hb dX7_comes_125 hl (k := 1) rfl (nI_s k) (by decide) rfl (fun ls hl => ?_)
                  refine lv_goto (tgt := 76) hx hb dX7_comes_128 (by decide) ?_
                  exact ih (k + 1) S2 _ _ _ _ (by omega) (by omega) (by rw [co_n_s, ← hS2, if_neg (fun h9 => c112 h9.2)]) (hM) hw hR (lv_sub hl [1, 0] rfl)
                · refine lv_aload_n hx hb dX7_comes_115 rfl (lv_at hl 0 rfl) ?_
                  refine rg_35 X hw hR dX7_comes_116 ?_
                  refine lv_iload_n hx hb dX7_comes_119 rfl (lv_at hl 1 rfl) ?_
                  refine lv_aload_n hx hb dX7_comes_120 rfl (lv_at hl 0 rfl) ?_
                  refine rg_99 X hw hR dX7_comes_121 ?_
                  refine ri_iast X hw hR 10 rfl (k) (rfl) (by omega) dX7_comes_124 (fun M9 H9 locs9 hw hR => ?_)
                  refine lv_iinc (v := nI (k + 1)) (lv' := [(1, .int (nI (k + 1))), (0, .ref g)]) hx hb dX7_comes_125 hl (k := 1) rfl (nI_s k) (by decide) rfl (fun ls hl => ?_)
                  refine lv_goto (tgt := 76) hx hb dX7_comes_128 (by decide) ?_
                  exact ih (k + 1) _ _ _ _ _ (by omega) (by omega) (by rw [co_n_s, ← hS2, if_pos ⟨c91, c112⟩]) (hM.up _ (by decide)) hw hR (lv_sub hl [1, 0] rfl)
        exact loop2 (nn + 1) 0 S1 _ _ _ _ (by omega) (by omega) (by rw [hS, hk9, h0b]; rfl) (hM) hw hR (lv_sub hl [1, 0] rfl)
      · have hk9 : k < ne := by rw [hM.1] at c37; exact nnle (by omega) (by omega) c37
        refine lv_aload_n hx hb dX7_comes_40 rfl (lv_at hl 0 rfl) ?_
        refine rg_23 X hw hR dX7_comes_41 ?_
        refine lv_iload_n hx hb dX7_comes_44 rfl (lv_at hl 1 rfl) ?_
        refine ri_iald X hw hR 4 rfl (k) (rfl) (by omega) dX7_comes_45 ?_
        refine lv_iconst (v := 1) hx hb dX7_comes_46 (by decide) ?_
        refine lv_icmp_ne (tgt := 68) hx hb dX7_comes_47 (by decide) (fun c47 => ?_) (fun c47 => ?_)
        · refine lv_iinc (v := nI (k + 1)) (lv' := [(1, .int (nI (k + 1))), (0, .ref g)]) hx hb dX7_comes_68 hl (k := 1) rfl (nI_s k) (by decide) rfl (fun ls hl => ?_)
          refine lv_goto (tgt := 32) hx hb dX7_comes_71 (by decide) ?_
          exact ih (k + 1) S1 _ _ _ _ (by omega) (by omega) (by rw [co_e_s, ← hS, if_neg (fun h9 => c47 h9.1)]) (hM) hw hR (lv_sub hl [1, 0] rfl)
        · refine lv_aload_n hx hb dX7_comes_50 rfl (lv_at hl 0 rfl) ?_
          refine rg_20 X hw hR dX7_comes_51 ?_
          refine lv_iload_n hx hb dX7_comes_54 rfl (lv_at hl 1 rfl) ?_
          refine ri_iald X hw hR 3 rfl (k) (rfl) (by omega) dX7_comes_55 ?_
          refine lv_aload_n hx hb dX7_comes_56 rfl (lv_at hl 0 rfl) ?_
          refine rg_99 X hw hR dX7_comes_57 ?_
          refine lv_icmp_ne (tgt := 68) hx hb dX7_comes_60 (by decide) (fun c60 => ?_) (fun c60 => ?_)
          · refine lv_iinc (v := nI (k + 1)) (lv' := [(1, .int (nI (k + 1))), (0, .ref g)]) hx hb dX7_comes_68 hl (k := 1) rfl (nI_s k) (by decide) rfl (fun ls hl => ?_)
            refine lv_goto (tgt := 32) hx hb dX7_comes_71 (by decide) ?_
            exact ih (k + 1) S1 _ _ _ _ (by omega) (by omega) (by rw [co_e_s, ← hS, if_neg (fun h9 => c60 h9.2)]) (hM) hw hR (lv_sub hl [1, 0] rfl)
          · refine lv_aload_n hx hb dX7_comes_63 rfl (lv_at hl 0 rfl) ?_
            refine lv_iload_n hx hb dX7_comes_64 rfl (lv_at hl 1 rfl) ?_
            refine mm_callV (As := [.int (nI k)]) (rest := []) X hw (m_agrees l G _ g L S1 cs ar K hR ne nn nc nl (ht + 1) hM k hk9) (hR.1) rfl wd_X7_102 ⟨Nat.le_of_ble_eq_true rfl, Nat.le_of_ble_eq_true rfl⟩ ⟨Nat.le_of_ble_eq_true rfl, Nat.le_of_ble_eq_true rfl⟩ rfl rfl (Nat.le_of_ble_eq_true rfl) hl.1 dX7_comes_65 (fun v9 M9 H9 locs9 hp9 hw => ?_)
            obtain ⟨rfl, hR⟩ := hp9
            refine W.eq (g2 := F0 m 68 ls []) rfl ?_
            refine lv_iinc (v := nI (k + 1)) (lv' := [(1, .int (nI (k + 1))), (0, .ref g)]) hx hb dX7_comes_68 hl (k := 1) rfl (nI_s k) (by decide) rfl (fun ls hl => ?_)
            refine lv_goto (tgt := 32) hx hb dX7_comes_71 (by decide) ?_
            exact ih (k + 1) (sp_agrees S1 k) _ _ _ _ (by omega) (by omega) (by rw [co_e_s, ← hS, if_pos ⟨c47, c60⟩]) (hM.agrees k) hw hR (lv_sub hl [1, 0] rfl)
  exact loop1 (ne + 1) 0 _ _ _ _ _ (by omega) (by omega) (rfl) (hN.co1 hh) hw hR (lv_sub hl [1, 0] rfl)
theorem i32_le_trans {a b c : Int32} (h : a ≤ b) (h2 : b ≤ c) : a ≤ c := by
  rw [Int32.le_iff_toInt_le] at *
  omega
set_option maxHeartbeats 4000000 in
set_option maxRecDepth 100000 in
theorem m_rise (l : Launch) (G : mG) (M : mM) (g : Nat) (L : Nat → Nat) (S : sS) (cs ar : Nat → Int64) (K : Nat → Nat → Int64) (hR : RV G g L S cs ar K M) (ne nn nc nl ht : Nat) (hN : NM S ne nn nc nl ht) (x : Int32) : Ct l yX7_rise cX7_rise 3 (some FieldType.int) (mm_r 2 0 0) G [.ref g, .int x] M (fun r M1 => r = some (.int (sp_rise S x).1) ∧ ∃ K1, RV G g L (sp_rise S x).2 cs ar K1 M1) := by
  refine Ct.of (by decide) (Nat.le_of_ble_eq_true rfl) ?_
  intro p e s m args below meth c ls Q X hin hl hw hQ
  have hx := X.1
  have hb := X.2.1
  have hl : lv_has ls 3 [(0, .ref g), (1, .int x)] := hl
  obtain ⟨hN0, hN1, hN2, hN7, hN8, hN12, hN13, hN18, hN19, hN5, hN6⟩ := id hN
  refine lv_iload_n hx hb dX7_rise_0 rfl (lv_at hl 1 rfl) ?_
  refine lv_iconst (v := 1) hx hb dX7_rise_1 (by decide) ?_
  refine lv_bipush (v := 100) hx hb dX7_rise_2 (by decide) ?_
  refine mm_callS (As := [.int x, .int 1, .int 100]) (rest := []) X hw (m_in l G _ (x) (1) (100)) wd_X7_82 ⟨Nat.le_of_ble_eq_true rfl, Nat.le_of_ble_eq_true rfl⟩ ⟨Nat.le_of_ble_eq_true rfl, Nat.le_of_ble_eq_true rfl⟩ rfl rfl (Nat.le_of_ble_eq_true rfl) hl.1 dX7_rise_4 (fun v9 M9 H9 locs9 hp9 hw => ?_)
  obtain ⟨rfl, rfl⟩ := hp9
  refine W.eq (g2 := F0 m 7 ls [.int (bI (1 ≤ x ∧ x ≤ 100))]) rfl ?_
  refine mm_ifneB (tgt := 13) hx hb dX7_rise_7 (by decide) (fun c7 => ?_) (fun c7 => ?_)
  · have px : 0 ≤ x := i32_le_trans (by decide) c7.1
    have b_x : cl x ≤ 100 := cl_le (n := 100) rfl (by decide) ⟨px, c7.2⟩
    refine lv_aload_n hx hb dX7_rise_13 rfl (lv_at hl 0 rfl) ?_
    refine rg_99 X hw hR dX7_rise_14 ?_
    refine lv_iload_n hx hb dX7_rise_17 rfl (lv_at hl 1 rfl) ?_
    refine lv_iadd hx hb dX7_rise_18 ?_
    refine lv_sipush (v := 1000) hx hb dX7_rise_19 (by decide) ?_
    refine lv_icmp_le (tgt := 28) hx hb dX7_rise_22 (by decide) (fun c22 => ?_) (fun c22 => ?_)
    · have b_h : ht + cl x ≤ 1000 := by rw [hN5, nI_cl px, nI_add] at c22; exact nle (b := 1000) (by omega) (by decide) c22
      refine lv_iconst (v := 0) hx hb dX7_rise_28 (by decide) ?_
      refine lv_istore_n (lv' := [(2, .int 0), (0, .ref g), (1, .int x)]) hx hb dX7_rise_29 rfl hl (by decide) rfl (fun ls hl => ?_)
      have loop : ∀ (n : Nat) (k : Nat) (S1 : sS) (M1 : mM) (H1 : Heap) (locs1 : List Loc) (ls1 : Array Slot), (hk : k ≤ cl x) → (hn : cl x + 1 ≤ k + n) → (hS : S1 = ri_k S k) → (hM : NM S1 ne nn nc nl (ht + k)) → mm_W G.1 vwCl (ct_A M s.heap.size) s.heap M1 H1 locs1 → RV G g L S1 cs ar K M1 → lv_has ls1 3 [(0, .ref g), (1, .int x), (2, .int (nI k))] → W p l e (mm_r 2 0 0) s m args below meth c H1 locs1 0 0 Q (F0 m 30 ls1 []) := by
        intro n
        induction n with
        | zero => intro k S1 M1 H1 locs1 ls hk hn hS hM hw hR hl; exact absurd hn (by omega)
        | succ n ih =>
          intro k S1 M1 H1 locs1 ls hk hn hS hM hw hR hl
          refine lv_iload_n hx hb dX7_rise_30 rfl (lv_at hl 2 rfl) ?_
          refine lv_iload_n hx hb dX7_rise_31 rfl (lv_at hl 1 rfl) ?_
          refine lv_icmp_ge (tgt := 45) hx hb dX7_rise_32 (by decide) (fun c32 => ?_) (fun c32 => ?_)
          · have hk9 : k = cl x := by rw [nI_cl px] at c32; have := nle (by omega) (by omega) c32; omega
            refine lv_aload_n hx hb dX7_rise_45 rfl (lv_at hl 0 rfl) ?_
            refine rg_99 X hw hR dX7_rise_46 ?_
            exact mm_iret hQ X hw (by have e9 : sp_rise S x = (S1 5 0, S1) := (by rw [sp_rise, if_neg (fun h9 => h9 c7), if_neg (fun h9 => h9 c22), hS, hk9]); rw [e9]; exact ⟨rfl, _, hR⟩) (Nat.le_of_ble_eq_true rfl) (Nat.le_of_ble_eq_true rfl) dX7_rise_49
          · have hk9 : k < cl x := by rw [nI_cl px] at c32; exact nnle (by omega) (by omega) c32
            refine lv_aload_n hx hb dX7_rise_35 rfl (lv_at hl 0 rfl) ?_
            refine mm_callV (As := []) (rest := []) X hw (m_comes l G _ g L S1 cs ar K hR ne nn nc nl (ht + k) hM (by omega)) (hR.1) rfl wd_X7_106 ⟨Nat.le_of_ble_eq_true rfl, Nat.le_of_ble_eq_true rfl⟩ ⟨Nat.le_of_ble_eq_true rfl, Nat.le_of_ble_eq_true rfl⟩ rfl rfl (Nat.le_of_ble_eq_true rfl) hl.1 dX7_rise_36 (fun v9 M9 H9 locs9 hp9 hw => ?_)
            obtain ⟨rfl, hR⟩ := hp9
            refine W.eq (g2 := F0 m 39 ls []) rfl ?_
            refine lv_iinc (v := nI (k + 1)) (lv' := [(2, .int (nI (k + 1))), (0, .ref g), (1, .int x)]) hx hb dX7_rise_39 hl (k := 2) rfl (nI_s k) (by decide) rfl (fun ls hl => ?_)
            refine lv_goto (tgt := 30) hx hb dX7_rise_42 (by decide) ?_
            exact ih (k + 1) (sp_comes S1) _ _ _ _ (by omega) (by omega) (by rw [hS]; rfl) (hM.comes (by omega)) hw hR (lv_sub hl [1, 2, 0] rfl)
      exact loop (cl x + 1) 0 _ _ _ _ _ (by omega) (by omega) (rfl) (hN) hw hR (lv_sub hl [1, 2, 0] rfl)
    · refine lv_bipush (v := (-4)) hx hb dX7_rise_25 (by decide) ?_
      exact mm_iret hQ X hw (by have e9 : sp_rise S x = ((-4), S) := (by rw [sp_rise, if_neg (fun h9 => h9 c7), if_pos c22]); rw [e9]; exact ⟨rfl, _, hR⟩) (Nat.le_of_ble_eq_true rfl) (Nat.le_of_ble_eq_true rfl) dX7_rise_27
  · refine lv_bipush (v := (-2)) hx hb dX7_rise_10 (by decide) ?_
    exact mm_iret hQ X hw (by have e9 : sp_rise S x = ((-2), S) := (by rw [sp_rise, if_pos c7]); rw [e9]; exact ⟨rfl, _, hR⟩) (Nat.le_of_ble_eq_true rfl) (Nat.le_of_ble_eq_true rfl) dX7_rise_12
set_option maxHeartbeats 4000000 in
set_option maxRecDepth 100000 in
theorem m_act (l : Launch) (G : mG) (M : mM) (g : Nat) (L : Nat → Nat) (S : sS) (cs ar : Nat → Int64) (K : Nat → Nat → Int64) (hR : RV G g L S cs ar K M) (ne nn nc nl ht : Nat) (hN : NM S ne nn nc nl ht) (hW : ∀ i, i < nc → ∃ k, k ≤ 24 ∧ S 14 i = nI k) (x y v : Int32) : Ct l yX7_act cX7_act 5 (some FieldType.int) (mm_r 2 0 0) G [.ref g, .int x, .int y, .int v] M (fun r M1 => r = some (.int (sp_act S x y v).1) ∧ ∃ K1, RV G g L (sp_act S x y v).2 cs ar K1 M1) := by
  refine Ct.of (by decide) (Nat.le_of_ble_eq_true rfl) ?_
  intro p e s m args below meth c ls Q X hin hl hw hQ
  have hx := X.1
  have hb := X.2.1
  have hl : lv_has ls 5 [(0, .ref g), (1, .int x), (2, .int y), (3, .int v)] := hl
  obtain ⟨hN0, hN1, hN2, hN7, hN8, hN12, hN13, hN18, hN19, hN5, hN6⟩ := id hN
  refine lv_aload_n hx hb dX7_act_0 rfl (lv_at hl 0 rfl) ?_
  refine lv_iload_n hx hb dX7_act_1 rfl (lv_at hl 1 rfl) ?_
  refine mm_callV (As := [.int x]) (rest := []) X hw (m_isContract l G _ g L _ cs ar K hR (x) nc hN12 (by omega)) (hR.1) rfl wd_X7_109 ⟨Nat.le_of_ble_eq_true rfl, Nat.le_of_ble_eq_true rfl⟩ ⟨Nat.le_of_ble_eq_true rfl, Nat.le_of_ble_eq_true rfl⟩ rfl rfl (Nat.le_of_ble_eq_true rfl) hl.1 dX7_act_2 (fun v9 M9 H9 locs9 hp9 hw => ?_)
  obtain ⟨rfl, rfl⟩ := hp9
  refine W.eq (g2 := F0 m 5 ls [.int (bI (0 ≤ x ∧ x < S 12 0))]) rfl ?_
  refine mm_ifeqB (tgt := 38) hx hb dX7_act_5 (by decide) (fun c5 => ?_) (fun c5 => ?_)
  · refine lv_iconst (v := 0) hx hb dX7_act_38 (by decide) ?_
    refine lv_istore (lv' := [(4, .int 0), (0, .ref g), (1, .int x), (2, .int y), (3, .int v)]) hx hb dX7_act_39 hl (by decide) rfl (fun ls hl => ?_)
    refine lv_iload hx hb dX7_act_41 (lv_at hl 0 rfl) ?_
    refine lv_if_eq (tgt := 67) hx hb dX7_act_43 (by decide) (fun c43 => ?_) (fun c43 => ?_)
    · refine lv_bipush (v := (-2)) hx hb dX7_act_67 (by decide) ?_
      exact mm_iret hQ X hw (by have e9 : sp_act S x y v = ((-2), S) := (by rw [sp_act, if_pos c5]); rw [e9]; exact ⟨rfl, _, hR⟩) (Nat.le_of_ble_eq_true rfl) (Nat.le_of_ble_eq_true rfl) dX7_act_69
    · exact absurd (by decide) c43
  · have b_x : cl x < nc := cl_lt hN12 (by omega) c5
    obtain ⟨j14, hj14, e14⟩ := hW (cl x) b_x
    have p14 : 0 ≤ S 14 (cl x) := by rw [e14]; exact nI_pos' (by omega)
    have b14 : cl (S 14 (cl x)) = j14 := by rw [e14, cl_n (by omega)]
    refine lv_iload_n hx hb dX7_act_8 rfl (lv_at hl 2 rfl) ?_
    refine lv_iconst (v := 0) hx hb dX7_act_9 (by decide) ?_
    refine lv_bipush (v := 8) hx hb dX7_act_10 (by decide) ?_
    refine mm_callS (As := [.int y, .int 0, .int 8]) (rest := []) X hw (m_in l G _ (y) (0) (8)) wd_X7_82 ⟨Nat.le_of_ble_eq_true rfl, Nat.le_of_ble_eq_true rfl⟩ ⟨Nat.le_of_ble_eq_true rfl, Nat.le_of_ble_eq_true rfl⟩ rfl rfl (Nat.le_of_ble_eq_true rfl) hl.1 dX7_act_12 (fun v9 M9 H9 locs9 hp9 hw => ?_)
    obtain ⟨rfl, rfl⟩ := hp9
    refine W.eq (g2 := F0 m 15 ls [.int (bI (0 ≤ y ∧ y ≤ 8))]) rfl ?_
    refine mm_ifeqB (tgt := 38) hx hb dX7_act_15 (by decide) (fun c15 => ?_) (fun c15 => ?_)
    · refine lv_iconst (v := 0) hx hb dX7_act_38 (by decide) ?_
      refine lv_istore (lv' := [(4, .int 0), (0, .ref g), (1, .int x), (2, .int y), (3, .int v)]) hx hb dX7_act_39 hl (by decide) rfl (fun ls hl => ?_)
      refine lv_iload hx hb dX7_act_41 (lv_at hl 0 rfl) ?_
      refine lv_if_eq (tgt := 67) hx hb dX7_act_43 (by decide) (fun c43 => ?_) (fun c43 => ?_)
      · refine lv_bipush (v := (-2)) hx hb dX7_act_67 (by decide) ?_
        exact mm_iret hQ X hw (by have e9 : sp_act S x y v = ((-2), S) := (by rw [sp_act, if_neg (fun h9 => h9 c5), if_pos c15]); rw [e9]; exact ⟨rfl, _, hR⟩) (Nat.le_of_ble_eq_true rfl) (Nat.le_of_ble_eq_true rfl) dX7_act_69
      · exact absurd (by decide) c43
    · refine lv_iload_n hx hb dX7_act_18 rfl (lv_at hl 2 rfl) ?_
      refine lv_bipush (v := 6) hx hb dX7_act_19 (by decide) ?_
      refine lv_icmp_ne (tgt := 34) hx hb dX7_act_21 (by decide) (fun c21 => ?_) (fun c21 => ?_)
      · refine lv_iconst (v := 1) hx hb dX7_act_34 (by decide) ?_
        refine lv_goto (tgt := 39) hx hb dX7_act_35 (by decide) ?_
        refine lv_istore (lv' := [(4, .int 1), (0, .ref g), (1, .int x), (2, .int y), (3, .int v)]) hx hb dX7_act_39 hl (by decide) rfl (fun ls hl => ?_)
        refine lv_iload hx hb dX7_act_41 (lv_at hl 0 rfl) ?_
        refine lv_if_eq (tgt := 67) hx hb dX7_act_43 (by decide) (fun c43 => ?_) (fun c43 => ?_)
        · exact absurd c43 (by decide)
        · refine lv_iload_n hx hb dX7_act_46 rfl (lv_at hl 3 rfl) ?_
          refine lv_bipush (v := 7) hx hb dX7_act_47 (by decide) ?_
          refine lv_icmp_eq (tgt := 58) hx hb dX7_act_49 (by decide) (fun c49 => ?_) (fun c49 => ?_)
          · refine lv_iload_n hx hb dX7_act_58 rfl (lv_at hl 4 rfl) ?_
            refine lv_iconst (v := 0) hx hb dX7_act_59 (by decide) ?_
            refine lv_iconst (v := 3) hx hb dX7_act_60 (by decide) ?_
            refine mm_callS (As := [.int v, .int 0, .int 3]) (rest := []) X hw (m_in l G _ (v) (0) (3)) wd_X7_82 ⟨Nat.le_of_ble_eq_true rfl, Nat.le_of_ble_eq_true rfl⟩ ⟨Nat.le_of_ble_eq_true rfl, Nat.le_of_ble_eq_true rfl⟩ rfl rfl (Nat.le_of_ble_eq_true rfl) hl.1 dX7_act_61 (fun v9 M9 H9 locs9 hp9 hw => ?_)
            obtain ⟨rfl, rfl⟩ := hp9
            refine W.eq (g2 := F0 m 64 ls [.int (bI (0 ≤ v ∧ v ≤ 3))]) rfl ?_
            refine mm_ifneB (tgt := 70) hx hb dX7_act_64 (by decide) (fun c64 => ?_) (fun c64 => ?_)
            · refine lv_aload_n hx hb dX7_act_70 rfl (lv_at hl 1 rfl) ?_
              refine rg_42 X hw hR dX7_act_71 ?_
              refine lv_iload_n hx hb dX7_act_74 rfl (lv_at hl 2 rfl) ?_
              refine ri_iald X hw hR 13 rfl (cl x) (nI_cl c5.1) (by omega) dX7_act_75 ?_
              refine lv_iconst (v := (-1)) hx hb dX7_act_76 (by decide) ?_
              refine lv_icmp_eq (tgt := 83) hx hb dX7_act_77 (by decide) (fun c77 => ?_) (fun c77 => ?_)
              · refine lv_aload_n hx hb dX7_act_83 rfl (lv_at hl 1 rfl) ?_
                refine rg_45 X hw hR dX7_act_84 ?_
                refine lv_iload_n hx hb dX7_act_87 rfl (lv_at hl 2 rfl) ?_
                refine ri_iald X hw hR 14 rfl (cl x) (nI_cl c5.1) (by omega) dX7_act_88 ?_
                refine lv_bipush (v := 24) hx hb dX7_act_89 (by decide) ?_
                refine lv_icmp_ne (tgt := 97) hx hb dX7_act_91 (by decide) (fun c91 => ?_) (fun c91 => ?_)
                · have q14 : j14 ≠ 24 := fun h9 => c91 (by rw [e14, h9]; rfl)
                  refine lv_aload_n hx hb dX7_act_97 rfl (lv_at hl 1 rfl) ?_
                  refine rg_48 X hw hR dX7_act_98 ?_
                  refine lv_bipush (v := 24) hx hb dX7_act_101 (by decide) ?_
                  refine lv_iload_n hx hb dX7_act_103 rfl (lv_at hl 2 rfl) ?_
                  refine lv_imul hx hb dX7_act_104 ?_
                  refine lv_aload_n hx hb dX7_act_105 rfl (lv_at hl 1 rfl) ?_
                  refine rg_45 X hw hR dX7_act_106 ?_
                  refine lv_iload_n hx hb dX7_act_109 rfl (lv_at hl 2 rfl) ?_
                  refine ri_iald X hw hR 14 rfl (cl x) (nI_cl c5.1) (by omega) dX7_act_110 ?_
                  refine lv_iadd hx hb dX7_act_111 ?_
                  refine lv_iload_n hx hb dX7_act_112 rfl (lv_at hl 3 rfl) ?_
                  refine ri_iast X hw hR 15 rfl (24 * cl x + cl (S 14 (cl x))) (jx 24 c5.1 p14) (by omega) dX7_act_113 (fun M9 H9 locs9 hw hR => ?_)
                  refine lv_aload_n hx hb dX7_act_114 rfl (lv_at hl 1 rfl) ?_
                  refine rg_51 X hw hR dX7_act_115 ?_
                  refine W.eq (g2 := F0 m 118 ls [.ref (L 16)]) rfl ?_
                  refine lv_bipush (v := 24) hx hb dX7_act_118 (by decide) ?_
                  refine lv_iload_n hx hb dX7_act_120 rfl (lv_at hl 2 rfl) ?_
                  refine lv_imul hx hb dX7_act_121 ?_
                  refine lv_aload_n hx hb dX7_act_122 rfl (lv_at hl 1 rfl) ?_
                  refine rg_45 X hw hR dX7_act_123 ?_
                  refine W.eq (g2 := F0 m 126 ls [.ref (L 14), .int (24 * x), .ref (L 16)]) rfl ?_
                  refine lv_iload_n hx hb dX7_act_126 rfl (lv_at hl 2 rfl) ?_
                  refine ri_iald X hw hR 14 rfl (cl x) (nI_cl c5.1) (by omega) dX7_act_127 ?_
                  refine W.eq (g2 := F0 m 128 ls [.int (S 14 (cl x)), .int (24 * x), .ref (L 16)]) rfl ?_
                  refine lv_iadd hx hb dX7_act_128 ?_
                  refine lv_iload_n hx hb dX7_act_129 rfl (lv_at hl 4 rfl) ?_
                  refine ri_iast X hw hR 16 rfl (24 * cl x + cl (S 14 (cl x))) (jx 24 c5.1 p14) (by omega) dX7_act_130 (fun M9 H9 locs9 hw hR => ?_)
                  have hR : RV G g L (va_up (va_up S 15 (upd (S 15) (24 * cl x + cl (S 14 (cl x))) (y))) 16 (upd (S 16) (24 * cl x + cl (S 14 (cl x))) (v))) cs ar K M9 := hR
                  refine lv_aload_n hx hb dX7_act_131 rfl (lv_at hl 1 rfl) ?_
                  refine rg_45 X hw hR dX7_act_132 ?_
                  refine W.eq (g2 := F0 m 135 ls [.ref (L 14)]) rfl ?_
                  refine lv_iload_n hx hb dX7_act_135 rfl (lv_at hl 2 rfl) ?_
                  refine lv_dup2_11 hx hb dX7_act_136 rfl rfl ?_
                  refine ri_iald X hw hR 14 rfl (cl x) (nI_cl c5.1) (by omega) dX7_act_137 ?_
                  refine W.eq (g2 := F0 m 138 ls [.int (S 14 (cl x)), .int x, .ref (L 14)]) rfl ?_
                  refine lv_iconst (v := 1) hx hb dX7_act_138 (by decide) ?_
                  refine lv_iadd hx hb dX7_act_139 ?_
                  refine ri_iast X hw hR 14 rfl (cl x) (nI_cl c5.1) (by omega) dX7_act_140 (fun M9 H9 locs9 hw hR => ?_)
                  have hR : RV G g L (va_up (va_up (va_up S 15 (upd (S 15) (24 * cl x + cl (S 14 (cl x))) (y))) 16 (upd (S 16) (24 * cl x + cl (S 14 (cl x))) (v))) 14 (upd (S 14) (cl x) ((S 14 (cl x)) + 1))) cs ar K M9 := hR
                  refine lv_aload_n hx hb dX7_act_141 rfl (lv_at hl 1 rfl) ?_
                  refine rg_45 X hw hR dX7_act_142 ?_
                  refine W.eq (g2 := F0 m 145 ls [.ref (L 14)]) rfl ?_
                  refine lv_iload_n hx hb dX7_act_145 rfl (lv_at hl 2 rfl) ?_
                  refine ri_iald X hw hR 14 rfl (cl x) (nI_cl c5.1) (by omega) dX7_act_146 ?_
                  refine W.eq (g2 := F0 m 147 ls [.int ((upd (S 14) (cl x) ((S 14 (cl x)) + 1)) (cl x))]) rfl ?_
                  exact mm_iret hQ X hw (by have e9 : sp_act S x y v = (S 14 (cl x) + 1, va_up (va_up (va_up S 15 (upd (S 15) (24 * cl x + cl (S 14 (cl x))) (y))) 16 (upd (S 16) (24 * cl x + cl (S 14 (cl x))) (v))) 14 (upd (S 14) (cl x) ((S 14 (cl x)) + 1))) := (by rw [sp_act, if_neg (fun h9 => h9 c5), if_neg (fun h9 => h9 c15), if_neg (fun h9 => h9 (fun z => absurd z c21)), if_neg (fun h9 => h9 (fun _ => c64)), if_neg (fun h9 => h9 c77), if_neg c91]); rw [e9]; exact ⟨by rw [pk_us], _, hR⟩) (Nat.le_of_ble_eq_true rfl) (Nat.le_of_ble_eq_true rfl) dX7_act_147
                · refine lv_bipush (v := (-4)) hx hb dX7_act_94 (by decide) ?_
                  exact mm_iret hQ X hw (by have e9 : sp_act S x y v = ((-4), S) := (by rw [sp_act, if_neg (fun h9 => h9 c5), if_neg (fun h9 => h9 c15), if_neg (fun h9 => h9 (fun z => absurd z c21)), if_neg (fun h9 => h9 (fun _ => c64)), if_neg (fun h9 => h9 c77), if_pos c91]); rw [e9]; exact ⟨rfl, _, hR⟩) (Nat.le_of_ble_eq_true rfl) (Nat.le_of_ble_eq_true rfl) dX7_act_96
              · refine lv_bipush (v := (-3)) hx hb dX7_act_80 (by decide) ?_
                exact mm_iret hQ X hw (by have e9 : sp_act S x y v = ((-3), S) := (by rw [sp_act, if_neg (fun h9 => h9 c5), if_neg (fun h9 => h9 c15), if_neg (fun h9 => h9 (fun z => absurd z c21)), if_neg (fun h9 => h9 (fun _ => c64)), if_pos c77]); rw [e9]; exact ⟨rfl, _, hR⟩) (Nat.le_of_ble_eq_true rfl) (Nat.le_of_ble_eq_true rfl) dX7_act_82
            · refine lv_bipush (v := (-2)) hx hb dX7_act_67 (by decide) ?_
              exact mm_iret hQ X hw (by have e9 : sp_act S x y v = ((-2), S) := (by rw [sp_act, if_neg (fun h9 => h9 c5), if_neg (fun h9 => h9 c15), if_neg (fun h9 => h9 (fun z => absurd z c21)), if_pos (fun h9 => c64 (h9 (Or.inl c49)))]); rw [e9]; exact ⟨rfl, _, hR⟩) (Nat.le_of_ble_eq_true rfl) (Nat.le_of_ble_eq_true rfl) dX7_act_69
          · refine lv_iload_n hx hb dX7_act_52 rfl (lv_at hl 3 rfl) ?_
            refine lv_bipush (v := 8) hx hb dX7_act_53 (by decide) ?_
            refine lv_icmp_ne (tgt := 70) hx hb dX7_act_55 (by decide) (fun c55 => ?_) (fun c55 => ?_)
            · refine lv_aload_n hx hb dX7_act_70 rfl (lv_at hl 1 rfl) ?_
              refine rg_42 X hw hR dX7_act_71 ?_
              refine lv_iload_n hx hb dX7_act_74 rfl (lv_at hl 2 rfl) ?_
              refine ri_iald X hw hR 13 rfl (cl x) (nI_cl c5.1) (by omega) dX7_act_75 ?_
              refine lv_iconst (v := (-1)) hx hb dX7_act_76 (by decide) ?_
              refine lv_icmp_eq (tgt := 83) hx hb dX7_act_77 (by decide) (fun c77 => ?_) (fun c77 => ?_)
              · refine lv_aload_n hx hb dX7_act_83 rfl (lv_at hl 1 rfl) ?_
                refine rg_45 X hw hR dX7_act_84 ?_
                refine lv_iload_n hx hb dX7_act_87 rfl (lv_at hl 2 rfl) ?_
                refine ri_iald X hw hR 14 rfl (cl x) (nI_cl c5.1) (by omega) dX7_act_88 ?_
                refine lv_bipush (v := 24) hx hb dX7_act_89 (by decide) ?_
                refine lv_icmp_ne (tgt := 97) hx hb dX7_act_91 (by decide) (fun c91 => ?_) (fun c91 => ?_)
                · have q14 : j14 ≠ 24 := fun h9 => c91 (by rw [e14, h9]; rfl)
                  refine lv_aload_n hx hb dX7_act_97 rfl (lv_at hl 1 rfl) ?_
                  refine rg_48 X hw hR dX7_act_98 ?_
                  refine lv_bipush (v := 24) hx hb dX7_act_101 (by decide) ?_
                  refine lv_iload_n hx hb dX7_act_103 rfl (lv_at hl 2 rfl) ?_
                  refine lv_imul hx hb dX7_act_104 ?_
                  refine lv_aload_n hx hb dX7_act_105 rfl (lv_at hl 1 rfl) ?_
                  refine rg_45 X hw hR dX7_act_106 ?_
                  refine lv_iload_n hx hb dX7_act_109 rfl (lv_at hl 2 rfl) ?_
                  refine ri_iald X hw hR 14 rfl (cl x) (nI_cl c5.1) (by omega) dX7_act_110 ?_
                  refine lv_iadd hx hb dX7_act_111 ?_
                  refine lv_iload_n hx hb dX7_act_112 rfl (lv_at hl 3 rfl) ?_
                  refine ri_iast X hw hR 15 rfl (24 * cl x + cl (S 14 (cl x))) (jx 24 c5.1 p14) (by omega) dX7_act_113 (fun M9 H9 locs9 hw hR => ?_)
                  refine lv_aload_n hx hb dX7_act_114 rfl (lv_at hl 1 rfl) ?_
                  refine rg_51 X hw hR dX7_act_115 ?_
                  refine W.eq (g2 := F0 m 118 ls [.ref (L 16)]) rfl ?_
                  refine lv_bipush (v := 24) hx hb dX7_act_118 (by decide) ?_
                  refine lv_iload_n hx hb dX7_act_120 rfl (lv_at hl 2 rfl) ?_
                  refine lv_imul hx hb dX7_act_121 ?_
                  refine lv_aload_n hx hb dX7_act_122 rfl (lv_at hl 1 rfl) ?_
                  refine rg_45 X hw hR dX7_act_123 ?_
                  refine W.eq (g2 := F0 m 126 ls [.ref (L 14), .int (24 * x), .ref (L 16)]) rfl ?_
                  refine lv_iload_n hx hb dX7_act_126 rfl (lv_at hl 2 rfl) ?_
                  refine ri_iald X hw hR 14 rfl (cl x) (nI_cl c5.1) (by omega) dX7_act_127 ?_
                  refine W.eq (g2 := F0 m 128 ls [.int (S 14 (cl x)), .int (24 * x), .ref (L 16)]) rfl ?_
                  refine lv_iadd hx hb dX7_act_128 ?_
                  refine lv_iload_n hx hb dX7_act_129 rfl (lv_at hl 4 rfl) ?_
                  refine ri_iast X hw hR 16 rfl (24 * cl x + cl (S 14 (cl x))) (jx 24 c5.1 p14) (by omega) dX7_act_130 (fun M9 H9 locs9 hw hR => ?_)
                  have hR : RV G g L (va_up (va_up S 15 (upd (S 15) (24 * cl x + cl (S 14 (cl x))) (y))) 16 (upd (S 16) (24 * cl x + cl (S 14 (cl x))) (v))) cs ar K M9 := hR
                  refine lv_aload_n hx hb dX7_act_131 rfl (lv_at hl 1 rfl) ?_
                  refine rg_45 X hw hR dX7_act_132 ?_
                  refine W.eq (g2 := F0 m 135 ls [.ref (L 14)]) rfl ?_
                  refine lv_iload_n hx hb dX7_act_135 rfl (lv_at hl 2 rfl) ?_
                  refine lv_dup2_11 hx hb dX7_act_136 rfl rfl ?_
                  refine ri_iald X hw hR 14 rfl (cl x) (nI_cl c5.1) (by omega) dX7_act_137 ?_
                  refine W.eq (g2 := F0 m 138 ls [.int (S 14 (cl x)), .int x, .ref (L 14)]) rfl ?_
                  refine lv_iconst (v := 1) hx hb dX7_act_138 (by decide) ?_
                  refine lv_iadd hx hb dX7_act_139 ?_
                  refine ri_iast X hw hR 14 rfl (cl x) (nI_cl c5.1) (by omega) dX7_act_140 (fun M9 H9 locs9 hw hR => ?_)
                  have hR : RV G g L (va_up (va_up (va_up S 15 (upd (S 15) (24 * cl x + cl (S 14 (cl x))) (y))) 16 (upd (S 16) (24 * cl x + cl (S 14 (cl x))) (v))) 14 (upd (S 14) (cl x) ((S 14 (cl x)) + 1))) cs ar K M9 := hR
                  refine lv_aload_n hx hb dX7_act_141 rfl (lv_at hl 1 rfl) ?_
                  refine rg_45 X hw hR dX7_act_142 ?_
                  refine W.eq (g2 := F0 m 145 ls [.ref (L 14)]) rfl ?_
                  refine lv_iload_n hx hb dX7_act_145 rfl (lv_at hl 2 rfl) ?_
                  refine ri_iald X hw hR 14 rfl (cl x) (nI_cl c5.1) (by omega) dX7_act_146 ?_
                  refine W.eq (g2 := F0 m 147 ls [.int ((upd (S 14) (cl x) ((S 14 (cl x)) + 1)) (cl x))]) rfl ?_
                  exact mm_iret hQ X hw (by have e9 : sp_act S x y v = (S 14 (cl x) + 1, va_up (va_up (va_up S 15 (upd (S 15) (24 * cl x + cl (S 14 (cl x))) (y))) 16 (upd (S 16) (24 * cl x + cl (S 14 (cl x))) (v))) 14 (upd (S 14) (cl x) ((S 14 (cl x)) + 1))) := (by rw [sp_act, if_neg (fun h9 => h9 c5), if_neg (fun h9 => h9 c15), if_neg (fun h9 => h9 (fun z => absurd z c21)), if_neg (fun h9 => h9 (fun z => (show False from z.elim c49 c55).elim)), if_neg (fun h9 => h9 c77), if_neg c91]); rw [e9]; exact ⟨by rw [pk_us], _, hR⟩) (Nat.le_of_ble_eq_true rfl) (Nat.le_of_ble_eq_true rfl) dX7_act_147
                · refine lv_bipush (v := (-4)) hx hb dX7_act_94 (by decide) ?_
                  exact mm_iret hQ X hw (by have e9 : sp_act S x y v = ((-4), S) := (by rw [sp_act, if_neg (fun h9 => h9 c5), if_neg (fun h9 => h9 c15), if_neg (fun h9 => h9 (fun z => absurd z c21)), if_neg (fun h9 => h9 (fun z => (show False from z.elim c49 c55).elim)), if_neg (fun h9 => h9 c77), if_pos c91]); rw [e9]; exact ⟨rfl, _, hR⟩) (Nat.le_of_ble_eq_true rfl) (Nat.le_of_ble_eq_true rfl) dX7_act_96
              · refine lv_bipush (v := (-3)) hx hb dX7_act_80 (by decide) ?_
                exact mm_iret hQ X hw (by have e9 : sp_act S x y v = ((-3), S) := (by rw [sp_act, if_neg (fun h9 => h9 c5), if_neg (fun h9 => h9 c15), if_neg (fun h9 => h9 (fun z => absurd z c21)), if_neg (fun h9 => h9 (fun z => (show False from z.elim c49 c55).elim)), if_pos c77]); rw [e9]; exact ⟨rfl, _, hR⟩) (Nat.le_of_ble_eq_true rfl) (Nat.le_of_ble_eq_true rfl) dX7_act_82
            · refine lv_iload_n hx hb dX7_act_58 rfl (lv_at hl 4 rfl) ?_
              refine lv_iconst (v := 0) hx hb dX7_act_59 (by decide) ?_
              refine lv_iconst (v := 3) hx hb dX7_act_60 (by decide) ?_
              refine mm_callS (As := [.int v, .int 0, .int 3]) (rest := []) X hw (m_in l G _ (v) (0) (3)) wd_X7_82 ⟨Nat.le_of_ble_eq_true rfl, Nat.le_of_ble_eq_true rfl⟩ ⟨Nat.le_of_ble_eq_true rfl, Nat.le_of_ble_eq_true rfl⟩ rfl rfl (Nat.le_of_ble_eq_true rfl) hl.1 dX7_act_61 (fun v9 M9 H9 locs9 hp9 hw => ?_)
              obtain ⟨rfl, rfl⟩ := hp9
              refine W.eq (g2 := F0 m 64 ls [.int (bI (0 ≤ v ∧ v ≤ 3))]) rfl ?_
              refine mm_ifneB (tgt := 70) hx hb dX7_act_64 (by decide) (fun c64 => ?_) (fun c64 => ?_)
              · refine lv_aload_n hx hb dX7_act_70 rfl (lv_at hl 1 rfl) ?_
                refine rg_42 X hw hR dX7_act_71 ?_
                refine lv_iload_n hx hb dX7_act_74 rfl (lv_at hl 2 rfl) ?_
                refine ri_iald X hw hR 13 rfl (cl x) (nI_cl c5.1) (by omega) dX7_act_75 ?_
                refine lv_iconst (v := (-1)) hx hb dX7_act_76 (by decide) ?_
                refine lv_icmp_eq (tgt := 83) hx hb dX7_act_77 (by decide) (fun c77 => ?_) (fun c77 => ?_)
                · refine lv_aload_n hx hb dX7_act_83 rfl (lv_at hl 1 rfl) ?_
                  refine rg_45 X hw hR dX7_act_84 ?_
                  refine lv_iload_n hx hb dX7_act_87 rfl (lv_at hl 2 rfl) ?_
                  refine ri_iald X hw hR 14 rfl (cl x) (nI_cl c5.1) (by omega) dX7_act_88 ?_
                  refine lv_bipush (v := 24) hx hb dX7_act_89 (by decide) ?_
                  refine lv_icmp_ne (tgt := 97) hx hb dX7_act_91 (by decide) (fun c91 => ?_) (fun c91 => ?_)
                  · have q14 : j14 ≠ 24 := fun h9 => c91 (by rw [e14, h9]; rfl)
                    refine lv_aload_n hx hb dX7_act_97 rfl (lv_at hl 1 rfl) ?_
                    refine rg_48 X hw hR dX7_act_98 ?_
                    refine lv_bipush (v := 24) hx hb dX7_act_101 (by decide) ?_
                    refine lv_iload_n hx hb dX7_act_103 rfl (lv_at hl 2 rfl) ?_
                    refine lv_imul hx hb dX7_act_104 ?_
                    refine lv_aload_n hx hb dX7_act_105 rfl (lv_at hl 1 rfl) ?_
                    refine rg_45 X hw hR dX7_act_106 ?_
                    refine lv_iload_n hx hb dX7_act_109 rfl (lv_at hl 2 rfl) ?_
                    refine ri_iald X hw hR 14 rfl (cl x) (nI_cl c5.1) (by omega) dX7_act_110 ?_
                    refine lv_iadd hx hb dX7_act_111 ?_
                    refine lv_iload_n hx hb dX7_act_112 rfl (lv_at hl 3 rfl) ?_
                    refine ri_iast X hw hR 15 rfl (24 * cl x + cl (S 14 (cl x))) (jx 24 c5.1 p14) (by omega) dX7_act_113 (fun M9 H9 locs9 hw hR => ?_)
                    refine lv_aload_n hx hb dX7_act_114 rfl (lv_at hl 1 rfl) ?_
                    refine rg_51 X hw hR dX7_act_115 ?_
                    refine W.eq (g2 := F0 m 118 ls [.ref (L 16)]) rfl ?_
                    refine lv_bipush (v := 24) hx hb dX7_act_118 (by decide) ?_
                    refine lv_iload_n hx hb dX7_act_120 rfl (lv_at hl 2 rfl) ?_
                    refine lv_imul hx hb dX7_act_121 ?_
                    refine lv_aload_n hx hb dX7_act_122 rfl (lv_at hl 1 rfl) ?_
                    refine rg_45 X hw hR dX7_act_123 ?_
                    refine W.eq (g2 := F0 m 126 ls [.ref (L 14), .int (24 * x), .ref (L 16)]) rfl ?_
                    refine lv_iload_n hx hb dX7_act_126 rfl (lv_at hl 2 rfl) ?_
                    refine ri_iald X hw hR 14 rfl (cl x) (nI_cl c5.1) (by omega) dX7_act_127 ?_
                    refine W.eq (g2 := F0 m 128 ls [.int (S 14 (cl x)), .int (24 * x), .ref (L 16)]) rfl ?_
                    refine lv_iadd hx hb dX7_act_128 ?_
                    refine lv_iload_n hx hb dX7_act_129 rfl (lv_at hl 4 rfl) ?_
                    refine ri_iast X hw hR 16 rfl (24 * cl x + cl (S 14 (cl x))) (jx 24 c5.1 p14) (by omega) dX7_act_130 (fun M9 H9 locs9 hw hR => ?_)
                    have hR : RV G g L (va_up (va_up S 15 (upd (S 15) (24 * cl x + cl (S 14 (cl x))) (y))) 16 (upd (S 16) (24 * cl x + cl (S 14 (cl x))) (v))) cs ar K M9 := hR
                    refine lv_aload_n hx hb dX7_act_131 rfl (lv_at hl 1 rfl) ?_
                    refine rg_45 X hw hR dX7_act_132 ?_
                    refine W.eq (g2 := F0 m 135 ls [.ref (L 14)]) rfl ?_
                    refine lv_iload_n hx hb dX7_act_135 rfl (lv_at hl 2 rfl) ?_
                    refine lv_dup2_11 hx hb dX7_act_136 rfl rfl ?_
                    refine ri_iald X hw hR 14 rfl (cl x) (nI_cl c5.1) (by omega) dX7_act_137 ?_
                    refine W.eq (g2 := F0 m 138 ls [.int (S 14 (cl x)), .int x, .ref (L 14)]) rfl ?_
                    refine lv_iconst (v := 1) hx hb dX7_act_138 (by decide) ?_
                    refine lv_iadd hx hb dX7_act_139 ?_
                    refine ri_iast X hw hR 14 rfl (cl x) (nI_cl c5.1) (by omega) dX7_act_140 (fun M9 H9 locs9 hw hR => ?_)
                    have hR : RV G g L (va_up (va_up (va_up S 15 (upd (S 15) (24 * cl x + cl (S 14 (cl x))) (y))) 16 (upd (S 16) (24 * cl x + cl (S 14 (cl x))) (v))) 14 (upd (S 14) (cl x) ((S 14 (cl x)) + 1))) cs ar K M9 := hR
                    refine lv_aload_n hx hb dX7_act_141 rfl (lv_at hl 1 rfl) ?_
                    refine rg_45 X hw hR dX7_act_142 ?_
                    refine W.eq (g2 := F0 m 145 ls [.ref (L 14)]) rfl ?_
                    refine lv_iload_n hx hb dX7_act_145 rfl (lv_at hl 2 rfl) ?_
                    refine ri_iald X hw hR 14 rfl (cl x) (nI_cl c5.1) (by omega) dX7_act_146 ?_
                    refine W.eq (g2 := F0 m 147 ls [.int ((upd (S 14) (cl x) ((S 14 (cl x)) + 1)) (cl x))]) rfl ?_
                    exact mm_iret hQ X hw (by have e9 : sp_act S x y v = (S 14 (cl x) + 1, va_up (va_up (va_up S 15 (upd (S 15) (24 * cl x + cl (S 14 (cl x))) (y))) 16 (upd (S 16) (24 * cl x + cl (S 14 (cl x))) (v))) 14 (upd (S 14) (cl x) ((S 14 (cl x)) + 1))) := (by rw [sp_act, if_neg (fun h9 => h9 c5), if_neg (fun h9 => h9 c15), if_neg (fun h9 => h9 (fun z => absurd z c21)), if_neg (fun h9 => h9 (fun _ => c64)), if_neg (fun h9 => h9 c77), if_neg c91]); rw [e9]; exact ⟨by rw [pk_us], _, hR⟩) (Nat.le_of_ble_eq_true rfl) (Nat.le_of_ble_eq_true rfl) dX7_act_147
                  · refine lv_bipush (v := (-4)) hx hb dX7_act_94 (by decide) ?_
                    exact mm_iret hQ X hw (by have e9 : sp_act S x y v = ((-4), S) := (by rw [sp_act, if_neg (fun h9 => h9 c5), if_neg (fun h9 => h9 c15), if_neg (fun h9 => h9 (fun z => absurd z c21)), if_neg (fun h9 => h9 (fun _ => c64)), if_neg (fun h9 => h9 c77), if_pos c91]); rw [e9]; exact ⟨rfl, _, hR⟩) (Nat.le_of_ble_eq_true rfl) (Nat.le_of_ble_eq_true rfl) dX7_act_96
                · refine lv_bipush (v := (-3)) hx hb dX7_act_80 (by decide) ?_
                  exact mm_iret hQ X hw (by have e9 : sp_act S x y v = ((-3), S) := (by rw [sp_act, if_neg (fun h9 => h9 c5), if_neg (fun h9 => h9 c15), if_neg (fun h9 => h9 (fun z => absurd z c21)), if_neg (fun h9 => h9 (fun _ => c64)), if_pos c77]); rw [e9]; exact ⟨rfl, _, hR⟩) (Nat.le_of_ble_eq_true rfl) (Nat.le_of_ble_eq_true rfl) dX7_act_82
              · refine lv_bipush (v := (-2)) hx hb dX7_act_67 (by decide) ?_
                exact mm_iret hQ X hw (by have e9 : sp_act S x y v = ((-2), S) := (by rw [sp_act, if_neg (fun h9 => h9 c5), if_neg (fun h9 => h9 c15), if_neg (fun h9 => h9 (fun z => absurd z c21)), if_pos (fun h9 => c64 (h9 (Or.inr c55)))]); rw [e9]; exact ⟨rfl, _, hR⟩) (Nat.le_of_ble_eq_true rfl) (Nat.le_of_ble_eq_true rfl) dX7_act_69
      · refine lv_iload_n hx hb dX7_act_24 rfl (lv_at hl 3 rfl) ?_
        refine lv_iconst (v := 0) hx hb dX7_act_25 (by decide) ?_
        refine lv_bipush (v := 7) hx hb dX7_act_26 (by decide) ?_
        refine mm_callS (As := [.int v, .int 0, .int 7]) (rest := []) X hw (m_in l G _ (v) (0) (7)) wd_X7_82 ⟨Nat.le_of_ble_eq_true rfl, Nat.le_of_ble_eq_true rfl⟩ ⟨Nat.le_of_ble_eq_true rfl, Nat.le_of_ble_eq_true rfl⟩ rfl rfl (Nat.le_of_ble_eq_true rfl) hl.1 dX7_act_28 (fun v9 M9 H9 locs9 hp9 hw => ?_)
        obtain ⟨rfl, rfl⟩ := hp9
        refine W.eq (g2 := F0 m 31 ls [.int (bI (0 ≤ v ∧ v ≤ 7))]) rfl ?_
        refine mm_ifeqB (tgt := 38) hx hb dX7_act_31 (by decide) (fun c31 => ?_) (fun c31 => ?_)
        · refine lv_iconst (v := 0) hx hb dX7_act_38 (by decide) ?_
          refine lv_istore (lv' := [(4, .int 0), (0, .ref g), (1, .int x), (2, .int y), (3, .int v)]) hx hb dX7_act_39 hl (by decide) rfl (fun ls hl => ?_)
          refine lv_iload hx hb dX7_act_41 (lv_at hl 0 rfl) ?_
          refine lv_if_eq (tgt := 67) hx hb dX7_act_43 (by decide) (fun c43 => ?_) (fun c43 => ?_)
          · refine lv_bipush (v := (-2)) hx hb dX7_act_67 (by decide) ?_
            exact mm_iret hQ X hw (by have e9 : sp_act S x y v = ((-2), S) := (by rw [sp_act, if_neg (fun h9 => h9 c5), if_neg (fun h9 => h9 c15), if_pos (fun h9 => c31 (h9 c21))]); rw [e9]; exact ⟨rfl, _, hR⟩) (Nat.le_of_ble_eq_true rfl) (Nat.le_of_ble_eq_true rfl) dX7_act_69
          · exact absurd (by decide) c43
        · refine lv_iconst (v := 1) hx hb dX7_act_34 (by decide) ?_
          refine lv_goto (tgt := 39) hx hb dX7_act_35 (by decide) ?_
          refine lv_istore (lv' := [(4, .int 1), (0, .ref g), (1, .int x), (2, .int y), (3, .int v)]) hx hb dX7_act_39 hl (by decide) rfl (fun ls hl => ?_)
          refine lv_iload hx hb dX7_act_41 (lv_at hl 0 rfl) ?_
          refine lv_if_eq (tgt := 67) hx hb dX7_act_43 (by decide) (fun c43 => ?_) (fun c43 => ?_)
          · exact absurd c43 (by decide)
          · refine lv_iload_n hx hb dX7_act_46 rfl (lv_at hl 3 rfl) ?_
            refine lv_bipush (v := 7) hx hb dX7_act_47 (by decide) ?_
            refine lv_icmp_eq (tgt := 58) hx hb dX7_act_49 (by decide) (fun c49 => ?_) (fun c49 => ?_)
            · refine lv_iload_n hx hb dX7_act_58 rfl (lv_at hl 4 rfl) ?_
              refine lv_iconst (v := 0) hx hb dX7_act_59 (by decide) ?_
              refine lv_iconst (v := 3) hx hb dX7_act_60 (by decide) ?_
              refine mm_callS (As := [.int v, .int 0, .int 3]) (rest := []) X hw (m_in l G _ (v) (0) (3)) wd_X7_82 ⟨Nat.le_of_ble_eq_true rfl, Nat.le_of_ble_eq_true rfl⟩ ⟨Nat.le_of_ble_eq_true rfl, Nat.le_of_ble_eq_true rfl⟩ rfl rfl (Nat.le_of_ble_eq_true rfl) hl.1 dX7_act_61 (fun v9 M9 H9 locs9 hp9 hw => ?_)
              obtain ⟨rfl, rfl⟩ := hp9
              refine W.eq (g2 := F0 m 64 ls [.int (bI (0 ≤ v ∧ v ≤ 3))]) rfl ?_
              refine mm_ifneB (tgt := 70) hx hb dX7_act_64 (by decide) (fun c64 => ?_) (fun c64 => ?_)
              · refine lv_aload_n hx hb dX7_act_70 rfl (lv_at hl 1 rfl) ?_
                refine rg_42 X hw hR dX7_act_71 ?_
                refine lv_iload_n hx hb dX7_act_74 rfl (lv_at hl 2 rfl) ?_
                refine ri_iald X hw hR 13 rfl (cl x) (nI_cl c5.1) (by omega) dX7_act_75 ?_
                refine lv_iconst (v := (-1)) hx hb dX7_act_76 (by decide) ?_
                refine lv_icmp_eq (tgt := 83) hx hb dX7_act_77 (by decide) (fun c77 => ?_) (fun c77 => ?_)
                · refine lv_aload_n hx hb dX7_act_83 rfl (lv_at hl 1 rfl) ?_
                  refine rg_45 X hw hR dX7_act_84 ?_
                  refine lv_iload_n hx hb dX7_act_87 rfl (lv_at hl 2 rfl) ?_
                  refine ri_iald X hw hR 14 rfl (cl x) (nI_cl c5.1) (by omega) dX7_act_88 ?_
                  refine lv_bipush (v := 24) hx hb dX7_act_89 (by decide) ?_
                  refine lv_icmp_ne (tgt := 97) hx hb dX7_act_91 (by decide) (fun c91 => ?_) (fun c91 => ?_)
                  · have q14 : j14 ≠ 24 := fun h9 => c91 (by rw [e14, h9]; rfl)
                    refine lv_aload_n hx hb dX7_act_97 rfl (lv_at hl 1 rfl) ?_
                    refine rg_48 X hw hR dX7_act_98 ?_
                    refine lv_bipush (v := 24) hx hb dX7_act_101 (by decide) ?_
                    refine lv_iload_n hx hb dX7_act_103 rfl (lv_at hl 2 rfl) ?_
                    refine lv_imul hx hb dX7_act_104 ?_
                    refine lv_aload_n hx hb dX7_act_105 rfl (lv_at hl 1 rfl) ?_
                    refine rg_45 X hw hR dX7_act_106 ?_
                    refine lv_iload_n hx hb dX7_act_109 rfl (lv_at hl 2 rfl) ?_
                    refine ri_iald X hw hR 14 rfl (cl x) (nI_cl c5.1) (by omega) dX7_act_110 ?_
                    refine lv_iadd hx hb dX7_act_111 ?_
                    refine lv_iload_n hx hb dX7_act_112 rfl (lv_at hl 3 rfl) ?_
                    refine ri_iast X hw hR 15 rfl (24 * cl x + cl (S 14 (cl x))) (jx 24 c5.1 p14) (by omega) dX7_act_113 (fun M9 H9 locs9 hw hR => ?_)
                    refine lv_aload_n hx hb dX7_act_114 rfl (lv_at hl 1 rfl) ?_
                    refine rg_51 X hw hR dX7_act_115 ?_
                    refine W.eq (g2 := F0 m 118 ls [.ref (L 16)]) rfl ?_
                    refine lv_bipush (v := 24) hx hb dX7_act_118 (by decide) ?_
                    refine lv_iload_n hx hb dX7_act_120 rfl (lv_at hl 2 rfl) ?_
                    refine lv_imul hx hb dX7_act_121 ?_
                    refine lv_aload_n hx hb dX7_act_122 rfl (lv_at hl 1 rfl) ?_
                    refine rg_45 X hw hR dX7_act_123 ?_
                    refine W.eq (g2 := F0 m 126 ls [.ref (L 14), .int (24 * x), .ref (L 16)]) rfl ?_
                    refine lv_iload_n hx hb dX7_act_126 rfl (lv_at hl 2 rfl) ?_
                    refine ri_iald X hw hR 14 rfl (cl x) (nI_cl c5.1) (by omega) dX7_act_127 ?_
                    refine W.eq (g2 := F0 m 128 ls [.int (S 14 (cl x)), .int (24 * x), .ref (L 16)]) rfl ?_
                    refine lv_iadd hx hb dX7_act_128 ?_
                    refine lv_iload_n hx hb dX7_act_129 rfl (lv_at hl 4 rfl) ?_
                    refine ri_iast X hw hR 16 rfl (24 * cl x + cl (S 14 (cl x))) (jx 24 c5.1 p14) (by omega) dX7_act_130 (fun M9 H9 locs9 hw hR => ?_)
                    have hR : RV G g L (va_up (va_up S 15 (upd (S 15) (24 * cl x + cl (S 14 (cl x))) (y))) 16 (upd (S 16) (24 * cl x + cl (S 14 (cl x))) (v))) cs ar K M9 := hR
                    refine lv_aload_n hx hb dX7_act_131 rfl (lv_at hl 1 rfl) ?_
                    refine rg_45 X hw hR dX7_act_132 ?_
                    refine W.eq (g2 := F0 m 135 ls [.ref (L 14)]) rfl ?_
                    refine lv_iload_n hx hb dX7_act_135 rfl (lv_at hl 2 rfl) ?_
                    refine lv_dup2_11 hx hb dX7_act_136 rfl rfl ?_
                    refine ri_iald X hw hR 14 rfl (cl x) (nI_cl c5.1) (by omega) dX7_act_137 ?_
                    refine W.eq (g2 := F0 m 138 ls [.int (S 14 (cl x)), .int x, .ref (L 14)]) rfl ?_
                    refine lv_iconst (v := 1) hx hb dX7_act_138 (by decide) ?_
                    refine lv_iadd hx hb dX7_act_139 ?_
                    refine ri_iast X hw hR 14 rfl (cl x) (nI_cl c5.1) (by omega) dX7_act_140 (fun M9 H9 locs9 hw hR => ?_)
                    have hR : RV G g L (va_up (va_up (va_up S 15 (upd (S 15) (24 * cl x + cl (S 14 (cl x))) (y))) 16 (upd (S 16) (24 * cl x + cl (S 14 (cl x))) (v))) 14 (upd (S 14) (cl x) ((S 14 (cl x)) + 1))) cs ar K M9 := hR
                    refine lv_aload_n hx hb dX7_act_141 rfl (lv_at hl 1 rfl) ?_
                    refine rg_45 X hw hR dX7_act_142 ?_
                    refine W.eq (g2 := F0 m 145 ls [.ref (L 14)]) rfl ?_
                    refine lv_iload_n hx hb dX7_act_145 rfl (lv_at hl 2 rfl) ?_
                    refine ri_iald X hw hR 14 rfl (cl x) (nI_cl c5.1) (by omega) dX7_act_146 ?_
                    refine W.eq (g2 := F0 m 147 ls [.int ((upd (S 14) (cl x) ((S 14 (cl x)) + 1)) (cl x))]) rfl ?_
                    exact mm_iret hQ X hw (by have e9 : sp_act S x y v = (S 14 (cl x) + 1, va_up (va_up (va_up S 15 (upd (S 15) (24 * cl x + cl (S 14 (cl x))) (y))) 16 (upd (S 16) (24 * cl x + cl (S 14 (cl x))) (v))) 14 (upd (S 14) (cl x) ((S 14 (cl x)) + 1))) := (by rw [sp_act, if_neg (fun h9 => h9 c5), if_neg (fun h9 => h9 c15), if_neg (fun h9 => h9 (fun _ => c31)), if_neg (fun h9 => h9 (fun _ => c64)), if_neg (fun h9 => h9 c77), if_neg c91]); rw [e9]; exact ⟨by rw [pk_us], _, hR⟩) (Nat.le_of_ble_eq_true rfl) (Nat.le_of_ble_eq_true rfl) dX7_act_147
                  · refine lv_bipush (v := (-4)) hx hb dX7_act_94 (by decide) ?_
                    exact mm_iret hQ X hw (by have e9 : sp_act S x y v = ((-4), S) := (by rw [sp_act, if_neg (fun h9 => h9 c5), if_neg (fun h9 => h9 c15), if_neg (fun h9 => h9 (fun _ => c31)), if_neg (fun h9 => h9 (fun _ => c64)), if_neg (fun h9 => h9 c77), if_pos c91]); rw [e9]; exact ⟨rfl, _, hR⟩) (Nat.le_of_ble_eq_true rfl) (Nat.le_of_ble_eq_true rfl) dX7_act_96
                · refine lv_bipush (v := (-3)) hx hb dX7_act_80 (by decide) ?_
                  exact mm_iret hQ X hw (by have e9 : sp_act S x y v = ((-3), S) := (by rw [sp_act, if_neg (fun h9 => h9 c5), if_neg (fun h9 => h9 c15), if_neg (fun h9 => h9 (fun _ => c31)), if_neg (fun h9 => h9 (fun _ => c64)), if_pos c77]); rw [e9]; exact ⟨rfl, _, hR⟩) (Nat.le_of_ble_eq_true rfl) (Nat.le_of_ble_eq_true rfl) dX7_act_82
              · refine lv_bipush (v := (-2)) hx hb dX7_act_67 (by decide) ?_
                exact mm_iret hQ X hw (by have e9 : sp_act S x y v = ((-2), S) := (by rw [sp_act, if_neg (fun h9 => h9 c5), if_neg (fun h9 => h9 c15), if_neg (fun h9 => h9 (fun _ => c31)), if_pos (fun h9 => c64 (h9 (Or.inl c49)))]); rw [e9]; exact ⟨rfl, _, hR⟩) (Nat.le_of_ble_eq_true rfl) (Nat.le_of_ble_eq_true rfl) dX7_act_69
            · refine lv_iload_n hx hb dX7_act_52 rfl (lv_at hl 3 rfl) ?_
              refine lv_bipush (v := 8) hx hb dX7_act_53 (by decide) ?_
              refine lv_icmp_ne (tgt := 70) hx hb dX7_act_55 (by decide) (fun c55 => ?_) (fun c55 => ?_)
              · refine lv_aload_n hx hb dX7_act_70 rfl (lv_at hl 1 rfl) ?_
                refine rg_42 X hw hR dX7_act_71 ?_
                refine lv_iload_n hx hb dX7_act_74 rfl (lv_at hl 2 rfl) ?_
                refine ri_iald X hw hR 13 rfl (cl x) (nI_cl c5.1) (by omega) dX7_act_75 ?_
                refine lv_iconst (v := (-1)) hx hb dX7_act_76 (by decide) ?_
                refine lv_icmp_eq (tgt := 83) hx hb dX7_act_77 (by decide) (fun c77 => ?_) (fun c77 => ?_)
                · refine lv_aload_n hx hb dX7_act_83 rfl (lv_at hl 1 rfl) ?_
                  refine rg_45 X hw hR dX7_act_84 ?_
                  refine lv_iload_n hx hb dX7_act_87 rfl (lv_at hl 2 rfl) ?_
                  refine ri_iald X hw hR 14 rfl (cl x) (nI_cl c5.1) (by omega) dX7_act_88 ?_
                  refine lv_bipush (v := 24) hx hb dX7_act_89 (by decide) ?_
                  refine lv_icmp_ne (tgt := 97) hx hb dX7_act_91 (by decide) (fun c91 => ?_) (fun c91 => ?_)
                  · have q14 : j14 ≠ 24 := fun h9 => c91 (by rw [e14, h9]; rfl)
                    refine lv_aload_n hx hb dX7_act_97 rfl (lv_at hl 1 rfl) ?_
                    refine rg_48 X hw hR dX7_act_98 ?_
                    refine lv_bipush (v := 24) hx hb dX7_act_101 (by decide) ?_
                    refine lv_iload_n hx hb dX7_act_103 rfl (lv_at hl 2 rfl) ?_
                    refine lv_imul hx hb dX7_act_104 ?_
                    refine lv_aload_n hx hb dX7_act_105 rfl (lv_at hl 1 rfl) ?_
                    refine rg_45 X hw hR dX7_act_106 ?_
                    refine lv_iload_n hx hb dX7_act_109 rfl (lv_at hl 2 rfl) ?_
                    refine ri_iald X hw hR 14 rfl (cl x) (nI_cl c5.1) (by omega) dX7_act_110 ?_
                    refine lv_iadd hx hb dX7_act_111 ?_
                    refine lv_iload_n hx hb dX7_act_112 rfl (lv_at hl 3 rfl) ?_
                    refine ri_iast X hw hR 15 rfl (24 * cl x + cl (S 14 (cl x))) (jx 24 c5.1 p14) (by omega) dX7_act_113 (fun M9 H9 locs9 hw hR => ?_)
                    refine lv_aload_n hx hb dX7_act_114 rfl (lv_at hl 1 rfl) ?_
                    refine rg_51 X hw hR dX7_act_115 ?_
                    refine W.eq (g2 := F0 m 118 ls [.ref (L 16)]) rfl ?_
                    refine lv_bipush (v := 24) hx hb dX7_act_118 (by decide) ?_
                    refine lv_iload_n hx hb dX7_act_120 rfl (lv_at hl 2 rfl) ?_
                    refine lv_imul hx hb dX7_act_121 ?_
                    refine lv_aload_n hx hb dX7_act_122 rfl (lv_at hl 1 rfl) ?_
                    refine rg_45 X hw hR dX7_act_123 ?_
                    refine W.eq (g2 := F0 m 126 ls [.ref (L 14), .int (24 * x), .ref (L 16)]) rfl ?_
                    refine lv_iload_n hx hb dX7_act_126 rfl (lv_at hl 2 rfl) ?_
                    refine ri_iald X hw hR 14 rfl (cl x) (nI_cl c5.1) (by omega) dX7_act_127 ?_
                    refine W.eq (g2 := F0 m 128 ls [.int (S 14 (cl x)), .int (24 * x), .ref (L 16)]) rfl ?_
                    refine lv_iadd hx hb dX7_act_128 ?_
                    refine lv_iload_n hx hb dX7_act_129 rfl (lv_at hl 4 rfl) ?_
                    refine ri_iast X hw hR 16 rfl (24 * cl x + cl (S 14 (cl x))) (jx 24 c5.1 p14) (by omega) dX7_act_130 (fun M9 H9 locs9 hw hR => ?_)
                    have hR : RV G g L (va_up (va_up S 15 (upd (S 15) (24 * cl x + cl (S 14 (cl x))) (y))) 16 (upd (S 16) (24 * cl x + cl (S 14 (cl x))) (v))) cs ar K M9 := hR
                    refine lv_aload_n hx hb dX7_act_131 rfl (lv_at hl 1 rfl) ?_
                    refine rg_45 X hw hR dX7_act_132 ?_
                    refine W.eq (g2 := F0 m 135 ls [.ref (L 14)]) rfl ?_
                    refine lv_iload_n hx hb dX7_act_135 rfl (lv_at hl 2 rfl) ?_
                    refine lv_dup2_11 hx hb dX7_act_136 rfl rfl ?_
                    refine ri_iald X hw hR 14 rfl (cl x) (nI_cl c5.1) (by omega) dX7_act_137 ?_
                    refine W.eq (g2 := F0 m 138 ls [.int (S 14 (cl x)), .int x, .ref (L 14)]) rfl ?_
                    refine lv_iconst (v := 1) hx hb dX7_act_138 (by decide) ?_
                    refine lv_iadd hx hb dX7_act_139 ?_
                    refine ri_iast X hw hR 14 rfl (cl x) (nI_cl c5.1) (by omega) dX7_act_140 (fun M9 H9 locs9 hw hR => ?_)
                    have hR : RV G g L (va_up (va_up (va_up S 15 (upd (S 15) (24 * cl x + cl (S 14 (cl x))) (y))) 16 (upd (S 16) (24 * cl x + cl (S 14 (cl x))) (v))) 14 (upd (S 14) (cl x) ((S 14 (cl x)) + 1))) cs ar K M9 := hR
                    refine lv_aload_n hx hb dX7_act_141 rfl (lv_at hl 1 rfl) ?_
                    refine rg_45 X hw hR dX7_act_142 ?_
                    refine W.eq (g2 := F0 m 145 ls [.ref (L 14)]) rfl ?_
                    refine lv_iload_n hx hb dX7_act_145 rfl (lv_at hl 2 rfl) ?_
                    refine ri_iald X hw hR 14 rfl (cl x) (nI_cl c5.1) (by omega) dX7_act_146 ?_
                    refine W.eq (g2 := F0 m 147 ls [.int ((upd (S 14) (cl x) ((S 14 (cl x)) + 1)) (cl x))]) rfl ?_
                    exact mm_iret hQ X hw (by have e9 : sp_act S x y v = (S 14 (cl x) + 1, va_up (va_up (va_up S 15 (upd (S 15) (24 * cl x + cl (S 14 (cl x))) (y))) 16 (upd (S 16) (24 * cl x + cl (S 14 (cl x))) (v))) 14 (upd (S 14) (cl x) ((S 14 (cl x)) + 1))) := (by rw [sp_act, if_neg (fun h9 => h9 c5), if_neg (fun h9 => h9 c15), if_neg (fun h9 => h9 (fun _ => c31)), if_neg (fun h9 => h9 (fun z => (show False from z.elim c49 c55).elim)), if_neg (fun h9 => h9 c77), if_neg c91]); rw [e9]; exact ⟨by rw [pk_us], _, hR⟩) (Nat.le_of_ble_eq_true rfl) (Nat.le_of_ble_eq_true rfl) dX7_act_147
                  · refine lv_bipush (v := (-4)) hx hb dX7_act_94 (by decide) ?_
                    exact mm_iret hQ X hw (by have e9 : sp_act S x y v = ((-4), S) := (by rw [sp_act, if_neg (fun h9 => h9 c5), if_neg (fun h9 => h9 c15), if_neg (fun h9 => h9 (fun _ => c31)), if_neg (fun h9 => h9 (fun z => (show False from z.elim c49 c55).elim)), if_neg (fun h9 => h9 c77), if_pos c91]); rw [e9]; exact ⟨rfl, _, hR⟩) (Nat.le_of_ble_eq_true rfl) (Nat.le_of_ble_eq_true rfl) dX7_act_96
                · refine lv_bipush (v := (-3)) hx hb dX7_act_80 (by decide) ?_
                  exact mm_iret hQ X hw (by have e9 : sp_act S x y v = ((-3), S) := (by rw [sp_act, if_neg (fun h9 => h9 c5), if_neg (fun h9 => h9 c15), if_neg (fun h9 => h9 (fun _ => c31)), if_neg (fun h9 => h9 (fun z => (show False from z.elim c49 c55).elim)), if_pos c77]); rw [e9]; exact ⟨rfl, _, hR⟩) (Nat.le_of_ble_eq_true rfl) (Nat.le_of_ble_eq_true rfl) dX7_act_82
              · refine lv_iload_n hx hb dX7_act_58 rfl (lv_at hl 4 rfl) ?_
                refine lv_iconst (v := 0) hx hb dX7_act_59 (by decide) ?_
                refine lv_iconst (v := 3) hx hb dX7_act_60 (by decide) ?_
                refine mm_callS (As := [.int v, .int 0, .int 3]) (rest := []) X hw (m_in l G _ (v) (0) (3)) wd_X7_82 ⟨Nat.le_of_ble_eq_true rfl, Nat.le_of_ble_eq_true rfl⟩ ⟨Nat.le_of_ble_eq_true rfl, Nat.le_of_ble_eq_true rfl⟩ rfl rfl (Nat.le_of_ble_eq_true rfl) hl.1 dX7_act_61 (fun v9 M9 H9 locs9 hp9 hw => ?_)
                obtain ⟨rfl, rfl⟩ := hp9
                refine W.eq (g2 := F0 m 64 ls [.int (bI (0 ≤ v ∧ v ≤ 3))]) rfl ?_
                refine mm_ifneB (tgt := 70) hx hb dX7_act_64 (by decide) (fun c64 => ?_) (fun c64 => ?_)
                · refine lv_aload_n hx hb dX7_act_70 rfl (lv_at hl 1 rfl) ?_
                  refine rg_42 X hw hR dX7_act_71 ?_
                  refine lv_iload_n hx hb dX7_act_74 rfl (lv_at hl 2 rfl) ?_
                  refine ri_iald X hw hR 13 rfl (cl x) (nI_cl c5.1) (by omega) dX7_act_75 ?_
                  refine lv_iconst (v := (-1)) hx hb dX7_act_76 (by decide) ?_
                  refine lv_icmp_eq (tgt := 83) hx hb dX7_act_77 (by decide) (fun c77 => ?_) (fun c77 => ?_)
                  · refine lv_aload_n hx hb dX7_act_83 rfl (lv_at hl 1 rfl) ?_
                    refine rg_45 X hw hR dX7_act_84 ?_
                    refine lv_iload_n hx hb dX7_act_87 rfl (lv_at hl 2 rfl) ?_
                    refine ri_iald X hw hR 14 rfl (cl x) (nI_cl c5.1) (by omega) dX7_act_88 ?_
                    refine lv_bipush (v := 24) hx hb dX7_act_89 (by decide) ?_
                    refine lv_icmp_ne (tgt := 97) hx hb dX7_act_91 (by decide) (fun c91 => ?_) (fun c91 => ?_)
                    · have q14 : j14 ≠ 24 := fun h9 => c91 (by rw [e14, h9]; rfl)
                      refine lv_aload_n hx hb dX7_act_97 rfl (lv_at hl 1 rfl) ?_
                      refine rg_48 X hw hR dX7_act_98 ?_
                      refine lv_bipush (v := 24) hx hb dX7_act_101 (by decide) ?_
                      refine lv_iload_n hx hb dX7_act_103 rfl (lv_at hl 2 rfl) ?_
                      refine lv_imul hx hb dX7_act_104 ?_
                      refine lv_aload_n hx hb dX7_act_105 rfl (lv_at hl 1 rfl) ?_
                      refine rg_45 X hw hR dX7_act_106 ?_
                      refine lv_iload_n hx hb dX7_act_109 rfl (lv_at hl 2 rfl) ?_
                      refine ri_iald X hw hR 14 rfl (cl x) (nI_cl c5.1) (by omega) dX7_act_110 ?_
                      refine lv_iadd hx hb dX7_act_111 ?_
                      refine lv_iload_n hx hb dX7_act_112 rfl (lv_at hl 3 rfl) ?_
                      refine ri_iast X hw hR 15 rfl (24 * cl x + cl (S 14 (cl x))) (jx 24 c5.1 p14) (by omega) dX7_act_113 (fun M9 H9 locs9 hw hR => ?_)
                      refine lv_aload_n hx hb dX7_act_114 rfl (lv_at hl 1 rfl) ?_
                      refine rg_51 X hw hR dX7_act_115 ?_
                      refine W.eq (g2 := F0 m 118 ls [.ref (L 16)]) rfl ?_
                      refine lv_bipush (v := 24) hx hb dX7_act_118 (by decide) ?_
                      refine lv_iload_n hx hb dX7_act_120 rfl (lv_at hl 2 rfl) ?_
                      refine lv_imul hx hb dX7_act_121 ?_
                      refine lv_aload_n hx hb dX7_act_122 rfl (lv_at hl 1 rfl) ?_
                      refine rg_45 X hw hR dX7_act_123 ?_
                      refine W.eq (g2 := F0 m 126 ls [.ref (L 14), .int (24 * x), .ref (L 16)]) rfl ?_
                      refine lv_iload_n hx hb dX7_act_126 rfl (lv_at hl 2 rfl) ?_
                      refine ri_iald X hw hR 14 rfl (cl x) (nI_cl c5.1) (by omega) dX7_act_127 ?_
                      refine W.eq (g2 := F0 m 128 ls [.int (S 14 (cl x)), .int (24 * x), .ref (L 16)]) rfl ?_
                      refine lv_iadd hx hb dX7_act_128 ?_
                      refine lv_iload_n hx hb dX7_act_129 rfl (lv_at hl 4 rfl) ?_
                      refine ri_iast X hw hR 16 rfl (24 * cl x + cl (S 14 (cl x))) (jx 24 c5.1 p14) (by omega) dX7_act_130 (fun M9 H9 locs9 hw hR => ?_)
                      have hR : RV G g L (va_up (va_up S 15 (upd (S 15) (24 * cl x + cl (S 14 (cl x))) (y))) 16 (upd (S 16) (24 * cl x + cl (S 14 (cl x))) (v))) cs ar K M9 := hR
                      refine lv_aload_n hx hb dX7_act_131 rfl (lv_at hl 1 rfl) ?_
                      refine rg_45 X hw hR dX7_act_132 ?_
                      refine W.eq (g2 := F0 m 135 ls [.ref (L 14)]) rfl ?_
                      refine lv_iload_n hx hb dX7_act_135 rfl (lv_at hl 2 rfl) ?_
                      refine lv_dup2_11 hx hb dX7_act_136 rfl rfl ?_
                      refine ri_iald X hw hR 14 rfl (cl x) (nI_cl c5.1) (by omega) dX7_act_137 ?_
                      refine W.eq (g2 := F0 m 138 ls [.int (S 14 (cl x)), .int x, .ref (L 14)]) rfl ?_
                      refine lv_iconst (v := 1) hx hb dX7_act_138 (by decide) ?_
                      refine lv_iadd hx hb dX7_act_139 ?_
                      refine ri_iast X hw hR 14 rfl (cl x) (nI_cl c5.1) (by omega) dX7_act_140 (fun M9 H9 locs9 hw hR => ?_)
                      have hR : RV G g L (va_up (va_up (va_up S 15 (upd (S 15) (24 * cl x + cl (S 14 (cl x))) (y))) 16 (upd (S 16) (24 * cl x + cl (S 14 (cl x))) (v))) 14 (upd (S 14) (cl x) ((S 14 (cl x)) + 1))) cs ar K M9 := hR
                      refine lv_aload_n hx hb dX7_act_141 rfl (lv_at hl 1 rfl) ?_
                      refine rg_45 X hw hR dX7_act_142 ?_
                      refine W.eq (g2 := F0 m 145 ls [.ref (L 14)]) rfl ?_
                      refine lv_iload_n hx hb dX7_act_145 rfl (lv_at hl 2 rfl) ?_
                      refine ri_iald X hw hR 14 rfl (cl x) (nI_cl c5.1) (by omega) dX7_act_146 ?_
                      refine W.eq (g2 := F0 m 147 ls [.int ((upd (S 14) (cl x) ((S 14 (cl x)) + 1)) (cl x))]) rfl ?_
                      exact mm_iret hQ X hw (by have e9 : sp_act S x y v = (S 14 (cl x) + 1, va_up (va_up (va_up S 15 (upd (S 15) (24 * cl x + cl (S 14 (cl x))) (y))) 16 (upd (S 16) (24 * cl x + cl (S 14 (cl x))) (v))) 14 (upd (S 14) (cl x) ((S 14 (cl x)) + 1))) := (by rw [sp_act, if_neg (fun h9 => h9 c5), if_neg (fun h9 => h9 c15), if_neg (fun h9 => h9 (fun _ => c31)), if_neg (fun h9 => h9 (fun _ => c64)), if_neg (fun h9 => h9 c77), if_neg c91]); rw [e9]; exact ⟨by rw [pk_us], _, hR⟩) (Nat.le_of_ble_eq_true rfl) (Nat.le_of_ble_eq_true rfl) dX7_act_147
                    · refine lv_bipush (v := (-4)) hx hb dX7_act_94 (by decide) ?_
                      exact mm_iret hQ X hw (by have e9 : sp_act S x y v = ((-4), S) := (by rw [sp_act, if_neg (fun h9 => h9 c5), if_neg (fun h9 => h9 c15), if_neg (fun h9 => h9 (fun _ => c31)), if_neg (fun h9 => h9 (fun _ => c64)), if_neg (fun h9 => h9 c77), if_pos c91]); rw [e9]; exact ⟨rfl, _, hR⟩) (Nat.le_of_ble_eq_true rfl) (Nat.le_of_ble_eq_true rfl) dX7_act_96
                  · refine lv_bipush (v := (-3)) hx hb dX7_act_80 (by decide) ?_
                    exact mm_iret hQ X hw (by have e9 : sp_act S x y v = ((-3), S) := (by rw [sp_act, if_neg (fun h9 => h9 c5), if_neg (fun h9 => h9 c15), if_neg (fun h9 => h9 (fun _ => c31)), if_neg (fun h9 => h9 (fun _ => c64)), if_pos c77]); rw [e9]; exact ⟨rfl, _, hR⟩) (Nat.le_of_ble_eq_true rfl) (Nat.le_of_ble_eq_true rfl) dX7_act_82
                · refine lv_bipush (v := (-2)) hx hb dX7_act_67 (by decide) ?_
                  exact mm_iret hQ X hw (by have e9 : sp_act S x y v = ((-2), S) := (by rw [sp_act, if_neg (fun h9 => h9 c5), if_neg (fun h9 => h9 c15), if_neg (fun h9 => h9 (fun _ => c31)), if_pos (fun h9 => c64 (h9 (Or.inr c55)))]); rw [e9]; exact ⟨rfl, _, hR⟩) (Nat.le_of_ble_eq_true rfl) (Nat.le_of_ble_eq_true rfl) dX7_act_69
