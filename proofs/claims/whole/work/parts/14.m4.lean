set_option maxHeartbeats 4000000 in
set_option maxRecDepth 100000 in
theorem m_runs (l : Launch) (G : mG) (M : mM) (g : Nat) (L : Nat → Nat) (S : sS) (cs ar : Nat → Int64) (K : Nat → Nat → Int64) (hR : RV G g L S cs ar K M) (c0 n0 pz kp : Nat) (hc0 : c0 < 12) (hn0 : n0 ≤ 24) (h14 : S 14 c0 = nI n0) (hA : AC S c0 n0) (hpz : pz < 10) (hkp : kp < 10) (h13 : S 13 c0 = nI kp) (hV : vd S c0 n0 0 0) (arg : Int64) (lim : Int32) : Ct l yX7_runs cX7_runs 11 (some FieldType.int) (mm_r 2 0 0) G [.ref g, .int (nI c0), .long arg, .int lim, .int (nI pz)] M (fun r M1 => r = some (.int (rn S cs c0 pz kp n0 arg lim).1) ∧ ∃ K1, K1 27 = K 27 ∧ RV G g L S (rn S cs c0 pz kp n0 arg lim).2 ar K1 M1) := by
  refine Ct.of (by decide) (Nat.le_of_ble_eq_true rfl) ?_
  intro p e s m args below meth c ls Q X hin hl hw hQ
  have hx := X.1
  have hb := X.2.1
  have hl : lv_has ls 11 [(0, .ref g), (1, .int (nI c0)), (2, .long arg), (4, .int lim), (5, .int (nI pz))] := hl
  refine lv_iconst (v := 0) hx hb dX7_runs_0 (by decide) ?_
  refine lv_istore (lv' := [(6, .int 0), (0, .ref g), (1, .int (nI c0)), (2, .long arg), (4, .int lim), (5, .int (nI pz))]) hx hb dX7_runs_1 hl (by decide) rfl (fun ls hl => ?_)
  refine lv_iconst (v := 0) hx hb dX7_runs_3 (by decide) ?_
  refine lv_istore (lv' := [(7, .int 0), (6, .int 0), (0, .ref g), (1, .int (nI c0)), (2, .long arg), (4, .int lim), (5, .int (nI pz))]) hx hb dX7_runs_4 hl (by decide) rfl (fun ls hl => ?_)
  refine lv_iconst (v := 0) hx hb dX7_runs_6 (by decide) ?_
  refine lv_istore (lv' := [(8, .int 0), (7, .int 0), (6, .int 0), (0, .ref g), (1, .int (nI c0)), (2, .long arg), (4, .int lim), (5, .int (nI pz))]) hx hb dX7_runs_7 hl (by decide) rfl (fun ls hl => ?_)
  have loop1 : ∀ (n : Nat) (k : Nat) (K1 : Nat → Nat → Int64) (M1 : mM) (H1 : Heap) (locs1 : List Loc) (ls1 : Array Slot), (hk : k ≤ 4) → (hn : 5 ≤ k + n) → (hs : ∀ j, j < k → K1 26 j = cs (4 * c0 + j)) → (h27 : K1 27 = K 27) → mm_W G.1 vwCl (ct_A M s.heap.size) s.heap M1 H1 locs1 → RV G g L S cs ar K1 M1 → lv_has ls1 11 [(0, .ref g), (1, .int (nI c0)), (2, .long arg), (4, .int lim), (5, .int (nI pz)), (6, .int 0), (7, .int 0), (8, .int (nI k))] → W p l e (mm_r 2 0 0) s m args below meth c H1 locs1 0 0 Q (F0 m 9 ls1 []) := by
    intro n
    induction n with
    | zero => intro k K1 M1 H1 locs1 ls hk hn hs h27 hw hR hl; exact absurd hn (by omega)
    | succ n ih =>
      intro k K1 M1 H1 locs1 ls hk hn hs h27 hw hR hl
      refine lv_iload hx hb dX7_runs_9 (lv_at hl 7 rfl) ?_
      refine lv_iconst (v := 4) hx hb dX7_runs_11 (by decide) ?_
      refine lv_icmp_ge (tgt := 39) hx hb dX7_runs_12 (by decide) (fun c12 => ?_) (fun c12 => ?_)
      · have hk9 : k = 4 := by have := nle (a := 4) (by decide) (by omega) c12; omega
        refine lv_bipush (v := 24) hx hb dX7_runs_39 (by decide) ?_
        refine lv_iload_n hx hb dX7_runs_41 rfl (lv_at hl 1 rfl) ?_
        refine lv_imul hx hb dX7_runs_42 ?_
        refine mm_eqI (y := nI (24 * c0 + 0)) (m24 c0) ?_
        refine lv_istore (lv' := [(8, .int (nI (24 * c0 + 0))), (0, .ref g), (1, .int (nI c0)), (2, .long arg), (4, .int lim), (5, .int (nI pz)), (6, .int 0), (7, .int 0)]) hx hb dX7_runs_43 hl (by decide) rfl (fun ls hl => ?_)
        have loop2 : ∀ (n : Nat) (k : Nat) (cost : Int32) (st : List Int64) (as : Nat → Int64) (K1 : Nat → Nat → Int64) (M1 : mM) (H1 : Heap) (locs1 : List Loc) (ls1 : Array Slot), (hk : k ≤ n0) → (hn : n0 + 1 ≤ k + n) → (hle : st.length ≤ k) → (hD : vd S c0 (n0 - k) k st.length) → (hp : pl (K1 25) st) → (hs : ∀ j, j < 4 → K1 26 j = as j) → (h27 : K1 27 = K 27) → (hv : ex_go S c0 pz kp arg lim (n0 - k) k cost st as = ex_go S c0 pz kp arg lim n0 0 0 [] (fun j => cs (4 * c0 + j))) → mm_W G.1 vwCl (ct_A M s.heap.size) s.heap M1 H1 locs1 → RV G g L S cs ar K1 M1 → lv_has ls1 11 [(0, .ref g), (1, .int (nI c0)), (2, .long arg), (4, .int lim), (5, .int (nI pz)), (6, .int cost), (7, .int (nI st.length)), (8, .int (nI (24 * c0 + k)))] → W p l e (mm_r 2 0 0) s m args below meth c H1 locs1 0 0 Q (F0 m 45 ls1 []) := by
          intro n
          induction n with
          | zero => intro k cost st as K1 M1 H1 locs1 ls hk hn hle hD hp hs h27 hv hw hR hl; exact absurd hn (by omega)
          | succ n ih =>
            intro k cost st as K1 M1 H1 locs1 ls hk hn hle hD hp hs h27 hv hw hR hl
            refine lv_iload hx hb dX7_runs_45 (lv_at hl 7 rfl) ?_
            refine lv_bipush (v := 24) hx hb dX7_runs_47 (by decide) ?_
            refine lv_iload_n hx hb dX7_runs_49 rfl (lv_at hl 1 rfl) ?_
            refine lv_imul hx hb dX7_runs_50 ?_
            refine lv_aload_n hx hb dX7_runs_51 rfl (lv_at hl 0 rfl) ?_
            refine rg_45 X hw hR dX7_runs_52 ?_
            refine lv_iload_n hx hb dX7_runs_55 rfl (lv_at hl 1 rfl) ?_
            refine ri_iald X hw hR 14 rfl (c0) (rfl) (by omega) dX7_runs_56 ?_
            refine lv_iadd hx hb dX7_runs_57 ?_
            refine lv_icmp_ge (tgt := 331) hx hb dX7_runs_58 (by decide) (fun c58 => ?_) (fun c58 => ?_)
            · rw [show (24 : Int32) * nI c0 + S 14 c0 = nI (24 * c0 + n0) from by rw [h14]; exact ix24 c0 n0] at c58
              have hk9 : k = n0 := by have := nle (by omega) (by omega) c58; omega
              refine lv_iconst (v := 0) hx hb dX7_runs_331 (by decide) ?_
              refine lv_istore (lv' := [(8, .int 0), (0, .ref g), (1, .int (nI c0)), (2, .long arg), (4, .int lim), (5, .int (nI pz)), (6, .int cost), (7, .int (nI st.length))]) hx hb dX7_runs_332 hl (by decide) rfl (fun ls hl => ?_)
              have loop3 : ∀ (n : Nat) (j : Nat) (M1 : mM) (H1 : Heap) (locs1 : List Loc) (ls1 : Array Slot), (hj : j ≤ 4) → (hn : 5 ≤ j + n) → mm_W G.1 vwCl (ct_A M s.heap.size) s.heap M1 H1 locs1 → RV G g L S (ly cs c0 as j) ar K1 M1 → lv_has ls1 11 [(0, .ref g), (1, .int (nI c0)), (6, .int cost), (8, .int (nI j))] → W p l e (mm_r 2 0 0) s m args below meth c H1 locs1 0 0 Q (F0 m 334 ls1 []) := by
                intro n
                induction n with
                | zero => intro j M1 H1 locs1 ls hj hn hw hR hl; exact absurd hn (by omega)
                | succ n ih =>
                  intro j M1 H1 locs1 ls hj hn hw hR hl
                  refine lv_iload hx hb dX7_runs_334 (lv_at hl 3 rfl) ?_
                  refine lv_iconst (v := 4) hx hb dX7_runs_336 (by decide) ?_
                  refine lv_icmp_ge (tgt := 364) hx hb dX7_runs_337 (by decide) (fun c337 => ?_) (fun c337 => ?_)
                  · have hj9 : j = 4 := by have := nle (a := 4) (by decide) (by omega) c337; omega
                    refine lv_iload hx hb dX7_runs_364 (lv_at hl 2 rfl) ?_
                    exact mm_iret hQ X hw (by have e9 : rn S cs c0 pz kp n0 arg lim = (cost, ly cs c0 as 4) := (by rw [rn, ← hv, hk9, Nat.sub_self]; rfl); rw [e9]; rw [hj9] at hR; exact ⟨rfl, _, h27, hR⟩) (Nat.le_of_ble_eq_true rfl) (Nat.le_of_ble_eq_true rfl) dX7_runs_366
                  · have hj9 : j < 4 := nnle (a := 4) (by decide) (by omega) c337
                    refine lv_aload_n hx hb dX7_runs_340 rfl (lv_at hl 0 rfl) ?_
                    refine rg_54 X hw hR dX7_runs_341 ?_
                    refine lv_iconst (v := 4) hx hb dX7_runs_344 (by decide) ?_
                    refine lv_iload_n hx hb dX7_runs_345 rfl (lv_at hl 1 rfl) ?_
                    refine lv_imul hx hb dX7_runs_346 ?_
                    refine lv_iload hx hb dX7_runs_347 (lv_at hl 3 rfl) ?_
                    refine lv_iadd hx hb dX7_runs_349 ?_
                    refine lv_aload_n hx hb dX7_runs_350 rfl (lv_at hl 0 rfl) ?_
                    refine rg_76 X hw hR dX7_runs_351 ?_
                    refine lv_iload hx hb dX7_runs_354 (lv_at hl 3 rfl) ?_
                    refine rk_lald X hw hR 26 (n := 4) (by omega) (j) (rfl) (by omega) dX7_runs_356 ?_
                    refine rc_last X hw hR (4 * c0 + j) (ix4 c0 j) (by omega) dX7_runs_357 (fun M9 H9 locs9 hw hR => ?_)
                    refine lv_iinc (v := nI (j + 1)) (lv' := [(8, .int (nI (j + 1))), (0, .ref g), (1, .int (nI c0)), (6, .int cost)]) hx hb dX7_runs_358 hl (k := 3) rfl (nI_s j) (by decide) rfl (fun ls hl => ?_)
                    refine lv_goto (tgt := 334) hx hb dX7_runs_361 (by decide) ?_
                    exact ih (j + 1) _ _ _ _ (by omega) (by omega) hw (by rw [lyS cs c0 (hs j hj9)] at hR; exact hR) (lv_sub hl [1, 2, 3, 0] rfl)
              exact loop3 5 0 _ _ _ _ (by omega) (by omega) hw (by rw [ly0]; exact hR) (lv_sub hl [1, 2, 6, 0] rfl)
            · rw [show (24 : Int32) * nI c0 + S 14 c0 = nI (24 * c0 + n0) from by rw [h14]; exact ix24 c0 n0] at c58
              have hk9 : k < n0 := by have := nnle (by omega) (by omega) c58; omega
              obtain ⟨a0, ha0, e15, hb6, hb7⟩ := hA k hk9
              rw [show n0 - k = (n0 - 1 - k) + 1 from by omega, vd_s] at hD
              rw [show n0 - k = (n0 - 1 - k) + 1 from by omega, ex_go_s] at hv
              refine lv_aload_n hx hb dX7_runs_61 rfl (lv_at hl 0 rfl) ?_
              refine rg_48 X hw hR dX7_runs_62 ?_
              refine lv_iload hx hb dX7_runs_65 (lv_at hl 7 rfl) ?_
              refine ri_iald X hw hR 15 rfl (24 * c0 + k) (rfl) (by omega) dX7_runs_67 ?_
              refine lv_istore (lv' := [(9, .int (S 15 (24 * c0 + k))), (0, .ref g), (1, .int (nI c0)), (2, .long arg), (4, .int lim), (5, .int (nI pz)), (6, .int cost), (7, .int (nI st.length)), (8, .int (nI (24 * c0 + k)))]) hx hb dX7_runs_68 hl (by decide) rfl (fun ls hl => ?_)
              refine lv_aload_n hx hb dX7_runs_70 rfl (lv_at hl 1 rfl) ?_
              refine rg_51 X hw hR dX7_runs_71 ?_
              refine lv_iload hx hb dX7_runs_74 (lv_at hl 8 rfl) ?_
              refine ri_iald X hw hR 16 rfl (24 * c0 + k) (rfl) (by omega) dX7_runs_76 ?_
              refine lv_istore (lv' := [(10, .int (S 16 (24 * c0 + k))), (9, .int (S 15 (24 * c0 + k))), (0, .ref g), (1, .int (nI c0)), (2, .long arg), (4, .int lim), (5, .int (nI pz)), (6, .int cost), (7, .int (nI st.length)), (8, .int (nI (24 * c0 + k)))]) hx hb dX7_runs_77 hl (by decide) rfl (fun ls hl => ?_)
              refine lv_iload hx hb dX7_runs_79 (lv_at hl 7 rfl) ?_
              refine lv_aload_n hx hb dX7_runs_81 rfl (lv_at hl 2 rfl) ?_
              refine rg_13 X hw hR dX7_runs_82 ?_
              refine lv_bipush (v := 9) hx hb dX7_runs_85 (by decide) ?_
              refine lv_iload hx hb dX7_runs_87 (lv_at hl 6 rfl) ?_
              refine lv_imul hx hb dX7_runs_89 ?_
              refine lv_iload hx hb dX7_runs_90 (lv_at hl 1 rfl) ?_
              refine lv_iadd hx hb dX7_runs_92 ?_
              refine ri_iald X hw hR 1 rfl (9 * pz + cl (S 15 (24 * c0 + k))) (by rw [e15]; exact (ix9 pz a0).trans (by rw [cl_n (by omega)])) (by rw [e15, cl_n (by omega)]; omega) dX7_runs_93 ?_
              refine lv_iadd hx hb dX7_runs_94 ?_
              refine lv_istore (lv' := [(6, .int (cost + (S 1 (9 * pz + cl (S 15 (24 * c0 + k)))))), (10, .int (S 16 (24 * c0 + k))), (9, .int (S 15 (24 * c0 + k))), (0, .ref g), (1, .int (nI c0)), (2, .long arg), (4, .int lim), (5, .int (nI pz)), (7, .int (nI st.length)), (8, .int (nI (24 * c0 + k)))]) hx hb dX7_runs_95 hl (by decide) rfl (fun ls hl => ?_)
              refine lv_iload hx hb dX7_runs_97 (lv_at hl 0 rfl) ?_
              refine lv_iload hx hb dX7_runs_99 (lv_at hl 6 rfl) ?_
              refine lv_icmp_le (tgt := 107) hx hb dX7_runs_101 (by decide) (fun c101 => ?_) (fun c101 => ?_)
              · rw [if_neg (fun h9 => i32_lt_nle h9 c101)] at hv
                refine lv_iload hx hb dX7_runs_107 (lv_at hl 2 rfl) ?_
                rcases mm_sw (S 15 (24 * c0 + k)) 0 9 (by decide) (by decide) with ⟨k9, hk9, c109⟩ | c109
                · rcases (show k9 = 0 ∨ k9 = 1 ∨ k9 = 2 ∨ k9 = 3 ∨ k9 = 4 ∨ k9 = 5 ∨ k9 = 6 ∨ k9 = 7 ∨ k9 = 8 by omega) with rfl | rfl | rfl | rfl | rfl | rfl | rfl | rfl | rfl
                  · have c109 : S 15 (24 * c0 + k) = 0 := c109
                    refine lv_tableIn (off := 51) (tgt := 160) hx hb dX7_runs_109 (by rw [c109]; decide) (by rw [c109]; decide) (by rw [c109]; rfl) (by decide) ?_
                    rw [if_pos c109] at hv
                    have hD2 : vd S c0 (n0 - 1 - k) (k + 1) (st.length + 1) := by have h9 := hD.2; rw [c109, nxN, if_neg (by decide), show tkN 0 = 0 from by decide] at h9; exact h9
                    refine lv_aload_n hx hb dX7_runs_160 rfl (lv_at hl 3 rfl) ?_
                    refine rg_73 X hw hR dX7_runs_161 ?_
                    refine lv_iload hx hb dX7_runs_164 (lv_at hl 8 rfl) ?_
                    refine lv_iload hx hb dX7_runs_166 (lv_at hl 1 rfl) ?_
                    refine lv_i2l (v := (S 16 (24 * c0 + k) : Int32).toInt64) hx hb dX7_runs_168 rfl ?_
                    refine rk_last X hw hR 25 (n := 24) (by omega) (st.length) (rfl) (by omega) dX7_runs_169 (fun M9 H9 locs9 hw hR => ?_)
                    refine lv_iinc (v := nI (st.length + 1)) (lv' := [(7, .int (nI (st.length + 1))), (6, .int (cost + (S 1 (9 * pz + cl (S 15 (24 * c0 + k)))))), (10, .int (S 16 (24 * c0 + k))), (9, .int (S 15 (24 * c0 + k))), (0, .ref g), (1, .int (nI c0)), (2, .long arg), (4, .int lim), (5, .int (nI pz)), (8, .int (nI (24 * c0 + k)))]) hx hb dX7_runs_170 hl (k := 8) rfl (nI_s _) (by decide) rfl (fun ls hl => ?_)
                    refine lv_goto (tgt := 325) hx hb dX7_runs_173 (by decide) ?_
                    refine lv_iinc (v := nI (24 * c0 + (k + 1))) (lv' := [(8, .int (nI (24 * c0 + (k + 1)))), (7, .int (nI (st.length + 1))), (6, .int (cost + (S 1 (9 * pz + cl (S 15 (24 * c0 + k)))))), (10, .int (S 16 (24 * c0 + k))), (9, .int (S 15 (24 * c0 + k))), (0, .ref g), (1, .int (nI c0)), (2, .long arg), (4, .int lim), (5, .int (nI pz))]) hx hb dX7_runs_325 hl (k := 9) rfl (nI_s _) (by decide) rfl (fun ls hl => ?_)
                    refine lv_goto (tgt := 45) hx hb dX7_runs_328 (by decide) ?_
                    exact ih (k + 1) (cost + S 1 (9 * pz + cl (S 15 (24 * c0 + k)))) ((S 16 (24 * c0 + k)).toInt64 :: st) as _ _ _ _ _ (by omega) (by omega) (by simp only [List.length_cons]; omega) (by rw [show n0 - (k + 1) = n0 - 1 - k from by omega]; exact hD2) (by rw [va_up_self]; exact pl_push hp _) (fun j h9 => (by rw [va_up_ne _ _ (by decide)]; exact hs j h9)) (by rw [va_up_ne _ _ (by decide)]; exact h27) (by rw [show n0 - (k + 1) = n0 - 1 - k from by omega]; exact hv) hw hR (lv_sub hl [5, 6, 7, 8, 9, 2, 1, 0] rfl)
                  · have c109 : S 15 (24 * c0 + k) = 1 := c109
                    refine lv_tableIn (off := 67) (tgt := 176) hx hb dX7_runs_109 (by rw [c109]; decide) (by rw [c109]; decide) (by rw [c109]; rfl) (by decide) ?_
                    rw [if_neg (by rw [c109]; decide), if_pos c109] at hv
                    have hD2 : vd S c0 (n0 - 1 - k) (k + 1) (st.length + 1) := by have h9 := hD.2; rw [c109, nxN, if_neg (by decide), show tkN 1 = 0 from by decide] at h9; exact h9
                    refine lv_aload_n hx hb dX7_runs_176 rfl (lv_at hl 3 rfl) ?_
                    refine rg_73 X hw hR dX7_runs_177 ?_
                    refine lv_iload hx hb dX7_runs_180 (lv_at hl 8 rfl) ?_
                    refine lv_lload_n hx hb dX7_runs_182 rfl (lv_at hl 5 rfl) ?_
                    refine rk_last X hw hR 25 (n := 24) (by omega) (st.length) (rfl) (by omega) dX7_runs_183 (fun M9 H9 locs9 hw hR => ?_)
                    refine lv_iinc (v := nI (st.length + 1)) (lv' := [(7, .int (nI (st.length + 1))), (6, .int (cost + (S 1 (9 * pz + cl (S 15 (24 * c0 + k)))))), (10, .int (S 16 (24 * c0 + k))), (9, .int (S 15 (24 * c0 + k))), (0, .ref g), (1, .int (nI c0)), (2, .long arg), (4, .int lim), (5, .int (nI pz)), (8, .int (nI (24 * c0 + k)))]) hx hb dX7_runs_184 hl (k := 8) rfl (nI_s _) (by decide) rfl (fun ls hl => ?_)
                    refine lv_goto (tgt := 325) hx hb dX7_runs_187 (by decide) ?_
                    refine lv_iinc (v := nI (24 * c0 + (k + 1))) (lv' := [(8, .int (nI (24 * c0 + (k + 1)))), (7, .int (nI (st.length + 1))), (6, .int (cost + (S 1 (9 * pz + cl (S 15 (24 * c0 + k)))))), (10, .int (S 16 (24 * c0 + k))), (9, .int (S 15 (24 * c0 + k))), (0, .ref g), (1, .int (nI c0)), (2, .long arg), (4, .int lim), (5, .int (nI pz))]) hx hb dX7_runs_325 hl (k := 9) rfl (nI_s _) (by decide) rfl (fun ls hl => ?_)
                    refine lv_goto (tgt := 45) hx hb dX7_runs_328 (by decide) ?_
                    exact ih (k + 1) (cost + S 1 (9 * pz + cl (S 15 (24 * c0 + k)))) (arg :: st) as _ _ _ _ _ (by omega) (by omega) (by simp only [List.length_cons]; omega) (by rw [show n0 - (k + 1) = n0 - 1 - k from by omega]; exact hD2) (by rw [va_up_self]; exact pl_push hp _) (fun j h9 => (by rw [va_up_ne _ _ (by decide)]; exact hs j h9)) (by rw [va_up_ne _ _ (by decide)]; exact h27) (by rw [show n0 - (k + 1) = n0 - 1 - k from by omega]; exact hv) hw hR (lv_sub hl [5, 6, 7, 8, 9, 2, 1, 0] rfl)
                  · have c109 : S 15 (24 * c0 + k) = 2 := c109
                    refine lv_tableIn (off := 162) (tgt := 271) hx hb dX7_runs_109 (by rw [c109]; decide) (by rw [c109]; decide) (by rw [c109]; rfl) (by decide) ?_
                    rw [if_neg (by rw [c109]; decide), if_neg (by rw [c109]; decide), if_neg (by rw [c109]; decide), if_neg (by rw [c109]; decide), if_neg (by rw [c109]; decide)] at hv
                    have hg : 2 ≤ st.length := by have h9 := hD.1; rw [c109, show tkN 2 = 2 from by decide] at h9; exact h9
                    obtain ⟨u, y, t, hst⟩ : ∃ u y t, st = u :: y :: t := by match st, hg with | u :: y :: t, _ => exact ⟨u, y, t, rfl⟩
                    have hlen : st.length = t.length + 1 + 1 := by rw [hst]; rfl
                    rw [hst] at hv hp
                    rw [hd_c, tl_c, hd_c, tl_c] at hv
                    obtain ⟨hp1, hu⟩ := pl_pop hp
                    obtain ⟨hp2, hy⟩ := pl_pop hp1
                    have hu : K1 25 (t.length + 1) = u := hu
                    have hD2 : vd S c0 (n0 - 1 - k) (k + 1) (t.length + 1) := by have h9 := hD.2; rw [c109, nxN, if_neg (by decide), show tkN 2 = 2 from by decide, hlen] at h9; exact h9
                    refine lv_iinc (v := nI (t.length + 1)) (lv' := [(7, .int (nI (t.length + 1))), (6, .int (cost + (S 1 (9 * pz + cl (S 15 (24 * c0 + k)))))), (10, .int (S 16 (24 * c0 + k))), (9, .int (S 15 (24 * c0 + k))), (0, .ref g), (1, .int (nI c0)), (2, .long arg), (4, .int lim), (5, .int (nI pz)), (8, .int (nI (24 * c0 + k)))]) hx hb dX7_runs_271 hl (k := 8) rfl (by rw [hlen]; exact pk_m1 _) (by decide) rfl (fun ls hl => ?_)
                    refine lv_iload hx hb dX7_runs_274 (lv_at hl 3 rfl) ?_
                    refine lv_iconst (v := 5) hx hb dX7_runs_276 (by decide) ?_
                    refine lv_icmp_ne (tgt := 295) hx hb dX7_runs_277 (by decide) (fun c277 => ?_) (fun c277 => ?_)
                    · rw [if_neg (fun h9 => c277 h9.1)] at hv
                      refine lv_aload_n hx hb dX7_runs_295 rfl (lv_at hl 4 rfl) ?_
                      refine rg_73 X hw hR dX7_runs_296 ?_
                      refine lv_iload hx hb dX7_runs_299 (lv_at hl 0 rfl) ?_
                      refine lv_iconst (v := 1) hx hb dX7_runs_301 (by decide) ?_
                      refine lv_isub hx hb dX7_runs_302 ?_
                      refine lv_iload hx hb dX7_runs_303 (lv_at hl 3 rfl) ?_
                      refine lv_aload_n hx hb dX7_runs_305 rfl (lv_at hl 4 rfl) ?_
                      refine rg_73 X hw hR dX7_runs_306 ?_
                      refine lv_iload hx hb dX7_runs_309 (lv_at hl 0 rfl) ?_
                      refine lv_iconst (v := 1) hx hb dX7_runs_311 (by decide) ?_
                      refine lv_isub hx hb dX7_runs_312 ?_
                      refine rk_lald X hw hR 25 (n := 24) (by omega) (t.length) (nI_p) (by omega) dX7_runs_313 ?_
                      refine mm_eqL (y := y) (hy) ?_
                      refine lv_aload_n hx hb dX7_runs_314 rfl (lv_at hl 4 rfl) ?_
                      refine rg_73 X hw hR dX7_runs_315 ?_
                      refine lv_iload hx hb dX7_runs_318 (lv_at hl 0 rfl) ?_
                      refine rk_lald X hw hR 25 (n := 24) (by omega) (t.length + 1) (rfl) (by omega) dX7_runs_320 ?_
                      refine mm_eqL (y := u) (hu) ?_
                      refine mm_callS (As := [.int (S 15 (24 * c0 + k)), .long y, .long u]) (rest := [.int ((nI (t.length + 1)) - 1), .ref (L 25)]) X hw (m_worked l G _ (S 15 (24 * c0 + k)) y u (fun z2 z3 z4 => absurd c109 z2)) wd_X7_122 ⟨Nat.le_of_ble_eq_true rfl, Nat.le_of_ble_eq_true rfl⟩ ⟨Nat.le_of_ble_eq_true rfl, Nat.le_of_ble_eq_true rfl⟩ rfl rfl (Nat.le_of_ble_eq_true rfl) hl.1 dX7_runs_321 (fun v9 M9 H9 locs9 hp9 hw => ?_)
                      obtain ⟨rfl, rfl⟩ := hp9
                      refine W.eq (g2 := F0 m 324 ls [.long (wk (S 15 (24 * c0 + k)) y u), .int ((nI (t.length + 1)) - 1), .ref (L 25)]) rfl ?_
                      refine rk_last X hw hR 25 (n := 24) (by omega) (t.length) (nI_p) (by omega) dX7_runs_324 (fun M9 H9 locs9 hw hR => ?_)
                      refine lv_iinc (v := nI (24 * c0 + (k + 1))) (lv' := [(8, .int (nI (24 * c0 + (k + 1)))), (7, .int (nI (t.length + 1))), (6, .int (cost + (S 1 (9 * pz + cl (S 15 (24 * c0 + k)))))), (10, .int (S 16 (24 * c0 + k))), (9, .int (S 15 (24 * c0 + k))), (0, .ref g), (1, .int (nI c0)), (2, .long arg), (4, .int lim), (5, .int (nI pz))]) hx hb dX7_runs_325 hl (k := 9) rfl (nI_s _) (by decide) rfl (fun ls hl => ?_)
                      refine lv_goto (tgt := 45) hx hb dX7_runs_328 (by decide) ?_
                      exact ih (k + 1) (cost + S 1 (9 * pz + cl (S 15 (24 * c0 + k)))) (wk (S 15 (24 * c0 + k)) y u :: t) as _ _ _ _ _ (by omega) (by omega) (by simp only [List.length_cons]; omega) (by rw [show n0 - (k + 1) = n0 - 1 - k from by omega]; exact hD2) (by rw [va_up_self]; exact pl_push hp2 _) (fun j h9 => (by rw [va_up_ne _ _ (by decide)]; exact hs j h9)) (by rw [va_up_ne _ _ (by decide)]; exact h27) (by rw [show n0 - (k + 1) = n0 - 1 - k from by omega]; exact hv) hw hR (lv_sub hl [5, 6, 7, 8, 9, 2, 1, 0] rfl)
                    · refine lv_aload_n hx hb dX7_runs_280 rfl (lv_at hl 4 rfl) ?_
                      refine rg_73 X hw hR dX7_runs_281 ?_
                      refine lv_iload hx hb dX7_runs_284 (lv_at hl 0 rfl) ?_
                      refine rk_lald X hw hR 25 (n := 24) (by omega) (t.length + 1) (rfl) (by omega) dX7_runs_286 ?_
                      refine mm_eqL (y := u) (hu) ?_
                      refine lv_lconst (v := 0) hx hb dX7_runs_287 (by decide) ?_
                      refine W.lcmp hx hb dX7_runs_288 ?_
                      refine mm_lif_ne (tgt := 295) hx hb dX7_runs_289 (by decide) (fun c289 => ?_) (fun c289 => ?_)
                      · rw [if_neg (fun h9 => c289 h9.2)] at hv
                        refine lv_aload_n hx hb dX7_runs_295 rfl (lv_at hl 4 rfl) ?_
                        refine rg_73 X hw hR dX7_runs_296 ?_
                        refine lv_iload hx hb dX7_runs_299 (lv_at hl 0 rfl) ?_
                        refine lv_iconst (v := 1) hx hb dX7_runs_301 (by decide) ?_
                        refine lv_isub hx hb dX7_runs_302 ?_
                        refine lv_iload hx hb dX7_runs_303 (lv_at hl 3 rfl) ?_
                        refine lv_aload_n hx hb dX7_runs_305 rfl (lv_at hl 4 rfl) ?_
                        refine rg_73 X hw hR dX7_runs_306 ?_
                        refine lv_iload hx hb dX7_runs_309 (lv_at hl 0 rfl) ?_
                        refine lv_iconst (v := 1) hx hb dX7_runs_311 (by decide) ?_
                        refine lv_isub hx hb dX7_runs_312 ?_
                        refine rk_lald X hw hR 25 (n := 24) (by omega) (t.length) (nI_p) (by omega) dX7_runs_313 ?_
                        refine mm_eqL (y := y) (hy) ?_
                        refine lv_aload_n hx hb dX7_runs_314 rfl (lv_at hl 4 rfl) ?_
                        refine rg_73 X hw hR dX7_runs_315 ?_
                        refine lv_iload hx hb dX7_runs_318 (lv_at hl 0 rfl) ?_
                        refine rk_lald X hw hR 25 (n := 24) (by omega) (t.length + 1) (rfl) (by omega) dX7_runs_320 ?_
                        refine mm_eqL (y := u) (hu) ?_
                        refine mm_callS (As := [.int (S 15 (24 * c0 + k)), .long y, .long u]) (rest := [.int ((nI (t.length + 1)) - 1), .ref (L 25)]) X hw (m_worked l G _ (S 15 (24 * c0 + k)) y u (fun z2 z3 z4 => absurd c109 z2)) wd_X7_122 ⟨Nat.le_of_ble_eq_true rfl, Nat.le_of_ble_eq_true rfl⟩ ⟨Nat.le_of_ble_eq_true rfl, Nat.le_of_ble_eq_true rfl⟩ rfl rfl (Nat.le_of_ble_eq_true rfl) hl.1 dX7_runs_321 (fun v9 M9 H9 locs9 hp9 hw => ?_)
                        obtain ⟨rfl, rfl⟩ := hp9
                        refine W.eq (g2 := F0 m 324 ls [.long (wk (S 15 (24 * c0 + k)) y u), .int ((nI (t.length + 1)) - 1), .ref (L 25)]) rfl ?_
                        refine rk_last X hw hR 25 (n := 24) (by omega) (t.length) (nI_p) (by omega) dX7_runs_324 (fun M9 H9 locs9 hw hR => ?_)
                        refine lv_iinc (v := nI (24 * c0 + (k + 1))) (lv' := [(8, .int (nI (24 * c0 + (k + 1)))), (7, .int (nI (t.length + 1))), (6, .int (cost + (S 1 (9 * pz + cl (S 15 (24 * c0 + k)))))), (10, .int (S 16 (24 * c0 + k))), (9, .int (S 15 (24 * c0 + k))), (0, .ref g), (1, .int (nI c0)), (2, .long arg), (4, .int lim), (5, .int (nI pz))]) hx hb dX7_runs_325 hl (k := 9) rfl (nI_s _) (by decide) rfl (fun ls hl => ?_)
                        refine lv_goto (tgt := 45) hx hb dX7_runs_328 (by decide) ?_
                        exact ih (k + 1) (cost + S 1 (9 * pz + cl (S 15 (24 * c0 + k)))) (wk (S 15 (24 * c0 + k)) y u :: t) as _ _ _ _ _ (by omega) (by omega) (by simp only [List.length_cons]; omega) (by rw [show n0 - (k + 1) = n0 - 1 - k from by omega]; exact hD2) (by rw [va_up_self]; exact pl_push hp2 _) (fun j h9 => (by rw [va_up_ne _ _ (by decide)]; exact hs j h9)) (by rw [va_up_ne _ _ (by decide)]; exact h27) (by rw [show n0 - (k + 1) = n0 - 1 - k from by omega]; exact hv) hw hR (lv_sub hl [5, 6, 7, 8, 9, 2, 1, 0] rfl)
                      · rw [if_pos ⟨c277, c289⟩] at hv
                        refine lv_bipush (v := (-14)) hx hb dX7_runs_292 (by decide) ?_
                        exact mm_iret hQ X hw (by have e9 : rn S cs c0 pz kp n0 arg lim = ((-14), cs) := (by rw [rn, ← hv]; rfl); rw [e9]; exact ⟨rfl, _, h27, hR⟩) (Nat.le_of_ble_eq_true rfl) (Nat.le_of_ble_eq_true rfl) dX7_runs_294
                  · have c109 : S 15 (24 * c0 + k) = 3 := c109
                    refine lv_tableIn (off := 162) (tgt := 271) hx hb dX7_runs_109 (by rw [c109]; decide) (by rw [c109]; decide) (by rw [c109]; rfl) (by decide) ?_
                    rw [if_neg (by rw [c109]; decide), if_neg (by rw [c109]; decide), if_neg (by rw [c109]; decide), if_neg (by rw [c109]; decide), if_neg (by rw [c109]; decide)] at hv
                    have hg : 2 ≤ st.length := by have h9 := hD.1; rw [c109, show tkN 3 = 2 from by decide] at h9; exact h9
                    obtain ⟨u, y, t, hst⟩ : ∃ u y t, st = u :: y :: t := by match st, hg with | u :: y :: t, _ => exact ⟨u, y, t, rfl⟩
                    have hlen : st.length = t.length + 1 + 1 := by rw [hst]; rfl
                    rw [hst] at hv hp
                    rw [hd_c, tl_c, hd_c, tl_c] at hv
                    obtain ⟨hp1, hu⟩ := pl_pop hp
                    obtain ⟨hp2, hy⟩ := pl_pop hp1
                    have hu : K1 25 (t.length + 1) = u := hu
                    have hD2 : vd S c0 (n0 - 1 - k) (k + 1) (t.length + 1) := by have h9 := hD.2; rw [c109, nxN, if_neg (by decide), show tkN 3 = 2 from by decide, hlen] at h9; exact h9
                    refine lv_iinc (v := nI (t.length + 1)) (lv' := [(7, .int (nI (t.length + 1))), (6, .int (cost + (S 1 (9 * pz + cl (S 15 (24 * c0 + k)))))), (10, .int (S 16 (24 * c0 + k))), (9, .int (S 15 (24 * c0 + k))), (0, .ref g), (1, .int (nI c0)), (2, .long arg), (4, .int lim), (5, .int (nI pz)), (8, .int (nI (24 * c0 + k)))]) hx hb dX7_runs_271 hl (k := 8) rfl (by rw [hlen]; exact pk_m1 _) (by decide) rfl (fun ls hl => ?_)
                    refine lv_iload hx hb dX7_runs_274 (lv_at hl 3 rfl) ?_
                    refine lv_iconst (v := 5) hx hb dX7_runs_276 (by decide) ?_
                    refine lv_icmp_ne (tgt := 295) hx hb dX7_runs_277 (by decide) (fun c277 => ?_) (fun c277 => ?_)
                    · rw [if_neg (fun h9 => c277 h9.1)] at hv
                      refine lv_aload_n hx hb dX7_runs_295 rfl (lv_at hl 4 rfl) ?_
                      refine rg_73 X hw hR dX7_runs_296 ?_
                      refine lv_iload hx hb dX7_runs_299 (lv_at hl 0 rfl) ?_
                      refine lv_iconst (v := 1) hx hb dX7_runs_301 (by decide) ?_
                      refine lv_isub hx hb dX7_runs_302 ?_
                      refine lv_iload hx hb dX7_runs_303 (lv_at hl 3 rfl) ?_
                      refine lv_aload_n hx hb dX7_runs_305 rfl (lv_at hl 4 rfl) ?_
                      refine rg_73 X hw hR dX7_runs_306 ?_
                      refine lv_iload hx hb dX7_runs_309 (lv_at hl 0 rfl) ?_
                      refine lv_iconst (v := 1) hx hb dX7_runs_311 (by decide) ?_
                      refine lv_isub hx hb dX7_runs_312 ?_
                      refine rk_lald X hw hR 25 (n := 24) (by omega) (t.length) (nI_p) (by omega) dX7_runs_313 ?_
                      refine mm_eqL (y := y) (hy) ?_
                      refine lv_aload_n hx hb dX7_runs_314 rfl (lv_at hl 4 rfl) ?_
                      refine rg_73 X hw hR dX7_runs_315 ?_
                      refine lv_iload hx hb dX7_runs_318 (lv_at hl 0 rfl) ?_
                      refine rk_lald X hw hR 25 (n := 24) (by omega) (t.length + 1) (rfl) (by omega) dX7_runs_320 ?_
                      refine mm_eqL (y := u) (hu) ?_
                      refine mm_callS (As := [.int (S 15 (24 * c0 + k)), .long y, .long u]) (rest := [.int ((nI (t.length + 1)) - 1), .ref (L 25)]) X hw (m_worked l G _ (S 15 (24 * c0 + k)) y u (fun z2 z3 z4 => absurd c109 z3)) wd_X7_122 ⟨Nat.le_of_ble_eq_true rfl, Nat.le_of_ble_eq_true rfl⟩ ⟨Nat.le_of_ble_eq_true rfl, Nat.le_of_ble_eq_true rfl⟩ rfl rfl (Nat.le_of_ble_eq_true rfl) hl.1 dX7_runs_321 (fun v9 M9 H9 locs9 hp9 hw => ?_)
                      obtain ⟨rfl, rfl⟩ := hp9
                      refine W.eq (g2 := F0 m 324 ls [.long (wk (S 15 (24 * c0 + k)) y u), .int ((nI (t.length + 1)) - 1), .ref (L 25)]) rfl ?_
                      refine rk_last X hw hR 25 (n := 24) (by omega) (t.length) (nI_p) (by omega) dX7_runs_324 (fun M9 H9 locs9 hw hR => ?_)
                      refine lv_iinc (v := nI (24 * c0 + (k + 1))) (lv' := [(8, .int (nI (24 * c0 + (k + 1)))), (7, .int (nI (t.length + 1))), (6, .int (cost + (S 1 (9 * pz + cl (S 15 (24 * c0 + k)))))), (10, .int (S 16 (24 * c0 + k))), (9, .int (S 15 (24 * c0 + k))), (0, .ref g), (1, .int (nI c0)), (2, .long arg), (4, .int lim), (5, .int (nI pz))]) hx hb dX7_runs_325 hl (k := 9) rfl (nI_s _) (by decide) rfl (fun ls hl => ?_)
                      refine lv_goto (tgt := 45) hx hb dX7_runs_328 (by decide) ?_
                      exact ih (k + 1) (cost + S 1 (9 * pz + cl (S 15 (24 * c0 + k)))) (wk (S 15 (24 * c0 + k)) y u :: t) as _ _ _ _ _ (by omega) (by omega) (by simp only [List.length_cons]; omega) (by rw [show n0 - (k + 1) = n0 - 1 - k from by omega]; exact hD2) (by rw [va_up_self]; exact pl_push hp2 _) (fun j h9 => (by rw [va_up_ne _ _ (by decide)]; exact hs j h9)) (by rw [va_up_ne _ _ (by decide)]; exact h27) (by rw [show n0 - (k + 1) = n0 - 1 - k from by omega]; exact hv) hw hR (lv_sub hl [5, 6, 7, 8, 9, 2, 1, 0] rfl)
                    · refine lv_aload_n hx hb dX7_runs_280 rfl (lv_at hl 4 rfl) ?_
                      refine rg_73 X hw hR dX7_runs_281 ?_
                      refine lv_iload hx hb dX7_runs_284 (lv_at hl 0 rfl) ?_
                      refine rk_lald X hw hR 25 (n := 24) (by omega) (t.length + 1) (rfl) (by omega) dX7_runs_286 ?_
                      refine mm_eqL (y := u) (hu) ?_
                      refine lv_lconst (v := 0) hx hb dX7_runs_287 (by decide) ?_
                      refine W.lcmp hx hb dX7_runs_288 ?_
                      refine mm_lif_ne (tgt := 295) hx hb dX7_runs_289 (by decide) (fun c289 => ?_) (fun c289 => ?_)
                      · rw [if_neg (fun h9 => c289 h9.2)] at hv
                        refine lv_aload_n hx hb dX7_runs_295 rfl (lv_at hl 4 rfl) ?_
                        refine rg_73 X hw hR dX7_runs_296 ?_
                        refine lv_iload hx hb dX7_runs_299 (lv_at hl 0 rfl) ?_
                        refine lv_iconst (v := 1) hx hb dX7_runs_301 (by decide) ?_
                        refine lv_isub hx hb dX7_runs_302 ?_
                        refine lv_iload hx hb dX7_runs_303 (lv_at hl 3 rfl) ?_
                        refine lv_aload_n hx hb dX7_runs_305 rfl (lv_at hl 4 rfl) ?_
                        refine rg_73 X hw hR dX7_runs_306 ?_
                        refine lv_iload hx hb dX7_runs_309 (lv_at hl 0 rfl) ?_
                        refine lv_iconst (v := 1) hx hb dX7_runs_311 (by decide) ?_
                        refine lv_isub hx hb dX7_runs_312 ?_
                        refine rk_lald X hw hR 25 (n := 24) (by omega) (t.length) (nI_p) (by omega) dX7_runs_313 ?_
                        refine mm_eqL (y := y) (hy) ?_
                        refine lv_aload_n hx hb dX7_runs_314 rfl (lv_at hl 4 rfl) ?_
                        refine rg_73 X hw hR dX7_runs_315 ?_
                        refine lv_iload hx hb dX7_runs_318 (lv_at hl 0 rfl) ?_
                        refine rk_lald X hw hR 25 (n := 24) (by omega) (t.length + 1) (rfl) (by omega) dX7_runs_320 ?_
                        refine mm_eqL (y := u) (hu) ?_
                        refine mm_callS (As := [.int (S 15 (24 * c0 + k)), .long y, .long u]) (rest := [.int ((nI (t.length + 1)) - 1), .ref (L 25)]) X hw (m_worked l G _ (S 15 (24 * c0 + k)) y u (fun z2 z3 z4 => absurd c109 z3)) wd_X7_122 ⟨Nat.le_of_ble_eq_true rfl, Nat.le_of_ble_eq_true rfl⟩ ⟨Nat.le_of_ble_eq_true rfl, Nat.le_of_ble_eq_true rfl⟩ rfl rfl (Nat.le_of_ble_eq_true rfl) hl.1 dX7_runs_321 (fun v9 M9 H9 locs9 hp9 hw => ?_)
                        obtain ⟨rfl, rfl⟩ := hp9
                        refine W.eq (g2 := F0 m 324 ls [.long (wk (S 15 (24 * c0 + k)) y u), .int ((nI (t.length + 1)) - 1), .ref (L 25)]) rfl ?_
                        refine rk_last X hw hR 25 (n := 24) (by omega) (t.length) (nI_p) (by omega) dX7_runs_324 (fun M9 H9 locs9 hw hR => ?_)
                        refine lv_iinc (v := nI (24 * c0 + (k + 1))) (lv' := [(8, .int (nI (24 * c0 + (k + 1)))), (7, .int (nI (t.length + 1))), (6, .int (cost + (S 1 (9 * pz + cl (S 15 (24 * c0 + k)))))), (10, .int (S 16 (24 * c0 + k))), (9, .int (S 15 (24 * c0 + k))), (0, .ref g), (1, .int (nI c0)), (2, .long arg), (4, .int lim), (5, .int (nI pz))]) hx hb dX7_runs_325 hl (k := 9) rfl (nI_s _) (by decide) rfl (fun ls hl => ?_)
                        refine lv_goto (tgt := 45) hx hb dX7_runs_328 (by decide) ?_
                        exact ih (k + 1) (cost + S 1 (9 * pz + cl (S 15 (24 * c0 + k)))) (wk (S 15 (24 * c0 + k)) y u :: t) as _ _ _ _ _ (by omega) (by omega) (by simp only [List.length_cons]; omega) (by rw [show n0 - (k + 1) = n0 - 1 - k from by omega]; exact hD2) (by rw [va_up_self]; exact pl_push hp2 _) (fun j h9 => (by rw [va_up_ne _ _ (by decide)]; exact hs j h9)) (by rw [va_up_ne _ _ (by decide)]; exact h27) (by rw [show n0 - (k + 1) = n0 - 1 - k from by omega]; exact hv) hw hR (lv_sub hl [5, 6, 7, 8, 9, 2, 1, 0] rfl)
                      · rw [if_pos ⟨c277, c289⟩] at hv
                        refine lv_bipush (v := (-14)) hx hb dX7_runs_292 (by decide) ?_
                        exact mm_iret hQ X hw (by have e9 : rn S cs c0 pz kp n0 arg lim = ((-14), cs) := (by rw [rn, ← hv]; rfl); rw [e9]; exact ⟨rfl, _, h27, hR⟩) (Nat.le_of_ble_eq_true rfl) (Nat.le_of_ble_eq_true rfl) dX7_runs_294
                  · have c109 : S 15 (24 * c0 + k) = 4 := c109
                    refine lv_tableIn (off := 162) (tgt := 271) hx hb dX7_runs_109 (by rw [c109]; decide) (by rw [c109]; decide) (by rw [c109]; rfl) (by decide) ?_
                    rw [if_neg (by rw [c109]; decide), if_neg (by rw [c109]; decide), if_neg (by rw [c109]; decide), if_neg (by rw [c109]; decide), if_neg (by rw [c109]; decide)] at hv
                    have hg : 2 ≤ st.length := by have h9 := hD.1; rw [c109, show tkN 4 = 2 from by decide] at h9; exact h9
                    obtain ⟨u, y, t, hst⟩ : ∃ u y t, st = u :: y :: t := by match st, hg with | u :: y :: t, _ => exact ⟨u, y, t, rfl⟩
                    have hlen : st.length = t.length + 1 + 1 := by rw [hst]; rfl
                    rw [hst] at hv hp
                    rw [hd_c, tl_c, hd_c, tl_c] at hv
                    obtain ⟨hp1, hu⟩ := pl_pop hp
                    obtain ⟨hp2, hy⟩ := pl_pop hp1
                    have hu : K1 25 (t.length + 1) = u := hu
                    have hD2 : vd S c0 (n0 - 1 - k) (k + 1) (t.length + 1) := by have h9 := hD.2; rw [c109, nxN, if_neg (by decide), show tkN 4 = 2 from by decide, hlen] at h9; exact h9
                    refine lv_iinc (v := nI (t.length + 1)) (lv' := [(7, .int (nI (t.length + 1))), (6, .int (cost + (S 1 (9 * pz + cl (S 15 (24 * c0 + k)))))), (10, .int (S 16 (24 * c0 + k))), (9, .int (S 15 (24 * c0 + k))), (0, .ref g), (1, .int (nI c0)), (2, .long arg), (4, .int lim), (5, .int (nI pz)), (8, .int (nI (24 * c0 + k)))]) hx hb dX7_runs_271 hl (k := 8) rfl (by rw [hlen]; exact pk_m1 _) (by decide) rfl (fun ls hl => ?_)
                    refine lv_iload hx hb dX7_runs_274 (lv_at hl 3 rfl) ?_
                    refine lv_iconst (v := 5) hx hb dX7_runs_276 (by decide) ?_
                    refine lv_icmp_ne (tgt := 295) hx hb dX7_runs_277 (by decide) (fun c277 => ?_) (fun c277 => ?_)
                    · rw [if_neg (fun h9 => c277 h9.1)] at hv
                      refine lv_aload_n hx hb dX7_runs_295 rfl (lv_at hl 4 rfl) ?_
                      refine rg_73 X hw hR dX7_runs_296 ?_
                      refine lv_iload hx hb dX7_runs_299 (lv_at hl 0 rfl) ?_
                      refine lv_iconst (v := 1) hx hb dX7_runs_301 (by decide) ?_
                      refine lv_isub hx hb dX7_runs_302 ?_
                      refine lv_iload hx hb dX7_runs_303 (lv_at hl 3 rfl) ?_
                      refine lv_aload_n hx hb dX7_runs_305 rfl (lv_at hl 4 rfl) ?_
                      refine rg_73 X hw hR dX7_runs_306 ?_
                      refine lv_iload hx hb dX7_runs_309 (lv_at hl 0 rfl) ?_
                      refine lv_iconst (v := 1) hx hb dX7_runs_311 (by decide) ?_
                      refine lv_isub hx hb dX7_runs_312 ?_
                      refine rk_lald X hw hR 25 (n := 24) (by omega) (t.length) (nI_p) (by omega) dX7_runs_313 ?_
                      refine mm_eqL (y := y) (hy) ?_
                      refine lv_aload_n hx hb dX7_runs_314 rfl (lv_at hl 4 rfl) ?_
                      refine rg_73 X hw hR dX7_runs_315 ?_
                      refine lv_iload hx hb dX7_runs_318 (lv_at hl 0 rfl) ?_
                      refine rk_lald X hw hR 25 (n := 24) (by omega) (t.length + 1) (rfl) (by omega) dX7_runs_320 ?_
                      refine mm_eqL (y := u) (hu) ?_
                      refine mm_callS (As := [.int (S 15 (24 * c0 + k)), .long y, .long u]) (rest := [.int ((nI (t.length + 1)) - 1), .ref (L 25)]) X hw (m_worked l G _ (S 15 (24 * c0 + k)) y u (fun z2 z3 z4 => absurd c109 z4)) wd_X7_122 ⟨Nat.le_of_ble_eq_true rfl, Nat.le_of_ble_eq_true rfl⟩ ⟨Nat.le_of_ble_eq_true rfl, Nat.le_of_ble_eq_true rfl⟩ rfl rfl (Nat.le_of_ble_eq_true rfl) hl.1 dX7_runs_321 (fun v9 M9 H9 locs9 hp9 hw => ?_)
                      obtain ⟨rfl, rfl⟩ := hp9
                      refine W.eq (g2 := F0 m 324 ls [.long (wk (S 15 (24 * c0 + k)) y u), .int ((nI (t.length + 1)) - 1), .ref (L 25)]) rfl ?_
                      refine rk_last X hw hR 25 (n := 24) (by omega) (t.length) (nI_p) (by omega) dX7_runs_324 (fun M9 H9 locs9 hw hR => ?_)
                      refine lv_iinc (v := nI (24 * c0 + (k + 1))) (lv' := [(8, .int (nI (24 * c0 + (k + 1)))), (7, .int (nI (t.length + 1))), (6, .int (cost + (S 1 (9 * pz + cl (S 15 (24 * c0 + k)))))), (10, .int (S 16 (24 * c0 + k))), (9, .int (S 15 (24 * c0 + k))), (0, .ref g), (1, .int (nI c0)), (2, .long arg), (4, .int lim), (5, .int (nI pz))]) hx hb dX7_runs_325 hl (k := 9) rfl (nI_s _) (by decide) rfl (fun ls hl => ?_)
                      refine lv_goto (tgt := 45) hx hb dX7_runs_328 (by decide) ?_
                      exact ih (k + 1) (cost + S 1 (9 * pz + cl (S 15 (24 * c0 + k)))) (wk (S 15 (24 * c0 + k)) y u :: t) as _ _ _ _ _ (by omega) (by omega) (by simp only [List.length_cons]; omega) (by rw [show n0 - (k + 1) = n0 - 1 - k from by omega]; exact hD2) (by rw [va_up_self]; exact pl_push hp2 _) (fun j h9 => (by rw [va_up_ne _ _ (by decide)]; exact hs j h9)) (by rw [va_up_ne _ _ (by decide)]; exact h27) (by rw [show n0 - (k + 1) = n0 - 1 - k from by omega]; exact hv) hw hR (lv_sub hl [5, 6, 7, 8, 9, 2, 1, 0] rfl)
                    · refine lv_aload_n hx hb dX7_runs_280 rfl (lv_at hl 4 rfl) ?_
                      refine rg_73 X hw hR dX7_runs_281 ?_
                      refine lv_iload hx hb dX7_runs_284 (lv_at hl 0 rfl) ?_
                      refine rk_lald X hw hR 25 (n := 24) (by omega) (t.length + 1) (rfl) (by omega) dX7_runs_286 ?_
                      refine mm_eqL (y := u) (hu) ?_
                      refine lv_lconst (v := 0) hx hb dX7_runs_287 (by decide) ?_
                      refine W.lcmp hx hb dX7_runs_288 ?_
                      refine mm_lif_ne (tgt := 295) hx hb dX7_runs_289 (by decide) (fun c289 => ?_) (fun c289 => ?_)
                      · rw [if_neg (fun h9 => c289 h9.2)] at hv
                        refine lv_aload_n hx hb dX7_runs_295 rfl (lv_at hl 4 rfl) ?_
                        refine rg_73 X hw hR dX7_runs_296 ?_
                        refine lv_iload hx hb dX7_runs_299 (lv_at hl 0 rfl) ?_
                        refine lv_iconst (v := 1) hx hb dX7_runs_301 (by decide) ?_
                        refine lv_isub hx hb dX7_runs_302 ?_
                        refine lv_iload hx hb dX7_runs_303 (lv_at hl 3 rfl) ?_
                        refine lv_aload_n hx hb dX7_runs_305 rfl (lv_at hl 4 rfl) ?_
                        refine rg_73 X hw hR dX7_runs_306 ?_
                        refine lv_iload hx hb dX7_runs_309 (lv_at hl 0 rfl) ?_
                        refine lv_iconst (v := 1) hx hb dX7_runs_311 (by decide) ?_
                        refine lv_isub hx hb dX7_runs_312 ?_
                        refine rk_lald X hw hR 25 (n := 24) (by omega) (t.length) (nI_p) (by omega) dX7_runs_313 ?_
                        refine mm_eqL (y := y) (hy) ?_
                        refine lv_aload_n hx hb dX7_runs_314 rfl (lv_at hl 4 rfl) ?_
                        refine rg_73 X hw hR dX7_runs_315 ?_
                        refine lv_iload hx hb dX7_runs_318 (lv_at hl 0 rfl) ?_
                        refine rk_lald X hw hR 25 (n := 24) (by omega) (t.length + 1) (rfl) (by omega) dX7_runs_320 ?_
                        refine mm_eqL (y := u) (hu) ?_
                        refine mm_callS (As := [.int (S 15 (24 * c0 + k)), .long y, .long u]) (rest := [.int ((nI (t.length + 1)) - 1), .ref (L 25)]) X hw (m_worked l G _ (S 15 (24 * c0 + k)) y u (fun z2 z3 z4 => absurd c109 z4)) wd_X7_122 ⟨Nat.le_of_ble_eq_true rfl, Nat.le_of_ble_eq_true rfl⟩ ⟨Nat.le_of_ble_eq_true rfl, Nat.le_of_ble_eq_true rfl⟩ rfl rfl (Nat.le_of_ble_eq_true rfl) hl.1 dX7_runs_321 (fun v9 M9 H9 locs9 hp9 hw => ?_)
                        obtain ⟨rfl, rfl⟩ := hp9
                        refine W.eq (g2 := F0 m 324 ls [.long (wk (S 15 (24 * c0 + k)) y u), .int ((nI (t.length + 1)) - 1), .ref (L 25)]) rfl ?_
                        refine rk_last X hw hR 25 (n := 24) (by omega) (t.length) (nI_p) (by omega) dX7_runs_324 (fun M9 H9 locs9 hw hR => ?_)
                        refine lv_iinc (v := nI (24 * c0 + (k + 1))) (lv' := [(8, .int (nI (24 * c0 + (k + 1)))), (7, .int (nI (t.length + 1))), (6, .int (cost + (S 1 (9 * pz + cl (S 15 (24 * c0 + k)))))), (10, .int (S 16 (24 * c0 + k))), (9, .int (S 15 (24 * c0 + k))), (0, .ref g), (1, .int (nI c0)), (2, .long arg), (4, .int lim), (5, .int (nI pz))]) hx hb dX7_runs_325 hl (k := 9) rfl (nI_s _) (by decide) rfl (fun ls hl => ?_)
                        refine lv_goto (tgt := 45) hx hb dX7_runs_328 (by decide) ?_
                        exact ih (k + 1) (cost + S 1 (9 * pz + cl (S 15 (24 * c0 + k)))) (wk (S 15 (24 * c0 + k)) y u :: t) as _ _ _ _ _ (by omega) (by omega) (by simp only [List.length_cons]; omega) (by rw [show n0 - (k + 1) = n0 - 1 - k from by omega]; exact hD2) (by rw [va_up_self]; exact pl_push hp2 _) (fun j h9 => (by rw [va_up_ne _ _ (by decide)]; exact hs j h9)) (by rw [va_up_ne _ _ (by decide)]; exact h27) (by rw [show n0 - (k + 1) = n0 - 1 - k from by omega]; exact hv) hw hR (lv_sub hl [5, 6, 7, 8, 9, 2, 1, 0] rfl)
                      · rw [if_pos ⟨c277, c289⟩] at hv
                        refine lv_bipush (v := (-14)) hx hb dX7_runs_292 (by decide) ?_
                        exact mm_iret hQ X hw (by have e9 : rn S cs c0 pz kp n0 arg lim = ((-14), cs) := (by rw [rn, ← hv]; rfl); rw [e9]; exact ⟨rfl, _, h27, hR⟩) (Nat.le_of_ble_eq_true rfl) (Nat.le_of_ble_eq_true rfl) dX7_runs_294
                  · have c109 : S 15 (24 * c0 + k) = 5 := c109
                    refine lv_tableIn (off := 162) (tgt := 271) hx hb dX7_runs_109 (by rw [c109]; decide) (by rw [c109]; decide) (by rw [c109]; rfl) (by decide) ?_
                    rw [if_neg (by rw [c109]; decide), if_neg (by rw [c109]; decide), if_neg (by rw [c109]; decide), if_neg (by rw [c109]; decide), if_neg (by rw [c109]; decide)] at hv
                    have hg : 2 ≤ st.length := by have h9 := hD.1; rw [c109, show tkN 5 = 2 from by decide] at h9; exact h9
                    obtain ⟨u, y, t, hst⟩ : ∃ u y t, st = u :: y :: t := by match st, hg with | u :: y :: t, _ => exact ⟨u, y, t, rfl⟩
                    have hlen : st.length = t.length + 1 + 1 := by rw [hst]; rfl
                    rw [hst] at hv hp
                    rw [hd_c, tl_c, hd_c, tl_c] at hv
                    obtain ⟨hp1, hu⟩ := pl_pop hp
                    obtain ⟨hp2, hy⟩ := pl_pop hp1
                    have hu : K1 25 (t.length + 1) = u := hu
                    have hD2 : vd S c0 (n0 - 1 - k) (k + 1) (t.length + 1) := by have h9 := hD.2; rw [c109, nxN, if_neg (by decide), show tkN 5 = 2 from by decide, hlen] at h9; exact h9
                    refine lv_iinc (v := nI (t.length + 1)) (lv' := [(7, .int (nI (t.length + 1))), (6, .int (cost + (S 1 (9 * pz + cl (S 15 (24 * c0 + k)))))), (10, .int (S 16 (24 * c0 + k))), (9, .int (S 15 (24 * c0 + k))), (0, .ref g), (1, .int (nI c0)), (2, .long arg), (4, .int lim), (5, .int (nI pz)), (8, .int (nI (24 * c0 + k)))]) hx hb dX7_runs_271 hl (k := 8) rfl (by rw [hlen]; exact pk_m1 _) (by decide) rfl (fun ls hl => ?_)
                    refine lv_iload hx hb dX7_runs_274 (lv_at hl 3 rfl) ?_
                    refine lv_iconst (v := 5) hx hb dX7_runs_276 (by decide) ?_
                    refine lv_icmp_ne (tgt := 295) hx hb dX7_runs_277 (by decide) (fun c277 => ?_) (fun c277 => ?_)
                    · rw [if_neg (fun h9 => c277 h9.1)] at hv
                      refine lv_aload_n hx hb dX7_runs_295 rfl (lv_at hl 4 rfl) ?_
                      refine rg_73 X hw hR dX7_runs_296 ?_
                      refine lv_iload hx hb dX7_runs_299 (lv_at hl 0 rfl) ?_
                      refine lv_iconst (v := 1) hx hb dX7_runs_301 (by decide) ?_
                      refine lv_isub hx hb dX7_runs_302 ?_
                      refine lv_iload hx hb dX7_runs_303 (lv_at hl 3 rfl) ?_
                      refine lv_aload_n hx hb dX7_runs_305 rfl (lv_at hl 4 rfl) ?_
                      refine rg_73 X hw hR dX7_runs_306 ?_
                      refine lv_iload hx hb dX7_runs_309 (lv_at hl 0 rfl) ?_
                      refine lv_iconst (v := 1) hx hb dX7_runs_311 (by decide) ?_
                      refine lv_isub hx hb dX7_runs_312 ?_
                      refine rk_lald X hw hR 25 (n := 24) (by omega) (t.length) (nI_p) (by omega) dX7_runs_313 ?_
                      refine mm_eqL (y := y) (hy) ?_
                      refine lv_aload_n hx hb dX7_runs_314 rfl (lv_at hl 4 rfl) ?_
                      refine rg_73 X hw hR dX7_runs_315 ?_
                      refine lv_iload hx hb dX7_runs_318 (lv_at hl 0 rfl) ?_
                      refine rk_lald X hw hR 25 (n := 24) (by omega) (t.length + 1) (rfl) (by omega) dX7_runs_320 ?_
                      refine mm_eqL (y := u) (hu) ?_
                      refine mm_callS (As := [.int (S 15 (24 * c0 + k)), .long y, .long u]) (rest := [.int ((nI (t.length + 1)) - 1), .ref (L 25)]) X hw (m_worked l G _ (S 15 (24 * c0 + k)) y u (fun z2 z3 z4 => absurd c109 c277)) wd_X7_122 ⟨Nat.le_of_ble_eq_true rfl, Nat.le_of_ble_eq_true rfl⟩ ⟨Nat.le_of_ble_eq_true rfl, Nat.le_of_ble_eq_true rfl⟩ rfl rfl (Nat.le_of_ble_eq_true rfl) hl.1 dX7_runs_321 (fun v9 M9 H9 locs9 hp9 hw => ?_)
                      obtain ⟨rfl, rfl⟩ := hp9
                      refine W.eq (g2 := F0 m 324 ls [.long (wk (S 15 (24 * c0 + k)) y u), .int ((nI (t.length + 1)) - 1), .ref (L 25)]) rfl ?_
                      refine rk_last X hw hR 25 (n := 24) (by omega) (t.length) (nI_p) (by omega) dX7_runs_324 (fun M9 H9 locs9 hw hR => ?_)
                      refine lv_iinc (v := nI (24 * c0 + (k + 1))) (lv' := [(8, .int (nI (24 * c0 + (k + 1)))), (7, .int (nI (t.length + 1))), (6, .int (cost + (S 1 (9 * pz + cl (S 15 (24 * c0 + k)))))), (10, .int (S 16 (24 * c0 + k))), (9, .int (S 15 (24 * c0 + k))), (0, .ref g), (1, .int (nI c0)), (2, .long arg), (4, .int lim), (5, .int (nI pz))]) hx hb dX7_runs_325 hl (k := 9) rfl (nI_s _) (by decide) rfl (fun ls hl => ?_)
                      refine lv_goto (tgt := 45) hx hb dX7_runs_328 (by decide) ?_
                      exact ih (k + 1) (cost + S 1 (9 * pz + cl (S 15 (24 * c0 + k)))) (wk (S 15 (24 * c0 + k)) y u :: t) as _ _ _ _ _ (by omega) (by omega) (by simp only [List.length_cons]; omega) (by rw [show n0 - (k + 1) = n0 - 1 - k from by omega]; exact hD2) (by rw [va_up_self]; exact pl_push hp2 _) (fun j h9 => (by rw [va_up_ne _ _ (by decide)]; exact hs j h9)) (by rw [va_up_ne _ _ (by decide)]; exact h27) (by rw [show n0 - (k + 1) = n0 - 1 - k from by omega]; exact hv) hw hR (lv_sub hl [5, 6, 7, 8, 9, 2, 1, 0] rfl)
                    · refine lv_aload_n hx hb dX7_runs_280 rfl (lv_at hl 4 rfl) ?_
                      refine rg_73 X hw hR dX7_runs_281 ?_
                      refine lv_iload hx hb dX7_runs_284 (lv_at hl 0 rfl) ?_
                      refine rk_lald X hw hR 25 (n := 24) (by omega) (t.length + 1) (rfl) (by omega) dX7_runs_286 ?_
                      refine mm_eqL (y := u) (hu) ?_
                      refine lv_lconst (v := 0) hx hb dX7_runs_287 (by decide) ?_
                      refine W.lcmp hx hb dX7_runs_288 ?_
                      refine mm_lif_ne (tgt := 295) hx hb dX7_runs_289 (by decide) (fun c289 => ?_) (fun c289 => ?_)
                      · rw [if_neg (fun h9 => c289 h9.2)] at hv
                        refine lv_aload_n hx hb dX7_runs_295 rfl (lv_at hl 4 rfl) ?_
                        refine rg_73 X hw hR dX7_runs_296 ?_
                        refine lv_iload hx hb dX7_runs_299 (lv_at hl 0 rfl) ?_
                        refine lv_iconst (v := 1) hx hb dX7_runs_301 (by decide) ?_
                        refine lv_isub hx hb dX7_runs_302 ?_
                        refine lv_iload hx hb dX7_runs_303 (lv_at hl 3 rfl) ?_
                        refine lv_aload_n hx hb dX7_runs_305 rfl (lv_at hl 4 rfl) ?_
                        refine rg_73 X hw hR dX7_runs_306 ?_
                        refine lv_iload hx hb dX7_runs_309 (lv_at hl 0 rfl) ?_
                        refine lv_iconst (v := 1) hx hb dX7_runs_311 (by decide) ?_
                        refine lv_isub hx hb dX7_runs_312 ?_
                        refine rk_lald X hw hR 25 (n := 24) (by omega) (t.length) (nI_p) (by omega) dX7_runs_313 ?_
                        refine mm_eqL (y := y) (hy) ?_
                        refine lv_aload_n hx hb dX7_runs_314 rfl (lv_at hl 4 rfl) ?_
                        refine rg_73 X hw hR dX7_runs_315 ?_
                        refine lv_iload hx hb dX7_runs_318 (lv_at hl 0 rfl) ?_
                        refine rk_lald X hw hR 25 (n := 24) (by omega) (t.length + 1) (rfl) (by omega) dX7_runs_320 ?_
                        refine mm_eqL (y := u) (hu) ?_
                        refine mm_callS (As := [.int (S 15 (24 * c0 + k)), .long y, .long u]) (rest := [.int ((nI (t.length + 1)) - 1), .ref (L 25)]) X hw (m_worked l G _ (S 15 (24 * c0 + k)) y u (fun z2 z3 z4 => c289)) wd_X7_122 ⟨Nat.le_of_ble_eq_true rfl, Nat.le_of_ble_eq_true rfl⟩ ⟨Nat.le_of_ble_eq_true rfl, Nat.le_of_ble_eq_true rfl⟩ rfl rfl (Nat.le_of_ble_eq_true rfl) hl.1 dX7_runs_321 (fun v9 M9 H9 locs9 hp9 hw => ?_)
                        obtain ⟨rfl, rfl⟩ := hp9
                        refine W.eq (g2 := F0 m 324 ls [.long (wk (S 15 (24 * c0 + k)) y u), .int ((nI (t.length + 1)) - 1), .ref (L 25)]) rfl ?_
                        refine rk_last X hw hR 25 (n := 24) (by omega) (t.length) (nI_p) (by omega) dX7_runs_324 (fun M9 H9 locs9 hw hR => ?_)
                        refine lv_iinc (v := nI (24 * c0 + (k + 1))) (lv' := [(8, .int (nI (24 * c0 + (k + 1)))), (7, .int (nI (t.length + 1))), (6, .int (cost + (S 1 (9 * pz + cl (S 15 (24 * c0 + k)))))), (10, .int (S 16 (24 * c0 + k))), (9, .int (S 15 (24 * c0 + k))), (0, .ref g), (1, .int (nI c0)), (2, .long arg), (4, .int lim), (5, .int (nI pz))]) hx hb dX7_runs_325 hl (k := 9) rfl (nI_s _) (by decide) rfl (fun ls hl => ?_)
                        refine lv_goto (tgt := 45) hx hb dX7_runs_328 (by decide) ?_
                        exact ih (k + 1) (cost + S 1 (9 * pz + cl (S 15 (24 * c0 + k)))) (wk (S 15 (24 * c0 + k)) y u :: t) as _ _ _ _ _ (by omega) (by omega) (by simp only [List.length_cons]; omega) (by rw [show n0 - (k + 1) = n0 - 1 - k from by omega]; exact hD2) (by rw [va_up_self]; exact pl_push hp2 _) (fun j h9 => (by rw [va_up_ne _ _ (by decide)]; exact hs j h9)) (by rw [va_up_ne _ _ (by decide)]; exact h27) (by rw [show n0 - (k + 1) = n0 - 1 - k from by omega]; exact hv) hw hR (lv_sub hl [5, 6, 7, 8, 9, 2, 1, 0] rfl)
                      · rw [if_pos ⟨c277, c289⟩] at hv
                        refine lv_bipush (v := (-14)) hx hb dX7_runs_292 (by decide) ?_
                        exact mm_iret hQ X hw (by have e9 : rn S cs c0 pz kp n0 arg lim = ((-14), cs) := (by rw [rn, ← hv]; rfl); rw [e9]; exact ⟨rfl, _, h27, hR⟩) (Nat.le_of_ble_eq_true rfl) (Nat.le_of_ble_eq_true rfl) dX7_runs_294
                  · have c109 : S 15 (24 * c0 + k) = 6 := c109
                    refine lv_tableIn (off := 81) (tgt := 190) hx hb dX7_runs_109 (by rw [c109]; decide) (by rw [c109]; decide) (by rw [c109]; rfl) (by decide) ?_
                    rw [if_neg (by rw [c109]; decide), if_neg (by rw [c109]; decide), if_pos c109] at hv
                    have hg : 1 ≤ st.length := by have h9 := hD.1; rw [c109, show tkN 6 = 1 from by decide] at h9; exact h9
                    obtain ⟨u, t, hst⟩ : ∃ u t, st = u :: t := by cases st with | nil => exact absurd hg (by simp) | cons u t => exact ⟨u, t, rfl⟩
                    have hlen : st.length = t.length + 1 := by rw [hst]; rfl
                    rw [hst] at hv hp
                    rw [hd_c, tl_c] at hv
                    obtain ⟨hp1, hu⟩ := pl_pop hp
                    obtain ⟨b0, hb0, eb0⟩ := hb6 (nI_inj (by omega) (by decide) (e15.symm.trans c109))
                    have hD2 : vd S c0 (n0 - 1 - k) (k + 1) (t.length + 1) := by have h9 := hD.2; rw [c109, nxN, if_neg (by decide), show tkN 6 = 1 from by decide, hlen] at h9; exact h9
                    refine lv_aload_n hx hb dX7_runs_190 rfl (lv_at hl 3 rfl) ?_
                    refine rg_73 X hw hR dX7_runs_191 ?_
                    refine lv_iload hx hb dX7_runs_194 (lv_at hl 8 rfl) ?_
                    refine lv_iconst (v := 1) hx hb dX7_runs_196 (by decide) ?_
                    refine lv_isub hx hb dX7_runs_197 ?_
                    refine lv_aload_n hx hb dX7_runs_198 rfl (lv_at hl 3 rfl) ?_
                    refine rg_17 X hw hR dX7_runs_199 ?_
                    refine lv_bipush (v := 8) hx hb dX7_runs_202 (by decide) ?_
                    refine lv_aload_n hx hb dX7_runs_204 rfl (lv_at hl 3 rfl) ?_
                    refine rg_42 X hw hR dX7_runs_205 ?_
                    refine lv_iload_n hx hb dX7_runs_208 rfl (lv_at hl 4 rfl) ?_
                    refine ri_iald X hw hR 13 rfl (c0) (rfl) (by omega) dX7_runs_209 ?_
                    refine lv_imul hx hb dX7_runs_210 ?_
                    refine lv_iload hx hb dX7_runs_211 (lv_at hl 1 rfl) ?_
                    refine lv_iadd hx hb dX7_runs_213 ?_
                    refine ri_iald X hw hR 2 rfl (8 * kp + cl (S 16 (24 * c0 + k))) (by rw [h13, eb0]; exact (ix8 kp b0).trans (by rw [cl_n (by omega)])) (by rw [eb0, cl_n (by omega)]; omega) dX7_runs_214 ?_
                    refine lv_aload_n hx hb dX7_runs_215 rfl (lv_at hl 3 rfl) ?_
                    refine rg_73 X hw hR dX7_runs_216 ?_
                    refine lv_iload hx hb dX7_runs_219 (lv_at hl 8 rfl) ?_
                    refine lv_iconst (v := 1) hx hb dX7_runs_221 (by decide) ?_
                    refine lv_isub hx hb dX7_runs_222 ?_
                    refine rk_lald X hw hR 25 (n := 24) (by omega) (t.length) (by rw [hlen]; exact nI_p) (by omega) dX7_runs_223 ?_
                    refine mm_eqL (y := u) (hu) ?_
                    refine mm_callS (As := [.int (S 2 (8 * kp + cl (S 16 (24 * c0 + k)))), .long u]) (rest := [.int ((nI st.length) - 1), .ref (L 25)]) X hw (m_meant l G _ (S 2 (8 * kp + cl (S 16 (24 * c0 + k)))) u) wd_X7_118 ⟨Nat.le_of_ble_eq_true rfl, Nat.le_of_ble_eq_true rfl⟩ ⟨Nat.le_of_ble_eq_true rfl, Nat.le_of_ble_eq_true rfl⟩ rfl rfl (Nat.le_of_ble_eq_true rfl) hl.1 dX7_runs_224 (fun v9 M9 H9 locs9 hp9 hw => ?_)
                    obtain ⟨rfl, rfl⟩ := hp9
                    refine W.eq (g2 := F0 m 227 ls [.long (mean (S 2 (8 * kp + cl (S 16 (24 * c0 + k)))) u), .int ((nI st.length) - 1), .ref (L 25)]) rfl ?_
                    refine rk_last X hw hR 25 (n := 24) (by omega) (t.length) (by rw [hlen]; exact nI_p) (by omega) dX7_runs_227 (fun M9 H9 locs9 hw hR => ?_)
                    rw [hlen] at hl
                    refine lv_goto (tgt := 325) hx hb dX7_runs_228 (by decide) ?_
                    refine lv_iinc (v := nI (24 * c0 + (k + 1))) (lv' := [(8, .int (nI (24 * c0 + (k + 1)))), (6, .int (cost + (S 1 (9 * pz + cl (S 15 (24 * c0 + k)))))), (10, .int (S 16 (24 * c0 + k))), (9, .int (S 15 (24 * c0 + k))), (0, .ref g), (1, .int (nI c0)), (2, .long arg), (4, .int lim), (5, .int (nI pz)), (7, .int (nI (t.length + 1)))]) hx hb dX7_runs_325 hl (k := 9) rfl (nI_s _) (by decide) rfl (fun ls hl => ?_)
                    refine lv_goto (tgt := 45) hx hb dX7_runs_328 (by decide) ?_
                    exact ih (k + 1) (cost + S 1 (9 * pz + cl (S 15 (24 * c0 + k)))) (mean (S 2 (8 * kp + cl (S 16 (24 * c0 + k)))) u :: t) as _ _ _ _ _ (by omega) (by omega) (by simp only [List.length_cons]; omega) (by rw [show n0 - (k + 1) = n0 - 1 - k from by omega]; exact hD2) (by rw [va_up_self]; exact pl_push hp1 _) (fun j h9 => (by rw [va_up_ne _ _ (by decide)]; exact hs j h9)) (by rw [va_up_ne _ _ (by decide)]; exact h27) (by rw [show n0 - (k + 1) = n0 - 1 - k from by omega]; exact hv) hw hR (lv_sub hl [4, 5, 6, 7, 8, 1, 9, 0] rfl)
                  · have c109 : S 15 (24 * c0 + k) = 7 := c109
                    refine lv_tableIn (off := 122) (tgt := 231) hx hb dX7_runs_109 (by rw [c109]; decide) (by rw [c109]; decide) (by rw [c109]; rfl) (by decide) ?_
                    rw [if_neg (by rw [c109]; decide), if_neg (by rw [c109]; decide), if_neg (by rw [c109]; decide), if_pos c109] at hv
                    have hg : 1 ≤ st.length := by have h9 := hD.1; rw [c109, show tkN 7 = 1 from by decide] at h9; exact h9
                    obtain ⟨u, t, hst⟩ : ∃ u t, st = u :: t := by cases st with | nil => exact absurd hg (by simp) | cons u t => exact ⟨u, t, rfl⟩
                    have hlen : st.length = t.length + 1 := by rw [hst]; rfl
                    rw [hst] at hv hp
                    rw [hd_c, tl_c] at hv
                    obtain ⟨hp1, hu⟩ := pl_pop hp
                    obtain ⟨b0, hb0, eb0⟩ := hb7 (Or.inl (nI_inj (by omega) (by decide) (e15.symm.trans c109)))
                    have hD2 : vd S c0 (n0 - 1 - k) (k + 1) t.length := by have h9 := hD.2; rw [c109, nxN, if_pos rfl, hlen] at h9; exact h9
                    refine lv_iinc (v := nI t.length) (lv' := [(7, .int (nI t.length)), (6, .int (cost + (S 1 (9 * pz + cl (S 15 (24 * c0 + k)))))), (10, .int (S 16 (24 * c0 + k))), (9, .int (S 15 (24 * c0 + k))), (0, .ref g), (1, .int (nI c0)), (2, .long arg), (4, .int lim), (5, .int (nI pz)), (8, .int (nI (24 * c0 + k)))]) hx hb dX7_runs_231 hl (k := 8) rfl (by rw [hlen]; exact pk_m1 _) (by decide) rfl (fun ls hl => ?_)
                    refine lv_aload_n hx hb dX7_runs_234 rfl (lv_at hl 4 rfl) ?_
                    refine rg_76 X hw hR dX7_runs_235 ?_
                    refine lv_iload hx hb dX7_runs_238 (lv_at hl 2 rfl) ?_
                    refine lv_aload_n hx hb dX7_runs_240 rfl (lv_at hl 4 rfl) ?_
                    refine rg_73 X hw hR dX7_runs_241 ?_
                    refine lv_iload hx hb dX7_runs_244 (lv_at hl 0 rfl) ?_
                    refine rk_lald X hw hR 25 (n := 24) (by omega) (t.length) (rfl) (by omega) dX7_runs_246 ?_
                    refine mm_eqL (y := u) (hu) ?_
                    refine rk_last X hw hR 26 (n := 4) (by omega) (cl (S 16 (24 * c0 + k))) (by rw [eb0, cl_n (by omega)]) (by rw [eb0, cl_n (by omega)]; omega) dX7_runs_247 (fun M9 H9 locs9 hw hR => ?_)
                    refine lv_goto (tgt := 325) hx hb dX7_runs_248 (by decide) ?_
                    refine lv_iinc (v := nI (24 * c0 + (k + 1))) (lv' := [(8, .int (nI (24 * c0 + (k + 1)))), (7, .int (nI t.length)), (6, .int (cost + (S 1 (9 * pz + cl (S 15 (24 * c0 + k)))))), (10, .int (S 16 (24 * c0 + k))), (9, .int (S 15 (24 * c0 + k))), (0, .ref g), (1, .int (nI c0)), (2, .long arg), (4, .int lim), (5, .int (nI pz))]) hx hb dX7_runs_325 hl (k := 9) rfl (nI_s _) (by decide) rfl (fun ls hl => ?_)
                    refine lv_goto (tgt := 45) hx hb dX7_runs_328 (by decide) ?_
                    exact ih (k + 1) (cost + S 1 (9 * pz + cl (S 15 (24 * c0 + k)))) t (vp_updL as (cl (S 16 (24 * c0 + k))) u) _ _ _ _ _ (by omega) (by omega) (by omega) (by rw [show n0 - (k + 1) = n0 - 1 - k from by omega]; exact hD2) (by rw [va_up_ne _ _ (by decide)]; exact hp1) (fun j h9 => (by rw [va_up_self]; by_cases e9 : j = cl (S 16 (24 * c0 + k)); rw [e9, pk_uLs, pk_uLs]; rw [pk_uLn e9, pk_uLn e9]; exact hs j h9)) (by rw [va_up_ne _ _ (by decide)]; exact h27) (by rw [show n0 - (k + 1) = n0 - 1 - k from by omega]; exact hv) hw hR (lv_sub hl [5, 6, 7, 8, 9, 2, 1, 0] rfl)
                  · have c109 : S 15 (24 * c0 + k) = 8 := c109
                    refine lv_tableIn (off := 142) (tgt := 251) hx hb dX7_runs_109 (by rw [c109]; decide) (by rw [c109]; decide) (by rw [c109]; rfl) (by decide) ?_
                    rw [if_neg (by rw [c109]; decide), if_neg (by rw [c109]; decide), if_neg (by rw [c109]; decide), if_neg (by rw [c109]; decide), if_pos c109] at hv
                    obtain ⟨b0, hb0, eb0⟩ := hb7 (Or.inr (nI_inj (by omega) (by decide) (e15.symm.trans c109)))
                    have hs8 : K1 26 (cl (S 16 (24 * c0 + k))) = as (cl (S 16 (24 * c0 + k))) := hs _ (by rw [eb0, cl_n (by omega)]; exact hb0)
                    have hD2 : vd S c0 (n0 - 1 - k) (k + 1) (st.length + 1) := by have h9 := hD.2; rw [c109, nxN, if_neg (by decide), show tkN 8 = 0 from by decide] at h9; exact h9
                    refine lv_aload_n hx hb dX7_runs_251 rfl (lv_at hl 3 rfl) ?_
                    refine rg_73 X hw hR dX7_runs_252 ?_
                    refine lv_iload hx hb dX7_runs_255 (lv_at hl 8 rfl) ?_
                    refine lv_aload_n hx hb dX7_runs_257 rfl (lv_at hl 3 rfl) ?_
                    refine rg_76 X hw hR dX7_runs_258 ?_
                    refine lv_iload hx hb dX7_runs_261 (lv_at hl 1 rfl) ?_
                    refine rk_lald X hw hR 26 (n := 4) (by omega) (cl (S 16 (24 * c0 + k))) (by rw [eb0, cl_n (by omega)]) (by rw [eb0, cl_n (by omega)]; omega) dX7_runs_263 ?_
                    refine mm_eqL (y := as (cl (S 16 (24 * c0 + k)))) (hs8) ?_
                    refine rk_last X hw hR 25 (n := 24) (by omega) (st.length) (rfl) (by omega) dX7_runs_264 (fun M9 H9 locs9 hw hR => ?_)
                    refine lv_iinc (v := nI (st.length + 1)) (lv' := [(7, .int (nI (st.length + 1))), (6, .int (cost + (S 1 (9 * pz + cl (S 15 (24 * c0 + k)))))), (10, .int (S 16 (24 * c0 + k))), (9, .int (S 15 (24 * c0 + k))), (0, .ref g), (1, .int (nI c0)), (2, .long arg), (4, .int lim), (5, .int (nI pz)), (8, .int (nI (24 * c0 + k)))]) hx hb dX7_runs_265 hl (k := 8) rfl (nI_s _) (by decide) rfl (fun ls hl => ?_)
                    refine lv_goto (tgt := 325) hx hb dX7_runs_268 (by decide) ?_
                    refine lv_iinc (v := nI (24 * c0 + (k + 1))) (lv' := [(8, .int (nI (24 * c0 + (k + 1)))), (7, .int (nI (st.length + 1))), (6, .int (cost + (S 1 (9 * pz + cl (S 15 (24 * c0 + k)))))), (10, .int (S 16 (24 * c0 + k))), (9, .int (S 15 (24 * c0 + k))), (0, .ref g), (1, .int (nI c0)), (2, .long arg), (4, .int lim), (5, .int (nI pz))]) hx hb dX7_runs_325 hl (k := 9) rfl (nI_s _) (by decide) rfl (fun ls hl => ?_)
                    refine lv_goto (tgt := 45) hx hb dX7_runs_328 (by decide) ?_
                    exact ih (k + 1) (cost + S 1 (9 * pz + cl (S 15 (24 * c0 + k)))) (as (cl (S 16 (24 * c0 + k))) :: st) as _ _ _ _ _ (by omega) (by omega) (by simp only [List.length_cons]; omega) (by rw [show n0 - (k + 1) = n0 - 1 - k from by omega]; exact hD2) (by rw [va_up_self]; exact pl_push hp _) (fun j h9 => (by rw [va_up_ne _ _ (by decide)]; exact hs j h9)) (by rw [va_up_ne _ _ (by decide)]; exact h27) (by rw [show n0 - (k + 1) = n0 - 1 - k from by omega]; exact hv) hw hR (lv_sub hl [5, 6, 7, 8, 9, 2, 1, 0] rfl)
                · refine lv_tableOut (tgt := 271) hx hb dX7_runs_109 c109 (by decide) ?_
                  exact absurd c109 (by rw [e15, nI_toInt (by omega)]; omega)
              · rw [if_pos (i32_nle c101)] at hv
                refine lv_bipush (v := (-13)) hx hb dX7_runs_104 (by decide) ?_
                exact mm_iret hQ X hw (by have e9 : rn S cs c0 pz kp n0 arg lim = ((-13), cs) := (by rw [rn, ← hv]; rfl); rw [e9]; exact ⟨rfl, _, h27, hR⟩) (Nat.le_of_ble_eq_true rfl) (Nat.le_of_ble_eq_true rfl) dX7_runs_106
        exact loop2 (n0 + 1) 0 0 [] (fun j => cs (4 * c0 + j)) K1 _ _ _ _ (by omega) (by omega) (by simp) (hV) (pl_0 _) (fun j h9 => hs j (by omega)) (h27) (rfl) hw hR (lv_sub hl [1, 2, 3, 4, 5, 6, 7, 0] rfl)
      · have hk9 : k < 4 := nnle (a := 4) (by decide) (by omega) c12
        refine lv_aload_n hx hb dX7_runs_15 rfl (lv_at hl 0 rfl) ?_
        refine rg_76 X hw hR dX7_runs_16 ?_
        refine lv_iload hx hb dX7_runs_19 (lv_at hl 7 rfl) ?_
        refine lv_aload_n hx hb dX7_runs_21 rfl (lv_at hl 0 rfl) ?_
        refine rg_54 X hw hR dX7_runs_22 ?_
        refine lv_iconst (v := 4) hx hb dX7_runs_25 (by decide) ?_
        refine lv_iload_n hx hb dX7_runs_26 rfl (lv_at hl 1 rfl) ?_
        refine lv_imul hx hb dX7_runs_27 ?_
        refine lv_iload hx hb dX7_runs_28 (lv_at hl 7 rfl) ?_
        refine lv_iadd hx hb dX7_runs_30 ?_
        refine rc_lald X hw hR (4 * c0 + k) (ix4 c0 k) (by omega) dX7_runs_31 ?_
        refine rk_last X hw hR 26 (n := 4) (by omega) (k) (rfl) (by omega) dX7_runs_32 (fun M9 H9 locs9 hw hR => ?_)
        refine lv_iinc (v := nI (k + 1)) (lv' := [(8, .int (nI (k + 1))), (0, .ref g), (1, .int (nI c0)), (2, .long arg), (4, .int lim), (5, .int (nI pz)), (6, .int 0), (7, .int 0)]) hx hb dX7_runs_33 hl (k := 7) rfl (nI_s k) (by decide) rfl (fun ls hl => ?_)
        refine lv_goto (tgt := 9) hx hb dX7_runs_36 (by decide) ?_
        exact ih (k + 1) _ _ _ _ _ (by omega) (by omega) (fun j h9 => (by rw [va_up_self]; by_cases e9 : j = k; rw [e9, pk_uLs]; rw [pk_uLn e9]; exact hs j (by omega))) (by rw [va_up_ne _ _ (by decide)]; exact h27) hw hR (lv_sub hl [1, 2, 3, 4, 5, 6, 7, 0] rfl)
  exact loop1 5 0 K _ _ _ _ (by omega) (by omega) (fun j h9 => absurd h9 (by omega)) (rfl) hw hR (lv_sub hl [3, 4, 5, 6, 7, 2, 1, 0] rfl)
