set_option maxHeartbeats 16000000 in
set_option maxRecDepth 100000 in
theorem law_loop {p : Program} {e : Env} {s : State} {m : MethodId} {below : List Frame} {meth : Method} {c : Code} (l : Launch) {b L : Nat} {xs : Nat → Int32} (hL : L ≤ 2560) (hX : va_X b L xs s s.heap) (hbl : b < s.heap.size) (G : mG) (X : mm_Cx p s m #[Value.ref b] meth c G RL cL_law 4 ret) (g : Nat) (Lr : Nat → Nat) : ∀ (n k : Nat) (S : sS) (cs ar : Nat → Int64) (Lc : Nat → Nat → Nat) (J : eJ) (Mc : mM) (K : Nat → Nat → Int64) (Mr : mM) (a : Nat) (H : Heap) (locs : List Loc) (ls : Array Slot), (hk : 5 * k ≤ L) → (hn : L + 5 ≤ 5 * (k + n)) → (hE : EV G Lc S cs ar J Mc) → (hR : RV G g Lr S cs ar K Mr) → (hd : ∀ q, Mc q = none ∨ Mr q = none) → (hV : VR S J.1) → (hIV : IV S cs) → (ha : a = Lc 0 0) → (hw : mm_W G.1 vwCl (LA s) s.heap (mm_or Mc Mr) H locs) → (hl : lv_has ls 4 [(0, .ref b), (1, .ref a), (2, .ref g), (3, .int (nI (5 * k)))]) → W p l e room_1 s m #[Value.ref b] below meth c H locs (35 + 7 * k) (2629 + 64 * k) (lw_Z below #[Value.ref b] s) (F0 m 18 ls []) := by
  have hx := X.1
  have hb := X.2.1
  intro n
  induction n with
  | zero => intro k S cs ar Lc J Mc K Mr a H locs ls hk hn; exact absurd hn (by omega)
  | succ n ih =>
    intro k S cs ar Lc J Mc K Mr a H locs ls hk hn hE hR hd hV hIV ha hw hl
    subst ha
    obtain ⟨ne, nn, nc, nl, ht, hI⟩ := hIV
    have hl : lv_has ls 4 [(0, .ref b), (1, .ref (Lc 0 0)), (2, .ref g), (3, .int (nI (5 * k)))] := hl
    refine lv_iload_n hx hb dL_law_18 rfl (lv_at hl 3 rfl) ?_
    refine lv_aload_n hx hb dL_law_19 rfl (lv_at hl 0 rfl) ?_
    refine sc_len hx hb hX hbl hw dL_law_20 ?_
    refine lv_iconst (v := 5) hx hb dL_law_21 (by decide) ?_
    refine lv_isub hx hb dL_law_22 ?_
    refine lv_icmp_gt (tgt := 838) hx hb dL_law_23 (by decide) (fun c23 => ?_) (fun c23 => ?_)
    · refine lv_iconst (v := 1) hx hb dL_law_838 (by decide) ?_
      refine va_forget (fun q hq => hw.2.1.2.2 q hq) ?_
      refine W.widen (k := 600000) (n := 7302250) (by omega) (by omega) ?_
      exact lw_ret hx hb X.2.2.2.2.2.2.1 X.2.2.2.2.2.2.2 dL_law_839
    · have h5 := sc_more hL hk c23
      refine lv_aload_n hx hb dL_law_26 rfl (lv_at hl 0 rfl) ?_
      refine lv_iload_n hx hb dL_law_27 rfl (lv_at hl 3 rfl) ?_
      refine sc_ld hx hb hX hbl hw hL (5 * k) (rfl) (by omega) dL_law_28 ?_
      refine lv_bipush (v := 31) hx hb dL_law_29 (by decide) ?_
      refine lv_iand hx hb dL_law_31 ?_
      rcases mm_sw ((xs (5 * k)) &&& 31) 0 21 (by decide) (by decide) with ⟨k9, hk9, c32⟩ | c32
      · rcases (show k9 = 0 ∨ k9 = 1 ∨ k9 = 2 ∨ k9 = 3 ∨ k9 = 4 ∨ k9 = 5 ∨ k9 = 6 ∨ k9 = 7 ∨ k9 = 8 ∨ k9 = 9 ∨ k9 = 10 ∨ k9 = 11 ∨ k9 = 12 ∨ k9 = 13 ∨ k9 = 14 ∨ k9 = 15 ∨ k9 = 16 ∨ k9 = 17 ∨ k9 = 18 ∨ k9 = 19 ∨ k9 = 20 by omega) with rfl | rfl | rfl | rfl | rfl | rfl | rfl | rfl | rfl | rfl | rfl | rfl | rfl | rfl | rfl | rfl | rfl | rfl | rfl | rfl | rfl
        · have c32 : (xs (5 * k)) &&& 31 = 0 := c32
          refine lv_tableIn (off := 100) (tgt := 132) hx hb dL_law_32 (by rw [c32]; decide) (by rw [c32]; decide) (by rw [c32]; rfl) (by decide) ?_
          refine lv_aload_n hx hb dL_law_132 rfl (lv_at hl 1 rfl) ?_
          refine lv_aload_n hx hb dL_law_133 rfl (lv_at hl 0 rfl) ?_
          refine lv_iload_n hx hb dL_law_134 rfl (lv_at hl 3 rfl) ?_
          refine lv_iconst (v := 1) hx hb dL_law_135 (by decide) ?_
          refine lv_iadd hx hb dL_law_136 ?_
          refine sc_ld hx hb hX hbl hw hL (5 * k + 1) (nI_add _ 1) (by omega) dL_law_137 ?_
          refine mm_callVF (As := [.int (xs (5 * k + 1))]) (rest := []) X hw (fun _ _ h9 => h9) hd (c_edition l G Mc Lc S cs ar J hE ne nn nc nl ht hI.nm hI.kp (xs (5 * k + 1)) ) (hE.k0) rfl wd_L_13 ⟨Nat.le_of_ble_eq_true rfl, Nat.le_of_ble_eq_true rfl⟩ ⟨by show 35 + 7 * k + 3 ≤ 600000; omega, by show 2629 + 64 * k + 22 ≤ 7302250; omega⟩ rfl rfl (Nat.le_of_ble_eq_true rfl) hl.1 dL_law_138 (fun v9 Mc1 H9 locs9 hp9 hd hw => ?_)
          obtain ⟨rfl, L1, J1, hL1, hJ1, hE⟩ := hp9
          refine W.eq (g2 := F0 m 141 ls [.int ((sp_edition S (xs (5 * k + 1))).1)]) rfl ?_
          refine lv_aload_n hx hb dL_law_141 rfl (lv_at hl 2 rfl) ?_
          refine lv_aload_n hx hb dL_law_142 rfl (lv_at hl 0 rfl) ?_
          refine lv_iload_n hx hb dL_law_143 rfl (lv_at hl 3 rfl) ?_
          refine lv_iconst (v := 1) hx hb dL_law_144 (by decide) ?_
          refine lv_iadd hx hb dL_law_145 ?_
          refine sc_ld hx hb hX hbl hw hL (5 * k + 1) (nI_add _ 1) (by omega) dL_law_146 ?_
          refine mm_callVF (As := [.int (xs (5 * k + 1))]) (rest := [.int ((sp_edition S (xs (5 * k + 1))).1)]) X hw (fun _ _ h9 => by rw [mm_or_c hd]; exact h9) (fun q => (hd q).symm) (m_edition l G Mr g Lr S cs ar K hR ne nn nc nl ht hI.nm  (xs (5 * k + 1))) (hR.1) rfl wd_L_17 ⟨Nat.le_of_ble_eq_true rfl, Nat.le_of_ble_eq_true rfl⟩ ⟨by show 35 + 7 * k + 3 + 0 ≤ 600000; omega, by show 2629 + 64 * k + 22 + 0 ≤ 7302250; omega⟩ rfl rfl (Nat.le_of_ble_eq_true rfl) hl.1 dL_law_147 (fun v9 Mr1 H9 locs9 hp9 hd hw => ?_)
          obtain ⟨rfl, K1, hR⟩ := hp9
          refine W.eq (g2 := F0 m 150 ls [.int ((sp_edition S (xs (5 * k + 1))).1), .int ((sp_edition S (xs (5 * k + 1))).1)]) rfl ?_
          refine lv_icmp_eq (tgt := 832) hx hb dL_law_150 (by decide) (fun c150 => ?_) (fun c150 => ?_)
          · refine lv_iinc (v := nI (5 * (k + 1))) (lv' := [(3, .int (nI (5 * (k + 1)))), (0, .ref b), (1, .ref (Lc 0 0)), (2, .ref g)]) hx hb dL_law_832 hl (k := 3) rfl (by rw [show 5 * (k + 1) = 5 * k + 5 from by omega]; exact nI_add _ 5) (by decide) rfl (fun ls hl => ?_)
            refine lv_goto (tgt := 18) hx hb dL_law_835 (by decide) ?_
            refine W.widen (k := 35 + 7 * (k + 1)) (n := 2629 + 64 * (k + 1)) (by show 35 + 7 * k + 3 + 0 ≤ 35 + 7 * (k + 1); omega) (by show 2629 + 64 * k + 22 + 0 ≤ 2629 + 64 * (k + 1); omega) ?_
            exact ih (k + 1) ((sp_edition S (xs (5 * k + 1))).2) (cs) (ar) L1 J1 Mc1 K1 Mr1 _ _ _ _ (by omega) (by omega) hE hR (fun q => (hd q).symm) (by rw [hJ1]; exact hV.of (ed_11 ..)) (hI.edition _) hL1.symm (by rw [mm_or_c (fun q => (hd q).symm)]; exact hw) (lv_sub hl [1, 2, 3, 0] rfl)
          · exact absurd rfl c150
        · have c32 : (xs (5 * k)) &&& 31 = 1 := c32
          refine lv_tableIn (off := 123) (tgt := 155) hx hb dL_law_32 (by rw [c32]; decide) (by rw [c32]; decide) (by rw [c32]; rfl) (by decide) ?_
          refine lv_aload_n hx hb dL_law_155 rfl (lv_at hl 1 rfl) ?_
          refine lv_aload_n hx hb dL_law_156 rfl (lv_at hl 0 rfl) ?_
          refine lv_iload_n hx hb dL_law_157 rfl (lv_at hl 3 rfl) ?_
          refine lv_iconst (v := 1) hx hb dL_law_158 (by decide) ?_
          refine lv_iadd hx hb dL_law_159 ?_
          refine sc_ld hx hb hX hbl hw hL (5 * k + 1) (nI_add _ 1) (by omega) dL_law_160 ?_
          refine lv_aload_n hx hb dL_law_161 rfl (lv_at hl 0 rfl) ?_
          refine lv_iload_n hx hb dL_law_162 rfl (lv_at hl 3 rfl) ?_
          refine lv_iconst (v := 2) hx hb dL_law_163 (by decide) ?_
          refine lv_iadd hx hb dL_law_164 ?_
          refine sc_ld hx hb hX hbl hw hL (5 * k + 2) (nI_add _ 2) (by omega) dL_law_165 ?_
          refine lv_aload_n hx hb dL_law_166 rfl (lv_at hl 0 rfl) ?_
          refine lv_iload_n hx hb dL_law_167 rfl (lv_at hl 3 rfl) ?_
          refine lv_iconst (v := 3) hx hb dL_law_168 (by decide) ?_
          refine lv_iadd hx hb dL_law_169 ?_
          refine sc_ld hx hb hX hbl hw hL (5 * k + 3) (nI_add _ 3) (by omega) dL_law_170 ?_
          refine mm_callVF (As := [.int (xs (5 * k + 1)), .int (xs (5 * k + 2)), .int (xs (5 * k + 3))]) (rest := []) X hw (fun _ _ h9 => h9) hd (c_price l G Mc Lc S cs ar J hE ne nn nc nl ht hI.nm  (xs (5 * k + 1)) (xs (5 * k + 2)) (xs (5 * k + 3)) ) (hE.k0) rfl wd_L_18 ⟨Nat.le_of_ble_eq_true rfl, Nat.le_of_ble_eq_true rfl⟩ ⟨by show 35 + 7 * k + 0 ≤ 600000; omega, by show 2629 + 64 * k + 0 ≤ 7302250; omega⟩ rfl rfl (Nat.le_of_ble_eq_true rfl) hl.1 dL_law_171 (fun v9 Mc1 H9 locs9 hp9 hd hw => ?_)
          obtain ⟨rfl, J1, hJ1, hE⟩ := hp9
          refine W.eq (g2 := F0 m 174 ls [.int ((sp_price S (xs (5 * k + 1)) (xs (5 * k + 2)) (xs (5 * k + 3))).1)]) rfl ?_
          refine lv_aload_n hx hb dL_law_174 rfl (lv_at hl 2 rfl) ?_
          refine lv_aload_n hx hb dL_law_175 rfl (lv_at hl 0 rfl) ?_
          refine lv_iload_n hx hb dL_law_176 rfl (lv_at hl 3 rfl) ?_
          refine lv_iconst (v := 1) hx hb dL_law_177 (by decide) ?_
          refine lv_iadd hx hb dL_law_178 ?_
          refine sc_ld hx hb hX hbl hw hL (5 * k + 1) (nI_add _ 1) (by omega) dL_law_179 ?_
          refine lv_aload_n hx hb dL_law_180 rfl (lv_at hl 0 rfl) ?_
          refine lv_iload_n hx hb dL_law_181 rfl (lv_at hl 3 rfl) ?_
          refine lv_iconst (v := 2) hx hb dL_law_182 (by decide) ?_
          refine lv_iadd hx hb dL_law_183 ?_
          refine sc_ld hx hb hX hbl hw hL (5 * k + 2) (nI_add _ 2) (by omega) dL_law_184 ?_
          refine lv_aload_n hx hb dL_law_185 rfl (lv_at hl 0 rfl) ?_
          refine lv_iload_n hx hb dL_law_186 rfl (lv_at hl 3 rfl) ?_
          refine lv_iconst (v := 3) hx hb dL_law_187 (by decide) ?_
          refine lv_iadd hx hb dL_law_188 ?_
          refine sc_ld hx hb hX hbl hw hL (5 * k + 3) (nI_add _ 3) (by omega) dL_law_189 ?_
          refine mm_callVF (As := [.int (xs (5 * k + 1)), .int (xs (5 * k + 2)), .int (xs (5 * k + 3))]) (rest := [.int ((sp_price S (xs (5 * k + 1)) (xs (5 * k + 2)) (xs (5 * k + 3))).1)]) X hw (fun _ _ h9 => by rw [mm_or_c hd]; exact h9) (fun q => (hd q).symm) (m_price l G Mr g Lr S cs ar K hR ne nn nc nl ht hI.nm  (xs (5 * k + 1)) (xs (5 * k + 2)) (xs (5 * k + 3))) (hR.1) rfl wd_L_22 ⟨Nat.le_of_ble_eq_true rfl, Nat.le_of_ble_eq_true rfl⟩ ⟨by show 35 + 7 * k + 0 + 0 ≤ 600000; omega, by show 2629 + 64 * k + 0 + 0 ≤ 7302250; omega⟩ rfl rfl (Nat.le_of_ble_eq_true rfl) hl.1 dL_law_190 (fun v9 Mr1 H9 locs9 hp9 hd hw => ?_)
          obtain ⟨rfl, K1, hR⟩ := hp9
          refine W.eq (g2 := F0 m 193 ls [.int ((sp_price S (xs (5 * k + 1)) (xs (5 * k + 2)) (xs (5 * k + 3))).1), .int ((sp_price S (xs (5 * k + 1)) (xs (5 * k + 2)) (xs (5 * k + 3))).1)]) rfl ?_
          refine lv_icmp_eq (tgt := 832) hx hb dL_law_193 (by decide) (fun c193 => ?_) (fun c193 => ?_)
          · refine lv_iinc (v := nI (5 * (k + 1))) (lv' := [(3, .int (nI (5 * (k + 1)))), (0, .ref b), (1, .ref (Lc 0 0)), (2, .ref g)]) hx hb dL_law_832 hl (k := 3) rfl (by rw [show 5 * (k + 1) = 5 * k + 5 from by omega]; exact nI_add _ 5) (by decide) rfl (fun ls hl => ?_)
            refine lv_goto (tgt := 18) hx hb dL_law_835 (by decide) ?_
            refine W.widen (k := 35 + 7 * (k + 1)) (n := 2629 + 64 * (k + 1)) (by show 35 + 7 * k + 0 + 0 ≤ 35 + 7 * (k + 1); omega) (by show 2629 + 64 * k + 0 + 0 ≤ 2629 + 64 * (k + 1); omega) ?_
            exact ih (k + 1) ((sp_price S (xs (5 * k + 1)) (xs (5 * k + 2)) (xs (5 * k + 3))).2) (cs) (ar) Lc J1 Mc1 K1 Mr1 _ _ _ _ (by omega) (by omega) hE hR (fun q => (hd q).symm) (by rw [hJ1]; exact hV.of (ps_11 ..)) (⟨_, _, _, _, _, hI.price _ _ _⟩) rfl (by rw [mm_or_c (fun q => (hd q).symm)]; exact hw) (lv_sub hl [1, 2, 3, 0] rfl)
          · exact absurd rfl c193
        · have c32 : (xs (5 * k)) &&& 31 = 2 := c32
          refine lv_tableIn (off := 166) (tgt := 198) hx hb dL_law_32 (by rw [c32]; decide) (by rw [c32]; decide) (by rw [c32]; rfl) (by decide) ?_
          refine lv_aload_n hx hb dL_law_198 rfl (lv_at hl 1 rfl) ?_
          refine lv_aload_n hx hb dL_law_199 rfl (lv_at hl 0 rfl) ?_
          refine lv_iload_n hx hb dL_law_200 rfl (lv_at hl 3 rfl) ?_
          refine lv_iconst (v := 1) hx hb dL_law_201 (by decide) ?_
          refine lv_iadd hx hb dL_law_202 ?_
          refine sc_ld hx hb hX hbl hw hL (5 * k + 1) (nI_add _ 1) (by omega) dL_law_203 ?_
          refine lv_aload_n hx hb dL_law_204 rfl (lv_at hl 0 rfl) ?_
          refine lv_iload_n hx hb dL_law_205 rfl (lv_at hl 3 rfl) ?_
          refine lv_iconst (v := 2) hx hb dL_law_206 (by decide) ?_
          refine lv_iadd hx hb dL_law_207 ?_
          refine sc_ld hx hb hX hbl hw hL (5 * k + 2) (nI_add _ 2) (by omega) dL_law_208 ?_
          refine lv_aload_n hx hb dL_law_209 rfl (lv_at hl 0 rfl) ?_
          refine lv_iload_n hx hb dL_law_210 rfl (lv_at hl 3 rfl) ?_
          refine lv_iconst (v := 3) hx hb dL_law_211 (by decide) ?_
          refine lv_iadd hx hb dL_law_212 ?_
          refine sc_ld hx hb hX hbl hw hL (5 * k + 3) (nI_add _ 3) (by omega) dL_law_213 ?_
          refine mm_callVF (As := [.int (xs (5 * k + 1)), .int (xs (5 * k + 2)), .int (xs (5 * k + 3))]) (rest := []) X hw (fun _ _ h9 => h9) hd (c_member l G Mc Lc S cs ar J hE ne nn nc nl ht hI.nm  (xs (5 * k + 1)) (xs (5 * k + 2)) (xs (5 * k + 3)) ) (hE.k0) rfl wd_L_23 ⟨Nat.le_of_ble_eq_true rfl, Nat.le_of_ble_eq_true rfl⟩ ⟨by show 35 + 7 * k + 0 ≤ 600000; omega, by show 2629 + 64 * k + 0 ≤ 7302250; omega⟩ rfl rfl (Nat.le_of_ble_eq_true rfl) hl.1 dL_law_214 (fun v9 Mc1 H9 locs9 hp9 hd hw => ?_)
          obtain ⟨rfl, J1, hJ1, hE⟩ := hp9
          refine W.eq (g2 := F0 m 217 ls [.int ((sp_member S (xs (5 * k + 1)) (xs (5 * k + 2)) (xs (5 * k + 3))).1)]) rfl ?_
          refine lv_aload_n hx hb dL_law_217 rfl (lv_at hl 2 rfl) ?_
          refine lv_aload_n hx hb dL_law_218 rfl (lv_at hl 0 rfl) ?_
          refine lv_iload_n hx hb dL_law_219 rfl (lv_at hl 3 rfl) ?_
          refine lv_iconst (v := 1) hx hb dL_law_220 (by decide) ?_
          refine lv_iadd hx hb dL_law_221 ?_
          refine sc_ld hx hb hX hbl hw hL (5 * k + 1) (nI_add _ 1) (by omega) dL_law_222 ?_
          refine lv_aload_n hx hb dL_law_223 rfl (lv_at hl 0 rfl) ?_
          refine lv_iload_n hx hb dL_law_224 rfl (lv_at hl 3 rfl) ?_
          refine lv_iconst (v := 2) hx hb dL_law_225 (by decide) ?_
          refine lv_iadd hx hb dL_law_226 ?_
          refine sc_ld hx hb hX hbl hw hL (5 * k + 2) (nI_add _ 2) (by omega) dL_law_227 ?_
          refine lv_aload_n hx hb dL_law_228 rfl (lv_at hl 0 rfl) ?_
          refine lv_iload_n hx hb dL_law_229 rfl (lv_at hl 3 rfl) ?_
          refine lv_iconst (v := 3) hx hb dL_law_230 (by decide) ?_
          refine lv_iadd hx hb dL_law_231 ?_
          refine sc_ld hx hb hX hbl hw hL (5 * k + 3) (nI_add _ 3) (by omega) dL_law_232 ?_
          refine mm_callVF (As := [.int (xs (5 * k + 1)), .int (xs (5 * k + 2)), .int (xs (5 * k + 3))]) (rest := [.int ((sp_member S (xs (5 * k + 1)) (xs (5 * k + 2)) (xs (5 * k + 3))).1)]) X hw (fun _ _ h9 => by rw [mm_or_c hd]; exact h9) (fun q => (hd q).symm) (m_member l G Mr g Lr S cs ar K hR ne nn nc nl ht hI.nm  (xs (5 * k + 1)) (xs (5 * k + 2)) (xs (5 * k + 3))) (hR.1) rfl wd_L_26 ⟨Nat.le_of_ble_eq_true rfl, Nat.le_of_ble_eq_true rfl⟩ ⟨by show 35 + 7 * k + 0 + 0 ≤ 600000; omega, by show 2629 + 64 * k + 0 + 0 ≤ 7302250; omega⟩ rfl rfl (Nat.le_of_ble_eq_true rfl) hl.1 dL_law_233 (fun v9 Mr1 H9 locs9 hp9 hd hw => ?_)
          obtain ⟨rfl, K1, hR⟩ := hp9
          refine W.eq (g2 := F0 m 236 ls [.int ((sp_member S (xs (5 * k + 1)) (xs (5 * k + 2)) (xs (5 * k + 3))).1), .int ((sp_member S (xs (5 * k + 1)) (xs (5 * k + 2)) (xs (5 * k + 3))).1)]) rfl ?_
          refine lv_icmp_eq (tgt := 832) hx hb dL_law_236 (by decide) (fun c236 => ?_) (fun c236 => ?_)
          · refine lv_iinc (v := nI (5 * (k + 1))) (lv' := [(3, .int (nI (5 * (k + 1)))), (0, .ref b), (1, .ref (Lc 0 0)), (2, .ref g)]) hx hb dL_law_832 hl (k := 3) rfl (by rw [show 5 * (k + 1) = 5 * k + 5 from by omega]; exact nI_add _ 5) (by decide) rfl (fun ls hl => ?_)
            refine lv_goto (tgt := 18) hx hb dL_law_835 (by decide) ?_
            refine W.widen (k := 35 + 7 * (k + 1)) (n := 2629 + 64 * (k + 1)) (by show 35 + 7 * k + 0 + 0 ≤ 35 + 7 * (k + 1); omega) (by show 2629 + 64 * k + 0 + 0 ≤ 2629 + 64 * (k + 1); omega) ?_
            exact ih (k + 1) ((sp_member S (xs (5 * k + 1)) (xs (5 * k + 2)) (xs (5 * k + 3))).2) (cs) (ar) Lc J1 Mc1 K1 Mr1 _ _ _ _ (by omega) (by omega) hE hR (fun q => (hd q).symm) (by rw [hJ1]; exact hV.of (me_11 ..)) (⟨_, _, _, _, _, hI.member _ _ _⟩) rfl (by rw [mm_or_c (fun q => (hd q).symm)]; exact hw) (lv_sub hl [1, 2, 3, 0] rfl)
          · exact absurd rfl c236
        · have c32 : (xs (5 * k)) &&& 31 = 3 := c32
          refine lv_tableIn (off := 209) (tgt := 241) hx hb dL_law_32 (by rw [c32]; decide) (by rw [c32]; decide) (by rw [c32]; rfl) (by decide) ?_
          refine lv_aload_n hx hb dL_law_241 rfl (lv_at hl 1 rfl) ?_
          refine lv_aload_n hx hb dL_law_242 rfl (lv_at hl 0 rfl) ?_
          refine lv_iload_n hx hb dL_law_243 rfl (lv_at hl 3 rfl) ?_
          refine lv_iconst (v := 1) hx hb dL_law_244 (by decide) ?_
          refine lv_iadd hx hb dL_law_245 ?_
          refine sc_ld hx hb hX hbl hw hL (5 * k + 1) (nI_add _ 1) (by omega) dL_law_246 ?_
          refine lv_aload_n hx hb dL_law_247 rfl (lv_at hl 0 rfl) ?_
          refine lv_iload_n hx hb dL_law_248 rfl (lv_at hl 3 rfl) ?_
          refine lv_iconst (v := 2) hx hb dL_law_249 (by decide) ?_
          refine lv_iadd hx hb dL_law_250 ?_
          refine sc_ld hx hb hX hbl hw hL (5 * k + 2) (nI_add _ 2) (by omega) dL_law_251 ?_
          refine lv_aload_n hx hb dL_law_252 rfl (lv_at hl 0 rfl) ?_
          refine lv_iload_n hx hb dL_law_253 rfl (lv_at hl 3 rfl) ?_
          refine lv_iconst (v := 3) hx hb dL_law_254 (by decide) ?_
          refine lv_iadd hx hb dL_law_255 ?_
          refine sc_ld hx hb hX hbl hw hL (5 * k + 3) (nI_add _ 3) (by omega) dL_law_256 ?_
          refine mm_callVF (As := [.int (xs (5 * k + 1)), .int (xs (5 * k + 2)), .int (xs (5 * k + 3))]) (rest := []) X hw (fun _ _ h9 => h9) hd (c_about l G Mc Lc S cs ar J hE ne nn nc nl ht hI.nm  (xs (5 * k + 1)) (xs (5 * k + 2)) (xs (5 * k + 3)) ) (hE.k0) rfl wd_L_27 ⟨Nat.le_of_ble_eq_true rfl, Nat.le_of_ble_eq_true rfl⟩ ⟨by show 35 + 7 * k + 0 ≤ 600000; omega, by show 2629 + 64 * k + 0 ≤ 7302250; omega⟩ rfl rfl (Nat.le_of_ble_eq_true rfl) hl.1 dL_law_257 (fun v9 Mc1 H9 locs9 hp9 hd hw => ?_)
          obtain ⟨rfl, rfl⟩ := hp9
          refine W.eq (g2 := F0 m 260 ls [.int (sp_about S (xs (5 * k + 1)) (xs (5 * k + 2)) (xs (5 * k + 3)))]) rfl ?_
          refine lv_aload_n hx hb dL_law_260 rfl (lv_at hl 2 rfl) ?_
          refine lv_aload_n hx hb dL_law_261 rfl (lv_at hl 0 rfl) ?_
          refine lv_iload_n hx hb dL_law_262 rfl (lv_at hl 3 rfl) ?_
          refine lv_iconst (v := 1) hx hb dL_law_263 (by decide) ?_
          refine lv_iadd hx hb dL_law_264 ?_
          refine sc_ld hx hb hX hbl hw hL (5 * k + 1) (nI_add _ 1) (by omega) dL_law_265 ?_
          refine lv_aload_n hx hb dL_law_266 rfl (lv_at hl 0 rfl) ?_
          refine lv_iload_n hx hb dL_law_267 rfl (lv_at hl 3 rfl) ?_
          refine lv_iconst (v := 2) hx hb dL_law_268 (by decide) ?_
          refine lv_iadd hx hb dL_law_269 ?_
          refine sc_ld hx hb hX hbl hw hL (5 * k + 2) (nI_add _ 2) (by omega) dL_law_270 ?_
          refine lv_aload_n hx hb dL_law_271 rfl (lv_at hl 0 rfl) ?_
          refine lv_iload_n hx hb dL_law_272 rfl (lv_at hl 3 rfl) ?_
          refine lv_iconst (v := 3) hx hb dL_law_273 (by decide) ?_
          refine lv_iadd hx hb dL_law_274 ?_
          refine sc_ld hx hb hX hbl hw hL (5 * k + 3) (nI_add _ 3) (by omega) dL_law_275 ?_
          refine mm_callVF (As := [.int (xs (5 * k + 1)), .int (xs (5 * k + 2)), .int (xs (5 * k + 3))]) (rest := [.int (sp_about S (xs (5 * k + 1)) (xs (5 * k + 2)) (xs (5 * k + 3)))]) X hw (fun _ _ h9 => by rw [mm_or_c hd]; exact h9) (fun q => (hd q).symm) (m_about l G Mr g Lr S cs ar K hR ne nn nc nl ht hI.nm  (xs (5 * k + 1)) (xs (5 * k + 2)) (xs (5 * k + 3))) (hR.1) rfl wd_L_30 ⟨Nat.le_of_ble_eq_true rfl, Nat.le_of_ble_eq_true rfl⟩ ⟨by show 35 + 7 * k + 0 + 0 ≤ 600000; omega, by show 2629 + 64 * k + 0 + 0 ≤ 7302250; omega⟩ rfl rfl (Nat.le_of_ble_eq_true rfl) hl.1 dL_law_276 (fun v9 Mr1 H9 locs9 hp9 hd hw => ?_)
          obtain ⟨rfl, rfl⟩ := hp9
          refine W.eq (g2 := F0 m 279 ls [.int (sp_about S (xs (5 * k + 1)) (xs (5 * k + 2)) (xs (5 * k + 3))), .int (sp_about S (xs (5 * k + 1)) (xs (5 * k + 2)) (xs (5 * k + 3)))]) rfl ?_
          refine lv_icmp_eq (tgt := 832) hx hb dL_law_279 (by decide) (fun c279 => ?_) (fun c279 => ?_)
          · refine lv_iinc (v := nI (5 * (k + 1))) (lv' := [(3, .int (nI (5 * (k + 1)))), (0, .ref b), (1, .ref (Lc 0 0)), (2, .ref g)]) hx hb dL_law_832 hl (k := 3) rfl (by rw [show 5 * (k + 1) = 5 * k + 5 from by omega]; exact nI_add _ 5) (by decide) rfl (fun ls hl => ?_)
            refine lv_goto (tgt := 18) hx hb dL_law_835 (by decide) ?_
            refine W.widen (k := 35 + 7 * (k + 1)) (n := 2629 + 64 * (k + 1)) (by show 35 + 7 * k + 0 + 0 ≤ 35 + 7 * (k + 1); omega) (by show 2629 + 64 * k + 0 + 0 ≤ 2629 + 64 * (k + 1); omega) ?_
            exact ih (k + 1) S cs ar Lc J Mc K Mr _ _ _ _ (by omega) (by omega) hE hR (fun q => (hd q).symm) hV ⟨_, _, _, _, _, hI⟩ rfl (by rw [mm_or_c (fun q => (hd q).symm)]; exact hw) (lv_sub hl [1, 2, 3, 0] rfl)
          · exact absurd rfl c279
        · have c32 : (xs (5 * k)) &&& 31 = 4 := c32
          refine lv_tableIn (off := 252) (tgt := 284) hx hb dL_law_32 (by rw [c32]; decide) (by rw [c32]; decide) (by rw [c32]; rfl) (by decide) ?_
          refine lv_aload_n hx hb dL_law_284 rfl (lv_at hl 1 rfl) ?_
          refine lv_aload_n hx hb dL_law_285 rfl (lv_at hl 0 rfl) ?_
          refine lv_iload_n hx hb dL_law_286 rfl (lv_at hl 3 rfl) ?_
          refine lv_iconst (v := 1) hx hb dL_law_287 (by decide) ?_
          refine lv_iadd hx hb dL_law_288 ?_
          refine sc_ld hx hb hX hbl hw hL (5 * k + 1) (nI_add _ 1) (by omega) dL_law_289 ?_
          refine lv_aload_n hx hb dL_law_290 rfl (lv_at hl 0 rfl) ?_
          refine lv_iload_n hx hb dL_law_291 rfl (lv_at hl 3 rfl) ?_
          refine lv_iconst (v := 2) hx hb dL_law_292 (by decide) ?_
          refine lv_iadd hx hb dL_law_293 ?_
          refine sc_ld hx hb hX hbl hw hL (5 * k + 2) (nI_add _ 2) (by omega) dL_law_294 ?_
          refine lv_aload_n hx hb dL_law_295 rfl (lv_at hl 0 rfl) ?_
          refine lv_iload_n hx hb dL_law_296 rfl (lv_at hl 3 rfl) ?_
          refine lv_iconst (v := 3) hx hb dL_law_297 (by decide) ?_
          refine lv_iadd hx hb dL_law_298 ?_
          refine sc_ld hx hb hX hbl hw hL (5 * k + 3) (nI_add _ 3) (by omega) dL_law_299 ?_
          refine mm_callVF (As := [.int (xs (5 * k + 1)), .int (xs (5 * k + 2)), .int (xs (5 * k + 3))]) (rest := []) X hw (fun _ _ h9 => h9) hd (c_differs l G Mc Lc S cs ar J hE ne nn nc nl ht hI.nm  (xs (5 * k + 1)) (xs (5 * k + 2)) (xs (5 * k + 3)) ) (hE.k0) rfl wd_L_31 ⟨Nat.le_of_ble_eq_true rfl, Nat.le_of_ble_eq_true rfl⟩ ⟨by show 35 + 7 * k + 0 ≤ 600000; omega, by show 2629 + 64 * k + 0 ≤ 7302250; omega⟩ rfl rfl (Nat.le_of_ble_eq_true rfl) hl.1 dL_law_300 (fun v9 Mc1 H9 locs9 hp9 hd hw => ?_)
          obtain ⟨rfl, rfl⟩ := hp9
          refine W.eq (g2 := F0 m 303 ls [.int (sp_differs S (xs (5 * k + 1)) (xs (5 * k + 2)) (xs (5 * k + 3)))]) rfl ?_
          refine lv_aload_n hx hb dL_law_303 rfl (lv_at hl 2 rfl) ?_
          refine lv_aload_n hx hb dL_law_304 rfl (lv_at hl 0 rfl) ?_
          refine lv_iload_n hx hb dL_law_305 rfl (lv_at hl 3 rfl) ?_
          refine lv_iconst (v := 1) hx hb dL_law_306 (by decide) ?_
          refine lv_iadd hx hb dL_law_307 ?_
          refine sc_ld hx hb hX hbl hw hL (5 * k + 1) (nI_add _ 1) (by omega) dL_law_308 ?_
          refine lv_aload_n hx hb dL_law_309 rfl (lv_at hl 0 rfl) ?_
          refine lv_iload_n hx hb dL_law_310 rfl (lv_at hl 3 rfl) ?_
          refine lv_iconst (v := 2) hx hb dL_law_311 (by decide) ?_
          refine lv_iadd hx hb dL_law_312 ?_
          refine sc_ld hx hb hX hbl hw hL (5 * k + 2) (nI_add _ 2) (by omega) dL_law_313 ?_
          refine lv_aload_n hx hb dL_law_314 rfl (lv_at hl 0 rfl) ?_
          refine lv_iload_n hx hb dL_law_315 rfl (lv_at hl 3 rfl) ?_
          refine lv_iconst (v := 3) hx hb dL_law_316 (by decide) ?_
          refine lv_iadd hx hb dL_law_317 ?_
          refine sc_ld hx hb hX hbl hw hL (5 * k + 3) (nI_add _ 3) (by omega) dL_law_318 ?_
          refine mm_callVF (As := [.int (xs (5 * k + 1)), .int (xs (5 * k + 2)), .int (xs (5 * k + 3))]) (rest := [.int (sp_differs S (xs (5 * k + 1)) (xs (5 * k + 2)) (xs (5 * k + 3)))]) X hw (fun _ _ h9 => by rw [mm_or_c hd]; exact h9) (fun q => (hd q).symm) (m_differs l G Mr g Lr S cs ar K hR ne nn nc nl ht hI.nm  (xs (5 * k + 1)) (xs (5 * k + 2)) (xs (5 * k + 3))) (hR.1) rfl wd_L_34 ⟨Nat.le_of_ble_eq_true rfl, Nat.le_of_ble_eq_true rfl⟩ ⟨by show 35 + 7 * k + 0 + 0 ≤ 600000; omega, by show 2629 + 64 * k + 0 + 0 ≤ 7302250; omega⟩ rfl rfl (Nat.le_of_ble_eq_true rfl) hl.1 dL_law_319 (fun v9 Mr1 H9 locs9 hp9 hd hw => ?_)
          obtain ⟨rfl, rfl⟩ := hp9
          refine W.eq (g2 := F0 m 322 ls [.int (sp_differs S (xs (5 * k + 1)) (xs (5 * k + 2)) (xs (5 * k + 3))), .int (sp_differs S (xs (5 * k + 1)) (xs (5 * k + 2)) (xs (5 * k + 3)))]) rfl ?_
          refine lv_icmp_eq (tgt := 832) hx hb dL_law_322 (by decide) (fun c322 => ?_) (fun c322 => ?_)
          · refine lv_iinc (v := nI (5 * (k + 1))) (lv' := [(3, .int (nI (5 * (k + 1)))), (0, .ref b), (1, .ref (Lc 0 0)), (2, .ref g)]) hx hb dL_law_832 hl (k := 3) rfl (by rw [show 5 * (k + 1) = 5 * k + 5 from by omega]; exact nI_add _ 5) (by decide) rfl (fun ls hl => ?_)
            refine lv_goto (tgt := 18) hx hb dL_law_835 (by decide) ?_
            refine W.widen (k := 35 + 7 * (k + 1)) (n := 2629 + 64 * (k + 1)) (by show 35 + 7 * k + 0 + 0 ≤ 35 + 7 * (k + 1); omega) (by show 2629 + 64 * k + 0 + 0 ≤ 2629 + 64 * (k + 1); omega) ?_
            exact ih (k + 1) S cs ar Lc J Mc K Mr _ _ _ _ (by omega) (by omega) hE hR (fun q => (hd q).symm) hV ⟨_, _, _, _, _, hI⟩ rfl (by rw [mm_or_c (fun q => (hd q).symm)]; exact hw) (lv_sub hl [1, 2, 3, 0] rfl)
          · exact absurd rfl c322
        · have c32 : (xs (5 * k)) &&& 31 = 5 := c32
          refine lv_tableIn (off := 295) (tgt := 327) hx hb dL_law_32 (by rw [c32]; decide) (by rw [c32]; decide) (by rw [c32]; rfl) (by decide) ?_
          refine lv_aload_n hx hb dL_law_327 rfl (lv_at hl 1 rfl) ?_
          refine lv_aload_n hx hb dL_law_328 rfl (lv_at hl 0 rfl) ?_
          refine lv_iload_n hx hb dL_law_329 rfl (lv_at hl 3 rfl) ?_
          refine lv_iconst (v := 1) hx hb dL_law_330 (by decide) ?_
          refine lv_iadd hx hb dL_law_331 ?_
          refine sc_ld hx hb hX hbl hw hL (5 * k + 1) (nI_add _ 1) (by omega) dL_law_332 ?_
          refine lv_aload_n hx hb dL_law_333 rfl (lv_at hl 0 rfl) ?_
          refine lv_iload_n hx hb dL_law_334 rfl (lv_at hl 3 rfl) ?_
          refine lv_iconst (v := 2) hx hb dL_law_335 (by decide) ?_
          refine lv_iadd hx hb dL_law_336 ?_
          refine sc_ld hx hb hX hbl hw hL (5 * k + 2) (nI_add _ 2) (by omega) dL_law_337 ?_
          refine mm_callVF (As := [.int (xs (5 * k + 1)), .int (xs (5 * k + 2))]) (rest := []) X hw (fun _ _ h9 => h9) hd (c_node l G Mc Lc S cs ar J hE ne nn nc nl ht hI.nm hV (fun h9 => hI.zv _ (Nat.le_refl _) h9) (xs (5 * k + 1)) (xs (5 * k + 2)) ) (hE.k0) rfl wd_L_35 ⟨Nat.le_of_ble_eq_true rfl, Nat.le_of_ble_eq_true rfl⟩ ⟨by show 35 + 7 * k + 1 ≤ 600000; omega, by show 2629 + 64 * k + 4 ≤ 7302250; omega⟩ rfl rfl (Nat.le_of_ble_eq_true rfl) hl.1 dL_law_338 (fun v9 Mc1 H9 locs9 hp9 hd hw => ?_)
          obtain ⟨rfl, L1, J1, hL1, hV1, hE⟩ := hp9
          refine W.eq (g2 := F0 m 341 ls [.int ((sp_node S (xs (5 * k + 1)) (xs (5 * k + 2))).1)]) rfl ?_
          refine lv_aload_n hx hb dL_law_341 rfl (lv_at hl 2 rfl) ?_
          refine lv_aload_n hx hb dL_law_342 rfl (lv_at hl 0 rfl) ?_
          refine lv_iload_n hx hb dL_law_343 rfl (lv_at hl 3 rfl) ?_
          refine lv_iconst (v := 1) hx hb dL_law_344 (by decide) ?_
          refine lv_iadd hx hb dL_law_345 ?_
          refine sc_ld hx hb hX hbl hw hL (5 * k + 1) (nI_add _ 1) (by omega) dL_law_346 ?_
          refine lv_aload_n hx hb dL_law_347 rfl (lv_at hl 0 rfl) ?_
          refine lv_iload_n hx hb dL_law_348 rfl (lv_at hl 3 rfl) ?_
          refine lv_iconst (v := 2) hx hb dL_law_349 (by decide) ?_
          refine lv_iadd hx hb dL_law_350 ?_
          refine sc_ld hx hb hX hbl hw hL (5 * k + 2) (nI_add _ 2) (by omega) dL_law_351 ?_
          refine mm_callVF (As := [.int (xs (5 * k + 1)), .int (xs (5 * k + 2))]) (rest := [.int ((sp_node S (xs (5 * k + 1)) (xs (5 * k + 2))).1)]) X hw (fun _ _ h9 => by rw [mm_or_c hd]; exact h9) (fun q => (hd q).symm) (m_node l G Mr g Lr S cs ar K hR ne nn nc nl ht hI.nm  (xs (5 * k + 1)) (xs (5 * k + 2))) (hR.1) rfl wd_L_39 ⟨Nat.le_of_ble_eq_true rfl, Nat.le_of_ble_eq_true rfl⟩ ⟨by show 35 + 7 * k + 1 + 0 ≤ 600000; omega, by show 2629 + 64 * k + 4 + 0 ≤ 7302250; omega⟩ rfl rfl (Nat.le_of_ble_eq_true rfl) hl.1 dL_law_352 (fun v9 Mr1 H9 locs9 hp9 hd hw => ?_)
          obtain ⟨rfl, K1, hR⟩ := hp9
          refine W.eq (g2 := F0 m 355 ls [.int ((sp_node S (xs (5 * k + 1)) (xs (5 * k + 2))).1), .int ((sp_node S (xs (5 * k + 1)) (xs (5 * k + 2))).1)]) rfl ?_
          refine lv_icmp_eq (tgt := 832) hx hb dL_law_355 (by decide) (fun c355 => ?_) (fun c355 => ?_)
          · refine lv_iinc (v := nI (5 * (k + 1))) (lv' := [(3, .int (nI (5 * (k + 1)))), (0, .ref b), (1, .ref (Lc 0 0)), (2, .ref g)]) hx hb dL_law_832 hl (k := 3) rfl (by rw [show 5 * (k + 1) = 5 * k + 5 from by omega]; exact nI_add _ 5) (by decide) rfl (fun ls hl => ?_)
            refine lv_goto (tgt := 18) hx hb dL_law_835 (by decide) ?_
            refine W.widen (k := 35 + 7 * (k + 1)) (n := 2629 + 64 * (k + 1)) (by show 35 + 7 * k + 1 + 0 ≤ 35 + 7 * (k + 1); omega) (by show 2629 + 64 * k + 4 + 0 ≤ 2629 + 64 * (k + 1); omega) ?_
            exact ih (k + 1) ((sp_node S (xs (5 * k + 1)) (xs (5 * k + 2))).2) (cs) (ar) L1 J1 Mc1 K1 Mr1 _ _ _ _ (by omega) (by omega) hE hR (fun q => (hd q).symm) (hV1.of (no_11 ..)) (hI.node _ _) hL1.symm (by rw [mm_or_c (fun q => (hd q).symm)]; exact hw) (lv_sub hl [1, 2, 3, 0] rfl)
          · exact absurd rfl c355
        · have c32 : (xs (5 * k)) &&& 31 = 6 := c32
          refine lv_tableIn (off := 328) (tgt := 360) hx hb dL_law_32 (by rw [c32]; decide) (by rw [c32]; decide) (by rw [c32]; rfl) (by decide) ?_
          refine lv_aload_n hx hb dL_law_360 rfl (lv_at hl 1 rfl) ?_
          refine lv_aload_n hx hb dL_law_361 rfl (lv_at hl 0 rfl) ?_
          refine lv_iload_n hx hb dL_law_362 rfl (lv_at hl 3 rfl) ?_
          refine lv_iconst (v := 1) hx hb dL_law_363 (by decide) ?_
          refine lv_iadd hx hb dL_law_364 ?_
          refine sc_ld hx hb hX hbl hw hL (5 * k + 1) (nI_add _ 1) (by omega) dL_law_365 ?_
          refine lv_aload_n hx hb dL_law_366 rfl (lv_at hl 0 rfl) ?_
          refine lv_iload_n hx hb dL_law_367 rfl (lv_at hl 3 rfl) ?_
          refine lv_iconst (v := 2) hx hb dL_law_368 (by decide) ?_
          refine lv_iadd hx hb dL_law_369 ?_
          refine sc_ld hx hb hX hbl hw hL (5 * k + 2) (nI_add _ 2) (by omega) dL_law_370 ?_
          refine mm_callVF (As := [.int (xs (5 * k + 1)), .int (xs (5 * k + 2))]) (rest := []) X hw (fun _ _ h9 => h9) hd (c_build l G Mc Lc S cs ar J hE ne nn nc nl ht hI.nm  (xs (5 * k + 1)) (xs (5 * k + 2)) ) (hE.k0) rfl wd_L_40 ⟨Nat.le_of_ble_eq_true rfl, Nat.le_of_ble_eq_true rfl⟩ ⟨by show 35 + 7 * k + 0 ≤ 600000; omega, by show 2629 + 64 * k + 0 ≤ 7302250; omega⟩ rfl rfl (Nat.le_of_ble_eq_true rfl) hl.1 dL_law_371 (fun v9 Mc1 H9 locs9 hp9 hd hw => ?_)
          obtain ⟨rfl, J1, hJ1, hE⟩ := hp9
          refine W.eq (g2 := F0 m 374 ls [.int ((sp_build S (xs (5 * k + 1)) (xs (5 * k + 2))).1)]) rfl ?_
          refine lv_aload_n hx hb dL_law_374 rfl (lv_at hl 2 rfl) ?_
          refine lv_aload_n hx hb dL_law_375 rfl (lv_at hl 0 rfl) ?_
          refine lv_iload_n hx hb dL_law_376 rfl (lv_at hl 3 rfl) ?_
          refine lv_iconst (v := 1) hx hb dL_law_377 (by decide) ?_
          refine lv_iadd hx hb dL_law_378 ?_
          refine sc_ld hx hb hX hbl hw hL (5 * k + 1) (nI_add _ 1) (by omega) dL_law_379 ?_
          refine lv_aload_n hx hb dL_law_380 rfl (lv_at hl 0 rfl) ?_
          refine lv_iload_n hx hb dL_law_381 rfl (lv_at hl 3 rfl) ?_
          refine lv_iconst (v := 2) hx hb dL_law_382 (by decide) ?_
          refine lv_iadd hx hb dL_law_383 ?_
          refine sc_ld hx hb hX hbl hw hL (5 * k + 2) (nI_add _ 2) (by omega) dL_law_384 ?_
          refine mm_callVF (As := [.int (xs (5 * k + 1)), .int (xs (5 * k + 2))]) (rest := [.int ((sp_build S (xs (5 * k + 1)) (xs (5 * k + 2))).1)]) X hw (fun _ _ h9 => by rw [mm_or_c hd]; exact h9) (fun q => (hd q).symm) (m_build l G Mr g Lr S cs ar K hR ne nn nc nl ht hI.nm  (xs (5 * k + 1)) (xs (5 * k + 2))) (hR.1) rfl wd_L_43 ⟨Nat.le_of_ble_eq_true rfl, Nat.le_of_ble_eq_true rfl⟩ ⟨by show 35 + 7 * k + 0 + 0 ≤ 600000; omega, by show 2629 + 64 * k + 0 + 0 ≤ 7302250; omega⟩ rfl rfl (Nat.le_of_ble_eq_true rfl) hl.1 dL_law_385 (fun v9 Mr1 H9 locs9 hp9 hd hw => ?_)
          obtain ⟨rfl, K1, hR⟩ := hp9
          refine W.eq (g2 := F0 m 388 ls [.int ((sp_build S (xs (5 * k + 1)) (xs (5 * k + 2))).1), .int ((sp_build S (xs (5 * k + 1)) (xs (5 * k + 2))).1)]) rfl ?_
          refine lv_icmp_eq (tgt := 832) hx hb dL_law_388 (by decide) (fun c388 => ?_) (fun c388 => ?_)
          · refine lv_iinc (v := nI (5 * (k + 1))) (lv' := [(3, .int (nI (5 * (k + 1)))), (0, .ref b), (1, .ref (Lc 0 0)), (2, .ref g)]) hx hb dL_law_832 hl (k := 3) rfl (by rw [show 5 * (k + 1) = 5 * k + 5 from by omega]; exact nI_add _ 5) (by decide) rfl (fun ls hl => ?_)
            refine lv_goto (tgt := 18) hx hb dL_law_835 (by decide) ?_
            refine W.widen (k := 35 + 7 * (k + 1)) (n := 2629 + 64 * (k + 1)) (by show 35 + 7 * k + 0 + 0 ≤ 35 + 7 * (k + 1); omega) (by show 2629 + 64 * k + 0 + 0 ≤ 2629 + 64 * (k + 1); omega) ?_
            exact ih (k + 1) ((sp_build S (xs (5 * k + 1)) (xs (5 * k + 2))).2) (cs) (ar) Lc J1 Mc1 K1 Mr1 _ _ _ _ (by omega) (by omega) hE hR (fun q => (hd q).symm) (by rw [hJ1]; exact hV.of (bd_11 ..)) (⟨_, _, _, _, _, hI.build _ _⟩) rfl (by rw [mm_or_c (fun q => (hd q).symm)]; exact hw) (lv_sub hl [1, 2, 3, 0] rfl)
          · exact absurd rfl c388
        · have c32 : (xs (5 * k)) &&& 31 = 7 := c32
          refine lv_tableIn (off := 361) (tgt := 393) hx hb dL_law_32 (by rw [c32]; decide) (by rw [c32]; decide) (by rw [c32]; rfl) (by decide) ?_
          refine lv_aload_n hx hb dL_law_393 rfl (lv_at hl 1 rfl) ?_
          refine lv_aload_n hx hb dL_law_394 rfl (lv_at hl 0 rfl) ?_
          refine lv_iload_n hx hb dL_law_395 rfl (lv_at hl 3 rfl) ?_
          refine lv_iconst (v := 1) hx hb dL_law_396 (by decide) ?_
          refine lv_iadd hx hb dL_law_397 ?_
          refine sc_ld hx hb hX hbl hw hL (5 * k + 1) (nI_add _ 1) (by omega) dL_law_398 ?_
          refine lv_aload_n hx hb dL_law_399 rfl (lv_at hl 0 rfl) ?_
          refine lv_iload_n hx hb dL_law_400 rfl (lv_at hl 3 rfl) ?_
          refine lv_iconst (v := 2) hx hb dL_law_401 (by decide) ?_
          refine lv_iadd hx hb dL_law_402 ?_
          refine sc_ld hx hb hX hbl hw hL (5 * k + 2) (nI_add _ 2) (by omega) dL_law_403 ?_
          refine mm_callVF (As := [.int (xs (5 * k + 1)), .int (xs (5 * k + 2))]) (rest := []) X hw (fun _ _ h9 => h9) hd (c_propose l G Mc Lc S cs ar J hE ne nn nc nl ht hI.nm hI.pi (xs (5 * k + 1)) (xs (5 * k + 2)) ) (hE.k0) rfl wd_L_44 ⟨Nat.le_of_ble_eq_true rfl, Nat.le_of_ble_eq_true rfl⟩ ⟨by show 35 + 7 * k + 0 ≤ 600000; omega, by show 2629 + 64 * k + 0 ≤ 7302250; omega⟩ rfl rfl (Nat.le_of_ble_eq_true rfl) hl.1 dL_law_404 (fun v9 Mc1 H9 locs9 hp9 hd hw => ?_)
          obtain ⟨rfl, J1, hJ1, hE⟩ := hp9
          refine W.eq (g2 := F0 m 407 ls [.int ((sp_propose S (xs (5 * k + 1)) (xs (5 * k + 2))).1)]) rfl ?_
          refine lv_aload_n hx hb dL_law_407 rfl (lv_at hl 2 rfl) ?_
          refine lv_aload_n hx hb dL_law_408 rfl (lv_at hl 0 rfl) ?_
          refine lv_iload_n hx hb dL_law_409 rfl (lv_at hl 3 rfl) ?_
          refine lv_iconst (v := 1) hx hb dL_law_410 (by decide) ?_
          refine lv_iadd hx hb dL_law_411 ?_
          refine sc_ld hx hb hX hbl hw hL (5 * k + 1) (nI_add _ 1) (by omega) dL_law_412 ?_
          refine lv_aload_n hx hb dL_law_413 rfl (lv_at hl 0 rfl) ?_
          refine lv_iload_n hx hb dL_law_414 rfl (lv_at hl 3 rfl) ?_
          refine lv_iconst (v := 2) hx hb dL_law_415 (by decide) ?_
          refine lv_iadd hx hb dL_law_416 ?_
          refine sc_ld hx hb hX hbl hw hL (5 * k + 2) (nI_add _ 2) (by omega) dL_law_417 ?_
          refine mm_callVF (As := [.int (xs (5 * k + 1)), .int (xs (5 * k + 2))]) (rest := [.int ((sp_propose S (xs (5 * k + 1)) (xs (5 * k + 2))).1)]) X hw (fun _ _ h9 => by rw [mm_or_c hd]; exact h9) (fun q => (hd q).symm) (m_propose l G Mr g Lr S cs ar K hR ne nn nc nl ht hI.nm  (xs (5 * k + 1)) (xs (5 * k + 2))) (hR.1) rfl wd_L_47 ⟨Nat.le_of_ble_eq_true rfl, Nat.le_of_ble_eq_true rfl⟩ ⟨by show 35 + 7 * k + 0 + 0 ≤ 600000; omega, by show 2629 + 64 * k + 0 + 0 ≤ 7302250; omega⟩ rfl rfl (Nat.le_of_ble_eq_true rfl) hl.1 dL_law_418 (fun v9 Mr1 H9 locs9 hp9 hd hw => ?_)
          obtain ⟨rfl, K1, hR⟩ := hp9
          refine W.eq (g2 := F0 m 421 ls [.int ((sp_propose S (xs (5 * k + 1)) (xs (5 * k + 2))).1), .int ((sp_propose S (xs (5 * k + 1)) (xs (5 * k + 2))).1)]) rfl ?_
          refine lv_icmp_eq (tgt := 832) hx hb dL_law_421 (by decide) (fun c421 => ?_) (fun c421 => ?_)
          · refine lv_iinc (v := nI (5 * (k + 1))) (lv' := [(3, .int (nI (5 * (k + 1)))), (0, .ref b), (1, .ref (Lc 0 0)), (2, .ref g)]) hx hb dL_law_832 hl (k := 3) rfl (by rw [show 5 * (k + 1) = 5 * k + 5 from by omega]; exact nI_add _ 5) (by decide) rfl (fun ls hl => ?_)
            refine lv_goto (tgt := 18) hx hb dL_law_835 (by decide) ?_
            refine W.widen (k := 35 + 7 * (k + 1)) (n := 2629 + 64 * (k + 1)) (by show 35 + 7 * k + 0 + 0 ≤ 35 + 7 * (k + 1); omega) (by show 2629 + 64 * k + 0 + 0 ≤ 2629 + 64 * (k + 1); omega) ?_
            exact ih (k + 1) ((sp_propose S (xs (5 * k + 1)) (xs (5 * k + 2))).2) (cs) (ar) Lc J1 Mc1 K1 Mr1 _ _ _ _ (by omega) (by omega) hE hR (fun q => (hd q).symm) (by rw [hJ1]; exact hV.of (pp_11 ..)) (⟨_, _, _, _, _, hI.propose _ _⟩) rfl (by rw [mm_or_c (fun q => (hd q).symm)]; exact hw) (lv_sub hl [1, 2, 3, 0] rfl)
          · exact absurd rfl c421
        · have c32 : (xs (5 * k)) &&& 31 = 8 := c32
          refine lv_tableIn (off := 394) (tgt := 426) hx hb dL_law_32 (by rw [c32]; decide) (by rw [c32]; decide) (by rw [c32]; rfl) (by decide) ?_
          refine lv_aload_n hx hb dL_law_426 rfl (lv_at hl 1 rfl) ?_
          refine lv_aload_n hx hb dL_law_427 rfl (lv_at hl 0 rfl) ?_
          refine lv_iload_n hx hb dL_law_428 rfl (lv_at hl 3 rfl) ?_
          refine lv_iconst (v := 1) hx hb dL_law_429 (by decide) ?_
          refine lv_iadd hx hb dL_law_430 ?_
          refine sc_ld hx hb hX hbl hw hL (5 * k + 1) (nI_add _ 1) (by omega) dL_law_431 ?_
          refine lv_aload_n hx hb dL_law_432 rfl (lv_at hl 0 rfl) ?_
          refine lv_iload_n hx hb dL_law_433 rfl (lv_at hl 3 rfl) ?_
          refine lv_iconst (v := 2) hx hb dL_law_434 (by decide) ?_
          refine lv_iadd hx hb dL_law_435 ?_
          refine sc_ld hx hb hX hbl hw hL (5 * k + 2) (nI_add _ 2) (by omega) dL_law_436 ?_
          refine lv_aload_n hx hb dL_law_437 rfl (lv_at hl 0 rfl) ?_
          refine lv_iload_n hx hb dL_law_438 rfl (lv_at hl 3 rfl) ?_
          refine lv_iconst (v := 3) hx hb dL_law_439 (by decide) ?_
          refine lv_iadd hx hb dL_law_440 ?_
          refine sc_ld hx hb hX hbl hw hL (5 * k + 3) (nI_add _ 3) (by omega) dL_law_441 ?_
          refine lv_if_eq (tgt := 449) hx hb dL_law_442 (by decide) (fun c442 => ?_) (fun c442 => ?_)
          · refine lv_iconst (v := 0) hx hb dL_law_449 (by decide) ?_
            refine mm_callVF (As := [.int (xs (5 * k + 1)), .int (xs (5 * k + 2)), .int 0]) (rest := []) X hw (fun _ _ h9 => h9) hd (c_vote l G Mc Lc S cs ar J hE ne nn nc nl ht hI.nm hV (xs (5 * k + 1)) (xs (5 * k + 2)) (0) (by first | exact Or.inl rfl | exact Or.inr rfl) ) (hE.k0) rfl wd_L_48 ⟨Nat.le_of_ble_eq_true rfl, Nat.le_of_ble_eq_true rfl⟩ ⟨by show 35 + 7 * k + 0 ≤ 600000; omega, by show 2629 + 64 * k + 0 ≤ 7302250; omega⟩ rfl rfl (Nat.le_of_ble_eq_true rfl) hl.1 dL_law_450 (fun v9 Mc1 H9 locs9 hp9 hd hw => ?_)
            obtain ⟨rfl, J1, hV1, hE⟩ := hp9
            refine W.eq (g2 := F0 m 453 ls [.int ((sp_vote S (xs (5 * k + 1)) (xs (5 * k + 2)) (0)).1)]) rfl ?_
            refine lv_aload_n hx hb dL_law_453 rfl (lv_at hl 2 rfl) ?_
            refine lv_aload_n hx hb dL_law_454 rfl (lv_at hl 0 rfl) ?_
            refine lv_iload_n hx hb dL_law_455 rfl (lv_at hl 3 rfl) ?_
            refine lv_iconst (v := 1) hx hb dL_law_456 (by decide) ?_
            refine lv_iadd hx hb dL_law_457 ?_
            refine sc_ld hx hb hX hbl hw hL (5 * k + 1) (nI_add _ 1) (by omega) dL_law_458 ?_
            refine lv_aload_n hx hb dL_law_459 rfl (lv_at hl 0 rfl) ?_
            refine lv_iload_n hx hb dL_law_460 rfl (lv_at hl 3 rfl) ?_
            refine lv_iconst (v := 2) hx hb dL_law_461 (by decide) ?_
            refine lv_iadd hx hb dL_law_462 ?_
            refine sc_ld hx hb hX hbl hw hL (5 * k + 2) (nI_add _ 2) (by omega) dL_law_463 ?_
            refine lv_aload_n hx hb dL_law_464 rfl (lv_at hl 0 rfl) ?_
            refine lv_iload_n hx hb dL_law_465 rfl (lv_at hl 3 rfl) ?_
            refine lv_iconst (v := 3) hx hb dL_law_466 (by decide) ?_
            refine lv_iadd hx hb dL_law_467 ?_
            refine sc_ld hx hb hX hbl hw hL (5 * k + 3) (nI_add _ 3) (by omega) dL_law_468 ?_
            refine lv_if_eq (tgt := 476) hx hb dL_law_469 (by decide) (fun c469 => ?_) (fun c469 => ?_)
            · refine lv_iconst (v := 0) hx hb dL_law_476 (by decide) ?_
              refine mm_callVF (As := [.int (xs (5 * k + 1)), .int (xs (5 * k + 2)), .int 0]) (rest := [.int ((sp_vote S (xs (5 * k + 1)) (xs (5 * k + 2)) (0)).1)]) X hw (fun _ _ h9 => by rw [mm_or_c hd]; exact h9) (fun q => (hd q).symm) (m_vote l G Mr g Lr S cs ar K hR ne nn nc nl ht hI.nm  (xs (5 * k + 1)) (xs (5 * k + 2)) (0) (by first | exact Or.inl rfl | exact Or.inr rfl)) (hR.1) rfl wd_L_52 ⟨Nat.le_of_ble_eq_true rfl, Nat.le_of_ble_eq_true rfl⟩ ⟨by show 35 + 7 * k + 0 + 0 ≤ 600000; omega, by show 2629 + 64 * k + 0 + 0 ≤ 7302250; omega⟩ rfl rfl (Nat.le_of_ble_eq_true rfl) hl.1 dL_law_477 (fun v9 Mr1 H9 locs9 hp9 hd hw => ?_)
              obtain ⟨rfl, K1, hR⟩ := hp9
              refine W.eq (g2 := F0 m 480 ls [.int ((sp_vote S (xs (5 * k + 1)) (xs (5 * k + 2)) (0)).1), .int ((sp_vote S (xs (5 * k + 1)) (xs (5 * k + 2)) (0)).1)]) rfl ?_
              refine lv_icmp_eq (tgt := 832) hx hb dL_law_480 (by decide) (fun c480 => ?_) (fun c480 => ?_)
              · refine lv_iinc (v := nI (5 * (k + 1))) (lv' := [(3, .int (nI (5 * (k + 1)))), (0, .ref b), (1, .ref (Lc 0 0)), (2, .ref g)]) hx hb dL_law_832 hl (k := 3) rfl (by rw [show 5 * (k + 1) = 5 * k + 5 from by omega]; exact nI_add _ 5) (by decide) rfl (fun ls hl => ?_)
                refine lv_goto (tgt := 18) hx hb dL_law_835 (by decide) ?_
                refine W.widen (k := 35 + 7 * (k + 1)) (n := 2629 + 64 * (k + 1)) (by show 35 + 7 * k + 0 + 0 ≤ 35 + 7 * (k + 1); omega) (by show 2629 + 64 * k + 0 + 0 ≤ 2629 + 64 * (k + 1); omega) ?_
                exact ih (k + 1) ((sp_vote S (xs (5 * k + 1)) (xs (5 * k + 2)) (0)).2) (cs) (ar) Lc J1 Mc1 K1 Mr1 _ _ _ _ (by omega) (by omega) hE hR (fun q => (hd q).symm) (hV1) (⟨_, _, _, _, _, hI.vote _ _ _⟩) rfl (by rw [mm_or_c (fun q => (hd q).symm)]; exact hw) (lv_sub hl [1, 2, 3, 0] rfl)
              · exact absurd rfl c480
            · exact absurd c442 c469
          · refine lv_iconst (v := 1) hx hb dL_law_445 (by decide) ?_
            refine lv_goto (tgt := 450) hx hb dL_law_446 (by decide) ?_
            refine mm_callVF (As := [.int (xs (5 * k + 1)), .int (xs (5 * k + 2)), .int 1]) (rest := []) X hw (fun _ _ h9 => h9) hd (c_vote l G Mc Lc S cs ar J hE ne nn nc nl ht hI.nm hV (xs (5 * k + 1)) (xs (5 * k + 2)) (1) (by first | exact Or.inl rfl | exact Or.inr rfl) ) (hE.k0) rfl wd_L_48 ⟨Nat.le_of_ble_eq_true rfl, Nat.le_of_ble_eq_true rfl⟩ ⟨by show 35 + 7 * k + 0 ≤ 600000; omega, by show 2629 + 64 * k + 0 ≤ 7302250; omega⟩ rfl rfl (Nat.le_of_ble_eq_true rfl) hl.1 dL_law_450 (fun v9 Mc1 H9 locs9 hp9 hd hw => ?_)
            obtain ⟨rfl, J1, hV1, hE⟩ := hp9
            refine W.eq (g2 := F0 m 453 ls [.int ((sp_vote S (xs (5 * k + 1)) (xs (5 * k + 2)) (1)).1)]) rfl ?_
            refine lv_aload_n hx hb dL_law_453 rfl (lv_at hl 2 rfl) ?_
            refine lv_aload_n hx hb dL_law_454 rfl (lv_at hl 0 rfl) ?_
            refine lv_iload_n hx hb dL_law_455 rfl (lv_at hl 3 rfl) ?_
            refine lv_iconst (v := 1) hx hb dL_law_456 (by decide) ?_
            refine lv_iadd hx hb dL_law_457 ?_
            refine sc_ld hx hb hX hbl hw hL (5 * k + 1) (nI_add _ 1) (by omega) dL_law_458 ?_
            refine lv_aload_n hx hb dL_law_459 rfl (lv_at hl 0 rfl) ?_
            refine lv_iload_n hx hb dL_law_460 rfl (lv_at hl 3 rfl) ?_
            refine lv_iconst (v := 2) hx hb dL_law_461 (by decide) ?_
            refine lv_iadd hx hb dL_law_462 ?_
            refine sc_ld hx hb hX hbl hw hL (5 * k + 2) (nI_add _ 2) (by omega) dL_law_463 ?_
            refine lv_aload_n hx hb dL_law_464 rfl (lv_at hl 0 rfl) ?_
            refine lv_iload_n hx hb dL_law_465 rfl (lv_at hl 3 rfl) ?_
            refine lv_iconst (v := 3) hx hb dL_law_466 (by decide) ?_
            refine lv_iadd hx hb dL_law_467 ?_
            refine sc_ld hx hb hX hbl hw hL (5 * k + 3) (nI_add _ 3) (by omega) dL_law_468 ?_
            refine lv_if_eq (tgt := 476) hx hb dL_law_469 (by decide) (fun c469 => ?_) (fun c469 => ?_)
            · exact absurd c469 c442
            · refine lv_iconst (v := 1) hx hb dL_law_472 (by decide) ?_
              refine lv_goto (tgt := 477) hx hb dL_law_473 (by decide) ?_
              refine mm_callVF (As := [.int (xs (5 * k + 1)), .int (xs (5 * k + 2)), .int 1]) (rest := [.int ((sp_vote S (xs (5 * k + 1)) (xs (5 * k + 2)) (1)).1)]) X hw (fun _ _ h9 => by rw [mm_or_c hd]; exact h9) (fun q => (hd q).symm) (m_vote l G Mr g Lr S cs ar K hR ne nn nc nl ht hI.nm  (xs (5 * k + 1)) (xs (5 * k + 2)) (1) (by first | exact Or.inl rfl | exact Or.inr rfl)) (hR.1) rfl wd_L_52 ⟨Nat.le_of_ble_eq_true rfl, Nat.le_of_ble_eq_true rfl⟩ ⟨by show 35 + 7 * k + 0 + 0 ≤ 600000; omega, by show 2629 + 64 * k + 0 + 0 ≤ 7302250; omega⟩ rfl rfl (Nat.le_of_ble_eq_true rfl) hl.1 dL_law_477 (fun v9 Mr1 H9 locs9 hp9 hd hw => ?_)
              obtain ⟨rfl, K1, hR⟩ := hp9
              refine W.eq (g2 := F0 m 480 ls [.int ((sp_vote S (xs (5 * k + 1)) (xs (5 * k + 2)) (1)).1), .int ((sp_vote S (xs (5 * k + 1)) (xs (5 * k + 2)) (1)).1)]) rfl ?_
              refine lv_icmp_eq (tgt := 832) hx hb dL_law_480 (by decide) (fun c480 => ?_) (fun c480 => ?_)
              · refine lv_iinc (v := nI (5 * (k + 1))) (lv' := [(3, .int (nI (5 * (k + 1)))), (0, .ref b), (1, .ref (Lc 0 0)), (2, .ref g)]) hx hb dL_law_832 hl (k := 3) rfl (by rw [show 5 * (k + 1) = 5 * k + 5 from by omega]; exact nI_add _ 5) (by decide) rfl (fun ls hl => ?_)
                refine lv_goto (tgt := 18) hx hb dL_law_835 (by decide) ?_
                refine W.widen (k := 35 + 7 * (k + 1)) (n := 2629 + 64 * (k + 1)) (by show 35 + 7 * k + 0 + 0 ≤ 35 + 7 * (k + 1); omega) (by show 2629 + 64 * k + 0 + 0 ≤ 2629 + 64 * (k + 1); omega) ?_
                exact ih (k + 1) ((sp_vote S (xs (5 * k + 1)) (xs (5 * k + 2)) (1)).2) (cs) (ar) Lc J1 Mc1 K1 Mr1 _ _ _ _ (by omega) (by omega) hE hR (fun q => (hd q).symm) (hV1) (⟨_, _, _, _, _, hI.vote _ _ _⟩) rfl (by rw [mm_or_c (fun q => (hd q).symm)]; exact hw) (lv_sub hl [1, 2, 3, 0] rfl)
              · exact absurd rfl c480
        · have c32 : (xs (5 * k)) &&& 31 = 9 := c32
          refine lv_tableIn (off := 453) (tgt := 485) hx hb dL_law_32 (by rw [c32]; decide) (by rw [c32]; decide) (by rw [c32]; rfl) (by decide) ?_
          refine lv_aload_n hx hb dL_law_485 rfl (lv_at hl 1 rfl) ?_
          refine lv_aload_n hx hb dL_law_486 rfl (lv_at hl 0 rfl) ?_
          refine lv_iload_n hx hb dL_law_487 rfl (lv_at hl 3 rfl) ?_
          refine lv_iconst (v := 1) hx hb dL_law_488 (by decide) ?_
          refine lv_iadd hx hb dL_law_489 ?_
          refine sc_ld hx hb hX hbl hw hL (5 * k + 1) (nI_add _ 1) (by omega) dL_law_490 ?_
          refine mm_callVF (As := [.int (xs (5 * k + 1))]) (rest := []) X hw (fun _ _ h9 => h9) hd (c_rise l G Mc Lc S cs ar J hE ne nn nc nl ht hI.nm hV (xs (5 * k + 1)) hI.fx) (hE.k0) rfl wd_L_53 ⟨Nat.le_of_ble_eq_true rfl, Nat.le_of_ble_eq_true rfl⟩ ⟨by show 35 + 7 * k + 0 ≤ 600000; omega, by show 2629 + 64 * k + 0 ≤ 7302250; omega⟩ rfl rfl (Nat.le_of_ble_eq_true rfl) hl.1 dL_law_491 (fun v9 Mc1 H9 locs9 hp9 hd hw => ?_)
          obtain ⟨rfl, J1, hJ1, hE⟩ := hp9
          refine W.eq (g2 := F0 m 494 ls [.int ((sp_rise S (xs (5 * k + 1))).1)]) rfl ?_
          refine lv_aload_n hx hb dL_law_494 rfl (lv_at hl 2 rfl) ?_
          refine lv_aload_n hx hb dL_law_495 rfl (lv_at hl 0 rfl) ?_
          refine lv_iload_n hx hb dL_law_496 rfl (lv_at hl 3 rfl) ?_
          refine lv_iconst (v := 1) hx hb dL_law_497 (by decide) ?_
          refine lv_iadd hx hb dL_law_498 ?_
          refine sc_ld hx hb hX hbl hw hL (5 * k + 1) (nI_add _ 1) (by omega) dL_law_499 ?_
          refine mm_callVF (As := [.int (xs (5 * k + 1))]) (rest := [.int ((sp_rise S (xs (5 * k + 1))).1)]) X hw (fun _ _ h9 => by rw [mm_or_c hd]; exact h9) (fun q => (hd q).symm) (m_rise l G Mr g Lr S cs ar K hR ne nn nc nl ht hI.nm  (xs (5 * k + 1))) (hR.1) rfl wd_L_56 ⟨Nat.le_of_ble_eq_true rfl, Nat.le_of_ble_eq_true rfl⟩ ⟨by show 35 + 7 * k + 0 + 0 ≤ 600000; omega, by show 2629 + 64 * k + 0 + 0 ≤ 7302250; omega⟩ rfl rfl (Nat.le_of_ble_eq_true rfl) hl.1 dL_law_500 (fun v9 Mr1 H9 locs9 hp9 hd hw => ?_)
          obtain ⟨rfl, K1, hR⟩ := hp9
          refine W.eq (g2 := F0 m 503 ls [.int ((sp_rise S (xs (5 * k + 1))).1), .int ((sp_rise S (xs (5 * k + 1))).1)]) rfl ?_
          refine lv_icmp_eq (tgt := 832) hx hb dL_law_503 (by decide) (fun c503 => ?_) (fun c503 => ?_)
          · refine lv_iinc (v := nI (5 * (k + 1))) (lv' := [(3, .int (nI (5 * (k + 1)))), (0, .ref b), (1, .ref (Lc 0 0)), (2, .ref g)]) hx hb dL_law_832 hl (k := 3) rfl (by rw [show 5 * (k + 1) = 5 * k + 5 from by omega]; exact nI_add _ 5) (by decide) rfl (fun ls hl => ?_)
            refine lv_goto (tgt := 18) hx hb dL_law_835 (by decide) ?_
            refine W.widen (k := 35 + 7 * (k + 1)) (n := 2629 + 64 * (k + 1)) (by show 35 + 7 * k + 0 + 0 ≤ 35 + 7 * (k + 1); omega) (by show 2629 + 64 * k + 0 + 0 ≤ 2629 + 64 * (k + 1); omega) ?_
            exact ih (k + 1) ((sp_rise S (xs (5 * k + 1))).2) (cs) (ar) Lc J1 Mc1 K1 Mr1 _ _ _ _ (by omega) (by omega) hE hR (fun q => (hd q).symm) (by rw [hJ1]; exact hV.of (rs_11 ..)) (hI.rise _) rfl (by rw [mm_or_c (fun q => (hd q).symm)]; exact hw) (lv_sub hl [1, 2, 3, 0] rfl)
          · exact absurd rfl c503
        · have c32 : (xs (5 * k)) &&& 31 = 10 := c32
          refine lv_tableIn (off := 476) (tgt := 508) hx hb dL_law_32 (by rw [c32]; decide) (by rw [c32]; decide) (by rw [c32]; rfl) (by decide) ?_
          refine lv_aload_n hx hb dL_law_508 rfl (lv_at hl 1 rfl) ?_
          refine lv_aload_n hx hb dL_law_509 rfl (lv_at hl 0 rfl) ?_
          refine lv_iload_n hx hb dL_law_510 rfl (lv_at hl 3 rfl) ?_
          refine lv_iconst (v := 1) hx hb dL_law_511 (by decide) ?_
          refine lv_iadd hx hb dL_law_512 ?_
          refine sc_ld hx hb hX hbl hw hL (5 * k + 1) (nI_add _ 1) (by omega) dL_law_513 ?_
          refine mm_callVF (As := [.int (xs (5 * k + 1))]) (rest := []) X hw (fun _ _ h9 => h9) hd (c_force l G Mc Lc S cs ar J hE ne nn nc nl ht hI.nm hI.fi (xs (5 * k + 1)) ) (hE.k0) rfl wd_L_57 ⟨Nat.le_of_ble_eq_true rfl, Nat.le_of_ble_eq_true rfl⟩ ⟨by show 35 + 7 * k + 0 ≤ 600000; omega, by show 2629 + 64 * k + 0 ≤ 7302250; omega⟩ rfl rfl (Nat.le_of_ble_eq_true rfl) hl.1 dL_law_514 (fun v9 Mc1 H9 locs9 hp9 hd hw => ?_)
          obtain ⟨rfl, rfl⟩ := hp9
          refine W.eq (g2 := F0 m 517 ls [.int (sp_force S (xs (5 * k + 1)))]) rfl ?_
          refine lv_aload_n hx hb dL_law_517 rfl (lv_at hl 2 rfl) ?_
          refine lv_aload_n hx hb dL_law_518 rfl (lv_at hl 0 rfl) ?_
          refine lv_iload_n hx hb dL_law_519 rfl (lv_at hl 3 rfl) ?_
          refine lv_iconst (v := 1) hx hb dL_law_520 (by decide) ?_
          refine lv_iadd hx hb dL_law_521 ?_
          refine sc_ld hx hb hX hbl hw hL (5 * k + 1) (nI_add _ 1) (by omega) dL_law_522 ?_
          refine mm_callVF (As := [.int (xs (5 * k + 1))]) (rest := [.int (sp_force S (xs (5 * k + 1)))]) X hw (fun _ _ h9 => by rw [mm_or_c hd]; exact h9) (fun q => (hd q).symm) (m_force l G Mr g Lr S cs ar K hR ne nn nc nl ht hI.nm  (xs (5 * k + 1))) (hR.1) rfl wd_L_60 ⟨Nat.le_of_ble_eq_true rfl, Nat.le_of_ble_eq_true rfl⟩ ⟨by show 35 + 7 * k + 0 + 0 ≤ 600000; omega, by show 2629 + 64 * k + 0 + 0 ≤ 7302250; omega⟩ rfl rfl (Nat.le_of_ble_eq_true rfl) hl.1 dL_law_523 (fun v9 Mr1 H9 locs9 hp9 hd hw => ?_)
          obtain ⟨rfl, rfl⟩ := hp9
          refine W.eq (g2 := F0 m 526 ls [.int (sp_force S (xs (5 * k + 1))), .int (sp_force S (xs (5 * k + 1)))]) rfl ?_
          refine lv_icmp_eq (tgt := 832) hx hb dL_law_526 (by decide) (fun c526 => ?_) (fun c526 => ?_)
          · refine lv_iinc (v := nI (5 * (k + 1))) (lv' := [(3, .int (nI (5 * (k + 1)))), (0, .ref b), (1, .ref (Lc 0 0)), (2, .ref g)]) hx hb dL_law_832 hl (k := 3) rfl (by rw [show 5 * (k + 1) = 5 * k + 5 from by omega]; exact nI_add _ 5) (by decide) rfl (fun ls hl => ?_)
            refine lv_goto (tgt := 18) hx hb dL_law_835 (by decide) ?_
            refine W.widen (k := 35 + 7 * (k + 1)) (n := 2629 + 64 * (k + 1)) (by show 35 + 7 * k + 0 + 0 ≤ 35 + 7 * (k + 1); omega) (by show 2629 + 64 * k + 0 + 0 ≤ 2629 + 64 * (k + 1); omega) ?_
            exact ih (k + 1) S cs ar Lc J Mc K Mr _ _ _ _ (by omega) (by omega) hE hR (fun q => (hd q).symm) hV ⟨_, _, _, _, _, hI⟩ rfl (by rw [mm_or_c (fun q => (hd q).symm)]; exact hw) (lv_sub hl [1, 2, 3, 0] rfl)
          · exact absurd rfl c526
        · have c32 : (xs (5 * k)) &&& 31 = 11 := c32
          refine lv_tableIn (off := 499) (tgt := 531) hx hb dL_law_32 (by rw [c32]; decide) (by rw [c32]; decide) (by rw [c32]; rfl) (by decide) ?_
          refine lv_aload_n hx hb dL_law_531 rfl (lv_at hl 1 rfl) ?_
          refine lv_aload_n hx hb dL_law_532 rfl (lv_at hl 0 rfl) ?_
          refine lv_iload_n hx hb dL_law_533 rfl (lv_at hl 3 rfl) ?_
          refine lv_iconst (v := 1) hx hb dL_law_534 (by decide) ?_
          refine lv_iadd hx hb dL_law_535 ?_
          refine sc_ld hx hb hX hbl hw hL (5 * k + 1) (nI_add _ 1) (by omega) dL_law_536 ?_
          refine mm_callVF (As := [.int (xs (5 * k + 1))]) (rest := []) X hw (fun _ _ h9 => h9) hd (c_halted l G Mc Lc S cs ar J hE ne nn nc nl ht hI.nm  (xs (5 * k + 1)) ) (hE.k0) rfl wd_L_61 ⟨Nat.le_of_ble_eq_true rfl, Nat.le_of_ble_eq_true rfl⟩ ⟨by show 35 + 7 * k + 0 ≤ 600000; omega, by show 2629 + 64 * k + 0 ≤ 7302250; omega⟩ rfl rfl (Nat.le_of_ble_eq_true rfl) hl.1 dL_law_537 (fun v9 Mc1 H9 locs9 hp9 hd hw => ?_)
          obtain ⟨rfl, rfl⟩ := hp9
          refine W.eq (g2 := F0 m 540 ls [.int (sp_halted S (xs (5 * k + 1)))]) rfl ?_
          refine lv_aload_n hx hb dL_law_540 rfl (lv_at hl 2 rfl) ?_
          refine lv_aload_n hx hb dL_law_541 rfl (lv_at hl 0 rfl) ?_
          refine lv_iload_n hx hb dL_law_542 rfl (lv_at hl 3 rfl) ?_
          refine lv_iconst (v := 1) hx hb dL_law_543 (by decide) ?_
          refine lv_iadd hx hb dL_law_544 ?_
          refine sc_ld hx hb hX hbl hw hL (5 * k + 1) (nI_add _ 1) (by omega) dL_law_545 ?_
          refine mm_callVF (As := [.int (xs (5 * k + 1))]) (rest := [.int (sp_halted S (xs (5 * k + 1)))]) X hw (fun _ _ h9 => by rw [mm_or_c hd]; exact h9) (fun q => (hd q).symm) (m_halted l G Mr g Lr S cs ar K hR ne nn nc nl ht hI.nm  (xs (5 * k + 1))) (hR.1) rfl wd_L_64 ⟨Nat.le_of_ble_eq_true rfl, Nat.le_of_ble_eq_true rfl⟩ ⟨by show 35 + 7 * k + 0 + 0 ≤ 600000; omega, by show 2629 + 64 * k + 0 + 0 ≤ 7302250; omega⟩ rfl rfl (Nat.le_of_ble_eq_true rfl) hl.1 dL_law_546 (fun v9 Mr1 H9 locs9 hp9 hd hw => ?_)
          obtain ⟨rfl, rfl⟩ := hp9
          refine W.eq (g2 := F0 m 549 ls [.int (sp_halted S (xs (5 * k + 1))), .int (sp_halted S (xs (5 * k + 1)))]) rfl ?_
          refine lv_icmp_eq (tgt := 832) hx hb dL_law_549 (by decide) (fun c549 => ?_) (fun c549 => ?_)
          · refine lv_iinc (v := nI (5 * (k + 1))) (lv' := [(3, .int (nI (5 * (k + 1)))), (0, .ref b), (1, .ref (Lc 0 0)), (2, .ref g)]) hx hb dL_law_832 hl (k := 3) rfl (by rw [show 5 * (k + 1) = 5 * k + 5 from by omega]; exact nI_add _ 5) (by decide) rfl (fun ls hl => ?_)
            refine lv_goto (tgt := 18) hx hb dL_law_835 (by decide) ?_
            refine W.widen (k := 35 + 7 * (k + 1)) (n := 2629 + 64 * (k + 1)) (by show 35 + 7 * k + 0 + 0 ≤ 35 + 7 * (k + 1); omega) (by show 2629 + 64 * k + 0 + 0 ≤ 2629 + 64 * (k + 1); omega) ?_
            exact ih (k + 1) S cs ar Lc J Mc K Mr _ _ _ _ (by omega) (by omega) hE hR (fun q => (hd q).symm) hV ⟨_, _, _, _, _, hI⟩ rfl (by rw [mm_or_c (fun q => (hd q).symm)]; exact hw) (lv_sub hl [1, 2, 3, 0] rfl)
          · exact absurd rfl c549
        · have c32 : (xs (5 * k)) &&& 31 = 12 := c32
          refine lv_tableIn (off := 522) (tgt := 554) hx hb dL_law_32 (by rw [c32]; decide) (by rw [c32]; decide) (by rw [c32]; rfl) (by decide) ?_
          refine lv_aload_n hx hb dL_law_554 rfl (lv_at hl 1 rfl) ?_
          refine mm_callVF (As := []) (rest := []) X hw (fun _ _ h9 => h9) hd (c_contract l G Mc Lc S cs ar J hE ne nn nc nl ht hI.nm (fun h9 => hI.zc _ (Nat.le_refl _) h9)  ) (hE.k0) rfl wd_L_65 ⟨Nat.le_of_ble_eq_true rfl, Nat.le_of_ble_eq_true rfl⟩ ⟨by show 35 + 7 * k + 7 ≤ 600000; omega, by show 2629 + 64 * k + 64 ≤ 7302250; omega⟩ rfl rfl (Nat.le_of_ble_eq_true rfl) hl.1 dL_law_555 (fun v9 Mc1 H9 locs9 hp9 hd hw => ?_)
          obtain ⟨rfl, L1, J1, hL1, hJ1, hE⟩ := hp9
          refine W.eq (g2 := F0 m 558 ls [.int ((sp_contract S).1)]) rfl ?_
          refine lv_aload_n hx hb dL_law_558 rfl (lv_at hl 2 rfl) ?_
          refine mm_callVF (As := []) (rest := [.int ((sp_contract S).1)]) X hw (fun _ _ h9 => by rw [mm_or_c hd]; exact h9) (fun q => (hd q).symm) (m_contract l G Mr g Lr S cs ar K hR ne nn nc nl ht hI.nm  ) (hR.1) rfl wd_L_69 ⟨Nat.le_of_ble_eq_true rfl, Nat.le_of_ble_eq_true rfl⟩ ⟨by show 35 + 7 * k + 7 + 0 ≤ 600000; omega, by show 2629 + 64 * k + 64 + 0 ≤ 7302250; omega⟩ rfl rfl (Nat.le_of_ble_eq_true rfl) hl.1 dL_law_559 (fun v9 Mr1 H9 locs9 hp9 hd hw => ?_)
          obtain ⟨rfl, K1, hR⟩ := hp9
          refine W.eq (g2 := F0 m 562 ls [.int ((sp_contract S).1), .int ((sp_contract S).1)]) rfl ?_
          refine lv_icmp_eq (tgt := 832) hx hb dL_law_562 (by decide) (fun c562 => ?_) (fun c562 => ?_)
          · refine lv_iinc (v := nI (5 * (k + 1))) (lv' := [(3, .int (nI (5 * (k + 1)))), (0, .ref b), (1, .ref (Lc 0 0)), (2, .ref g)]) hx hb dL_law_832 hl (k := 3) rfl (by rw [show 5 * (k + 1) = 5 * k + 5 from by omega]; exact nI_add _ 5) (by decide) rfl (fun ls hl => ?_)
            refine lv_goto (tgt := 18) hx hb dL_law_835 (by decide) ?_
            refine W.widen (k := 35 + 7 * (k + 1)) (n := 2629 + 64 * (k + 1)) (by show 35 + 7 * k + 7 + 0 ≤ 35 + 7 * (k + 1); omega) (by show 2629 + 64 * k + 64 + 0 ≤ 2629 + 64 * (k + 1); omega) ?_
            exact ih (k + 1) ((sp_contract S).2) (cs) (ar) L1 J1 Mc1 K1 Mr1 _ _ _ _ (by omega) (by omega) hE hR (fun q => (hd q).symm) (by rw [hJ1]; exact hV.of (ct_11 ..)) (hI.contract) hL1.symm (by rw [mm_or_c (fun q => (hd q).symm)]; exact hw) (lv_sub hl [1, 2, 3, 0] rfl)
          · exact absurd rfl c562
        · have c32 : (xs (5 * k)) &&& 31 = 13 := c32
          refine lv_tableIn (off := 535) (tgt := 567) hx hb dL_law_32 (by rw [c32]; decide) (by rw [c32]; decide) (by rw [c32]; rfl) (by decide) ?_
          refine lv_aload_n hx hb dL_law_567 rfl (lv_at hl 1 rfl) ?_
          refine lv_aload_n hx hb dL_law_568 rfl (lv_at hl 0 rfl) ?_
          refine lv_iload_n hx hb dL_law_569 rfl (lv_at hl 3 rfl) ?_
          refine lv_iconst (v := 1) hx hb dL_law_570 (by decide) ?_
          refine lv_iadd hx hb dL_law_571 ?_
          refine sc_ld hx hb hX hbl hw hL (5 * k + 1) (nI_add _ 1) (by omega) dL_law_572 ?_
          refine lv_aload_n hx hb dL_law_573 rfl (lv_at hl 0 rfl) ?_
          refine lv_iload_n hx hb dL_law_574 rfl (lv_at hl 3 rfl) ?_
          refine lv_iconst (v := 2) hx hb dL_law_575 (by decide) ?_
          refine lv_iadd hx hb dL_law_576 ?_
          refine sc_ld hx hb hX hbl hw hL (5 * k + 2) (nI_add _ 2) (by omega) dL_law_577 ?_
          refine lv_aload_n hx hb dL_law_578 rfl (lv_at hl 0 rfl) ?_
          refine lv_iload_n hx hb dL_law_579 rfl (lv_at hl 3 rfl) ?_
          refine lv_iconst (v := 3) hx hb dL_law_580 (by decide) ?_
          refine lv_iadd hx hb dL_law_581 ?_
          refine sc_ld hx hb hX hbl hw hL (5 * k + 3) (nI_add _ 3) (by omega) dL_law_582 ?_
          refine mm_callVF (As := [.int (xs (5 * k + 1)), .int (xs (5 * k + 2)), .int (xs (5 * k + 3))]) (rest := []) X hw (fun _ _ h9 => h9) hd (c_act l G Mc Lc S cs ar J hE ne nn nc nl ht hI.nm hI.w2 (xs (5 * k + 1)) (xs (5 * k + 2)) (xs (5 * k + 3)) ) (hE.k0) rfl wd_L_70 ⟨Nat.le_of_ble_eq_true rfl, Nat.le_of_ble_eq_true rfl⟩ ⟨by show 35 + 7 * k + 0 ≤ 600000; omega, by show 2629 + 64 * k + 0 ≤ 7302250; omega⟩ rfl rfl (Nat.le_of_ble_eq_true rfl) hl.1 dL_law_583 (fun v9 Mc1 H9 locs9 hp9 hd hw => ?_)
          obtain ⟨rfl, J1, hJ1, hE⟩ := hp9
          refine W.eq (g2 := F0 m 586 ls [.int ((sp_act S (xs (5 * k + 1)) (xs (5 * k + 2)) (xs (5 * k + 3))).1)]) rfl ?_
          refine lv_aload_n hx hb dL_law_586 rfl (lv_at hl 2 rfl) ?_
          refine lv_aload_n hx hb dL_law_587 rfl (lv_at hl 0 rfl) ?_
          refine lv_iload_n hx hb dL_law_588 rfl (lv_at hl 3 rfl) ?_
          refine lv_iconst (v := 1) hx hb dL_law_589 (by decide) ?_
          refine lv_iadd hx hb dL_law_590 ?_
          refine sc_ld hx hb hX hbl hw hL (5 * k + 1) (nI_add _ 1) (by omega) dL_law_591 ?_
          refine lv_aload_n hx hb dL_law_592 rfl (lv_at hl 0 rfl) ?_
          refine lv_iload_n hx hb dL_law_593 rfl (lv_at hl 3 rfl) ?_
          refine lv_iconst (v := 2) hx hb dL_law_594 (by decide) ?_
          refine lv_iadd hx hb dL_law_595 ?_
          refine sc_ld hx hb hX hbl hw hL (5 * k + 2) (nI_add _ 2) (by omega) dL_law_596 ?_
          refine lv_aload_n hx hb dL_law_597 rfl (lv_at hl 0 rfl) ?_
          refine lv_iload_n hx hb dL_law_598 rfl (lv_at hl 3 rfl) ?_
          refine lv_iconst (v := 3) hx hb dL_law_599 (by decide) ?_
          refine lv_iadd hx hb dL_law_600 ?_
          refine sc_ld hx hb hX hbl hw hL (5 * k + 3) (nI_add _ 3) (by omega) dL_law_601 ?_
          refine mm_callVF (As := [.int (xs (5 * k + 1)), .int (xs (5 * k + 2)), .int (xs (5 * k + 3))]) (rest := [.int ((sp_act S (xs (5 * k + 1)) (xs (5 * k + 2)) (xs (5 * k + 3))).1)]) X hw (fun _ _ h9 => by rw [mm_or_c hd]; exact h9) (fun q => (hd q).symm) (m_act l G Mr g Lr S cs ar K hR ne nn nc nl ht hI.nm hI.w2 (xs (5 * k + 1)) (xs (5 * k + 2)) (xs (5 * k + 3))) (hR.1) rfl wd_L_73 ⟨Nat.le_of_ble_eq_true rfl, Nat.le_of_ble_eq_true rfl⟩ ⟨by show 35 + 7 * k + 0 + 0 ≤ 600000; omega, by show 2629 + 64 * k + 0 + 0 ≤ 7302250; omega⟩ rfl rfl (Nat.le_of_ble_eq_true rfl) hl.1 dL_law_602 (fun v9 Mr1 H9 locs9 hp9 hd hw => ?_)
          obtain ⟨rfl, K1, hR⟩ := hp9
          refine W.eq (g2 := F0 m 605 ls [.int ((sp_act S (xs (5 * k + 1)) (xs (5 * k + 2)) (xs (5 * k + 3))).1), .int ((sp_act S (xs (5 * k + 1)) (xs (5 * k + 2)) (xs (5 * k + 3))).1)]) rfl ?_
          refine lv_icmp_eq (tgt := 832) hx hb dL_law_605 (by decide) (fun c605 => ?_) (fun c605 => ?_)
          · refine lv_iinc (v := nI (5 * (k + 1))) (lv' := [(3, .int (nI (5 * (k + 1)))), (0, .ref b), (1, .ref (Lc 0 0)), (2, .ref g)]) hx hb dL_law_832 hl (k := 3) rfl (by rw [show 5 * (k + 1) = 5 * k + 5 from by omega]; exact nI_add _ 5) (by decide) rfl (fun ls hl => ?_)
            refine lv_goto (tgt := 18) hx hb dL_law_835 (by decide) ?_
            refine W.widen (k := 35 + 7 * (k + 1)) (n := 2629 + 64 * (k + 1)) (by show 35 + 7 * k + 0 + 0 ≤ 35 + 7 * (k + 1); omega) (by show 2629 + 64 * k + 0 + 0 ≤ 2629 + 64 * (k + 1); omega) ?_
            exact ih (k + 1) ((sp_act S (xs (5 * k + 1)) (xs (5 * k + 2)) (xs (5 * k + 3))).2) (cs) (ar) Lc J1 Mc1 K1 Mr1 _ _ _ _ (by omega) (by omega) hE hR (fun q => (hd q).symm) (by rw [hJ1]; exact hV.of (ac_11 ..)) (⟨_, _, _, _, _, hI.act _ _ _⟩) rfl (by rw [mm_or_c (fun q => (hd q).symm)]; exact hw) (lv_sub hl [1, 2, 3, 0] rfl)
          · exact absurd rfl c605
        · have c32 : (xs (5 * k)) &&& 31 = 14 := c32
          refine lv_tableIn (off := 578) (tgt := 610) hx hb dL_law_32 (by rw [c32]; decide) (by rw [c32]; decide) (by rw [c32]; rfl) (by decide) ?_
          refine lv_aload_n hx hb dL_law_610 rfl (lv_at hl 1 rfl) ?_
          refine lv_aload_n hx hb dL_law_611 rfl (lv_at hl 0 rfl) ?_
          refine lv_iload_n hx hb dL_law_612 rfl (lv_at hl 3 rfl) ?_
          refine lv_iconst (v := 1) hx hb dL_law_613 (by decide) ?_
          refine lv_iadd hx hb dL_law_614 ?_
          refine sc_ld hx hb hX hbl hw hL (5 * k + 1) (nI_add _ 1) (by omega) dL_law_615 ?_
          refine mm_callVF (As := [.int (xs (5 * k + 1))]) (rest := []) X hw (fun _ _ h9 => h9) hd (c_deploy l G Mc Lc S cs ar J hE ne nn nc nl ht hI.nm hI.w1 hI.mr hI.fi (xs (5 * k + 1)) ) (hE.k0) rfl wd_L_74 ⟨Nat.le_of_ble_eq_true rfl, Nat.le_of_ble_eq_true rfl⟩ ⟨by show 35 + 7 * k + 0 ≤ 600000; omega, by show 2629 + 64 * k + 0 ≤ 7302250; omega⟩ rfl rfl (Nat.le_of_ble_eq_true rfl) hl.1 dL_law_616 (fun v9 Mc1 H9 locs9 hp9 hd hw => ?_)
          obtain ⟨rfl, J1, hJ1, hE⟩ := hp9
          refine W.eq (g2 := F0 m 619 ls [.int ((sp_deploy S (xs (5 * k + 1))).1)]) rfl ?_
          refine lv_aload_n hx hb dL_law_619 rfl (lv_at hl 2 rfl) ?_
          refine lv_aload_n hx hb dL_law_620 rfl (lv_at hl 0 rfl) ?_
          refine lv_iload_n hx hb dL_law_621 rfl (lv_at hl 3 rfl) ?_
          refine lv_iconst (v := 1) hx hb dL_law_622 (by decide) ?_
          refine lv_iadd hx hb dL_law_623 ?_
          refine sc_ld hx hb hX hbl hw hL (5 * k + 1) (nI_add _ 1) (by omega) dL_law_624 ?_
          refine mm_callVF (As := [.int (xs (5 * k + 1))]) (rest := [.int ((sp_deploy S (xs (5 * k + 1))).1)]) X hw (fun _ _ h9 => by rw [mm_or_c hd]; exact h9) (fun q => (hd q).symm) (m_deploy l G Mr g Lr S cs ar K hR ne nn nc nl ht hI.nm hI.w1 (hI.wh ht (Nat.le_refl _)) (xs (5 * k + 1))) (hR.1) rfl wd_L_77 ⟨Nat.le_of_ble_eq_true rfl, Nat.le_of_ble_eq_true rfl⟩ ⟨by show 35 + 7 * k + 0 + 0 ≤ 600000; omega, by show 2629 + 64 * k + 0 + 0 ≤ 7302250; omega⟩ rfl rfl (Nat.le_of_ble_eq_true rfl) hl.1 dL_law_625 (fun v9 Mr1 H9 locs9 hp9 hd hw => ?_)
          obtain ⟨rfl, K1, hR⟩ := hp9
          refine W.eq (g2 := F0 m 628 ls [.int ((sp_deploy S (xs (5 * k + 1))).1), .int ((sp_deploy S (xs (5 * k + 1))).1)]) rfl ?_
          refine lv_icmp_eq (tgt := 832) hx hb dL_law_628 (by decide) (fun c628 => ?_) (fun c628 => ?_)
          · refine lv_iinc (v := nI (5 * (k + 1))) (lv' := [(3, .int (nI (5 * (k + 1)))), (0, .ref b), (1, .ref (Lc 0 0)), (2, .ref g)]) hx hb dL_law_832 hl (k := 3) rfl (by rw [show 5 * (k + 1) = 5 * k + 5 from by omega]; exact nI_add _ 5) (by decide) rfl (fun ls hl => ?_)
            refine lv_goto (tgt := 18) hx hb dL_law_835 (by decide) ?_
            refine W.widen (k := 35 + 7 * (k + 1)) (n := 2629 + 64 * (k + 1)) (by show 35 + 7 * k + 0 + 0 ≤ 35 + 7 * (k + 1); omega) (by show 2629 + 64 * k + 0 + 0 ≤ 2629 + 64 * (k + 1); omega) ?_
            exact ih (k + 1) ((sp_deploy S (xs (5 * k + 1))).2) (cs) (ar) Lc J1 Mc1 K1 Mr1 _ _ _ _ (by omega) (by omega) hE hR (fun q => (hd q).symm) (by rw [hJ1]; exact hV.of (dp_11 ..)) (⟨_, _, _, _, _, hI.deploy _⟩) rfl (by rw [mm_or_c (fun q => (hd q).symm)]; exact hw) (lv_sub hl [1, 2, 3, 0] rfl)
          · exact absurd rfl c628
        · have c32 : (xs (5 * k)) &&& 31 = 15 := c32
          refine lv_tableIn (off := 601) (tgt := 633) hx hb dL_law_32 (by rw [c32]; decide) (by rw [c32]; decide) (by rw [c32]; rfl) (by decide) ?_
          refine lv_aload_n hx hb dL_law_633 rfl (lv_at hl 1 rfl) ?_
          refine lv_aload_n hx hb dL_law_634 rfl (lv_at hl 0 rfl) ?_
          refine lv_iload_n hx hb dL_law_635 rfl (lv_at hl 3 rfl) ?_
          refine lv_iconst (v := 1) hx hb dL_law_636 (by decide) ?_
          refine lv_iadd hx hb dL_law_637 ?_
          refine sc_ld hx hb hX hbl hw hL (5 * k + 1) (nI_add _ 1) (by omega) dL_law_638 ?_
          refine lv_aload_n hx hb dL_law_639 rfl (lv_at hl 0 rfl) ?_
          refine lv_iload_n hx hb dL_law_640 rfl (lv_at hl 3 rfl) ?_
          refine lv_iconst (v := 2) hx hb dL_law_641 (by decide) ?_
          refine lv_iadd hx hb dL_law_642 ?_
          refine sc_ld hx hb hX hbl hw hL (5 * k + 2) (nI_add _ 2) (by omega) dL_law_643 ?_
          refine lv_i2l (v := (xs (5 * k + 2) : Int32).toInt64) hx hb dL_law_644 rfl ?_
          refine lv_bipush (v := 32) hx hb dL_law_645 (by decide) ?_
          refine lv_lshl (v := ((xs (5 * k + 2) : Int32).toInt64) <<< ((32 : Int32).toInt64 &&& 63)) hx hb dL_law_647 rfl ?_
          refine lv_aload_n hx hb dL_law_648 rfl (lv_at hl 0 rfl) ?_
          refine lv_iload_n hx hb dL_law_649 rfl (lv_at hl 3 rfl) ?_
          refine lv_iconst (v := 3) hx hb dL_law_650 (by decide) ?_
          refine lv_iadd hx hb dL_law_651 ?_
          refine sc_ld hx hb hX hbl hw hL (5 * k + 3) (nI_add _ 3) (by omega) dL_law_652 ?_
          refine lv_i2l (v := (xs (5 * k + 3) : Int32).toInt64) hx hb dL_law_653 rfl ?_
          refine lv_ldc2 (v := 4294967295) hx hb X.2.2.2.1 (X.2.2.2.2.1 _ cn_L_78) dL_law_654 ?_
          refine lv_land hx hb dL_law_657 ?_
          refine lv_lor hx hb dL_law_658 ?_
          refine lv_aload_n hx hb dL_law_659 rfl (lv_at hl 0 rfl) ?_
          refine lv_iload_n hx hb dL_law_660 rfl (lv_at hl 3 rfl) ?_
          refine lv_iconst (v := 4) hx hb dL_law_661 (by decide) ?_
          refine lv_iadd hx hb dL_law_662 ?_
          refine sc_ld hx hb hX hbl hw hL (5 * k + 4) (nI_add _ 4) (by omega) dL_law_663 ?_
          refine mm_callVF (As := [.int (xs (5 * k + 1)), .long ((((xs (5 * k + 2) : Int32).toInt64) <<< ((32 : Int32).toInt64 &&& 63)) ||| (((xs (5 * k + 3) : Int32).toInt64) &&& 4294967295)), .int (xs (5 * k + 4))]) (rest := []) X hw (fun _ _ h9 => h9) hd (c_run l G Mc Lc S cs ar J hE ne nn nc nl ht hI.nm hI.wk hI.fi hI.wc (xs (5 * k + 1)) ((((xs (5 * k + 2) : Int32).toInt64) <<< ((32 : Int32).toInt64 &&& 63)) ||| (((xs (5 * k + 3) : Int32).toInt64) &&& 4294967295)) (xs (5 * k + 4)) ) (hE.k0) rfl wd_L_80 ⟨Nat.le_of_ble_eq_true rfl, Nat.le_of_ble_eq_true rfl⟩ ⟨by show 35 + 7 * k + 1 ≤ 600000; omega, by show 2629 + 64 * k + 5 ≤ 7302250; omega⟩ rfl rfl (Nat.le_of_ble_eq_true rfl) hl.1 dL_law_664 (fun v9 Mc1 H9 locs9 hp9 hd hw => ?_)
          obtain ⟨rfl, L1, J1, hL1, hJ1, hE⟩ := hp9
          refine W.eq (g2 := F0 m 667 ls [.int ((sp_run S cs ar (xs (5 * k + 1)) ((((xs (5 * k + 2) : Int32).toInt64) <<< ((32 : Int32).toInt64 &&& 63)) ||| (((xs (5 * k + 3) : Int32).toInt64) &&& 4294967295)) (xs (5 * k + 4))).1)]) rfl ?_
          refine lv_aload_n hx hb dL_law_667 rfl (lv_at hl 2 rfl) ?_
          refine lv_aload_n hx hb dL_law_668 rfl (lv_at hl 0 rfl) ?_
          refine lv_iload_n hx hb dL_law_669 rfl (lv_at hl 3 rfl) ?_
          refine lv_iconst (v := 1) hx hb dL_law_670 (by decide) ?_
          refine lv_iadd hx hb dL_law_671 ?_
          refine sc_ld hx hb hX hbl hw hL (5 * k + 1) (nI_add _ 1) (by omega) dL_law_672 ?_
          refine lv_aload_n hx hb dL_law_673 rfl (lv_at hl 0 rfl) ?_
          refine lv_iload_n hx hb dL_law_674 rfl (lv_at hl 3 rfl) ?_
          refine lv_iconst (v := 2) hx hb dL_law_675 (by decide) ?_
          refine lv_iadd hx hb dL_law_676 ?_
          refine sc_ld hx hb hX hbl hw hL (5 * k + 2) (nI_add _ 2) (by omega) dL_law_677 ?_
          refine lv_i2l (v := (xs (5 * k + 2) : Int32).toInt64) hx hb dL_law_678 rfl ?_
          refine lv_bipush (v := 32) hx hb dL_law_679 (by decide) ?_
          refine lv_lshl (v := ((xs (5 * k + 2) : Int32).toInt64) <<< ((32 : Int32).toInt64 &&& 63)) hx hb dL_law_681 rfl ?_
          refine lv_aload_n hx hb dL_law_682 rfl (lv_at hl 0 rfl) ?_
          refine lv_iload_n hx hb dL_law_683 rfl (lv_at hl 3 rfl) ?_
          refine lv_iconst (v := 3) hx hb dL_law_684 (by decide) ?_
          refine lv_iadd hx hb dL_law_685 ?_
          refine sc_ld hx hb hX hbl hw hL (5 * k + 3) (nI_add _ 3) (by omega) dL_law_686 ?_
          refine lv_i2l (v := (xs (5 * k + 3) : Int32).toInt64) hx hb dL_law_687 rfl ?_
          refine lv_ldc2 (v := 4294967295) hx hb X.2.2.2.1 (X.2.2.2.2.1 _ cn_L_78) dL_law_688 ?_
          refine lv_land hx hb dL_law_691 ?_
          refine lv_lor hx hb dL_law_692 ?_
          refine lv_aload_n hx hb dL_law_693 rfl (lv_at hl 0 rfl) ?_
          refine lv_iload_n hx hb dL_law_694 rfl (lv_at hl 3 rfl) ?_
          refine lv_iconst (v := 4) hx hb dL_law_695 (by decide) ?_
          refine lv_iadd hx hb dL_law_696 ?_
          refine sc_ld hx hb hX hbl hw hL (5 * k + 4) (nI_add _ 4) (by omega) dL_law_697 ?_
          refine mm_callVF (As := [.int (xs (5 * k + 1)), .long ((((xs (5 * k + 2) : Int32).toInt64) <<< ((32 : Int32).toInt64 &&& 63)) ||| (((xs (5 * k + 3) : Int32).toInt64) &&& 4294967295)), .int (xs (5 * k + 4))]) (rest := [.int ((sp_run S cs ar (xs (5 * k + 1)) ((((xs (5 * k + 2) : Int32).toInt64) <<< ((32 : Int32).toInt64 &&& 63)) ||| (((xs (5 * k + 3) : Int32).toInt64) &&& 4294967295)) (xs (5 * k + 4))).1)]) X hw (fun _ _ h9 => by rw [mm_or_c hd]; exact h9) (fun q => (hd q).symm) (m_run l G Mr g Lr S cs ar K hR ne nn nc nl ht hI.nm hI.wk hI.wh (xs (5 * k + 1)) ((((xs (5 * k + 2) : Int32).toInt64) <<< ((32 : Int32).toInt64 &&& 63)) ||| (((xs (5 * k + 3) : Int32).toInt64) &&& 4294967295)) (xs (5 * k + 4))) (hR.1) rfl wd_L_84 ⟨Nat.le_of_ble_eq_true rfl, Nat.le_of_ble_eq_true rfl⟩ ⟨by show 35 + 7 * k + 1 + 0 ≤ 600000; omega, by show 2629 + 64 * k + 5 + 0 ≤ 7302250; omega⟩ rfl rfl (Nat.le_of_ble_eq_true rfl) hl.1 dL_law_698 (fun v9 Mr1 H9 locs9 hp9 hd hw => ?_)
          obtain ⟨rfl, K1, hR⟩ := hp9
          refine W.eq (g2 := F0 m 701 ls [.int ((sp_run S cs ar (xs (5 * k + 1)) ((((xs (5 * k + 2) : Int32).toInt64) <<< ((32 : Int32).toInt64 &&& 63)) ||| (((xs (5 * k + 3) : Int32).toInt64) &&& 4294967295)) (xs (5 * k + 4))).1), .int ((sp_run S cs ar (xs (5 * k + 1)) ((((xs (5 * k + 2) : Int32).toInt64) <<< ((32 : Int32).toInt64 &&& 63)) ||| (((xs (5 * k + 3) : Int32).toInt64) &&& 4294967295)) (xs (5 * k + 4))).1)]) rfl ?_
          refine lv_icmp_eq (tgt := 832) hx hb dL_law_701 (by decide) (fun c701 => ?_) (fun c701 => ?_)
          · refine lv_iinc (v := nI (5 * (k + 1))) (lv' := [(3, .int (nI (5 * (k + 1)))), (0, .ref b), (1, .ref (Lc 0 0)), (2, .ref g)]) hx hb dL_law_832 hl (k := 3) rfl (by rw [show 5 * (k + 1) = 5 * k + 5 from by omega]; exact nI_add _ 5) (by decide) rfl (fun ls hl => ?_)
            refine lv_goto (tgt := 18) hx hb dL_law_835 (by decide) ?_
            refine W.widen (k := 35 + 7 * (k + 1)) (n := 2629 + 64 * (k + 1)) (by show 35 + 7 * k + 1 + 0 ≤ 35 + 7 * (k + 1); omega) (by show 2629 + 64 * k + 5 + 0 ≤ 2629 + 64 * (k + 1); omega) ?_
            exact ih (k + 1) ((sp_run S cs ar (xs (5 * k + 1)) ((((xs (5 * k + 2) : Int32).toInt64) <<< ((32 : Int32).toInt64 &&& 63)) ||| (((xs (5 * k + 3) : Int32).toInt64) &&& 4294967295)) (xs (5 * k + 4))).2.1) ((sp_run S cs ar (xs (5 * k + 1)) ((((xs (5 * k + 2) : Int32).toInt64) <<< ((32 : Int32).toInt64 &&& 63)) ||| (((xs (5 * k + 3) : Int32).toInt64) &&& 4294967295)) (xs (5 * k + 4))).2.2.1) ((sp_run S cs ar (xs (5 * k + 1)) ((((xs (5 * k + 2) : Int32).toInt64) <<< ((32 : Int32).toInt64 &&& 63)) ||| (((xs (5 * k + 3) : Int32).toInt64) &&& 4294967295)) (xs (5 * k + 4))).2.2.2) L1 J1 Mc1 K1 Mr1 _ _ _ _ (by omega) (by omega) hE hR (fun q => (hd q).symm) (by rw [hJ1]; exact hV.of (ru_11 ..)) (hI.run _ _ _) hL1.symm (by rw [mm_or_c (fun q => (hd q).symm)]; exact hw) (lv_sub hl [1, 2, 3, 0] rfl)
          · exact absurd rfl c701
        · have c32 : (xs (5 * k)) &&& 31 = 16 := c32
          refine lv_tableIn (off := 674) (tgt := 706) hx hb dL_law_32 (by rw [c32]; decide) (by rw [c32]; decide) (by rw [c32]; rfl) (by decide) ?_
          refine lv_aload_n hx hb dL_law_706 rfl (lv_at hl 1 rfl) ?_
          refine lv_aload_n hx hb dL_law_707 rfl (lv_at hl 0 rfl) ?_
          refine lv_iload_n hx hb dL_law_708 rfl (lv_at hl 3 rfl) ?_
          refine lv_iconst (v := 1) hx hb dL_law_709 (by decide) ?_
          refine lv_iadd hx hb dL_law_710 ?_
          refine sc_ld hx hb hX hbl hw hL (5 * k + 1) (nI_add _ 1) (by omega) dL_law_711 ?_
          refine lv_aload_n hx hb dL_law_712 rfl (lv_at hl 0 rfl) ?_
          refine lv_iload_n hx hb dL_law_713 rfl (lv_at hl 3 rfl) ?_
          refine lv_iconst (v := 2) hx hb dL_law_714 (by decide) ?_
          refine lv_iadd hx hb dL_law_715 ?_
          refine sc_ld hx hb hX hbl hw hL (5 * k + 2) (nI_add _ 2) (by omega) dL_law_716 ?_
          refine mm_callVF (As := [.int (xs (5 * k + 1)), .int (xs (5 * k + 2))]) (rest := []) X hw (fun _ _ h9 => h9) hd (c_cell l G Mc Lc S cs ar J hE ne nn nc nl ht hI.nm  (xs (5 * k + 1)) (xs (5 * k + 2)) ) (hE.k0) rfl wd_L_85 ⟨Nat.le_of_ble_eq_true rfl, Nat.le_of_ble_eq_true rfl⟩ ⟨by show 35 + 7 * k + 0 ≤ 600000; omega, by show 2629 + 64 * k + 0 ≤ 7302250; omega⟩ rfl rfl (Nat.le_of_ble_eq_true rfl) hl.1 dL_law_717 (fun v9 Mc1 H9 locs9 hp9 hd hw => ?_)
          obtain ⟨rfl, rfl⟩ := hp9
          refine W.eq (g2 := F0 m 720 ls [.long (sp_cell S cs (xs (5 * k + 1)) (xs (5 * k + 2)))]) rfl ?_
          refine lv_aload_n hx hb dL_law_720 rfl (lv_at hl 2 rfl) ?_
          refine lv_aload_n hx hb dL_law_721 rfl (lv_at hl 0 rfl) ?_
          refine lv_iload_n hx hb dL_law_722 rfl (lv_at hl 3 rfl) ?_
          refine lv_iconst (v := 1) hx hb dL_law_723 (by decide) ?_
          refine lv_iadd hx hb dL_law_724 ?_
          refine sc_ld hx hb hX hbl hw hL (5 * k + 1) (nI_add _ 1) (by omega) dL_law_725 ?_
          refine lv_aload_n hx hb dL_law_726 rfl (lv_at hl 0 rfl) ?_
          refine lv_iload_n hx hb dL_law_727 rfl (lv_at hl 3 rfl) ?_
          refine lv_iconst (v := 2) hx hb dL_law_728 (by decide) ?_
          refine lv_iadd hx hb dL_law_729 ?_
          refine sc_ld hx hb hX hbl hw hL (5 * k + 2) (nI_add _ 2) (by omega) dL_law_730 ?_
          refine mm_callVF (As := [.int (xs (5 * k + 1)), .int (xs (5 * k + 2))]) (rest := [.long (sp_cell S cs (xs (5 * k + 1)) (xs (5 * k + 2)))]) X hw (fun _ _ h9 => by rw [mm_or_c hd]; exact h9) (fun q => (hd q).symm) (m_cell l G Mr g Lr S cs ar K hR ne nn nc nl ht hI.nm  (xs (5 * k + 1)) (xs (5 * k + 2))) (hR.1) rfl wd_L_89 ⟨Nat.le_of_ble_eq_true rfl, Nat.le_of_ble_eq_true rfl⟩ ⟨by show 35 + 7 * k + 0 + 0 ≤ 600000; omega, by show 2629 + 64 * k + 0 + 0 ≤ 7302250; omega⟩ rfl rfl (Nat.le_of_ble_eq_true rfl) hl.1 dL_law_731 (fun v9 Mr1 H9 locs9 hp9 hd hw => ?_)
          obtain ⟨rfl, rfl⟩ := hp9
          refine W.eq (g2 := F0 m 734 ls [.long (sp_cell S cs (xs (5 * k + 1)) (xs (5 * k + 2))), .long (sp_cell S cs (xs (5 * k + 1)) (xs (5 * k + 2)))]) rfl ?_
          refine W.lcmp hx hb dL_law_734 ?_
          refine mm_lif_eq (tgt := 832) hx hb dL_law_735 (by decide) (fun c735 => ?_) (fun c735 => ?_)
          · refine lv_iinc (v := nI (5 * (k + 1))) (lv' := [(3, .int (nI (5 * (k + 1)))), (0, .ref b), (1, .ref (Lc 0 0)), (2, .ref g)]) hx hb dL_law_832 hl (k := 3) rfl (by rw [show 5 * (k + 1) = 5 * k + 5 from by omega]; exact nI_add _ 5) (by decide) rfl (fun ls hl => ?_)
            refine lv_goto (tgt := 18) hx hb dL_law_835 (by decide) ?_
            refine W.widen (k := 35 + 7 * (k + 1)) (n := 2629 + 64 * (k + 1)) (by show 35 + 7 * k + 0 + 0 ≤ 35 + 7 * (k + 1); omega) (by show 2629 + 64 * k + 0 + 0 ≤ 2629 + 64 * (k + 1); omega) ?_
            exact ih (k + 1) S cs ar Lc J Mc K Mr _ _ _ _ (by omega) (by omega) hE hR (fun q => (hd q).symm) hV ⟨_, _, _, _, _, hI⟩ rfl (by rw [mm_or_c (fun q => (hd q).symm)]; exact hw) (lv_sub hl [1, 2, 3, 0] rfl)
          · exact absurd rfl c735
        · have c32 : (xs (5 * k)) &&& 31 = 17 := c32
          refine lv_tableIn (off := 708) (tgt := 740) hx hb dL_law_32 (by rw [c32]; decide) (by rw [c32]; decide) (by rw [c32]; rfl) (by decide) ?_
          refine lv_aload_n hx hb dL_law_740 rfl (lv_at hl 1 rfl) ?_
          refine lv_aload_n hx hb dL_law_741 rfl (lv_at hl 0 rfl) ?_
          refine lv_iload_n hx hb dL_law_742 rfl (lv_at hl 3 rfl) ?_
          refine lv_iconst (v := 1) hx hb dL_law_743 (by decide) ?_
          refine lv_iadd hx hb dL_law_744 ?_
          refine sc_ld hx hb hX hbl hw hL (5 * k + 1) (nI_add _ 1) (by omega) dL_law_745 ?_
          refine lv_aload_n hx hb dL_law_746 rfl (lv_at hl 0 rfl) ?_
          refine lv_iload_n hx hb dL_law_747 rfl (lv_at hl 3 rfl) ?_
          refine lv_iconst (v := 2) hx hb dL_law_748 (by decide) ?_
          refine lv_iadd hx hb dL_law_749 ?_
          refine sc_ld hx hb hX hbl hw hL (5 * k + 2) (nI_add _ 2) (by omega) dL_law_750 ?_
          refine mm_callVF (As := [.int (xs (5 * k + 1)), .int (xs (5 * k + 2))]) (rest := []) X hw (fun _ _ h9 => h9) hd (c_logged l G Mc Lc S cs ar J hE ne nn nc nl ht hI.nm  (xs (5 * k + 1)) (xs (5 * k + 2)) ) (hE.k0) rfl wd_L_90 ⟨Nat.le_of_ble_eq_true rfl, Nat.le_of_ble_eq_true rfl⟩ ⟨by show 35 + 7 * k + 0 ≤ 600000; omega, by show 2629 + 64 * k + 0 ≤ 7302250; omega⟩ rfl rfl (Nat.le_of_ble_eq_true rfl) hl.1 dL_law_751 (fun v9 Mc1 H9 locs9 hp9 hd hw => ?_)
          obtain ⟨rfl, rfl⟩ := hp9
          refine W.eq (g2 := F0 m 754 ls [.int (sp_logged S (xs (5 * k + 1)) (xs (5 * k + 2)))]) rfl ?_
          refine lv_aload_n hx hb dL_law_754 rfl (lv_at hl 2 rfl) ?_
          refine lv_aload_n hx hb dL_law_755 rfl (lv_at hl 0 rfl) ?_
          refine lv_iload_n hx hb dL_law_756 rfl (lv_at hl 3 rfl) ?_
          refine lv_iconst (v := 1) hx hb dL_law_757 (by decide) ?_
          refine lv_iadd hx hb dL_law_758 ?_
          refine sc_ld hx hb hX hbl hw hL (5 * k + 1) (nI_add _ 1) (by omega) dL_law_759 ?_
          refine lv_aload_n hx hb dL_law_760 rfl (lv_at hl 0 rfl) ?_
          refine lv_iload_n hx hb dL_law_761 rfl (lv_at hl 3 rfl) ?_
          refine lv_iconst (v := 2) hx hb dL_law_762 (by decide) ?_
          refine lv_iadd hx hb dL_law_763 ?_
          refine sc_ld hx hb hX hbl hw hL (5 * k + 2) (nI_add _ 2) (by omega) dL_law_764 ?_
          refine mm_callVF (As := [.int (xs (5 * k + 1)), .int (xs (5 * k + 2))]) (rest := [.int (sp_logged S (xs (5 * k + 1)) (xs (5 * k + 2)))]) X hw (fun _ _ h9 => by rw [mm_or_c hd]; exact h9) (fun q => (hd q).symm) (m_logged l G Mr g Lr S cs ar K hR ne nn nc nl ht hI.nm  (xs (5 * k + 1)) (xs (5 * k + 2))) (hR.1) rfl wd_L_93 ⟨Nat.le_of_ble_eq_true rfl, Nat.le_of_ble_eq_true rfl⟩ ⟨by show 35 + 7 * k + 0 + 0 ≤ 600000; omega, by show 2629 + 64 * k + 0 + 0 ≤ 7302250; omega⟩ rfl rfl (Nat.le_of_ble_eq_true rfl) hl.1 dL_law_765 (fun v9 Mr1 H9 locs9 hp9 hd hw => ?_)
          obtain ⟨rfl, rfl⟩ := hp9
          refine W.eq (g2 := F0 m 768 ls [.int (sp_logged S (xs (5 * k + 1)) (xs (5 * k + 2))), .int (sp_logged S (xs (5 * k + 1)) (xs (5 * k + 2)))]) rfl ?_
          refine lv_icmp_eq (tgt := 832) hx hb dL_law_768 (by decide) (fun c768 => ?_) (fun c768 => ?_)
          · refine lv_iinc (v := nI (5 * (k + 1))) (lv' := [(3, .int (nI (5 * (k + 1)))), (0, .ref b), (1, .ref (Lc 0 0)), (2, .ref g)]) hx hb dL_law_832 hl (k := 3) rfl (by rw [show 5 * (k + 1) = 5 * k + 5 from by omega]; exact nI_add _ 5) (by decide) rfl (fun ls hl => ?_)
            refine lv_goto (tgt := 18) hx hb dL_law_835 (by decide) ?_
            refine W.widen (k := 35 + 7 * (k + 1)) (n := 2629 + 64 * (k + 1)) (by show 35 + 7 * k + 0 + 0 ≤ 35 + 7 * (k + 1); omega) (by show 2629 + 64 * k + 0 + 0 ≤ 2629 + 64 * (k + 1); omega) ?_
            exact ih (k + 1) S cs ar Lc J Mc K Mr _ _ _ _ (by omega) (by omega) hE hR (fun q => (hd q).symm) hV ⟨_, _, _, _, _, hI⟩ rfl (by rw [mm_or_c (fun q => (hd q).symm)]; exact hw) (lv_sub hl [1, 2, 3, 0] rfl)
          · exact absurd rfl c768
        · have c32 : (xs (5 * k)) &&& 31 = 18 := c32
          refine lv_tableIn (off := 741) (tgt := 773) hx hb dL_law_32 (by rw [c32]; decide) (by rw [c32]; decide) (by rw [c32]; rfl) (by decide) ?_
          refine lv_aload_n hx hb dL_law_773 rfl (lv_at hl 1 rfl) ?_
          refine mm_callVF (As := []) (rest := []) X hw (fun _ _ h9 => h9) hd (c_digest l G Mc Lc S cs ar J hE ne nn nc nl ht hI.nm   ) (hE.k0) rfl wd_L_94 ⟨Nat.le_of_ble_eq_true rfl, Nat.le_of_ble_eq_true rfl⟩ ⟨by show 35 + 7 * k + 0 ≤ 600000; omega, by show 2629 + 64 * k + 0 ≤ 7302250; omega⟩ rfl rfl (Nat.le_of_ble_eq_true rfl) hl.1 dL_law_774 (fun v9 Mc1 H9 locs9 hp9 hd hw => ?_)
          obtain ⟨rfl, rfl⟩ := hp9
          refine W.eq (g2 := F0 m 777 ls [.int (S 24 0)]) rfl ?_
          refine lv_aload_n hx hb dL_law_777 rfl (lv_at hl 2 rfl) ?_
          refine mm_callVF (As := []) (rest := [.int (S 24 0)]) X hw (fun _ _ h9 => by rw [mm_or_c hd]; exact h9) (fun q => (hd q).symm) (m_digest l G Mr g Lr S cs ar K hR ne nn nc nl ht hI.nm  ) (hR.1) rfl wd_L_97 ⟨Nat.le_of_ble_eq_true rfl, Nat.le_of_ble_eq_true rfl⟩ ⟨by show 35 + 7 * k + 0 + 0 ≤ 600000; omega, by show 2629 + 64 * k + 0 + 0 ≤ 7302250; omega⟩ rfl rfl (Nat.le_of_ble_eq_true rfl) hl.1 dL_law_778 (fun v9 Mr1 H9 locs9 hp9 hd hw => ?_)
          obtain ⟨rfl, rfl⟩ := hp9
          refine W.eq (g2 := F0 m 781 ls [.int (S 24 0), .int (S 24 0)]) rfl ?_
          refine lv_icmp_eq (tgt := 832) hx hb dL_law_781 (by decide) (fun c781 => ?_) (fun c781 => ?_)
          · refine lv_iinc (v := nI (5 * (k + 1))) (lv' := [(3, .int (nI (5 * (k + 1)))), (0, .ref b), (1, .ref (Lc 0 0)), (2, .ref g)]) hx hb dL_law_832 hl (k := 3) rfl (by rw [show 5 * (k + 1) = 5 * k + 5 from by omega]; exact nI_add _ 5) (by decide) rfl (fun ls hl => ?_)
            refine lv_goto (tgt := 18) hx hb dL_law_835 (by decide) ?_
            refine W.widen (k := 35 + 7 * (k + 1)) (n := 2629 + 64 * (k + 1)) (by show 35 + 7 * k + 0 + 0 ≤ 35 + 7 * (k + 1); omega) (by show 2629 + 64 * k + 0 + 0 ≤ 2629 + 64 * (k + 1); omega) ?_
            exact ih (k + 1) S cs ar Lc J Mc K Mr _ _ _ _ (by omega) (by omega) hE hR (fun q => (hd q).symm) hV ⟨_, _, _, _, _, hI⟩ rfl (by rw [mm_or_c (fun q => (hd q).symm)]; exact hw) (lv_sub hl [1, 2, 3, 0] rfl)
          · exact absurd rfl c781
        · have c32 : (xs (5 * k)) &&& 31 = 19 := c32
          refine lv_tableIn (off := 754) (tgt := 786) hx hb dL_law_32 (by rw [c32]; decide) (by rw [c32]; decide) (by rw [c32]; rfl) (by decide) ?_
          refine lv_aload_n hx hb dL_law_786 rfl (lv_at hl 1 rfl) ?_
          refine lv_aload_n hx hb dL_law_787 rfl (lv_at hl 0 rfl) ?_
          refine lv_iload_n hx hb dL_law_788 rfl (lv_at hl 3 rfl) ?_
          refine lv_iconst (v := 1) hx hb dL_law_789 (by decide) ?_
          refine lv_iadd hx hb dL_law_790 ?_
          refine sc_ld hx hb hX hbl hw hL (5 * k + 1) (nI_add _ 1) (by omega) dL_law_791 ?_
          refine mm_callVF (As := [.int (xs (5 * k + 1))]) (rest := []) X hw (fun _ _ h9 => h9) hd (c_replay l G Mc Lc S cs ar J hE ne nn nc nl ht hI.nm hI.wk hI.fi hI.wl hI.wc (xs (5 * k + 1)) ) (hE.k0) rfl wd_L_98 ⟨Nat.le_of_ble_eq_true rfl, Nat.le_of_ble_eq_true rfl⟩ ⟨by show 35 + 7 * k + 0 ≤ 600000; omega, by show 2629 + 64 * k + 0 ≤ 7302250; omega⟩ rfl rfl (Nat.le_of_ble_eq_true rfl) hl.1 dL_law_792 (fun v9 Mc1 H9 locs9 hp9 hd hw => ?_)
          obtain ⟨rfl, J1, hJ1, hE⟩ := hp9
          refine W.eq (g2 := F0 m 795 ls [.int (sp_replay S ar (xs (5 * k + 1)))]) rfl ?_
          refine lv_aload_n hx hb dL_law_795 rfl (lv_at hl 2 rfl) ?_
          refine lv_aload_n hx hb dL_law_796 rfl (lv_at hl 0 rfl) ?_
          refine lv_iload_n hx hb dL_law_797 rfl (lv_at hl 3 rfl) ?_
          refine lv_iconst (v := 1) hx hb dL_law_798 (by decide) ?_
          refine lv_iadd hx hb dL_law_799 ?_
          refine sc_ld hx hb hX hbl hw hL (5 * k + 1) (nI_add _ 1) (by omega) dL_law_800 ?_
          refine mm_callVF (As := [.int (xs (5 * k + 1))]) (rest := [.int (sp_replay S ar (xs (5 * k + 1)))]) X hw (fun _ _ h9 => by rw [mm_or_c hd]; exact h9) (fun q => (hd q).symm) (m_replay l G Mr g Lr S cs ar K hR ne nn nc nl ht hI.nm hI.wk hI.wh hI.wl (xs (5 * k + 1))) (hR.1) rfl wd_L_101 ⟨Nat.le_of_ble_eq_true rfl, Nat.le_of_ble_eq_true rfl⟩ ⟨by show 35 + 7 * k + 0 + 0 ≤ 600000; omega, by show 2629 + 64 * k + 0 + 0 ≤ 7302250; omega⟩ rfl rfl (Nat.le_of_ble_eq_true rfl) hl.1 dL_law_801 (fun v9 Mr1 H9 locs9 hp9 hd hw => ?_)
          obtain ⟨rfl, K1, hR⟩ := hp9
          refine W.eq (g2 := F0 m 804 ls [.int (sp_replay S ar (xs (5 * k + 1))), .int (sp_replay S ar (xs (5 * k + 1)))]) rfl ?_
          refine lv_icmp_eq (tgt := 832) hx hb dL_law_804 (by decide) (fun c804 => ?_) (fun c804 => ?_)
          · refine lv_iinc (v := nI (5 * (k + 1))) (lv' := [(3, .int (nI (5 * (k + 1)))), (0, .ref b), (1, .ref (Lc 0 0)), (2, .ref g)]) hx hb dL_law_832 hl (k := 3) rfl (by rw [show 5 * (k + 1) = 5 * k + 5 from by omega]; exact nI_add _ 5) (by decide) rfl (fun ls hl => ?_)
            refine lv_goto (tgt := 18) hx hb dL_law_835 (by decide) ?_
            refine W.widen (k := 35 + 7 * (k + 1)) (n := 2629 + 64 * (k + 1)) (by show 35 + 7 * k + 0 + 0 ≤ 35 + 7 * (k + 1); omega) (by show 2629 + 64 * k + 0 + 0 ≤ 2629 + 64 * (k + 1); omega) ?_
            exact ih (k + 1) (S) (cs) (ar) Lc J1 Mc1 K1 Mr1 _ _ _ _ (by omega) (by omega) hE hR (fun q => (hd q).symm) (by rw [hJ1]; exact hV) (⟨_, _, _, _, _, hI⟩) rfl (by rw [mm_or_c (fun q => (hd q).symm)]; exact hw) (lv_sub hl [1, 2, 3, 0] rfl)
          · exact absurd rfl c804
        · have c32 : (xs (5 * k)) &&& 31 = 20 := c32
          refine lv_tableIn (off := 777) (tgt := 809) hx hb dL_law_32 (by rw [c32]; decide) (by rw [c32]; decide) (by rw [c32]; rfl) (by decide) ?_
          refine lv_aload_n hx hb dL_law_809 rfl (lv_at hl 1 rfl) ?_
          refine lv_aload_n hx hb dL_law_810 rfl (lv_at hl 0 rfl) ?_
          refine lv_iload_n hx hb dL_law_811 rfl (lv_at hl 3 rfl) ?_
          refine lv_iconst (v := 1) hx hb dL_law_812 (by decide) ?_
          refine lv_iadd hx hb dL_law_813 ?_
          refine sc_ld hx hb hX hbl hw hL (5 * k + 1) (nI_add _ 1) (by omega) dL_law_814 ?_
          refine mm_callVF (As := [.int (xs (5 * k + 1))]) (rest := []) X hw (fun _ _ h9 => h9) hd (c_count l G Mc Lc S cs ar J hE ne nn nc nl ht hI.nm  (xs (5 * k + 1)) ) (hE.k0) rfl wd_L_102 ⟨Nat.le_of_ble_eq_true rfl, Nat.le_of_ble_eq_true rfl⟩ ⟨by show 35 + 7 * k + 0 ≤ 600000; omega, by show 2629 + 64 * k + 0 ≤ 7302250; omega⟩ rfl rfl (Nat.le_of_ble_eq_true rfl) hl.1 dL_law_815 (fun v9 Mc1 H9 locs9 hp9 hd hw => ?_)
          obtain ⟨rfl, rfl⟩ := hp9
          refine W.eq (g2 := F0 m 818 ls [.int (sp_count S (xs (5 * k + 1)))]) rfl ?_
          refine lv_aload_n hx hb dL_law_818 rfl (lv_at hl 2 rfl) ?_
          refine lv_aload_n hx hb dL_law_819 rfl (lv_at hl 0 rfl) ?_
          refine lv_iload_n hx hb dL_law_820 rfl (lv_at hl 3 rfl) ?_
          refine lv_iconst (v := 1) hx hb dL_law_821 (by decide) ?_
          refine lv_iadd hx hb dL_law_822 ?_
          refine sc_ld hx hb hX hbl hw hL (5 * k + 1) (nI_add _ 1) (by omega) dL_law_823 ?_
          refine mm_callVF (As := [.int (xs (5 * k + 1))]) (rest := [.int (sp_count S (xs (5 * k + 1)))]) X hw (fun _ _ h9 => by rw [mm_or_c hd]; exact h9) (fun q => (hd q).symm) (m_count l G Mr g Lr S cs ar K hR ne nn nc nl ht hI.nm  (xs (5 * k + 1))) (hR.1) rfl wd_L_105 ⟨Nat.le_of_ble_eq_true rfl, Nat.le_of_ble_eq_true rfl⟩ ⟨by show 35 + 7 * k + 0 + 0 ≤ 600000; omega, by show 2629 + 64 * k + 0 + 0 ≤ 7302250; omega⟩ rfl rfl (Nat.le_of_ble_eq_true rfl) hl.1 dL_law_824 (fun v9 Mr1 H9 locs9 hp9 hd hw => ?_)
          obtain ⟨rfl, rfl⟩ := hp9
          refine W.eq (g2 := F0 m 827 ls [.int (sp_count S (xs (5 * k + 1))), .int (sp_count S (xs (5 * k + 1)))]) rfl ?_
          refine lv_icmp_eq (tgt := 832) hx hb dL_law_827 (by decide) (fun c827 => ?_) (fun c827 => ?_)
          · refine lv_iinc (v := nI (5 * (k + 1))) (lv' := [(3, .int (nI (5 * (k + 1)))), (0, .ref b), (1, .ref (Lc 0 0)), (2, .ref g)]) hx hb dL_law_832 hl (k := 3) rfl (by rw [show 5 * (k + 1) = 5 * k + 5 from by omega]; exact nI_add _ 5) (by decide) rfl (fun ls hl => ?_)
            refine lv_goto (tgt := 18) hx hb dL_law_835 (by decide) ?_
            refine W.widen (k := 35 + 7 * (k + 1)) (n := 2629 + 64 * (k + 1)) (by show 35 + 7 * k + 0 + 0 ≤ 35 + 7 * (k + 1); omega) (by show 2629 + 64 * k + 0 + 0 ≤ 2629 + 64 * (k + 1); omega) ?_
            exact ih (k + 1) S cs ar Lc J Mc K Mr _ _ _ _ (by omega) (by omega) hE hR (fun q => (hd q).symm) hV ⟨_, _, _, _, _, hI⟩ rfl (by rw [mm_or_c (fun q => (hd q).symm)]; exact hw) (lv_sub hl [1, 2, 3, 0] rfl)
          · exact absurd rfl c827
      · refine lv_tableOut (tgt := 832) hx hb dL_law_32 c32 (by decide) ?_
        refine lv_iinc (v := nI (5 * (k + 1))) (lv' := [(3, .int (nI (5 * (k + 1)))), (0, .ref b), (1, .ref (Lc 0 0)), (2, .ref g)]) hx hb dL_law_832 hl (k := 3) rfl (by rw [show 5 * (k + 1) = 5 * k + 5 from by omega]; exact nI_add _ 5) (by decide) rfl (fun ls hl => ?_)
        refine lv_goto (tgt := 18) hx hb dL_law_835 (by decide) ?_
        refine W.widen (k := 35 + 7 * (k + 1)) (n := 2629 + 64 * (k + 1)) (by omega) (by omega) ?_
        exact ih (k + 1) S cs ar Lc J Mc K Mr _ _ _ _ (by omega) (by omega) hE hR hd hV ⟨_, _, _, _, _, hI⟩ rfl hw (lv_sub hl [1, 2, 3, 0] rfl)
set_option maxHeartbeats 4000000 in
set_option maxRecDepth 100000 in
theorem whole_start {p : Program} {e : Env} {s : State} {m : MethodId} {below : List Frame} {meth : Method} {c : Code} (l : Launch) {b L : Nat} {xs : Nat → Int32} (hL : L ≤ 2560) (C0 : lw_At p s m meth c b L xs) : W p l e room_1 s m #[Value.ref b] below meth c s.heap [] 0 0 (lw_Z below #[Value.ref b] s) (entryFrame m ([Value.ref b] : List Value).toArray 4) := by
  obtain ⟨hx, hb, hr, hml, hown, hts, hX, hbl, hlocks, hgv⟩ := C0
  obtain ⟨G, hK⟩ := law_K hts
  have X : mm_Cx p s m #[Value.ref b] meth c G RL cL_law 4 ret := ⟨hx, hb, hml, hown, fun w h => hts w (mT_in h), hK, hr, hlocks⟩
  have hw : mm_W G.1 vwCl (LA s) s.heap (fun _ => none) s.heap [] := ⟨fun q x h => (by cases h), va_S.rf, fun q x h => (by cases h), fun q h => h⟩
  have hl := lv_entry ([.ref b]) (n := 4) (Nat.le_of_ble_eq_true rfl)
  rw [lg_entry_eq]
  generalize (lg_sl ([.ref b]) ++ List.replicate (4 - (lg_sl ([.ref b])).length) Slot.unset).toArray = ls at hl ⊢
  have hl : lv_has ls 4 [(0, .ref b)] := hl
  refine nw_X6 X hw cl_L_7 (Nat.le_of_ble_eq_true rfl) (Nat.le_of_ble_eq_true rfl) dL_law_0 (fun a H9 ha hw => ?_)
  refine lv_dup hx hb dL_law_3 rfl ?_
  refine mm_callI (As := []) (rest := [.ref a]) X hw (c_init l G _ a (mm_up_s _ _ _)) wd_L_9 ⟨Nat.le_of_ble_eq_true rfl, Nat.le_of_ble_eq_true rfl⟩ ⟨Nat.le_of_ble_eq_true rfl, Nat.le_of_ble_eq_true rfl⟩ rfl rfl (Nat.le_of_ble_eq_true rfl) hl.1 dL_law_4 (fun v9 Mc H9 locs9 hp9 hw => ?_)
  obtain ⟨rfl, Lc, J, hL0, hJ, hE⟩ := hp9
  refine W.eq (g2 := F0 m 7 ls [.ref a]) rfl ?_
  refine lv_astore_n (lv' := [(1, .ref a), (0, .ref b)]) hx hb dL_law_7 rfl hl (by decide) rfl (fun ls hl => ?_)
  refine nw_X7 X hw cl_L_10 (Nat.le_of_ble_eq_true rfl) (Nat.le_of_ble_eq_true rfl) dL_law_8 (fun g H9 hg hw => ?_)
  refine lv_dup hx hb dL_law_11 rfl ?_
  have hd0 : ∀ q, mm_1 g (.inr (7, [.int 0, .null, .null, .null, .null, .int 0, .null, .int 0, .null, .null, .null, .null, .int 0, .null, .null, .null, .null, .null, .int 0, .null, .null, .null, .null, .null, .int 0, .null, .null, .null])) q = none ∨ Mc q = none := fun q => by
    by_cases h9 : q = g
    · right; rw [h9]; exact hg
    · left; exact mm_1n _ h9
  have hs0 : ∀ q x, mm_or (mm_1 g (.inr (7, [.int 0, .null, .null, .null, .null, .int 0, .null, .int 0, .null, .null, .null, .null, .int 0, .null, .null, .null, .null, .null, .int 0, .null, .null, .null, .null, .null, .int 0, .null, .null, .null]))) Mc q = some x → mm_up Mc g (.inr (7, [.int 0, .null, .null, .null, .null, .int 0, .null, .int 0, .null, .null, .null, .null, .int 0, .null, .null, .null, .null, .null, .int 0, .null, .null, .null, .null, .null, .int 0, .null, .null, .null])) q = some x := fun q x h9 => by
    by_cases h8 : q = g
    · subst h8
      rw [mm_or_l (mm_1s _ _)] at h9
      rw [mm_up_s]; exact h9
    · rw [mm_or_r (mm_1n _ h8)] at h9
      rw [mm_up_n _ _ h8]; exact h9
  refine mm_callIF (As := []) (rest := [.ref g]) X hw hs0 hd0 (m_init l G _ g (mm_1s _ _)) wd_L_12 ⟨Nat.le_of_ble_eq_true rfl, Nat.le_of_ble_eq_true rfl⟩ ⟨Nat.le_of_ble_eq_true rfl, Nat.le_of_ble_eq_true rfl⟩ rfl rfl (Nat.le_of_ble_eq_true rfl) hl.1 dL_law_12 (fun v9 Mr H9 locs9 hp9 hd hw => ?_)
  obtain ⟨rfl, Lr, K, hR⟩ := hp9
  refine W.eq (g2 := F0 m 15 ls [.ref g]) rfl ?_
  refine lv_astore_n (lv' := [(2, .ref g), (1, .ref a), (0, .ref b)]) hx hb dL_law_15 rfl hl (by decide) rfl (fun ls hl => ?_)
  refine lv_iconst (v := 0) hx hb dL_law_16 (by decide) ?_
  refine lv_istore_n (lv' := [(3, .int 0), (2, .ref g), (1, .ref a), (0, .ref b)]) hx hb dL_law_17 rfl hl (by decide) rfl (fun ls hl => ?_)
  refine W.widen (k := 35 + 7 * 0) (n := 2629 + 64 * 0) (Nat.le_of_ble_eq_true rfl) (Nat.le_of_ble_eq_true rfl) ?_
  exact law_loop l hL hX hbl G X g Lr (L + 5) 0 s_0 (fun _ => 0) (fun _ => 0) Lc J Mc K Mr a _ _ ls (by omega) (by omega) hE hR (fun q => (hd q).symm) (by rw [hJ]; intro n hn e he; exact ⟨fun _ => rfl, fun _ => by rw [Int32.zero_and]⟩) ⟨_, _, _, _, _, INV.start⟩ hL0.symm (by rw [mm_or_c (fun q => (hd q).symm)]; exact hw) (lv_sub hl [3, 2, 1, 0] rfl)
