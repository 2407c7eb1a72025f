/-- the first k are f's -/
def rj (f c : Nat → Int32) (k : Nat) : Nat → Int32 := fun j => if j < k then f j else c j
theorem rj_0 (f c : Nat → Int32) : rj f c 0 = c := by
  funext j
  unfold rj
  rw [if_neg (by omega)]
theorem rj_s (f c : Nat → Int32) (k : Nat) : upd (rj f c k) k (f k) = rj f c (k + 1) := by
  funext j
  unfold upd rj
  by_cases e : j = k
  · subst e
    rw [if_pos rfl, if_pos (by omega)]
  · rw [if_neg e]
    by_cases h : j < k
    · rw [if_pos h, if_pos (by omega)]
    · rw [if_neg h, if_neg (by omega)]
theorem rj_tr (f : Nat → Int32) (n : Nat) : rj f (fun _ => 0) n = tr n f := rfl
theorem tr_tr (f : Nat → Int32) (n : Nat) : tr n (tr n f) = tr n f := by
  funext j
  unfold tr
  by_cases h : j < n
  · rw [if_pos h, if_pos h]
  · rw [if_neg h, if_neg h]
set_option maxHeartbeats 4000000 in
set_option maxRecDepth 100000 in
theorem c_editionLike (l : Launch) (G : mG) (M : mM) (a b1 b2 a2 p2 m2 : Nat) (x1 x2 x3 y1 y2 y3 : Int32) (f g : Nat → Int32) (hd1 : b1 ≠ b2) (hd2 : b1 ≠ p2) (hd3 : b1 ≠ m2) (hd4 : b2 ≠ p2) (hd5 : b2 ≠ m2) (h0 : M (a) = some (.inr (2, [.int x1, .ref b1, .ref b2, .int x2, .int x3]))) (hb1 : M (b1) = some (aI G 9 (fun _ => 0))) (hb2 : M (b2) = some (aI G 8 (fun _ => 0))) (h2 : M (a2) = some (.inr (2, [.int y1, .ref p2, .ref m2, .int y2, .int y3]))) (hp2 : M (p2) = some (aI G 9 (f))) (hm2 : M (m2) = some (aI G 8 (g))) : Ct l yX2_becomeLike cX2_becomeLike 3 none (mm_r 0 0 0) G [.ref a, .ref a2] M (fun r M1 => r = none ∧ M1 b1 = some (aI G 9 (tr 9 f)) ∧ M1 b2 = some (aI G 8 (tr 8 g)) ∧ (∀ z, M z ≠ none → z ≠ b1 → z ≠ b2 → M1 z = M z)) := by
  refine Ct.of (by decide) (Nat.le_of_ble_eq_true rfl) ?_
  intro p e s m args below meth c ls Q X hin hl hw hQ
  have hx := X.1
  have hb := X.2.1
  have hl : lv_has ls 3 [(0, .ref a), (1, .ref a2)] := hl
  have fr_0 : ∀ z, M z ≠ none → z ≠ b1 → z ≠ b2 → M z = M z := fun _ _ _ _ => rfl
  refine lv_iconst (v := 0) hx hb dX2_becomeLike_0 (by decide) ?_
  refine lv_istore_n (lv' := [(2, .int 0), (0, .ref a), (1, .ref a2)]) hx hb dX2_becomeLike_1 rfl hl (by decide) rfl (fun ls hl => ?_)
  have loop1 : ∀ (n k : Nat) (M1 : mM) (H1 : Heap) (locs1 : List Loc) (ls1 : Array Slot), k ≤ 9 → 10 ≤ k + n → (i0_loop1 : M1 (a) = some (.inr (2, [.int x1, .ref b1, .ref b2, .int x2, .int x3]))) → (i1_loop1 : M1 (b1) = some (aI G 9 (rj f (fun _ => 0) k))) → (i2_loop1 : M1 (b2) = some (aI G 8 (fun _ => 0))) → (i3_loop1 : M1 (a2) = some (.inr (2, [.int y1, .ref p2, .ref m2, .int y2, .int y3]))) → (i4_loop1 : M1 (p2) = some (aI G 9 (f))) → (i5_loop1 : M1 (m2) = some (aI G 8 (g))) → (∀ z, M z ≠ none → z ≠ b1 → z ≠ b2 → M1 z = M z) → mm_W G.1 vwCl (ct_A M s.heap.size) s.heap M1 H1 locs1 → lv_has ls1 3 [(0, .ref a), (1, .ref a2), (2, .int (nI k))] → W p l e (mm_r 0 0 0) s m args below meth c H1 locs1 (0) (0) Q (F0 m 2 ls1 []) := by
    intro n
    induction n with
    | zero => intro k M1 H1 locs1 ls hk hn; exact absurd hn (by omega)
    | succ n ih =>
      intro k M1 H1 locs1 ls hk hn i0_loop1 i1_loop1 i2_loop1 i3_loop1 i4_loop1 i5_loop1 fr_loop1 hw hl
      refine lv_iload_n hx hb dX2_becomeLike_2 rfl (lv_at hl 2 rfl) ?_
      refine lv_bipush (v := 9) hx hb dX2_becomeLike_3 (by decide) ?_
      refine lv_icmp_ge (tgt := 26) hx hb dX2_becomeLike_5 (by decide) (fun c5 => ?_) (fun c5 => ?_)
      · have hk9 : k = 9 := by have := nle (a := 9) (by decide) (by omega) c5; omega
        refine lv_iconst (v := 0) hx hb dX2_becomeLike_26 (by decide) ?_
        refine lv_istore_n (lv' := [(2, .int 0), (0, .ref a), (1, .ref a2)]) hx hb dX2_becomeLike_27 rfl hl (by decide) rfl (fun ls hl => ?_)
        rw [hk9] at i1_loop1
        have loop2 : ∀ (n k : Nat) (M1 : mM) (H1 : Heap) (locs1 : List Loc) (ls1 : Array Slot), k ≤ 8 → 9 ≤ k + n → (i0_loop2 : M1 (a) = some (.inr (2, [.int x1, .ref b1, .ref b2, .int x2, .int x3]))) → (i1_loop2 : M1 (b1) = some (aI G 9 (rj f (fun _ => 0) 9))) → (i2_loop2 : M1 (b2) = some (aI G 8 (rj g (fun _ => 0) k))) → (i3_loop2 : M1 (a2) = some (.inr (2, [.int y1, .ref p2, .ref m2, .int y2, .int y3]))) → (i4_loop2 : M1 (p2) = some (aI G 9 (f))) → (i5_loop2 : M1 (m2) = some (aI G 8 (g))) → (∀ z, M z ≠ none → z ≠ b1 → z ≠ b2 → M1 z = M z) → mm_W G.1 vwCl (ct_A M s.heap.size) s.heap M1 H1 locs1 → lv_has ls1 3 [(0, .ref a), (1, .ref a2), (2, .int (nI k))] → W p l e (mm_r 0 0 0) s m args below meth c H1 locs1 (0) (0) Q (F0 m 28 ls1 []) := by
          intro n
          induction n with
          | zero => intro k M1 H1 locs1 ls hk hn; exact absurd hn (by omega)
          | succ n ih =>
            intro k M1 H1 locs1 ls hk hn i0_loop2 i1_loop2 i2_loop2 i3_loop2 i4_loop2 i5_loop2 fr_loop2 hw hl
            refine lv_iload_n hx hb dX2_becomeLike_28 rfl (lv_at hl 2 rfl) ?_
            refine lv_bipush (v := 8) hx hb dX2_becomeLike_29 (by decide) ?_
            refine lv_icmp_ge (tgt := 52) hx hb dX2_becomeLike_31 (by decide) (fun c31 => ?_) (fun c31 => ?_)
            · have hk9 : k = 8 := by have := nle (a := 8) (by decide) (by omega) c31; omega
              exact mm_vret hQ X hw (⟨rfl, i1_loop2, (by have h9 := i2_loop2; rw [hk9] at h9; exact h9), fr_loop2⟩) (Nat.le_of_ble_eq_true rfl) (Nat.le_of_ble_eq_true rfl) dX2_becomeLike_52
            · have hk9 : k < 8 := nnle (a := 8) (by decide) (by omega) c31
              refine lv_aload_n hx hb dX2_becomeLike_34 rfl (lv_at hl 0 rfl) ?_
              refine gf_X2_15 X hw (i0_loop2) rfl dX2_becomeLike_35 ?_
              refine lv_iload_n hx hb dX2_becomeLike_38 rfl (lv_at hl 2 rfl) ?_
              refine lv_aload_n hx hb dX2_becomeLike_39 rfl (lv_at hl 1 rfl) ?_
              refine gf_X2_15 X hw (i3_loop2) rfl dX2_becomeLike_40 ?_
              refine lv_iload_n hx hb dX2_becomeLike_43 rfl (lv_at hl 2 rfl) ?_
              refine mi_iald X hw (i5_loop2) (k) (rfl) (hk9) (by decide) dX2_becomeLike_44 ?_
              refine mi_iast X hw (i2_loop2) (k) (rfl) (hk9) (by decide) dX2_becomeLike_45 (fun H9 locs9 hw => ?_)
              obtain ⟨M_1, eM_1⟩ : ∃ z, z = mm_up M1 (b2) (aI G 8 (upd (rj g (fun _ => 0) k) (k) (g (k)))) := ⟨_, rfl⟩
              have hw : mm_W G.1 vwCl (ct_A M s.heap.size) s.heap M_1 H9 locs9 := by rw [eM_1]; exact hw
              have f0_M_1 : M_1 (a) = some (.inr (2, [.int x1, .ref b1, .ref b2, .int x2, .int x3])) := by rw [eM_1, mm_up_n _ _ (ne_oa i0_loop2 i2_loop2)]; exact i0_loop2
              have f1_M_1 : M_1 (b1) = some (aI G 9 (rj f (fun _ => 0) 9)) := by rw [eM_1, mm_up_n _ _ (hd1)]; exact i1_loop2
              have f2_M_1 : M_1 (b2) = some (aI G 8 (upd (rj g (fun _ => 0) k) (k) (g (k)))) := by rw [eM_1]; exact mm_up_s _ _ _
              have f3_M_1 : M_1 (a2) = some (.inr (2, [.int y1, .ref p2, .ref m2, .int y2, .int y3])) := by rw [eM_1, mm_up_n _ _ (ne_oa i3_loop2 i2_loop2)]; exact i3_loop2
              have f4_M_1 : M_1 (p2) = some (aI G 9 (f)) := by rw [eM_1, mm_up_n _ _ (Ne.symm (hd4))]; exact i4_loop2
              have f5_M_1 : M_1 (m2) = some (aI G 8 (g)) := by rw [eM_1, mm_up_n _ _ (Ne.symm (hd5))]; exact i5_loop2
              have fr_M_1 : ∀ z, M z ≠ none → z ≠ b1 → z ≠ b2 → M_1 z = M z := fun z h1 h2 h3 => ((congrFun eM_1 z).trans (mm_up_n _ _ (h3))).trans (fr_loop2 z h1 h2 h3)
              refine lv_iinc (v := nI (k + 1)) (lv' := [(2, .int (nI (k + 1))), (0, .ref a), (1, .ref a2)]) hx hb dX2_becomeLike_46 hl (k := 2) rfl (nI_s k) (by decide) rfl (fun ls hl => ?_)
              refine lv_goto (tgt := 28) hx hb dX2_becomeLike_49 (by decide) ?_
              exact ih (k + 1) _ _ _ _ (by omega) (by omega) f0_M_1 f1_M_1 (by have h9 := f2_M_1; rw [rj_s] at h9; exact h9) f3_M_1 f4_M_1 f5_M_1 fr_M_1 hw (lv_sub hl [1, 2, 0] rfl)
        exact loop2 9 0 _ _ _ _ (by omega) (by omega) i0_loop1 i1_loop1 (by have h9 := i2_loop1; rw [← rj_0 g (fun _ => 0)] at h9; exact h9) i3_loop1 i4_loop1 i5_loop1 fr_loop1 hw (lv_sub hl [1, 2, 0] rfl)
      · have hk9 : k < 9 := nnle (a := 9) (by decide) (by omega) c5
        refine lv_aload_n hx hb dX2_becomeLike_8 rfl (lv_at hl 0 rfl) ?_
        refine gf_X2_9 X hw (i0_loop1) rfl dX2_becomeLike_9 ?_
        refine lv_iload_n hx hb dX2_becomeLike_12 rfl (lv_at hl 2 rfl) ?_
        refine lv_aload_n hx hb dX2_becomeLike_13 rfl (lv_at hl 1 rfl) ?_
        refine gf_X2_9 X hw (i3_loop1) rfl dX2_becomeLike_14 ?_
        refine lv_iload_n hx hb dX2_becomeLike_17 rfl (lv_at hl 2 rfl) ?_
        refine mi_iald X hw (i4_loop1) (k) (rfl) (hk9) (by decide) dX2_becomeLike_18 ?_
        refine mi_iast X hw (i1_loop1) (k) (rfl) (hk9) (by decide) dX2_becomeLike_19 (fun H9 locs9 hw => ?_)
        obtain ⟨M_2, eM_2⟩ : ∃ z, z = mm_up M1 (b1) (aI G 9 (upd (rj f (fun _ => 0) k) (k) (f (k)))) := ⟨_, rfl⟩
        have hw : mm_W G.1 vwCl (ct_A M s.heap.size) s.heap M_2 H9 locs9 := by rw [eM_2]; exact hw
        have f0_M_2 : M_2 (a) = some (.inr (2, [.int x1, .ref b1, .ref b2, .int x2, .int x3])) := by rw [eM_2, mm_up_n _ _ (ne_oa i0_loop1 i1_loop1)]; exact i0_loop1
        have f1_M_2 : M_2 (b1) = some (aI G 9 (upd (rj f (fun _ => 0) k) (k) (f (k)))) := by rw [eM_2]; exact mm_up_s _ _ _
        have f2_M_2 : M_2 (b2) = some (aI G 8 (fun _ => 0)) := by rw [eM_2, mm_up_n _ _ (Ne.symm (hd1))]; exact i2_loop1
        have f3_M_2 : M_2 (a2) = some (.inr (2, [.int y1, .ref p2, .ref m2, .int y2, .int y3])) := by rw [eM_2, mm_up_n _ _ (ne_oa i3_loop1 i1_loop1)]; exact i3_loop1
        have f4_M_2 : M_2 (p2) = some (aI G 9 (f)) := by rw [eM_2, mm_up_n _ _ (Ne.symm (hd2))]; exact i4_loop1
        have f5_M_2 : M_2 (m2) = some (aI G 8 (g)) := by rw [eM_2, mm_up_n _ _ (Ne.symm (hd3))]; exact i5_loop1
        have fr_M_2 : ∀ z, M z ≠ none → z ≠ b1 → z ≠ b2 → M_2 z = M z := fun z h1 h2 h3 => ((congrFun eM_2 z).trans (mm_up_n _ _ (h2))).trans (fr_loop1 z h1 h2 h3)
        refine lv_iinc (v := nI (k + 1)) (lv' := [(2, .int (nI (k + 1))), (0, .ref a), (1, .ref a2)]) hx hb dX2_becomeLike_20 hl (k := 2) rfl (nI_s k) (by decide) rfl (fun ls hl => ?_)
        refine lv_goto (tgt := 2) hx hb dX2_becomeLike_23 (by decide) ?_
        exact ih (k + 1) _ _ _ _ (by omega) (by omega) f0_M_2 (by have h9 := f1_M_2; rw [rj_s] at h9; exact h9) f2_M_2 f3_M_2 f4_M_2 f5_M_2 fr_M_2 hw (lv_sub hl [1, 2, 0] rfl)
  exact loop1 10 0 _ _ _ _ (by omega) (by omega) h0 (by have h9 := hb1; rw [← rj_0 f (fun _ => 0)] at h9; exact h9) hb2 h2 hp2 hm2 fr_0 hw (lv_sub hl [1, 2, 0] rfl)
