section INV2
variable {S : sS} {cs ar : Nat → Int64} {ne nn nc nl ht : Nat}
theorem i32_01 : (0 : Int32) ≠ 1 ∧ (0 : Int32) ≠ 2 ∧ (1 : Int32) ≠ 2 ∧ (1 : Int32) ≠ 0 := by decide
theorem INV.propose (h : INV S cs ne nn nc nl ht) (x y : Int32) : INV (sp_propose S x y).2 cs ne nn nc nl ht := by
  unfold sp_propose
  split
  · exact h
  · rename_i hx
    split
    · exact h
    · split
      · exact h
      · rename_i hm
        have hx := Decidable.not_not.mp hx
        have hm := Decidable.not_not.mp hm
        have hN := h.nm
        obtain ⟨n0, n1, n2, n7, n8, n12, n13, n18, n19, n5, n6⟩ := hN
        have bx : cl x < ne := cl_lt n0 (by omega) hx
        have h0b : cl (S 0 0) = ne := by rw [n0, cl_n (by omega)]
        obtain ⟨m1, m2, m3⟩ := hm
        rw [h0b] at m3
        have hx0 : cl x ≠ 0 := fun e => by rw [e, h.og.1] at m1; exact absurd m1 (by decide)
        obtain ⟨T, hT⟩ : ∃ T, T = va_up (va_up S 4 (upd (S 4) (cl x) 1)) 3 (upd (S 3) (cl x) y) := ⟨_, rfl⟩
        have t4 : T 4 = upd (S 4) (cl x) 1 := by rw [hT]; rfl
        have t3 : T 3 = upd (S 3) (cl x) y := by rw [hT]; rfl
        have t5 : T 5 = S 5 := by rw [hT]; rfl
        have t6 : T 6 = S 6 := by rw [hT]; rfl
        have hfi : FI T ne ht := fun k hk => by
          rw [t6, h.fi k hk]
          congr 1
          refine (if_cg ?_ (fun q hq => ?_) (fun q hq c1 c2 => ?_)).1.symm
          · rw [t3, pk_un (Ne.symm hx0)]
          · rw [t4, t3]
            by_cases c : q = cl x
            · rw [c, pk_us, m1]
              exact ⟨fun z => absurd z.1 (by decide), fun z => absurd z.1 (by decide)⟩
            · rw [pk_un c, pk_un c]
          · rw [t3]
            by_cases c : q = cl x
            · rw [c, m1] at c1; exact absurd c1 (by decide)
            · rw [pk_un c]
        have hpi : PI T ne := fun e he => by
          rw [t4, t3, t5]
          by_cases c : e = cl x
          · rw [c, pk_us]; exact Or.inl rfl
          · rw [pk_un c, pk_un c]; exact h.pi e he
        have hpu : PU T ne := fun e he e' he' a1 a2 a3 => by
          rw [t4] at a1 a2
          rw [t3] at a3
          by_cases c : e = cl x
          · by_cases c' : e' = cl x
            · rw [c, c']
            · rw [c, pk_us, pk_un c'] at a3
              rw [pk_un c'] at a2
              have h9 := (m3 e' he').resolve_left (fun z => z a2)
              rw [← a3] at h9
              exact absurd h9 (by rw [Int32.lt_iff_toInt_lt]; omega)
          · by_cases c' : e' = cl x
            · rw [c', pk_us, pk_un c] at a3
              rw [pk_un c] at a1
              have h9 := (m3 e he).resolve_left (fun z => z a1)
              rw [a3] at h9
              exact absurd h9 (by rw [Int32.lt_iff_toInt_lt]; omega)
            · rw [pk_un c] at a1 a3
              rw [pk_un c'] at a2 a3
              exact h.pu e he e' he' a1 a2 a3
        have hog : OG T := by
          unfold OG
          rw [t4, t3, pk_un (Ne.symm hx0), pk_un (Ne.symm hx0)]
          exact h.og
        have hkf : KF T nc := fun i hi hk => by
          have hk : ¬ S 13 i = -1 := by rw [hT] at hk; exact hk
          have h9 := h.kf i hi hk
          have : cl (S 13 i) ≠ cl x := fun e => by rw [e, m1] at h9; exact absurd h9 (by decide)
          rw [t4, show T 13 = S 13 from (by rw [hT]; rfl), pk_un this]
          exact h9
        show INV (va_up (va_up S 4 (upd (S 4) (cl x) 1)) 3 (upd (S 3) (cl x) y)) cs ne nn nc nl ht
        rw [hT] at hfi hpi hpu hog hkf
        exact INV.mk (nm := (h.nm.up _ (by decide)).up _ (by decide)) (wk := h.wk.of rfl rfl rfl rfl) (fi := hfi) (pi := hpi) (pu := hpu) (og := hog) (wl := h.wl.of rfl rfl rfl) (wc := h.wc.of rfl rfl rfl rfl rfl) (mr := h.mr.of rfl) (kf := hkf) (zv := h.zv.of rfl) (zc := h.zc.of rfl rfl rfl)
theorem INV.edition (h : INV S cs ne nn nc nl ht) (x : Int32) : IV (sp_edition S x).2 cs := by
  unfold sp_edition
  split
  · exact ⟨_, _, _, _, _, h⟩
  · rename_i hx
    split
    · exact ⟨_, _, _, _, _, h⟩
    · rename_i hf
      have hx := Decidable.not_not.mp hx
      have hN := h.nm
      obtain ⟨n0, n1, n2, n7, n8, n12, n13, n18, n19, n5, n6⟩ := hN
      have bx : cl x < ne := cl_lt n0 (by omega) hx
      have h0b : cl (S 0 0) = ne := by rw [n0, cl_n (by omega)]
      have hlt : ne < 10 := by
        rcases Nat.lt_or_ge ne 10 with q | q
        · exact q
        · exact absurd (by rw [n0, show ne = 10 by omega]; rfl) hf
      rw [h0b]
      obtain ⟨T, hT⟩ : ∃ T, T = va_up (va_up (va_up (va_up (va_up S 1 (cp (S 1) (9 * ne) (9 * cl x) 9)) 2 (cp (S 2) (8 * ne) (8 * cl x) 8)) 3 (upd (S 3) ne (-1))) 4 (upd (S 4) ne 0)) 0 (fun _ => S 0 0 + 1) := ⟨_, rfl⟩
      have t2 : T 2 = cp (S 2) (8 * ne) (8 * cl x) 8 := by rw [hT]; rfl
      have t4 : T 4 = upd (S 4) ne 0 := by rw [hT]; rfl
      have t3 : T 3 = upd (S 3) ne (-1) := by rw [hT]; rfl
      have t5 : T 5 = S 5 := by rw [hT]; rfl
      have t6 : T 6 = S 6 := by rw [hT]; rfl
      have t13 : T 13 = S 13 := by rw [hT]; rfl
      have t14 : T 14 = S 14 := by rw [hT]; rfl
      have t15 : T 15 = S 15 := by rw [hT]; rfl
      have t16 : T 16 = S 16 := by rw [hT]; rfl
      have hfi : FI T (ne + 1) ht := fun k hk => by
        rw [t6, h.fi k hk, if_go_s, if_neg (fun z => by
          have z1 := z.1
          rw [t4, pk_us] at z1
          exact absurd z1 (by decide))]
        congr 1
        refine (if_cg ?_ (fun q hq => ?_) (fun q hq c1 c2 => ?_)).1.symm
        · rw [t3, pk_un (by omega)]
        · rw [t4, t3, pk_un (by omega), pk_un (by omega)]
        · rw [t3, pk_un (by omega)]
      have hpi : PI T (ne + 1) := fun e he => by
        rw [t4, t3, t5]
        by_cases c : e = ne
        · rw [c, pk_us, pk_us]
          right
          rw [n5]
          exact i32_le_trans (b := 0) (by decide) (nI_pos' (by omega))
        · rw [pk_un c, pk_un c]; exact h.pi e (by omega)
      have hpu : PU T (ne + 1) := fun e he e' he' a1 a2 a3 => by
        rw [t4] at a1 a2
        rw [t3] at a3
        by_cases c : e = ne
        · rw [c, pk_us] at a1; exact absurd a1 (by decide)
        · by_cases c' : e' = ne
          · rw [c', pk_us] at a2; exact absurd a2 (by decide)
          · rw [pk_un c] at a1 a3
            rw [pk_un c'] at a2 a3
            exact h.pu e (by omega) e' (by omega) a1 a2 a3
      have hog : OG T := by
        unfold OG
        rw [t4, t3, pk_un (by omega), pk_un (by omega)]
        exact h.og
      have hwk : WK T (ne + 1) nc := fun i hi => by
        obtain ⟨k, q1, q2, q3, q4⟩ := (h.wk.of t13 t14 t15 t16) i hi
        refine ⟨k, q1, q2, q3, ?_⟩
        rcases q4 with q4 | ⟨e, he, q5, q6⟩
        · exact Or.inl q4
        · exact Or.inr ⟨e, by omega, q5, q6⟩
      have hkl : ∀ i, i < nc → ¬ S 13 i = -1 → cl (S 13 i) < ne := fun i hi hk => by
        obtain ⟨k, q1, q2, q3, q4⟩ := h.wk i hi
        obtain ⟨e, he, q5, -⟩ := q4.resolve_left hk
        rw [q5, cl_n (by omega)]; exact he
      have hkf : KF T nc := fun i hi hk => by
        rw [t13] at hk ⊢
        rw [t4, pk_un (by have := hkl i hi hk; omega)]
        exact h.kf i hi hk
      have hmr : MR T (ne + 1) := fun e he j hj => by
        rw [t2]
        by_cases c : e = ne
        · rw [c, cp_in hj]; exact h.mr _ bx j hj
        · rw [cp_lo (by omega)]; exact h.mr e (by omega) j hj
      have hwc : WC T nc := fun i hi hk k h1 h2 => by
        rw [t13] at hk
        rw [t14] at h1
        rw [t15] at h2
        rw [t2, t13, t16]
        obtain ⟨k14, q1, q2, q3, -⟩ := h.wk i hi
        have hkk : k < k14 := by rw [q2, cl_n (by omega)] at h1; exact h1
        obtain ⟨a, ha, ea, hb, -⟩ := q3 k hkk
        obtain ⟨b, hb8, eb⟩ := hb (nI_inj (by omega) (by decide) (ea.symm.trans h2))
        have hl := hkl i hi hk
        rw [cp_lo (by rw [eb, cl_n (by omega)]; omega)]
        exact h.wc i hi hk k h1 h2
      have hnm : NM T (ne + 1) nn nc nl ht := ⟨by rw [hT]; show S 0 0 + 1 = _; rw [n0, nI_s], by omega, by omega, by rw [hT]; exact n7, n8, by rw [hT]; exact n12, n13, by rw [hT]; exact n18, n19, by rw [hT]; exact n5, n6⟩
      have hwl : WL T nc nl ht := h.wl.of t13 (by rw [hT]; rfl) (by rw [hT]; rfl)
      have hzv : ZV T nn := h.zv.of (by rw [hT]; rfl)
      have hzc : ZC T cs nc := h.zc.of t14 t15 t16
      refine ⟨ne + 1, nn, nc, nl, ht, ?_⟩
      show INV (va_up (va_up (va_up (va_up (va_up S 1 (cp (S 1) (9 * ne) (9 * cl x) 9)) 2 (cp (S 2) (8 * ne) (8 * cl x) 8)) 3 (upd (S 3) ne (-1))) 4 (upd (S 4) ne 0)) 0 (fun _ => S 0 0 + 1)) cs (ne + 1) nn nc nl ht
      rw [← hT]
      exact INV.mk hnm hwk hfi hpi hpu hog hwl hwc hmr hkf hzv hzc
theorem INV.contract (h : INV S cs ne nn nc nl ht) : IV (sp_contract S).2 cs := by
  unfold sp_contract
  split
  · exact ⟨_, _, _, _, _, h⟩
  · rename_i hf
    have hN := h.nm
    obtain ⟨n0, n1, n2, n7, n8, n12, n13, n18, n19, n5, n6⟩ := hN
    have hlt : nc < 12 := by
      rcases Nat.lt_or_ge nc 12 with q | q
      · exact q
      · exact absurd (by rw [n12, show nc = 12 by omega]; rfl) hf
    have h12b : cl (S 12 0) = nc := by rw [n12, cl_n (by omega)]
    rw [h12b]
    obtain ⟨T, hT⟩ : ∃ T, T = va_up (va_up S 13 (upd (S 13) nc (-1))) 12 (fun _ => S 12 0 + 1) := ⟨_, rfl⟩
    have t13 : T 13 = upd (S 13) nc (-1) := by rw [hT]; rfl
    have t14 : T 14 = S 14 := by rw [hT]; rfl
    have t15 : T 15 = S 15 := by rw [hT]; rfl
    have t16 : T 16 = S 16 := by rw [hT]; rfl
    have t4 : T 4 = S 4 := by rw [hT]; rfl
    have hwk : WK T ne (nc + 1) := fun i hi => by
      by_cases c : i = nc
      · subst c
        refine ⟨0, by omega, by rw [t14, (h.zc i (Nat.le_refl _) hlt).1]; rfl, fun j hj => absurd hj (by omega), Or.inl (by rw [t13, pk_us])⟩
      · obtain ⟨k, q1, q2, q3, q4⟩ := h.wk i (by omega)
        refine ⟨k, q1, by rw [t14]; exact q2, fun j hj => by rw [t15, t16]; exact q3 j hj, ?_⟩
        rw [t13, pk_un c]
        rcases q4 with q4 | ⟨e, he, q5, q6⟩
        · exact Or.inl q4
        · exact Or.inr ⟨e, he, q5, by rw [vd_cg t15]; exact q6⟩
    have hwl : WL T (nc + 1) nl ht := fun i hi => by
      obtain ⟨c, hh, q1, q2, q3, q4, q5⟩ := h.wl i hi
      exact ⟨c, hh, by omega, q2, by rw [hT]; exact q3, by rw [hT]; exact q4, by rw [t13, pk_un (by omega)]; exact q5⟩
    have hwc : WC T (nc + 1) := fun i hi hk k h1 h2 => by
      rw [t13] at hk
      by_cases c : i = nc
      · rw [c, pk_us] at hk; exact absurd rfl hk
      · rw [pk_un c] at hk
        rw [t14] at h1
        rw [t15] at h2
        rw [t13, pk_un c, t16]
        have := h.wc i (by omega) hk k h1 h2
        rw [hT]
        exact this
    have hkf : KF T (nc + 1) := fun i hi hk => by
      rw [t13] at hk ⊢
      by_cases c : i = nc
      · rw [c, pk_us] at hk; exact absurd rfl hk
      · rw [pk_un c] at hk ⊢
        rw [t4]
        exact h.kf i (by omega) hk
    have hzc : ZC T cs (nc + 1) := fun i h1 h2 => by rw [t14, t15, t16]; exact h.zc i (by omega) h2
    refine ⟨ne, nn, nc + 1, nl, ht, ?_⟩
    show INV (va_up (va_up S 13 (upd (S 13) nc (-1))) 12 (fun _ => S 12 0 + 1)) cs ne nn (nc + 1) nl ht
    rw [← hT]
    exact INV.mk (by rw [hT]; exact ⟨n0, n1, n2, n7, n8, by show S 12 0 + 1 = _; rw [n12, nI_s], by omega, n18, n19, n5, n6⟩) hwk (h.fi.of (by rw [hT]; rfl) t4 (by rw [hT]; rfl)) (h.pi.of (by rw [hT]; rfl) t4 (by rw [hT]; rfl)) (h.pu.of (by rw [hT]; rfl) t4) (h.og.of (by rw [hT]; rfl) t4) hwl hwc (h.mr.of (by rw [hT]; rfl)) hkf (h.zv.of (by rw [hT]; rfl)) hzc
end INV2
