theorem vd_cl {S T : sS} (c : Nat) : ∀ r k d, (∀ j, k ≤ j → j < k + r → T 15 (24 * c + j) = S 15 (24 * c + j)) → vd T c r k d = vd S c r k d
  | 0, _, _, _ => rfl
  | r + 1, k, d, h => by rw [vd_s, vd_s, h k (Nat.le_refl _) (by omega), vd_cl c r (k + 1) _ (fun j h1 h2 => h j (by omega) (by omega))]
theorem tk_nI : ∀ a, a < 9 → takes (nI a) = nI (tkN (nI a)) ∧ tkN (nI a) ≤ 2 := by decide +kernel
theorem dl_nI {a d : Nat} (ha : a < 9) (hd : d < 1000) (ht : tkN (nI a) ≤ d) : nI d + delta (nI a) = nI (nxN (nI a) d) := by
  rcases (show a = 0 ∨ a = 1 ∨ a = 2 ∨ a = 3 ∨ a = 4 ∨ a = 5 ∨ a = 6 ∨ a = 7 ∨ a = 8 by omega) with rfl | rfl | rfl | rfl | rfl | rfl | rfl | rfl | rfl
  · rw [show delta (nI 0) = 1 from by decide, show nxN (nI 0) d = d + 1 from rfl, nI_s]
  · rw [show delta (nI 1) = 1 from by decide, show nxN (nI 1) d = d + 1 from rfl, nI_s]
  · rw [show tkN (nI 2) = 2 from by decide] at ht
    rw [show delta (nI 2) = -1 from by decide, show nxN (nI 2) d = d + 1 - 2 from rfl, show d = (d - 1) + 1 from by omega, ← nI_s, show d - 1 + 1 + 1 - 2 = d - 1 from by omega, Int32.add_assoc, show (1 : Int32) + -1 = 0 from by decide, Int32.add_zero]
  · rw [show tkN (nI 3) = 2 from by decide] at ht
    rw [show delta (nI 3) = -1 from by decide, show nxN (nI 3) d = d + 1 - 2 from rfl, show d = (d - 1) + 1 from by omega, ← nI_s, show d - 1 + 1 + 1 - 2 = d - 1 from by omega, Int32.add_assoc, show (1 : Int32) + -1 = 0 from by decide, Int32.add_zero]
  · rw [show tkN (nI 4) = 2 from by decide] at ht
    rw [show delta (nI 4) = -1 from by decide, show nxN (nI 4) d = d + 1 - 2 from rfl, show d = (d - 1) + 1 from by omega, ← nI_s, show d - 1 + 1 + 1 - 2 = d - 1 from by omega, Int32.add_assoc, show (1 : Int32) + -1 = 0 from by decide, Int32.add_zero]
  · rw [show tkN (nI 5) = 2 from by decide] at ht
    rw [show delta (nI 5) = -1 from by decide, show nxN (nI 5) d = d + 1 - 2 from rfl, show d = (d - 1) + 1 from by omega, ← nI_s, show d - 1 + 1 + 1 - 2 = d - 1 from by omega, Int32.add_assoc, show (1 : Int32) + -1 = 0 from by decide, Int32.add_zero]
  · rw [show delta (nI 6) = 0 from by decide, show nxN (nI 6) d = d + 1 - 1 from rfl, Int32.add_zero, show d + 1 - 1 = d from by omega]
  · rw [show tkN (nI 7) = 1 from by decide] at ht
    rw [show delta (nI 7) = -1 from by decide, show nxN (nI 7) d = d - 1 from rfl, show d = (d - 1) + 1 from by omega, ← nI_s, show d - 1 + 1 - 1 = d - 1 from by omega, Int32.add_assoc, show (1 : Int32) + -1 = 0 from by decide, Int32.add_zero]
  · rw [show delta (nI 8) = 1 from by decide, show nxN (nI 8) d = d + 1 from rfl, nI_s]
theorem dp_vd {S : sS} {e c : Nat} : ∀ r k d, d + r < 1000 → (∀ j, k ≤ j → j < k + r → ∃ a, a < 9 ∧ S 15 (24 * c + j) = nI a) → dp_go S e c r k (nI d) = 0 → vd S c r k d ∧ ∀ j, k ≤ j → j < k + r → S 15 (24 * c + j) = 6 → ¬ S 2 (8 * e + cl (S 16 (24 * c + j))) = -1
  | 0, k, d, _, _, _ => ⟨trivial, fun j h1 h2 => absurd h2 (by omega)⟩
  | r + 1, k, d, hd, hA, h => by
    obtain ⟨a, ha, ea⟩ := hA k (Nat.le_refl _) (by omega)
    rw [dp_go_s] at h
    by_cases c1 : S 15 (24 * c + k) = 6 ∧ S 2 (8 * e + cl (S 16 (24 * c + k))) = -1
    · rw [if_pos c1] at h; exact absurd h (by decide)
    · rw [if_neg c1] at h
      by_cases c2 : nI d < takes (S 15 (24 * c + k))
      · rw [if_pos c2] at h; exact absurd h (by decide)
      · rw [if_neg c2] at h
        have htk := tk_nI a ha
        have hle : tkN (nI a) ≤ d := by rw [ea, htk.1] at c2; exact nnlt (by omega) (by omega) c2
        rw [ea, dl_nI ha (by omega) hle] at h
        have hnx := nx_le (nI a) d
        obtain ⟨i1, i2⟩ := dp_vd r (k + 1) (nxN (nI a) d) (by omega) (fun j h1 h2 => hA j (by omega) (by omega)) h
        rw [vd_s, ea]
        refine ⟨⟨hle, i1⟩, fun j h1 h2 h3 h4 => ?_⟩
        by_cases cj : j = k
        · subst cj; exact c1 ⟨h3, h4⟩
        · exact i2 j (by omega) (by omega) h3 h4
section INV3
variable {S : sS} {cs ar : Nat → Int64} {ne nn nc nl ht : Nat}
theorem INV.act (h : INV S cs ne nn nc nl ht) (x y v : Int32) : INV (sp_act S x y v).2 cs ne nn nc nl ht := by
  unfold sp_act
  split
  · exact h
  · rename_i hx
    split
    · exact h
    · rename_i hy
      split
      · exact h
      · rename_i hv6
        split
        · exact h
        · rename_i hv7
          split
          · exact h
          · rename_i hk
            split
            · exact h
            · rename_i hf
              have hx := Decidable.not_not.mp hx
              have hy := Decidable.not_not.mp hy
              have hv6 := Decidable.not_not.mp hv6
              have hv7 := Decidable.not_not.mp hv7
              have hk := Decidable.not_not.mp hk
              have hN := h.nm
              obtain ⟨n0, n1, n2, n7, n8, n12, n13, n18, n19, n5, n6⟩ := hN
              have bx : cl x < nc := cl_lt n12 (by omega) hx
              obtain ⟨k, k1, k2, k3, k4⟩ := h.wk (cl x) bx
              have hk24 : k < 24 := by
                rcases Nat.lt_or_ge k 24 with q | q
                · exact q
                · exact absurd (by rw [k2, show k = 24 by omega]; rfl) hf
              have hc14 : cl (S 14 (cl x)) = k := by rw [k2, cl_n (by omega)]
              rw [hc14]
              obtain ⟨T, hT⟩ : ∃ T, T = va_up (va_up (va_up S 15 (upd (S 15) (24 * cl x + k) y)) 16 (upd (S 16) (24 * cl x + k) v)) 14 (upd (S 14) (cl x) (S 14 (cl x) + 1)) := ⟨_, rfl⟩
              have t13 : T 13 = S 13 := by rw [hT]; rfl
              have t14 : T 14 = upd (S 14) (cl x) (S 14 (cl x) + 1) := by rw [hT]; rfl
              have t15 : T 15 = upd (S 15) (24 * cl x + k) y := by rw [hT]; rfl
              have t16 : T 16 = upd (S 16) (24 * cl x + k) v := by rw [hT]; rfl
              have t4 : T 4 = S 4 := by rw [hT]; rfl
              have o15 : ∀ i j, j < 24 → i ≠ cl x → T 15 (24 * i + j) = S 15 (24 * i + j) := fun i j h1 h2 => by rw [t15, pk_un (by omega)]
              have o16 : ∀ i j, j < 24 → i ≠ cl x → T 16 (24 * i + j) = S 16 (24 * i + j) := fun i j h1 h2 => by rw [t16, pk_un (by omega)]
              have hwk : WK T ne nc := fun i hi => by
                by_cases c : i = cl x
                · rw [c]
                  refine ⟨k + 1, by omega, by rw [t14, pk_us, k2, nI_s], fun j hj => ?_, Or.inl (by rw [t13]; exact hk)⟩
                  by_cases cj : j = k
                  · subst cj
                    rw [t15, t16, pk_us, pk_us]
                    have y8 : cl y ≤ 8 := cl_le (n := 8) rfl (by decide) hy
                    have ey := nI_cl hy.1
                    refine ⟨cl y, y8, ey, fun h6 => ?_, fun h7 => ?_⟩
                    · have h9 := hv6 (by rw [ey, h6]; rfl)
                      exact ⟨cl v, by have := cl_le (n := 7) rfl (by decide) h9; omega, nI_cl h9.1⟩
                    · have h9 := hv7 (by rcases h7 with h7 | h7; exact Or.inl (by rw [ey, h7]; rfl); exact Or.inr (by rw [ey, h7]; rfl))
                      exact ⟨cl v, by have := cl_le (n := 3) rfl (by decide) h9; omega, nI_cl h9.1⟩
                  · rw [t15, t16, pk_un (by omega), pk_un (by omega)]; exact k3 j (by omega)
                · obtain ⟨ki, q1, q2, q3, q4⟩ := h.wk i hi
                  refine ⟨ki, q1, by rw [t14, pk_un c]; exact q2, fun j hj => by rw [o15 i j (by omega) c, o16 i j (by omega) c]; exact q3 j hj, ?_⟩
                  rw [t13]
                  rcases q4 with q4 | ⟨e, he, q5, q6⟩
                  · exact Or.inl q4
                  · exact Or.inr ⟨e, he, q5, by rw [vd_cl i ki 0 0 (fun j _ hj => o15 i j (by omega) c)]; exact q6⟩
              have hwc : WC T nc := fun i hi hk2 j h1 h2 => by
                rw [t13] at hk2
                have c : i ≠ cl x := fun e => hk2 (by rw [e]; exact hk)
                obtain ⟨ki, q1, q2, q3, q4⟩ := h.wk i hi
                rw [t14, pk_un c] at h1
                have hj : j < 24 := by rw [q2, cl_n (by omega)] at h1; omega
                rw [o15 i j hj c] at h2
                rw [t13, o16 i j hj c, show T 2 = S 2 from (by rw [hT]; rfl)]
                exact h.wc i hi hk2 j h1 h2
              have hzc : ZC T cs nc := fun i h1 h2 => by
                have c : i ≠ cl x := by omega
                obtain ⟨z1, z2, z3, z4⟩ := h.zc i h1 h2
                exact ⟨by rw [t14, pk_un c]; exact z1, fun j hj => by rw [o15 i j hj c]; exact z2 j hj, fun j hj => by rw [o16 i j hj c]; exact z3 j hj, z4⟩
              show INV (va_up (va_up (va_up S 15 (upd (S 15) (24 * cl x + k) y)) 16 (upd (S 16) (24 * cl x + k) v)) 14 (upd (S 14) (cl x) (S 14 (cl x) + 1))) cs ne nn nc nl ht
              rw [← hT]
              exact INV.mk (by rw [hT]; exact ((h.nm.up _ (by decide)).up _ (by decide)).up _ (by decide)) hwk (h.fi.of (by rw [hT]; rfl) t4 (by rw [hT]; rfl)) (h.pi.of (by rw [hT]; rfl) t4 (by rw [hT]; rfl)) (h.pu.of (by rw [hT]; rfl) t4) (h.og.of (by rw [hT]; rfl) t4) (h.wl.of t13 (by rw [hT]; rfl) (by rw [hT]; rfl)) hwc (h.mr.of (by rw [hT]; rfl)) (h.kf.of t4 t13) (h.zv.of (by rw [hT]; rfl)) hzc
theorem INV.f0 (h : INV S cs ne nn nc nl ht) : S 6 (cl (S 5 0)) = nI (if_go S (S 5 0) ne) ∧ if_go S (S 5 0) ne < ne := by
  have hN := h.nm
  obtain ⟨n0, n1, n2, n7, n8, n12, n13, n18, n19, n5, n6⟩ := hN
  refine ⟨?_, if_go_lt _ _ ne n1⟩
  rw [n5, cl_n (by omega)]
  exact h.fi ht (Nat.le_refl _)
theorem INV.deploy (h : INV S cs ne nn nc nl ht) (x : Int32) : INV (sp_deploy S x).2 cs ne nn nc nl ht := by
  unfold sp_deploy
  split
  · exact h
  · rename_i hx
    split
    · exact h
    · rename_i hk
      split
      · exact h
      · split
        · exact h
        · rename_i hd
          have hx := Decidable.not_not.mp hx
          have hk := Decidable.not_not.mp hk
          have hd := Decidable.not_not.mp hd
          obtain ⟨f0, f1⟩ := h.f0
          have hN := h.nm
          obtain ⟨n0, n1, n2, n7, n8, n12, n13, n18, n19, n5, n6⟩ := hN
          have bx : cl x < nc := cl_lt n12 (by omega) hx
          obtain ⟨k, k1, k2, k3, k4⟩ := h.wk (cl x) bx
          have hst := if_st h.og (S 5 0) ne
          rw [f0] at hd ⊢
          generalize hE0 : if_go S (S 5 0) ne = e0 at hd f1 hst ⊢
          rw [cl_n (by omega), k2, cl_n (by omega)] at hd
          obtain ⟨v1, v2⟩ := dp_vd k 0 0 (by omega) (fun j _ hj => by
            obtain ⟨a, ha, ea, -⟩ := k3 j (by omega)
            exact ⟨a, by omega, ea⟩) hd
          have t13 : (va_up S 13 (upd (S 13) (cl x) (nI e0))) 13 = upd (S 13) (cl x) (nI e0) := rfl
          have hm1 : ¬ nI e0 = -1 := nI_ne_m1 (by omega)
          have hwk : WK (va_up S 13 (upd (S 13) (cl x) (nI e0))) ne nc := fun i hi => by
            by_cases c : i = cl x
            · rw [c]
              exact ⟨k, k1, k2, k3, Or.inr ⟨e0, f1, by rw [t13, pk_us], by rw [vd_cg (S := S) (T := va_up S 13 (upd (S 13) (cl x) (nI e0))) rfl]; exact v1⟩⟩
            · obtain ⟨ki, q1, q2, q3, q4⟩ := h.wk i hi
              refine ⟨ki, q1, q2, q3, ?_⟩
              rw [t13, pk_un c]
              rcases q4 with q4 | ⟨e, he, q5, q6⟩
              · exact Or.inl q4
              · exact Or.inr ⟨e, he, q5, by rw [vd_cg (S := S) (T := va_up S 13 (upd (S 13) (cl x) (nI e0))) rfl]; exact q6⟩
          have hwc : WC (va_up S 13 (upd (S 13) (cl x) (nI e0))) nc := fun i hi hk2 j h1 h2 => by
            rw [t13] at hk2
            show ∃ m, m ≤ 5 ∧ S 2 (8 * cl (upd (S 13) (cl x) (nI e0) i) + cl (S 16 (24 * i + j))) = nI m
            have h1 : j < cl (S 14 i) := h1
            have h2 : S 15 (24 * i + j) = 6 := h2
            by_cases c : i = cl x
            · rw [c] at h1 h2 ⊢
              rw [k2, cl_n (by omega)] at h1
              rw [pk_us, cl_n (by omega)]
              have h9 := v2 j (by omega) (by omega) h2
              obtain ⟨a, ha, ea, hb, -⟩ := k3 j h1
              obtain ⟨b, hb8, eb⟩ := hb (nI_inj (by omega) (by decide) (ea.symm.trans h2))
              rw [eb, cl_n (by omega)] at h9 ⊢
              exact (h.mr e0 f1 b hb8).resolve_left h9
            · rw [pk_un c] at hk2 ⊢
              exact h.wc i hi hk2 j h1 h2
          have hwl : WL (va_up S 13 (upd (S 13) (cl x) (nI e0))) nc nl ht := fun i hi => by
            obtain ⟨c, hh, q1, q2, q3, q4, q5⟩ := h.wl i hi
            refine ⟨c, hh, q1, q2, q3, q4, ?_⟩
            rw [t13]
            by_cases cc : c = cl x
            · rw [cc, pk_us]; exact hm1
            · rw [pk_un cc]; exact q5
          have hkf : KF (va_up S 13 (upd (S 13) (cl x) (nI e0))) nc := fun i hi hk2 => by
            rw [t13] at hk2 ⊢
            show S 4 (cl (upd (S 13) (cl x) (nI e0) i)) = 2
            by_cases c : i = cl x
            · rw [c, pk_us, cl_n (by omega)]; exact hst
            · rw [pk_un c] at hk2 ⊢; exact h.kf i hi hk2
          exact INV.mk (h.nm.up _ (by decide)) hwk (h.fi.of rfl rfl rfl) (h.pi.of rfl rfl rfl) (h.pu.of rfl rfl) (h.og.of rfl rfl) hwl hwc (h.mr.of rfl) hkf (h.zv.of rfl) (h.zc.of rfl rfl rfl)
theorem rn_o {S : sS} {cs : Nat → Int64} {c pz kp n : Nat} {arg : Int64} {lim : Int32} {i j : Nat} (hi : i ≠ c) (hj : j < 4) : (rn S cs c pz kp n arg lim).2 (4 * i + j) = cs (4 * i + j) := by
  unfold rn rn_end
  cases (ex_go S c pz kp arg lim n 0 0 [] (fun j => cs (4 * c + j))).2 with
  | none => rfl
  | some as => exact ly_o hi hj
theorem INV.run (h : INV S cs ne nn nc nl ht) (x : Int32) (arg : Int64) (lim : Int32) : IV (sp_run S cs ar x arg lim).2.1 (sp_run S cs ar x arg lim).2.2.1 := by
  unfold sp_run
  split
  · exact ⟨_, _, _, _, _, h⟩
  · rename_i hx
    split
    · exact ⟨_, _, _, _, _, h⟩
    · split
      · exact ⟨_, _, _, _, _, h⟩
      · rename_i hk
        split
        · exact ⟨_, _, _, _, _, h⟩
        · rename_i hf
          have hx := Decidable.not_not.mp hx
          have hN := h.nm
          obtain ⟨n0, n1, n2, n7, n8, n12, n13, n18, n19, n5, n6⟩ := hN
          have bx : cl x < nc := cl_lt n12 (by omega) hx
          have hlt : nl < 64 := by
            rcases Nat.lt_or_ge nl 64 with q | q
            · exact q
            · exact absurd (by rw [n18, show nl = 64 by omega]; rfl) hf
          have h18b : cl (S 18 0) = nl := by rw [n18, cl_n (by omega)]
          have hzc : ZC S (rnx S cs x arg lim).2 nc := fun i h1 h2 => by
            obtain ⟨z1, z2, z3, z4⟩ := h.zc i h1 h2
            exact ⟨z1, z2, z3, fun j hj => (rn_o (by omega) hj).trans (z4 j hj)⟩
          rw [h18b]
          generalize rnx S cs x arg lim = o at hzc ⊢
          obtain ⟨T, hT⟩ : ∃ T, T = va_up (va_up (va_up (va_up (va_up (va_up S 19 (upd (S 19) nl x)) 20 (upd (S 20) nl (S 5 0))) 22 (upd (S 22) nl lim)) 23 (upd (S 23) nl o.1)) 18 (fun _ => S 18 0 + 1)) 24 (fun _ => dgs o.2 (cl x) (S 24 0) o.1) := ⟨_, rfl⟩
          have t13 : T 13 = S 13 := by rw [hT]; rfl
          have t19 : T 19 = upd (S 19) nl x := by rw [hT]; rfl
          have t20 : T 20 = upd (S 20) nl (S 5 0) := by rw [hT]; rfl
          have hwl : WL T nc (nl + 1) ht := fun i hi => by
            by_cases c : i = nl
            · rw [c]
              exact ⟨cl x, ht, bx, Nat.le_refl _, by rw [t19, pk_us]; exact nI_cl hx.1, by rw [t20, pk_us]; exact n5, by rw [t13]; exact hk⟩
            · rw [t19, t20, t13, pk_un c, pk_un c]; exact h.wl i (by omega)
          refine ⟨ne, nn, nc, nl + 1, ht, ?_⟩
          show INV (va_up (va_up (va_up (va_up (va_up (va_up S 19 (upd (S 19) nl x)) 20 (upd (S 20) nl (S 5 0))) 22 (upd (S 22) nl lim)) 23 (upd (S 23) nl o.1)) 18 (fun _ => S 18 0 + 1)) 24 (fun _ => dgs o.2 (cl x) (S 24 0) o.1)) o.2 ne nn nc (nl + 1) ht
          rw [← hT]
          exact INV.mk (by rw [hT]; exact ⟨n0, n1, n2, n7, n8, n12, n13, by show S 18 0 + 1 = _; rw [n18, nI_s], by omega, n5, n6⟩) (h.wk.of t13 (by rw [hT]; rfl) (by rw [hT]; rfl) (by rw [hT]; rfl)) (h.fi.of (by rw [hT]; rfl) (by rw [hT]; rfl) (by rw [hT]; rfl)) (h.pi.of (by rw [hT]; rfl) (by rw [hT]; rfl) (by rw [hT]; rfl)) (h.pu.of (by rw [hT]; rfl) (by rw [hT]; rfl)) (h.og.of (by rw [hT]; rfl) (by rw [hT]; rfl)) hwl (h.wc.of (by rw [hT]; rfl) t13 (by rw [hT]; rfl) (by rw [hT]; rfl) (by rw [hT]; rfl)) (h.mr.of (by rw [hT]; rfl)) (h.kf.of (by rw [hT]; rfl) t13) (h.zv.of (by rw [hT]; rfl)) (hzc.of (by rw [hT]; rfl) (by rw [hT]; rfl) (by rw [hT]; rfl))
end INV3
