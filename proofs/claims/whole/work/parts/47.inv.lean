/-! what holds of every state that calls reach -/
def PU (S : sS) (ne : Nat) : Prop := ∀ e, e < ne → ∀ e', e' < ne → S 4 e = 1 → S 4 e' = 1 → S 3 e = S 3 e' → e = e'
def OG (S : sS) : Prop := S 4 0 = 2 ∧ S 3 0 = 0
def KF (S : sS) (nc : Nat) : Prop := ∀ i, i < nc → ¬ S 13 i = -1 → S 4 (cl (S 13 i)) = 2
def ZV (S : sS) (nn : Nat) : Prop := ∀ n, nn ≤ n → n < 12 → ∀ e, e < 10 → S 11 (12 * e + n) = 0
def ZC (S : sS) (cs : Nat → Int64) (nc : Nat) : Prop := ∀ i, nc ≤ i → i < 12 → S 14 i = 0 ∧ (∀ j, j < 24 → S 15 (24 * i + j) = 0) ∧ (∀ j, j < 24 → S 16 (24 * i + j) = 0) ∧ ∀ j, j < 4 → cs (4 * i + j) = 0
def INV (S : sS) (cs : Nat → Int64) (ne nn nc nl ht : Nat) : Prop := NM S ne nn nc nl ht ∧ WK S ne nc ∧ FI S ne ht ∧ PI S ne ∧ PU S ne ∧ OG S ∧ WL S nc nl ht ∧ WC S nc ∧ MR S ne ∧ KF S nc ∧ ZV S nn ∧ ZC S cs nc
section INVD
variable {S : sS} {cs : Nat → Int64} {ne nn nc nl ht : Nat}
theorem INV.nm (h : INV S cs ne nn nc nl ht) : NM S ne nn nc nl ht := h.1
theorem INV.wk (h : INV S cs ne nn nc nl ht) : WK S ne nc := h.2.1
theorem INV.fi (h : INV S cs ne nn nc nl ht) : FI S ne ht := h.2.2.1
theorem INV.pi (h : INV S cs ne nn nc nl ht) : PI S ne := h.2.2.2.1
theorem INV.pu (h : INV S cs ne nn nc nl ht) : PU S ne := h.2.2.2.2.1
theorem INV.og (h : INV S cs ne nn nc nl ht) : OG S := h.2.2.2.2.2.1
theorem INV.wl (h : INV S cs ne nn nc nl ht) : WL S nc nl ht := h.2.2.2.2.2.2.1
theorem INV.wc (h : INV S cs ne nn nc nl ht) : WC S nc := h.2.2.2.2.2.2.2.1
theorem INV.mr (h : INV S cs ne nn nc nl ht) : MR S ne := h.2.2.2.2.2.2.2.2.1
theorem INV.kf (h : INV S cs ne nn nc nl ht) : KF S nc := h.2.2.2.2.2.2.2.2.2.1
theorem INV.zv (h : INV S cs ne nn nc nl ht) : ZV S nn := h.2.2.2.2.2.2.2.2.2.2.1
theorem INV.zc (h : INV S cs ne nn nc nl ht) : ZC S cs nc := h.2.2.2.2.2.2.2.2.2.2.2
theorem INV.mk (nm : NM S ne nn nc nl ht) (wk : WK S ne nc) (fi : FI S ne ht) (pi : PI S ne) (pu : PU S ne) (og : OG S) (wl : WL S nc nl ht) (wc : WC S nc) (mr : MR S ne) (kf : KF S nc) (zv : ZV S nn) (zc : ZC S cs nc) : INV S cs ne nn nc nl ht := ⟨nm, wk, fi, pi, pu, og, wl, wc, mr, kf, zv, zc⟩
end INVD
/-! rows that are the same -/
theorem vd_cg {S T : sS} (h : T 15 = S 15) (c : Nat) : ∀ r k d, vd T c r k d = vd S c r k d
  | 0, _, _ => rfl
  | r + 1, k, d => by rw [vd_s, vd_s, h, vd_cg h c r]
theorem if_cg {S T : sS} {a b : Int32} {n : Nat} (h0 : T 3 0 = S 3 0) (h1 : ∀ k, k < n → ((T 4 k = 2 ∧ T 3 k ≤ b) ↔ (S 4 k = 2 ∧ S 3 k ≤ a))) (h2 : ∀ k, k < n → S 4 k = 2 → S 3 k ≤ a → T 3 k = S 3 k) : if_go T b n = if_go S a n ∧ T 3 (if_go S a n) = S 3 (if_go S a n) := by
  induction n with
  | zero => exact ⟨rfl, h0⟩
  | succ n ih =>
    obtain ⟨i1, i2⟩ := ih (fun k hk => h1 k (by omega)) (fun k hk => h2 k (by omega))
    rw [if_go_s, if_go_s, i1]
    by_cases c : S 4 n = 2 ∧ S 3 n ≤ a
    · have c2 := (h1 n (by omega)).mpr c
      have e3 := h2 n (by omega) c.1 c.2
      rw [i2, e3]
      by_cases d : S 3 (if_go S a n) < S 3 n
      · rw [if_pos ⟨c2.1, by rw [← e3]; exact c2.2, d⟩, if_pos ⟨c.1, c.2, d⟩]; exact ⟨rfl, e3⟩
      · rw [if_neg (fun q => d q.2.2), if_neg (fun q => d q.2.2)]; exact ⟨rfl, i2⟩
    · have c2 : ¬ (T 4 n = 2 ∧ T 3 n ≤ b) := fun q => c ((h1 n (by omega)).mp q)
      rw [if_neg (fun q => c2 ⟨q.1, q.2.1⟩), if_neg (fun q => c ⟨q.1, q.2.1⟩)]
      exact ⟨rfl, i2⟩
theorem if_rows {S T : sS} (h3 : T 3 = S 3) (h4 : T 4 = S 4) (a : Int32) (n : Nat) : if_go T a n = if_go S a n := (if_cg (a := a) (b := a) (by rw [h3]) (fun k _ => by rw [h3, h4]) (fun k _ _ _ => by rw [h3])).1
theorem if_st {S : sS} (h : OG S) (a : Int32) : ∀ n, S 4 (if_go S a n) = 2
  | 0 => h.1
  | n + 1 => by
    rw [if_go_s]
    split
    · rename_i q; exact q.1
    · exact if_st h a n
theorem if_max {T : sS} {b : Int32} {e : Nat} (h4 : T 4 e = 2) (hb : T 3 e ≤ b) (h0 : T 3 0 < T 3 e) : ∀ n, (∀ k, k < n → k ≠ e → T 4 k = 2 → T 3 k ≤ b → T 3 k < T 3 e) → (n ≤ e → T 3 (if_go T b n) < T 3 e) ∧ (e < n → if_go T b n = e)
  | 0, _ => ⟨fun _ => h0, fun h => absurd h (by omega)⟩
  | n + 1, h => by
    obtain ⟨i1, i2⟩ := if_max h4 hb h0 n (fun k hk => h k (by omega))
    rw [if_go_s]
    refine ⟨fun hn => ?_, fun hn => ?_⟩
    · split
      · rename_i q; exact h n (by omega) (by omega) q.1 q.2.1
      · exact i1 (by omega)
    · by_cases c : n = e
      · rw [if_pos ⟨by rw [c]; exact h4, by rw [c]; exact hb, by rw [c]; rw [c] at i1; exact i1 (Nat.le_refl _)⟩, c]
      · have hi := i2 (by omega)
        rw [hi]
        rw [if_neg (fun q => by
          have h9 := h n (by omega) c q.1 q.2.1
          have h8 := q.2.2
          rw [Int32.lt_iff_toInt_lt] at h8 h9
          omega)]
theorem WK.of {S T : sS} {ne nc : Nat} (h : WK S ne nc) (e13 : T 13 = S 13) (e14 : T 14 = S 14) (e15 : T 15 = S 15) (e16 : T 16 = S 16) : WK T ne nc := fun i hi => by
  obtain ⟨k, h1, h2, h3, h4⟩ := h i hi
  refine ⟨k, h1, by rw [e14]; exact h2, fun j hj => by rw [e15, e16]; exact h3 j hj, ?_⟩
  rw [e13]
  rcases h4 with h4 | ⟨e, he, h5, h6⟩
  · exact Or.inl h4
  · exact Or.inr ⟨e, he, h5, by rw [vd_cg e15]; exact h6⟩
theorem FI.of {S T : sS} {ne ht : Nat} (h : FI S ne ht) (e3 : T 3 = S 3) (e4 : T 4 = S 4) (e6 : T 6 = S 6) : FI T ne ht := fun k hk => by rw [e6, if_rows e3 e4]; exact h k hk
theorem PI.of {S T : sS} {ne : Nat} (h : PI S ne) (e3 : T 3 = S 3) (e4 : T 4 = S 4) (e5 : T 5 = S 5) : PI T ne := fun k hk => by rw [e3, e4, e5]; exact h k hk
theorem PU.of {S T : sS} {ne : Nat} (h : PU S ne) (e3 : T 3 = S 3) (e4 : T 4 = S 4) : PU T ne := fun e he e' he' => by rw [e3, e4]; exact h e he e' he'
theorem OG.of {S T : sS} (h : OG S) (e3 : T 3 = S 3) (e4 : T 4 = S 4) : OG T := by unfold OG; rw [e3, e4]; exact h
theorem WL.of {S T : sS} {nc nl ht : Nat} (h : WL S nc nl ht) (e13 : T 13 = S 13) (e19 : T 19 = S 19) (e20 : T 20 = S 20) : WL T nc nl ht := fun i hi => by rw [e19, e20, e13]; exact h i hi
theorem WC.of {S T : sS} {nc : Nat} (h : WC S nc) (e2 : T 2 = S 2) (e13 : T 13 = S 13) (e14 : T 14 = S 14) (e15 : T 15 = S 15) (e16 : T 16 = S 16) : WC T nc := fun i hi hk k h1 h2 => by
  rw [e13] at hk
  rw [e14] at h1
  rw [e15] at h2
  rw [e2, e13, e16]
  exact h i hi hk k h1 h2
theorem MR.of {S T : sS} {ne : Nat} (h : MR S ne) (e2 : T 2 = S 2) : MR T ne := fun e he j hj => by rw [e2]; exact h e he j hj
theorem KF.of {S T : sS} {nc : Nat} (h : KF S nc) (e4 : T 4 = S 4) (e13 : T 13 = S 13) : KF T nc := fun i hi => by rw [e4, e13]; exact h i hi
theorem ZV.of {S T : sS} {nn : Nat} (h : ZV S nn) (e11 : T 11 = S 11) : ZV T nn := fun n h1 h2 e he => by rw [e11]; exact h n h1 h2 e he
theorem ZC.of {S T : sS} {cs : Nat → Int64} {nc : Nat} (h : ZC S cs nc) (e14 : T 14 = S 14) (e15 : T 15 = S 15) (e16 : T 16 = S 16) : ZC T cs nc := fun i h1 h2 => by rw [e14, e15, e16]; exact h i h1 h2
/-- a new object -/
theorem INV.start : INV s_0 (fun _ => 0) 1 0 0 0 0 := by
  refine INV.mk ⟨rfl, by decide, by decide, rfl, by decide, rfl, by decide, rfl, by decide, rfl, by decide⟩ (fun i hi => absurd hi (by omega)) (fun h hh => ?_) (fun e he => ?_) (fun e he e' he' _ _ _ => by omega) ⟨rfl, rfl⟩ (fun i hi => absurd hi (by omega)) (fun i hi => absurd hi (by omega)) (fun e he j hj => ?_) (fun i hi => absurd hi (by omega)) (fun _ _ _ _ _ => rfl) (fun _ _ _ => ⟨rfl, fun _ _ => rfl, fun _ _ => rfl, fun _ _ => rfl⟩)
  · have : h = 0 := by omega
    subst this
    decide
  · have : e = 0 := by omega
    subst this
    exact Or.inr (by decide)
  · have : e = 0 := by omega
    subst this
    left
    show (if 8 * 0 + j < 8 then (-1 : Int32) else 0) = -1
    rw [if_pos (by omega)]
section INVS
variable {S : sS} {cs ar : Nat → Int64} {ne nn nc nl ht : Nat}
/-- the next call finds what it needs -/
abbrev IV (S : sS) (cs : Nat → Int64) : Prop := ∃ ne nn nc nl ht, INV S cs ne nn nc nl ht
theorem up_ne {f : Nat → Int32} {i j : Nat} {x : Int32} (h : j ≠ i) : upd f i x j = f j := pk_un h
theorem INV.price (h : INV S cs ne nn nc nl ht) (x y v : Int32) : INV (sp_price S x y v).2 cs ne nn nc nl ht := by
  unfold sp_price
  split
  · exact h
  · split
    · exact h
    · split
      · exact h
      · split
        · exact h
        · exact INV.mk (nm := h.nm.up _ (by decide)) (wk := h.wk.of rfl rfl rfl rfl) (fi := h.fi.of rfl rfl rfl) (pi := h.pi.of rfl rfl rfl) (pu := h.pu.of rfl rfl) (og := h.og.of rfl rfl) (wl := h.wl.of rfl rfl rfl) (wc := h.wc.of rfl rfl rfl rfl rfl) (mr := h.mr.of rfl) (kf := h.kf.of rfl rfl) (zv := h.zv.of rfl) (zc := h.zc.of rfl rfl rfl)
theorem INV.build (h : INV S cs ne nn nc nl ht) (x y : Int32) : INV (sp_build S x y).2 cs ne nn nc nl ht := by
  unfold sp_build
  split
  · exact h
  · split
    · exact h
    · split
      · exact h
      · exact INV.mk (nm := h.nm.up _ (by decide)) (wk := h.wk.of rfl rfl rfl rfl) (fi := h.fi.of rfl rfl rfl) (pi := h.pi.of rfl rfl rfl) (pu := h.pu.of rfl rfl) (og := h.og.of rfl rfl) (wl := h.wl.of rfl rfl rfl) (wc := h.wc.of rfl rfl rfl rfl rfl) (mr := h.mr.of rfl) (kf := h.kf.of rfl rfl) (zv := h.zv.of rfl) (zc := h.zc.of rfl rfl rfl)
theorem INV.member (h : INV S cs ne nn nc nl ht) (x y v : Int32) : INV (sp_member S x y v).2 cs ne nn nc nl ht := by
  unfold sp_member
  split
  · exact h
  · rename_i hx
    split
    · exact h
    · rename_i hy
      split
      · exact h
      · rename_i hv
        split
        · exact h
        · rename_i hs
          have hx := Decidable.not_not.mp hx
          have hy := Decidable.not_not.mp hy
          have hv := Decidable.not_not.mp hv
          have hs := Decidable.not_not.mp hs
          have hN := h.nm
          have bx : cl x < ne := cl_lt hN.1 (by have := hN.2.2.1; omega) hx
          have by' : cl y < 8 := by have := cl_le (n := 7) rfl (by decide) hy; omega
          have hmr : MR (va_up S 2 (upd (S 2) (8 * cl x + cl y) v)) ne := fun e he j hj => by
            rw [va_up_self]
            by_cases c : 8 * e + j = 8 * cl x + cl y
            · rw [c, pk_us]
              rcases m1_le' hv with h9 | h9
              · exact Or.inl h9
              · exact Or.inr ⟨cl v, by have := cl_lt (n := 6) rfl (by decide) h9; omega, nI_cl h9.1⟩
            · rw [pk_un c]; exact h.mr e he j hj
          have hwc : WC (va_up S 2 (upd (S 2) (8 * cl x + cl y) v)) nc := fun i hi hk k h1 h2 => by
            obtain ⟨k14, q1, q2, q3, -⟩ := h.wk i hi
            have hkl : k < k14 := by
              have h1 : k < cl (S 14 i) := h1
              rw [q2, cl_n (by omega)] at h1; exact h1
            obtain ⟨a, ha, ea, hb, -⟩ := q3 k hkl
            have h2 : S 15 (24 * i + k) = 6 := h2
            obtain ⟨b, hb8, eb⟩ := hb (nI_inj (by omega) (by decide) (ea.symm.trans h2))
            have hkf := h.kf i hi hk
            have hne : cl (S 13 i) ≠ cl x := fun e => by rw [e, hs] at hkf; exact absurd hkf (by decide)
            obtain ⟨j, hj, ej⟩ := h.wc i hi hk k h1 h2
            refine ⟨j, hj, ?_⟩
            show upd (S 2) (8 * cl x + cl y) v (8 * cl (S 13 i) + cl (S 16 (24 * i + k))) = nI j
            rw [pk_un]
            · exact ej
            · rw [eb, cl_n (by omega)]; omega
          exact INV.mk (nm := h.nm.up _ (by decide)) (wk := h.wk.of rfl rfl rfl rfl) (fi := h.fi.of rfl rfl rfl) (pi := h.pi.of rfl rfl rfl) (pu := h.pu.of rfl rfl) (og := h.og.of rfl rfl) (wl := h.wl.of rfl rfl rfl) (wc := hwc) (mr := hmr) (kf := h.kf.of rfl rfl) (zv := h.zv.of rfl) (zc := h.zc.of rfl rfl rfl)
theorem INV.vote (h : INV S cs ne nn nc nl ht) (x y v : Int32) : INV (sp_vote S x y v).2 cs ne nn nc nl ht := by
  unfold sp_vote
  split
  · exact h
  · rename_i hx
    split
    · exact h
    · rename_i hy
      split
      · exact h
      · split
        · exact h
        · have hx := Decidable.not_not.mp hx
          have hN := h.nm
          have bx : cl x < nn := cl_lt hN.2.2.2.1 (by have := hN.2.2.2.2.1; omega) hx
          have hzv : ZV (va_up S 11 (upd (S 11) (12 * cl y + cl x) v)) nn := fun n h1 h2 e he => by
            rw [va_up_self, pk_un (by omega)]; exact h.zv n h1 h2 e he
          exact INV.mk (nm := h.nm.up _ (by decide)) (wk := h.wk.of rfl rfl rfl rfl) (fi := h.fi.of rfl rfl rfl) (pi := h.pi.of rfl rfl rfl) (pu := h.pu.of rfl rfl) (og := h.og.of rfl rfl) (wl := h.wl.of rfl rfl rfl) (wc := h.wc.of rfl rfl rfl rfl rfl) (mr := h.mr.of rfl) (kf := h.kf.of rfl rfl) (zv := hzv) (zc := h.zc.of rfl rfl rfl)
theorem INV.node (h : INV S cs ne nn nc nl ht) (x y : Int32) : IV (sp_node S x y).2 cs := by
  unfold sp_node
  split
  · exact ⟨_, _, _, _, _, h⟩
  · split
    · exact ⟨_, _, _, _, _, h⟩
    · split
      · exact ⟨_, _, _, _, _, h⟩
      · rename_i hf
        have hN := h.nm
        obtain ⟨n0, n1, n2, n7, n8, n12, n13, n18, n19, n5, n6⟩ := hN
        have hlt : nn < 12 := by
          rcases Nat.lt_or_ge nn 12 with q | q
          · exact q
          · exact absurd (by rw [n7, show nn = 12 by omega]; rfl) hf
        exact ⟨ne, nn + 1, nc, nl, ht, INV.mk (nm := ⟨n0, n1, n2, by show S 7 0 + 1 = _; rw [n7, nI_s], by omega, n12, n13, n18, n19, n5, n6⟩) (wk := h.wk.of rfl rfl rfl rfl) (fi := h.fi.of rfl rfl rfl) (pi := h.pi.of rfl rfl rfl) (pu := h.pu.of rfl rfl) (og := h.og.of rfl rfl) (wl := h.wl.of rfl rfl rfl) (wc := h.wc.of rfl rfl rfl rfl rfl) (mr := h.mr.of rfl) (kf := h.kf.of rfl rfl) (zv := fun n h1 h2 e he => h.zv n (by omega) h2 e he) (zc := h.zc.of rfl rfl rfl)⟩
end INVS
