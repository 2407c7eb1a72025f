section INV4
variable {S : sS} {cs ar : Nat → Int64} {ne nn nc nl ht : Nat}
/-- an edition that is decided with the next height -/
abbrev dn (S : sS) (ht e : Nat) : Prop := S 4 e = 1 ∧ S 3 e = nI (ht + 1)
def CF (S T : sS) (ht k : Nat) : Prop := (∀ r, r ≠ 4 → r ≠ 5 → r ≠ 6 → T r = S r) ∧ T 5 0 = nI (ht + 1) ∧ (∀ e, ¬ (e < k ∧ dn S ht e) → T 4 e = S 4 e) ∧ (∀ e, e < k → dn S ht e → T 4 e = 2 ∨ T 4 e = 3) ∧ (∀ j, j ≤ ht → T 6 j = S 6 j) ∧ (∀ e, e < k → dn S ht e → T 4 e = 2 → T 6 (ht + 1) = nI e) ∧ ((∀ e, e < k → dn S ht e → ¬ T 4 e = 2) → T 6 (ht + 1) = S 6 ht)
theorem cf_0 (h : INV S cs ne nn nc nl ht) (hh : ht < 1000) : CF S (co_1 S) ht 0 := by
  have hN := h.nm
  obtain ⟨n0, n1, n2, n7, n8, n12, n13, n18, n19, n5, n6⟩ := hN
  have e5 : S 5 0 + 1 = nI (ht + 1) := by rw [n5, nI_s]
  have e6 : co_1 S 6 = upd (S 6) (ht + 1) (S 6 ht) := by
    show upd (S 6) (cl (S 5 0 + 1)) (S 6 (cl (S 5 0))) = _
    rw [e5, n5, cl_n (by omega), cl_n (by omega)]
  refine ⟨fun r h4 h5 h6 => ?_, e5, fun e _ => rfl, fun e he => absurd he (by omega), fun j hj => ?_, fun e he => absurd he (by omega), fun _ => ?_⟩
  · unfold co_1; rw [va_up_ne _ _ h6, va_up_ne _ _ h5]
  · rw [e6, pk_un (by omega)]
  · rw [e6, pk_us]
theorem cf_s (h : INV S cs ne nn nc nl ht) (hh : ht < 1000) {k : Nat} (hk : k < ne) {T : sS} (hc : CF S T ht k) : CF S (if T 4 k = 1 ∧ T 3 k = T 5 0 then sp_agrees T k else T) ht (k + 1) := by
  obtain ⟨h1, h2, h3, h4, h5, h6, h7⟩ := hc
  have hT4 : T 4 k = S 4 k := h3 k (fun q => absurd q.1 (by omega))
  have hT3 : T 3 = S 3 := h1 3 (by decide) (by decide) (by decide)
  have hcl : cl (T 5 0) = ht + 1 := by rw [h2, cl_n (by omega)]
  rw [hT4, hT3, h2]
  by_cases c : S 4 k = 1 ∧ S 3 k = nI (ht + 1)
  · rw [if_pos c]
    have huniq : ∀ e, e < ne → dn S ht e → e = k := fun e he hd => h.pu e he k hk hd.1 c.1 (hd.2.trans c.2.symm)
    unfold sp_agrees
    rw [hcl]
    split
    · refine ⟨fun r r4 r5 r6 => ?_, ?_, fun e he => ?_, fun e he hd => ?_, fun j hj => ?_, fun e he hd h9 => ?_, fun hall => ?_⟩
      · rw [va_up_ne _ _ r6, va_up_ne _ _ r4]; exact h1 r r4 r5 r6
      · exact h2
      · show upd (T 4) k 3 e = S 4 e
        have : e ≠ k := fun q => he ⟨by omega, by rw [q]; exact c⟩
        rw [pk_un this]
        exact h3 e (fun q => he ⟨by omega, q.2⟩)
      · show upd (T 4) k 3 e = 2 ∨ upd (T 4) k 3 e = 3
        by_cases ce : e = k
        · rw [ce, pk_us]; exact Or.inr rfl
        · rw [pk_un ce]; exact h4 e (by omega) hd
      · show upd (T 6) (ht + 1) (T 6 (ht + 1)) j = S 6 j
        rw [pk_un (by omega)]; exact h5 j hj
      · have ek := huniq e (by omega) hd
        have h9 : upd (T 4) k 3 e = 2 := h9
        rw [ek, pk_us] at h9
        exact absurd h9 (by decide)
      · show upd (T 6) (ht + 1) (T 6 (ht + 1)) (ht + 1) = S 6 ht
        rw [pk_us]
        refine h7 (fun e he hd h9 => ?_)
        have := huniq e (by omega) hd
        omega
    · refine ⟨fun r r4 r5 r6 => ?_, ?_, fun e he => ?_, fun e he hd => ?_, fun j hj => ?_, fun e he hd h9 => ?_, fun hall => ?_⟩
      · rw [va_up_ne _ _ r6, va_up_ne _ _ r4]; exact h1 r r4 r5 r6
      · exact h2
      · show upd (T 4) k 2 e = S 4 e
        have : e ≠ k := fun q => he ⟨by omega, by rw [q]; exact c⟩
        rw [pk_un this]
        exact h3 e (fun q => he ⟨by omega, q.2⟩)
      · show upd (T 4) k 2 e = 2 ∨ upd (T 4) k 2 e = 3
        by_cases ce : e = k
        · rw [ce, pk_us]; exact Or.inl rfl
        · rw [pk_un ce]; exact h4 e (by omega) hd
      · show upd (T 6) (ht + 1) (nI k) j = S 6 j
        rw [pk_un (by omega)]; exact h5 j hj
      · have ek := huniq e (by omega) hd
        show upd (T 6) (ht + 1) (nI k) (ht + 1) = nI e
        rw [pk_us, ek]
      · exact absurd (show upd (T 4) k 2 k = 2 from pk_us) (hall k (by omega) c)
  · rw [if_neg c]
    refine ⟨h1, h2, fun e he => ?_, fun e he hd => ?_, h5, fun e he hd => ?_, fun hall => ?_⟩
    · exact h3 e (fun q => he ⟨by omega, q.2⟩)
    · exact h4 e (by
        rcases Nat.lt_or_ge e k with q | q
        · exact q
        · exact absurd (by rw [show k = e by omega]; exact hd) c) hd
    · exact h6 e (by
        rcases Nat.lt_or_ge e k with q | q
        · exact q
        · exact absurd (by rw [show k = e by omega]; exact hd) c) hd
    · exact h7 (fun e he hd => hall e (by omega) hd)
theorem cf_k (h : INV S cs ne nn nc nl ht) (hh : ht < 1000) : ∀ k, k ≤ ne → CF S (co_e S k) ht k
  | 0, _ => cf_0 h hh
  | k + 1, hk => by rw [co_e_s]; exact cf_s h hh (by omega) (cf_k h hh k (by omega))
theorem cf_fi (h : INV S cs ne nn nc nl ht) (hh : ht < 1000) {T : sS} (hc : CF S T ht ne) : FI T ne (ht + 1) := by
  obtain ⟨h1, h2, h3, h4, h5, h6, h7⟩ := hc
  have hN := h.nm
  obtain ⟨n0, n1, n2, n7, n8, n12, n13, n18, n19, n5, n6⟩ := hN
  have hT3 : T 3 = S 3 := h1 3 (by decide) (by decide) (by decide)
  have hgt : ∀ j, j ≤ ht → ¬ nI (ht + 1) ≤ nI j := fun j hj z => absurd (nle (by omega) (by omega) z) (by omega)
  have hlow : ∀ k, k < ne → S 4 k = 2 → S 3 k ≤ nI ht := fun k hk h9 => by
    have := (h.pi k hk).resolve_left (fun z => by rw [h9] at z; exact absurd z (by decide))
    rw [n5] at this; exact this
  intro j hj
  by_cases cj : j = ht + 1
  · rw [cj]
    by_cases c : ∃ e, e < ne ∧ dn S ht e ∧ T 4 e = 2
    · obtain ⟨e, he, hd, h9⟩ := c
      rw [h6 e he hd h9]
      congr 1
      have he3 : T 3 e = nI (ht + 1) := by rw [hT3]; exact hd.2
      refine ((if_max h9 (by rw [he3]; exact Int32.le_refl _) (by rw [he3, hT3, h.og.2]; exact nI_lt (a := 0) (by omega) (by omega)) ne (fun k hk ck k4 k3 => ?_)).2 he).symm
      by_cases dk : dn S ht k
      · exact absurd (h.pu k hk e he dk.1 hd.1 (dk.2.trans hd.2.symm)) ck
      · rw [h3 k (fun q => dk q.2)] at k4
        have hl := hlow k hk k4
        rw [he3, hT3]
        have h8 := nI_lt (show ht < ht + 1 by omega) (by omega)
        rw [Int32.le_iff_toInt_le] at hl
        rw [Int32.lt_iff_toInt_lt] at h8 ⊢
        omega
    · have hno : ∀ e, e < ne → dn S ht e → ¬ T 4 e = 2 := fun e he hd h9 => c ⟨e, he, hd, h9⟩
      rw [h7 hno, h.fi ht (Nat.le_refl _)]
      congr 1
      refine (if_cg (by rw [hT3]) (fun k hk => ?_) (fun k hk _ _ => by rw [hT3])).1.symm
      rw [hT3]
      by_cases dk : dn S ht k
      · exact ⟨fun z => absurd z.1 (hno k hk dk), fun z => absurd z.1 (by rw [dk.1]; decide)⟩
      · rw [h3 k (fun q => dk q.2)]
        exact ⟨fun z => ⟨z.1, hlow k hk z.1⟩, fun z => ⟨z.1, i32_le_trans z.2 (nI_le (by omega) (by omega))⟩⟩
  · have hj2 : j ≤ ht := by omega
    rw [h5 j hj2, h.fi j hj2]
    congr 1
    refine (if_cg (by rw [hT3]) (fun k hk => ?_) (fun k hk _ _ => by rw [hT3])).1.symm
    rw [hT3]
    by_cases dk : dn S ht k
    · exact ⟨fun z => absurd (by rw [← dk.2]; exact z.2) (hgt j hj2), fun z => absurd (by rw [← dk.2]; exact z.2) (hgt j hj2)⟩
    · rw [h3 k (fun q => dk q.2)]
theorem INV.comes (h : INV S cs ne nn nc nl ht) (hh : ht < 1000) : INV (sp_comes S) cs ne nn nc nl (ht + 1) := by
  have hN := h.nm
  obtain ⟨n0, n1, n2, n7, n8, n12, n13, n18, n19, n5, n6⟩ := hN
  have h0b : cl (S 0 0) = ne := by rw [n0, cl_n (by omega)]
  have hnm := h.nm.comes hh
  have hc := cf_k h hh ne (Nat.le_refl _)
  have hfi := cf_fi h hh hc
  unfold sp_comes at hnm ⊢
  rw [h0b] at hnm ⊢
  generalize co_e S ne = T at hc hfi hnm ⊢
  generalize cl (S 7 0) = m at hnm ⊢
  obtain ⟨h1, h2, h3, h4, h5, h6, h7⟩ := hc
  have u : ∀ r, r ≠ 10 → co_n T m r = T r := fun r hr => cn_row T hr m
  have hT3 : T 3 = S 3 := h1 3 (by decide) (by decide) (by decide)
  have hT13 : T 13 = S 13 := h1 13 (by decide) (by decide) (by decide)
  have hT14 : T 14 = S 14 := h1 14 (by decide) (by decide) (by decide)
  have hT15 : T 15 = S 15 := h1 15 (by decide) (by decide) (by decide)
  have hT16 : T 16 = S 16 := h1 16 (by decide) (by decide) (by decide)
  have hT2 : T 2 = S 2 := h1 2 (by decide) (by decide) (by decide)
  have st2 : ∀ e, S 4 e = 2 → T 4 e = 2 := fun e he => by
    rw [h3 e (fun q => absurd (he.symm.trans q.2.1) (by decide))]; exact he
  have st1 : ∀ e, e < ne → T 4 e = 1 → S 4 e = 1 := fun e he h9 => by
    by_cases d : dn S ht e
    · exact d.1
    · rw [h3 e (fun q => d q.2)] at h9; exact h9
  have hpi : PI T ne := fun e he => by
    rw [h2, hT3]
    by_cases d : dn S ht e
    · right; rw [d.2]; exact Int32.le_refl _
    · rw [h3 e (fun q => d q.2)]
      rcases h.pi e he with h9 | h9
      · exact Or.inl h9
      · right
        rw [n5] at h9
        exact i32_le_trans h9 (nI_le (by omega) (by omega))
  have hpu : PU T ne := fun e he e' he' a1 a2 a3 => by
    rw [hT3] at a3
    exact h.pu e he e' he' (st1 e he a1) (st1 e' he' a2) a3
  have hog : OG T := ⟨st2 0 h.og.1, by rw [hT3]; exact h.og.2⟩
  have hwl : WL T nc nl (ht + 1) := fun i hi => by
    obtain ⟨c, hh, q1, q2, q3, q4, q5⟩ := h.wl i hi
    exact ⟨c, hh, q1, by omega, by rw [h1 19 (by decide) (by decide) (by decide)]; exact q3, by rw [h1 20 (by decide) (by decide) (by decide)]; exact q4, by rw [hT13]; exact q5⟩
  have hkf : KF T nc := fun i hi hk => by
    rw [hT13] at hk ⊢
    exact st2 _ (h.kf i hi hk)
  exact INV.mk hnm ((h.wk.of hT13 hT14 hT15 hT16).of (u 13 (by decide)) (u 14 (by decide)) (u 15 (by decide)) (u 16 (by decide))) (hfi.of (u 3 (by decide)) (u 4 (by decide)) (u 6 (by decide))) (hpi.of (u 3 (by decide)) (u 4 (by decide)) (u 5 (by decide))) (hpu.of (u 3 (by decide)) (u 4 (by decide))) (hog.of (u 3 (by decide)) (u 4 (by decide))) (hwl.of (u 13 (by decide)) (u 19 (by decide)) (u 20 (by decide)))
    ((h.wc.of hT2 hT13 hT14 hT15 hT16).of (u 2 (by decide)) (u 13 (by decide)) (u 14 (by decide)) (u 15 (by decide)) (u 16 (by decide))) ((h.mr.of hT2).of (u 2 (by decide))) (hkf.of (u 4 (by decide)) (u 13 (by decide))) ((h.zv.of (h1 11 (by decide) (by decide) (by decide))).of (u 11 (by decide))) ((h.zc.of hT14 hT15 hT16).of (u 14 (by decide)) (u 15 (by decide)) (u 16 (by decide)))
theorem INV.rk (h : INV S cs ne nn nc nl ht) : ∀ k, ht + k ≤ 1000 → INV (ri_k S k) cs ne nn nc nl (ht + k)
  | 0, _ => h
  | k + 1, hk => (INV.rk h k (by omega)).comes (by omega)
theorem INV.fx (h : INV S cs ne nn nc nl ht) : ∀ k, ht + k < 1000 → (co_e (ri_k S k) ne) 6 (cl ((co_e (ri_k S k) ne) 5 0)) = nI (if_go (co_e (ri_k S k) ne) ((co_e (ri_k S k) ne) 5 0) ne) := fun k hk => by
  have hi := h.rk k (by omega)
  have hc := cf_k hi hk ne (Nat.le_refl _)
  have hfi := cf_fi hi hk hc
  rw [hc.2.1, cl_n (by omega)]
  exact hfi _ (Nat.le_refl _)
theorem INV.rise (h : INV S cs ne nn nc nl ht) (x : Int32) : IV (sp_rise S x).2 cs := by
  unfold sp_rise
  split
  · exact ⟨_, _, _, _, _, h⟩
  · rename_i hx
    split
    · exact ⟨_, _, _, _, _, h⟩
    · rename_i hs
      have hx := Decidable.not_not.mp hx
      have hs := Decidable.not_not.mp hs
      have hN := h.nm
      obtain ⟨n0, n1, n2, n7, n8, n12, n13, n18, n19, n5, n6⟩ := hN
      have px : 0 ≤ x := i32_le_trans (by decide) hx.1
      have bx : cl x ≤ 100 := cl_le (n := 100) rfl (by decide) ⟨px, hx.2⟩
      have bh : ht + cl x ≤ 1000 := by
        rw [n5, nI_cl px, nI_add] at hs
        exact nle (b := 1000) (by omega) (by decide) hs
      exact ⟨_, _, _, _, _, h.rk (cl x) bh⟩
end INV4
