section EVW
variable {G : mG} {L : Nat → Nat → Nat} {S : sS} {cs ar : Nat → Int64} {J : eJ} {M : mM}
theorem nI_ne_m1 {n : Nat} (h : n < 2 ^ 31) : ¬ nI n = -1 := fun e => by
  have h1 := congrArg Int32.toInt e
  rw [nI_toInt h, show (-1 : Int32).toInt = -1 from rfl] at h1
  omega
theorem trL_congr {n : Nat} {f g : Nat → Int64} (h : ∀ j, j < n → f j = g j) : trL n f = trL n g := by
  funext j
  unfold trL
  by_cases hj : j < n
  · rw [if_pos hj, if_pos hj, h j hj]
  · rw [if_neg hj, if_neg hj]
theorem tr_up {n : Nat} (f : Nat → Int32) {b j : Nat} (hj : j < n) (x : Int32) : upd (tr n (fun q => f (b + q))) j x = tr n (fun q => upd f (b + j) x (b + q)) := by
  funext q
  unfold upd tr
  by_cases h : q = j
  · subst h; simp [hj]
  · by_cases h2 : q < n <;> simp [h, h2]
theorem tr_ne {n : Nat} (f : Nat → Int32) {b t : Nat} (h : ∀ q, q < n → b + q ≠ t) (x : Int32) : tr n (fun q => upd f t x (b + q)) = tr n (fun q => f (b + q)) := by
  funext q
  unfold upd tr
  by_cases h2 : q < n
  · have h3 := h q h2; simp [h2, h3]
  · simp [h2]
set_option maxHeartbeats 1000000 in
theorem EV.w_st (h : EV G L S cs ar J M) {i : Nat} (hi : i < cl (S 0 0)) (x : Int32) {M' : mM} (eM : M' = mm_up M (L 10 i) (oEd (nI i) (L 11 i) (L 12 i) (S 3 i) x)) : EV G L (va_up S 4 (upd (S 4) i x)) (cs) (ar) (J) M' := by
  subst eM
  refine h.one (k0 := 10) (i0 := i) (lv_e S (by decide) hi) ⟨rfl, rfl, rfl, rfl⟩ ?_ ?_ (fun q hq => mm_up_n _ _ hq)
  · refine lv_ind ?_ ?_ ?_ ?_ ?_ ?_ ?_ ?_ ?_ ?_ ?_ ?_ ?_ ?_ ?_ ?_ ?_ ?_ ?_ ?_ ?_
    · intro _; exact (cE_0 G L _ _ _ _ _).trans (cE_0 G L S cs ar J _).symm
    · intro _; exact (cE_1 G L _ _ _ _ _).trans (cE_1 G L S cs ar J _).symm
    · intro _; exact (cE_2 G L _ _ _ _ _).trans (cE_2 G L S cs ar J _).symm
    · intro _; exact (cE_3 G L _ _ _ _ _).trans (cE_3 G L S cs ar J _).symm
    · intro _; exact (cE_4 G L _ _ _ _ _).trans (cE_4 G L S cs ar J _).symm
    · intro _; exact (cE_5 G L _ _ _ _ _).trans (cE_5 G L S cs ar J _).symm
    · intro _; exact (cE_6 G L _ _ _ _ _).trans (cE_6 G L S cs ar J _).symm
    · intro _; exact (cE_7 G L _ _ _ _ _).trans (cE_7 G L S cs ar J _).symm
    · intro _; exact (cE_8 G L _ _ _ _ _).trans (cE_8 G L S cs ar J _).symm
    · intro i1 hi1 hn; have hne : i1 ≠ i := fun z => hn ⟨rfl, z⟩; show oEd (nI i1) (L 11 i1) (L 12 i1) (S 3 i1) (upd (S 4) i x i1) = _; rw [pk_un hne]; rfl
    · intro i1 _ _; exact (cE_11 G L _ _ _ _ _).trans (cE_11 G L S cs ar J _).symm
    · intro i1 _ _; exact (cE_12 G L _ _ _ _ _).trans (cE_12 G L S cs ar J _).symm
    · intro i1 _ _; exact (cE_20 G L _ _ _ _ _).trans (cE_20 G L S cs ar J _).symm
    · intro i1 _ _; exact (cE_30 G L _ _ _ _ _).trans (cE_30 G L S cs ar J _).symm
    · intro i1 _ _; exact (cE_31 G L _ _ _ _ _).trans (cE_31 G L S cs ar J _).symm
    · intro i1 _ _; exact (cE_32 G L _ _ _ _ _).trans (cE_32 G L S cs ar J _).symm
    · intro i1 _ _; exact (cE_33 G L _ _ _ _ _).trans (cE_33 G L S cs ar J _).symm
    · intro i1 _ _; exact (cE_34 G L _ _ _ _ _).trans (cE_34 G L S cs ar J _).symm
    · intro i1 _ _; exact (cE_35 G L _ _ _ _ _).trans (cE_35 G L S cs ar J _).symm
    · intro i1 _ _; exact (cE_36 G L _ _ _ _ _).trans (cE_36 G L S cs ar J _).symm
    · intro i1 _ _; exact (cE_40 G L _ _ _ _ _).trans (cE_40 G L S cs ar J _).symm
  · rw [mm_up_s]; show _ = some (oEd (nI i) (L 11 i) (L 12 i) (S 3 i) (upd (S 4) i x i)); rw [pk_us]
set_option maxHeartbeats 1000000 in
theorem EV.w_he (h : EV G L S cs ar J M) {i : Nat} (hi : i < cl (S 0 0)) (x : Int32) {M' : mM} (eM : M' = mm_up M (L 10 i) (oEd (nI i) (L 11 i) (L 12 i) x (S 4 i))) : EV G L (va_up S 3 (upd (S 3) i x)) (cs) (ar) (J) M' := by
  subst eM
  refine h.one (k0 := 10) (i0 := i) (lv_e S (by decide) hi) ⟨rfl, rfl, rfl, rfl⟩ ?_ ?_ (fun q hq => mm_up_n _ _ hq)
  · refine lv_ind ?_ ?_ ?_ ?_ ?_ ?_ ?_ ?_ ?_ ?_ ?_ ?_ ?_ ?_ ?_ ?_ ?_ ?_ ?_ ?_ ?_
    · intro _; exact (cE_0 G L _ _ _ _ _).trans (cE_0 G L S cs ar J _).symm
    · intro _; exact (cE_1 G L _ _ _ _ _).trans (cE_1 G L S cs ar J _).symm
    · intro _; exact (cE_2 G L _ _ _ _ _).trans (cE_2 G L S cs ar J _).symm
    · intro _; exact (cE_3 G L _ _ _ _ _).trans (cE_3 G L S cs ar J _).symm
    · intro _; exact (cE_4 G L _ _ _ _ _).trans (cE_4 G L S cs ar J _).symm
    · intro _; exact (cE_5 G L _ _ _ _ _).trans (cE_5 G L S cs ar J _).symm
    · intro _; exact (cE_6 G L _ _ _ _ _).trans (cE_6 G L S cs ar J _).symm
    · intro _; exact (cE_7 G L _ _ _ _ _).trans (cE_7 G L S cs ar J _).symm
    · intro _; exact (cE_8 G L _ _ _ _ _).trans (cE_8 G L S cs ar J _).symm
    · intro i1 hi1 hn; have hne : i1 ≠ i := fun z => hn ⟨rfl, z⟩; show oEd (nI i1) (L 11 i1) (L 12 i1) (upd (S 3) i x i1) (S 4 i1) = _; rw [pk_un hne]; rfl
    · intro i1 _ _; exact (cE_11 G L _ _ _ _ _).trans (cE_11 G L S cs ar J _).symm
    · intro i1 _ _; exact (cE_12 G L _ _ _ _ _).trans (cE_12 G L S cs ar J _).symm
    · intro i1 _ _; exact (cE_20 G L _ _ _ _ _).trans (cE_20 G L S cs ar J _).symm
    · intro i1 _ _; exact (cE_30 G L _ _ _ _ _).trans (cE_30 G L S cs ar J _).symm
    · intro i1 _ _; exact (cE_31 G L _ _ _ _ _).trans (cE_31 G L S cs ar J _).symm
    · intro i1 _ _; exact (cE_32 G L _ _ _ _ _).trans (cE_32 G L S cs ar J _).symm
    · intro i1 _ _; exact (cE_33 G L _ _ _ _ _).trans (cE_33 G L S cs ar J _).symm
    · intro i1 _ _; exact (cE_34 G L _ _ _ _ _).trans (cE_34 G L S cs ar J _).symm
    · intro i1 _ _; exact (cE_35 G L _ _ _ _ _).trans (cE_35 G L S cs ar J _).symm
    · intro i1 _ _; exact (cE_36 G L _ _ _ _ _).trans (cE_36 G L S cs ar J _).symm
    · intro i1 _ _; exact (cE_40 G L _ _ _ _ _).trans (cE_40 G L S cs ar J _).symm
  · rw [mm_up_s]; show _ = some (oEd (nI i) (L 11 i) (L 12 i) (upd (S 3) i x i) (S 4 i)); rw [pk_us]
set_option maxHeartbeats 1000000 in
theorem EV.w_pr (h : EV G L S cs ar J M) {i : Nat} (hi : i < cl (S 0 0)) {j : Nat} (hj : j < 9) (x : Int32) {M' : mM} (eM : M' = mm_up M (L 11 i) (aI G 9 (upd (tr 9 (fun j => S 1 (9 * i + j))) j x))) : EV G L (va_up S 1 (upd (S 1) (9 * i + j) x)) (cs) (ar) (J) M' := by
  subst eM
  refine h.one (k0 := 11) (i0 := i) (lv_e S (by decide) hi) ⟨rfl, rfl, rfl, rfl⟩ ?_ ?_ (fun q hq => mm_up_n _ _ hq)
  · refine lv_ind ?_ ?_ ?_ ?_ ?_ ?_ ?_ ?_ ?_ ?_ ?_ ?_ ?_ ?_ ?_ ?_ ?_ ?_ ?_ ?_ ?_
    · intro _; exact (cE_0 G L _ _ _ _ _).trans (cE_0 G L S cs ar J _).symm
    · intro _; exact (cE_1 G L _ _ _ _ _).trans (cE_1 G L S cs ar J _).symm
    · intro _; exact (cE_2 G L _ _ _ _ _).trans (cE_2 G L S cs ar J _).symm
    · intro _; exact (cE_3 G L _ _ _ _ _).trans (cE_3 G L S cs ar J _).symm
    · intro _; exact (cE_4 G L _ _ _ _ _).trans (cE_4 G L S cs ar J _).symm
    · intro _; exact (cE_5 G L _ _ _ _ _).trans (cE_5 G L S cs ar J _).symm
    · intro _; exact (cE_6 G L _ _ _ _ _).trans (cE_6 G L S cs ar J _).symm
    · intro _; exact (cE_7 G L _ _ _ _ _).trans (cE_7 G L S cs ar J _).symm
    · intro _; exact (cE_8 G L _ _ _ _ _).trans (cE_8 G L S cs ar J _).symm
    · intro i1 _ _; exact (cE_10 G L _ _ _ _ _).trans (cE_10 G L S cs ar J _).symm
    · intro i1 hi1 hn; have hne : i1 ≠ i := fun z => hn ⟨rfl, z⟩; show aI G 9 (tr 9 (fun q => upd (S 1) (9 * i + j) x (9 * i1 + q))) = aI G 9 (tr 9 (fun q => S 1 (9 * i1 + q))); rw [tr_ne (S 1) (fun q hq => by omega)]
    · intro i1 _ _; exact (cE_12 G L _ _ _ _ _).trans (cE_12 G L S cs ar J _).symm
    · intro i1 _ _; exact (cE_20 G L _ _ _ _ _).trans (cE_20 G L S cs ar J _).symm
    · intro i1 _ _; exact (cE_30 G L _ _ _ _ _).trans (cE_30 G L S cs ar J _).symm
    · intro i1 _ _; exact (cE_31 G L _ _ _ _ _).trans (cE_31 G L S cs ar J _).symm
    · intro i1 _ _; exact (cE_32 G L _ _ _ _ _).trans (cE_32 G L S cs ar J _).symm
    · intro i1 _ _; exact (cE_33 G L _ _ _ _ _).trans (cE_33 G L S cs ar J _).symm
    · intro i1 _ _; exact (cE_34 G L _ _ _ _ _).trans (cE_34 G L S cs ar J _).symm
    · intro i1 _ _; exact (cE_35 G L _ _ _ _ _).trans (cE_35 G L S cs ar J _).symm
    · intro i1 _ _; exact (cE_36 G L _ _ _ _ _).trans (cE_36 G L S cs ar J _).symm
    · intro i1 _ _; exact (cE_40 G L _ _ _ _ _).trans (cE_40 G L S cs ar J _).symm
  · rw [mm_up_s]; rw [tr_up (S 1) hj]; rfl
set_option maxHeartbeats 1000000 in
theorem EV.w_me (h : EV G L S cs ar J M) {i : Nat} (hi : i < cl (S 0 0)) {j : Nat} (hj : j < 8) (x : Int32) {M' : mM} (eM : M' = mm_up M (L 12 i) (aI G 8 (upd (tr 8 (fun j => S 2 (8 * i + j))) j x))) : EV G L (va_up S 2 (upd (S 2) (8 * i + j) x)) (cs) (ar) (J) M' := by
  subst eM
  refine h.one (k0 := 12) (i0 := i) (lv_e S (by decide) hi) ⟨rfl, rfl, rfl, rfl⟩ ?_ ?_ (fun q hq => mm_up_n _ _ hq)
  · refine lv_ind ?_ ?_ ?_ ?_ ?_ ?_ ?_ ?_ ?_ ?_ ?_ ?_ ?_ ?_ ?_ ?_ ?_ ?_ ?_ ?_ ?_
    · intro _; exact (cE_0 G L _ _ _ _ _).trans (cE_0 G L S cs ar J _).symm
    · intro _; exact (cE_1 G L _ _ _ _ _).trans (cE_1 G L S cs ar J _).symm
    · intro _; exact (cE_2 G L _ _ _ _ _).trans (cE_2 G L S cs ar J _).symm
    · intro _; exact (cE_3 G L _ _ _ _ _).trans (cE_3 G L S cs ar J _).symm
    · intro _; exact (cE_4 G L _ _ _ _ _).trans (cE_4 G L S cs ar J _).symm
    · intro _; exact (cE_5 G L _ _ _ _ _).trans (cE_5 G L S cs ar J _).symm
    · intro _; exact (cE_6 G L _ _ _ _ _).trans (cE_6 G L S cs ar J _).symm
    · intro _; exact (cE_7 G L _ _ _ _ _).trans (cE_7 G L S cs ar J _).symm
    · intro _; exact (cE_8 G L _ _ _ _ _).trans (cE_8 G L S cs ar J _).symm
    · intro i1 _ _; exact (cE_10 G L _ _ _ _ _).trans (cE_10 G L S cs ar J _).symm
    · intro i1 _ _; exact (cE_11 G L _ _ _ _ _).trans (cE_11 G L S cs ar J _).symm
    · intro i1 hi1 hn; have hne : i1 ≠ i := fun z => hn ⟨rfl, z⟩; show aI G 8 (tr 8 (fun q => upd (S 2) (8 * i + j) x (8 * i1 + q))) = aI G 8 (tr 8 (fun q => S 2 (8 * i1 + q))); rw [tr_ne (S 2) (fun q hq => by omega)]
    · intro i1 _ _; exact (cE_20 G L _ _ _ _ _).trans (cE_20 G L S cs ar J _).symm
    · intro i1 _ _; exact (cE_30 G L _ _ _ _ _).trans (cE_30 G L S cs ar J _).symm
    · intro i1 _ _; exact (cE_31 G L _ _ _ _ _).trans (cE_31 G L S cs ar J _).symm
    · intro i1 _ _; exact (cE_32 G L _ _ _ _ _).trans (cE_32 G L S cs ar J _).symm
    · intro i1 _ _; exact (cE_33 G L _ _ _ _ _).trans (cE_33 G L S cs ar J _).symm
    · intro i1 _ _; exact (cE_34 G L _ _ _ _ _).trans (cE_34 G L S cs ar J _).symm
    · intro i1 _ _; exact (cE_35 G L _ _ _ _ _).trans (cE_35 G L S cs ar J _).symm
    · intro i1 _ _; exact (cE_36 G L _ _ _ _ _).trans (cE_36 G L S cs ar J _).symm
    · intro i1 _ _; exact (cE_40 G L _ _ _ _ _).trans (cE_40 G L S cs ar J _).symm
  · rw [mm_up_s]; rw [tr_up (S 2) hj]; rfl
set_option maxHeartbeats 1000000 in
theorem EV.w_bd (h : EV G L S cs ar J M) {i : Nat} (hi : i < cl (S 7 0)) (x : Int32) {M' : mM} (eM : M' = mm_up M (L 20 i) (oNo (S 8 i) x (J.1 i) (S 10 i))) : EV G L (va_up S 9 (upd (S 9) i x)) (cs) (ar) (J) M' := by
  subst eM
  refine h.one (k0 := 20) (i0 := i) (lv_n S hi) ⟨rfl, rfl, rfl, rfl⟩ ?_ ?_ (fun q hq => mm_up_n _ _ hq)
  · refine lv_ind ?_ ?_ ?_ ?_ ?_ ?_ ?_ ?_ ?_ ?_ ?_ ?_ ?_ ?_ ?_ ?_ ?_ ?_ ?_ ?_ ?_
    · intro _; exact (cE_0 G L _ _ _ _ _).trans (cE_0 G L S cs ar J _).symm
    · intro _; exact (cE_1 G L _ _ _ _ _).trans (cE_1 G L S cs ar J _).symm
    · intro _; exact (cE_2 G L _ _ _ _ _).trans (cE_2 G L S cs ar J _).symm
    · intro _; exact (cE_3 G L _ _ _ _ _).trans (cE_3 G L S cs ar J _).symm
    · intro _; exact (cE_4 G L _ _ _ _ _).trans (cE_4 G L S cs ar J _).symm
    · intro _; exact (cE_5 G L _ _ _ _ _).trans (cE_5 G L S cs ar J _).symm
    · intro _; exact (cE_6 G L _ _ _ _ _).trans (cE_6 G L S cs ar J _).symm
    · intro _; exact (cE_7 G L _ _ _ _ _).trans (cE_7 G L S cs ar J _).symm
    · intro _; exact (cE_8 G L _ _ _ _ _).trans (cE_8 G L S cs ar J _).symm
    · intro i1 _ _; exact (cE_10 G L _ _ _ _ _).trans (cE_10 G L S cs ar J _).symm
    · intro i1 _ _; exact (cE_11 G L _ _ _ _ _).trans (cE_11 G L S cs ar J _).symm
    · intro i1 _ _; exact (cE_12 G L _ _ _ _ _).trans (cE_12 G L S cs ar J _).symm
    · intro i1 hi1 hn; have hne : i1 ≠ i := fun z => hn ⟨rfl, z⟩; show oNo (S 8 i1) (upd (S 9) i x i1) (J.1 i1) (S 10 i1) = _; rw [pk_un hne]; rfl
    · intro i1 _ _; exact (cE_30 G L _ _ _ _ _).trans (cE_30 G L S cs ar J _).symm
    · intro i1 _ _; exact (cE_31 G L _ _ _ _ _).trans (cE_31 G L S cs ar J _).symm
    · intro i1 _ _; exact (cE_32 G L _ _ _ _ _).trans (cE_32 G L S cs ar J _).symm
    · intro i1 _ _; exact (cE_33 G L _ _ _ _ _).trans (cE_33 G L S cs ar J _).symm
    · intro i1 _ _; exact (cE_34 G L _ _ _ _ _).trans (cE_34 G L S cs ar J _).symm
    · intro i1 _ _; exact (cE_35 G L _ _ _ _ _).trans (cE_35 G L S cs ar J _).symm
    · intro i1 _ _; exact (cE_36 G L _ _ _ _ _).trans (cE_36 G L S cs ar J _).symm
    · intro i1 _ _; exact (cE_40 G L _ _ _ _ _).trans (cE_40 G L S cs ar J _).symm
  · rw [mm_up_s]; show _ = some (oNo (S 8 i) (upd (S 9) i x i) (J.1 i) (S 10 i)); rw [pk_us]
set_option maxHeartbeats 1000000 in
theorem EV.w_ha (h : EV G L S cs ar J M) {i : Nat} (hi : i < cl (S 7 0)) (x : Int32) {M' : mM} (eM : M' = mm_up M (L 20 i) (oNo (S 8 i) (S 9 i) (J.1 i) x)) : EV G L (va_up S 10 (upd (S 10) i x)) (cs) (ar) (J) M' := by
  subst eM
  refine h.one (k0 := 20) (i0 := i) (lv_n S hi) ⟨rfl, rfl, rfl, rfl⟩ ?_ ?_ (fun q hq => mm_up_n _ _ hq)
  · refine lv_ind ?_ ?_ ?_ ?_ ?_ ?_ ?_ ?_ ?_ ?_ ?_ ?_ ?_ ?_ ?_ ?_ ?_ ?_ ?_ ?_ ?_
    · intro _; exact (cE_0 G L _ _ _ _ _).trans (cE_0 G L S cs ar J _).symm
    · intro _; exact (cE_1 G L _ _ _ _ _).trans (cE_1 G L S cs ar J _).symm
    · intro _; exact (cE_2 G L _ _ _ _ _).trans (cE_2 G L S cs ar J _).symm
    · intro _; exact (cE_3 G L _ _ _ _ _).trans (cE_3 G L S cs ar J _).symm
    · intro _; exact (cE_4 G L _ _ _ _ _).trans (cE_4 G L S cs ar J _).symm
    · intro _; exact (cE_5 G L _ _ _ _ _).trans (cE_5 G L S cs ar J _).symm
    · intro _; exact (cE_6 G L _ _ _ _ _).trans (cE_6 G L S cs ar J _).symm
    · intro _; exact (cE_7 G L _ _ _ _ _).trans (cE_7 G L S cs ar J _).symm
    · intro _; exact (cE_8 G L _ _ _ _ _).trans (cE_8 G L S cs ar J _).symm
    · intro i1 _ _; exact (cE_10 G L _ _ _ _ _).trans (cE_10 G L S cs ar J _).symm
    · intro i1 _ _; exact (cE_11 G L _ _ _ _ _).trans (cE_11 G L S cs ar J _).symm
    · intro i1 _ _; exact (cE_12 G L _ _ _ _ _).trans (cE_12 G L S cs ar J _).symm
    · intro i1 hi1 hn; have hne : i1 ≠ i := fun z => hn ⟨rfl, z⟩; show oNo (S 8 i1) (S 9 i1) (J.1 i1) (upd (S 10) i x i1) = _; rw [pk_un hne]; rfl
    · intro i1 _ _; exact (cE_30 G L _ _ _ _ _).trans (cE_30 G L S cs ar J _).symm
    · intro i1 _ _; exact (cE_31 G L _ _ _ _ _).trans (cE_31 G L S cs ar J _).symm
    · intro i1 _ _; exact (cE_32 G L _ _ _ _ _).trans (cE_32 G L S cs ar J _).symm
    · intro i1 _ _; exact (cE_33 G L _ _ _ _ _).trans (cE_33 G L S cs ar J _).symm
    · intro i1 _ _; exact (cE_34 G L _ _ _ _ _).trans (cE_34 G L S cs ar J _).symm
    · intro i1 _ _; exact (cE_35 G L _ _ _ _ _).trans (cE_35 G L S cs ar J _).symm
    · intro i1 _ _; exact (cE_36 G L _ _ _ _ _).trans (cE_36 G L S cs ar J _).symm
    · intro i1 _ _; exact (cE_40 G L _ _ _ _ _).trans (cE_40 G L S cs ar J _).symm
  · rw [mm_up_s]; show _ = some (oNo (S 8 i) (S 9 i) (J.1 i) (upd (S 10) i x i)); rw [pk_us]
set_option maxHeartbeats 1000000 in
theorem EV.w_vt (h : EV G L S cs ar J M) {i : Nat} (hi : i < cl (S 7 0)) (x : Int32) {M' : mM} (eM : M' = mm_up M (L 20 i) (oNo (S 8 i) (S 9 i) x (S 10 i))) : EV G L (S) (cs) (ar) ((upd J.1 i x, J.2)) M' := by
  subst eM
  refine h.one (k0 := 20) (i0 := i) (lv_n S hi) ⟨rfl, rfl, rfl, rfl⟩ ?_ ?_ (fun q hq => mm_up_n _ _ hq)
  · refine lv_ind ?_ ?_ ?_ ?_ ?_ ?_ ?_ ?_ ?_ ?_ ?_ ?_ ?_ ?_ ?_ ?_ ?_ ?_ ?_ ?_ ?_
    · intro _; exact (cE_0 G L _ _ _ _ _).trans (cE_0 G L S cs ar J _).symm
    · intro _; exact (cE_1 G L _ _ _ _ _).trans (cE_1 G L S cs ar J _).symm
    · intro _; exact (cE_2 G L _ _ _ _ _).trans (cE_2 G L S cs ar J _).symm
    · intro _; exact (cE_3 G L _ _ _ _ _).trans (cE_3 G L S cs ar J _).symm
    · intro _; exact (cE_4 G L _ _ _ _ _).trans (cE_4 G L S cs ar J _).symm
    · intro _; exact (cE_5 G L _ _ _ _ _).trans (cE_5 G L S cs ar J _).symm
    · intro _; exact (cE_6 G L _ _ _ _ _).trans (cE_6 G L S cs ar J _).symm
    · intro _; exact (cE_7 G L _ _ _ _ _).trans (cE_7 G L S cs ar J _).symm
    · intro _; exact (cE_8 G L _ _ _ _ _).trans (cE_8 G L S cs ar J _).symm
    · intro i1 _ _; exact (cE_10 G L _ _ _ _ _).trans (cE_10 G L S cs ar J _).symm
    · intro i1 _ _; exact (cE_11 G L _ _ _ _ _).trans (cE_11 G L S cs ar J _).symm
    · intro i1 _ _; exact (cE_12 G L _ _ _ _ _).trans (cE_12 G L S cs ar J _).symm
    · intro i1 hi1 hn; have hne : i1 ≠ i := fun z => hn ⟨rfl, z⟩; show oNo (S 8 i1) (S 9 i1) (upd J.1 i x i1) (S 10 i1) = _; rw [pk_un hne]; rfl
    · intro i1 _ _; exact (cE_30 G L _ _ _ _ _).trans (cE_30 G L S cs ar J _).symm
    · intro i1 _ _; exact (cE_31 G L _ _ _ _ _).trans (cE_31 G L S cs ar J _).symm
    · intro i1 _ _; exact (cE_32 G L _ _ _ _ _).trans (cE_32 G L S cs ar J _).symm
    · intro i1 _ _; exact (cE_33 G L _ _ _ _ _).trans (cE_33 G L S cs ar J _).symm
    · intro i1 _ _; exact (cE_34 G L _ _ _ _ _).trans (cE_34 G L S cs ar J _).symm
    · intro i1 _ _; exact (cE_35 G L _ _ _ _ _).trans (cE_35 G L S cs ar J _).symm
    · intro i1 _ _; exact (cE_36 G L _ _ _ _ _).trans (cE_36 G L S cs ar J _).symm
    · intro i1 _ _; exact (cE_40 G L _ _ _ _ _).trans (cE_40 G L S cs ar J _).symm
  · rw [mm_up_s]; show _ = some (oNo (S 8 i) (S 9 i) (upd J.1 i x i) (S 10 i)); rw [pk_us]
set_option maxHeartbeats 1000000 in
theorem EV.w_kp (h : EV G L S cs ar J M) {i : Nat} (hi : i < cl (S 12 0)) {e0 : Nat} (x : Int32) (hx : ¬ x = -1) (hc : cl x = e0) {M' : mM} (eM : M' = mm_up M (L 30 i) (oCo (L 31 i) (L 32 i) (L 33 i) (L 35 i) (S 14 i) (some (L 10 e0)))) : EV G L (va_up S 13 (upd (S 13) i x)) (cs) (ar) (J) M' := by
  subst eM
  refine h.one (k0 := 30) (i0 := i) (lv_c S (by decide) hi) ⟨rfl, rfl, rfl, rfl⟩ ?_ ?_ (fun q hq => mm_up_n _ _ hq)
  · refine lv_ind ?_ ?_ ?_ ?_ ?_ ?_ ?_ ?_ ?_ ?_ ?_ ?_ ?_ ?_ ?_ ?_ ?_ ?_ ?_ ?_ ?_
    · intro _; exact (cE_0 G L _ _ _ _ _).trans (cE_0 G L S cs ar J _).symm
    · intro _; exact (cE_1 G L _ _ _ _ _).trans (cE_1 G L S cs ar J _).symm
    · intro _; exact (cE_2 G L _ _ _ _ _).trans (cE_2 G L S cs ar J _).symm
    · intro _; exact (cE_3 G L _ _ _ _ _).trans (cE_3 G L S cs ar J _).symm
    · intro _; exact (cE_4 G L _ _ _ _ _).trans (cE_4 G L S cs ar J _).symm
    · intro _; exact (cE_5 G L _ _ _ _ _).trans (cE_5 G L S cs ar J _).symm
    · intro _; exact (cE_6 G L _ _ _ _ _).trans (cE_6 G L S cs ar J _).symm
    · intro _; exact (cE_7 G L _ _ _ _ _).trans (cE_7 G L S cs ar J _).symm
    · intro _; exact (cE_8 G L _ _ _ _ _).trans (cE_8 G L S cs ar J _).symm
    · intro i1 _ _; exact (cE_10 G L _ _ _ _ _).trans (cE_10 G L S cs ar J _).symm
    · intro i1 _ _; exact (cE_11 G L _ _ _ _ _).trans (cE_11 G L S cs ar J _).symm
    · intro i1 _ _; exact (cE_12 G L _ _ _ _ _).trans (cE_12 G L S cs ar J _).symm
    · intro i1 _ _; exact (cE_20 G L _ _ _ _ _).trans (cE_20 G L S cs ar J _).symm
    · intro i1 hi1 hn; have hne : i1 ≠ i := fun z => hn ⟨rfl, z⟩; rw [cE_30, cE_30, va_up_self, va_up_ne S _ (show (14 : Nat) ≠ 13 by decide), pk_un hne]
    · intro i1 _ _; exact (cE_31 G L _ _ _ _ _).trans (cE_31 G L S cs ar J _).symm
    · intro i1 _ _; exact (cE_32 G L _ _ _ _ _).trans (cE_32 G L S cs ar J _).symm
    · intro i1 _ _; exact (cE_33 G L _ _ _ _ _).trans (cE_33 G L S cs ar J _).symm
    · intro i1 _ _; exact (cE_34 G L _ _ _ _ _).trans (cE_34 G L S cs ar J _).symm
    · intro i1 _ _; exact (cE_35 G L _ _ _ _ _).trans (cE_35 G L S cs ar J _).symm
    · intro i1 _ _; exact (cE_36 G L _ _ _ _ _).trans (cE_36 G L S cs ar J _).symm
    · intro i1 _ _; exact (cE_40 G L _ _ _ _ _).trans (cE_40 G L S cs ar J _).symm
  · rw [mm_up_s]; rw [cE_30, va_up_self, va_up_ne S _ (show (14 : Nat) ≠ 13 by decide), pk_us, kpt_s L hx, hc]
set_option maxHeartbeats 1000000 in
theorem EV.w_sz (h : EV G L S cs ar J M) {i : Nat} (hi : i < cl (S 12 0)) (x : Int32) {M' : mM} (eM : M' = mm_up M (L 30 i) (oCo (L 31 i) (L 32 i) (L 33 i) (L 35 i) x (kpt L (S 13 i)))) : EV G L (va_up S 14 (upd (S 14) i x)) (cs) (ar) (J) M' := by
  subst eM
  refine h.one (k0 := 30) (i0 := i) (lv_c S (by decide) hi) ⟨rfl, rfl, rfl, rfl⟩ ?_ ?_ (fun q hq => mm_up_n _ _ hq)
  · refine lv_ind ?_ ?_ ?_ ?_ ?_ ?_ ?_ ?_ ?_ ?_ ?_ ?_ ?_ ?_ ?_ ?_ ?_ ?_ ?_ ?_ ?_
    · intro _; exact (cE_0 G L _ _ _ _ _).trans (cE_0 G L S cs ar J _).symm
    · intro _; exact (cE_1 G L _ _ _ _ _).trans (cE_1 G L S cs ar J _).symm
    · intro _; exact (cE_2 G L _ _ _ _ _).trans (cE_2 G L S cs ar J _).symm
    · intro _; exact (cE_3 G L _ _ _ _ _).trans (cE_3 G L S cs ar J _).symm
    · intro _; exact (cE_4 G L _ _ _ _ _).trans (cE_4 G L S cs ar J _).symm
    · intro _; exact (cE_5 G L _ _ _ _ _).trans (cE_5 G L S cs ar J _).symm
    · intro _; exact (cE_6 G L _ _ _ _ _).trans (cE_6 G L S cs ar J _).symm
    · intro _; exact (cE_7 G L _ _ _ _ _).trans (cE_7 G L S cs ar J _).symm
    · intro _; exact (cE_8 G L _ _ _ _ _).trans (cE_8 G L S cs ar J _).symm
    · intro i1 _ _; exact (cE_10 G L _ _ _ _ _).trans (cE_10 G L S cs ar J _).symm
    · intro i1 _ _; exact (cE_11 G L _ _ _ _ _).trans (cE_11 G L S cs ar J _).symm
    · intro i1 _ _; exact (cE_12 G L _ _ _ _ _).trans (cE_12 G L S cs ar J _).symm
    · intro i1 _ _; exact (cE_20 G L _ _ _ _ _).trans (cE_20 G L S cs ar J _).symm
    · intro i1 hi1 hn; have hne : i1 ≠ i := fun z => hn ⟨rfl, z⟩; show oCo (L 31 i1) (L 32 i1) (L 33 i1) (L 35 i1) (upd (S 14) i x i1) (kpt L (S 13 i1)) = _; rw [pk_un hne]; rfl
    · intro i1 _ _; exact (cE_31 G L _ _ _ _ _).trans (cE_31 G L S cs ar J _).symm
    · intro i1 _ _; exact (cE_32 G L _ _ _ _ _).trans (cE_32 G L S cs ar J _).symm
    · intro i1 _ _; exact (cE_33 G L _ _ _ _ _).trans (cE_33 G L S cs ar J _).symm
    · intro i1 _ _; exact (cE_34 G L _ _ _ _ _).trans (cE_34 G L S cs ar J _).symm
    · intro i1 _ _; exact (cE_35 G L _ _ _ _ _).trans (cE_35 G L S cs ar J _).symm
    · intro i1 _ _; exact (cE_36 G L _ _ _ _ _).trans (cE_36 G L S cs ar J _).symm
    · intro i1 _ _; exact (cE_40 G L _ _ _ _ _).trans (cE_40 G L S cs ar J _).symm
  · rw [mm_up_s]; show _ = some (oCo (L 31 i) (L 32 i) (L 33 i) (L 35 i) (upd (S 14) i x i) (kpt L (S 13 i))); rw [pk_us]
set_option maxHeartbeats 1000000 in
theorem EV.w_ac (h : EV G L S cs ar J M) {i : Nat} (hi : i < cl (S 12 0)) {j : Nat} (hj : j < 24) (x : Int32) {M' : mM} (eM : M' = mm_up M (L 31 i) (aI G 24 (upd (tr 24 (fun j => S 15 (24 * i + j))) j x))) : EV G L (va_up S 15 (upd (S 15) (24 * i + j) x)) (cs) (ar) (J) M' := by
  subst eM
  refine h.one (k0 := 31) (i0 := i) (lv_c S (by decide) hi) ⟨rfl, rfl, rfl, rfl⟩ ?_ ?_ (fun q hq => mm_up_n _ _ hq)
  · refine lv_ind ?_ ?_ ?_ ?_ ?_ ?_ ?_ ?_ ?_ ?_ ?_ ?_ ?_ ?_ ?_ ?_ ?_ ?_ ?_ ?_ ?_
    · intro _; exact (cE_0 G L _ _ _ _ _).trans (cE_0 G L S cs ar J _).symm
    · intro _; exact (cE_1 G L _ _ _ _ _).trans (cE_1 G L S cs ar J _).symm
    · intro _; exact (cE_2 G L _ _ _ _ _).trans (cE_2 G L S cs ar J _).symm
    · intro _; exact (cE_3 G L _ _ _ _ _).trans (cE_3 G L S cs ar J _).symm
    · intro _; exact (cE_4 G L _ _ _ _ _).trans (cE_4 G L S cs ar J _).symm
    · intro _; exact (cE_5 G L _ _ _ _ _).trans (cE_5 G L S cs ar J _).symm
    · intro _; exact (cE_6 G L _ _ _ _ _).trans (cE_6 G L S cs ar J _).symm
    · intro _; exact (cE_7 G L _ _ _ _ _).trans (cE_7 G L S cs ar J _).symm
    · intro _; exact (cE_8 G L _ _ _ _ _).trans (cE_8 G L S cs ar J _).symm
    · intro i1 _ _; exact (cE_10 G L _ _ _ _ _).trans (cE_10 G L S cs ar J _).symm
    · intro i1 _ _; exact (cE_11 G L _ _ _ _ _).trans (cE_11 G L S cs ar J _).symm
    · intro i1 _ _; exact (cE_12 G L _ _ _ _ _).trans (cE_12 G L S cs ar J _).symm
    · intro i1 _ _; exact (cE_20 G L _ _ _ _ _).trans (cE_20 G L S cs ar J _).symm
    · intro i1 _ _; exact (cE_30 G L _ _ _ _ _).trans (cE_30 G L S cs ar J _).symm
    · intro i1 hi1 hn; have hne : i1 ≠ i := fun z => hn ⟨rfl, z⟩; show aI G 24 (tr 24 (fun q => upd (S 15) (24 * i + j) x (24 * i1 + q))) = aI G 24 (tr 24 (fun q => S 15 (24 * i1 + q))); rw [tr_ne (S 15) (fun q hq => by omega)]
    · intro i1 _ _; exact (cE_32 G L _ _ _ _ _).trans (cE_32 G L S cs ar J _).symm
    · intro i1 _ _; exact (cE_33 G L _ _ _ _ _).trans (cE_33 G L S cs ar J _).symm
    · intro i1 _ _; exact (cE_34 G L _ _ _ _ _).trans (cE_34 G L S cs ar J _).symm
    · intro i1 _ _; exact (cE_35 G L _ _ _ _ _).trans (cE_35 G L S cs ar J _).symm
    · intro i1 _ _; exact (cE_36 G L _ _ _ _ _).trans (cE_36 G L S cs ar J _).symm
    · intro i1 _ _; exact (cE_40 G L _ _ _ _ _).trans (cE_40 G L S cs ar J _).symm
  · rw [mm_up_s]; rw [tr_up (S 15) hj]; rfl
set_option maxHeartbeats 1000000 in
theorem EV.w_nu (h : EV G L S cs ar J M) {i : Nat} (hi : i < cl (S 12 0)) {j : Nat} (hj : j < 24) (x : Int32) {M' : mM} (eM : M' = mm_up M (L 32 i) (aI G 24 (upd (tr 24 (fun j => S 16 (24 * i + j))) j x))) : EV G L (va_up S 16 (upd (S 16) (24 * i + j) x)) (cs) (ar) (J) M' := by
  subst eM
  refine h.one (k0 := 32) (i0 := i) (lv_c S (by decide) hi) ⟨rfl, rfl, rfl, rfl⟩ ?_ ?_ (fun q hq => mm_up_n _ _ hq)
  · refine lv_ind ?_ ?_ ?_ ?_ ?_ ?_ ?_ ?_ ?_ ?_ ?_ ?_ ?_ ?_ ?_ ?_ ?_ ?_ ?_ ?_ ?_
    · intro _; exact (cE_0 G L _ _ _ _ _).trans (cE_0 G L S cs ar J _).symm
    · intro _; exact (cE_1 G L _ _ _ _ _).trans (cE_1 G L S cs ar J _).symm
    · intro _; exact (cE_2 G L _ _ _ _ _).trans (cE_2 G L S cs ar J _).symm
    · intro _; exact (cE_3 G L _ _ _ _ _).trans (cE_3 G L S cs ar J _).symm
    · intro _; exact (cE_4 G L _ _ _ _ _).trans (cE_4 G L S cs ar J _).symm
    · intro _; exact (cE_5 G L _ _ _ _ _).trans (cE_5 G L S cs ar J _).symm
    · intro _; exact (cE_6 G L _ _ _ _ _).trans (cE_6 G L S cs ar J _).symm
    · intro _; exact (cE_7 G L _ _ _ _ _).trans (cE_7 G L S cs ar J _).symm
    · intro _; exact (cE_8 G L _ _ _ _ _).trans (cE_8 G L S cs ar J _).symm
    · intro i1 _ _; exact (cE_10 G L _ _ _ _ _).trans (cE_10 G L S cs ar J _).symm
    · intro i1 _ _; exact (cE_11 G L _ _ _ _ _).trans (cE_11 G L S cs ar J _).symm
    · intro i1 _ _; exact (cE_12 G L _ _ _ _ _).trans (cE_12 G L S cs ar J _).symm
    · intro i1 _ _; exact (cE_20 G L _ _ _ _ _).trans (cE_20 G L S cs ar J _).symm
    · intro i1 _ _; exact (cE_30 G L _ _ _ _ _).trans (cE_30 G L S cs ar J _).symm
    · intro i1 _ _; exact (cE_31 G L _ _ _ _ _).trans (cE_31 G L S cs ar J _).symm
    · intro i1 hi1 hn; have hne : i1 ≠ i := fun z => hn ⟨rfl, z⟩; show aI G 24 (tr 24 (fun q => upd (S 16) (24 * i + j) x (24 * i1 + q))) = aI G 24 (tr 24 (fun q => S 16 (24 * i1 + q))); rw [tr_ne (S 16) (fun q hq => by omega)]
    · intro i1 _ _; exact (cE_33 G L _ _ _ _ _).trans (cE_33 G L S cs ar J _).symm
    · intro i1 _ _; exact (cE_34 G L _ _ _ _ _).trans (cE_34 G L S cs ar J _).symm
    · intro i1 _ _; exact (cE_35 G L _ _ _ _ _).trans (cE_35 G L S cs ar J _).symm
    · intro i1 _ _; exact (cE_36 G L _ _ _ _ _).trans (cE_36 G L S cs ar J _).symm
    · intro i1 _ _; exact (cE_40 G L _ _ _ _ _).trans (cE_40 G L S cs ar J _).symm
  · rw [mm_up_s]; rw [tr_up (S 16) hj]; rfl
set_option maxHeartbeats 1000000 in
theorem EV.w_ht (h : EV G L S cs ar J M) (x : Int32) {M' : mM} (eM : M' = mm_up M (L 0 0) (.inr (6, [.ref (L 1 0), .ref (L 2 0), .ref (L 3 0), .ref (L 4 0), .ref (L 10 0), .ref (L 5 0), .int (S 0 0), .int (S 7 0), .int (S 12 0), .int (S 18 0), .int x, .int (S 24 0)]))) : EV G L (va_up S 5 (fun _ => x)) (cs) (ar) (J) M' := by
  subst eM
  refine h.one (k0 := 0) (i0 := 0) (lv_0 S 0 (by decide)) ⟨rfl, rfl, rfl, rfl⟩ ?_ ?_ (fun q hq => mm_up_n _ _ hq)
  · refine lv_ind ?_ ?_ ?_ ?_ ?_ ?_ ?_ ?_ ?_ ?_ ?_ ?_ ?_ ?_ ?_ ?_ ?_ ?_ ?_ ?_ ?_
    · intro hn; exact absurd ⟨rfl, rfl⟩ hn
    · intro _; exact (cE_1 G L _ _ _ _ _).trans (cE_1 G L S cs ar J _).symm
    · intro _; exact (cE_2 G L _ _ _ _ _).trans (cE_2 G L S cs ar J _).symm
    · intro _; exact (cE_3 G L _ _ _ _ _).trans (cE_3 G L S cs ar J _).symm
    · intro _; exact (cE_4 G L _ _ _ _ _).trans (cE_4 G L S cs ar J _).symm
    · intro _; exact (cE_5 G L _ _ _ _ _).trans (cE_5 G L S cs ar J _).symm
    · intro _; exact (cE_6 G L _ _ _ _ _).trans (cE_6 G L S cs ar J _).symm
    · intro _; exact (cE_7 G L _ _ _ _ _).trans (cE_7 G L S cs ar J _).symm
    · intro _; exact (cE_8 G L _ _ _ _ _).trans (cE_8 G L S cs ar J _).symm
    · intro i1 _ _; exact (cE_10 G L _ _ _ _ _).trans (cE_10 G L S cs ar J _).symm
    · intro i1 _ _; exact (cE_11 G L _ _ _ _ _).trans (cE_11 G L S cs ar J _).symm
    · intro i1 _ _; exact (cE_12 G L _ _ _ _ _).trans (cE_12 G L S cs ar J _).symm
    · intro i1 _ _; exact (cE_20 G L _ _ _ _ _).trans (cE_20 G L S cs ar J _).symm
    · intro i1 _ _; exact (cE_30 G L _ _ _ _ _).trans (cE_30 G L S cs ar J _).symm
    · intro i1 _ _; exact (cE_31 G L _ _ _ _ _).trans (cE_31 G L S cs ar J _).symm
    · intro i1 _ _; exact (cE_32 G L _ _ _ _ _).trans (cE_32 G L S cs ar J _).symm
    · intro i1 _ _; exact (cE_33 G L _ _ _ _ _).trans (cE_33 G L S cs ar J _).symm
    · intro i1 _ _; exact (cE_34 G L _ _ _ _ _).trans (cE_34 G L S cs ar J _).symm
    · intro i1 _ _; exact (cE_35 G L _ _ _ _ _).trans (cE_35 G L S cs ar J _).symm
    · intro i1 _ _; exact (cE_36 G L _ _ _ _ _).trans (cE_36 G L S cs ar J _).symm
    · intro i1 _ _; exact (cE_40 G L _ _ _ _ _).trans (cE_40 G L S cs ar J _).symm
  · rw [mm_up_s]; rfl
set_option maxHeartbeats 1000000 in
theorem EV.w_dg (h : EV G L S cs ar J M) (x : Int32) {M' : mM} (eM : M' = mm_up M (L 0 0) (.inr (6, [.ref (L 1 0), .ref (L 2 0), .ref (L 3 0), .ref (L 4 0), .ref (L 10 0), .ref (L 5 0), .int (S 0 0), .int (S 7 0), .int (S 12 0), .int (S 18 0), .int (S 5 0), .int x]))) : EV G L (va_up S 24 (fun _ => x)) (cs) (ar) (J) M' := by
  subst eM
  refine h.one (k0 := 0) (i0 := 0) (lv_0 S 0 (by decide)) ⟨rfl, rfl, rfl, rfl⟩ ?_ ?_ (fun q hq => mm_up_n _ _ hq)
  · refine lv_ind ?_ ?_ ?_ ?_ ?_ ?_ ?_ ?_ ?_ ?_ ?_ ?_ ?_ ?_ ?_ ?_ ?_ ?_ ?_ ?_ ?_
    · intro hn; exact absurd ⟨rfl, rfl⟩ hn
    · intro _; exact (cE_1 G L _ _ _ _ _).trans (cE_1 G L S cs ar J _).symm
    · intro _; exact (cE_2 G L _ _ _ _ _).trans (cE_2 G L S cs ar J _).symm
    · intro _; exact (cE_3 G L _ _ _ _ _).trans (cE_3 G L S cs ar J _).symm
    · intro _; exact (cE_4 G L _ _ _ _ _).trans (cE_4 G L S cs ar J _).symm
    · intro _; exact (cE_5 G L _ _ _ _ _).trans (cE_5 G L S cs ar J _).symm
    · intro _; exact (cE_6 G L _ _ _ _ _).trans (cE_6 G L S cs ar J _).symm
    · intro _; exact (cE_7 G L _ _ _ _ _).trans (cE_7 G L S cs ar J _).symm
    · intro _; exact (cE_8 G L _ _ _ _ _).trans (cE_8 G L S cs ar J _).symm
    · intro i1 _ _; exact (cE_10 G L _ _ _ _ _).trans (cE_10 G L S cs ar J _).symm
    · intro i1 _ _; exact (cE_11 G L _ _ _ _ _).trans (cE_11 G L S cs ar J _).symm
    · intro i1 _ _; exact (cE_12 G L _ _ _ _ _).trans (cE_12 G L S cs ar J _).symm
    · intro i1 _ _; exact (cE_20 G L _ _ _ _ _).trans (cE_20 G L S cs ar J _).symm
    · intro i1 _ _; exact (cE_30 G L _ _ _ _ _).trans (cE_30 G L S cs ar J _).symm
    · intro i1 _ _; exact (cE_31 G L _ _ _ _ _).trans (cE_31 G L S cs ar J _).symm
    · intro i1 _ _; exact (cE_32 G L _ _ _ _ _).trans (cE_32 G L S cs ar J _).symm
    · intro i1 _ _; exact (cE_33 G L _ _ _ _ _).trans (cE_33 G L S cs ar J _).symm
    · intro i1 _ _; exact (cE_34 G L _ _ _ _ _).trans (cE_34 G L S cs ar J _).symm
    · intro i1 _ _; exact (cE_35 G L _ _ _ _ _).trans (cE_35 G L S cs ar J _).symm
    · intro i1 _ _; exact (cE_36 G L _ _ _ _ _).trans (cE_36 G L S cs ar J _).symm
    · intro i1 _ _; exact (cE_40 G L _ _ _ _ _).trans (cE_40 G L S cs ar J _).symm
  · rw [mm_up_s]; rfl
set_option maxHeartbeats 1000000 in
theorem EV.w_dp (h : EV G L S cs ar J M) (x : Int32) {M' : mM} (eM : M' = mm_up M (L 5 0) (oMa (L 6 0) (L 7 0) x)) : EV G L (S) (cs) (ar) ((J.1, x, J.2.2)) M' := by
  subst eM
  refine h.one (k0 := 5) (i0 := 0) (lv_0 S 5 (by decide)) ⟨rfl, rfl, rfl, rfl⟩ ?_ ?_ (fun q hq => mm_up_n _ _ hq)
  · refine lv_ind ?_ ?_ ?_ ?_ ?_ ?_ ?_ ?_ ?_ ?_ ?_ ?_ ?_ ?_ ?_ ?_ ?_ ?_ ?_ ?_ ?_
    · intro _; exact (cE_0 G L _ _ _ _ _).trans (cE_0 G L S cs ar J _).symm
    · intro _; exact (cE_1 G L _ _ _ _ _).trans (cE_1 G L S cs ar J _).symm
    · intro _; exact (cE_2 G L _ _ _ _ _).trans (cE_2 G L S cs ar J _).symm
    · intro _; exact (cE_3 G L _ _ _ _ _).trans (cE_3 G L S cs ar J _).symm
    · intro _; exact (cE_4 G L _ _ _ _ _).trans (cE_4 G L S cs ar J _).symm
    · intro hn; exact absurd ⟨rfl, rfl⟩ hn
    · intro _; exact (cE_6 G L _ _ _ _ _).trans (cE_6 G L S cs ar J _).symm
    · intro _; exact (cE_7 G L _ _ _ _ _).trans (cE_7 G L S cs ar J _).symm
    · intro _; exact (cE_8 G L _ _ _ _ _).trans (cE_8 G L S cs ar J _).symm
    · intro i1 _ _; exact (cE_10 G L _ _ _ _ _).trans (cE_10 G L S cs ar J _).symm
    · intro i1 _ _; exact (cE_11 G L _ _ _ _ _).trans (cE_11 G L S cs ar J _).symm
    · intro i1 _ _; exact (cE_12 G L _ _ _ _ _).trans (cE_12 G L S cs ar J _).symm
    · intro i1 _ _; exact (cE_20 G L _ _ _ _ _).trans (cE_20 G L S cs ar J _).symm
    · intro i1 _ _; exact (cE_30 G L _ _ _ _ _).trans (cE_30 G L S cs ar J _).symm
    · intro i1 _ _; exact (cE_31 G L _ _ _ _ _).trans (cE_31 G L S cs ar J _).symm
    · intro i1 _ _; exact (cE_32 G L _ _ _ _ _).trans (cE_32 G L S cs ar J _).symm
    · intro i1 _ _; exact (cE_33 G L _ _ _ _ _).trans (cE_33 G L S cs ar J _).symm
    · intro i1 _ _; exact (cE_34 G L _ _ _ _ _).trans (cE_34 G L S cs ar J _).symm
    · intro i1 _ _; exact (cE_35 G L _ _ _ _ _).trans (cE_35 G L S cs ar J _).symm
    · intro i1 _ _; exact (cE_36 G L _ _ _ _ _).trans (cE_36 G L S cs ar J _).symm
    · intro i1 _ _; exact (cE_40 G L _ _ _ _ _).trans (cE_40 G L S cs ar J _).symm
  · rw [mm_up_s]; rfl
set_option maxHeartbeats 1000000 in
theorem EV.w_sk (h : EV G L S cs ar J M) (f : Nat → Int64) {M' : mM} (eM : M' = mm_up M (L 6 0) (aJ G 24 f)) : EV G L (S) (cs) (ar) ((J.1, J.2.1, f, J.2.2.2)) M' := by
  subst eM
  refine h.one (k0 := 6) (i0 := 0) (lv_0 S 6 (by decide)) ⟨rfl, rfl, rfl, rfl⟩ ?_ ?_ (fun q hq => mm_up_n _ _ hq)
  · refine lv_ind ?_ ?_ ?_ ?_ ?_ ?_ ?_ ?_ ?_ ?_ ?_ ?_ ?_ ?_ ?_ ?_ ?_ ?_ ?_ ?_ ?_
    · intro _; exact (cE_0 G L _ _ _ _ _).trans (cE_0 G L S cs ar J _).symm
    · intro _; exact (cE_1 G L _ _ _ _ _).trans (cE_1 G L S cs ar J _).symm
    · intro _; exact (cE_2 G L _ _ _ _ _).trans (cE_2 G L S cs ar J _).symm
    · intro _; exact (cE_3 G L _ _ _ _ _).trans (cE_3 G L S cs ar J _).symm
    · intro _; exact (cE_4 G L _ _ _ _ _).trans (cE_4 G L S cs ar J _).symm
    · intro _; exact (cE_5 G L _ _ _ _ _).trans (cE_5 G L S cs ar J _).symm
    · intro hn; exact absurd ⟨rfl, rfl⟩ hn
    · intro _; exact (cE_7 G L _ _ _ _ _).trans (cE_7 G L S cs ar J _).symm
    · intro _; exact (cE_8 G L _ _ _ _ _).trans (cE_8 G L S cs ar J _).symm
    · intro i1 _ _; exact (cE_10 G L _ _ _ _ _).trans (cE_10 G L S cs ar J _).symm
    · intro i1 _ _; exact (cE_11 G L _ _ _ _ _).trans (cE_11 G L S cs ar J _).symm
    · intro i1 _ _; exact (cE_12 G L _ _ _ _ _).trans (cE_12 G L S cs ar J _).symm
    · intro i1 _ _; exact (cE_20 G L _ _ _ _ _).trans (cE_20 G L S cs ar J _).symm
    · intro i1 _ _; exact (cE_30 G L _ _ _ _ _).trans (cE_30 G L S cs ar J _).symm
    · intro i1 _ _; exact (cE_31 G L _ _ _ _ _).trans (cE_31 G L S cs ar J _).symm
    · intro i1 _ _; exact (cE_32 G L _ _ _ _ _).trans (cE_32 G L S cs ar J _).symm
    · intro i1 _ _; exact (cE_33 G L _ _ _ _ _).trans (cE_33 G L S cs ar J _).symm
    · intro i1 _ _; exact (cE_34 G L _ _ _ _ _).trans (cE_34 G L S cs ar J _).symm
    · intro i1 _ _; exact (cE_35 G L _ _ _ _ _).trans (cE_35 G L S cs ar J _).symm
    · intro i1 _ _; exact (cE_36 G L _ _ _ _ _).trans (cE_36 G L S cs ar J _).symm
    · intro i1 _ _; exact (cE_40 G L _ _ _ _ _).trans (cE_40 G L S cs ar J _).symm
  · rw [mm_up_s]; rfl
set_option maxHeartbeats 1000000 in
theorem EV.w_df (h : EV G L S cs ar J M) (f : Nat → Int64) {M' : mM} (eM : M' = mm_up M (L 8 0) (aJ G 4 f)) : EV G L (S) (cs) (ar) ((J.1, J.2.1, J.2.2.1, f, J.2.2.2.2)) M' := by
  subst eM
  refine h.one (k0 := 8) (i0 := 0) (lv_0 S 8 (by decide)) ⟨rfl, rfl, rfl, rfl⟩ ?_ ?_ (fun q hq => mm_up_n _ _ hq)
  · refine lv_ind ?_ ?_ ?_ ?_ ?_ ?_ ?_ ?_ ?_ ?_ ?_ ?_ ?_ ?_ ?_ ?_ ?_ ?_ ?_ ?_ ?_
    · intro _; exact (cE_0 G L _ _ _ _ _).trans (cE_0 G L S cs ar J _).symm
    · intro _; exact (cE_1 G L _ _ _ _ _).trans (cE_1 G L S cs ar J _).symm
    · intro _; exact (cE_2 G L _ _ _ _ _).trans (cE_2 G L S cs ar J _).symm
    · intro _; exact (cE_3 G L _ _ _ _ _).trans (cE_3 G L S cs ar J _).symm
    · intro _; exact (cE_4 G L _ _ _ _ _).trans (cE_4 G L S cs ar J _).symm
    · intro _; exact (cE_5 G L _ _ _ _ _).trans (cE_5 G L S cs ar J _).symm
    · intro _; exact (cE_6 G L _ _ _ _ _).trans (cE_6 G L S cs ar J _).symm
    · intro _; exact (cE_7 G L _ _ _ _ _).trans (cE_7 G L S cs ar J _).symm
    · intro hn; exact absurd ⟨rfl, rfl⟩ hn
    · intro i1 _ _; exact (cE_10 G L _ _ _ _ _).trans (cE_10 G L S cs ar J _).symm
    · intro i1 _ _; exact (cE_11 G L _ _ _ _ _).trans (cE_11 G L S cs ar J _).symm
    · intro i1 _ _; exact (cE_12 G L _ _ _ _ _).trans (cE_12 G L S cs ar J _).symm
    · intro i1 _ _; exact (cE_20 G L _ _ _ _ _).trans (cE_20 G L S cs ar J _).symm
    · intro i1 _ _; exact (cE_30 G L _ _ _ _ _).trans (cE_30 G L S cs ar J _).symm
    · intro i1 _ _; exact (cE_31 G L _ _ _ _ _).trans (cE_31 G L S cs ar J _).symm
    · intro i1 _ _; exact (cE_32 G L _ _ _ _ _).trans (cE_32 G L S cs ar J _).symm
    · intro i1 _ _; exact (cE_33 G L _ _ _ _ _).trans (cE_33 G L S cs ar J _).symm
    · intro i1 _ _; exact (cE_34 G L _ _ _ _ _).trans (cE_34 G L S cs ar J _).symm
    · intro i1 _ _; exact (cE_35 G L _ _ _ _ _).trans (cE_35 G L S cs ar J _).symm
    · intro i1 _ _; exact (cE_36 G L _ _ _ _ _).trans (cE_36 G L S cs ar J _).symm
    · intro i1 _ _; exact (cE_40 G L _ _ _ _ _).trans (cE_40 G L S cs ar J _).symm
  · rw [mm_up_s]; rfl
set_option maxHeartbeats 1000000 in
theorem EV.w_rp (h : EV G L S cs ar J M) {i : Nat} (hi : i < cl (S 12 0)) (f : Nat → Int64) {M' : mM} (eM : M' = mm_up M (L 36 i) (aJ G 4 f)) : EV G L (S) (cs) (ar) ((J.1, J.2.1, J.2.2.1, J.2.2.2.1, va_up J.2.2.2.2 i f)) M' := by
  subst eM
  refine h.one (k0 := 36) (i0 := i) (lv_c S (by decide) hi) ⟨rfl, rfl, rfl, rfl⟩ ?_ ?_ (fun q hq => mm_up_n _ _ hq)
  · refine lv_ind ?_ ?_ ?_ ?_ ?_ ?_ ?_ ?_ ?_ ?_ ?_ ?_ ?_ ?_ ?_ ?_ ?_ ?_ ?_ ?_ ?_
    · intro _; exact (cE_0 G L _ _ _ _ _).trans (cE_0 G L S cs ar J _).symm
    · intro _; exact (cE_1 G L _ _ _ _ _).trans (cE_1 G L S cs ar J _).symm
    · intro _; exact (cE_2 G L _ _ _ _ _).trans (cE_2 G L S cs ar J _).symm
    · intro _; exact (cE_3 G L _ _ _ _ _).trans (cE_3 G L S cs ar J _).symm
    · intro _; exact (cE_4 G L _ _ _ _ _).trans (cE_4 G L S cs ar J _).symm
    · intro _; exact (cE_5 G L _ _ _ _ _).trans (cE_5 G L S cs ar J _).symm
    · intro _; exact (cE_6 G L _ _ _ _ _).trans (cE_6 G L S cs ar J _).symm
    · intro _; exact (cE_7 G L _ _ _ _ _).trans (cE_7 G L S cs ar J _).symm
    · intro _; exact (cE_8 G L _ _ _ _ _).trans (cE_8 G L S cs ar J _).symm
    · intro i1 _ _; exact (cE_10 G L _ _ _ _ _).trans (cE_10 G L S cs ar J _).symm
    · intro i1 _ _; exact (cE_11 G L _ _ _ _ _).trans (cE_11 G L S cs ar J _).symm
    · intro i1 _ _; exact (cE_12 G L _ _ _ _ _).trans (cE_12 G L S cs ar J _).symm
    · intro i1 _ _; exact (cE_20 G L _ _ _ _ _).trans (cE_20 G L S cs ar J _).symm
    · intro i1 _ _; exact (cE_30 G L _ _ _ _ _).trans (cE_30 G L S cs ar J _).symm
    · intro i1 _ _; exact (cE_31 G L _ _ _ _ _).trans (cE_31 G L S cs ar J _).symm
    · intro i1 _ _; exact (cE_32 G L _ _ _ _ _).trans (cE_32 G L S cs ar J _).symm
    · intro i1 _ _; exact (cE_33 G L _ _ _ _ _).trans (cE_33 G L S cs ar J _).symm
    · intro i1 _ _; exact (cE_34 G L _ _ _ _ _).trans (cE_34 G L S cs ar J _).symm
    · intro i1 _ _; exact (cE_35 G L _ _ _ _ _).trans (cE_35 G L S cs ar J _).symm
    · intro i1 hi1 hn; have hne : i1 ≠ i := fun z => hn ⟨rfl, z⟩; show aJ G 4 (va_up J.2.2.2.2 i f i1) = _; rw [va_up_ne _ _ hne]; rfl
    · intro i1 _ _; exact (cE_40 G L _ _ _ _ _).trans (cE_40 G L S cs ar J _).symm
  · rw [mm_up_s]; show _ = some (aJ G 4 (va_up J.2.2.2.2 i f i)); rw [va_up_self]
set_option maxHeartbeats 1000000 in
theorem EV.w_ce (h : EV G L S cs ar J M) {i : Nat} (hi : i < cl (S 12 0)) {cs2 : Nat → Int64} (hc : ∀ i1, i1 ≠ i → ∀ j, j < 4 → cs2 (4 * i1 + j) = cs (4 * i1 + j)) {M' : mM} (eM : M' = mm_up M (L 34 i) (aJ G 4 (trL 4 (fun j => cs2 (4 * i + j))))) : EV G L (S) (cs2) (ar) (J) M' := by
  subst eM
  refine h.one (k0 := 34) (i0 := i) (lv_c S (by decide) hi) ⟨rfl, rfl, rfl, rfl⟩ ?_ ?_ (fun q hq => mm_up_n _ _ hq)
  · refine lv_ind ?_ ?_ ?_ ?_ ?_ ?_ ?_ ?_ ?_ ?_ ?_ ?_ ?_ ?_ ?_ ?_ ?_ ?_ ?_ ?_ ?_
    · intro _; exact (cE_0 G L _ _ _ _ _).trans (cE_0 G L S cs ar J _).symm
    · intro _; exact (cE_1 G L _ _ _ _ _).trans (cE_1 G L S cs ar J _).symm
    · intro _; exact (cE_2 G L _ _ _ _ _).trans (cE_2 G L S cs ar J _).symm
    · intro _; exact (cE_3 G L _ _ _ _ _).trans (cE_3 G L S cs ar J _).symm
    · intro _; exact (cE_4 G L _ _ _ _ _).trans (cE_4 G L S cs ar J _).symm
    · intro _; exact (cE_5 G L _ _ _ _ _).trans (cE_5 G L S cs ar J _).symm
    · intro _; exact (cE_6 G L _ _ _ _ _).trans (cE_6 G L S cs ar J _).symm
    · intro _; exact (cE_7 G L _ _ _ _ _).trans (cE_7 G L S cs ar J _).symm
    · intro _; exact (cE_8 G L _ _ _ _ _).trans (cE_8 G L S cs ar J _).symm
    · intro i1 _ _; exact (cE_10 G L _ _ _ _ _).trans (cE_10 G L S cs ar J _).symm
    · intro i1 _ _; exact (cE_11 G L _ _ _ _ _).trans (cE_11 G L S cs ar J _).symm
    · intro i1 _ _; exact (cE_12 G L _ _ _ _ _).trans (cE_12 G L S cs ar J _).symm
    · intro i1 _ _; exact (cE_20 G L _ _ _ _ _).trans (cE_20 G L S cs ar J _).symm
    · intro i1 _ _; exact (cE_30 G L _ _ _ _ _).trans (cE_30 G L S cs ar J _).symm
    · intro i1 _ _; exact (cE_31 G L _ _ _ _ _).trans (cE_31 G L S cs ar J _).symm
    · intro i1 _ _; exact (cE_32 G L _ _ _ _ _).trans (cE_32 G L S cs ar J _).symm
    · intro i1 _ _; exact (cE_33 G L _ _ _ _ _).trans (cE_33 G L S cs ar J _).symm
    · intro i1 hi1 hn; have hne : i1 ≠ i := fun z => hn ⟨rfl, z⟩; rw [cE_34, cE_34, trL_congr (fun j hj => hc i1 hne j hj)]
    · intro i1 _ _; exact (cE_35 G L _ _ _ _ _).trans (cE_35 G L S cs ar J _).symm
    · intro i1 _ _; exact (cE_36 G L _ _ _ _ _).trans (cE_36 G L S cs ar J _).symm
    · intro i1 _ _; exact (cE_40 G L _ _ _ _ _).trans (cE_40 G L S cs ar J _).symm
  · rw [mm_up_s]; rfl
end EVW
