/-! run, replay; what holds of the state -/
def WK (S : sS) (ne nc : Nat) : Prop := ∀ i, i < nc → ∃ k, k ≤ 24 ∧ S 14 i = nI k ∧ AC S i k ∧ (S 13 i = -1 ∨ ∃ e, e < ne ∧ S 13 i = nI e ∧ vd S i k 0 0)
def WH (S : sS) (ne ht : Nat) : Prop := ∀ h, h ≤ ht → ∃ e, e < ne ∧ S 6 h = nI e
def WL (S : sS) (nc nl ht : Nat) : Prop := ∀ i, i < nl → ∃ c h, c < nc ∧ h ≤ ht ∧ S 19 i = nI c ∧ S 20 i = nI h ∧ S 13 c ≠ -1
def rnx (S : sS) (cs : Nat → Int64) (x : Int32) (arg : Int64) (lim : Int32) : Int32 × (Nat → Int64) := rn S cs (cl x) (cl (S 6 (cl (S 5 0)))) (cl (S 13 (cl x))) (cl (S 14 (cl x))) arg lim
def sp_run (S : sS) (cs ar : Nat → Int64) (x : Int32) (arg : Int64) (lim : Int32) : Int32 × sS × (Nat → Int64) × (Nat → Int64) :=
  if ¬ (0 ≤ x ∧ x < S 12 0) then (-2, S, cs, ar) else if ¬ (0 ≤ lim) then (-2, S, cs, ar) else if S 13 (cl x) = -1 then (-3, S, cs, ar) else if S 18 0 = 64 then (-4, S, cs, ar)
  else ((rnx S cs x arg lim).1, va_up (va_up (va_up (va_up (va_up (va_up S 19 (upd (S 19) (cl (S 18 0)) x)) 20 (upd (S 20) (cl (S 18 0)) (S 5 0))) 22 (upd (S 22) (cl (S 18 0)) lim)) 23 (upd (S 23) (cl (S 18 0)) (rnx S cs x arg lim).1)) 18 (fun _ => S 18 0 + 1)) 24 (fun _ => dgs (rnx S cs x arg lim).2 (cl x) (S 24 0) (rnx S cs x arg lim).1), (rnx S cs x arg lim).2, vp_updL ar (cl (S 18 0)) arg)
def rp_1 (S : sS) (ar : Nat → Int64) (c : Nat → Int64) (i : Nat) : Int32 × (Nat → Int64) := rn S c (cl (S 19 i)) (cl (S 6 (cl (S 20 i)))) (cl (S 13 (cl (S 19 i)))) (cl (S 14 (cl (S 19 i)))) (ar i) (S 22 i)
def rp_go (S : sS) (ar : Nat → Int64) : Nat → Int32 × (Nat → Int64)
  | 0 => (0, fun _ => 0)
  | i + 1 => (dgs (rp_1 S ar (rp_go S ar i).2 i).2 (cl (S 19 i)) (rp_go S ar i).1 (rp_1 S ar (rp_go S ar i).2 i).1, (rp_1 S ar (rp_go S ar i).2 i).2)
theorem rp_go_s (S : sS) (ar : Nat → Int64) (i : Nat) : rp_go S ar (i + 1) = (dgs (rp_1 S ar (rp_go S ar i).2 i).2 (cl (S 19 i)) (rp_go S ar i).1 (rp_1 S ar (rp_go S ar i).2 i).1, (rp_1 S ar (rp_go S ar i).2 i).2) := rfl
def sp_replay (S : sS) (ar : Nat → Int64) (x : Int32) : Int32 := if ¬ (0 ≤ x ∧ x ≤ S 18 0) then 0 else (rp_go S ar (cl x)).1
/-- the first k are 0 -/
def z48 (cs : Nat → Int64) (k : Nat) : Nat → Int64 := fun j => if j < k then 0 else cs j
theorem z48_0 (cs : Nat → Int64) : z48 cs 0 = cs := by
  funext j
  unfold z48
  rw [if_neg (by omega)]
theorem z48_s (cs : Nat → Int64) (k : Nat) : vp_updL (z48 cs k) k 0 = z48 cs (k + 1) := by
  funext j
  unfold vp_updL z48
  by_cases e : j = k
  · subst e
    rw [if_pos rfl, if_pos (by omega)]
  · rw [if_neg e]
    by_cases h : j < k
    · rw [if_pos h, if_pos (by omega)]
    · rw [if_neg h, if_neg (by omega)]
theorem z48_k (cs : Nat → Int64) (k : Nat) : z48 cs k k = cs k := by
  unfold z48
  rw [if_neg (by omega)]
/-- the first k are f's -/
def r48 (f c : Nat → Int64) (k : Nat) : Nat → Int64 := fun j => if j < k then f j else c j
theorem r48_0 (f c : Nat → Int64) : r48 f c 0 = c := by
  funext j
  unfold r48
  rw [if_neg (by omega)]
theorem r48_s (f c : Nat → Int64) (k : Nat) {x : Int64} (hx : x = f k) : vp_updL (r48 f c k) k x = r48 f c (k + 1) := by
  funext j
  unfold vp_updL r48
  by_cases e : j = k
  · subst e
    rw [if_pos rfl, if_pos (by omega), hx]
  · rw [if_neg e]
    by_cases h : j < k
    · rw [if_pos h, if_pos (by omega)]
    · rw [if_neg h, if_neg (by omega)]
theorem arrV_congr {cA : ClassId} {n : Nat} {f g : Nat → Value} (h : ∀ j, j < n → f j = g j) : arrV cA n f = arrV cA n g := by
  unfold arrV
  congr 1
  apply Array.ext
  · simp
  · intro i h1 h2
    simp only [Array.getElem_ofFn]
    exact h i (by simpa using h1)
/-- a row's places beyond its end are no matter -/
theorem mm_W.congL {D : va_G} {clx : List vw_C} {A : Nat → Prop} {H0 H : Heap} {M : mM} {locs : List Loc} {a : Nat} {cA : ClassId} {n : Nat} {f g : Nat → Int64} (hw : mm_W D clx A H0 M H locs) (ha : M a = some (.inl (cA, n, .inr (.inl f)))) (h : ∀ j, j < n → f j = g j) : mm_W D clx A H0 (mm_up M a (.inl (cA, n, .inr (.inl g)))) H locs := by
  refine ⟨fun q x hq => ?_, hw.2.1, fun q x hq => ?_, hw.2.2.2⟩
  · by_cases e : q = a
    · subst e
      rw [mm_up_s] at hq
      cases hq
      have h1 : H[q]? = some (vp_cell cA (n, .inr (.inl f))) := hw.1 q _ ha
      show H[q]? = some (vp_cell cA (n, .inr (.inl g)))
      rw [h1, vp_cell_l, vp_cell_l, arrV_congr (fun j hj => by rw [h j hj])]
    · rw [mm_up_n M _ e] at hq
      exact hw.1 q x hq
  · by_cases e : q = a
    · subst e
      exact hw.2.2.1 q _ ha
    · rw [mm_up_n M _ e] at hq
      exact hw.2.2.1 q x hq
theorem RV.congC {G : mG} {g : Nat} {L : Nat → Nat} {S : sS} {c c' a : Nat → Int64} {K : Nat → Nat → Int64} {M : mM} {A : Nat → Prop} {H0 H : Heap} {locs : List Loc} (hw : mm_W G.1 vwCl A H0 M H locs) (h : RV G g L S c a K M) (hc : ∀ j, j < 48 → c j = c' j) : ∃ M1, mm_W G.1 vwCl A H0 M1 H locs ∧ RV G g L S c' a K M1 :=
  ⟨_, hw.congL h.2.2.2.1 hc, h.setC c'⟩
