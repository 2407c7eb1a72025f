/-! the class's cells, and rows over facts on the map -/
abbrev oCe (v : Nat) : va_E := .inr (0, [.ref v])
abbrev oCo (ac nu ce rc : Nat) (sz : Int32) (kp : Option Nat) : va_E := .inr (1, [.ref ac, .ref nu, .ref ce, .ref rc, .int sz, va_rf kp])
abbrev oEd (n : Int32) (pr me : Nat) (h st : Int32) : va_E := .inr (2, [.int n, .ref pr, .ref me, .int h, .int st])
abbrev oEn (c : Int32) (a : Int64) (li h an : Int32) : va_E := .inr (3, [.int c, .long a, .int li, .int h, .int an])
abbrev oMa (st dr : Nat) (d : Int32) : va_E := .inr (4, [.ref st, .ref dr, .int d])
abbrev oNo (w b v h : Int32) : va_E := .inr (5, [.int w, .int b, .int v, .int h])
section MI
variable {p : Program} {l : Launch} {e : Env} {R : Room} {s : State} {m : MethodId} {args : Array Value} {below : List Frame} {meth : Method} {c : Code} {H : Heap} {locs : List Loc} {cells slots : Nat} {Q : State → Prop}
variable {cc : ByteArray} {pc : Nat} {ls : Array Slot} {rest : List Value} {G : mG} {A : Nat → Prop} {H0 : Heap} {M : mM} {own : String} {nL a n : Nat} {rt : Option FieldType}
theorem mi_iald (X : mm_Cx p s m args meth c G own cc nL rt) (hw : mm_W G.1 vwCl A H0 M H locs) {f : Nat → Int32} (ha : M a = some (aI G n f)) {i : Int32} (j : Nat) (hi : i = nI j) (hj : j < n) (hn : n < 2 ^ 31) (hdg : decode cc pc = .ok (.iaload, 1))
    (kk : W p l e R s m args below meth c H locs cells slots Q (F0 m (pc + 1) ls (.int (f j) :: rest))) : W p l e R s m args below meth c H locs cells slots Q (F0 m pc ls (.int i :: .ref a :: rest)) := by
  refine mm_iald X.1 X.2.1 X.2.2.2.2.2.1.1 hw 0 ha rfl (vin_n hi hj hn) hdg ?_
  rw [hi, nI_clamp (Nat.lt_trans hj hn)]
  exact kk
theorem mi_lald (X : mm_Cx p s m args meth c G own cc nL rt) (hw : mm_W G.1 vwCl A H0 M H locs) {f : Nat → Int64} (ha : M a = some (aJ G n f)) {i : Int32} (j : Nat) (hi : i = nI j) (hj : j < n) (hn : n < 2 ^ 31) (hdg : decode cc pc = .ok (.laload, 1))
    (kk : W p l e R s m args below meth c H locs cells slots Q (F0 m (pc + 1) ls (.long (f j) :: rest))) : W p l e R s m args below meth c H locs cells slots Q (F0 m pc ls (.int i :: .ref a :: rest)) := by
  refine mm_lald X.1 X.2.1 X.2.2.2.2.2.1.1 hw 1 ha rfl (vin_n hi hj hn) hdg ?_
  rw [hi, nI_clamp (Nat.lt_trans hj hn)]
  exact kk
theorem mi_aald (X : mm_Cx p s m args meth c G own cc nL rt) (hw : mm_W G.1 vwCl A H0 M H locs) {f : Nat → Option Nat} (t : Nat) {C : String} (ha : M a = some (aQ G t n f)) (ht : (mm_ty G)[t]? = some (G.2 t, .object C)) {i : Int32} (j : Nat) (hi : i = nI j) (hj : j < n) (hn : n < 2 ^ 31) (hdg : decode cc pc = .ok (.aaload, 1))
    (kk : W p l e R s m args below meth c H locs cells slots Q (F0 m (pc + 1) ls (va_rf (f j) :: rest))) : W p l e R s m args below meth c H locs cells slots Q (F0 m pc ls (.int i :: .ref a :: rest)) := by
  refine mm_aald X.1 X.2.1 X.2.2.2.2.2.1.1 hw t ha ht (vin_n hi hj hn) hdg ?_
  rw [hi, nI_clamp (Nat.lt_trans hj hn)]
  exact kk
theorem mi_iast (X : mm_Cx p s m args meth c G own cc nL rt) (hw : mm_W G.1 vwCl A H0 M H locs) {f : Nat → Int32} (ha : M a = some (aI G n f)) {i x : Int32} (j : Nat) (hi : i = nI j) (hj : j < n) (hn : n < 2 ^ 31) (hdg : decode cc pc = .ok (.iastore, 1))
    (kk : ∀ (H1 : Heap) (locs1 : List Loc), mm_W G.1 vwCl A H0 (mm_up M a (aI G n (upd f j x))) H1 locs1 → W p l e R s m args below meth c H1 locs1 cells slots Q (F0 m (pc + 1) ls rest)) : W p l e R s m args below meth c H locs cells slots Q (F0 m pc ls (.int x :: .int i :: .ref a :: rest)) := by
  refine mm_iast X.1 X.2.1 X.2.2.2.2.2.1.1 hw 0 ha rfl (vin_n hi hj hn) hdg (fun H1 locs1 hw => ?_)
  rw [hi, nI_clamp (Nat.lt_trans hj hn)] at hw
  exact kk H1 locs1 hw
theorem mi_last (X : mm_Cx p s m args meth c G own cc nL rt) (hw : mm_W G.1 vwCl A H0 M H locs) {f : Nat → Int64} (ha : M a = some (aJ G n f)) {i : Int32} {x : Int64} (j : Nat) (hi : i = nI j) (hj : j < n) (hn : n < 2 ^ 31) (hdg : decode cc pc = .ok (.lastore, 1))
    (kk : ∀ (H1 : Heap) (locs1 : List Loc), mm_W G.1 vwCl A H0 (mm_up M a (aJ G n (vp_updL f j x))) H1 locs1 → W p l e R s m args below meth c H1 locs1 cells slots Q (F0 m (pc + 1) ls rest)) : W p l e R s m args below meth c H locs cells slots Q (F0 m pc ls (.long x :: .int i :: .ref a :: rest)) := by
  refine mm_last X.1 X.2.1 X.2.2.2.2.2.1.1 hw 1 ha rfl (vin_n hi hj hn) hdg (fun H1 locs1 hw => ?_)
  rw [hi, nI_clamp (Nat.lt_trans hj hn)] at hw
  exact kk H1 locs1 hw
theorem mi_aast (X : mm_Cx p s m args meth c G own cc nL rt) (hw : mm_W G.1 vwCl A H0 M H locs) {f : Nat → Option Nat} (t ci : Nat) {r : vw_C} {v : Nat} {vs : List Value} (ha : M a = some (aQ G t n f)) (ht : (mm_ty G)[t]? = some (G.2 t, .object r.1)) (hv : M v = some (.inr (ci, vs))) (hc : vwCl[ci]? = some r) {i : Int32} (j : Nat) (hi : i = nI j) (hj : j < n) (hn : n < 2 ^ 31) (hdg : decode cc pc = .ok (.aastore, 1))
    (kk : ∀ (H1 : Heap) (locs1 : List Loc), mm_W G.1 vwCl A H0 (mm_up M a (aQ G t n (va_up f j (some v)))) H1 locs1 → W p l e R s m args below meth c H1 locs1 cells slots Q (F0 m (pc + 1) ls rest)) : W p l e R s m args below meth c H locs cells slots Q (F0 m pc ls (.ref v :: .int i :: .ref a :: rest)) := by
  refine mm_aast X.1 X.2.1 X.2.2.2.2.2.1.1 hw t ci ha ht hv hc (vin_n hi hj hn) hdg (fun H1 locs1 hw => ?_)
  rw [hi, nI_clamp (Nat.lt_trans hj hn)] at hw
  exact kk H1 locs1 hw
theorem mi_ilen (X : mm_Cx p s m args meth c G own cc nL rt) (hw : mm_W G.1 vwCl A H0 M H locs) {f : Nat → Int32} (ha : M a = some (aI G n f)) (hdg : decode cc pc = .ok (.arraylength, 1))
    (kk : W p l e R s m args below meth c H locs cells slots Q (F0 m (pc + 1) ls (.int (nI n) :: rest))) : W p l e R s m args below meth c H locs cells slots Q (F0 m pc ls (.ref a :: rest)) := mm_alen X.1 X.2.1 X.2.2.2.2.2.1.1 hw 0 ha rfl rfl hdg kk
theorem mi_llen (X : mm_Cx p s m args meth c G own cc nL rt) (hw : mm_W G.1 vwCl A H0 M H locs) {f : Nat → Int64} (ha : M a = some (aJ G n f)) (hdg : decode cc pc = .ok (.arraylength, 1))
    (kk : W p l e R s m args below meth c H locs cells slots Q (F0 m (pc + 1) ls (.int (nI n) :: rest))) : W p l e R s m args below meth c H locs cells slots Q (F0 m pc ls (.ref a :: rest)) := mm_alen X.1 X.2.1 X.2.2.2.2.2.1.1 hw 1 ha rfl rfl hdg kk
theorem mi_alen (X : mm_Cx p s m args meth c G own cc nL rt) (hw : mm_W G.1 vwCl A H0 M H locs) {f : Nat → Option Nat} (t : Nat) {C : String} (ha : M a = some (aQ G t n f)) (ht : (mm_ty G)[t]? = some (G.2 t, .object C)) (hdg : decode cc pc = .ok (.arraylength, 1))
    (kk : W p l e R s m args below meth c H locs cells slots Q (F0 m (pc + 1) ls (.int (nI n) :: rest))) : W p l e R s m args below meth c H locs cells slots Q (F0 m pc ls (.ref a :: rest)) := mm_alen X.1 X.2.1 X.2.2.2.2.2.1.1 hw t ha ht rfl hdg kk
end MI
theorem mm_up_up (M : mM) (a : Nat) (x y : va_E) : mm_up (mm_up M a x) a y = mm_up M a y := by
  funext q
  unfold mm_up
  split <;> rfl
theorem mm_up_id {M : mM} {a : Nat} {x : va_E} (h : M a = some x) : mm_up M a x = M := by
  funext q
  unfold mm_up
  split
  · rename_i e; rw [e, h]
  · rfl
theorem mm_up_c (M : mM) {a b : Nat} (x y : va_E) (h : a ≠ b) : mm_up (mm_up M a x) b y = mm_up (mm_up M b y) a x := by
  funext q
  unfold mm_up
  by_cases h1 : q = a
  · rw [if_neg (by rw [h1]; exact h), if_pos h1, if_pos h1]
  · by_cases h2 : q = b
    · rw [if_pos h2, if_neg h1, if_pos h2]
    · rw [if_neg h2, if_neg h1, if_neg h1, if_neg h2]
/-- cells of unlike content lie apart -/
theorem mm_ne {M : mM} {a b : Nat} {x y : va_E} (ha : M a = some x) (hb : M b = some y) (h : x ≠ y) : a ≠ b := fun e => h (Option.some.inj (ha.symm.trans ((congrArg M e).trans hb)))
theorem ne_oa {M : mM} {a b : Nat} {x : Nat × List Value} {y : ClassId × vp_A} (ha : M a = some (.inr x)) (hb : M b = some (.inl y)) : a ≠ b := mm_ne ha hb (fun h => by cases h)
theorem ne_ao {M : mM} {a b : Nat} {x : Nat × List Value} {y : ClassId × vp_A} (ha : M a = some (.inl y)) (hb : M b = some (.inr x)) : a ≠ b := mm_ne ha hb (fun h => by cases h)
theorem ne_oo {M : mM} {a b ci cj : Nat} {fs gs : List Value} (ha : M a = some (.inr (ci, fs))) (hb : M b = some (.inr (cj, gs))) (h : ci ≠ cj) : a ≠ b := mm_ne ha hb (fun e => h (by cases e; rfl))
theorem z4_s (f : Nat → Int64) (k : Nat) : vp_updL (z48 f k) k 0 = z48 f (k + 1) := z48_s f k
