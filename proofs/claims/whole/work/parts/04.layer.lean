/-! The layer: a world is a map from addresses to cells; contracts over maps; one row an instruction. -/
abbrev mM : Type := Nat → Option va_E
def mm_up (M : mM) (a : Nat) (x : va_E) : mM := fun q => if q = a then some x else M q
theorem mm_up_s (M : mM) (a : Nat) (x : va_E) : mm_up M a x a = some x := by simp [mm_up]
theorem mm_up_n (M : mM) {a q : Nat} (x : va_E) (h : q ≠ a) : mm_up M a x q = M q := by simp [mm_up, h]
def mm_H (D : va_G) (cl : List vw_C) (M : mM) (H : Heap) : Prop := ∀ (q : Nat) (x : va_E), M q = some x → va_at D cl (q, x) H
/-- the walk's world: M is held, what changed since H0 lies in A, M lies in A, new cells lie in A -/
def mm_W (D : va_G) (cl : List vw_C) (A : Nat → Prop) (H0 : Heap) (M : mM) (H : Heap) (locs : List Loc) : Prop := mm_H D cl M H ∧ va_S A H0 H locs ∧ (∀ (q : Nat) (x : va_E), M q = some x → A q) ∧ ∀ q : Nat, H0.size ≤ q → A q
theorem mm_H.one {D : va_G} {cl : List vw_C} {M : mM} {H : Heap} {a : Nat} {x : va_E} (h : mm_H D cl M H) (ha : M a = some x) : va_P D cl [(a, x)] H := by
  intro k q hk
  have hz : k < 1 := (List.getElem?_eq_some_iff.mp hk).1
  rw [show k = 0 by omega] at hk
  cases hk
  exact h a x ha
theorem mm_H.new {D : va_G} {cl : List vw_C} {M : mM} {H : Heap} (h : mm_H D cl M H) {q : Nat} (hq : H.size ≤ q) : M q = none := by
  cases hc : M q with
  | none => rfl
  | some x => exact absurd (h q x hc).lt (by simpa using hq)
theorem mm_W.set {D : va_G} {cl : List vw_C} {A : Nat → Prop} {H0 H H1 : Heap} {M : mM} {locs : List Loc} {a : Nat} {x0 x1 : va_E} (hw : mm_W D cl A H0 M H locs) (ha : M a = some x0) (h1 : va_at D cl (a, x1) H1) (z : H1.size = H.size) (oq : ∀ q : Nat, q ≠ a → H1[q]? = H[q]?) (k : Nat) : mm_W D cl A H0 (mm_up M a x1) H1 (locs ++ [⟨a, k⟩]) := by
  refine ⟨fun q x hq => ?_, hw.2.1.put z oq (hw.2.2.1 a _ ha), fun q x hq => ?_, hw.2.2.2⟩
  · by_cases e : q = a
    · subst e
      rw [mm_up_s] at hq
      cases hq
      exact h1
    · rw [mm_up_n M x1 e] at hq
      exact (hw.1 q x hq).kept (oq q e)
  · by_cases e : q = a
    · subst e
      exact hw.2.2.1 q _ ha
    · rw [mm_up_n M x1 e] at hq
      exact hw.2.2.1 q x hq
theorem mm_W.push {D : va_G} {cl : List vw_C} {A : Nat → Prop} {H0 H H1 : Heap} {M : mM} {locs : List Loc} {x1 : va_E} (hw : mm_W D cl A H0 M H locs) (h1 : va_at D cl (H.size, x1) H1) (z : H1.size = H.size + 1) (oq : ∀ q : Nat, q < H.size → H1[q]? = H[q]?) : mm_W D cl A H0 (mm_up M H.size x1) H1 locs := by
  have hS := hw.2.1
  refine ⟨fun q x hq => ?_, ⟨Nat.le_trans hS.1 (by omega), fun q h1 h2 => (oq q (Nat.lt_of_lt_of_le h1 hS.1)).trans (hS.2.1 q h1 h2), hS.2.2⟩, fun q x hq => ?_, hw.2.2.2⟩
  · by_cases e : q = H.size
    · subst e
      rw [mm_up_s] at hq
      cases hq
      exact h1
    · rw [mm_up_n M x1 e] at hq
      exact (hw.1 q x hq).kept (oq q (hw.1 q x hq).lt)
  · by_cases e : q = H.size
    · subst e
      exact hw.2.2.2 _ hS.1
    · rw [mm_up_n M x1 e] at hq
      exact hw.2.2.1 q x hq
section MMI
variable {p : Program} {l : Launch} {e : Env} {R : Room} {s : State} {m : MethodId} {args : Array Value} {below : List Frame} {meth : Method} {c : Code} {H : Heap} {locs : List Loc} {cells slots : Nat} {Q : State → Prop}
variable {cc : ByteArray} {pc : Nat} {ls : Array Slot} {rest : List Value} {D : va_G} {cl : List vw_C} {A : Nat → Prop} {a : Nat} {tys : List (ClassId × FieldType)} {H0 : Heap} {M : mM}
theorem mm_get (hexec : p.tables.exec = Jvm.exec) (hb : c.code = cc) {own C : String} {T : u_T} {N ci index : Nat} {Ts : List Cond} (hts : ∀ w ∈ Ts, w.before args s = true) (hin : ∀ w ∈ u_ws C T N, w ∈ Ts) (hown : s.vm.findClass own = some m.cls) (hK : va_K D cl tys s) (hw : mm_W D cl A H0 M H locs) {fs : List Value} (he : M a = some (.inr (ci, fs))) (hc : cl[ci]? = some (C, T, N)) (k : Nat) (hk : k < N) (hlink : (Cond.fieldLink own index (T k).1 (T k).2.1 (T k).2.2.1).before args s = true) {v : Value} (hv : fs[k]? = some v) (hdg : decode cc pc = .ok (.getfield index, 3))
    (kk : W p l e R s m args below meth c H locs cells slots Q (F0 m (pc + 3) ls (v :: rest))) : W p l e R s m args below meth c H locs cells slots Q (F0 m pc ls (.ref a :: rest)) :=
  va_get (ws := [(a, .inr (ci, fs))]) hexec hb hts hin hown hK (hw.1.one he) 0 rfl hc k hk hlink (fun _ h => h) hv hdg kk
theorem mm_put (hexec : p.tables.exec = Jvm.exec) (hb : c.code = cc) {own C : String} {T : u_T} {N ci index : Nat} {Ts : List Cond} (hts : ∀ w ∈ Ts, w.before args s = true) (hin : ∀ w ∈ u_ws C T N, w ∈ Ts) (ty0 : Nat → FieldType) (hty : ∀ k, k < N → parseFieldDescriptor (T k).2.2.1 = some (ty0 k)) (hnm : ∀ a, a < N → ∀ b, b < N → a ≠ b → (T a).2.1 ≠ (T b).2.1) (hown : s.vm.findClass own = some m.cls) (hK : va_K D cl tys s) (hw : mm_W D cl A H0 M H locs) {fs : List Value} (he : M a = some (.inr (ci, fs))) (hc : cl[ci]? = some (C, T, N)) (k : Nat) (hk : k < N) (hlink : (Cond.fieldLink own index (T k).1 (T k).2.1 (T k).2.2.1).before args s = true) (hfin : (T k).2.2.2 = false) {v : Value} (hn : narrow (ty0 k) v = v) (hfit : fits (ty0 k) v = true) (hl : k < fs.length)
    (hdg : decode cc pc = .ok (.putfield index, 3)) (kk : ∀ (H1 : Heap) (locs1 : List Loc), mm_W D cl A H0 (mm_up M a (.inr (ci, fs.set k v))) H1 locs1 → W p l e R s m args below meth c H1 locs1 cells slots Q (F0 m (pc + 3) ls rest)) : W p l e R s m args below meth c H locs cells slots Q (F0 m pc ls (v :: .ref a :: rest)) := by
  have hap := va_apart (own := own) hts hin ty0 hty hnm hK hc
  obtain ⟨r, h1, cell, q1, q2, q3, q4⟩ := hw.1 a _ he
  have hr : r = (C, T, N) := Option.some.inj (h1.symm.trans hc)
  subst hr
  obtain ⟨hS, hfc, kC, hkC, hkind⟩ := hK.1 ci _ hc
  obtain ⟨cf, kf, fi, f, hi, hsl⟩ := hS k hk
  have hlay := hts _ (hin _ (u_in_lay hk))
  unfold u_lay at hlay
  rw [if_neg (by rw [hfin]; decide)] at hlay
  have hst := (u_facts hfc hkC (u_lays hts hin hk) hi).1
  have h6 := u_store hfc hkC hkind hlay hi (hty k hk) hn hfit
  refine W.putK hexec hb (f := f) ⟨hown, hlink, ⟨_, _, _, hi⟩, hst⟩ (by rw [q2]; exact h6) q1 q3 (by rw [hsl]; exact k2_hasslot (q4 k hk)) rfl rfl hdg fun H' e1 e2 e3 => ?_
  rw [hsl] at e1 ⊢
  exact kk H' _ (hw.set (x1 := .inr (ci, fs.set k v)) he ⟨_, hc, t_OB.to (V := updV (vp_V fs) k v) ⟨_, e1, q2, q3, t_set q4 hap hk v⟩ (fun j _ => vp_updV_set hl v j)⟩ e2 e3 _)
theorem mm_putF (hexec : p.tables.exec = Jvm.exec) (hb : c.code = cc) {own C : String} {T : u_T} {N ci index : Nat} {Ts : List Cond} (hts : ∀ w ∈ Ts, w.before args s = true) (hin : ∀ w ∈ u_ws C T N, w ∈ Ts) (ty0 : Nat → FieldType) (hty : ∀ k, k < N → parseFieldDescriptor (T k).2.2.1 = some (ty0 k)) (hnm : ∀ a, a < N → ∀ b, b < N → a ≠ b → (T a).2.1 ≠ (T b).2.1) (hown : s.vm.findClass own = some m.cls) (hK : va_K D cl tys s) (hw : mm_W D cl A H0 M H locs) {fs : List Value} (he : M a = some (.inr (ci, fs))) (hc : cl[ci]? = some (C, T, N)) (k : Nat) (hk : k < N) (hlink : (Cond.fieldLink own index (T k).1 (T k).2.1 (T k).2.2.1).before args s = true) (hfin : (T k).2.2.2 = true) (hin2 : meth.name = "<init>") (hdecl : (T k).1 = own) {v : Value} (hn : narrow (ty0 k) v = v) (hfit : fits (ty0 k) v = true) (hl : k < fs.length)
    (hdg : decode cc pc = .ok (.putfield index, 3)) (kk : ∀ (H1 : Heap) (locs1 : List Loc), mm_W D cl A H0 (mm_up M a (.inr (ci, fs.set k v))) H1 locs1 → W p l e R s m args below meth c H1 locs1 cells slots Q (F0 m (pc + 3) ls rest)) : W p l e R s m args below meth c H locs cells slots Q (F0 m pc ls (v :: .ref a :: rest)) := by
  have hap := va_apart (own := own) hts hin ty0 hty hnm hK hc
  obtain ⟨r, h1, cell, q1, q2, q3, q4⟩ := hw.1 a _ he
  have hr : r = (C, T, N) := Option.some.inj (h1.symm.trans hc)
  subst hr
  obtain ⟨hS, hfc, kC, hkC, hkind⟩ := hK.1 ci _ hc
  obtain ⟨cf, kf, fi, f, hi, hsl⟩ := hS k hk
  have hlay := hts _ (hin _ (u_in_lay hk))
  unfold u_lay at hlay
  rw [if_pos hfin] at hlay
  have hst := (u_facts hfc hkC (u_lays hts hin hk) hi).1
  have hcf : m.cls = cf := by
    obtain ⟨_, _, c', _, _, _, -, -, hf', -, -, -, hown2, -⟩ := Cond.laysFinal_spec hlay
    have e1 : c' = cf := by have := hi.symm.trans hf'; simp at this; exact this.1.symm
    rw [hdecl] at hown2
    rw [← e1]; exact Option.some.inj (hown.symm.trans hown2)
  have h6 := u_fits hfc hkC hkind (Or.inr hlay) hi (hty k hk) hn hfit
  refine W.putFinK hexec hb hown hlink hi hst hcf hin2 (by rw [q2]; exact h6) q1 q3 (by rw [hsl]; exact k2_hasslot (q4 k hk)) rfl rfl hdg fun H' e1 e2 e3 => ?_
  rw [hsl] at e1 ⊢
  exact kk H' _ (hw.set (x1 := .inr (ci, fs.set k v)) he ⟨_, hc, t_OB.to (V := updV (vp_V fs) k v) ⟨_, e1, q2, q3, t_set q4 hap hk v⟩ (fun j _ => vp_updV_set hl v j)⟩ e2 e3 _)
theorem mm_iald (hexec : p.tables.exec = Jvm.exec) (hb : c.code = cc) (hK : va_K D cl tys s) (hw : mm_W D cl A H0 M H locs) (t0 : Nat) {cA : ClassId} {n : Nat} {f : Nat → Int32} (ha : M a = some (.inl (cA, n, .inl f))) (ht : tys[t0]? = some (cA, .int)) {i : Int32} (hin : vp_in i n) (hdg : decode cc pc = .ok (.iaload, 1))
    (kk : W p l e R s m args below meth c H locs cells slots Q (F0 m (pc + 1) ls (.int (f i.toNatClampNeg) :: rest))) : W p l e R s m args below meth c H locs cells slots Q (F0 m pc ls (.int i :: .ref a :: rest)) :=
  va_iald (ws := [(a, _)]) hexec hb hK (hw.1.one ha) 0 t0 rfl ht hin hdg kk
theorem mm_zald (hexec : p.tables.exec = Jvm.exec) (hb : c.code = cc) (hK : va_K D cl tys s) (hw : mm_W D cl A H0 M H locs) (t0 : Nat) {cA : ClassId} {n : Nat} {f : Nat → Int32} (ha : M a = some (.inl (cA, n, .inl f))) (ht : tys[t0]? = some (cA, .boolean)) {i : Int32} (hin : vp_in i n) (hdg : decode cc pc = .ok (.baload, 1))
    (kk : W p l e R s m args below meth c H locs cells slots Q (F0 m (pc + 1) ls (.int (f i.toNatClampNeg) :: rest))) : W p l e R s m args below meth c H locs cells slots Q (F0 m pc ls (.int i :: .ref a :: rest)) :=
  va_zald (ws := [(a, _)]) hexec hb hK (hw.1.one ha) 0 t0 rfl ht hin hdg kk
theorem mm_lald (hexec : p.tables.exec = Jvm.exec) (hb : c.code = cc) (hK : va_K D cl tys s) (hw : mm_W D cl A H0 M H locs) (t0 : Nat) {cA : ClassId} {n : Nat} {f : Nat → Int64} (ha : M a = some (.inl (cA, n, .inr (.inl f)))) (ht : tys[t0]? = some (cA, .long)) {i : Int32} (hin : vp_in i n) (hdg : decode cc pc = .ok (.laload, 1))
    (kk : W p l e R s m args below meth c H locs cells slots Q (F0 m (pc + 1) ls (.long (f i.toNatClampNeg) :: rest))) : W p l e R s m args below meth c H locs cells slots Q (F0 m pc ls (.int i :: .ref a :: rest)) :=
  va_lald (ws := [(a, _)]) hexec hb hK (hw.1.one ha) 0 t0 rfl ht hin hdg kk
theorem mm_aald (hexec : p.tables.exec = Jvm.exec) (hb : c.code = cc) (hK : va_K D cl tys s) (hw : mm_W D cl A H0 M H locs) (t0 : Nat) {cA : ClassId} {C : String} {n : Nat} {f : Nat → Option Nat} (ha : M a = some (.inl (cA, n, .inr (.inr (.inr (.inr f)))))) (ht : tys[t0]? = some (cA, .object C)) {i : Int32} (hin : vp_in i n) (hdg : decode cc pc = .ok (.aaload, 1))
    (kk : W p l e R s m args below meth c H locs cells slots Q (F0 m (pc + 1) ls (va_rf (f i.toNatClampNeg) :: rest))) : W p l e R s m args below meth c H locs cells slots Q (F0 m pc ls (.int i :: .ref a :: rest)) :=
  va_aldq (ws := [(a, _)]) hexec hb hK (hw.1.one ha) 0 t0 rfl ht hin hdg kk
theorem mm_alen (hexec : p.tables.exec = Jvm.exec) (hb : c.code = cc) (hK : va_K D cl tys s) (hw : mm_W D cl A H0 M H locs) (t0 : Nat) {cA : ClassId} {x : vp_A} (ha : M a = some (.inl (cA, x))) {ty : FieldType} (ht : tys[t0]? = some (cA, ty)) {v : Int32} (hv : Int32.ofNat x.1 = v) (hdg : decode cc pc = .ok (.arraylength, 1))
    (kk : W p l e R s m args below meth c H locs cells slots Q (F0 m (pc + 1) ls (.int v :: rest))) : W p l e R s m args below meth c H locs cells slots Q (F0 m pc ls (.ref a :: rest)) :=
  va_alen (ws := [(a, _)]) hexec hb hK (hw.1.one ha) 0 t0 rfl ht hv hdg kk
theorem mm_iast (hexec : p.tables.exec = Jvm.exec) (hb : c.code = cc) (hK : va_K D cl tys s) (hw : mm_W D cl A H0 M H locs) (t0 : Nat) {cA : ClassId} {n : Nat} {f : Nat → Int32} (ha : M a = some (.inl (cA, n, .inl f))) (ht : tys[t0]? = some (cA, .int)) {i x : Int32} (hin : vp_in i n) (hdg : decode cc pc = .ok (.iastore, 1))
    (kk : ∀ (H1 : Heap) (locs1 : List Loc), mm_W D cl A H0 (mm_up M a (.inl (cA, n, .inl (upd f i.toNatClampNeg x)))) H1 locs1 → W p l e R s m args below meth c H1 locs1 cells slots Q (F0 m (pc + 1) ls rest)) : W p l e R s m args below meth c H locs cells slots Q (F0 m pc ls (.int x :: .int i :: .ref a :: rest)) := by
  refine W.iast hexec hb (hw.1 a _ ha) ((hK.2 t0 _ ht).1 n (fun j => .int (f j))) (fun q => by cases q) (by show ¬ (i < 0 ∨ (arrV _ _ _).slots.size ≤ _); rw [arrV_size]; exact hin) rfl rfl hdg fun H1 e z oq => ?_
  refine kk H1 _ (hw.set ha ?_ z oq _)
  show H1[a]? = some (vp_cell cA (n, .inl (upd f i.toNatClampNeg x)))
  rw [e]
  show some ((vp_cell cA (n, .inl f)).setSlot _ _) = _
  rw [vp_cell_i, vp_cell_i, arrV_store]
  congr 2
  funext q
  by_cases hq : q = i.toNatClampNeg
  · subst hq
    simp [updV, upd]
  · simp [updV, upd, hq]
theorem mm_last (hexec : p.tables.exec = Jvm.exec) (hb : c.code = cc) (hK : va_K D cl tys s) (hw : mm_W D cl A H0 M H locs) (t0 : Nat) {cA : ClassId} {n : Nat} {f : Nat → Int64} (ha : M a = some (.inl (cA, n, .inr (.inl f)))) (ht : tys[t0]? = some (cA, .long)) {i : Int32} {x : Int64} (hin : vp_in i n) (hdg : decode cc pc = .ok (.lastore, 1))
    (kk : ∀ (H1 : Heap) (locs1 : List Loc), mm_W D cl A H0 (mm_up M a (.inl (cA, n, .inr (.inl (vp_updL f i.toNatClampNeg x))))) H1 locs1 → W p l e R s m args below meth c H1 locs1 cells slots Q (F0 m (pc + 1) ls rest)) : W p l e R s m args below meth c H locs cells slots Q (F0 m pc ls (.long x :: .int i :: .ref a :: rest)) := by
  refine W.last hexec hb (hw.1 a _ ha) ((hK.2 t0 _ ht).1 n (fun j => .long (f j))) (fun q => by cases q) (by show ¬ (i < 0 ∨ (arrV _ _ _).slots.size ≤ _); rw [arrV_size]; exact hin) rfl rfl hdg fun H1 e z oq => ?_
  refine kk H1 _ (hw.set ha ?_ z oq _)
  show H1[a]? = some (vp_cell cA (n, .inr (.inl (vp_updL f i.toNatClampNeg x))))
  rw [e]
  show some ((vp_cell cA (n, .inr (.inl f))).setSlot _ _) = _
  rw [vp_cell_l, vp_cell_l, arrV_store]
  congr 2
  funext q
  by_cases hq : q = i.toNatClampNeg
  · subst hq
    simp [updV, vp_updL]
  · simp [updV, vp_updL, hq]
theorem mm_aast (hexec : p.tables.exec = Jvm.exec) (hb : c.code = cc) (hK : va_K D cl tys s) (hw : mm_W D cl A H0 M H locs) (t0 ci : Nat) {cA : ClassId} {r : vw_C} {n v : Nat} {vs : List Value} {f : Nat → Option Nat} (ha : M a = some (.inl (cA, n, .inr (.inr (.inr (.inr f)))))) (ht : tys[t0]? = some (cA, .object r.1)) (hv : M v = some (.inr (ci, vs))) (hc : cl[ci]? = some r) {i : Int32} (hin : vp_in i n) (hdg : decode cc pc = .ok (.aastore, 1))
    (kk : ∀ (H1 : Heap) (locs1 : List Loc), mm_W D cl A H0 (mm_up M a (.inl (cA, n, .inr (.inr (.inr (.inr (va_up f i.toNatClampNeg (some v)))))))) H1 locs1 → W p l e R s m args below meth c H1 locs1 cells slots Q (F0 m (pc + 1) ls rest)) : W p l e R s m args below meth c H locs cells slots Q (F0 m pc ls (.ref v :: .int i :: .ref a :: rest)) := by
  have hlt : i.toNatClampNeg < n := Nat.not_le.mp fun q => hin (Or.inr q)
  have h0 : ¬ i < 0 := fun q => hin (Or.inl q)
  obtain ⟨r', hr', cellV, g1, g2, g3, -⟩ := hw.1 v _ hv
  have hcls := (hK.1 ci r hc).2
  obtain ⟨kA, comp, k1, k2, k3, -⟩ := (hK.2 t0 _ ht).2
  have hcomp : comp = D.1 ci := Option.some.inj (k3.symm.trans hcls.1)
  subst hcomp
  obtain ⟨kC, hkC, -⟩ := hcls.2
  refine W.aast hexec hb (hw.1 a _ ha) (fun q h => by cases h) (fun h => by cases h) k1 k2 rfl hkC ⟨h0, by show _ < (arrV _ _ _).slots.size; rw [arrV_size]; exact hlt⟩ g1 (fun q h => by rw [g3] at h; cases h) (by rw [g2]; exact hkC) (by rw [g2]; exact va_assign hcls) rfl rfl hdg fun H1 e z oq => ?_
  refine kk H1 _ (hw.set ha ?_ z oq _)
  show H1[a]? = some (vp_cell cA (n, .inr (.inr (.inr (.inr (va_up f i.toNatClampNeg (some v)))))))
  rw [e]
  show some ((vp_cell cA (n, .inr (.inr (.inr (.inr f))))).setSlot _ _) = _
  rw [vp_cell_q, vp_cell_q, arrV_store]
  congr 2
  funext q
  by_cases hq : q = i.toNatClampNeg
  · subst hq
    simp [updV, va_up, va_rf]
  · simp [updV, va_up, hq]
theorem mm_new {c0 : Code} (hexec : p.tables.exec = Jvm.exec) (hb : c0.code = cc) {own C : String} {T : u_T} {N ci index : Nat} {Ts : List Cond} (hts : ∀ w ∈ Ts, w.before args s = true) (hin : ∀ w ∈ u_ws C T N, w ∈ Ts) (ty : Nat → FieldType) (hty : ∀ k, k < N → parseFieldDescriptor (T k).2.2.1 = some (ty k)) (hown : s.vm.findClass own = some m.cls) (hcl : (Cond.classLink own index C).before args s = true) (hinst : (Cond.instantiable C N).before args s = true) (hini : (Cond.initialized C).before args s = true)
    (hK : va_K D cl tys s) (hw : mm_W D cl A H0 M H locs) (hc : cl[ci]? = some (C, T, N)) {fs : List Value} (hfs : ∀ j, j < N → defaultValue (ty j) = vp_V fs j) (hcells : cells + 1 ≤ R.cells) (hslots : slots + N ≤ R.slots) (hdg : decode cc pc = .ok (.new index, 3))
    (kk : ∀ (q : Nat) (H1 : Heap), M q = none → mm_W D cl A H0 (mm_up M q (.inr (ci, fs))) H1 locs →
      W p l e R s m args below meth c0 H1 locs (cells + 1) (slots + N) Q (F0 m (pc + 3) ls (.ref q :: rest))) : W p l e R s m args below meth c0 H locs cells slots Q (F0 m pc ls rest) := by
  have hKn := hK.1 ci _ hc
  refine W.newcK hexec hb hown hcl hinst hini rfl hdg hcells hslots hKn.2.1 rfl fun H1 kC hkC e1 z1 o1 => ?_
  exact kk H.size H1 (hw.1.new (Nat.le_refl _)) (hw.push ⟨_, hc, (u_born ty hts hin hKn hkC e1 hty).to hfs⟩ z1 o1)
theorem mm_newa (hexec : p.tables.exec = Jvm.exec) (hb : c.code = cc) {atype : ArrayType} (harr : (Cond.arrayClass (newarray.typeOf atype)).before args s = true) {ty : FieldType} (hty : newarray.typeOf atype = ty) (hprim : ∀ C, ty ≠ .object C) (hK : va_K D cl tys s) (hw : mm_W D cl A H0 M H locs) (t0 : Nat) {cA : ClassId} (ht : tys[t0]? = some (cA, ty))
    {n : Int32} {N' : Nat} {a0 : vp_A} (ha : vp_cell cA a0 = arrV cA N' (fun _ => defaultValue ty)) (hn : ¬ n < 0) (hN : n.toNatClampNeg = N') (hbytes : N' * componentBytes ty ≤ 536870912) (hcells : cells + 1 ≤ R.cells) (hslots : slots + N' ≤ R.slots) (hdg : decode cc pc = .ok (.newarray atype, 2))
    (kk : ∀ (q : Nat) (H1 : Heap), M q = none → mm_W D cl A H0 (mm_up M q (.inl (cA, a0))) H1 locs →
      W p l e R s m args below meth c H1 locs (cells + 1) (slots + N') Q (F0 m (pc + 2) ls (.ref q :: rest))) : W p l e R s m args below meth c H locs cells slots Q (F0 m pc ls (.int n :: rest)) := by
  subst hty
  refine va_newaK hexec hb harr rfl hdg rfl hn hN hbytes hcells hslots rfl fun H1 cA' e1 z1 o1 hAr hNm => ?_
  have hRA := (hK.2 t0 _ ht).2
  have hcA : cA' = cA := by
    have h2 : s.vm.findClass ("[" ++ (newarray.typeOf atype).toString) = some cA := by cases atype <;> exact hRA
    exact Option.some.inj (hNm.symm.trans h2)
  subst hcA
  refine kk H.size H1 (hw.1.new (Nat.le_refl _)) (hw.push ?_ z1 o1)
  show H1[H.size]? = some (vp_cell _ _)
  rw [ha]
  exact e1
theorem mm_newq (hexec : p.tables.exec = Jvm.exec) (hb : c.code = cc) {own C : String} {index : Nat} (hown : s.vm.findClass own = some m.cls) (hclink : (Cond.classLink own index C).before args s = true) (hover : va_AO C s) (hK : va_K D cl tys s) (hw : mm_W D cl A H0 M H locs) (t0 : Nat) {cA : ClassId} (ht : tys[t0]? = some (cA, .object C))
    {n : Int32} {N' : Nat} (hn : ¬ n < 0) (hN : n.toNatClampNeg = N') (hbytes : N' * 4 ≤ 536870912) (hcells : cells + 1 ≤ R.cells) (hslots : slots + N' ≤ R.slots) (hdg : decode cc pc = .ok (.anewarray index, 3))
    (kk : ∀ (q : Nat) (H1 : Heap), M q = none → mm_W D cl A H0 (mm_up M q (.inl (cA, N', .inr (.inr (.inr (.inr (fun _ => none))))))) H1 locs →
      W p l e R s m args below meth c H1 locs (cells + 1) (slots + N') Q (F0 m (pc + 3) ls (.ref q :: rest))) : W p l e R s m args below meth c H locs cells slots Q (F0 m pc ls (.int n :: rest)) := by
  subst hN
  refine W.anew hexec hb hown hclink (va_AO.use hover) rfl hdg rfl hn hbytes hcells hslots fun cA' kA comp f1 f2 f3 f4 => ?_
  obtain ⟨kA', comp', k1, k2, k3, k4⟩ := (hK.2 t0 _ ht).2
  have hcA : cA' = cA := Option.some.inj (f1.symm.trans k4)
  subst hcA
  generalize hH1 : H.push ({ cls := cA', slots := Array.replicate n.toNatClampNeg .null, vm := .none } : Cell) = H1
  have z1 : H1.size = H.size + 1 := by rw [← hH1, Array.size_push]
  have e1 : H1[H.size]? = some (arrV cA' n.toNatClampNeg (fun _ => .null)) := by rw [← hH1, Array.getElem?_push_size, ← arrV_new]
  have o1 : ∀ q : Nat, q < H.size → H1[q]? = H[q]? := fun q hq => by rw [← hH1, Array.getElem?_push, if_neg (Nat.ne_of_lt hq)]
  exact kk H.size H1 (hw.1.new (Nat.le_refl _)) (hw.push (show H1[H.size]? = some (vp_cell _ _) from by rw [vp_cell_q]; exact e1) z1 o1)
end MMI
/-! contracts over maps -/
def ct_A (M : mM) (sz : Nat) : Nat → Prop := fun q => M q ≠ none ∨ sz ≤ q
def mm_nest (w : Cond) : Prop := (∃ a i b n d h, w = .fieldLinkNest a i b n d h) ∨ ∃ a i x h, w = .methodLinkNest a i x h
abbrev mG : Type := va_G × (Nat → ClassId)
/-- the array classes: int, long, boolean, Edition, Node, Contract, Entry -/
abbrev mm_ty (G : mG) : List (ClassId × FieldType) := [(G.2 0, .int), (G.2 1, .long), (G.2 2, .boolean), (G.2 3, .object RX2), (G.2 4, .object RX5), (G.2 5, .object RX1), (G.2 6, .object RX3)]
theorem mm_NW_ok : ∀ w ∈ mm_NW, mm_nest w := by
  intro w h
  simp only [mm_NW, List.mem_cons, List.not_mem_nil, or_false] at h
  rcases h with rfl | rfl | rfl | rfl | rfl | rfl | rfl | rfl | rfl <;> exact Or.inr ⟨_, _, _, _, rfl⟩
theorem mm_nest.warm {w : Cond} (h : mm_nest w) {s U : State} (hW : s.WarmedH U.vm) (hz : va_Nw w s) : va_Nw w U := by
  rcases h with ⟨a, i, b, n, d, h, rfl⟩ | ⟨a, i, x, h, rfl⟩
  · exact va_Nw.warmF hW hz
  · exact va_Nw.warmM hW hz
theorem mm_nest.same {w : Cond} (h : mm_nest w) {u U : State} (e : u.vm = U.vm) (hz : va_Nw w u) : va_Nw w U := by
  rcases h with ⟨a, i, b, n, d, h, rfl⟩ | ⟨a, i, x, h, rfl⟩
  · exact va_Nw.same rfl e hz
  · exact va_Nw.same rfl e hz
/-- what is known of the tables: classes, array classes, nest links, arrays over classes -/
def mm_K (G : mG) (U : State) : Prop := va_K G.1 vwCl (mm_ty G) U ∧ (∀ w ∈ mm_NW, va_Nw w U) ∧ ∀ C ∈ mm_AO, va_AO C U
theorem mm_K.moved {G : mG} {s U : State} (hW : s.WarmedH U.vm) (h : mm_K G s) : mm_K G U := ⟨va_K.moved hW.alike h.1, fun w hw => (mm_NW_ok w hw).warm hW (h.2.1 w hw), fun C hC => va_AO.moved hW.alike (h.2.2 C hC)⟩
theorem mm_K.same {G : mG} {u U : State} (e : u.vm = U.vm) (h : mm_K G u) : mm_K G U := ⟨va_K.moved (by rw [e]; exact Vm.Alike.refl _) h.1, fun w hw => (mm_NW_ok w hw).same e (h.2.1 w hw), fun C hC => va_AO.moved (by rw [e]; exact Vm.Alike.refl _) (h.2.2 C hC)⟩
def ct_P (G : mG) (M : mM) (sz : Nat) (av : List Value) : Array Value → State → Prop := va_Pc av (fun U => U.heap.size = sz ∧ mm_H G.1 vwCl M U.heap ∧ mm_K G U)
def ct_Q (G : mG) (M : mM) (sz : Nat) (post : Option Value → mM → Prop) : Array Value → State → Outcome → State → Prop := fun _ st oc t => (∃ (v : Option Value) (M1 : mM), oc = .returned v ∧ post v M1 ∧ mm_H G.1 vwCl M1 t.heap ∧ ∀ (q : Nat) (x : va_E), M1 q = some x → ct_A M sz q) ∧ va_F (ct_A M sz) st t
/-- method y's contract: from a heap that holds M it returns, with 'post answer M1', and the heap holds M1 -/
def Ct (l : Launch) (y : MethodName) (bytes : ByteArray) (maxL : Nat) (ret : Option FieldType) (rm : Room) (G : mG) (av : List Value) (M : mM) (post : Option Value → mM → Prop) : Prop :=
  ∀ sz : Nat, Met l y (Cond.code y bytes maxL ret :: mT) rm (ct_P G M sz av) (ct_Q G M sz post) rm.cells rm.slots (ct_A M sz)
theorem ct_blind (G : mG) (M : mM) (sz : Nat) (av : List Value) : FrameBlind (ct_P G M sz av) := fun a U g mk q => by
  obtain ⟨q0, q1, q2, q3⟩ := q
  exact ⟨q0, q1, q2, mm_K.same (u := U) (U := U.calling g mk a) rfl q3⟩
/-- where a walk stands: the machine, the method's bytes, the tables' words, what is known of the tables -/
def mm_Cx (p : Program) (s : State) (m : MethodId) (args : Array Value) (meth : Method) (c : Code) (G : mG) (own : String) (cc : ByteArray) (nL : Nat) (ret : Option FieldType) : Prop :=
  p.tables.exec = Jvm.exec ∧ c.code = cc ∧ c.maxLocals = nL ∧ s.vm.findClass own = some m.cls ∧ (∀ w ∈ mT, w.before args s = true) ∧ mm_K G s ∧ meth.sig.returnType = ret ∧ meth.locks = false
def mm_Q (G : mG) (M : mM) (s : State) (below : List Frame) (args : Array Value) (mc ms : Nat) (post : Option Value → mM → Prop) : State → Prop := MQ below (ct_Q G M s.heap.size post) args s mc ms (ct_A M s.heap.size)
theorem Ct.of {l : Launch} {y : MethodName} {bytes : ByteArray} {maxL : Nat} {ret : Option FieldType} {rm : Room} {G : mG} {av : List Value} {M : mM} {post : Option Value → mM → Prop} (hy : plainName y.cls = true) (hlen : (lg_sl av).length ≤ maxL)
    (body : ∀ (p : Program) (e : Env) (s : State) (m : MethodId) (args : Array Value) (below : List Frame) (meth : Method) (c : Code) (ls : Array Slot) (Q : State → Prop), mm_Cx p s m args meth c G y.cls bytes maxL ret → meth.name = y.name → lv_has ls maxL (lv_args 0 av) → mm_W G.1 vwCl (ct_A M s.heap.size) s.heap M s.heap [] → mm_Q G M s below args rm.cells rm.slots post = Q →
      W p l e rm s m args below meth c s.heap [] 0 0 Q (F0 m 0 ls [])) : Ct l y bytes maxL ret rm G av M post := by
  intro sz
  refine Met.ofW (cc := bytes) (maxL := maxL) (ret := ret) hy rfl ?_
  intro p e s m args below meth c s₁ B hml hv
  obtain ⟨rfl, hsz, hH, hK⟩ := hv
  subst hsz
  have hts := atoms_spec (ws := Cond.code y bytes maxL ret :: mT) B.pre
  have hl := lv_entry av (n := maxL) hlen
  rw [lg_entry_eq]
  exact body p e s m _ below meth c _ _ ⟨B.exec, B.bytes, hml, findClass_of_methodNamed B.named, fun w hw => hts w (List.mem_cons_of_mem _ hw), hK, B.returns, B.notSynchronized⟩ (name_of_methodNamed B.named B.method).1 hl ⟨hH, va_S.rf, fun q x h => Or.inl (by rw [h]; exact fun z => by cases z), fun q h => Or.inr h⟩ rfl
theorem Met.ofWF {l : Launch} {y : MethodName} {ws ws' : List Cond} {rm : Room} {Pc : Array Value → State → Prop} {Qc : Array Value → State → Outcome → State → Prop} {mc ms : Nat} {free : Addr → Prop} {cc : ByteArray} {maxL : Nat} {ret : Option FieldType}
    (hy : plainFor y = true) (hw : ws = Cond.code y cc maxL ret :: ws')
    (body : ∀ p e s m args below meth c s₁, BodyLoose p l y (headSpec ws rm) cc maxL ret e s m args below meth c s₁ → c.maxLocals = maxL → Pc args s →
      W p l e (headSpec ws rm).room s m args below meth c s.heap [] 0 0 (MQ below Qc args s mc ms free) (entryFrame m args maxL)) : Met l y ws rm Pc Qc mc ms free := by
  refine MetFree.of_bodySF (code := cc) (maxLocals := maxL) (ret := ret) hy ?_ ?_
  · intro args s m h hn
    obtain ⟨meth, c, h1, h2, h3, h4, h5, h6, -, -⟩ := Cond.code_spec hn (atoms_spec (ws := ws) h _ (by rw [hw]; exact List.mem_cons_self))
    exact ⟨meth, c, h1, h2, h3, h4, h5, h6⟩
  · intro p e s m args below meth c s₁ B hml hP _
    have hh0 : s₁.heap = s.heap := by rw [B.state]; rfl
    obtain ⟨t, a1, o, b1, b2, b3⟩ := body p e s m args below meth c s₁ B hml hP s₁ hh0 (Stand.of_body B)
    exact ⟨t, o, a1, b1, b2, ⟨b3.1, b3.2⟩⟩
theorem Ct.ofF {l : Launch} {y : MethodName} {bytes : ByteArray} {maxL : Nat} {ret : Option FieldType} {rm : Room} {G : mG} {av : List Value} {M : mM} {post : Option Value → mM → Prop} (hy : plainFor y = true) (hlen : (lg_sl av).length ≤ maxL)
    (body : ∀ (p : Program) (e : Env) (s : State) (m : MethodId) (args : Array Value) (below : List Frame) (meth : Method) (c : Code) (ls : Array Slot) (Q : State → Prop), mm_Cx p s m args meth c G y.cls bytes maxL ret → meth.name = y.name → lv_has ls maxL (lv_args 0 av) → mm_W G.1 vwCl (ct_A M s.heap.size) s.heap M s.heap [] → mm_Q G M s below args rm.cells rm.slots post = Q →
      W p l e rm s m args below meth c s.heap [] 0 0 Q (F0 m 0 ls [])) : Ct l y bytes maxL ret rm G av M post := by
  intro sz
  refine Met.ofWF (cc := bytes) (maxL := maxL) (ret := ret) hy rfl ?_
  intro p e s m args below meth c s₁ B hml hv
  obtain ⟨rfl, hsz, hH, hK⟩ := hv
  subst hsz
  have hts := atoms_spec (ws := Cond.code y bytes maxL ret :: mT) B.pre
  have hl := lv_entry av (n := maxL) hlen
  rw [lg_entry_eq]
  exact body p e s m _ below meth c _ _ ⟨B.exec, B.bytes, hml, findClass_of_methodNamed B.named, fun w hw => hts w (List.mem_cons_of_mem _ hw), hK, B.returns, B.notSynchronized⟩ (name_of_methodNamed B.named B.method).1 hl ⟨hH, va_S.rf, fun q x h => Or.inl (by rw [h]; exact fun z => by cases z), fun q h => Or.inr h⟩ rfl
/-- a room: n frames below, mc cells of ms slots -/
def mm_r (n mc ms : Nat) : Room := { frames := n, cells := mc, slots := ms, locals := 40 * n }
def bI (P : Prop) [Decidable P] : Int32 := if P then 1 else 0
theorem bI_t {P : Prop} [Decidable P] (h : P) : bI P = 1 := if_pos h
theorem bI_f {P : Prop} [Decidable P] (h : ¬ P) : bI P = 0 := if_neg h
theorem bI_n (P : Prop) [Decidable P] : narrow .boolean (.int (bI P)) = .int (bI P) := by
  by_cases h : P
  · rw [bI_t h]; rfl
  · rw [bI_f h]; rfl
theorem bI_e {P P' : Prop} [Decidable P] [Decidable P'] (h : P ↔ P') : bI P = bI P' := by
  by_cases hp : P
  · rw [bI_t hp, bI_t (h.mp hp)]
  · rw [bI_f hp, bI_f (fun q => hp (h.mpr q))]
section MMC
variable {p : Program} {l : Launch} {e : Env} {R : Room} {s : State} {m : MethodId} {args : Array Value} {below : List Frame} {meth : Method} {c : Code} {H : Heap} {locs : List Loc} {cells slots : Nat} {Q : State → Prop}
variable {cc : ByteArray} {pc : Nat} {ls : Array Slot} {rest st0 : List Value} {G : mG} {A : Nat → Prop} {H0 : Heap} {M M0 : mM} {own : String} {nL mc ms : Nat} {post : Option Value → mM → Prop}
theorem mm_iret {v : Int32} (hQ : mm_Q G M0 s below args mc ms post = Q) (X : mm_Cx p s m args meth c G own cc nL (some .int)) (hw : mm_W G.1 vwCl (ct_A M0 s.heap.size) s.heap M H locs) (hp : post (some (.int v)) M) (hc : cells ≤ mc) (hs : slots ≤ ms) (hdg : decode cc pc = .ok (.ireturn, 1)) : W p l e R s m args below meth c H locs cells slots Q (F0 m pc ls [.int v]) := by
  subst hQ
  refine W.widen hc hs ?_
  exact W.iret X.1 X.2.1 X.2.2.2.2.2.2.1 (fun t ht hW => ⟨⟨_, M, rfl, hp, by rw [ht]; exact hw.1, hw.2.2.1⟩, hw.2.1.F ht⟩) hw.2.1.2.2 hdg X.2.2.2.2.2.2.2
theorem mm_zret {v : Int32} (hQ : mm_Q G M0 s below args mc ms post = Q) (X : mm_Cx p s m args meth c G own cc nL (some .boolean)) (hw : mm_W G.1 vwCl (ct_A M0 s.heap.size) s.heap M H locs) (hn : narrow .boolean (.int v) = .int v) (hp : post (some (.int v)) M) (hc : cells ≤ mc) (hs : slots ≤ ms) (hdg : decode cc pc = .ok (.ireturn, 1)) : W p l e R s m args below meth c H locs cells slots Q (F0 m pc ls [.int v]) := by
  subst hQ
  refine W.widen hc hs ?_
  exact W.zret X.1 X.2.1 X.2.2.2.2.2.2.1 hn (fun t ht hW => ⟨⟨_, M, rfl, hp, by rw [ht]; exact hw.1, hw.2.2.1⟩, hw.2.1.F ht⟩) hw.2.1.2.2 hdg X.2.2.2.2.2.2.2
theorem mm_lret {v : Int64} (hQ : mm_Q G M0 s below args mc ms post = Q) (X : mm_Cx p s m args meth c G own cc nL (some .long)) (hw : mm_W G.1 vwCl (ct_A M0 s.heap.size) s.heap M H locs) (hp : post (some (.long v)) M) (hc : cells ≤ mc) (hs : slots ≤ ms) (hdg : decode cc pc = .ok (.lreturn, 1)) : W p l e R s m args below meth c H locs cells slots Q (F0 m pc ls [.long v]) := by
  subst hQ
  refine W.widen hc hs ?_
  exact W.lret X.1 X.2.1 X.2.2.2.2.2.2.1 (fun t ht hW => ⟨⟨_, M, rfl, hp, by rw [ht]; exact hw.1, hw.2.2.1⟩, hw.2.1.F ht⟩) hw.2.1.2.2 hdg X.2.2.2.2.2.2.2
theorem mm_vret (hQ : mm_Q G M0 s below args mc ms post = Q) (X : mm_Cx p s m args meth c G own cc nL none) (hw : mm_W G.1 vwCl (ct_A M0 s.heap.size) s.heap M H locs) (hp : post none M) (hc : cells ≤ mc) (hs : slots ≤ ms) (hdg : decode cc pc = .ok (.return_, 1)) : W p l e R s m args below meth c H locs cells slots Q (F0 m pc ls []) := by
  subst hQ
  refine W.widen hc hs ?_
  exact W.vret X.1 X.2.1 X.2.2.2.2.2.2.1 (fun t ht hW => ⟨⟨_, M, rfl, hp, by rw [ht]; exact hw.1, hw.2.2.1⟩, hw.2.1.F ht⟩) hw.2.1.2.2 hdg X.2.2.2.2.2.2.2
theorem mm_aret {r : Option Nat} {C : String} (hQ : mm_Q G M0 s below args mc ms post = Q) (X : mm_Cx p s m args meth c G own cc nL (some (.object C))) (hw : mm_W G.1 vwCl (ct_A M0 s.heap.size) s.heap M H locs) (hp : post (some (va_rf r)) M) (hc : cells ≤ mc) (hs : slots ≤ ms) (hdg : decode cc pc = .ok (.areturn, 1)) : W p l e R s m args below meth c H locs cells slots Q (F0 m pc ls [va_rf r]) := by
  subst hQ
  refine W.widen hc hs ?_
  exact W.aret X.1 X.2.1 X.2.2.2.2.2.2.1 (Or.inl ⟨_, rfl⟩) (by cases r with | none => exact Or.inl rfl | some q => exact Or.inr ⟨q, rfl⟩) (fun t ht hW => ⟨⟨_, M, rfl, hp, by rw [ht]; exact hw.1, hw.2.2.1⟩, hw.2.1.F ht⟩) hw.2.1.2.2 hdg X.2.2.2.2.2.2.2
theorem mm_ifeqB {P : Prop} [Decidable P] (hexec : p.tables.exec = Jvm.exec) (hb : c.code = cc) {off : Int} {tgt : Nat} (hdg : decode cc pc = .ok (.ifCond .eq off, 3)) (ht : (pc : Int) + off = (tgt : Int))
    (kt : ¬ P → W p l e R s m args below meth c H locs cells slots Q (F0 m tgt ls rest)) (kf : P → W p l e R s m args below meth c H locs cells slots Q (F0 m (pc + 3) ls rest)) : W p l e R s m args below meth c H locs cells slots Q (F0 m pc ls (.int (bI P) :: rest)) :=
  lv_if_eq hexec hb hdg ht (fun h => kt (fun q => by rw [bI_t q] at h; exact absurd h (by decide))) (fun h => kf (Decidable.byContradiction fun q => h (bI_f q)))
theorem mm_ifneB {P : Prop} [Decidable P] (hexec : p.tables.exec = Jvm.exec) (hb : c.code = cc) {off : Int} {tgt : Nat} (hdg : decode cc pc = .ok (.ifCond .ne off, 3)) (ht : (pc : Int) + off = (tgt : Int))
    (kt : P → W p l e R s m args below meth c H locs cells slots Q (F0 m tgt ls rest)) (kf : ¬ P → W p l e R s m args below meth c H locs cells slots Q (F0 m (pc + 3) ls rest)) : W p l e R s m args below meth c H locs cells slots Q (F0 m pc ls (.int (bI P) :: rest)) :=
  lv_if_ne hexec hb hdg ht (fun h => kt (Decidable.byContradiction fun q => h (bI_f q))) (fun h => kf (fun q => by rw [bI_t q] at h; exact absurd h (by decide)))
/-- a value that is null or a cell: by cases -/
theorem mm_rf {r : Option Nat} (kn : r = none → W p l e R s m args below meth c H locs cells slots Q (F0 m pc ls (.null :: rest))) (ks : ∀ q : Nat, r = some q → W p l e R s m args below meth c H locs cells slots Q (F0 m pc ls (.ref q :: rest))) : W p l e R s m args below meth c H locs cells slots Q (F0 m pc ls (va_rf r :: rest)) := by
  cases r with
  | none => exact kn rfl
  | some q => exact ks q rfl
theorem mm_call {a : Array Value} (hr : va_Run p l e R s m args below meth c H locs cells slots mc ms (F0 m pc ls st0) rest (ct_Q G M H.size post a) (ct_A M H.size)) (hw : mm_W G.1 vwCl A H0 M H locs)
    (kk : ∀ (v : Option Value) (M1 : mM) (H1 : Heap) (locs1 : List Loc), post v M1 → mm_W G.1 vwCl A H0 M1 H1 locs1 → W p l e R s m args below meth c H1 locs1 (cells + mc) (slots + ms) Q (F0 m (pc + 3) ls (v.toList ++ rest))) : W p l e R s m args below meth c H locs cells slots Q (F0 m pc ls st0) := by
  intro T hT X
  obtain ⟨v, st₀, t, T', L, h0, X', hL, e1, e2, ⟨⟨v', M1, hv, hp, hm1, ha1⟩, hz, hk⟩, st⟩ := hr T hT X
  cases hv
  rw [h0] at hz hk
  have hS := hw.2.1
  have hsub : ∀ q, ct_A M H.size q → A q := by
    intro q hq
    rcases hq with hq | hq
    · cases hc : M q with
      | none => exact absurd hc hq
      | some x => exact hw.2.2.1 q x hc
    · exact hw.2.2.2 q (Nat.le_trans hS.1 hq)
  obtain ⟨t2, a1, b1⟩ := kk v M1 T'.heap (locs ++ L) hp ⟨by rw [e1]; exact hm1, ⟨Nat.le_trans hS.1 (by rw [e1]; exact hz), fun q h1 h2 => by rw [e1, hk q (Nat.lt_of_lt_of_le h1 hS.1) (fun z => h2 (hsub q z))]; exact hS.2.1 q h1 h2, fun q hq => by
      rcases List.mem_append.mp hq with h | h
      · exact hS.2.2 q h
      · exact hsub _ (hL q h)⟩, fun q x hx => hsub q (ha1 q x hx), hw.2.2.2⟩ T' rfl X'
  exact ⟨t2, st t2 a1, b1⟩
variable {y : MethodName} {bytes : ByteArray} {maxL index n ci : Nat} {ret rt : Option FieldType} {rm : Room} {b : Nat} {As fs : List Value} {C host : String} {r : vw_C}
/-- a callee's words -/
def mm_wB (y : MethodName) (bytes : ByteArray) (maxL : Nat) (ret : Option FieldType) (n : Nat) : Prop := Cond.code y bytes maxL ret ∈ mT ∧ Cond.initialized y.cls ∈ mT ∧ (y.cls ≠ "java/lang/invoke/MethodHandle" ∧ y.cls ≠ "java/lang/invoke/VarHandle") ∧ (parseMethodDescriptor y.desc).map (fun d => d.parameters.length) = some n
theorem mm_arity {d : String} {n : Nat} (h : (parseMethodDescriptor d).map (fun d => d.parameters.length) = some n) : ∀ sig, parseMethodDescriptor d = some sig → n = sig.parameters.length := fun sig h1 => by
  rw [h1] at h
  exact (Option.some.inj h).symm
theorem mm_pays (hts : ∀ w ∈ mT, w.before args s = true) (hc : Cond.code y bytes maxL ret ∈ mT) : ∀ w ∈ Cond.code y bytes maxL ret :: mT, ∀ (a' : Array Value) (U : State), s.WarmedH U.vm → w.before a' U = true :=
  pay_in hts (fun w hw => by
    rcases List.mem_cons.mp hw with h | h
    · rw [h]; exact ⟨hc, mT_ok _ hc⟩
    · exact ⟨h, mT_ok _ h⟩)
theorem mm_B (X : mm_Cx p s m args meth c G own cc nL rt) (hb : mm_wB y bytes maxL ret n) (hl : Cond.methodLink own index y ∈ mT) (hR : rm.frames + 1 ≤ R.frames ∧ 8 + (maxL + 11) + rm.locals ≤ R.locals) : CallB R s args own index y bytes maxL ret (Cond.code y bytes maxL ret :: mT) rm rm.cells rm.slots n :=
  ⟨rfl, rfl, hR.1, hR.2, mm_pays X.2.2.2.2.1 hb.1, List.mem_cons_self, X.2.2.2.2.1 _ hb.1, X.2.2.2.2.1 _ hb.2.1, hb.2.2.1, mm_arity hb.2.2.2, X.2.2.2.2.1 _ hl⟩
theorem mm_BN (X : mm_Cx p s m args meth c G own cc nL rt) (hb : mm_wB y bytes maxL ret n) (hl : Cond.methodLinkNest own index y host ∈ mm_NW) (hR : rm.frames + 1 ≤ R.frames ∧ 8 + (maxL + 11) + rm.locals ≤ R.locals) : va_CN R s args own index y host bytes maxL ret (Cond.code y bytes maxL ret :: mT) rm rm.cells rm.slots n :=
  ⟨⟨rfl, rfl, hR.1, hR.2, mm_pays X.2.2.2.2.1 hb.1, List.mem_cons_self⟩, X.2.2.2.2.1 _ hb.1, X.2.2.2.2.1 _ hb.2.1, hb.2.2.1, mm_arity hb.2.2.2, va_Nw.use rfl (X.2.2.2.2.2.1.2.1 _ hl)⟩
theorem mm_fix (X : mm_Cx p s m args meth c G own cc nL rt) : CallFix p m c cc nL s args mT own := ⟨X.1, X.2.1, X.2.2.1, X.2.2.2.1, X.2.2.2.2.1⟩
theorem mm_pS (X : mm_Cx p s m args meth c G own cc nL rt) (hw : mm_W G.1 vwCl A H0 M H locs) : PreS s H (ct_P G M H.size As) As := ⟨ct_blind G M H.size As, fun U hU hW => ⟨rfl, by rw [hU], by rw [hU]; exact hw.1, X.2.2.2.2.2.1.moved hW⟩⟩
theorem mm_pV (X : mm_Cx p s m args meth c G own cc nL rt) (hw : mm_W G.1 vwCl A H0 M H locs) (he : M b = some (.inr (ci, fs))) (hc : vwCl[ci]? = some r) : PreV s H r.1 b (ct_P G M H.size (.ref b :: As)) As := ⟨ct_blind G M H.size (.ref b :: As), va_recv (ws := [(b, .inr (ci, fs))]) X.2.2.2.2.2.1.1 (hw.1.one he) hc (q0 := 0) rfl, fun U hU hW => ⟨rfl, by rw [hU], by rw [hU]; exact hw.1, X.2.2.2.2.2.1.moved hW⟩⟩
theorem mm_callV (X : mm_Cx p s m args meth c G own cc nL rt) (hw : mm_W G.1 vwCl A H0 M H locs) (hC : Ct l y bytes maxL ret rm G (.ref b :: As) M post) (he : M b = some (.inr (ci, fs))) (hc : vwCl[ci]? = some r) (hwd : mm_wB y bytes maxL ret n ∧ Cond.methodLink own index y ∈ mT ∧ Cond.instanceMethod y ∈ mT ∧ Cond.selects r.1 y y ∈ mT)
    (hR : rm.frames + 1 ≤ R.frames ∧ 8 + (maxL + 11) + rm.locals ≤ R.locals) (hf : cells + rm.cells ≤ R.cells ∧ slots + rm.slots ≤ R.slots) (hn : As.length = n) (hst : st0 = As.reverse ++ .ref b :: rest) (hcat : (rest.map fun v => v.category).sum ≤ 8) (hls : ls.size = nL) (hdg : decode cc pc = .ok (.invokevirtual index, 3))
    (kk : ∀ (v : Option Value) (M1 : mM) (H1 : Heap) (locs1 : List Loc), post v M1 → mm_W G.1 vwCl A H0 M1 H1 locs1 → W p l e R s m args below meth c H1 locs1 (cells + rm.cells) (slots + rm.slots) Q (F0 m (pc + 3) ls (v.toList ++ rest))) : W p l e R s m args below meth c H locs cells slots Q (F0 m pc ls st0) :=
  mm_call (va_runV (mm_fix X) (hC H.size) ⟨mm_B X hwd.1 hwd.2.1 hR, X.2.2.2.2.1 _ hwd.2.2.1, X.2.2.2.2.1 _ hwd.2.2.2⟩ (mm_pV X hw he hc) rfl hn hls hst (lv_room hcat) hdg hf) hw kk
theorem mm_callVN (X : mm_Cx p s m args meth c G own cc nL rt) (hw : mm_W G.1 vwCl A H0 M H locs) (hC : Ct l y bytes maxL ret rm G (.ref b :: As) M post) (he : M b = some (.inr (ci, fs))) (hc : vwCl[ci]? = some r) (hwd : mm_wB y bytes maxL ret n ∧ Cond.methodLinkNest own index y host ∈ mm_NW ∧ Cond.instanceMethod y ∈ mT ∧ Cond.selects r.1 y y ∈ mT)
    (hR : rm.frames + 1 ≤ R.frames ∧ 8 + (maxL + 11) + rm.locals ≤ R.locals) (hf : cells + rm.cells ≤ R.cells ∧ slots + rm.slots ≤ R.slots) (hn : As.length = n) (hst : st0 = As.reverse ++ .ref b :: rest) (hcat : (rest.map fun v => v.category).sum ≤ 8) (hls : ls.size = nL) (hdg : decode cc pc = .ok (.invokevirtual index, 3))
    (kk : ∀ (v : Option Value) (M1 : mM) (H1 : Heap) (locs1 : List Loc), post v M1 → mm_W G.1 vwCl A H0 M1 H1 locs1 → W p l e R s m args below meth c H1 locs1 (cells + rm.cells) (slots + rm.slots) Q (F0 m (pc + 3) ls (v.toList ++ rest))) : W p l e R s m args below meth c H locs cells slots Q (F0 m pc ls st0) :=
  mm_call (va_runVN (mm_fix X) (hC H.size) ⟨mm_BN X hwd.1 hwd.2.1 hR, X.2.2.2.2.1 _ hwd.2.2.1, X.2.2.2.2.1 _ hwd.2.2.2⟩ (mm_pV X hw he hc) rfl hn hls hst (lv_room hcat) hdg hf) hw kk
theorem mm_callS (X : mm_Cx p s m args meth c G own cc nL rt) (hw : mm_W G.1 vwCl A H0 M H locs) (hC : Ct l y bytes maxL ret rm G As M post) (hwd : mm_wB y bytes maxL ret n ∧ Cond.methodLink own index y ∈ mT ∧ Cond.static y ∈ mT)
    (hR : rm.frames + 1 ≤ R.frames ∧ 8 + (maxL + 11) + rm.locals ≤ R.locals) (hf : cells + rm.cells ≤ R.cells ∧ slots + rm.slots ≤ R.slots) (hn : As.length = n) (hst : st0 = As.reverse ++ rest) (hcat : (rest.map fun v => v.category).sum ≤ 8) (hls : ls.size = nL) (hdg : decode cc pc = .ok (.invokestatic index, 3))
    (kk : ∀ (v : Option Value) (M1 : mM) (H1 : Heap) (locs1 : List Loc), post v M1 → mm_W G.1 vwCl A H0 M1 H1 locs1 → W p l e R s m args below meth c H1 locs1 (cells + rm.cells) (slots + rm.slots) Q (F0 m (pc + 3) ls (v.toList ++ rest))) : W p l e R s m args below meth c H locs cells slots Q (F0 m pc ls st0) :=
  mm_call (va_runS (mm_fix X) (hC H.size) ⟨mm_B X hwd.1 hwd.2.1 hR, X.2.2.2.2.1 _ hwd.2.2⟩ (mm_pS X hw) rfl hn hls hst (lv_room hcat) hdg hf) hw kk
theorem mm_callSN (X : mm_Cx p s m args meth c G own cc nL rt) (hw : mm_W G.1 vwCl A H0 M H locs) (hC : Ct l y bytes maxL ret rm G As M post) (hwd : mm_wB y bytes maxL ret n ∧ Cond.methodLinkNest own index y host ∈ mm_NW ∧ Cond.static y ∈ mT)
    (hR : rm.frames + 1 ≤ R.frames ∧ 8 + (maxL + 11) + rm.locals ≤ R.locals) (hf : cells + rm.cells ≤ R.cells ∧ slots + rm.slots ≤ R.slots) (hn : As.length = n) (hst : st0 = As.reverse ++ rest) (hcat : (rest.map fun v => v.category).sum ≤ 8) (hls : ls.size = nL) (hdg : decode cc pc = .ok (.invokestatic index, 3))
    (kk : ∀ (v : Option Value) (M1 : mM) (H1 : Heap) (locs1 : List Loc), post v M1 → mm_W G.1 vwCl A H0 M1 H1 locs1 → W p l e R s m args below meth c H1 locs1 (cells + rm.cells) (slots + rm.slots) Q (F0 m (pc + 3) ls (v.toList ++ rest))) : W p l e R s m args below meth c H locs cells slots Q (F0 m pc ls st0) :=
  mm_call (va_runSN (mm_fix X) (hC H.size) ⟨mm_BN X hwd.1 hwd.2.1 hR, X.2.2.2.2.1 _ hwd.2.2, trivial⟩ (mm_pS X hw) rfl hn hls hst (lv_room hcat) hdg hf) hw kk
theorem mm_callI (X : mm_Cx p s m args meth c G own cc nL rt) (hw : mm_W G.1 vwCl A H0 M H locs) (hC : Ct l y bytes maxL none rm G (.ref b :: As) M post) (hwd : mm_wB y bytes maxL none n ∧ Cond.methodLink own index y ∈ mT ∧ y.name = "<init>" ∧ Cond.instanceMethod y ∈ mT)
    (hR : rm.frames + 1 ≤ R.frames ∧ 8 + (maxL + 11) + rm.locals ≤ R.locals) (hf : cells + rm.cells ≤ R.cells ∧ slots + rm.slots ≤ R.slots) (hn : As.length = n) (hst : st0 = As.reverse ++ .ref b :: rest) (hcat : (rest.map fun v => v.category).sum ≤ 8) (hls : ls.size = nL) (hdg : decode cc pc = .ok (.invokespecial index, 3))
    (kk : ∀ (v : Option Value) (M1 : mM) (H1 : Heap) (locs1 : List Loc), post v M1 → mm_W G.1 vwCl A H0 M1 H1 locs1 → W p l e R s m args below meth c H1 locs1 (cells + rm.cells) (slots + rm.slots) Q (F0 m (pc + 3) ls (v.toList ++ rest))) : W p l e R s m args below meth c H locs cells slots Q (F0 m pc ls st0) :=
  mm_call (va_runI (mm_fix X) (hC H.size) ⟨mm_B X hwd.1 hwd.2.1 hR, hwd.2.2.1, X.2.2.2.2.1 _ hwd.2.2.2⟩ (mm_pS X hw) rfl hn hls hst (lv_room hcat) hdg hf) hw kk
end MMC
