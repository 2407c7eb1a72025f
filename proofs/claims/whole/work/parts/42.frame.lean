/-! calls that need a part of the map only: the rest stays -/
def mm_or (A B : mM) : mM := fun q => match A q with
  | some x => some x
  | none => B q
theorem mm_or_l {A B : mM} {q : Nat} {x : va_E} (h : A q = some x) : mm_or A B q = some x := by unfold mm_or; rw [h]
theorem mm_or_r {A B : mM} {q : Nat} (h : A q = none) : mm_or A B q = B q := by unfold mm_or; rw [h]
theorem mm_or_c {A B : mM} (hd : ∀ q, A q = none ∨ B q = none) : mm_or A B = mm_or B A := by
  funext q
  cases ha : A q with
  | none =>
    rw [mm_or_r ha]
    cases hb : B q with
    | none => rw [mm_or_r hb, ha]
    | some y => rw [mm_or_l hb]
  | some x =>
    rw [mm_or_l ha]
    have hb : B q = none := (hd q).resolve_left (fun h => by rw [ha] at h; cases h)
    rw [mm_or_r hb, ha]
def mm_1 (a : Nat) (x : va_E) : mM := fun q => if q = a then some x else none
theorem mm_1s (a : Nat) (x : va_E) : mm_1 a x a = some x := if_pos rfl
theorem mm_1n {a q : Nat} (x : va_E) (h : q ≠ a) : mm_1 a x q = none := if_neg h
theorem mm_W.sub {D : va_G} {clx : List vw_C} {A : Nat → Prop} {H0 H : Heap} {M M' : mM} {locs : List Loc} (hw : mm_W D clx A H0 M H locs) (hs : ∀ q x, M' q = some x → M q = some x) : mm_W D clx A H0 M' H locs :=
  ⟨fun q x h => hw.1 q x (hs q x h), hw.2.1, fun q x h => hw.2.2.1 q x (hs q x h), hw.2.2.2⟩
theorem EV.mono {G : mG} {L : Nat → Nat → Nat} {S : sS} {cs ar : Nat → Int64} {J : eJ} {M M' : mM} (h : EV G L S cs ar J M) (hm : ∀ z, M z ≠ none → M' z = M z) : EV G L S cs ar J M' :=
  ⟨fun k i hk => (hm _ (sm_ne (h.1 k i hk))).trans (h.1 k i hk), h.2⟩
section MMF
variable {p : Program} {l : Launch} {e : Env} {R : Room} {s : State} {m : MethodId} {args : Array Value} {below : List Frame} {meth : Method} {c : Code} {H : Heap} {locs : List Loc} {cells slots : Nat} {Q : State → Prop}
variable {cc : ByteArray} {pc : Nat} {ls : Array Slot} {rest st0 : List Value} {G : mG} {A : Nat → Prop} {H0 : Heap} {M Mc Mf : mM} {own : String} {nL mc ms : Nat} {post : Option Value → mM → Prop}
theorem mm_callF {a : Array Value} (hr : va_Run p l e R s m args below meth c H locs cells slots mc ms (F0 m pc ls st0) rest (ct_Q G Mc H.size post a) (ct_A Mc H.size)) (hw : mm_W G.1 vwCl A H0 M H locs) (hs : ∀ q x, mm_or Mc Mf q = some x → M q = some x) (hd : ∀ q, Mc q = none ∨ Mf q = none)
    (kk : ∀ (v : Option Value) (M1 : mM) (H1 : Heap) (locs1 : List Loc), post v M1 → (∀ q, M1 q = none ∨ Mf q = none) → mm_W G.1 vwCl A H0 (mm_or M1 Mf) H1 locs1 → W p l e R s m args below meth c H1 locs1 (cells + mc) (slots + ms) Q (F0 m (pc + 3) ls (v.toList ++ rest))) : W p l e R s m args below meth c H locs cells slots Q (F0 m pc ls st0) := by
  intro T hT X
  obtain ⟨v, st₀, t, T', L, h0, X', hL, e1, e2, ⟨⟨v', M1, hv, hp, hm1, ha1⟩, hz, hk⟩, st⟩ := hr T hT X
  cases hv
  rw [h0] at hz hk
  have hS := hw.2.1
  have hcM : ∀ q x, Mc q = some x → M q = some x := fun q x h => hs q x (mm_or_l h)
  have hfM : ∀ q x, Mf q = some x → M q = some x := fun q x h => hs q x (by
    rcases hd q with h9 | h9
    · rw [mm_or_r h9]; exact h
    · rw [h9] at h; cases h)
  have hsub : ∀ q, ct_A Mc H.size q → A q := by
    intro q hq
    rcases hq with hq | hq
    · cases hc : Mc q with
      | none => exact absurd hc hq
      | some x => exact hw.2.2.1 q x (hcM q x hc)
    · exact hw.2.2.2 q (Nat.le_trans hS.1 hq)
  have hout : ∀ q x, Mf q = some x → ¬ ct_A Mc H.size q := by
    intro q x hx hq
    rcases hq with hq | hq
    · rcases hd q with h9 | h9
      · exact hq h9
      · rw [h9] at hx; cases hx
    · have h9 := (hw.1 q x (hfM q x hx)).lt
      exact absurd hq (by simpa using h9)
  have hd1 : ∀ q, M1 q = none ∨ Mf q = none := by
    intro q
    cases hq : Mf q with
    | none => exact Or.inr rfl
    | some x =>
      left
      cases hq1 : M1 q with
      | none => rfl
      | some y => exact absurd (ha1 q y hq1) (hout q x hq)
  obtain ⟨t2, a1, b1⟩ := kk v M1 T'.heap (locs ++ L) hp hd1 ⟨fun q x hx => (by
      rcases hd1 q with h9 | h9
      · rw [mm_or_r h9] at hx
        have hlt := (hw.1 q x (hfM q x hx)).lt
        refine (hw.1 q x (hfM q x hx)).kept ?_
        rw [e1]; exact hk q (by simpa using hlt) (hout q x hx)
      · cases h8 : M1 q with
        | none => rw [mm_or_r h8, h9] at hx; cases hx
        | some y =>
          rw [mm_or_l h8] at hx
          cases hx
          rw [e1]; exact hm1 q _ h8), ⟨Nat.le_trans hS.1 (by rw [e1]; exact hz), fun q h1 h2 => by rw [e1, hk q (Nat.lt_of_lt_of_le h1 hS.1) (fun z => h2 (hsub q z))]; exact hS.2.1 q h1 h2, fun q hq => by
      rcases List.mem_append.mp hq with h | h
      · exact hS.2.2 q h
      · exact hsub _ (hL q h)⟩, fun q x hx => (by
      cases h8 : M1 q with
      | none => rw [mm_or_r h8] at hx; exact hw.2.2.1 q x (hfM q x hx)
      | some y => exact hsub q (ha1 q y h8)), hw.2.2.2⟩ T' rfl X'
  exact ⟨t2, st t2 a1, b1⟩
variable {y : MethodName} {bytes : ByteArray} {maxL index n ci : Nat} {ret rt : Option FieldType} {rm : Room} {b : Nat} {As fs : List Value} {C host : String} {r : vw_C}
theorem mm_callVF (X : mm_Cx p s m args meth c G own cc nL rt) (hw : mm_W G.1 vwCl A H0 M H locs) (hs : ∀ q x, mm_or Mc Mf q = some x → M q = some x) (hd : ∀ q, Mc q = none ∨ Mf q = none) (hC : Ct l y bytes maxL ret rm G (.ref b :: As) Mc post) (he : Mc b = some (.inr (ci, fs))) (hc : vwCl[ci]? = some r) (hwd : mm_wB y bytes maxL ret n ∧ Cond.methodLink own index y ∈ mT ∧ Cond.instanceMethod y ∈ mT ∧ Cond.selects r.1 y y ∈ mT)
    (hR : rm.frames + 1 ≤ R.frames ∧ 8 + (maxL + 11) + rm.locals ≤ R.locals) (hf : cells + rm.cells ≤ R.cells ∧ slots + rm.slots ≤ R.slots) (hn : As.length = n) (hst : st0 = As.reverse ++ .ref b :: rest) (hcat : (rest.map fun v => v.category).sum ≤ 8) (hls : ls.size = nL) (hdg : decode cc pc = .ok (.invokevirtual index, 3))
    (kk : ∀ (v : Option Value) (M1 : mM) (H1 : Heap) (locs1 : List Loc), post v M1 → (∀ q, M1 q = none ∨ Mf q = none) → mm_W G.1 vwCl A H0 (mm_or M1 Mf) H1 locs1 → W p l e R s m args below meth c H1 locs1 (cells + rm.cells) (slots + rm.slots) Q (F0 m (pc + 3) ls (v.toList ++ rest))) : W p l e R s m args below meth c H locs cells slots Q (F0 m pc ls st0) :=
  mm_callF (va_runV (mm_fix X) (hC H.size) ⟨mm_B X hwd.1 hwd.2.1 hR, X.2.2.2.2.1 _ hwd.2.2.1, X.2.2.2.2.1 _ hwd.2.2.2⟩ (mm_pV X (hw.sub (fun q x h => hs q x (mm_or_l h))) he hc) rfl hn hls hst (lv_room hcat) hdg hf) hw hs hd kk
theorem mm_callIF (X : mm_Cx p s m args meth c G own cc nL rt) (hw : mm_W G.1 vwCl A H0 M H locs) (hs : ∀ q x, mm_or Mc Mf q = some x → M q = some x) (hd : ∀ q, Mc q = none ∨ Mf q = none) (hC : Ct l y bytes maxL none rm G (.ref b :: As) Mc post) (hwd : mm_wB y bytes maxL none n ∧ Cond.methodLink own index y ∈ mT ∧ y.name = "<init>" ∧ Cond.instanceMethod y ∈ mT)
    (hR : rm.frames + 1 ≤ R.frames ∧ 8 + (maxL + 11) + rm.locals ≤ R.locals) (hf : cells + rm.cells ≤ R.cells ∧ slots + rm.slots ≤ R.slots) (hn : As.length = n) (hst : st0 = As.reverse ++ .ref b :: rest) (hcat : (rest.map fun v => v.category).sum ≤ 8) (hls : ls.size = nL) (hdg : decode cc pc = .ok (.invokespecial index, 3))
    (kk : ∀ (v : Option Value) (M1 : mM) (H1 : Heap) (locs1 : List Loc), post v M1 → (∀ q, M1 q = none ∨ Mf q = none) → mm_W G.1 vwCl A H0 (mm_or M1 Mf) H1 locs1 → W p l e R s m args below meth c H1 locs1 (cells + rm.cells) (slots + rm.slots) Q (F0 m (pc + 3) ls (v.toList ++ rest))) : W p l e R s m args below meth c H locs cells slots Q (F0 m pc ls st0) :=
  mm_callF (va_runI (mm_fix X) (hC H.size) ⟨mm_B X hwd.1 hwd.2.1 hR, hwd.2.2.1, X.2.2.2.2.1 _ hwd.2.2.2⟩ (mm_pS X (hw.sub (fun q x h => hs q x (mm_or_l h)))) rfl hn hls hst (lv_room hcat) hdg hf) hw hs hd kk
end MMF
