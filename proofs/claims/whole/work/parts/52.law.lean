theorem law_ac {s : State} {b : Nat} {ty : FieldType} (h : (Cond.arrayClass ty).before #[Value.ref b] s = true) (hp : ∀ C, ty ≠ .object C) : ∃ cA : ClassId, ArrOfT s cA ty ∧ va_RA s cA ty := by
  obtain ⟨cA, kA, comp, h1, h2, h3⟩ := Cond.arrayClass_spec h
  refine ⟨cA, fun n z => ⟨fun k h => (by cases h), kA, h2, comp, h3⟩, ?_⟩
  cases ty with
  | object C => exact absurd rfl (hp C)
  | _ => exact h1
theorem law_ao {s : State} {b : Nat} {C : String} (h : (Cond.arrayOver (.object C)).before #[Value.ref b] s = true) : ∃ cA : ClassId, ArrOfT s cA (.object C) ∧ va_RA s cA (.object C) := by
  obtain ⟨comp, c, k, h1, h2, h3, h4, h5⟩ := Cond.arrayOver_spec h
  exact ⟨c, fun n z => ⟨fun k h => (by cases h), k, h3, comp, h4⟩, k, comp, h3, h4, h1, h5⟩
theorem law_K {s : State} {b : Nat} (hts : ∀ w ∈ lw_tbl, w.before #[Value.ref b] s = true) : ∃ G : mG, mm_K G s := by
  have hm : ∀ w ∈ mT, w.before #[Value.ref b] s = true := fun w h => hts w (mT_in h)
  obtain ⟨c0, i0, k0⟩ := u_known (C := RX0) (T := TX0) (N := 1) (n := 1) hm hin_X0 (hm _ is_X0)
  obtain ⟨c1, i1, k1⟩ := u_known (C := RX1) (T := TX1) (N := 6) (n := 6) hm hin_X1 (hm _ is_X1)
  obtain ⟨c2, i2, k2⟩ := u_known (C := RX2) (T := TX2) (N := 5) (n := 5) hm hin_X2 (hm _ is_X2)
  obtain ⟨c3, i3, k3⟩ := u_known (C := RX3) (T := TX3) (N := 5) (n := 5) hm hin_X3 (hm _ is_X3)
  obtain ⟨c4, i4, k4⟩ := u_known (C := RX4) (T := TX4) (N := 3) (n := 3) hm hin_X4 (hm _ is_X4)
  obtain ⟨c5, i5, k5⟩ := u_known (C := RX5) (T := TX5) (N := 4) (n := 4) hm hin_X5 (hm _ is_X5)
  obtain ⟨c6, i6, k6⟩ := u_known (C := RX6) (T := TX6) (N := 12) (n := 12) hm hin_X6 (hm _ is_X6)
  obtain ⟨c7, i7, k7⟩ := u_known (C := RX7) (T := TX7) (N := 28) (n := 28) hm hin_X7 (hm _ is_X7)
  obtain ⟨a0, p0⟩ := law_ac (hm _ ac_int) (fun C h => by cases h)
  obtain ⟨a1, p1⟩ := law_ac (hm _ ac_long) (fun C h => by cases h)
  obtain ⟨a2, p2⟩ := law_ac (hm _ ac_boolean) (fun C h => by cases h)
  obtain ⟨a3, p3⟩ := law_ao (hts _ ao_X2_l)
  obtain ⟨a4, p4⟩ := law_ao (hts _ ao_X5_l)
  obtain ⟨a5, p5⟩ := law_ao (hts _ ao_X1_l)
  obtain ⟨a6, p6⟩ := law_ao (hts _ ao_X3_l)
  refine ⟨((fun k => [c0, c1, c2, c3, c4, c5, c6, c7].getD k c0, fun k => [i0, i1, i2, i3, i4, i5, i6, i7].getD k i0), fun k => [a0, a1, a2, a3, a4, a5, a6].getD k a0), ⟨fun k q hq => ?_, fun k q hq => ?_⟩, fun w h => ?_, fun C h => ?_⟩
  · match k, hq with
    | 0, hq => cases hq; exact k0
    | 1, hq => cases hq; exact k1
    | 2, hq => cases hq; exact k2
    | 3, hq => cases hq; exact k3
    | 4, hq => cases hq; exact k4
    | 5, hq => cases hq; exact k5
    | 6, hq => cases hq; exact k6
    | 7, hq => cases hq; exact k7
    | n + 8, hq => simp [vwCl] at hq
  · match k, hq with
    | 0, hq => cases hq; exact p0
    | 1, hq => cases hq; exact p1
    | 2, hq => cases hq; exact p2
    | 3, hq => cases hq; exact p3
    | 4, hq => cases hq; exact p4
    | 5, hq => cases hq; exact p5
    | 6, hq => cases hq; exact p6
    | n + 7, hq => simp [mm_ty] at hq
  · exact va_Nw.of (by rcases mm_NW_ok w h with ⟨_, _, _, _, _, _, rfl⟩ | ⟨_, _, _, _, rfl⟩ <;> rfl) (hts w (mm_NW_l w h))
  · simp only [mm_AO, List.mem_cons, List.not_mem_nil, or_false] at h
    rcases h with rfl | rfl | rfl | rfl
    · exact va_AO.of (hts _ ao_X2_l)
    · exact va_AO.of (hts _ ao_X5_l)
    · exact va_AO.of (hts _ ao_X1_l)
    · exact va_AO.of (hts _ ao_X3_l)
/-- the law's own addresses: what is new -/
abbrev LA (s : State) : Nat → Prop := fun q => s.heap.size ≤ q
section SCR
variable {p : Program} {l : Launch} {e : Env} {R : Room} {s : State} {m : MethodId} {args : Array Value} {below : List Frame} {meth : Method} {c : Code} {H : Heap} {locs : List Loc} {cells slots : Nat} {Q : State → Prop}
variable {cc : ByteArray} {pc : Nat} {ls : Array Slot} {rest : List Value} {b L : Nat} {xs : Nat → Int32} {D : va_G} {cl' : List vw_C} {M : mM}
theorem sc_ld (hexec : p.tables.exec = Jvm.exec) (hb : c.code = cc) (hX : va_X b L xs s s.heap) (hbl : b < s.heap.size) (hw : mm_W D cl' (LA s) s.heap M H locs) (hL : L ≤ 2560) {x : Int32} (j : Nat) (hx : x = nI j) (hj : j < L) (hdg : decode cc pc = .ok (.iaload, 1))
    (kk : W p l e R s m args below meth c H locs cells slots Q (F0 m (pc + 1) ls (.int (xs j) :: rest))) : W p l e R s m args below meth c H locs cells slots Q (F0 m pc ls (.int x :: .ref b :: rest)) := by
  refine va_sld hexec hb hX hbl (Nat.not_le.mpr hbl) hw.2.1 (vin_n hx hj (by omega)) hdg ?_
  rw [hx, nI_clamp (by omega)]
  exact kk
theorem sc_len (hexec : p.tables.exec = Jvm.exec) (hb : c.code = cc) (hX : va_X b L xs s s.heap) (hbl : b < s.heap.size) (hw : mm_W D cl' (LA s) s.heap M H locs) (hdg : decode cc pc = .ok (.arraylength, 1))
    (kk : W p l e R s m args below meth c H locs cells slots Q (F0 m (pc + 1) ls (.int (nI L) :: rest))) : W p l e R s m args below meth c H locs cells slots Q (F0 m pc ls (.ref b :: rest)) :=
  va_slen hexec hb hX hbl (Nat.not_le.mpr hbl) hw.2.1 hdg kk
end SCR
theorem sc_more {L i : Nat} (hL : L ≤ 2560) (hi : i ≤ L) (h : ¬ nI L - 5 < nI i) : i + 5 ≤ L := by
  rw [Int32.lt_iff_toInt_lt, Int32.toInt_sub, nI_toInt (by omega), nI_toInt (by omega), show (5 : Int32).toInt = 5 from rfl, Int.bmod_eq_of_le (by omega) (by omega)] at h
  omega
theorem INV.kp {S : sS} {cs : Nat → Int64} {ne nn nc nl ht : Nat} (h : INV S cs ne nn nc nl ht) : ∀ i, i < cl (S 12 0) → S 13 i = -1 ∨ cl (S 13 i) < ne := fun i hi => by
  have hN := h.nm
  obtain ⟨n0, n1, n2, n7, n8, n12, n13, n18, n19, n5, n6⟩ := hN
  rw [n12, cl_n (by omega)] at hi
  obtain ⟨k, q1, q2, q3, q4⟩ := h.wk i hi
  rcases q4 with q4 | ⟨e, he, q5, -⟩
  · exact Or.inl q4
  · exact Or.inr (by rw [q5, cl_n (by omega)]; exact he)
theorem INV.w1 {S : sS} {cs : Nat → Int64} {ne nn nc nl ht : Nat} (h : INV S cs ne nn nc nl ht) : ∀ i, i < nc → ∃ k, k ≤ 24 ∧ S 14 i = nI k ∧ AC S i k := fun i hi => by
  obtain ⟨k, q1, q2, q3, -⟩ := h.wk i hi
  exact ⟨k, q1, q2, q3⟩
theorem INV.w2 {S : sS} {cs : Nat → Int64} {ne nn nc nl ht : Nat} (h : INV S cs ne nn nc nl ht) : ∀ i, i < nc → ∃ k, k ≤ 24 ∧ S 14 i = nI k := fun i hi => by
  obtain ⟨k, q1, q2, -⟩ := h.wk i hi
  exact ⟨k, q1, q2⟩
theorem INV.wh {S : sS} {cs : Nat → Int64} {ne nn nc nl ht : Nat} (h : INV S cs ne nn nc nl ht) : WH S ne ht := fun j hj => ⟨_, if_go_lt S (nI j) ne h.nm.2.1, h.fi j hj⟩
theorem ps_11 (S : sS) (x y v : Int32) : (sp_price S x y v).2 11 = S 11 := by unfold sp_price; split <;> first | rfl | (split <;> first | rfl | (split <;> first | rfl | (split <;> rfl)))
theorem me_11 (S : sS) (x y v : Int32) : (sp_member S x y v).2 11 = S 11 := by unfold sp_member; split <;> first | rfl | (split <;> first | rfl | (split <;> first | rfl | (split <;> rfl)))
theorem bd_11 (S : sS) (x y : Int32) : (sp_build S x y).2 11 = S 11 := by unfold sp_build; split <;> first | rfl | (split <;> first | rfl | (split <;> rfl))
theorem pp_11 (S : sS) (x y : Int32) : (sp_propose S x y).2 11 = S 11 := by unfold sp_propose; split <;> first | rfl | (split <;> first | rfl | (split <;> rfl))
theorem ed_11 (S : sS) (x : Int32) : (sp_edition S x).2 11 = S 11 := by unfold sp_edition; split <;> first | rfl | (split <;> rfl)
theorem no_11 (S : sS) (x y : Int32) : (sp_node S x y).2 11 = S 11 := by unfold sp_node; split <;> first | rfl | (split <;> first | rfl | (split <;> rfl))
theorem ct_11 (S : sS) : (sp_contract S).2 11 = S 11 := by unfold sp_contract; split <;> rfl
theorem ac_11 (S : sS) (x y v : Int32) : (sp_act S x y v).2 11 = S 11 := by unfold sp_act; split <;> first | rfl | (split <;> first | rfl | (split <;> first | rfl | (split <;> first | rfl | (split <;> first | rfl | (split <;> rfl)))))
theorem dp_11 (S : sS) (x : Int32) : (sp_deploy S x).2 11 = S 11 := by unfold sp_deploy; split <;> first | rfl | (split <;> first | rfl | (split <;> first | rfl | (split <;> rfl)))
theorem ru_11 (S : sS) (cs ar : Nat → Int64) (x : Int32) (g : Int64) (y : Int32) : (sp_run S cs ar x g y).2.1 11 = S 11 := by unfold sp_run; split <;> first | rfl | (split <;> first | rfl | (split <;> first | rfl | (split <;> rfl)))
theorem rs_11 (S : sS) (x : Int32) : (sp_rise S x).2 11 = S 11 := by unfold sp_rise; split <;> first | rfl | (split <;> first | rfl | exact ri_11 S _)
