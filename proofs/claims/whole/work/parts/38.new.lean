theorem ne_new {M : mM} {a b : Nat} {x : va_E} (ha : M a = some x) (hb : M b = none) : a ≠ b := fun e => by rw [e, hb] at ha; cases ha
theorem sm_ne {M : mM} {a : Nat} {x : va_E} (ha : M a = some x) : M a ≠ none := fun e => by rw [e] at ha; cases ha
section MNW
variable {p : Program} {l : Launch} {e : Env} {R : Room} {s : State} {m : MethodId} {args : Array Value} {below : List Frame} {meth : Method} {c : Code} {H : Heap} {locs : List Loc} {cells slots : Nat} {Q : State → Prop}
variable {cc : ByteArray} {pc index : Nat} {ls : Array Slot} {rest : List Value} {G : mG} {A : Nat → Prop} {H0 : Heap} {M : mM} {own : String} {nL a : Nat} {rt : Option FieldType}
theorem nd_X0 : ∀ j, j < 1 → defaultValue (tyX0 j) = vp_V [.null] j := by
  intro j hj
  match j, hj with
  | 0, _ => rfl
  | n + 1, h => exact absurd h (by omega)
theorem nw_X0 (X : mm_Cx p s m args meth c G own cc nL rt) (hw : mm_W G.1 vwCl A H0 M H locs) (hcl : Cond.classLink own index RX0 ∈ mT) (hcells : cells + 1 ≤ R.cells) (hslots : slots + 1 ≤ R.slots) (hdg : decode cc pc = .ok (.new index, 3)) (kk : ∀ (q : Nat) (H1 : Heap), M q = none → mm_W G.1 vwCl A H0 (mm_up M q (.inr (0, [.null]))) H1 locs → W p l e R s m args below meth c H1 locs (cells + 1) (slots + 1) Q (F0 m (pc + 3) ls (.ref q :: rest))) : W p l e R s m args below meth c H locs cells slots Q (F0 m pc ls rest) := mm_new X.1 X.2.1 X.2.2.2.2.1 hin_X0 tyX0 tyX0_ok X.2.2.2.1 (X.2.2.2.2.1 _ hcl) (X.2.2.2.2.1 _ is_X0) (X.2.2.2.2.1 _ in_X0) X.2.2.2.2.2.1.1 hw (ci := 0) rfl nd_X0 hcells hslots hdg kk
theorem nd_X1 : ∀ j, j < 6 → defaultValue (tyX1 j) = vp_V [.null, .null, .null, .null, .int 0, .null] j := by
  intro j hj
  match j, hj with
  | 0, _ => rfl
  | 1, _ => rfl
  | 2, _ => rfl
  | 3, _ => rfl
  | 4, _ => rfl
  | 5, _ => rfl
  | n + 6, h => exact absurd h (by omega)
theorem nw_X1 (X : mm_Cx p s m args meth c G own cc nL rt) (hw : mm_W G.1 vwCl A H0 M H locs) (hcl : Cond.classLink own index RX1 ∈ mT) (hcells : cells + 1 ≤ R.cells) (hslots : slots + 6 ≤ R.slots) (hdg : decode cc pc = .ok (.new index, 3)) (kk : ∀ (q : Nat) (H1 : Heap), M q = none → mm_W G.1 vwCl A H0 (mm_up M q (.inr (1, [.null, .null, .null, .null, .int 0, .null]))) H1 locs → W p l e R s m args below meth c H1 locs (cells + 1) (slots + 6) Q (F0 m (pc + 3) ls (.ref q :: rest))) : W p l e R s m args below meth c H locs cells slots Q (F0 m pc ls rest) := mm_new X.1 X.2.1 X.2.2.2.2.1 hin_X1 tyX1 tyX1_ok X.2.2.2.1 (X.2.2.2.2.1 _ hcl) (X.2.2.2.2.1 _ is_X1) (X.2.2.2.2.1 _ in_X1) X.2.2.2.2.2.1.1 hw (ci := 1) rfl nd_X1 hcells hslots hdg kk
theorem nd_X2 : ∀ j, j < 5 → defaultValue (tyX2 j) = vp_V [.int 0, .null, .null, .int 0, .int 0] j := by
  intro j hj
  match j, hj with
  | 0, _ => rfl
  | 1, _ => rfl
  | 2, _ => rfl
  | 3, _ => rfl
  | 4, _ => rfl
  | n + 5, h => exact absurd h (by omega)
theorem nw_X2 (X : mm_Cx p s m args meth c G own cc nL rt) (hw : mm_W G.1 vwCl A H0 M H locs) (hcl : Cond.classLink own index RX2 ∈ mT) (hcells : cells + 1 ≤ R.cells) (hslots : slots + 5 ≤ R.slots) (hdg : decode cc pc = .ok (.new index, 3)) (kk : ∀ (q : Nat) (H1 : Heap), M q = none → mm_W G.1 vwCl A H0 (mm_up M q (.inr (2, [.int 0, .null, .null, .int 0, .int 0]))) H1 locs → W p l e R s m args below meth c H1 locs (cells + 1) (slots + 5) Q (F0 m (pc + 3) ls (.ref q :: rest))) : W p l e R s m args below meth c H locs cells slots Q (F0 m pc ls rest) := mm_new X.1 X.2.1 X.2.2.2.2.1 hin_X2 tyX2 tyX2_ok X.2.2.2.1 (X.2.2.2.2.1 _ hcl) (X.2.2.2.2.1 _ is_X2) (X.2.2.2.2.1 _ in_X2) X.2.2.2.2.2.1.1 hw (ci := 2) rfl nd_X2 hcells hslots hdg kk
theorem nd_X3 : ∀ j, j < 5 → defaultValue (tyX3 j) = vp_V [.int 0, .long 0, .int 0, .int 0, .int 0] j := by
  intro j hj
  match j, hj with
  | 0, _ => rfl
  | 1, _ => rfl
  | 2, _ => rfl
  | 3, _ => rfl
  | 4, _ => rfl
  | n + 5, h => exact absurd h (by omega)
theorem nw_X3 (X : mm_Cx p s m args meth c G own cc nL rt) (hw : mm_W G.1 vwCl A H0 M H locs) (hcl : Cond.classLink own index RX3 ∈ mT) (hcells : cells + 1 ≤ R.cells) (hslots : slots + 5 ≤ R.slots) (hdg : decode cc pc = .ok (.new index, 3)) (kk : ∀ (q : Nat) (H1 : Heap), M q = none → mm_W G.1 vwCl A H0 (mm_up M q (.inr (3, [.int 0, .long 0, .int 0, .int 0, .int 0]))) H1 locs → W p l e R s m args below meth c H1 locs (cells + 1) (slots + 5) Q (F0 m (pc + 3) ls (.ref q :: rest))) : W p l e R s m args below meth c H locs cells slots Q (F0 m pc ls rest) := mm_new X.1 X.2.1 X.2.2.2.2.1 hin_X3 tyX3 tyX3_ok X.2.2.2.1 (X.2.2.2.2.1 _ hcl) (X.2.2.2.2.1 _ is_X3) (X.2.2.2.2.1 _ in_X3) X.2.2.2.2.2.1.1 hw (ci := 3) rfl nd_X3 hcells hslots hdg kk
theorem nd_X4 : ∀ j, j < 3 → defaultValue (tyX4 j) = vp_V [.null, .null, .int 0] j := by
  intro j hj
  match j, hj with
  | 0, _ => rfl
  | 1, _ => rfl
  | 2, _ => rfl
  | n + 3, h => exact absurd h (by omega)
theorem nw_X4 (X : mm_Cx p s m args meth c G own cc nL rt) (hw : mm_W G.1 vwCl A H0 M H locs) (hcl : Cond.classLink own index RX4 ∈ mT) (hcells : cells + 1 ≤ R.cells) (hslots : slots + 3 ≤ R.slots) (hdg : decode cc pc = .ok (.new index, 3)) (kk : ∀ (q : Nat) (H1 : Heap), M q = none → mm_W G.1 vwCl A H0 (mm_up M q (.inr (4, [.null, .null, .int 0]))) H1 locs → W p l e R s m args below meth c H1 locs (cells + 1) (slots + 3) Q (F0 m (pc + 3) ls (.ref q :: rest))) : W p l e R s m args below meth c H locs cells slots Q (F0 m pc ls rest) := mm_new X.1 X.2.1 X.2.2.2.2.1 hin_X4 tyX4 tyX4_ok X.2.2.2.1 (X.2.2.2.2.1 _ hcl) (X.2.2.2.2.1 _ is_X4) (X.2.2.2.2.1 _ in_X4) X.2.2.2.2.2.1.1 hw (ci := 4) rfl nd_X4 hcells hslots hdg kk
theorem nd_X5 : ∀ j, j < 4 → defaultValue (tyX5 j) = vp_V [.int 0, .int 0, .int 0, .int 0] j := by
  intro j hj
  match j, hj with
  | 0, _ => rfl
  | 1, _ => rfl
  | 2, _ => rfl
  | 3, _ => rfl
  | n + 4, h => exact absurd h (by omega)
theorem nw_X5 (X : mm_Cx p s m args meth c G own cc nL rt) (hw : mm_W G.1 vwCl A H0 M H locs) (hcl : Cond.classLink own index RX5 ∈ mT) (hcells : cells + 1 ≤ R.cells) (hslots : slots + 4 ≤ R.slots) (hdg : decode cc pc = .ok (.new index, 3)) (kk : ∀ (q : Nat) (H1 : Heap), M q = none → mm_W G.1 vwCl A H0 (mm_up M q (.inr (5, [.int 0, .int 0, .int 0, .int 0]))) H1 locs → W p l e R s m args below meth c H1 locs (cells + 1) (slots + 4) Q (F0 m (pc + 3) ls (.ref q :: rest))) : W p l e R s m args below meth c H locs cells slots Q (F0 m pc ls rest) := mm_new X.1 X.2.1 X.2.2.2.2.1 hin_X5 tyX5 tyX5_ok X.2.2.2.1 (X.2.2.2.2.1 _ hcl) (X.2.2.2.2.1 _ is_X5) (X.2.2.2.2.1 _ in_X5) X.2.2.2.2.2.1.1 hw (ci := 5) rfl nd_X5 hcells hslots hdg kk
theorem nd_X6 : ∀ j, j < 12 → defaultValue (tyX6 j) = vp_V [.null, .null, .null, .null, .null, .null, .int 0, .int 0, .int 0, .int 0, .int 0, .int 0] j := by
  intro j hj
  match j, hj with
  | 0, _ => rfl
  | 1, _ => rfl
  | 2, _ => rfl
  | 3, _ => rfl
  | 4, _ => rfl
  | 5, _ => rfl
  | 6, _ => rfl
  | 7, _ => rfl
  | 8, _ => rfl
  | 9, _ => rfl
  | 10, _ => rfl
  | 11, _ => rfl
  | n + 12, h => exact absurd h (by omega)
theorem nw_X6 (X : mm_Cx p s m args meth c G own cc nL rt) (hw : mm_W G.1 vwCl A H0 M H locs) (hcl : Cond.classLink own index RX6 ∈ mT) (hcells : cells + 1 ≤ R.cells) (hslots : slots + 12 ≤ R.slots) (hdg : decode cc pc = .ok (.new index, 3)) (kk : ∀ (q : Nat) (H1 : Heap), M q = none → mm_W G.1 vwCl A H0 (mm_up M q (.inr (6, [.null, .null, .null, .null, .null, .null, .int 0, .int 0, .int 0, .int 0, .int 0, .int 0]))) H1 locs → W p l e R s m args below meth c H1 locs (cells + 1) (slots + 12) Q (F0 m (pc + 3) ls (.ref q :: rest))) : W p l e R s m args below meth c H locs cells slots Q (F0 m pc ls rest) := mm_new X.1 X.2.1 X.2.2.2.2.1 hin_X6 tyX6 tyX6_ok X.2.2.2.1 (X.2.2.2.2.1 _ hcl) (X.2.2.2.2.1 _ is_X6) (X.2.2.2.2.1 _ in_X6) X.2.2.2.2.2.1.1 hw (ci := 6) rfl nd_X6 hcells hslots hdg kk
theorem nd_X7 : ∀ j, j < 28 → defaultValue (tyX7 j) = vp_V [.int 0, .null, .null, .null, .null, .int 0, .null, .int 0, .null, .null, .null, .null, .int 0, .null, .null, .null, .null, .null, .int 0, .null, .null, .null, .null, .null, .int 0, .null, .null, .null] j := by
  intro j hj
  match j, hj with
  | 0, _ => rfl
  | 1, _ => rfl
  | 2, _ => rfl
  | 3, _ => rfl
  | 4, _ => rfl
  | 5, _ => rfl
  | 6, _ => rfl
  | 7, _ => rfl
  | 8, _ => rfl
  | 9, _ => rfl
  | 10, _ => rfl
  | 11, _ => rfl
  | 12, _ => rfl
  | 13, _ => rfl
  | 14, _ => rfl
  | 15, _ => rfl
  | 16, _ => rfl
  | 17, _ => rfl
  | 18, _ => rfl
  | 19, _ => rfl
  | 20, _ => rfl
  | 21, _ => rfl
  | 22, _ => rfl
  | 23, _ => rfl
  | 24, _ => rfl
  | 25, _ => rfl
  | 26, _ => rfl
  | 27, _ => rfl
  | n + 28, h => exact absurd h (by omega)
theorem nw_X7 (X : mm_Cx p s m args meth c G own cc nL rt) (hw : mm_W G.1 vwCl A H0 M H locs) (hcl : Cond.classLink own index RX7 ∈ mT) (hcells : cells + 1 ≤ R.cells) (hslots : slots + 28 ≤ R.slots) (hdg : decode cc pc = .ok (.new index, 3)) (kk : ∀ (q : Nat) (H1 : Heap), M q = none → mm_W G.1 vwCl A H0 (mm_up M q (.inr (7, [.int 0, .null, .null, .null, .null, .int 0, .null, .int 0, .null, .null, .null, .null, .int 0, .null, .null, .null, .null, .null, .int 0, .null, .null, .null, .null, .null, .int 0, .null, .null, .null]))) H1 locs → W p l e R s m args below meth c H1 locs (cells + 1) (slots + 28) Q (F0 m (pc + 3) ls (.ref q :: rest))) : W p l e R s m args below meth c H locs cells slots Q (F0 m pc ls rest) := mm_new X.1 X.2.1 X.2.2.2.2.1 hin_X7 tyX7 tyX7_ok X.2.2.2.1 (X.2.2.2.2.1 _ hcl) (X.2.2.2.2.1 _ is_X7) (X.2.2.2.2.1 _ in_X7) X.2.2.2.2.2.1.1 hw (ci := 7) rfl nd_X7 hcells hslots hdg kk
theorem nw_I (X : mm_Cx p s m args meth c G own cc nL rt) (hw : mm_W G.1 vwCl A H0 M H locs) {x : Int32} (n : Nat) (hx : x = nI n) (hn : n < 65536) (hcells : cells + 1 ≤ R.cells) (hslots : slots + n ≤ R.slots) (hdg : decode cc pc = .ok (.newarray .int, 2)) (kk : ∀ (q : Nat) (H1 : Heap), M q = none → mm_W G.1 vwCl A H0 (mm_up M q (aI G n (fun _ => 0))) H1 locs → W p l e R s m args below meth c H1 locs (cells + 1) (slots + n) Q (F0 m (pc + 2) ls (.ref q :: rest))) : W p l e R s m args below meth c H locs cells slots Q (F0 m pc ls (.int x :: rest)) := mm_newa (atype := .int) X.1 X.2.1 (X.2.2.2.2.1 _ ac_int) rfl (fun C h => by cases h) X.2.2.2.2.2.1.1 hw 0 rfl (a0 := (n, .inl (fun _ => 0))) (by rw [vp_cell_i]; rfl) (by rw [hx]; exact fun h => absurd (i32_lt_nle h (nI_pos' (by omega))) (fun z => z)) (by rw [hx]; exact nI_clamp (by omega)) (by show n * 4 ≤ _; omega) hcells hslots hdg kk
theorem nw_J (X : mm_Cx p s m args meth c G own cc nL rt) (hw : mm_W G.1 vwCl A H0 M H locs) {x : Int32} (n : Nat) (hx : x = nI n) (hn : n < 65536) (hcells : cells + 1 ≤ R.cells) (hslots : slots + n ≤ R.slots) (hdg : decode cc pc = .ok (.newarray .long, 2)) (kk : ∀ (q : Nat) (H1 : Heap), M q = none → mm_W G.1 vwCl A H0 (mm_up M q (aJ G n (fun _ => 0))) H1 locs → W p l e R s m args below meth c H1 locs (cells + 1) (slots + n) Q (F0 m (pc + 2) ls (.ref q :: rest))) : W p l e R s m args below meth c H locs cells slots Q (F0 m pc ls (.int x :: rest)) := mm_newa (atype := .long) X.1 X.2.1 (X.2.2.2.2.1 _ ac_long) rfl (fun C h => by cases h) X.2.2.2.2.2.1.1 hw 1 rfl (a0 := (n, .inr (.inl (fun _ => 0)))) (by rw [vp_cell_l]; rfl) (by rw [hx]; exact fun h => absurd (i32_lt_nle h (nI_pos' (by omega))) (fun z => z)) (by rw [hx]; exact nI_clamp (by omega)) (by show n * 8 ≤ _; omega) hcells hslots hdg kk
theorem nw_Z (X : mm_Cx p s m args meth c G own cc nL rt) (hw : mm_W G.1 vwCl A H0 M H locs) {x : Int32} (n : Nat) (hx : x = nI n) (hn : n < 65536) (hcells : cells + 1 ≤ R.cells) (hslots : slots + n ≤ R.slots) (hdg : decode cc pc = .ok (.newarray .boolean, 2)) (kk : ∀ (q : Nat) (H1 : Heap), M q = none → mm_W G.1 vwCl A H0 (mm_up M q (aZ G n (fun _ => 0))) H1 locs → W p l e R s m args below meth c H1 locs (cells + 1) (slots + n) Q (F0 m (pc + 2) ls (.ref q :: rest))) : W p l e R s m args below meth c H locs cells slots Q (F0 m pc ls (.int x :: rest)) := mm_newa (atype := .boolean) X.1 X.2.1 (X.2.2.2.2.1 _ ac_boolean) rfl (fun C h => by cases h) X.2.2.2.2.2.1.1 hw 2 rfl (a0 := (n, .inl (fun _ => 0))) (by rw [vp_cell_i]; rfl) (by rw [hx]; exact fun h => absurd (i32_lt_nle h (nI_pos' (by omega))) (fun z => z)) (by rw [hx]; exact nI_clamp (by omega)) (by show n * 1 ≤ _; omega) hcells hslots hdg kk
theorem nq_X2 (X : mm_Cx p s m args meth c G own cc nL rt) (hw : mm_W G.1 vwCl A H0 M H locs) (hcl : Cond.classLink own index RX2 ∈ mT) {x : Int32} (n : Nat) (hx : x = nI n) (hn : n < 65536) (hcells : cells + 1 ≤ R.cells) (hslots : slots + n ≤ R.slots) (hdg : decode cc pc = .ok (.anewarray index, 3)) (kk : ∀ (q : Nat) (H1 : Heap), M q = none → mm_W G.1 vwCl A H0 (mm_up M q (aQ G 3 n (fun _ => none))) H1 locs → W p l e R s m args below meth c H1 locs (cells + 1) (slots + n) Q (F0 m (pc + 3) ls (.ref q :: rest))) : W p l e R s m args below meth c H locs cells slots Q (F0 m pc ls (.int x :: rest)) := mm_newq X.1 X.2.1 X.2.2.2.1 (X.2.2.2.2.1 _ hcl) (X.2.2.2.2.2.1.2.2 _ ao_X2) X.2.2.2.2.2.1.1 hw 3 rfl (by rw [hx]; exact fun h => absurd (i32_lt_nle h (nI_pos' (by omega))) (fun z => z)) (by rw [hx]; exact nI_clamp (by omega)) (by omega) hcells hslots hdg kk
theorem nq_X5 (X : mm_Cx p s m args meth c G own cc nL rt) (hw : mm_W G.1 vwCl A H0 M H locs) (hcl : Cond.classLink own index RX5 ∈ mT) {x : Int32} (n : Nat) (hx : x = nI n) (hn : n < 65536) (hcells : cells + 1 ≤ R.cells) (hslots : slots + n ≤ R.slots) (hdg : decode cc pc = .ok (.anewarray index, 3)) (kk : ∀ (q : Nat) (H1 : Heap), M q = none → mm_W G.1 vwCl A H0 (mm_up M q (aQ G 4 n (fun _ => none))) H1 locs → W p l e R s m args below meth c H1 locs (cells + 1) (slots + n) Q (F0 m (pc + 3) ls (.ref q :: rest))) : W p l e R s m args below meth c H locs cells slots Q (F0 m pc ls (.int x :: rest)) := mm_newq X.1 X.2.1 X.2.2.2.1 (X.2.2.2.2.1 _ hcl) (X.2.2.2.2.2.1.2.2 _ ao_X5) X.2.2.2.2.2.1.1 hw 4 rfl (by rw [hx]; exact fun h => absurd (i32_lt_nle h (nI_pos' (by omega))) (fun z => z)) (by rw [hx]; exact nI_clamp (by omega)) (by omega) hcells hslots hdg kk
theorem nq_X1 (X : mm_Cx p s m args meth c G own cc nL rt) (hw : mm_W G.1 vwCl A H0 M H locs) (hcl : Cond.classLink own index RX1 ∈ mT) {x : Int32} (n : Nat) (hx : x = nI n) (hn : n < 65536) (hcells : cells + 1 ≤ R.cells) (hslots : slots + n ≤ R.slots) (hdg : decode cc pc = .ok (.anewarray index, 3)) (kk : ∀ (q : Nat) (H1 : Heap), M q = none → mm_W G.1 vwCl A H0 (mm_up M q (aQ G 5 n (fun _ => none))) H1 locs → W p l e R s m args below meth c H1 locs (cells + 1) (slots + n) Q (F0 m (pc + 3) ls (.ref q :: rest))) : W p l e R s m args below meth c H locs cells slots Q (F0 m pc ls (.int x :: rest)) := mm_newq X.1 X.2.1 X.2.2.2.1 (X.2.2.2.2.1 _ hcl) (X.2.2.2.2.2.1.2.2 _ ao_X1) X.2.2.2.2.2.1.1 hw 5 rfl (by rw [hx]; exact fun h => absurd (i32_lt_nle h (nI_pos' (by omega))) (fun z => z)) (by rw [hx]; exact nI_clamp (by omega)) (by omega) hcells hslots hdg kk
theorem nq_X3 (X : mm_Cx p s m args meth c G own cc nL rt) (hw : mm_W G.1 vwCl A H0 M H locs) (hcl : Cond.classLink own index RX3 ∈ mT) {x : Int32} (n : Nat) (hx : x = nI n) (hn : n < 65536) (hcells : cells + 1 ≤ R.cells) (hslots : slots + n ≤ R.slots) (hdg : decode cc pc = .ok (.anewarray index, 3)) (kk : ∀ (q : Nat) (H1 : Heap), M q = none → mm_W G.1 vwCl A H0 (mm_up M q (aQ G 6 n (fun _ => none))) H1 locs → W p l e R s m args below meth c H1 locs (cells + 1) (slots + n) Q (F0 m (pc + 3) ls (.ref q :: rest))) : W p l e R s m args below meth c H locs cells slots Q (F0 m pc ls (.int x :: rest)) := mm_newq X.1 X.2.1 X.2.2.2.1 (X.2.2.2.2.1 _ hcl) (X.2.2.2.2.2.1.2.2 _ ao_X3) X.2.2.2.2.2.1.1 hw 6 rfl (by rw [hx]; exact fun h => absurd (i32_lt_nle h (nI_pos' (by omega))) (fun z => z)) (by rw [hx]; exact nI_clamp (by omega)) (by omega) hcells hslots hdg kk
variable {y : MethodName} {bytes : ByteArray} {maxL n b : Nat} {rm : Room} {As st0 : List Value} {host : String} {post : Option Value → mM → Prop}
theorem mm_callIN (X : mm_Cx p s m args meth c G own cc nL rt) (hw : mm_W G.1 vwCl A H0 M H locs) (hC : Ct l y bytes maxL none rm G (.ref b :: As) M post) (hwd : mm_wB y bytes maxL none n ∧ Cond.methodLinkNest own index y host ∈ mm_NW ∧ y.name = "<init>" ∧ Cond.instanceMethod y ∈ mT)
    (hR : rm.frames + 1 ≤ R.frames ∧ 8 + (maxL + 11) + rm.locals ≤ R.locals) (hf : cells + rm.cells ≤ R.cells ∧ slots + rm.slots ≤ R.slots) (hn : As.length = n) (hst : st0 = As.reverse ++ .ref b :: rest) (hcat : (rest.map fun v => v.category).sum ≤ 8) (hls : ls.size = nL) (hdg : decode cc pc = .ok (.invokespecial index, 3))
    (kk : ∀ (v : Option Value) (M1 : mM) (H1 : Heap) (locs1 : List Loc), post v M1 → mm_W G.1 vwCl A H0 M1 H1 locs1 → W p l e R s m args below meth c H1 locs1 (cells + rm.cells) (slots + rm.slots) Q (F0 m (pc + 3) ls (v.toList ++ rest))) : W p l e R s m args below meth c H locs cells slots Q (F0 m pc ls st0) :=
  mm_call (va_runIN (mm_fix X) (hC H.size) ⟨mm_BN X hwd.1 hwd.2.1 hR, hwd.2.2.1, X.2.2.2.2.1 _ hwd.2.2.2⟩ (mm_pS X hw) rfl hn hls hst (lv_room hcat) hdg hf) hw kk
end MNW
