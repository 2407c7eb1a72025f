/-! rows on numbers, switches, compares of longs -/
theorem mm_sw (x : Int32) (lo n : Nat) (h1 : lo + n < 2 ^ 31) (h2 : 0 < n) : (∃ k : Nat, k < n ∧ x = nI (lo + k)) ∨ (x.toInt < (lo : Int) ∨ ((lo + n - 1 : Nat) : Int) < x.toInt) := by
  by_cases h : x.toInt < (lo : Int) ∨ ((lo + n - 1 : Nat) : Int) < x.toInt
  · exact Or.inr h
  · refine Or.inl ⟨x.toInt.toNat - lo, by omega, ?_⟩
    have hx : ((lo + (x.toInt.toNat - lo) : Nat) : Int) = x.toInt := by omega
    rw [← Int32.toInt_inj, nI_toInt (by omega), hx]
theorem rg_lt {x b : Int32} {n : Nat} (hb : b = nI n) (hn : n < 2 ^ 31) (h : 0 ≤ x ∧ x < b) : ∃ j : Nat, j < n ∧ x = nI j := by
  have h1 := Int32.le_iff_toInt_le.mp h.1
  have h2 := Int32.lt_iff_toInt_lt.mp h.2
  rw [hb, nI_toInt hn] at h2
  have h0 : (0 : Int32).toInt = 0 := rfl
  rw [h0] at h1
  refine ⟨x.toInt.toNat, by omega, ?_⟩
  rw [← Int32.toInt_inj, nI_toInt (by omega)]
  omega
theorem rg_le {x b : Int32} {n : Nat} (hb : b = nI n) (hn : n < 2 ^ 31) (h : 0 ≤ x ∧ x ≤ b) : ∃ j : Nat, j ≤ n ∧ x = nI j := by
  have h1 := Int32.le_iff_toInt_le.mp h.1
  have h2 := Int32.le_iff_toInt_le.mp h.2
  rw [hb, nI_toInt hn] at h2
  have h0 : (0 : Int32).toInt = 0 := rfl
  rw [h0] at h1
  refine ⟨x.toInt.toNat, by omega, ?_⟩
  rw [← Int32.toInt_inj, nI_toInt (by omega)]
  omega
theorem in_lt {j n : Nat} (h : j < n) (hn : n < 2 ^ 31) : (0 : Int32) ≤ nI j ∧ nI j < nI n := ⟨nI_pos' (by omega), nI_lt h hn⟩
theorem in_le {j n : Nat} (h : j ≤ n) (hn : n < 2 ^ 31) : (0 : Int32) ≤ nI j ∧ nI j ≤ nI n := ⟨nI_pos' (by omega), nI_le h hn⟩
theorem le_pred {x b : Int32} {n : Nat} (hb : b = nI n) (hn : n < 2 ^ 30) (h0 : 0 ≤ x) : x ≤ b - 1 ↔ x < b := by
  subst hb
  have h1 := Int32.le_iff_toInt_le.mp h0
  have hz : (0 : Int32).toInt = 0 := rfl
  rw [hz] at h1
  have e : (nI n - 1).toInt = (n : Int) - 1 := by
    have := pk_sub_toInt (a := n) (b := 1) hn (by decide)
    exact this
  rw [Int32.le_iff_toInt_le, Int32.lt_iff_toInt_lt, e, nI_toInt (by omega)]
  omega
def cl (x : Int32) : Nat := x.toNatClampNeg
theorem cl_n {n : Nat} (h : n < 2 ^ 31) : cl (nI n) = n := nI_clamp h
theorem nI_inj {a b : Nat} (ha : a < 2 ^ 31) (hb : b < 2 ^ 31) (h : nI a = nI b) : a = b := (nI_eq ha hb).mp h
theorem nI_s (n : Nat) : nI n + 1 = nI (n + 1) := nI_1 n
theorem nI_p {n : Nat} : nI (n + 1) - 1 = nI n := nI_pred n
theorem ix9 (e k : Nat) : (9 : Int32) * nI e + nI k = nI (9 * e + k) := by rw [show (9 : Int32) = nI 9 from rfl, pk_mul, nI_add]
theorem ix8 (e k : Nat) : (8 : Int32) * nI e + nI k = nI (8 * e + k) := by rw [show (8 : Int32) = nI 8 from rfl, pk_mul, nI_add]
theorem ix12 (e k : Nat) : (12 : Int32) * nI e + nI k = nI (12 * e + k) := by rw [show (12 : Int32) = nI 12 from rfl, pk_mul, nI_add]
theorem ix24 (e k : Nat) : (24 : Int32) * nI e + nI k = nI (24 * e + k) := by rw [show (24 : Int32) = nI 24 from rfl, pk_mul, nI_add]
theorem ix4 (e k : Nat) : (4 : Int32) * nI e + nI k = nI (4 * e + k) := by rw [show (4 : Int32) = nI 4 from rfl, pk_mul, nI_add]
theorem m24 (e : Nat) : (24 : Int32) * nI e = nI (24 * e) := by rw [show (24 : Int32) = nI 24 from rfl, pk_mul]
section LIF
variable {p : Program} {l : Launch} {e : Env} {R : Room} {s : State} {m : MethodId} {args : Array Value} {below : List Frame} {meth : Method} {c : Code} {H : Heap} {locs : List Loc} {cells slots : Nat} {Q : State → Prop}
variable {cc : ByteArray} {pc : Nat} {ls : Array Slot} {rest : List Value}
theorem mm_lif_ge (hexec : p.tables.exec = Jvm.exec) (hb : c.code = cc) {x y : Int64} {off : Int} {tgt : Nat} (hdg : decode cc pc = .ok (.ifCond .ge off, 3)) (ht : (pc : Int) + off = (tgt : Int))
    (kt : y ≤ x → W p l e R s m args below meth c H locs cells slots Q (F0 m tgt ls rest)) (kf : ¬ y ≤ x → W p l e R s m args below meth c H locs cells slots Q (F0 m (pc + 3) ls rest)) : W p l e R s m args below meth c H locs cells slots Q (F0 m pc ls (.int (lg_cmp x y) :: rest)) :=
  lv_if_ge hexec hb hdg ht (fun h => kt ((lg_cmp_ge x y).mp h)) (fun h => kf (fun q => h ((lg_cmp_ge x y).mpr q)))
theorem mm_lif_eq (hexec : p.tables.exec = Jvm.exec) (hb : c.code = cc) {x y : Int64} {off : Int} {tgt : Nat} (hdg : decode cc pc = .ok (.ifCond .eq off, 3)) (ht : (pc : Int) + off = (tgt : Int))
    (kt : x = y → W p l e R s m args below meth c H locs cells slots Q (F0 m tgt ls rest)) (kf : ¬ x = y → W p l e R s m args below meth c H locs cells slots Q (F0 m (pc + 3) ls rest)) : W p l e R s m args below meth c H locs cells slots Q (F0 m pc ls (.int (lg_cmp x y) :: rest)) :=
  lv_if_eq hexec hb hdg ht (fun h => kt ((lg_cmp_eq x y).mp h)) (fun h => kf (fun q => h ((lg_cmp_eq x y).mpr q)))
theorem mm_lif_ne (hexec : p.tables.exec = Jvm.exec) (hb : c.code = cc) {x y : Int64} {off : Int} {tgt : Nat} (hdg : decode cc pc = .ok (.ifCond .ne off, 3)) (ht : (pc : Int) + off = (tgt : Int))
    (kt : ¬ x = y → W p l e R s m args below meth c H locs cells slots Q (F0 m tgt ls rest)) (kf : x = y → W p l e R s m args below meth c H locs cells slots Q (F0 m (pc + 3) ls rest)) : W p l e R s m args below meth c H locs cells slots Q (F0 m pc ls (.int (lg_cmp x y) :: rest)) :=
  lv_if_ne hexec hb hdg ht (fun h => kt (fun q => h ((lg_cmp_eq x y).mpr q))) (fun h => kf ((lg_cmp_eq x y).mp h))
end LIF
/-! WHAT THE CALLS ANSWER: S the ints (by the reference's slots), cs the cells, ar the log's arguments -/
/-- the numbers: editions, nodes, contracts, runs, height -/
def NM (S : sS) (ne nn nc nl ht : Nat) : Prop := S 0 0 = nI ne ∧ 1 ≤ ne ∧ ne ≤ 10 ∧ S 7 0 = nI nn ∧ nn ≤ 12 ∧ S 12 0 = nI nc ∧ nc ≤ 12 ∧ S 18 0 = nI nl ∧ nl ≤ 64 ∧ S 5 0 = nI ht ∧ ht ≤ 1000
def sp_price (S : sS) (x y v : Int32) : Int32 × sS :=
  if ¬ (0 ≤ x ∧ x < S 0 0) then (-2, S) else if ¬ (0 ≤ y ∧ y ≤ 8) then (-2, S) else if ¬ (0 ≤ v ∧ v ≤ 100) then (-2, S)
  else if S 4 (cl x) ≠ 0 then (-3, S) else (S 1 (9 * cl x + cl y), va_up S 1 (upd (S 1) (9 * cl x + cl y) v))
def sp_member (S : sS) (x y v : Int32) : Int32 × sS :=
  if ¬ (0 ≤ x ∧ x < S 0 0) then (-2, S) else if ¬ (0 ≤ y ∧ y ≤ 7) then (-2, S) else if ¬ (-1 ≤ v ∧ v ≤ 5) then (-2, S)
  else if S 4 (cl x) ≠ 0 then (-3, S) else (S 2 (8 * cl x + cl y), va_up S 2 (upd (S 2) (8 * cl x + cl y) v))
def sp_about (S : sS) (x w k : Int32) : Int32 :=
  if ¬ (0 ≤ x ∧ x < S 0 0) then -2 else
  if w = 0 then (if 0 ≤ k ∧ k ≤ 8 then S 1 (9 * cl x + cl k) else -2) else if w = 1 then (if 0 ≤ k ∧ k ≤ 7 then S 2 (8 * cl x + cl k) else -2) else if w = 2 then S 3 (cl x) else if w = 3 then S 4 (cl x) else -2
def sp_node (S : sS) (x y : Int32) : Int32 × sS :=
  if ¬ (1 ≤ x ∧ x ≤ 1000) then (-2, S) else if ¬ (0 ≤ y ∧ y ≤ 1023) then (-2, S) else if S 7 0 = 12 then (-4, S)
  else (S 7 0 + 1 - 1, va_up (va_up (va_up (va_up S 8 (upd (S 8) (cl (S 7 0)) x)) 9 (upd (S 9) (cl (S 7 0)) y)) 10 (upd (S 10) (cl (S 7 0)) (-1))) 7 (fun _ => S 7 0 + 1))
def sp_build (S : sS) (x y : Int32) : Int32 × sS :=
  if ¬ (0 ≤ x ∧ x < S 7 0) then (-2, S) else if ¬ (0 ≤ y ∧ y ≤ 1023) then (-2, S) else if S 10 (cl x) ≠ -1 then (-3, S) else (1, va_up S 9 (upd (S 9) (cl x) y))
def sp_vote (S : sS) (x y v : Int32) : Int32 × sS :=
  if ¬ (0 ≤ x ∧ x < S 7 0) then (-2, S) else if ¬ (0 ≤ y ∧ y < S 0 0) then (-2, S) else if S 4 (cl y) ≠ 1 then (-3, S) else if S 10 (cl x) ≠ -1 then (-3, S)
  else (1, va_up S 11 (upd (S 11) (12 * cl y + cl x) v))
def sp_force (S : sS) (x : Int32) : Int32 := if 0 ≤ x ∧ x ≤ S 5 0 then S 6 (cl x) else -2
def sp_halted (S : sS) (x : Int32) : Int32 := if 0 ≤ x ∧ x < S 7 0 then S 10 (cl x) else -2
def sp_contract (S : sS) : Int32 × sS := if S 12 0 = 12 then (-4, S) else (S 12 0 + 1 - 1, va_up (va_up S 13 (upd (S 13) (cl (S 12 0)) (-1))) 12 (fun _ => S 12 0 + 1))
def sp_cell (S : sS) (cs : Nat → Int64) (x y : Int32) : Int64 := if 0 ≤ x ∧ x < S 12 0 then (if 0 ≤ y ∧ y ≤ 3 then cs (4 * cl x + cl y) else 0) else 0
def sp_logged (S : sS) (x w : Int32) : Int32 := if ¬ (0 ≤ x ∧ x < S 18 0) then -2 else if w = 0 then S 19 (cl x) else if w = 1 then S 20 (cl x) else if w = 2 then S 23 (cl x) else -2
def sp_count (S : sS) (w : Int32) : Int32 := if w = 0 then S 0 0 else if w = 1 then S 7 0 else if w = 2 then S 12 0 else if w = 3 then S 18 0 else if w = 4 then S 5 0 else -2
theorem nI_cl {x : Int32} (h : 0 ≤ x) : x = nI (cl x) := by
  obtain ⟨j, hj, rfl⟩ := nI_of (x := x) (fun h2 => by
    have h1 := Int32.le_iff_toInt_le.mp h
    have h3 := Int32.lt_iff_toInt_lt.mp h2
    omega)
  rw [cl_n hj]
theorem jx (q : Nat) {x y : Int32} (hx : 0 ≤ x) (hy : 0 ≤ y) : nI q * x + y = nI (q * cl x + cl y) := by
  conv => lhs; rw [nI_cl hx, nI_cl hy, pk_mul, nI_add]
theorem cl_lt {x b : Int32} {n : Nat} (hb : b = nI n) (hn : n < 2 ^ 31) (h : 0 ≤ x ∧ x < b) : cl x < n := by
  obtain ⟨j, hj, rfl⟩ := rg_lt hb hn h
  rw [cl_n (by omega)]; exact hj
theorem cl_le {x b : Int32} {n : Nat} (hb : b = nI n) (hn : n < 2 ^ 31) (h : 0 ≤ x ∧ x ≤ b) : cl x ≤ n := by
  obtain ⟨j, hj, rfl⟩ := rg_le hb hn h
  rw [cl_n (by omega)]; exact hj
theorem w_two {w : Int32} (h : 0 ≤ w ∧ w ≤ 2) (h0 : ¬ w = 0) (h1 : ¬ w = 1) : w = 2 := by
  obtain ⟨j, hj, rfl⟩ := rg_le (n := 2) rfl (by decide) h
  rcases (show j = 0 ∨ j = 1 ∨ j = 2 by omega) with rfl | rfl | rfl
  · exact absurd rfl h0
  · exact absurd rfl h1
  · rfl
theorem jxn (q : Nat) {x : Int32} (hx : 0 ≤ x) (k : Nat) : nI q * x + nI k = nI (q * cl x + k) := by
  conv => lhs; rw [nI_cl hx, pk_mul, nI_add]
theorem va_up_id {α : Type} (f : Nat → α) (k : Nat) : va_up f k (f k) = f := by
  funext j
  by_cases h : j = k
  · subst h; rw [va_up_self]
  · rw [va_up_ne _ _ h]
theorem va_up_id' {α : Type} (f : Nat → α) {j k : Nat} (h : j ≠ k) {x : α} : va_up (va_up f k x) j (f j) = va_up f k x := by
  funext q
  by_cases hq : q = j
  · subst hq; rw [va_up_self, va_up_ne _ _ h]
  · rw [va_up_ne _ _ hq]
theorem nle {a b : Nat} (ha : a < 2 ^ 31) (hb : b < 2 ^ 31) (h : nI a ≤ nI b) : a ≤ b := (nI_leI ha hb).mp h
theorem nlt {a b : Nat} (ha : a < 2 ^ 31) (hb : b < 2 ^ 31) (h : nI a < nI b) : a < b := (nI_ltI ha hb).mp h
theorem nnle {a b : Nat} (ha : a < 2 ^ 31) (hb : b < 2 ^ 31) (h : ¬ nI a ≤ nI b) : b < a := by
  rcases Nat.lt_or_ge b a with q | q
  · exact q
  · exact absurd (nI_le q hb) h
theorem nnlt {a b : Nat} (ha : a < 2 ^ 31) (hb : b < 2 ^ 31) (h : ¬ nI a < nI b) : b ≤ a := by
  rcases Nat.lt_or_ge a b with q | q
  · exact absurd (nI_lt q hb) h
  · exact q
/-- k places from s on are laid to d .. -/
def cp {α : Type} (f : Nat → α) (d s k : Nat) : Nat → α := fun j => if d ≤ j ∧ j < d + k then f (s + (j - d)) else f j
theorem cp0 {α : Type} (f : Nat → α) (d s : Nat) : cp f d s 0 = f := by
  funext j
  unfold cp
  rw [if_neg (by omega)]
theorem cpS (f : Nat → Int32) {d s k : Nat} (h : s + k < d) : upd (cp f d s k) (d + k) (cp f d s k (s + k)) = cp f d s (k + 1) := by
  funext j
  unfold upd cp
  by_cases h1 : j = d + k
  · subst h1
    rw [if_pos rfl, if_neg (by omega), if_pos (by omega)]
    congr 1
    omega
  · rw [if_neg h1]
    by_cases h2 : d ≤ j ∧ j < d + k
    · rw [if_pos h2, if_pos (by omega)]
    · rw [if_neg h2, if_neg (by omega)]
def sp_edition (S : sS) (x : Int32) : Int32 × sS :=
  if ¬ (0 ≤ x ∧ x < S 0 0) then (-2, S) else if S 0 0 = 10 then (-4, S) else
  (S 0 0 + 1 - 1, va_up (va_up (va_up (va_up (va_up S 1 (cp (S 1) (9 * cl (S 0 0)) (9 * cl x) 9)) 2 (cp (S 2) (8 * cl (S 0 0)) (8 * cl x) 8)) 3 (upd (S 3) (cl (S 0 0)) (-1))) 4 (upd (S 4) (cl (S 0 0)) 0)) 0 (fun _ => S 0 0 + 1))
/-- where editions differ -/
def df_b (S : sS) (e f i : Nat) : Bool := if i < 9 then decide (S 1 (9 * e + i) ≠ S 1 (9 * f + i)) else decide (S 2 (8 * e + i - 9) ≠ S 2 (8 * f + i - 9))
def df_go (is : Nat → Bool) (k : Int32) : Nat → Nat → Int32 → Int32
  | 0, _, _ => -1
  | r + 1, i, n => if is i = true then (if n = k then nI i else df_go is k r (i + 1) (n + 1)) else df_go is k r (i + 1) n
theorem df_go_s (is : Nat → Bool) (k : Int32) (r i : Nat) (n : Int32) : df_go is k (r + 1) i n = if is i = true then (if n = k then nI i else df_go is k r (i + 1) (n + 1)) else df_go is k r (i + 1) n := rfl
theorem df_t1 {S : sS} {e f i : Nat} (h : i < 9) (c : ¬ S 1 (9 * e + i) = S 1 (9 * f + i)) : df_b S e f i = true := by unfold df_b; rw [if_pos h]; exact decide_eq_true c
theorem df_f1 {S : sS} {e f i : Nat} (h : i < 9) (c : S 1 (9 * e + i) = S 1 (9 * f + i)) : ¬ df_b S e f i = true := by unfold df_b; rw [if_pos h]; exact fun h9 => of_decide_eq_true h9 c
theorem df_t2 {S : sS} {e f i : Nat} (h : ¬ i < 9) (c : ¬ S 2 (8 * e + i - 9) = S 2 (8 * f + i - 9)) : df_b S e f i = true := by unfold df_b; rw [if_neg h]; exact decide_eq_true c
theorem df_f2 {S : sS} {e f i : Nat} (h : ¬ i < 9) (c : S 2 (8 * e + i - 9) = S 2 (8 * f + i - 9)) : ¬ df_b S e f i = true := by unfold df_b; rw [if_neg h]; exact fun h9 => of_decide_eq_true h9 c
def sp_differs (S : sS) (x y k : Int32) : Int32 := if ¬ (0 ≤ x ∧ x < S 0 0) then -2 else if ¬ (0 ≤ y ∧ y < S 0 0) then -2 else df_go (df_b S (cl x) (cl y)) k 17 0 0
abbrev pr_may (S : sS) (x h : Int32) (k : Nat) : Prop := S 4 (cl x) = 0 ∧ S 5 0 < h ∧ ∀ e, e < k → (S 4 e ≠ 1 ∨ S 3 e < h)
def sp_propose (S : sS) (x h : Int32) : Int32 × sS :=
  if ¬ (0 ≤ x ∧ x < S 0 0) then (-2, S) else if ¬ (h ≤ 1000) then (-2, S) else if ¬ pr_may S x h (cl (S 0 0)) then (-3, S)
  else (1, va_up (va_up S 4 (upd (S 4) (cl x) 1)) 3 (upd (S 3) (cl x) h))
def ag_all (S : sS) : Nat → Int32
  | 0 => 0
  | n + 1 => ag_all S n + S 8 n
def ag_its (S : sS) (e : Nat) : Nat → Int32
  | 0 => 0
  | n + 1 => ag_its S e n + (if S 11 (12 * e + n) = 0 then 0 else if S 10 n = -1 then S 8 n else 0)
def sp_agrees (S : sS) (e : Nat) : sS :=
  if 3 * ag_its S e (cl (S 7 0)) < 2 * ag_all S (cl (S 7 0)) then va_up (va_up S 4 (upd (S 4) e 3)) 6 (upd (S 6) (cl (S 5 0)) (S 6 (cl (S 5 0))))
  else va_up (va_up S 4 (upd (S 4) e 2)) 6 (upd (S 6) (cl (S 5 0)) (nI e))
def sp_act (S : sS) (x y v : Int32) : Int32 × sS :=
  if ¬ (0 ≤ x ∧ x < S 12 0) then (-2, S) else if ¬ (0 ≤ y ∧ y ≤ 8) then (-2, S) else if ¬ (y = 6 → 0 ≤ v ∧ v ≤ 7) then (-2, S) else if ¬ (y = 7 ∨ y = 8 → 0 ≤ v ∧ v ≤ 3) then (-2, S)
  else if S 13 (cl x) ≠ -1 then (-3, S) else if S 14 (cl x) = 24 then (-4, S)
  else (S 14 (cl x) + 1, va_up (va_up (va_up S 15 (upd (S 15) (24 * cl x + cl (S 14 (cl x))) y)) 16 (upd (S 16) (24 * cl x + cl (S 14 (cl x))) v)) 14 (upd (S 14) (cl x) (S 14 (cl x) + 1)))
