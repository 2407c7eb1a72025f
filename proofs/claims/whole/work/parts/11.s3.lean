/-! acts: what they take and lay; the check at a deploy; meanings; a run; the digest -/
def takes (a : Int32) : Int32 := if 2 ≤ a ∧ a ≤ 5 then 2 else if a = 6 ∨ a = 7 then 1 else 0
def delta (a : Int32) : Int32 := if a = 7 then -1 else 1 - takes a
def dp_go (S : sS) (e c : Nat) : Nat → Nat → Int32 → Int32
  | 0, _, _ => 0
  | r + 1, k, q => if S 15 (24 * c + k) = 6 ∧ S 2 (8 * e + cl (S 16 (24 * c + k))) = -1 then -11 else if q < takes (S 15 (24 * c + k)) then -12 else dp_go S e c r (k + 1) (q + delta (S 15 (24 * c + k)))
theorem dp_go_s (S : sS) (e c r k : Nat) (q : Int32) : dp_go S e c (r + 1) k q = if S 15 (24 * c + k) = 6 ∧ S 2 (8 * e + cl (S 16 (24 * c + k))) = -1 then -11 else if q < takes (S 15 (24 * c + k)) then -12 else dp_go S e c r (k + 1) (q + delta (S 15 (24 * c + k))) := rfl
def sp_deploy (S : sS) (x : Int32) : Int32 × sS :=
  if ¬ (0 ≤ x ∧ x < S 12 0) then (-2, S) else if S 13 (cl x) ≠ -1 then (-3, S) else if S 14 (cl x) = 0 then (-3, S)
  else if dp_go S (cl (S 6 (cl (S 5 0)))) (cl x) (cl (S 14 (cl x))) 0 0 ≠ 0 then (dp_go S (cl (S 6 (cl (S 5 0)))) (cl x) (cl (S 14 (cl x))) 0 0, S)
  else (S 6 (cl (S 5 0)), va_up S 13 (upd (S 13) (cl x) (S 6 (cl (S 5 0)))))
/-- the acts of contract i are as they may be -/
def AC (S : sS) (i n : Nat) : Prop := ∀ j, j < n → ∃ a, a ≤ 8 ∧ S 15 (24 * i + j) = nI a ∧ (a = 6 → ∃ b, b < 8 ∧ S 16 (24 * i + j) = nI b) ∧ (a = 7 ∨ a = 8 → ∃ b, b < 4 ∧ S 16 (24 * i + j) = nI b)
def on_go (v : Int64) : Nat → Int64
  | 0 => 0
  | k + 1 => on_go v k + ((v >>> ((nI k : Int32).toInt64 &&& 63)) &&& 1)
def mean (m : Int32) (v : Int64) : Int64 := if m = 0 then (if 0 ≤ v then v else -v) else if m = 1 then -v else if m = 2 then v * v else if m = 3 then v / 2 else if m = 4 then v >>> ((1 : Int32).toInt64 &&& 63) else on_go v 64
def wk (a : Int32) (x y : Int64) : Int64 := if a = 2 then x + y else if a = 3 then x - y else if a = 4 then x * y else x / y
def dg1 (d : Int32) (v : Int64) : Int32 := 31 * (31 * d + (v >>> ((32 : Int32).toInt64 &&& 63)).toInt32) + v.toInt32
def dg_go (f : Nat → Int64) (d : Int32) : Nat → Int32
  | 0 => d
  | k + 1 => dg1 (dg_go f d k) (f k)
/-- the digest behind a run -/
def dgs (cs : Nat → Int64) (c : Nat) (b a : Int32) : Int32 := dg_go (fun k => cs (4 * c + k)) (31 * b + a) 4
def tkN (a : Int32) : Nat := if 2 ≤ a ∧ a ≤ 5 then 2 else if a = 6 ∨ a = 7 then 1 else 0
def nxN (a : Int32) (d : Nat) : Nat := if a = 7 then d - 1 else d + 1 - tkN a
/-- enough lies there for each act -/
def vd (S : sS) (c : Nat) : Nat → Nat → Nat → Prop
  | 0, _, _ => True
  | r + 1, k, d => tkN (S 15 (24 * c + k)) ≤ d ∧ vd S c r (k + 1) (nxN (S 15 (24 * c + k)) d)
theorem vd_s (S : sS) (c r k d : Nat) : vd S c (r + 1) k d = (tkN (S 15 (24 * c + k)) ≤ d ∧ vd S c r (k + 1) (nxN (S 15 (24 * c + k)) d)) := rfl
def hd (st : List Int64) : Int64 := st.headD 0
theorem hd_c (u : Int64) (t : List Int64) : hd (u :: t) = u := rfl
theorem tl_c (u : Int64) (t : List Int64) : (u :: t).tail = t := rfl
def ex_go (S : sS) (c pz kp : Nat) (arg : Int64) (lim : Int32) : Nat → Nat → Int32 → List Int64 → (Nat → Int64) → Int32 × Option (Nat → Int64)
  | 0, _, cost, _, as => (cost, some as)
  | r + 1, k, cost, st, as =>
    if lim < cost + S 1 (9 * pz + cl (S 15 (24 * c + k))) then (-13, none)
    else if S 15 (24 * c + k) = 0 then ex_go S c pz kp arg lim r (k + 1) (cost + S 1 (9 * pz + cl (S 15 (24 * c + k)))) ((S 16 (24 * c + k)).toInt64 :: st) as
    else if S 15 (24 * c + k) = 1 then ex_go S c pz kp arg lim r (k + 1) (cost + S 1 (9 * pz + cl (S 15 (24 * c + k)))) (arg :: st) as
    else if S 15 (24 * c + k) = 6 then ex_go S c pz kp arg lim r (k + 1) (cost + S 1 (9 * pz + cl (S 15 (24 * c + k)))) (mean (S 2 (8 * kp + cl (S 16 (24 * c + k)))) (hd st) :: st.tail) as
    else if S 15 (24 * c + k) = 7 then ex_go S c pz kp arg lim r (k + 1) (cost + S 1 (9 * pz + cl (S 15 (24 * c + k)))) st.tail (vp_updL as (cl (S 16 (24 * c + k))) (hd st))
    else if S 15 (24 * c + k) = 8 then ex_go S c pz kp arg lim r (k + 1) (cost + S 1 (9 * pz + cl (S 15 (24 * c + k)))) (as (cl (S 16 (24 * c + k))) :: st) as
    else if S 15 (24 * c + k) = 5 ∧ hd st = 0 then (-14, none)
    else ex_go S c pz kp arg lim r (k + 1) (cost + S 1 (9 * pz + cl (S 15 (24 * c + k)))) (wk (S 15 (24 * c + k)) (hd st.tail) (hd st) :: st.tail.tail) as
theorem ex_go_s (S : sS) (c pz kp : Nat) (arg : Int64) (lim : Int32) (r k : Nat) (cost : Int32) (st : List Int64) (as : Nat → Int64) : ex_go S c pz kp arg lim (r + 1) k cost st as =
    if lim < cost + S 1 (9 * pz + cl (S 15 (24 * c + k))) then (-13, none)
    else if S 15 (24 * c + k) = 0 then ex_go S c pz kp arg lim r (k + 1) (cost + S 1 (9 * pz + cl (S 15 (24 * c + k)))) ((S 16 (24 * c + k)).toInt64 :: st) as
    else if S 15 (24 * c + k) = 1 then ex_go S c pz kp arg lim r (k + 1) (cost + S 1 (9 * pz + cl (S 15 (24 * c + k)))) (arg :: st) as
    else if S 15 (24 * c + k) = 6 then ex_go S c pz kp arg lim r (k + 1) (cost + S 1 (9 * pz + cl (S 15 (24 * c + k)))) (mean (S 2 (8 * kp + cl (S 16 (24 * c + k)))) (hd st) :: st.tail) as
    else if S 15 (24 * c + k) = 7 then ex_go S c pz kp arg lim r (k + 1) (cost + S 1 (9 * pz + cl (S 15 (24 * c + k)))) st.tail (vp_updL as (cl (S 16 (24 * c + k))) (hd st))
    else if S 15 (24 * c + k) = 8 then ex_go S c pz kp arg lim r (k + 1) (cost + S 1 (9 * pz + cl (S 15 (24 * c + k)))) (as (cl (S 16 (24 * c + k))) :: st) as
    else if S 15 (24 * c + k) = 5 ∧ hd st = 0 then (-14, none)
    else ex_go S c pz kp arg lim r (k + 1) (cost + S 1 (9 * pz + cl (S 15 (24 * c + k)))) (wk (S 15 (24 * c + k)) (hd st.tail) (hd st) :: st.tail.tail) as := rfl
/-- n of four cells are laid back -/
def ly (cs : Nat → Int64) (c : Nat) (as : Nat → Int64) (n : Nat) : Nat → Int64 := fun j => if 4 * c ≤ j ∧ j < 4 * c + n then as (j - 4 * c) else cs j
def rn_end (cs : Nat → Int64) (c : Nat) (o : Int32 × Option (Nat → Int64)) : Int32 × (Nat → Int64) := (o.1, match o.2 with
  | none => cs
  | some as => ly cs c as 4)
/-- a run: what it answers, the cells behind it -/
def rn (S : sS) (cs : Nat → Int64) (c pz kp n : Nat) (arg : Int64) (lim : Int32) : Int32 × (Nat → Int64) := rn_end cs c (ex_go S c pz kp arg lim n 0 0 [] (fun j => cs (4 * c + j)))
/-- the pile f holds st, its top first -/
def pl (f : Nat → Int64) (st : List Int64) : Prop := ∀ j, j < st.length → f j = st.getD (st.length - 1 - j) 0
theorem pl_0 (f : Nat → Int64) : pl f [] := fun j h => absurd h (by simp)
theorem pl_push {f : Nat → Int64} {st : List Int64} (h : pl f st) (v : Int64) : pl (vp_updL f st.length v) (v :: st) := by
  intro j hj
  simp only [List.length_cons] at hj ⊢
  by_cases e : j = st.length
  · subst e
    rw [pk_uLs]
    simp
  · rw [pk_uLn e, h j (by omega)]
    rw [show st.length + 1 - 1 - j = (st.length - 1 - j) + 1 from by omega, List.getD_cons_succ]
theorem pl_pop {f : Nat → Int64} {u : Int64} {t : List Int64} (h : pl f (u :: t)) : pl f t ∧ f t.length = u := by
  refine ⟨fun j hj => ?_, ?_⟩
  · have := h j (by simp; omega)
    rw [this]
    simp only [List.length_cons]
    rw [show t.length + 1 - 1 - j = (t.length - 1 - j) + 1 from by omega, List.getD_cons_succ]
  · have := h t.length (by simp)
    rw [this]
    simp
theorem ly0 (cs : Nat → Int64) (c : Nat) (as : Nat → Int64) : ly cs c as 0 = cs := by
  funext j
  unfold ly
  rw [if_neg (by omega)]
theorem lyS (cs : Nat → Int64) (c : Nat) {as : Nat → Int64} {k : Nat} {x : Int64} (h : x = as k) : vp_updL (ly cs c as k) (4 * c + k) x = ly cs c as (k + 1) := by
  funext j
  unfold vp_updL ly
  by_cases e : j = 4 * c + k
  · subst e
    rw [if_pos rfl, if_pos (by omega), h]
    congr 1
    omega
  · rw [if_neg e]
    by_cases h2 : 4 * c ≤ j ∧ j < 4 * c + k
    · rw [if_pos h2, if_pos (by omega)]
    · rw [if_neg h2, if_neg (by omega)]
section EQI
variable {p : Program} {l : Launch} {e : Env} {R : Room} {s : State} {m : MethodId} {args : Array Value} {below : List Frame} {meth : Method} {c : Code} {H : Heap} {locs : List Loc} {cells slots : Nat} {Q : State → Prop}
variable {pc : Nat} {ls : Array Slot} {rest : List Value}
theorem mm_eqI {x y : Int32} (h : x = y) (k : W p l e R s m args below meth c H locs cells slots Q (F0 m pc ls (.int y :: rest))) : W p l e R s m args below meth c H locs cells slots Q (F0 m pc ls (.int x :: rest)) := by rw [h]; exact k
theorem mm_eqL {x y : Int64} (h : x = y) (k : W p l e R s m args below meth c H locs cells slots Q (F0 m pc ls (.long y :: rest))) : W p l e R s m args below meth c H locs cells slots Q (F0 m pc ls (.long x :: rest)) := by rw [h]; exact k
end EQI
