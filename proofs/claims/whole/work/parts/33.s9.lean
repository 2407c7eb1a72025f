/-! the machine -/
def pxs (a v : Int32) (arg : Int64) (m : Int32) (st : List Int64) (as : Nat → Int64) : List Int64 := if a = 0 then v.toInt64 :: st else if a = 1 then arg :: st else if a = 6 then mean m (hd st) :: st.tail else if a = 7 then st.tail else if a = 8 then as (cl v) :: st else wk a (hd st.tail) (hd st) :: st.tail.tail
def pxa (a v : Int32) (st : List Int64) (as : Nat → Int64) : Nat → Int64 := if a = 7 then vp_updL as (cl v) (hd st) else as
/-- the machine stands with st on its stack and as in its draft -/
def MS (J : eJ) (st : List Int64) (as : Nat → Int64) : Prop := J.2.1 = nI st.length ∧ pl J.2.2.1 st ∧ ∀ j, j < 4 → J.2.2.2.1 j = as j
/-- what the machine doesn't touch -/
def MK (J J1 : eJ) : Prop := J1.1 = J.1 ∧ J1.2.2.2.2 = J.2.2.2.2
theorem MK.rfl' (J : eJ) : MK J J := ⟨rfl, rfl⟩
theorem MK.tr {J J1 J2 : eJ} (h : MK J J1) (h2 : MK J1 J2) : MK J J2 := ⟨h2.1.trans h.1, h2.2.trans h.2⟩
theorem px_len {a v : Int32} {arg : Int64} {m : Int32} {st : List Int64} {as : Nat → Int64} {a0 : Nat} (ha : a = nI a0) (h8 : a0 ≤ 8) (ht : tkN a ≤ st.length) : (pxs a v arg m st as).length = nxN a st.length := by
  rcases (show a0 = 0 ∨ a0 = 1 ∨ a0 = 2 ∨ a0 = 3 ∨ a0 = 4 ∨ a0 = 5 ∨ a0 = 6 ∨ a0 = 7 ∨ a0 = 8 by omega) with rfl | rfl | rfl | rfl | rfl | rfl | rfl | rfl | rfl <;> subst ha
  · rw [pxs, if_pos (by decide), nxN, if_neg (by decide), show tkN (nI 0) = 0 from by decide]; rfl
  · rw [pxs, if_neg (by decide), if_pos (by decide), nxN, if_neg (by decide), show tkN (nI 1) = 0 from by decide]; rfl
  · rw [show tkN (nI 2) = 2 from by decide] at ht
    rw [pxs, if_neg (by decide), if_neg (by decide), if_neg (by decide), if_neg (by decide), if_neg (by decide), nxN, if_neg (by decide), show tkN (nI 2) = 2 from by decide]
    simp only [List.length_cons, List.length_tail]; omega
  · rw [show tkN (nI 3) = 2 from by decide] at ht
    rw [pxs, if_neg (by decide), if_neg (by decide), if_neg (by decide), if_neg (by decide), if_neg (by decide), nxN, if_neg (by decide), show tkN (nI 3) = 2 from by decide]
    simp only [List.length_cons, List.length_tail]; omega
  · rw [show tkN (nI 4) = 2 from by decide] at ht
    rw [pxs, if_neg (by decide), if_neg (by decide), if_neg (by decide), if_neg (by decide), if_neg (by decide), nxN, if_neg (by decide), show tkN (nI 4) = 2 from by decide]
    simp only [List.length_cons, List.length_tail]; omega
  · rw [show tkN (nI 5) = 2 from by decide] at ht
    rw [pxs, if_neg (by decide), if_neg (by decide), if_neg (by decide), if_neg (by decide), if_neg (by decide), nxN, if_neg (by decide), show tkN (nI 5) = 2 from by decide]
    simp only [List.length_cons, List.length_tail]; omega
  · rw [show tkN (nI 6) = 1 from by decide] at ht
    rw [pxs, if_neg (by decide), if_neg (by decide), if_pos (by decide), nxN, if_neg (by decide), show tkN (nI 6) = 1 from by decide]
    simp only [List.length_cons, List.length_tail]; omega
  · rw [show tkN (nI 7) = 1 from by decide] at ht
    rw [pxs, if_neg (by decide), if_neg (by decide), if_neg (by decide), if_pos (by decide), nxN, if_pos (by decide)]
    simp only [List.length_tail]
  · rw [pxs, if_neg (by decide), if_neg (by decide), if_neg (by decide), if_neg (by decide), if_pos (by decide), nxN, if_neg (by decide), show tkN (nI 8) = 0 from by decide]; rfl
theorem ex_px (S : sS) (c pz kp : Nat) (arg : Int64) (lim : Int32) (r k : Nat) (cost : Int32) (st : List Int64) (as : Nat → Int64) : ex_go S c pz kp arg lim (r + 1) k cost st as =
    if lim < cost + S 1 (9 * pz + cl (S 15 (24 * c + k))) then (-13, none) else if S 15 (24 * c + k) = 5 ∧ hd st = 0 then (-14, none)
    else ex_go S c pz kp arg lim r (k + 1) (cost + S 1 (9 * pz + cl (S 15 (24 * c + k)))) (pxs (S 15 (24 * c + k)) (S 16 (24 * c + k)) arg (S 2 (8 * kp + cl (S 16 (24 * c + k)))) st as) (pxa (S 15 (24 * c + k)) (S 16 (24 * c + k)) st as) := by
  rw [ex_go_s, pxs, pxa]
  generalize S 15 (24 * c + k) = a
  by_cases h0 : a = 0
  · subst h0; rw [if_pos (rfl : (0 : Int32) = 0), if_neg (show ¬ ((0 : Int32) = 5 ∧ _) from fun h => absurd h.1 (by decide)), if_pos (rfl : (0 : Int32) = 0), if_neg (show ¬ (0 : Int32) = 7 by decide)]
  · rw [if_neg h0, if_neg h0]
    by_cases h1 : a = 1
    · subst h1; rw [if_pos (rfl : (1 : Int32) = 1), if_neg (show ¬ ((1 : Int32) = 5 ∧ _) from fun h => absurd h.1 (by decide)), if_pos (rfl : (1 : Int32) = 1), if_neg (show ¬ (1 : Int32) = 7 by decide)]
    · rw [if_neg h1, if_neg h1]
      by_cases h6 : a = 6
      · subst h6; rw [if_pos (rfl : (6 : Int32) = 6), if_neg (show ¬ ((6 : Int32) = 5 ∧ _) from fun h => absurd h.1 (by decide)), if_pos (rfl : (6 : Int32) = 6), if_neg (show ¬ (6 : Int32) = 7 by decide)]
      · rw [if_neg h6, if_neg h6]
        by_cases h7 : a = 7
        · subst h7; rw [if_pos (rfl : (7 : Int32) = 7), if_neg (show ¬ ((7 : Int32) = 5 ∧ _) from fun h => absurd h.1 (by decide)), if_pos (rfl : (7 : Int32) = 7), if_pos (rfl : (7 : Int32) = 7)]
        · rw [if_neg h7, if_neg h7, if_neg h7]
          by_cases h8 : a = 8
          · subst h8; rw [if_pos (rfl : (8 : Int32) = 8), if_neg (show ¬ ((8 : Int32) = 5 ∧ _) from fun h => absurd h.1 (by decide)), if_pos (rfl : (8 : Int32) = 8)]
          · rw [if_neg h8, if_neg h8]
theorem l_1 {st : List Int64} (h : 1 ≤ st.length) : ∃ u t, st = u :: t := by
  cases st with
  | nil => exact absurd h (by simp)
  | cons u t => exact ⟨u, t, rfl⟩
theorem l_2 {st : List Int64} (h : 2 ≤ st.length) : ∃ u y t, st = u :: y :: t := by
  obtain ⟨u, t, rfl⟩ := l_1 (st := st) (by omega)
  obtain ⟨y, t, rfl⟩ := l_1 (st := t) (by simp only [List.length_cons] at h; omega)
  exact ⟨u, y, t, rfl⟩
