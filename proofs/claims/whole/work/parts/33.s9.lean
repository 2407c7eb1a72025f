/-! the machine -/
def pxs (a v : Int32) (arg : Int64) (m : Int32) (st : List Int64) (as : Nat → Int64) : List Int64 := if a = 0 then v.toInt64 :: st else if a = 1 then arg :: st else if a = 6 then mean m (hd st) :: st.tail else if a = 7 then st.tail else if a = 8 then as (cl v) :: st else wk a (hd st.tail) (hd st) :: st.tail.tail
def pxa (a v : Int32) (st : List Int64) (as : Nat → Int64) : Nat → Int64 := if a = 7 then vp_updL as (cl v) (hd st) else as
/-- the machine stands with st on its stack and as in its draft -/
def MS (J : eJ) (st : List Int64) (as : Nat → Int64) : Prop := J.2.1 = nI st.length ∧ pl J.2.2.1 st ∧ ∀ j, j < 4 → J.2.2.2.1 j = as j
/-- what the machine doesn't touch -/
def MK (J J1 : eJ) : Prop := J1.1 = J.1 ∧ J1.2.2.2.2 = J.2.2.2.2
theorem MK.rfl' (J : eJ) : MK J J := ⟨rfl, rfl⟩
theorem MK.tr {J J1 J2 : eJ} (h : MK J J1) (h2 : MK J1 J2) : MK J J2 := ⟨h2.1.trans h.1, h2.2.trans h.2⟩
