theorem fd_half (v : Int64) : fd v 2 = v >>> ((1 : Int32).toInt64 &&& 63) := by
  have hs : 0 ≤ v ^^^ 2 ↔ 0 ≤ v := by
    rw [Int64.le_iff_toInt_le, Int64.le_iff_toInt_le]
    have key : ∀ w : Int64, (0 : Int64).toInt ≤ w.toInt ↔ w.toBitVec.msb = false := by
      intro w
      rw [BitVec.msb_eq_toInt]
      show (0 : Int) ≤ w.toBitVec.toInt ↔ _
      simp
    rw [key, key, Int64.toBitVec_xor, BitVec.msb_xor]
    have : (2 : Int64).toBitVec.msb = false := by decide
    rw [this, Bool.xor_false]
  have hr : (v >>> ((1 : Int32).toInt64 &&& 63)).toInt = v.toInt / 2 := by
    have h1 : (v >>> ((1 : Int32).toInt64 &&& 63)).toBitVec = v.toBitVec.sshiftRight 1 := by
      rw [Int64.toBitVec_shiftRight]; rfl
    show (v >>> ((1 : Int32).toInt64 &&& 63)).toBitVec.toInt = _
    rw [h1, BitVec.toInt_sshiftRight]
    rw [Int.shiftRight_eq_div_pow]
    rfl
  have hlo := Int64.le_toInt v
  have hhi := Int64.toInt_lt v
  have hd : (v / 2).toInt = v.toInt.tdiv 2 := by
    rw [Int64.toInt_div_of_ne_right]
    · rfl
    · decide
  rw [← Int64.toInt_inj, hr]
  unfold fd
  by_cases h0 : 0 ≤ v
  · rw [if_pos (hs.mpr h0), hd]
    have := Int64.le_iff_toInt_le.mp h0
    rw [show (0 : Int64).toInt = 0 from rfl] at this
    rw [Int.tdiv_eq_ediv_of_nonneg this]
  · rw [if_neg (fun h => h0 (hs.mp h))]
    have hneg : v.toInt < 0 := by
      have : ¬ (0 : Int64).toInt ≤ v.toInt := fun h => h0 (Int64.le_iff_toInt_le.mpr h)
      rw [show (0 : Int64).toInt = 0 from rfl] at this
      omega
    have ht : v.toInt.tdiv 2 = -((-v.toInt) / 2) := by
      rw [show v.toInt = -(-v.toInt) from by omega, Int.neg_tdiv, Int.tdiv_eq_ediv_of_nonneg (by omega)]
      omega
    have hm : (v / 2 * 2).toInt = v.toInt.tdiv 2 * 2 := by
      rw [Int64.toInt_mul, hd, show (2 : Int64).toInt = 2 from rfl]
      apply Int.bmod_eq_of_le
      · rw [ht]; omega
      · rw [ht]; omega
    by_cases h1 : v / 2 * 2 = v
    · rw [if_pos h1, hd]
      have h2 := congrArg Int64.toInt h1
      rw [hm, ht] at h2
      rw [ht]
      omega
    · rw [if_neg h1]
      have h2 : v.toInt.tdiv 2 * 2 ≠ v.toInt := fun h => h1 (by rw [← Int64.toInt_inj, hm, h])
      rw [Int64.toInt_sub, hd, show (1 : Int64).toInt = 1 from rfl]
      rw [ht] at h2 ⊢
      rw [Int.bmod_eq_of_le (by omega) (by omega)]
      omega
/-! digits of eight bits -/
def bdg : List Nat → Nat
  | [] => 0
  | b :: l => b + 256 * bdg l
def bmk (a : Nat) : Nat → Nat
  | 0 => 0
  | n + 1 => a + 256 * bmk a n
theorem zb_b_and (x a m : Nat) (ha : a < 256) : x &&& (a + 256 * m) = ((x % 256) &&& a) + 256 * ((x / 256) &&& m) := by
  apply Nat.eq_of_testBit_eq
  intro j
  have hlt : (x % 256) &&& a < 2 ^ 8 := Nat.lt_of_le_of_lt Nat.and_le_right ha
  rw [Nat.testBit_and, show a + 256 * m = 2 ^ 8 * m + a from by omega, Nat.testBit_two_pow_mul_add m (show a < 2 ^ 8 from ha), show ((x % 256) &&& a) + 256 * ((x / 256) &&& m) = 2 ^ 8 * ((x / 256) &&& m) + ((x % 256) &&& a) from by omega, Nat.testBit_two_pow_mul_add _ hlt]
  by_cases h : j < 8
  · rw [if_pos h, if_pos h, Nat.testBit_and, show (256 : Nat) = 2 ^ 8 from rfl, Nat.testBit_mod_two_pow]
    simp [h]
  · rw [if_neg h, if_neg h, Nat.testBit_and, show (256 : Nat) = 2 ^ 8 from rfl, Nat.testBit_div_two_pow]
    rw [show j - 8 + 8 = j from by omega]
def bf1 (b : Nat) : Nat := b - ((b / 2) &&& 85)
def bf2 (b : Nat) : Nat := (b &&& 51) + ((b / 4) &&& 51)
def bf3 (b : Nat) : Nat := (b + b / 16) &&& 15
theorem zb_d1 : ∀ b, b < 256 → ∀ c, c < 2 → (b / 2 + 128 * c) &&& 85 = (b / 2) &&& 85 := by decide +kernel
theorem zb_d2 : ∀ b, b < 256 → ∀ c, c < 4 → (b / 4 + 64 * c) &&& 51 = (b / 4) &&& 51 := by decide +kernel
theorem zb_d3 : ∀ b, b < 256 → bf1 b < 256 ∧ bf2 (bf1 b) < 256 ∧ bf2 (bf1 b) % 16 ≤ 4 ∧ bf2 (bf1 b) ≤ 68 ∧ bf3 (bf2 (bf1 b)) ≤ 8 := by decide +kernel
def bbs (x : Nat) : Nat → Nat
  | 0 => 0
  | n + 1 => bbs x n + x / 2 ^ n % 2
theorem zb_d4 : ∀ b, b < 256 → bf3 (bf2 (bf1 b)) = bbs b 8 := by decide +kernel
theorem zb_t1 : ∀ l : List Nat, (∀ b ∈ l, b < 256) → bdg l - ((bdg l / 2) &&& bmk 85 l.length) = bdg (l.map bf1)
  | [], _ => rfl
  | b :: l, h => by
    have hb : b < 256 := h b List.mem_cons_self
    have ih := zb_t1 l (fun c hc => h c (List.mem_cons_of_mem _ hc))
    show (b + 256 * bdg l) - (((b + 256 * bdg l) / 2) &&& (85 + 256 * bmk 85 l.length)) = bf1 b + 256 * bdg (l.map bf1)
    rw [zb_b_and _ _ _ (by decide), show (b + 256 * bdg l) / 2 % 256 = b / 2 + 128 * (bdg l % 2) from by omega, show (b + 256 * bdg l) / 2 / 256 = bdg l / 2 from by omega, zb_d1 b hb _ (Nat.mod_lt _ (by decide)), ← ih]
    have h1 : (b / 2) &&& 85 ≤ b / 2 := Nat.and_le_left
    have h2 : (bdg l / 2) &&& bmk 85 l.length ≤ bdg l / 2 := Nat.and_le_left
    unfold bf1
    omega
theorem zb_t2 : ∀ l : List Nat, (∀ b ∈ l, b < 256) → (bdg l &&& bmk 51 l.length) + ((bdg l / 4) &&& bmk 51 l.length) = bdg (l.map bf2)
  | [], _ => rfl
  | b :: l, h => by
    have hb : b < 256 := h b List.mem_cons_self
    have ih := zb_t2 l (fun c hc => h c (List.mem_cons_of_mem _ hc))
    show ((b + 256 * bdg l) &&& (51 + 256 * bmk 51 l.length)) + (((b + 256 * bdg l) / 4) &&& (51 + 256 * bmk 51 l.length)) = bf2 b + 256 * bdg (l.map bf2)
    rw [zb_b_and _ _ _ (by decide), zb_b_and _ _ _ (by decide), show (b + 256 * bdg l) / 4 % 256 = b / 4 + 64 * (bdg l % 4) from by omega, show (b + 256 * bdg l) / 4 / 256 = bdg l / 4 from by omega, zb_d2 b hb _ (Nat.mod_lt _ (by decide)), ← ih, show (b + 256 * bdg l) % 256 = b from by omega, show (b + 256 * bdg l) / 256 = bdg l from by omega]
    unfold bf2
    omega
theorem zb_t3 : ∀ l : List Nat, (∀ b ∈ l, b < 256 ∧ b % 16 ≤ 4 ∧ b ≤ 68) → (bdg l + bdg l / 16) &&& bmk 15 l.length = bdg (l.map bf3)
  | [], _ => rfl
  | b :: l, h => by
    have hb := h b List.mem_cons_self
    have ih := zb_t3 l (fun c hc => h c (List.mem_cons_of_mem _ hc))
    have hX : bdg l % 16 ≤ 4 := by
      cases l with
      | nil => exact Nat.zero_le _
      | cons c l =>
        have hc := h c (List.mem_cons_of_mem _ List.mem_cons_self)
        show (c + 256 * bdg l) % 16 ≤ 4
        omega
    show ((b + 256 * bdg l) + (b + 256 * bdg l) / 16) &&& (15 + 256 * bmk 15 l.length) = bf3 b + 256 * bdg (l.map bf3)
    rw [zb_b_and _ _ _ (by decide), show ((b + 256 * bdg l) + (b + 256 * bdg l) / 16) / 256 = bdg l + bdg l / 16 from by omega, ih]
    congr 1
    unfold bf3
    rw [show (15 : Nat) = 2 ^ 4 - 1 from rfl, Nat.and_two_pow_sub_one_eq_mod, Nat.and_two_pow_sub_one_eq_mod]
    omega
theorem bbs_le (x : Nat) : ∀ n, bbs x n ≤ n
  | 0 => Nat.le_refl _
  | n + 1 => by
    have := bbs_le x n
    show bbs x n + x / 2 ^ n % 2 ≤ n + 1
    omega
theorem bbs_8 (b X : Nat) (hb : b < 256) : ∀ n, bbs (b + 256 * X) (n + 8) = bbs b 8 + bbs X n
  | 0 => by
    show bbs (b + 256 * X) 8 = bbs b 8 + 0
    simp only [bbs]
    omega
  | n + 1 => by
    show bbs (b + 256 * X) (n + 8) + (b + 256 * X) / 2 ^ (n + 8) % 2 = _
    rw [bbs_8 b X hb n]
    show _ = bbs b 8 + (bbs X n + X / 2 ^ n % 2)
    rw [Nat.pow_add, Nat.mul_comm (2 ^ n) (2 ^ 8), ← Nat.div_div_eq_div_mul, show (b + 256 * X) / 2 ^ 8 = X from by omega]
    omega
theorem bbs_dg : ∀ l : List Nat, (∀ b ∈ l, b < 256) → bbs (bdg l) (8 * l.length) = (l.map (fun b => bbs b 8)).sum
  | [], _ => rfl
  | b :: l, h => by
    show bbs (b + 256 * bdg l) (8 * (l.length + 1)) = bbs b 8 + (l.map (fun b => bbs b 8)).sum
    rw [show 8 * (l.length + 1) = 8 * l.length + 8 from by omega, bbs_8 b _ (h b List.mem_cons_self), bbs_dg l (fun c hc => h c (List.mem_cons_of_mem _ hc))]
/-- eight digits -/
def b8 (x : Nat) : List Nat := [x % 256, x / 256 % 256, x / 65536 % 256, x / 16777216 % 256, x / 4294967296 % 256, x / 1099511627776 % 256, x / 281474976710656 % 256, x / 72057594037927936 % 256]
theorem b8_dg {x : Nat} (h : x < 18446744073709551616) : bdg (b8 x) = x := by
  simp only [b8, bdg]
  omega
theorem b8_lt (x : Nat) : ∀ b ∈ b8 x, b < 256 := by
  intro b hb
  simp only [b8, List.mem_cons, List.not_mem_nil, or_false] at hb
  omega
theorem zb_last {p0 p1 p2 p3 p4 p5 p6 p7 : Nat} (h0 : p0 ≤ 8) (h1 : p1 ≤ 8) (h2 : p2 ≤ 8) (h3 : p3 ≤ 8) (h4 : p4 ≤ 8) (h5 : p5 ≤ 8) (h6 : p6 ≤ 8) (h7 : p7 ≤ 8) {w a b c : Nat} (hw : w = p0 + 256 * (p1 + 256 * (p2 + 256 * (p3 + 256 * (p4 + 256 * (p5 + 256 * (p6 + 256 * (p7 + 256 * 0)))))))) (ha : a = (w + w / 256) % 18446744073709551616) (hb : b = (a + a / 65536) % 18446744073709551616) (hc : c = (b + b / 4294967296) % 18446744073709551616) : c % 128 = p0 + (p1 + (p2 + (p3 + (p4 + (p5 + (p6 + (p7 + 0))))))) := by
  have q0 : w / 256 = p1 + 256 * (p2 + 256 * (p3 + 256 * (p4 + 256 * (p5 + 256 * (p6 + 256 * p7))))) := by omega
  have ea : a = (p0 + p1) + 256 * ((p1 + p2) + 256 * ((p2 + p3) + 256 * ((p3 + p4) + 256 * ((p4 + p5) + 256 * ((p5 + p6) + 256 * ((p6 + p7) + 256 * p7)))))) := by
    rw [q0] at ha
    rw [Nat.mod_eq_of_lt (by omega)] at ha
    omega
  clear ha hw q0
  have q1 : a / 65536 = (p2 + p3) + 256 * ((p3 + p4) + 256 * ((p4 + p5) + 256 * ((p5 + p6) + 256 * ((p6 + p7) + 256 * p7)))) := by
    rw [ea]; omega
  have eb : b = (p0 + p1 + p2 + p3) + 256 * ((p1 + p2 + p3 + p4) + 256 * ((p2 + p3 + p4 + p5) + 256 * ((p3 + p4 + p5 + p6) + 256 * ((p4 + p5 + p6 + p7) + 256 * ((p5 + p6 + p7) + 256 * ((p6 + p7) + 256 * p7)))))) := by
    rw [q1] at hb
    rw [Nat.mod_eq_of_lt (by omega)] at hb
    omega
  clear hb q1 ea
  have q2 : b / 4294967296 = (p4 + p5 + p6 + p7) + 256 * ((p5 + p6 + p7) + 256 * ((p6 + p7) + 256 * p7)) := by
    rw [eb]; omega
  rw [q2] at hc
  rw [Nat.mod_eq_of_lt (by omega)] at hc
  rw [hc, eb]
  clear hc eb q2
  omega

theorem zb_n_sh {v : Int64} {k : Int32} {n : Nat} (hk : (k.toInt64.toUInt64 &&& Int64.toUInt64 63).toNat = n) (hn : n < 64) : (sh v k).toBitVec.toNat = v.toBitVec.toNat / 2 ^ n := by
  show (v.toUInt64 >>> (k.toInt64.toUInt64 &&& Int64.toUInt64 63)).toNat = v.toUInt64.toNat / 2 ^ n
  rw [UInt64.toNat_shiftRight, hk, Nat.mod_eq_of_lt hn, Nat.shiftRight_eq_div_pow]
theorem zb_n_and (v w : Int64) : (v &&& w).toBitVec.toNat = v.toBitVec.toNat &&& w.toBitVec.toNat := by
  rw [Int64.toBitVec_and, BitVec.toNat_and]
theorem zb_n_add (v w : Int64) : (v + w).toBitVec.toNat = (v.toBitVec.toNat + w.toBitVec.toNat) % 18446744073709551616 := by
  rw [Int64.toBitVec_add, BitVec.toNat_add]
theorem zb_n_sub (v w : Int64) (h : w.toBitVec.toNat ≤ v.toBitVec.toNat) : (v - w).toBitVec.toNat = v.toBitVec.toNat - w.toBitVec.toNat := by
  rw [Int64.toBitVec_sub, BitVec.toNat_sub]
  have := v.toBitVec.isLt
  have := w.toBitVec.isLt
  omega
theorem bdg_lt : ∀ l : List Nat, (∀ b ∈ l, b < 256) → bdg l < 256 ^ l.length
  | [], _ => by decide
  | b :: l, h => by
    have h1 := h b List.mem_cons_self
    have h2 := bdg_lt l (fun c hc => h c (List.mem_cons_of_mem _ hc))
    show b + 256 * bdg l < 256 ^ (l.length + 1)
    rw [Nat.pow_succ]
    omega
theorem bdg_lt2 : ∀ l : List Nat, (∀ b ∈ l, b ≤ 68) → 3 * bdg l + 1 ≤ 256 ^ l.length
  | [], _ => by decide
  | b :: l, h => by
    have h1 := h b List.mem_cons_self
    have h2 := bdg_lt2 l (fun c hc => h c (List.mem_cons_of_mem _ hc))
    show 3 * (b + 256 * bdg l) + 1 ≤ 256 ^ (l.length + 1)
    rw [Nat.pow_succ]
    omega
theorem zb_on_bbs (v : Int64) : ∀ n, n ≤ 64 → on_go v n = Int64.ofNat (bbs v.toBitVec.toNat n)
  | 0, _ => rfl
  | n + 1, h => by
    show on_go v n + ((v >>> ((nI n : Int32).toInt64 &&& 63)) &&& 1) = Int64.ofNat (bbs v.toBitVec.toNat n + v.toBitVec.toNat / 2 ^ n % 2)
    rw [zb_on_bbs v n (by omega), Int64.ofNat_add]
    congr 1
    have hsh : (v >>> ((nI n : Int32).toInt64 &&& 63)).toBitVec = v.toBitVec.sshiftRight n := by
      rw [Int64.toBitVec_shiftRight]
      have h63 : ∀ n, n < 64 → ((nI n : Int32).toInt64 &&& 63 : Int64).toBitVec.smod 64 = BitVec.ofNat 64 n := by decide +kernel
      rw [h63 n (by omega)]
      show v.toBitVec.sshiftRight (BitVec.ofNat 64 n).toNat = _
      rw [BitVec.toNat_ofNat, Nat.mod_eq_of_lt (by omega)]
    rw [← Int64.toBitVec_inj, Int64.toBitVec_and, hsh]
    apply BitVec.eq_of_toNat_eq
    rw [BitVec.toNat_and]
    show (v.toBitVec.sshiftRight n).toNat &&& (2 ^ 1 - 1) = (BitVec.ofNat 64 (v.toBitVec.toNat / 2 ^ n % 2)).toNat
    rw [Nat.and_two_pow_sub_one_eq_mod, BitVec.toNat_ofNat, Nat.mod_eq_of_lt (a := v.toBitVec.toNat / 2 ^ n % 2) (by omega)]
    have hb : (v.toBitVec.sshiftRight n).getLsbD 0 = v.toBitVec.getLsbD n := by
      rw [BitVec.getLsbD_sshiftRight]
      simp
      intro h9
      omega
    rw [BitVec.getLsbD, BitVec.getLsbD, Nat.testBit_zero, Nat.testBit_eq_decide_div_mod_eq] at hb
    have h1 := decide_eq_decide.mp hb
    omega
theorem bc_ones (v : Int64) : (bc v : Int32).toInt64 = on_go v 64 := by
  rw [zb_on_bbs v 64 (by omega)]
  obtain ⟨x, hx⟩ : ∃ x, x = v.toBitVec.toNat := ⟨_, rfl⟩
  have hx64 : x < 18446744073709551616 := by rw [hx]; exact v.toBitVec.isLt
  have hl := b8_lt x
  have hd := b8_dg hx64
  have hlen : (b8 x).length = 8 := rfl
  have m5 : (6148914691236517205 : Int64).toBitVec.toNat = bmk 85 8 := by decide +kernel
  have m3 : (3689348814741910323 : Int64).toBitVec.toNat = bmk 51 8 := by decide +kernel
  have mf : (1085102592571150095 : Int64).toBitVec.toNat = bmk 15 8 := by decide +kernel
  have hl1 : ∀ b ∈ (b8 x).map bf1, b < 256 := by
    intro b hb
    obtain ⟨c, hc, rfl⟩ := List.mem_map.mp hb
    exact (zb_d3 c (hl c hc)).1
  have hl2 : ∀ b ∈ ((b8 x).map bf1).map bf2, b < 256 ∧ b % 16 ≤ 4 ∧ b ≤ 68 := by
    intro b hb
    obtain ⟨c, hc, rfl⟩ := List.mem_map.mp hb
    obtain ⟨d, hd, rfl⟩ := List.mem_map.mp hc
    have := zb_d3 d (hl d hd)
    exact ⟨this.2.1, this.2.2.1, this.2.2.2.1⟩
  have e1 : (bc1 v).toBitVec.toNat = bdg ((b8 x).map bf1) := by
    have hs : (sh v 1 &&& 6148914691236517205).toBitVec.toNat = (x / 2) &&& bmk 85 8 := by rw [zb_n_and, zb_n_sh (n := 1) (by decide) (by decide), m5, ← hx]
    unfold bc1
    rw [zb_n_sub _ _ (by rw [hs, ← hx]; exact Nat.le_trans Nat.and_le_left (Nat.div_le_self _ _)), hs, ← hx, ← zb_t1 _ hl, hd, hlen]
  have e2 : (bc2 (bc1 v)).toBitVec.toNat = bdg (((b8 x).map bf1).map bf2) := by
    unfold bc2
    rw [zb_n_add, zb_n_and, zb_n_and, zb_n_sh (n := 2) (by decide) (by decide), e1, m3, show (2 : Nat) ^ 2 = 4 from rfl]
    have h9 := zb_t2 _ hl1
    rw [List.length_map, hlen] at h9
    rw [h9]
    have h8 := bdg_lt _ (fun b hb => (hl2 b hb).1)
    rw [List.length_map, List.length_map, hlen] at h8
    exact Nat.mod_eq_of_lt (Nat.lt_of_lt_of_eq h8 (by decide))
  have e3 : (bc3 (bc2 (bc1 v))).toBitVec.toNat = bdg ((((b8 x).map bf1).map bf2).map bf3) := by
    unfold bc3
    rw [zb_n_and, zb_n_add, zb_n_sh (n := 4) (by decide) (by decide), e2, mf, show (2 : Nat) ^ 4 = 16 from rfl]
    have h9 := zb_t3 _ hl2
    rw [List.length_map, List.length_map, hlen] at h9
    have h8 := bdg_lt2 _ (fun b hb => (hl2 b hb).2.2)
    rw [List.length_map, List.length_map, hlen, show (256 : Nat) ^ 8 = 18446744073709551616 from by decide] at h8
    rw [Nat.mod_eq_of_lt (by omega)]
    exact h9
  have hsum : (((b8 x).map bf1).map bf2).map bf3 = (b8 x).map (fun b => bbs b 8) := by
    rw [List.map_map, List.map_map]
    exact List.map_congr_left (fun b hb => zb_d4 b (hl b hb))
  rw [hsum] at e3
  have hp : ∀ b, bbs b 8 ≤ 8 := fun b => bbs_le b 8
  have hfin : (bc6 (bc5 (bc4 (bc3 (bc2 (bc1 v)))))).toBitVec.toNat % 128 = bbs x 64 := by
    have hb := bbs_dg _ hl
    rw [hd, hlen] at hb
    rw [show bbs x 64 = bbs x (8 * 8) from rfl, hb]
    refine zb_last (hp _) (hp _) (hp _) (hp _) (hp _) (hp _) (hp _) (hp _) (w := (bc3 (bc2 (bc1 v))).toBitVec.toNat) (a := (bc4 (bc3 (bc2 (bc1 v)))).toBitVec.toNat) (b := (bc5 (bc4 (bc3 (bc2 (bc1 v))))).toBitVec.toNat) e3 ?_ ?_ ?_
    · unfold bc4; rw [zb_n_add, zb_n_sh (n := 8) (by decide) (by decide)]
    · unfold bc5; rw [zb_n_add, zb_n_sh (n := 16) (by decide) (by decide)]
    · unfold bc6; rw [zb_n_add, zb_n_sh (n := 32) (by decide) (by decide)]
  rw [← hx, ← hfin]
  unfold bc
  generalize bc6 (bc5 (bc4 (bc3 (bc2 (bc1 v))))) = c
  have h1 : (c.toInt32 &&& 127).toBitVec.toNat = c.toBitVec.toNat % 128 := by
    rw [Int32.toBitVec_and, BitVec.toNat_and, Int64.toBitVec_toInt32, BitVec.signExtend_eq_setWidth_of_le _ (by decide), BitVec.toNat_setWidth]
    show _ &&& (2 ^ 7 - 1) = _
    rw [Nat.and_two_pow_sub_one_eq_mod]
    omega
  have h2 : c.toInt32 &&& 127 = Int32.ofNat (c.toBitVec.toNat % 128) := by
    rw [← Int32.toBitVec_inj]
    apply BitVec.eq_of_toNat_eq
    rw [h1]
    show _ = (BitVec.ofNat 32 _).toNat
    rw [BitVec.toNat_ofNat]
    omega
  rw [h2]
  have h3 : ∀ n, n < 128 → (Int32.ofNat n).toInt64 = Int64.ofNat n := by decide +kernel
  exact h3 _ (Nat.mod_lt _ (by decide))
