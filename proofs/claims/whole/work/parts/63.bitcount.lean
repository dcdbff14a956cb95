/-- a long as a number -/
def Ul (x : Int64) : Nat := x.toBitVec.toNat
theorem Ul_lt (x : Int64) : Ul x < 2 ^ 64 := x.toBitVec.isLt
theorem Ul_and (x y : Int64) : Ul (x &&& y) = Ul x &&& Ul y := by unfold Ul; rw [Int64.toBitVec_and, BitVec.toNat_and]
theorem Ul_add {x y : Int64} (h : Ul x + Ul y < 2 ^ 64) : Ul (x + y) = Ul x + Ul y := by
  unfold Ul at *
  rw [Int64.toBitVec_add, BitVec.toNat_add, Nat.mod_eq_of_lt h]
theorem Ul_sub {x y : Int64} (h : Ul y ≤ Ul x) : Ul (x - y) = Ul x - Ul y := by
  have h1 := Ul_lt x
  have h2 := Ul_lt y
  unfold Ul at *
  rw [Int64.toBitVec_sub, BitVec.toNat_sub]
  have e : 2 ^ 64 - y.toBitVec.toNat + x.toBitVec.toNat = (x.toBitVec.toNat - y.toBitVec.toNat) + 2 ^ 64 := by omega
  rw [e, Nat.add_mod_right, Nat.mod_eq_of_lt (by omega)]
theorem Ul_shr (x : Int64) {s : UInt64} {k : Nat} (hs : s.toNat = k) (hk : k < 64) : Ul ((x.toUInt64 >>> s).toInt64) = Ul x / 2 ^ k := by
  unfold Ul
  have e : (x.toUInt64 >>> s).toInt64.toBitVec = x.toBitVec >>> s.toNat := by
    show x.toUInt64.toBitVec >>> (s.toBitVec % 64) = _
    have e1 : (s.toBitVec % 64).toNat = s.toNat := by
      rw [BitVec.toNat_umod]
      show s.toNat % 64 = s.toNat
      exact Nat.mod_eq_of_lt (by omega)
    rw [BitVec.ushiftRight_eq', e1]
    rfl
  rw [e, hs, BitVec.toNat_ushiftRight, Nat.shiftRight_eq_div_pow]
theorem land_byte {b c p q : Nat} (hb : b < 256) (hc : c < 256) : (b + 256 * p) &&& (c + 256 * q) = (b &&& c) + 256 * (p &&& q) := by
  have h8 : b &&& c < 2 ^ 8 := Nat.lt_of_le_of_lt Nat.and_le_left hb
  apply Nat.eq_of_testBit_eq
  intro i
  rw [Nat.testBit_and]
  have e : ∀ {u v : Nat}, u < 2 ^ 8 → (u + 256 * v).testBit i = if i < 8 then u.testBit i else v.testBit (i - 8) := fun {u v} hu => by
    rw [Nat.add_comm, show 256 * v = 2 ^ 8 * v from rfl, Nat.testBit_two_pow_mul_add _ hu]
  rw [e hb, e hc, e h8]
  split
  · rw [Nat.testBit_and]
  · rw [Nat.testBit_and]
def repB (c : Nat) : Nat → Nat
  | 0 => 0
  | k + 1 => c + 256 * repB c k
def s1N (k x : Nat) : Nat := x - ((x / 2) &&& repB 85 k)
def s2N (k x : Nat) : Nat := (x &&& repB 51 k) + ((x / 4) &&& repB 51 k)
def s3N (k x : Nat) : Nat := (x + x / 16) &&& repB 15 k
def t1 (b : Nat) : Nat := b - ((b / 2) &&& 85)
def t2 (b : Nat) : Nat := (b &&& 51) + ((b / 4) &&& 51)
def t3 (b : Nat) : Nat := (b + b / 16) &&& 15
theorem d1 : ∀ b, b < 256 → ∀ e, e < 2 → (b / 2 + 128 * e) &&& 85 = (b / 2) &&& 85 := by decide +kernel
theorem d2 : ∀ b, b < 256 → ∀ e, e < 4 → (b / 4 + 64 * e) &&& 51 = (b / 4) &&& 51 := by decide +kernel
theorem d1b : ∀ b, b < 256 → t1 b < 256 := by decide +kernel
theorem d2b : ∀ b, b < 256 → t2 (t1 b) % 16 ≤ 4 ∧ t2 (t1 b) ≤ 68 := by decide +kernel
theorem d3 : ∀ d, d < 69 → ∀ e, e < 5 → (d + (d / 16 + 16 * e)) &&& 15 = (d + d / 16) &&& 15 := by decide +kernel
theorem s1_step {b x k : Nat} (hb : b < 256) : s1N (k + 1) (b + 256 * x) = t1 b + 256 * s1N k x := by
  unfold s1N t1
  have e1 : (b + 256 * x) / 2 = (b / 2 + 128 * (x % 2)) + 256 * (x / 2) := by omega
  have e2 : repB 85 (k + 1) = 85 + 256 * repB 85 k := rfl
  rw [e1, e2, land_byte (by omega) (by decide), d1 b hb (x % 2) (by omega)]
  have h1 : (b / 2) &&& 85 ≤ b := Nat.le_trans Nat.and_le_left (by omega)
  have h2 : (x / 2) &&& repB 85 k ≤ x := Nat.le_trans Nat.and_le_left (by omega)
  omega
theorem s2_step {c x k : Nat} (hc : c < 256) : s2N (k + 1) (c + 256 * x) = t2 c + 256 * s2N k x := by
  unfold s2N t2
  have e1 : (c + 256 * x) / 4 = (c / 4 + 64 * (x % 4)) + 256 * (x / 4) := by omega
  have e2 : repB 51 (k + 1) = 51 + 256 * repB 51 k := rfl
  rw [e1, e2, land_byte hc (by decide), land_byte (by omega) (by decide), d2 c hc (x % 4) (by omega)]
  omega
theorem s3_step {d x k : Nat} (hd : d ≤ 68) (hx : x % 16 ≤ 4) : s3N (k + 1) (d + 256 * x) = t3 d + 256 * s3N k x := by
  unfold s3N t3
  have e1 : (d + 256 * x) + (d + 256 * x) / 16 = (d + (d / 16 + 16 * (x % 16))) + 256 * (x + x / 16) := by omega
  have e2 : repB 15 (k + 1) = 15 + 256 * repB 15 k := rfl
  rw [e1, e2, land_byte (by omega) (by decide), d3 d (by omega) (x % 16) (by omega)]
def pB (k x : Nat) : Nat := s3N k (s2N k (s1N k x))
theorem lowN : ∀ (k x : Nat), s2N k (s1N k x) % 16 ≤ 4
  | 0, x => by
    have e : s2N 0 (s1N 0 x) = 0 := by unfold s2N; show (_ &&& 0) + (_ &&& 0) = 0; rw [Nat.and_zero, Nat.and_zero]
    rw [e]; omega
  | k + 1, x => by
    have hx : x = x % 256 + 256 * (x / 256) := by omega
    rw [hx, s1_step (by omega), s2_step (d1b _ (by omega))]
    have := (d2b (x % 256) (by omega)).1
    omega
theorem pB_step {b x k : Nat} (hb : b < 256) : pB (k + 1) (b + 256 * x) = t3 (t2 (t1 b)) + 256 * pB k x := by
  unfold pB
  rw [s1_step hb, s2_step (d1b b hb), s3_step (d2b b hb).2 (lowN k x)]
theorem pB_0 (x : Nat) : pB 0 x = 0 := by unfold pB s3N; show _ &&& 0 = 0; exact Nat.and_zero _
/-- how many of the first n bits of a number -/
def cn (x : Nat) : Nat → Nat
  | 0 => 0
  | n + 1 => cn x n + if x.testBit n = true then 1 else 0
theorem cq_cn (x : Int64) : ∀ n, cq x n = cn (Ul x) n
  | 0 => rfl
  | n + 1 => by
    show cq x n + (if bq x n = true then 1 else 0) = cn (Ul x) n + (if (Ul x).testBit n = true then 1 else 0)
    rw [cq_cn x n]; rfl
theorem cn_byte {b x : Nat} (hb : b < 256) : ∀ k, cn (b + 256 * x) (8 + k) = cn b 8 + cn x k
  | 0 => by
    have e : ∀ j, j ≤ 8 → cn (b + 256 * x) j = cn b j := by
      intro j
      induction j with
      | zero => intro _; rfl
      | succ j ih =>
        intro hj
        show cn (b + 256 * x) j + (if (b + 256 * x).testBit j = true then 1 else 0) = cn b j + (if b.testBit j = true then 1 else 0)
        have e : (b + 256 * x).testBit j = b.testBit j := by rw [Nat.add_comm b, show 256 * x = 2 ^ 8 * x from rfl, Nat.testBit_two_pow_mul_add _ hb, if_pos (by omega)]
        rw [ih (by omega), e]
    exact e 8 (Nat.le_refl 8)
  | k + 1 => by
    show cn (b + 256 * x) (8 + k) + (if (b + 256 * x).testBit (8 + k) = true then 1 else 0) = cn b 8 + (cn x k + (if x.testBit k = true then 1 else 0))
    have e : (b + 256 * x).testBit (8 + k) = x.testBit k := by rw [Nat.add_comm b, show 256 * x = 2 ^ 8 * x from rfl, Nat.testBit_two_pow_mul_add _ hb, if_neg (by omega), show 8 + k - 8 = k by omega]
    rw [cn_byte hb k, e]
    omega
theorem tb_cn : ∀ b, b < 256 → t3 (t2 (t1 b)) = cn b 8 := by decide +kernel
theorem cn_le (x : Nat) : ∀ n, cn x n ≤ n
  | 0 => Nat.le_refl 0
  | n + 1 => by
    show cn x n + (if x.testBit n = true then 1 else 0) ≤ n + 1
    have := cn_le x n
    split <;> omega
/-- the three steps with masks: a row of eight bytes that count -/
theorem pB_8 (x : Nat) (hx : x < 2 ^ 64) : ∃ c0 c1 c2 c3 c4 c5 c6 c7 : Nat, c0 ≤ 8 ∧ c1 ≤ 8 ∧ c2 ≤ 8 ∧ c3 ≤ 8 ∧ c4 ≤ 8 ∧ c5 ≤ 8 ∧ c6 ≤ 8 ∧ c7 ≤ 8 ∧ pB 8 x = c0 + 256 * (c1 + 256 * (c2 + 256 * (c3 + 256 * (c4 + 256 * (c5 + 256 * (c6 + 256 * c7)))))) ∧ cn x 64 = c0 + c1 + c2 + c3 + c4 + c5 + c6 + c7 := by
  have step : ∀ (y k : Nat), pB (k + 1) y = cn (y % 256) 8 + 256 * pB k (y / 256) ∧ cn y (8 + (8 * k)) = cn (y % 256) 8 + cn (y / 256) (8 * k) := fun y k => by
    have hy : y = y % 256 + 256 * (y / 256) := by omega
    constructor
    · conv => lhs; rw [hy]
      rw [pB_step (by omega), tb_cn _ (by omega)]
    · conv => lhs; rw [hy]
      exact cn_byte (by omega) (8 * k)
  obtain ⟨p0, q0⟩ := step x 7
  obtain ⟨p1, q1⟩ := step (x / 256) 6
  obtain ⟨p2, q2⟩ := step (x / 256 / 256) 5
  obtain ⟨p3, q3⟩ := step (x / 256 / 256 / 256) 4
  obtain ⟨p4, q4⟩ := step (x / 256 / 256 / 256 / 256) 3
  obtain ⟨p5, q5⟩ := step (x / 256 / 256 / 256 / 256 / 256) 2
  obtain ⟨p6, q6⟩ := step (x / 256 / 256 / 256 / 256 / 256 / 256) 1
  obtain ⟨p7, q7⟩ := step (x / 256 / 256 / 256 / 256 / 256 / 256 / 256) 0
  rw [pB_0] at p7
  refine ⟨_, _, _, _, _, _, _, _, cn_le (x % 256) 8, cn_le (x / 256 % 256) 8, cn_le (x / 256 / 256 % 256) 8, cn_le (x / 256 / 256 / 256 % 256) 8, cn_le (x / 256 / 256 / 256 / 256 % 256) 8, cn_le (x / 256 / 256 / 256 / 256 / 256 % 256) 8, cn_le (x / 256 / 256 / 256 / 256 / 256 / 256 % 256) 8, cn_le (x / 256 / 256 / 256 / 256 / 256 / 256 / 256 % 256) 8, ?_, ?_⟩
  · rw [p0, p1, p2, p3, p4, p5, p6, p7, Nat.mul_zero, Nat.add_zero]
  · have z0 : cn (x / 256 / 256 / 256 / 256 / 256 / 256 / 256 / 256) (8 * 0) = 0 := rfl
    rw [z0] at q7
    have a0 : cn x 64 = cn x (8 + 8 * 7) := rfl
    have a1 : 8 + 8 * 6 = 8 * 7 := rfl
    have a2 : 8 + 8 * 5 = 8 * 6 := rfl
    have a3 : 8 + 8 * 4 = 8 * 5 := rfl
    have a4 : 8 + 8 * 3 = 8 * 4 := rfl
    have a5 : 8 + 8 * 2 = 8 * 3 := rfl
    have a6 : 8 + 8 * 1 = 8 * 2 := rfl
    have a7 : 8 + 8 * 0 = 8 * 1 := rfl
    rw [a1] at q1
    rw [a2] at q2
    rw [a3] at q3
    rw [a4] at q4
    rw [a5] at q5
    rw [a6] at q6
    rw [a7] at q7
    rw [a0, q0, q1, q2, q3, q4, q5, q6, q7]
    omega
def bc1 (i : Int64) : Int64 := i - (((i.toUInt64 >>> ((Int32.toInt64 1).toUInt64 &&& Int64.toUInt64 63)).toInt64) &&& 6148914691236517205)
def bc2 (i : Int64) : Int64 := (i &&& 3689348814741910323) + (((i.toUInt64 >>> ((Int32.toInt64 2).toUInt64 &&& Int64.toUInt64 63)).toInt64) &&& 3689348814741910323)
def bc3 (i : Int64) : Int64 := (i + ((i.toUInt64 >>> ((Int32.toInt64 4).toUInt64 &&& Int64.toUInt64 63)).toInt64)) &&& 1085102592571150095
def bc4 (i : Int64) : Int64 := i + ((i.toUInt64 >>> ((Int32.toInt64 8).toUInt64 &&& Int64.toUInt64 63)).toInt64)
def bc5 (i : Int64) : Int64 := i + ((i.toUInt64 >>> ((Int32.toInt64 16).toUInt64 &&& Int64.toUInt64 63)).toInt64)
def bc6 (i : Int64) : Int64 := i + ((i.toUInt64 >>> ((Int32.toInt64 32).toUInt64 &&& Int64.toUInt64 63)).toInt64)
theorem bc_all (i : Int64) : r_J13_bitCount_95d88 i = (bc6 (bc5 (bc4 (bc3 (bc2 (bc1 i)))))).toInt32 &&& 127 := rfl
theorem m85 : Ul 6148914691236517205 = repB 85 8 := by decide
theorem m51 : Ul 3689348814741910323 = repB 51 8 := by decide
theorem m15 : Ul 1085102592571150095 = repB 15 8 := by decide
theorem and127 (y : Int64) : y.toInt32 &&& 127 = nI (Ul y % 128) := by
  apply Int32.toBitVec_inj.mp
  apply BitVec.eq_of_toNat_eq
  have e0 : (y.toInt32 &&& 127).toBitVec = y.toBitVec.signExtend 32 &&& 127#32 := rfl
  have e1 : (nI (Ul y % 128)).toBitVec.toNat = Ul y % 128 := pk_tn (by omega)
  rw [e0, e1]
  apply Nat.eq_of_testBit_eq
  intro i
  have e2 : (y.toBitVec.signExtend 32 &&& 127#32).toNat.testBit i = (y.toBitVec.signExtend 32 &&& 127#32).getLsbD i := rfl
  rw [e2, BitVec.getLsbD_and, BitVec.getLsbD_signExtend, show 128 = 2 ^ 7 from rfl, Nat.testBit_mod_two_pow]
  have e3 : ∀ j, (127#32).getLsbD j = decide (j < 7) := by
    intro j
    show (127 : Nat).testBit j = _
    exact Nat.testBit_two_pow_sub_one 7 j
  rw [e3]
  by_cases c : i < 7
  · have c1 : i < 32 := by omega
    have c2 : i < 64 := by omega
    simp [c, c1, c2]
    rfl
  · simp [c]
theorem fin6 {S1 S2 lo r : Nat} (h1 : S1 ≤ 32) (h2 : S2 ≤ 32) (h3 : lo < 10000000) (h4 : r < 10000000) : ((S1 + 256 * lo) + 4294967296 * (S2 + 256 * r)) / 4294967296 = S2 + 256 * r ∧ (((S1 + 256 * lo) + 4294967296 * (S2 + 256 * r)) + (S2 + 256 * r)) % 128 = S1 + S2 ∧ ((S1 + 256 * lo) + 4294967296 * (S2 + 256 * r)) + (S2 + 256 * r) < 2 ^ 64 := by
  refine ⟨?_, ?_, ?_⟩
  · rw [Nat.add_mul_div_left _ _ (by decide), Nat.div_eq_of_lt (by omega), Nat.zero_add]
  · have e : ((S1 + 256 * lo) + 4294967296 * (S2 + 256 * r)) + (S2 + 256 * r) = (S1 + S2) + 128 * (2 * lo + 33554432 * (S2 + 256 * r) + 2 * r) := by omega
    rw [e, Nat.add_mul_mod_self_left, Nat.mod_eq_of_lt (by omega)]
  · have e : (2 : Nat) ^ 64 = 18446744073709551616 := by decide
    rw [e]; omega
theorem fin7 {c0 c1 c2 c3 c4 c5 c6 c7 r U : Nat} (h0 : c0 ≤ 8) (h1 : c1 ≤ 8) (h2 : c2 ≤ 8) (h3 : c3 ≤ 8) (h4 : c4 ≤ 8) (h5 : c5 ≤ 8) (h6 : c6 ≤ 8) (h7 : c7 ≤ 8) (hr : r < 10000000) (v2 : U = (c0 + c1 + c2 + c3) + 256 * (c1 + c2 + c3 + c4) + 65536 * (c2 + c3 + c4 + c5) + 16777216 * (c3 + c4 + c5 + c6) + 4294967296 * ((c4 + c5 + c6 + c7) + 256 * r)) : (U + U / 2 ^ 32) % 128 = c0 + c1 + c2 + c3 + c4 + c5 + c6 + c7 ∧ U + U / 2 ^ 32 < 2 ^ 64 := by
  obtain ⟨lo, hlo⟩ : ∃ lo, lo = (c1 + c2 + c3 + c4) + 256 * (c2 + c3 + c4 + c5) + 65536 * (c3 + c4 + c5 + c6) := ⟨_, rfl⟩
  have e : U = ((c0 + c1 + c2 + c3) + 256 * lo) + 4294967296 * ((c4 + c5 + c6 + c7) + 256 * r) := by rw [v2, hlo]; omega
  have hl : lo < 10000000 := by omega
  clear v2 hlo
  obtain ⟨q1, q2, q3⟩ := fin6 (S1 := c0 + c1 + c2 + c3) (S2 := c4 + c5 + c6 + c7) (lo := lo) (r := r) (by omega) (by omega) hl hr
  rw [show (2 : Nat) ^ 32 = 4294967296 from rfl, e, q1, q2]
  exact ⟨by omega, q3⟩
set_option maxRecDepth 10000 in
theorem bitCount_cq (x : Int64) : r_J13_bitCount_95d88 x = nI (cq x 64) := by
  rw [bc_all, and127, cq_cn]
  have hx := Ul_lt x
  have u1 : Ul (bc1 x) = s1N 8 (Ul x) := by
    unfold bc1 s1N
    have e : Ul (((x.toUInt64 >>> ((Int32.toInt64 1).toUInt64 &&& Int64.toUInt64 63)).toInt64) &&& 6148914691236517205) = (Ul x / 2) &&& repB 85 8 := by
      rw [Ul_and, Ul_shr x (k := 1) (by decide) (by decide), m85]
    rw [Ul_sub, e]
    rw [e]
    exact Nat.le_trans Nat.and_le_left (by omega)
  have u2 : Ul (bc2 (bc1 x)) = s2N 8 (Ul (bc1 x)) := by
    unfold bc2 s2N
    have e1 : Ul (bc1 x &&& 3689348814741910323) = Ul (bc1 x) &&& repB 51 8 := by rw [Ul_and, m51]
    have e2 : Ul ((((bc1 x).toUInt64 >>> ((Int32.toInt64 2).toUInt64 &&& Int64.toUInt64 63)).toInt64) &&& 3689348814741910323) = (Ul (bc1 x) / 4) &&& repB 51 8 := by
      rw [Ul_and, Ul_shr (bc1 x) (k := 2) (by decide) (by decide), m51]
    have b1 : Ul (bc1 x) &&& repB 51 8 ≤ repB 51 8 := Nat.and_le_right
    have b2 : (Ul (bc1 x) / 4) &&& repB 51 8 ≤ repB 51 8 := Nat.and_le_right
    have b3 : repB 51 8 = 3689348814741910323 := by decide
    rw [Ul_add, e1, e2]
    rw [e1, e2]
    omega
  have b2 : s2N 8 (Ul (bc1 x)) ≤ 7378697629483820646 := by
    unfold s2N
    have b1 : Ul (bc1 x) &&& repB 51 8 ≤ repB 51 8 := Nat.and_le_right
    have b2 : (Ul (bc1 x) / 4) &&& repB 51 8 ≤ repB 51 8 := Nat.and_le_right
    have b3 : repB 51 8 = 3689348814741910323 := by decide
    omega
  have u3 : Ul (bc3 (bc2 (bc1 x))) = s3N 8 (Ul (bc2 (bc1 x))) := by
    unfold bc3 s3N
    rw [Ul_and, m15, Ul_add, Ul_shr _ (k := 4) (by decide) (by decide)]
    rw [Ul_shr _ (k := 4) (by decide) (by decide), u2]
    omega
  obtain ⟨c0, c1, c2, c3, c4, c5, c6, c7, h0, h1, h2, h3, h4, h5, h6, h7, hp, hc⟩ := pB_8 (Ul x) hx
  have hv : Ul (bc3 (bc2 (bc1 x))) = pB 8 (Ul x) := by rw [u3, u2, u1]; rfl
  rw [hp] at hv
  rw [hc]
  generalize bc3 (bc2 (bc1 x)) = v at hv ⊢
  have v1 : Ul (bc4 v) = (c0 + c1) + 256 * ((c1 + c2) + 256 * ((c2 + c3) + 256 * ((c3 + c4) + 256 * ((c4 + c5) + 256 * ((c5 + c6) + 256 * ((c6 + c7) + 256 * c7)))))) := by
    unfold bc4
    rw [Ul_add, Ul_shr _ (k := 8) (by decide) (by decide), hv]
    · omega
    · rw [Ul_shr _ (k := 8) (by decide) (by decide), hv]; omega
  have v2 : ∃ r, Ul (bc5 (bc4 v)) = (c0 + c1 + c2 + c3) + 256 * (c1 + c2 + c3 + c4) + 65536 * (c2 + c3 + c4 + c5) + 16777216 * (c3 + c4 + c5 + c6) + 4294967296 * ((c4 + c5 + c6 + c7) + 256 * r) ∧ r < 10000000 := by
    refine ⟨(c5 + c6 + c7) + 256 * ((c6 + c7) + 256 * c7), ?_, by omega⟩
    unfold bc5
    rw [Ul_add, Ul_shr _ (k := 16) (by decide) (by decide), v1]
    · omega
    · rw [Ul_shr _ (k := 16) (by decide) (by decide), v1]; omega
  obtain ⟨r, v2, hr⟩ := v2
  have v3 : Ul (bc6 (bc5 (bc4 v))) % 128 = c0 + c1 + c2 + c3 + c4 + c5 + c6 + c7 := by
    obtain ⟨q2, q3⟩ := fin7 h0 h1 h2 h3 h4 h5 h6 h7 hr v2
    unfold bc6
    rw [Ul_add, Ul_shr _ (k := 32) (by decide) (by decide)]
    · exact q2
    · rw [Ul_shr _ (k := 32) (by decide) (by decide)]; exact q3
  rw [v3]
