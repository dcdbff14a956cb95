/-- bit t of a long -/
def bq (x : Int64) (t : Nat) : Bool := x.toBitVec.getLsbD t
theorem bq_and (x y : Int64) (t : Nat) : bq (x &&& y) t = (bq x t && bq y t) := by unfold bq; rw [Int64.toBitVec_and, BitVec.getLsbD_and]
theorem bq_or (x y : Int64) (t : Nat) : bq (x ||| y) t = (bq x t || bq y t) := by unfold bq; rw [Int64.toBitVec_or, BitVec.getLsbD_or]
theorem bq_xor (x y : Int64) (t : Nat) : bq (x ^^^ y) t = (bq x t ^^ bq y t) := by unfold bq; rw [Int64.toBitVec_xor, BitVec.getLsbD_xor]
theorem bq_big {x : Int64} {t : Nat} (h : 64 ≤ t) : bq x t = false := BitVec.getLsbD_of_ge _ _ h
theorem bq_0 (t : Nat) : bq 0 t = false := by unfold bq; exact BitVec.getLsbD_zero
theorem bq_m1 : ∀ t, t < 64 → bq (-1) t = true := by decide +kernel
theorem bq_not (x : Int64) {t : Nat} (h : t < 64) : bq (x ^^^ (-1)) t = !bq x t := by rw [bq_xor, bq_m1 t h]; cases bq x t <;> rfl
theorem bq_ext {x y : Int64} (h : ∀ t, t < 64 → bq x t = bq y t) : x = y := by
  apply Int64.toBitVec_inj.mp
  apply BitVec.eq_of_getLsbD_eq
  intro i hi
  exact h i hi
theorem bq_set0 : ∀ k, k < 64 → ((1 : Int64) <<< ((nI k).toInt64 &&& 63)).toBitVec = BitVec.twoPow 64 k := by decide +kernel
theorem bq_set {k : Nat} (hk : k < 64) (t : Nat) : bq ((1 : Int64) <<< ((nI k).toInt64 &&& 63)) t = decide (t = k) := by
  unfold bq
  rw [bq_set0 k hk, BitVec.getLsbD_twoPow]
  by_cases h : t = k
  · subst h; simp [hk]
  · simp [h]; intro _ e; exact h e.symm
theorem bq_zero {x : Int64} : x = 0 ↔ ∀ t, t < 64 → bq x t = false := ⟨fun h t _ => by rw [h]; exact bq_0 t, fun h => bq_ext (fun t ht => by rw [h t ht, bq_0])⟩
theorem isIn_bq (x : Int64) {k : Nat} (hk : k < 64) : r_X8_isIn x (nI k) = if bq x k = true then 1 else 0 := by
  unfold r_X8_isIn
  have e : (lg_cmp (x &&& ((1 : Int64) <<< ((nI k).toInt64 &&& 63))) 0 = 0) ↔ bq x k = false := by
    rw [lg_cmp_eq, bq_zero]
    constructor
    · intro h
      have := h k hk
      rw [bq_and, bq_set hk] at this
      simpa using this
    · intro h t ht
      rw [bq_and, bq_set hk]
      by_cases e : t = k
      · subst e; rw [h]; rfl
      · simp [e]
  by_cases h : bq x k = true
  · rw [if_pos h, if_neg (fun q => by rw [e.mp q] at h; exact absurd h (by decide))]
  · rw [if_neg h, if_pos (e.mpr (by simpa using h))]
theorem sh_u : ∀ k, k < 64 → ((63 - nI k).toInt64.toUInt64 &&& Int64.toUInt64 63).toNat = 63 - k := by decide +kernel
theorem bq_ushr (x : Int64) (s : UInt64) (hs : s.toNat < 64) (t : Nat) : bq ((x.toUInt64 >>> s).toInt64) t = bq x (s.toNat + t) := by
  unfold bq
  have e : (x.toUInt64 >>> s).toInt64.toBitVec = x.toBitVec >>> s.toNat := by
    show x.toUInt64.toBitVec >>> (s.toBitVec % 64) = _
    have e1 : (s.toBitVec % 64).toNat = s.toNat := by
      rw [BitVec.toNat_umod]
      show s.toNat % 64 = s.toNat
      exact Nat.mod_eq_of_lt hs
    rw [BitVec.ushiftRight_eq', e1]
    rfl
  rw [e, BitVec.getLsbD_ushiftRight]
theorem bq_1 : ∀ t, t < 64 → bq 1 t = decide (t = 0) := by decide +kernel
theorem and1_bq (y : Int64) : y &&& 1 = if bq y 0 = true then 1 else 0 := by
  apply bq_ext
  intro t ht
  rw [bq_and, bq_1 t ht]
  by_cases h : bq y 0 = true
  · rw [if_pos h, bq_1 t ht]
    by_cases e : t = 0
    · subst e; rw [h]; rfl
    · simp [e]
  · rw [if_neg h, bq_0]
    by_cases e : t = 0
    · subst e; simpa using h
    · simp [e]
theorem isOneAt_bq (x : Int64) {k : Nat} (hk : k < 64) : r_X8_isOneAt x (nI k) = if bq x (63 - k) = true then 1 else 0 := by
  unfold r_X8_isOneAt
  have hs := sh_u k hk
  have e : bq ((x.toUInt64 >>> ((63 - nI k).toInt64.toUInt64 &&& Int64.toUInt64 63)).toInt64) 0 = bq x (63 - k) := by rw [bq_ushr _ _ (by rw [hs]; omega), hs, Nat.add_zero]
  rw [and1_bq, e]
  by_cases h : bq x (63 - k) = true
  · rw [if_pos h, if_pos h]; rfl
  · rw [if_neg h, if_neg h]; rfl
theorem and1_32 (y : Int64) : y.toInt32 &&& 1 = if bq y 0 = true then 1 else 0 := by
  have h0 : (y.toInt32 &&& 1).toBitVec = y.toBitVec.signExtend 32 &&& 1#32 := rfl
  have h1 : y.toBitVec.signExtend 32 &&& 1#32 = if bq y 0 = true then 1#32 else 0#32 := by
    apply BitVec.eq_of_getLsbD_eq
    intro i hi
    rw [BitVec.getLsbD_and, BitVec.getLsbD_signExtend]
    by_cases e : i = 0
    · subst e
      unfold bq
      cases y.toBitVec.getLsbD 0 <;> simp
    · have e1 : (1#32).getLsbD i = false := by
        rw [show (1#32) = BitVec.twoPow 32 0 from rfl, BitVec.getLsbD_twoPow]
        simp; omega
      rw [e1, Bool.and_false]
      split
      · exact e1.symm
      · simp
  apply Int32.toBitVec_inj.mp
  rw [h0, h1]
  split <;> rfl
theorem bitOf_bq (x : Int64) {k : Nat} (hk : k < 64) : r_X9_bitOf x (nI k) = if bq x (63 - k) = true then 1 else 0 := by
  unfold r_X9_bitOf
  have hs := sh_u k hk
  rw [and1_32, bq_ushr _ _ (by rw [hs]; omega), hs, Nat.add_zero]
theorem sh_b : ∀ m, m < 65 → m ≠ 0 → ((64 - nI m).toInt64.toUInt64 &&& Int64.toUInt64 63).toNat = 64 - m := by decide +kernel
theorem begins_bq (x y : Int64) {m : Nat} (hm : m ≤ 64) : r_X9_begins x y (nI m) = if ∀ j, j < m → bq x (63 - j) = bq y (63 - j) then 1 else 0 := by
  unfold r_X9_begins
  by_cases h0 : m = 0
  · subst h0
    rw [if_pos (show nI 0 = 0 from rfl), if_pos (fun j hj => absurd hj (Nat.not_lt_zero j))]
  · rw [if_neg (nI_ne0 (by omega) (by omega))]
    have hs := sh_b m (by omega) h0
    have e : (lg_cmp (((x ^^^ y).toUInt64 >>> ((64 - nI m).toInt64.toUInt64 &&& Int64.toUInt64 63)).toInt64) 0 = 0) ↔ ∀ j, j < m → bq x (63 - j) = bq y (63 - j) := by
      rw [lg_cmp_eq, bq_zero]
      constructor
      · intro h j hj
        have := h (m - 1 - j) (by omega)
        rw [bq_ushr _ _ (by rw [hs]; omega), hs, bq_xor, show 64 - m + (m - 1 - j) = 63 - j by omega] at this
        revert this
        cases bq x (63 - j) <;> cases bq y (63 - j) <;> simp
      · intro h t ht
        rw [bq_ushr _ _ (by rw [hs]; omega), hs]
        by_cases ht2 : t < m
        · rw [bq_xor]
          have := h (m - 1 - t) (by omega)
          rw [show 63 - (m - 1 - t) = 64 - m + t by omega] at this
          rw [this]
          cases bq y (64 - m + t) <;> rfl
        · exact bq_big (by omega)
    by_cases h : ∀ j, j < m → bq x (63 - j) = bq y (63 - j)
    · rw [if_pos (e.mpr h), if_pos h]
    · rw [if_neg (fun q => h (e.mp q)), if_neg h]
/-- how many of the first n bits -/
def cq (x : Int64) : Nat → Nat
  | 0 => 0
  | n + 1 => cq x n + if bq x n = true then 1 else 0
theorem cq_zero {x : Int64} : ∀ {n : Nat}, cq x n = 0 ↔ ∀ t, t < n → bq x t = false
  | 0 => ⟨fun _ t h => absurd h (Nat.not_lt_zero t), fun _ => rfl⟩
  | n + 1 => by
    show cq x n + (if bq x n = true then 1 else 0) = 0 ↔ _
    constructor
    · intro h t ht
      by_cases e : t = n
      · subst e
        by_cases b : bq x t = true
        · rw [if_pos b] at h; omega
        · simpa using b
      · exact (cq_zero (n := n)).mp (by omega) t (by omega)
    · intro h
      rw [(cq_zero (n := n)).mpr (fun t ht => h t (by omega)), h n (by omega)]
      rfl
theorem cq_one {x : Int64} : ∀ {n : Nat}, cq x n = 1 ↔ ∃ t, t < n ∧ bq x t = true ∧ ∀ u, u < n → bq x u = true → u = t
  | 0 => ⟨fun h => absurd (show 0 = 1 from h) (by decide), fun ⟨t, h, _⟩ => absurd h (Nat.not_lt_zero t)⟩
  | n + 1 => by
    show cq x n + (if bq x n = true then 1 else 0) = 1 ↔ _
    by_cases b : bq x n = true
    · rw [if_pos b]
      constructor
      · intro h
        have h0 := (cq_zero (x := x) (n := n)).mp (by omega)
        refine ⟨n, by omega, b, fun u hu hb => ?_⟩
        by_cases e : u = n
        · exact e
        · rw [h0 u (by omega)] at hb; cases hb
      · rintro ⟨t, h1, h2, h3⟩
        have hn : n = t := h3 n (by omega) b
        subst hn
        rw [(cq_zero (x := x) (n := n)).mpr (fun u hu => by
          by_cases c : bq x u = true
          · have := h3 u (by omega) c; omega
          · simpa using c)]
    · rw [if_neg b, Nat.add_zero, cq_one (n := n)]
      constructor
      · rintro ⟨t, h1, h2, h3⟩
        refine ⟨t, by omega, h2, fun u hu hb => ?_⟩
        by_cases e : u = n
        · subst e; exact absurd hb b
        · exact h3 u (by omega) hb
      · rintro ⟨t, h1, h2, h3⟩
        have hne : t ≠ n := fun e => by subst e; exact b h2
        exact ⟨t, by omega, h2, fun u hu hb => h3 u (by omega) hb⟩
theorem first_ex {x : Int64} (h : x ≠ 0) : ∃ t, t < 64 ∧ bq x t = true ∧ ∀ u, u < t → bq x u = false := by
  have h0 : ∃ t, t < 64 ∧ bq x t = true := by
    by_cases q : ∃ t, t < 64 ∧ bq x t = true
    · exact q
    · exact absurd (bq_zero.mpr (fun t ht => by
        by_cases b : bq x t = true
        · exact absurd ⟨t, ht, b⟩ q
        · simpa using b)) h
  obtain ⟨t, h1, h2⟩ := h0
  induction t using Nat.strongRecOn with
  | ind t ih =>
    by_cases q : ∃ u, u < t ∧ bq x u = true
    · obtain ⟨u, hu, hb⟩ := q
      exact ih u hu (by omega) hb
    · exact ⟨t, h1, h2, fun u hu => by
        by_cases b : bq x u = true
        · exact absurd ⟨u, hu, b⟩ q
        · simpa using b⟩
/-- below the lowest bit x - 1 has ones, there a zero, above it what x has -/
theorem pred_bits {x : Int64} {t : Nat} (ht : t < 64) (hb : bq x t = true) (hl : ∀ u, u < t → bq x u = false) {u : Nat} (hu : u < 64) : bq (x - 1) u = if u < t then true else if u = t then false else bq x u := by
  unfold bq at *
  generalize hX : x.toBitVec = X at *
  have e : (x - 1).toBitVec = X - 1#64 := by rw [Int64.toBitVec_sub, hX]; rfl
  rw [e]
  -- X = 2^t * (2q + 1)
  have hmod : X.toNat % 2 ^ t = 0 := by
    apply Nat.eq_of_testBit_eq
    intro i
    rw [Nat.testBit_mod_two_pow, Nat.zero_testBit]
    by_cases hi : i < t
    · have := hl i hi
      rw [BitVec.getLsbD] at this
      rw [this, Bool.and_false]
    · simp [hi]
  have hX2 : X.toNat = 2 ^ t * (X.toNat / 2 ^ t) := by
    have := Nat.div_add_mod X.toNat (2 ^ t)
    omega
  have hodd : (X.toNat / 2 ^ t) % 2 = 1 := by
    have : (X.toNat / 2 ^ t).testBit 0 = true := by
      rw [Nat.testBit_div_two_pow, Nat.zero_add]
      exact hb
    rw [Nat.testBit_zero] at this
    simpa using this
  generalize hq : X.toNat / 2 ^ t = Y at *
  have hpos : 0 < 2 ^ t := Nat.two_pow_pos t
  have hY : Y = 2 * (Y / 2) + 1 := by omega
  have hN : (X - 1#64).toNat = 2 ^ t * (2 * (Y / 2)) + (2 ^ t - 1) := by
    have h1 : 1 ≤ X.toNat := by rw [hX2]; exact Nat.le_trans hpos (Nat.le_mul_of_pos_right _ (by omega))
    have h2 : (X - 1#64).toNat = X.toNat - 1 := by
      rw [BitVec.toNat_sub]
      have h3 : (1#64).toNat = 1 := rfl
      rw [h3]
      have h4 := X.isLt
      have h5 : 2 ^ 64 - 1 + X.toNat = (X.toNat - 1) + 2 ^ 64 := by omega
      rw [h5, Nat.add_mod_right, Nat.mod_eq_of_lt (by omega)]
    rw [h2, hX2]
    have h6 : 2 ^ t * Y = 2 ^ t * (2 * (Y / 2)) + 2 ^ t := by
      conv => lhs; rw [hY]
      rw [Nat.mul_add, Nat.mul_one]
    omega
  have hgoal : (X - 1#64).toNat.testBit u = if u < t then true else if u = t then false else X.toNat.testBit u := by
    rw [hN, Nat.testBit_two_pow_mul_add _ (by omega : 2 ^ t - 1 < 2 ^ t)]
    by_cases c1 : u < t
    · rw [if_pos c1, if_pos c1, Nat.testBit_two_pow_sub_one]
      simp [c1]
    · rw [if_neg c1, if_neg c1]
      by_cases c2 : u = t
      · subst c2
        rw [if_pos rfl, Nat.sub_self, Nat.testBit_zero]
        simp
      · rw [if_neg c2]
        have c3 : X.toNat.testBit u = Y.testBit (u - t) := by
          rw [← hq, Nat.testBit_div_two_pow]
          congr 1; omega
        rw [c3]
        obtain ⟨j, hj⟩ : ∃ j, u - t = j + 1 := ⟨u - t - 1, by omega⟩
        rw [hj, Nat.testBit_succ, Nat.testBit_succ]
        congr 1
        omega
  exact hgoal
theorem kind_bq (x : Int64) : r_X8_kindOfSlot x = if cq x 64 = 0 then 0 else if cq x 64 = 1 then 1 else 2 := by
  unfold r_X8_kindOfSlot
  have e0 : lg_cmp x 0 = 0 ↔ cq x 64 = 0 := by rw [lg_cmp_eq, bq_zero, cq_zero]
  by_cases h0 : cq x 64 = 0
  · rw [if_pos (e0.mpr h0), if_pos h0]
  · rw [if_neg (fun q => h0 (e0.mp q)), if_neg h0]
    have hx : x ≠ 0 := fun q => h0 (e0.mp ((lg_cmp_eq x 0).mpr q))
    obtain ⟨t, ht, hb, hl⟩ := first_ex hx
    have e1 : lg_cmp (x &&& (x - 1)) 0 = 0 ↔ cq x 64 = 1 := by
      rw [lg_cmp_eq, bq_zero, cq_one]
      constructor
      · intro h
        refine ⟨t, ht, hb, fun u hu hbu => ?_⟩
        have := h u hu
        rw [bq_and, hbu, pred_bits ht hb hl hu, Bool.true_and] at this
        by_cases c1 : u < t
        · rw [if_pos c1] at this; cases this
        · rw [if_neg c1] at this
          by_cases c2 : u = t
          · exact c2
          · rw [if_neg c2, hbu] at this; cases this
      · rintro ⟨v, h1, h2, h3⟩ u hu
        have hv : t = v := h3 t ht hb
        subst hv
        rw [bq_and, pred_bits ht hb hl hu]
        by_cases c1 : u < t
        · rw [if_pos c1, hl u c1]; rfl
        · rw [if_neg c1]
          by_cases c2 : u = t
          · rw [if_pos c2, Bool.and_false]
          · rw [if_neg c2]
            cases hbu : bq x u with
            | false => rfl
            | true => exact absurd (h3 u hu hbu) c2
    by_cases h1 : cq x 64 = 1
    · rw [if_pos (e1.mpr h1), if_pos h1]
    · rw [if_neg (fun q => h1 (e1.mp q)), if_neg h1]
set_option maxRecDepth 100000 in
theorem low_ct : ∀ k, k < 64 → r_J13_bitCount_95d88 (((1 : Int64) <<< ((nI k).toInt64 &&& 63)) - 1) = nI k := by decide +kernel
theorem neg_bits {x : Int64} {t : Nat} (ht : t < 64) (hb : bq x t = true) (hl : ∀ u, u < t → bq x u = false) : x &&& (-x) = (1 : Int64) <<< ((nI t).toInt64 &&& 63) := by
  have e : -x = (x - 1) ^^^ (-1) := by
    apply Int64.toBitVec_inj.mp
    rw [Int64.toBitVec_neg, Int64.toBitVec_xor, Int64.toBitVec_sub]
    have e1 : ((-1 : Int64)).toBitVec = BitVec.allOnes 64 := by decide
    have e2 : ((1 : Int64)).toBitVec = 1#64 := rfl
    rw [e1, e2, BitVec.xor_allOnes, BitVec.not_sub_one_eq_not_add_one, BitVec.neg_eq_not_add]
  apply bq_ext
  intro u hu
  rw [bq_and, e, bq_not _ hu, pred_bits ht hb hl hu, bq_set ht]
  by_cases c1 : u < t
  · rw [if_pos c1, hl u c1]
    simp; omega
  · rw [if_neg c1]
    by_cases c2 : u = t
    · rw [if_pos c2, c2, hb]; simp
    · rw [if_neg c2]
      simp [c2]
theorem first_bq {x : Int64} {t : Nat} (ht : t < 64) (hb : bq x t = true) (hl : ∀ u, u < t → bq x u = false) : r_X8_firstOf x = nI t := by
  unfold r_X8_firstOf
  have hx : ¬ lg_cmp x 0 = 0 := fun q => by
    have := bq_zero.mp ((lg_cmp_eq x 0).mp q) t ht
    rw [hb] at this; cases this
  rw [if_neg hx, neg_bits ht hb hl, low_ct t ht]
theorem first_none : r_X8_firstOf 0 = -1 := by decide
