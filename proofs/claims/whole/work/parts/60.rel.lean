def b01 (b : Bool) : Int32 := if b = true then 1 else 0
theorem b01_1 (b : Bool) : b01 b = 1 ↔ b = true := by cases b <;> decide
theorem b01_0 (b : Bool) : b01 b = 0 ↔ b = false := by cases b <;> decide
theorem b01_ite (b : Bool) : (if b = true then (1 : Int32) else 0) = b01 b := rfl
/-- the tags: model's rows against the class's sets -/
def RelT (a : Nat → Int32) (w : Nat → Int64) (n : Nat) (kinds : Nat → Int32) (names : Nat → Int64) (seeds : Nat → Int32) (ones ofk : Nat → Int64) (sz : Int32) (there awake grp gm gb : Int64) : Prop :=
  a 0 = nI n ∧ n ≤ 40 ∧ sz = nI n ∧
  (∀ t, t < n → a (300 + 6 * t + 0) = kinds t ∧ (∃ j, j < 6 ∧ kinds t = nI j) ∧ a (300 + 6 * t + 1) = b01 (bq there t) ∧ a (300 + 6 * t + 2) = b01 (bq awake t) ∧ a (300 + 6 * t + 4) = seeds t ∧ w (84 + t) = names t ∧ (∀ j, j < 6 → (bq (ofk j) t = true ↔ kinds t = nI j)) ∧ (∀ b, b < 64 → bq (ones b) t = bq (names t) (63 - b)) ∧ (bq grp t = true ↔ (names t ^^^ w 1) &&& w 0 = 0)) ∧
  (∀ t, n ≤ t → t < 64 → bq there t = false ∧ bq awake t = false ∧ bq grp t = false ∧ (∀ j, j < 6 → bq (ofk j) t = false) ∧ (∀ b, b < 64 → bq (ones b) t = false)) ∧
  gm = w 0 ∧ gb = w 1 &&& w 0 ∧ (∀ s t, s < n → t < n → names s = names t → s = t)
/-- the counters; T: calls so far -/
def RelC (T : Nat) (a : Nat → Int32) (n : Nat) (kinds : Nat → Int32) (vals : Nat → Int32) (hold : Int64) (call : Int32) : Prop :=
  (∀ t, t < n → a (300 + 6 * t + 3) = if bq hold t = true then vals t else -1) ∧ (∀ t, t < n → bq hold t = true → (kinds t = 3 ∨ kinds t = 4) ∧ ∃ m, m ≤ T ∧ vals t = nI m) ∧ (∀ t, n ≤ t → t < 64 → bq hold t = false) ∧ a 5 = call ∧ (call = -1 ∨ ∃ m, m ≤ T ∧ call = nI m)
def RelF (a : Nat → Int32) (n : Nat) (fio : Int64) (fqu fal fco fgu : Int32) : Prop :=
  (∀ t, t < n → a (300 + 6 * t + 5) = b01 (bq fio t)) ∧ (∀ t, n ≤ t → t < 64 → bq fio t = false) ∧ a 7 = fqu ∧ a 8 = fal ∧ a 9 = fco ∧ a 10 = fgu
def RelP (a : Nat → Int32) (w : Nat → Int64) (lf ir : Int32) (ln : Int64) : Prop := a 2 = lf ∧ a 3 = ir ∧ (lf = -1 ∨ (w 2 = ln ∧ ∃ j, j < 64 ∧ lf = nI j))
def RelL (a : Nat → Int32) (w : Nat → Int64) (z : Nat) (rows : Nat → Int64) (lens : Nat → Int32) (psz : Int32) : Prop := a 4 = nI z ∧ psz = nI z ∧ (∀ i, i < z → w (4 + i) = rows i ∧ a (20 + i) = lens i) ∧ pJ z lens
def RelY (a : Nat → Int32) (f : Nat) (ft : Nat → Int32) (fs qs als cs ps : Int32) : Prop := a 15 = nI f ∧ f ≤ 200 ∧ fs = nI f ∧ (∀ i, i < f → a (100 + i) = ft i) ∧ a 11 = qs ∧ a 12 = als ∧ a 13 = cs ∧ a 14 = ps
def RelV (a : Nat → Int32) (wire alo : Int32) : Prop := a 1 = wire ∧ a 6 = alo
/-- the mask of those that listen -/
abbrev Lm (there awake grp : Int64) : Int64 := (there &&& awake) &&& grp
/-- an array of speakers against a mask -/
def SpR (n : Nat) (sp : Nat → Int32) (m : Int64) : Prop := (∀ t, t < n → sp t = b01 (bq m t)) ∧ (∀ t, n ≤ t → t < 64 → bq m t = false)
section REL
variable {a : Nat → Int32} {w : Nat → Int64} {n : Nat} {kinds : Nat → Int32} {names : Nat → Int64} {seeds : Nat → Int32} {ones ofk : Nat → Int64} {sz : Int32} {there awake grp gm gb : Int64}
theorem RelT.Lbig (h : RelT a w n kinds names seeds ones ofk sz there awake grp gm gb) {t : Nat} (h1 : n ≤ t) (h2 : t < 64) : bq (Lm there awake grp) t = false := by
  obtain ⟨q1, q2, q3, -⟩ := h.2.2.2.2.1 t h1 h2
  rw [bq_and, bq_and, q1]
  rfl
theorem lg0 (x : Int64) : (lg_cmp x 0 = 0) ↔ x = 0 := lg_cmp_eq x 0
theorem RelT.lis (h : RelT a w n kinds names seeds ones ofk sz there awake grp gm gb) {t : Nat} (ht : t < n) : r_X9_listens a w t = b01 (bq (Lm there awake grp) t) := by
  obtain ⟨-, -, h1, h2, -, h3, -, -, h4⟩ := h.2.2.2.1 t ht
  unfold r_X9_listens
  rw [h1, h2, h3, bq_and, bq_and]
  by_cases c1 : bq there t = true
  · rw [if_pos ((b01_1 _).mpr c1)]
    by_cases c2 : bq awake t = true
    · rw [if_pos ((b01_1 _).mpr c2)]
      by_cases c3 : bq grp t = true
      · rw [if_pos ((lg0 _).mpr (h4.mp c3)), c1, c2, c3]; rfl
      · rw [if_neg (fun q => c3 (h4.mpr ((lg0 _).mp q)))]
        have : bq grp t = false := by simpa using c3
        rw [this, Bool.and_false]; rfl
    · rw [if_neg (fun q => c2 ((b01_1 _).mp q))]
      have : bq awake t = false := by simpa using c2
      rw [this, Bool.and_false, Bool.false_and]; rfl
  · rw [if_neg (fun q => c1 ((b01_1 _).mp q))]
    have : bq there t = false := by simpa using c1
    rw [this, Bool.false_and, Bool.false_and]; rfl
theorem cq_ge {x : Int64} {n : Nat} (h : ∀ t, n ≤ t → t < 64 → bq x t = false) : ∀ k, n ≤ k → k ≤ 64 → cq x k = cq x n
  | 0, h1, _ => by have : n = 0 := by omega
                   rw [this]
  | k + 1, h1, h2 => by
    by_cases e : n = k + 1
    · rw [e]
    · show cq x k + (if bq x k = true then 1 else 0) = cq x n
      rw [h k (by omega) (by omega), cq_ge h k (by omega) (by omega)]
      rfl
theorem cq_le (x : Int64) : ∀ k, cq x k ≤ k
  | 0 => Nat.le_refl 0
  | k + 1 => by
    show cq x k + (if bq x k = true then 1 else 0) ≤ k + 1
    have := cq_le x k
    split <;> omega
/-- how many listen: the model's loop -/
theorem lis_count (h : RelT a w n kinds names seeds ones ofk sz there awake grp gm gb) : lpF (b_X9_listening_4 a w) n 0 0 = nI (cq (Lm there awake grp) n) := by
  have := lpF_inv (body := b_X9_listening_4 a w) (fun k σ => k ≤ n → σ = nI (cq (Lm there awake grp) k)) n 0 0 (fun _ => rfl) (fun j t _ _ hi hj => by
    unfold b_X9_listening_4
    rw [h.lis (show j < n by omega), hi (by omega)]
    show _ = nI (cq (Lm there awake grp) j + (if bq (Lm there awake grp) j = true then 1 else 0))
    by_cases c : bq (Lm there awake grp) j = true
    · rw [if_neg (fun q => by rw [(b01_0 _).mp q] at c; cases c), if_pos c]; exact nI_1 _
    · rw [if_pos ((b01_0 _).mpr (by simpa using c)), if_neg c]; exact nI_add _ 0)
  rw [Nat.zero_add] at this
  exact this (Nat.le_refl n)
theorem has_isIn (tag sz : Int32) : r_X6_has sz tag = r_X9_isIn tag sz := rfl
/-- a number that is a tag -/
theorem tag_of (h : RelT a w n kinds names seeds ones ofk sz there awake grp gm gb) (tag : Int32) : (r_X6_has sz tag = 0 ∧ r_X9_isIn tag (a 0) = 0) ∨ ∃ t, t < n ∧ tag = nI t ∧ tag.toNatClampNeg = t ∧ ¬ r_X6_has sz tag = 0 ∧ ¬ r_X9_isIn tag (a 0) = 0 := by
  have e : r_X9_isIn tag (a 0) = r_X6_has sz tag := by rw [has_isIn, h.1, h.2.2.1]
  by_cases c : r_X6_has sz tag = 0
  · exact Or.inl ⟨c, by rw [e]; exact c⟩
  · obtain ⟨h1, h2⟩ := has_nat h.2.2.1 (by have := h.2.1; omega) c
    exact Or.inr ⟨tag.toNatClampNeg, h2, h1, rfl, c, by rw [e]; exact c⟩
end REL
