theorem RelT.seed {a : Nat → Int32} {w : Nat → Int64} {n : Nat} {kinds : Nat → Int32} {names : Nat → Int64} {seeds : Nat → Int32} {ones ofk : Nat → Int64} {sz : Int32} {there awake grp gm gb : Int64} {a' : Nat → Int32} {seeds' : Nat → Int32} (h : RelT a w n kinds names seeds ones ofk sz there awake grp gm gb) (h0 : a' 0 = a 0) (ht : ∀ t, t < n → a' (300 + 6 * t + 0) = a (300 + 6 * t + 0) ∧ a' (300 + 6 * t + 1) = a (300 + 6 * t + 1) ∧ a' (300 + 6 * t + 2) = a (300 + 6 * t + 2) ∧ a' (300 + 6 * t + 4) = seeds' t) : RelT a' w n kinds names seeds' ones ofk sz there awake grp gm gb := by
  obtain ⟨q1, q2, q3, q4, q5⟩ := h
  refine ⟨by rw [h0]; exact q1, q2, q3, fun t h => ?_, q5⟩
  obtain ⟨e1, e2, e3, e4⟩ := ht t h
  obtain ⟨d0, d1, d2, d3, d4, d5⟩ := q4 t h
  exact ⟨by rw [e1]; exact d0, d1, by rw [e2]; exact d2, by rw [e3]; exact d3, e4, d5⟩
theorem draw_ok (x : Int32) {N : Nat} (h1 : 0 < N) (h2 : N ≤ 64) : ∃ d, d < N ∧ ((x.toUInt32 >>> (Int32.toUInt32 16 &&& Int32.toUInt32 31)).toInt32) - ((x.toUInt32 >>> (Int32.toUInt32 16 &&& Int32.toUInt32 31)).toInt32) / nI N * nI N = nI d := by
  have hb := pk_ushr x 16 16 (by decide)
  have hx : x.toBitVec.toNat < 2 ^ 32 := x.toBitVec.isLt
  generalize (x.toUInt32 >>> (Int32.toUInt32 16 &&& Int32.toUInt32 31)).toInt32 = y at hb ⊢
  have hy : y = nI y.toBitVec.toNat := by
    apply Int32.toBitVec_inj.mp
    apply BitVec.eq_of_toNat_eq
    rw [pk_tn (by omega)]
  rw [hy, pk_rem (by omega) h1 (by omega)]
  exact ⟨_, Nat.mod_lt _ h1, rfl⟩
def dw (s : Int32) (N : Int32) : Int32 := (((((1103515245 * s) + 12345)).toUInt32 >>> (Int32.toUInt32 16 &&& Int32.toUInt32 31)).toInt32) - (((((1103515245 * s) + 12345)).toUInt32 >>> (Int32.toUInt32 16 &&& Int32.toUInt32 31)).toInt32) / N * N
theorem dw_ok (s : Int32) {N : Nat} (h1 : 0 < N) (h2 : N ≤ 64) : ∃ d, d < N ∧ dw s (nI N) = nI d := draw_ok _ h1 h2
theorem draw9 (a : Nat → Int32) (k : Nat) (N : Int32) : r_X9_draw a k N = dw (a (300 + 6 * k + 4)) N := by
  unfold r_X9_draw dw
  rw [Int32.mul_comm (a (300 + 6 * k + 4))]
theorem draw9a (a : Nat → Int32) (k : Nat) : u_X9_draw_a a k = upd a (300 + 6 * k + 4) ((1103515245 * (a (300 + 6 * k + 4))) + 12345) := by
  unfold u_X9_draw_a
  rw [Int32.mul_comm (a (300 + 6 * k + 4))]
theorem has_t {n t : Nat} (ht : t < n) (hn : n ≤ 40) : ¬ r_X6_has (nI n) (nI t) = 0 := by
  unfold r_X6_has
  rw [if_neg (nI_pos (by omega)), if_neg (nI_ge ht (by omega))]; decide
theorem draw6 {n t N : Nat} (ht : t < n) (hn : n ≤ 40) (h1 : 0 < N) (h2 : N ≤ 64) (seeds : Nat → Int32) : r_X6_draw seeds (nI n) (nI t) (nI N) = dw (seeds t) (nI N) := by
  unfold r_X6_draw dw
  rw [if_neg (has_t ht hn), if_pos (nn_le (x := 1) (a := 1) rfl rfl (by omega) (by omega)), nI_clamp (by omega), pk_us]
theorem draw6s {n t N : Nat} (ht : t < n) (hn : n ≤ 40) (h1 : 0 < N) (h2 : N ≤ 64) (seeds : Nat → Int32) : u_X6_draw_seeds seeds (nI n) (nI t) (nI N) = upd seeds t ((1103515245 * (seeds t)) + 12345) := by
  unfold u_X6_draw_seeds
  rw [if_neg (has_t ht hn), if_pos (nn_le (x := 1) (a := 1) rfl rfl (by omega) (by omega)), nI_clamp (by omega)]
/-- a loop over the tags whose body works in its tag's block alone -/
theorem blk_loop {body : Nat → (Nat → Int32) → (Nat → Int32)} (h1 : ∀ k σ j, (j < 300 + 6 * k ∨ 300 + 6 * k + 5 < j) → body k σ j = σ j) (h2 : ∀ k σ σ', (∀ i, i < 6 → σ (300 + 6 * k + i) = σ' (300 + 6 * k + i)) → ∀ i, i < 6 → body k σ (300 + 6 * k + i) = body k σ' (300 + 6 * k + i)) (A : Nat → Int32) (n : Nat) : (∀ t, t < n → ∀ i, i < 6 → lpF body n 0 A (300 + 6 * t + i) = body t A (300 + 6 * t + i)) ∧ (∀ j, (j < 300 ∨ 300 + 6 * n ≤ j) → lpF body n 0 A j = A j) := by
  have key := lpF_inv (body := body) (fun k σ => (∀ t, t < k → ∀ i, i < 6 → σ (300 + 6 * t + i) = body t A (300 + 6 * t + i)) ∧ (∀ j, (j < 300 ∨ 300 + 6 * k ≤ j) → σ j = A j)) n 0 A ⟨fun t ht => absurd ht (Nat.not_lt_zero t), fun _ _ => rfl⟩ (fun k σ _ _ hi => by
    refine ⟨fun t ht i hi6 => ?_, fun j hj => ?_⟩
    · by_cases e : t = k
      · subst e
        exact h2 t σ A (fun i' hi' => hi.2 _ (by omega)) i hi6
      · rw [h1 k σ _ (by omega)]; exact hi.1 t (by omega) i hi6
    · rw [h1 k σ _ (by omega)]; exact hi.2 j (by omega))
  rw [Nat.zero_add] at key
  exact key
theorem splits_cong {σ σ' : Nat → Int32} {w : Nat → Int64} {k : Nat} (h : ∀ i, i < 6 → σ (300 + 6 * k + i) = σ' (300 + 6 * k + i)) : r_X9_splits σ w k = r_X9_splits σ' w k := by
  unfold r_X9_splits r_X9_listens
  rw [h 0 (by omega), h 1 (by omega), h 2 (by omega)]
theorem s75_out (a : Nat → Int32) (w : Nat → Int64) (n : Nat) (sv : Nat → Int32) (k : Nat) (σ : Nat → Int32) (j : Nat) (hj : j < 300 + 6 * k ∨ 300 + 6 * k + 5 < j) : b_X9_split_75 a w n sv k σ j = σ j := by
  unfold b_X9_split_75
  rw [draw9a]
  split
  · rfl
  · split
    · rfl
    · split
      · rfl
      · split
        · split
          · rw [pk_un (by omega)]
          · rw [pk_un (by omega), pk_un (by omega)]
        · split <;> rw [pk_un (by omega)]
theorem upd_cong {σ σ' : Nat → Int32} {x x' : Int32} {k i j : Nat} (hx : x = x') (h : ∀ i, i < 6 → σ (300 + 6 * k + i) = σ' (300 + 6 * k + i)) (hi : i < 6) : upd σ j x (300 + 6 * k + i) = upd σ' j x' (300 + 6 * k + i) := by
  rw [upd_ite, upd_ite, hx]
  split
  · rfl
  · exact h i hi
theorem s75_in (a : Nat → Int32) (w : Nat → Int64) (n : Nat) (sv : Nat → Int32) (k : Nat) (σ σ' : Nat → Int32) (h : ∀ i, i < 6 → σ (300 + 6 * k + i) = σ' (300 + 6 * k + i)) (i : Nat) (hi : i < 6) : b_X9_split_75 a w n sv k σ (300 + 6 * k + i) = b_X9_split_75 a w n sv k σ' (300 + 6 * k + i) := by
  unfold b_X9_split_75
  rw [draw9a, draw9a, draw9, draw9, splits_cong h, h 3 (by omega), h 4 (by omega)]
  split
  · exact h i hi
  · split
    · exact h i hi
    · split
      · exact h i hi
      · split
        · split
          · exact upd_cong rfl h hi
          · exact upd_cong rfl (fun i hi => upd_cong rfl h hi) hi
        · split <;> exact upd_cong rfl h hi
theorem nI_m1 (m : Nat) (hm : m < 2 ^ 31) : (if nI m ≤ 0 then (0 : Int32) else nI m - 1) = nI (m - 1) := by
  by_cases c : m = 0
  · subst c; decide
  · rw [if_neg (nn_nle (y := 0) (b := 0) rfl rfl (by omega) hm)]
    exact nn_sub (y := 1) (b := 1) rfl rfl (by omega) rfl
theorem sh_m1 (m : Nat) (hm : m < 2 ^ 31) : (if 0 < nI m + (-1) then nI m + (-1) else (0 : Int32)) = nI (m - 1) := by
  by_cases c : m = 0
  · subst c; decide
  · have e : nI m + (-1) = nI (m - 1) := nn_m1 rfl (by omega)
    rw [e]
    by_cases d : m - 1 = 0
    · rw [d]; decide
    · rw [if_pos (nn_lt (x := 0) (a := 0) rfl rfl (by omega) (by omega))]
theorem sh_p1 (m : Nat) (hm : m < 2 ^ 30) : (if 0 < nI m + 1 then nI m + 1 else (0 : Int32)) = nI (m + 1) := by
  have e : nI m + 1 = nI (m + 1) := nI_1 m
  rw [e, if_pos (nn_lt (x := 0) (a := 0) rfl rfl (by omega) (by omega))]
def shv (x b : Int32) : Int32 := if 0 < x + b then x + b else 0
theorem shift_eq (hold set : Int64) (by_ : Int32) (vals : Nat → Int32) : ∀ t, t < 40 → lpF (b_X0_shift_3 hold set by_) 40 0 vals t = if bq (set &&& hold) t = true then shv (vals t) by_ else vals t := by
  have key := lpF_inv (body := b_X0_shift_3 hold set by_) (fun k σ => k ≤ 40 → ∀ t, σ t = if t < k ∧ bq (set &&& hold) t = true then shv (vals t) by_ else vals t) 40 0 vals (fun _ t => by rw [if_neg (by omega)]) (fun k σ _ hk hi hk1 t => by
    have i := hi (by omega)
    have eb : b_X0_shift_3 hold set by_ k σ = if r_X8_isIn (set &&& hold) (nI k) = 0 then σ else upd σ k (shv (σ k) by_) := rfl
    rw [eb, isIn_b01 _ (by omega)]
    by_cases c : bq (set &&& hold) k = true
    · rw [c, if_neg (by decide)]
      by_cases e : t = k
      · subst e; rw [pk_us, if_pos ⟨by omega, c⟩, i t, if_neg (by omega)]
      · rw [pk_un e, i t]
        by_cases d : t < k ∧ bq (set &&& hold) t = true
        · rw [if_pos d, if_pos ⟨by omega, d.2⟩]
        · rw [if_neg d, if_neg (fun q => d ⟨by omega, q.2⟩)]
    · have c' : bq (set &&& hold) k = false := by simpa using c
      rw [c', if_pos (by decide), i t]
      by_cases d : t < k ∧ bq (set &&& hold) t = true
      · rw [if_pos d, if_pos ⟨by omega, d.2⟩]
      · rw [if_neg d, if_neg (fun q => d ⟨by
          by_cases e : t = k
          · subst e; exact absurd q.2 c
          · omega, q.2⟩)])
  intro t ht
  rw [Nat.zero_add] at key
  rw [key (Nat.le_refl _) t]
  by_cases c : bq (set &&& hold) t = true
  · rw [if_pos ⟨ht, c⟩, if_pos c]
  · rw [if_neg (fun q => c q.2), if_neg c]
theorem atZero_bq (vals : Nat → Int32) (hold li : Int64) : ∀ t, t < 64 → (bq (r_X0_atZero vals hold li) t = true ↔ t < 40 ∧ bq (li &&& hold) t = true ∧ vals t = 0) := by
  have key := lpF_inv (body := b_X0_atZero_5 vals hold li) (fun k σ => k ≤ 40 → ∀ t, t < 64 → (bq σ t = true ↔ t < k ∧ bq (li &&& hold) t = true ∧ vals t = 0)) 40 0 0 (fun _ t _ => by rw [bq_0]; exact ⟨fun e => (by cases e), fun e => absurd e.1 (Nat.not_lt_zero t)⟩) (fun k σ _ hk hi hk1 t ht => by
    have i := hi (by omega) t ht
    have no : ¬ (bq (li &&& hold) k = true ∧ vals k = 0) → (bq σ t = true ↔ t < k + 1 ∧ bq (li &&& hold) t = true ∧ vals t = 0) := fun nn => by
      rw [i]
      constructor
      · exact fun q => ⟨by omega, q.2⟩
      · intro q
        refine ⟨?_, q.2⟩
        by_cases e : t = k
        · subst e; exact absurd q.2 nn
        · omega
    unfold b_X0_atZero_5
    rw [isIn_b01 _ (by omega)]
    by_cases c : bq (li &&& hold) k = true
    · rw [c, if_neg (by decide)]
      by_cases d : vals k = 0
      · rw [if_pos d, bq_put (by omega)]
        by_cases e : t = k
        · subst e; rw [if_pos rfl]; exact ⟨fun _ => ⟨by omega, c, d⟩, fun _ => rfl⟩
        · rw [if_neg e, i]; exact ⟨fun q => ⟨by omega, q.2⟩, fun q => ⟨by omega, q.2⟩⟩
      · rw [if_neg d]; exact no (fun q => d q.2)
    · have c' : bq (li &&& hold) k = false := by simpa using c
      rw [c', if_pos (by decide)]; exact no (fun q => c q.1))
  rw [Nat.zero_add] at key
  exact key (Nat.le_refl _)
theorem drawC_eq {n : Nat} (hn : n ≤ 40) (m : Int64) (seeds vals : Nat → Int32) : (∀ t, (lpF (b_X8_drawCounters_2 (nI n) m) n 0 (seeds, vals)).1 t = if t < n ∧ bq m t = true then ((1103515245 * (seeds t)) + 12345) else seeds t) ∧ (∀ t, (lpF (b_X8_drawCounters_2 (nI n) m) n 0 (seeds, vals)).2 t = if t < n ∧ bq m t = true then dw (seeds t) 2 else vals t) := by
  have key := lpF_inv (body := b_X8_drawCounters_2 (nI n) m) (fun k σ => k ≤ n → (∀ t, σ.1 t = if t < k ∧ bq m t = true then ((1103515245 * (seeds t)) + 12345) else seeds t) ∧ (∀ t, σ.2 t = if t < k ∧ bq m t = true then dw (seeds t) 2 else vals t)) n 0 (seeds, vals) (fun _ => ⟨fun t => by rw [if_neg (by omega)], fun t => by rw [if_neg (by omega)]⟩) (fun k σ _ hk hi hk1 => by
    obtain ⟨i1, i2⟩ := hi (by omega)
    unfold b_X8_drawCounters_2
    rw [isIn_b01 _ (by omega)]
    by_cases c : bq m k = true
    · have d2 : (2 : Int32) = nI 2 := rfl
      have ek : σ.1 k = seeds k := by rw [i1 k, if_neg (by omega)]
      rw [c, if_neg (by decide)]
      have x1 : u_X6_draw_seeds σ.1 (nI n) (nI k) 2 = upd σ.1 k ((1103515245 * (σ.1 k)) + 12345) := draw6s (N := 2) (by omega) hn (by omega) (by omega) σ.1
      have x2 : r_X6_draw σ.1 (nI n) (nI k) 2 = dw (σ.1 k) 2 := draw6 (N := 2) (by omega) hn (by omega) (by omega) σ.1
      have x3 : ∀ v, u_X0_put_vals σ.2 (nI k) v = upd σ.2 k v := fun v => by
        unfold u_X0_put_vals
        rw [if_neg (nI_pos (by omega)), if_neg (nn_nle (x := 40) (a := 40) rfl rfl (by omega) (by omega)), nI_clamp (by omega)]
      rw [x1, x2, x3, ek]
      refine ⟨fun t => ?_, fun t => ?_⟩
      · show upd σ.1 k _ t = _
        by_cases e : t = k
        · subst e; rw [pk_us, if_pos ⟨by omega, c⟩]
        · rw [pk_un e, i1 t]
          by_cases d : t < k ∧ bq m t = true
          · rw [if_pos d, if_pos ⟨by omega, d.2⟩]
          · rw [if_neg d, if_neg (fun q => d ⟨by omega, q.2⟩)]
      · show upd σ.2 k _ t = _
        by_cases e : t = k
        · subst e; rw [pk_us, if_pos ⟨by omega, c⟩]
        · rw [pk_un e, i2 t]
          by_cases d : t < k ∧ bq m t = true
          · rw [if_pos d, if_pos ⟨by omega, d.2⟩]
          · rw [if_neg d, if_neg (fun q => d ⟨by omega, q.2⟩)]
    · have c' : bq m k = false := by simpa using c
      rw [c', if_pos (by decide)]
      have ex : ∀ t, (t < k + 1 ∧ bq m t = true) ↔ (t < k ∧ bq m t = true) := fun t => ⟨fun q => ⟨by
        by_cases e : t = k
        · subst e; exact absurd q.2 c
        · omega, q.2⟩, fun q => ⟨by omega, q.2⟩⟩
      refine ⟨fun t => ?_, fun t => ?_⟩
      · show σ.1 t = _
        rw [i1 t]
        by_cases d : t < k ∧ bq m t = true
        · rw [if_pos d, if_pos ((ex t).mpr d)]
        · rw [if_neg d, if_neg (fun q => d ((ex t).mp q))]
      · show σ.2 t = _
        rw [i2 t]
        by_cases d : t < k ∧ bq m t = true
        · rw [if_pos d, if_pos ((ex t).mpr d)]
        · rw [if_neg d, if_neg (fun q => d ((ex t).mp q))])
  rw [Nat.zero_add] at key
  exact key (Nat.le_refl n)
