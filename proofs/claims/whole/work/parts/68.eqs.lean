theorem grp_iff (x y m : Int64) : x &&& m = y &&& m ↔ (x ^^^ y) &&& m = 0 := by
  constructor
  · intro h
    refine bq_zero.mpr (fun t ht => ?_)
    have e : bq (x &&& m) t = bq (y &&& m) t := by rw [h]
    rw [bq_and, bq_and] at e
    rw [bq_and, bq_xor]
    revert e
    cases bq x t <;> cases bq y t <;> cases bq m t <;> decide
  · intro h
    refine bq_ext (fun t ht => ?_)
    have e := bq_zero.mp h t ht
    rw [bq_and, bq_xor] at e
    rw [bq_and, bq_and]
    revert e
    cases bq x t <;> cases bq y t <;> cases bq m t <;> decide
theorem isOfGroup_iff (gm gb nm : Int64) : r_X6_isOfGroup gm gb nm = 0 ↔ ¬ nm &&& gm = gb := by
  unfold r_X6_isOfGroup
  by_cases c : nm &&& gm = gb
  · rw [if_pos ((lg_cmp_eq _ _).mpr c)]
    exact ⟨fun e => absurd e (by decide), fun e => absurd c e⟩
  · rw [if_neg (fun e => c ((lg_cmp_eq _ _).mp e))]
    exact ⟨fun _ => c, fun _ => rfl⟩
theorem regroup_bq (names : Nat → Int64) (mask bits : Int64) {n : Nat} (hn : n ≤ 40) : ∀ t, t < 64 → (bq (lpF (b_X6_regroup_20 names mask bits) n 0 0) t = true ↔ t < n ∧ (names t ^^^ bits) &&& mask = 0) := by
  have key := lpF_inv (body := b_X6_regroup_20 names mask bits) (fun k σ => k ≤ n → ∀ t, t < 64 → (bq σ t = true ↔ t < k ∧ (names t ^^^ bits) &&& mask = 0)) n 0 0 (fun _ t _ => by rw [bq_0]; exact ⟨fun e => (by cases e), fun e => absurd e.1 (Nat.not_lt_zero t)⟩) (fun j σ _ hj hi hj1 t ht => by
    have i := hi (by omega) t ht
    unfold b_X6_regroup_20
    by_cases c : names j &&& mask = bits &&& mask
    · rw [if_neg (fun e => (isOfGroup_iff _ _ _).mp e c), bq_put (by omega)]
      by_cases e : t = j
      · subst e; rw [if_pos rfl]; exact ⟨fun _ => ⟨by omega, (grp_iff _ _ _).mp c⟩, fun _ => rfl⟩
      · rw [if_neg e, i]; exact ⟨fun q => ⟨by omega, q.2⟩, fun q => ⟨by omega, q.2⟩⟩
    · rw [if_pos ((isOfGroup_iff _ _ _).mpr c), i]
      constructor
      · exact fun q => ⟨by omega, q.2⟩
      · intro q
        refine ⟨?_, q.2⟩
        by_cases e : t = j
        · subst e; exact absurd ((grp_iff _ _ _).mpr q.2) c
        · omega)
  rw [Nat.zero_add] at key
  exact key (Nat.le_refl n)

theorem eq_group {T : Nat} {a : Nat → Int32} {w : Nat → Int64} {n f z : Nat} {kinds : Nat → Int32} {names : Nat → Int64} {seeds : Nat → Int32} {ones : Nat → Int64} {ofk : Nat → Int64} {sz : Int32} {there : Int64} {awake : Int64} {grp : Int64} {gm : Int64} {gb : Int64} {lf : Int32} {ir : Int32} {ln : Int64} {rows : Nat → Int64} {lens : Nat → Int32} {psz : Int32} {vals : Nat → Int32} {hold : Int64} {call : Int32} {fio : Int64} {fqu : Int32} {fal : Int32} {fco : Int32} {fgu : Int32} {ft : Nat → Int32} {fs : Int32} {qs : Int32} {als : Int32} {cs : Int32} {ps : Int32} {wire : Int32} {alo : Int32} (mask bits : Int64) (h : Rel T a w n f z kinds names seeds ones ofk sz there awake grp gm gb lf ir ln rows lens psz vals hold call fio fqu fal fco fgu ft fs qs als cs ps wire alo)  : r_X8_group names there awake n mask bits = r_X9_group a w n mask bits ∧ Rel (T + 1) a (vp_updL (vp_updL w 0 mask) 1 bits) n f z kinds names seeds ones ofk sz there awake (lpF (b_X6_regroup_20 names mask bits) n 0 0) mask (bits &&& mask) lf ir ln rows lens psz vals hold call fio fqu fal fco fgu ft fs qs als cs ps wire alo := by
  have hn := h.1.2.1
  have hg := regroup_bq names mask bits hn
  have hw : ∀ j, 2 ≤ j → vp_updL (vp_updL w 0 mask) 1 bits j = w j := fun j q => by rw [pk_uLn (by omega), pk_uLn (by omega)]
  have w0 : vp_updL (vp_updL w 0 mask) 1 bits 0 = mask := by rw [pk_uLn (by omega), pk_uLs]
  have w1 : vp_updL (vp_updL w 0 mask) 1 bits 1 = bits := pk_uLs
  obtain ⟨r1, r2, r3, r4, r5, r6, r7⟩ := h.tick
  have t1 : RelT a (vp_updL (vp_updL w 0 mask) 1 bits) n kinds names seeds ones ofk sz there awake (lpF (b_X6_regroup_20 names mask bits) n 0 0) mask (bits &&& mask) := by
    obtain ⟨q1, q2, q3, q4, q5, q6, q7, q8⟩ := r1
    refine ⟨q1, q2, q3, fun t ht => ?_, fun t h1 h2 => ?_, w0.symm, by rw [w0, w1], q8⟩
    · obtain ⟨d0, d1, d2, d3, d4, d5, d6, d7, d8⟩ := q4 t ht
      refine ⟨d0, d1, d2, d3, d4, by rw [hw _ (by omega)]; exact d5, d6, d7, ?_⟩
      rw [hg t (by omega), w0, w1]
      exact ⟨fun q => q.2, fun q => ⟨ht, q⟩⟩
    · obtain ⟨d1, d2, d3, d4⟩ := q5 t h1 h2
      refine ⟨d1, d2, ?_, d4⟩
      cases e : bq (lpF (b_X6_regroup_20 names mask bits) n 0 0) t with
      | false => rfl
      | true => have := ((hg t h2).mp e).1; omega
  refine ⟨?_, t1, r2, r3, r4.cong rfl rfl (hw _ (by omega)), r5.cong rfl (fun _ _ => rfl) (fun i _ => hw _ (by omega)), r6, r7⟩
  unfold r_X8_group r_X9_group
  rw [lis_count t1, bitCount_cq, cq_ge (fun t q1 q2 => t1.Lbig q1 q2) 64 (by omega) (Nat.le_refl _)]

theorem RelT.splits {a : Nat → Int32} {w : Nat → Int64} {n : Nat} {kinds : Nat → Int32} {names : Nat → Int64} {seeds : Nat → Int32} {ones ofk : Nat → Int64} {sz : Int32} {there awake grp gm gb : Int64} (h : RelT a w n kinds names seeds ones ofk sz there awake grp gm gb) {t : Nat} (ht : t < n) : r_X9_splits a w t = b01 (bq (r_X6_splitting ofk there awake grp) t) := by
  obtain ⟨k1, ⟨j, hj, k2⟩, -, -, -, -, k3, -⟩ := h.2.2.2.1 t ht
  have hl := h.lis ht
  have hl' : (if r_X9_listens a w t = 0 then (0 : Int32) else 1) = b01 (bq (Lm there awake grp) t) := by rw [hl]; cases bq (Lm there awake grp) t <;> decide
  unfold r_X9_splits r_X6_splitting
  rw [hl', k1, bq_and (Lm there awake grp) (ofk 3 ||| ofk 4), bq_or]
  have e3 := k3 3 (by omega)
  have e4 := k3 4 (by omega)
  by_cases c3 : kinds t = 3
  · rw [if_pos c3, e3.mpr c3, Bool.true_or, Bool.and_true]
  · rw [if_neg c3]
    have f3 : bq (ofk 3) t = false := by
      cases e : bq (ofk 3) t with
      | false => rfl
      | true => exact absurd (e3.mp e) c3
    rw [f3, Bool.false_or]
    by_cases c4 : kinds t = 4
    · rw [if_pos c4, e4.mpr c4, Bool.and_true]
    · rw [if_neg c4]
      have f4 : bq (ofk 4) t = false := by
        cases e : bq (ofk 4) t with
        | false => rfl
        | true => exact absurd (e4.mp e) c4
      rw [f4, Bool.and_false]; rfl
theorem splitting_big {a : Nat → Int32} {w : Nat → Int64} {n : Nat} {kinds : Nat → Int32} {names : Nat → Int64} {seeds : Nat → Int32} {ones ofk : Nat → Int64} {sz : Int32} {there awake grp gm gb : Int64} (h : RelT a w n kinds names seeds ones ofk sz there awake grp gm gb) {t : Nat} (h1 : n ≤ t) (h2 : t < 64) : bq (r_X6_splitting ofk there awake grp) t = false := by
  unfold r_X6_splitting
  rw [bq_and, h.Lbig h1 h2]; rfl
theorem begin_loop {a : Nat → Int32} {w : Nat → Int64} {n : Nat} {kinds : Nat → Int32} {names : Nat → Int64} {seeds : Nat → Int32} {ones ofk : Nat → Int64} {sz : Int32} {there awake grp gm gb : Int64} (h : RelT a w n kinds names seeds ones ofk sz there awake grp gm gb) : (lpF (b_X9_begin_11 w) n 0 (0, upd a 5 0)).1 = nI (cq (r_X6_splitting ofk there awake grp) n) ∧ (∀ j, (∀ t, t < n → j ≠ 300 + 6 * t + 3) → (lpF (b_X9_begin_11 w) n 0 (0, upd a 5 0)).2 j = upd a 5 0 j) ∧ (∀ t, t < n → (lpF (b_X9_begin_11 w) n 0 (0, upd a 5 0)).2 (300 + 6 * t + 3) = if bq (r_X6_splitting ofk there awake grp) t = true then 0 else -1) := by
  have key := lpF_inv (body := b_X9_begin_11 w) (fun k σ => k ≤ n → σ.1 = nI (cq (r_X6_splitting ofk there awake grp) k) ∧ (∀ j, (∀ t, t < k → j ≠ 300 + 6 * t + 3) → σ.2 j = upd a 5 0 j) ∧ (∀ t, t < k → σ.2 (300 + 6 * t + 3) = if bq (r_X6_splitting ofk there awake grp) t = true then 0 else -1)) n 0 (0, upd a 5 0) (fun _ => ⟨rfl, fun _ _ => rfl, fun t q => absurd q (Nat.not_lt_zero t)⟩) (fun k σ _ hk hi hk1 => by
    obtain ⟨i1, i2, i3⟩ := hi (by omega)
    have s1 : RelT σ.2 w n kinds names seeds ones ofk sz there awake grp gm gb := h.cong (by rw [i2 0 (fun t _ => by omega), pk_un (by omega)]) (fun t _ => ⟨by rw [i2 _ (fun u _ => by omega), pk_un (by omega)], by rw [i2 _ (fun u _ => by omega), pk_un (by omega)], by rw [i2 _ (fun u _ => by omega), pk_un (by omega)], by rw [i2 _ (fun u _ => by omega), pk_un (by omega)]⟩) rfl rfl (fun _ _ => rfl)
    have s2 : ∀ x, RelT (upd σ.2 (300 + 6 * k + 3) x) w n kinds names seeds ones ofk sz there awake grp gm gb := fun x => s1.cong (pk_un (by omega)) (fun t _ => ⟨pk_un (by omega), pk_un (by omega), pk_un (by omega), pk_un (by omega)⟩) rfl rfl (fun _ _ => rfl)
    have hkn : k < n := by omega
    have fin : ∀ x : Int32, (x = if bq (r_X6_splitting ofk there awake grp) k = true then 0 else -1) → (∀ j, (∀ t, t < k + 1 → j ≠ 300 + 6 * t + 3) → upd σ.2 (300 + 6 * k + 3) x j = upd a 5 0 j) ∧ (∀ t, t < k + 1 → upd σ.2 (300 + 6 * k + 3) x (300 + 6 * t + 3) = if bq (r_X6_splitting ofk there awake grp) t = true then 0 else -1) := fun x hx => by
      refine ⟨fun j hj => ?_, fun t ht => ?_⟩
      · rw [pk_un (hj k (by omega))]; exact i2 j (fun t ht => hj t (by omega))
      · by_cases e : t = k
        · subst e; rw [pk_us]; exact hx
        · rw [pk_un (by omega)]; exact i3 t (by omega)
    unfold b_X9_begin_11
    rw [s1.splits hkn, (s2 _).splits hkn, (s2 _).splits hkn]
    show _ ∧ _
    have ec : cq (r_X6_splitting ofk there awake grp) (k + 1) = cq (r_X6_splitting ofk there awake grp) k + (if bq (r_X6_splitting ofk there awake grp) k = true then 1 else 0) := rfl
    rw [ec]
    by_cases c : bq (r_X6_splitting ofk there awake grp) k = true
    · rw [c] at fin ⊢
      rw [if_neg (by decide), if_neg (by decide), if_pos rfl]
      exact ⟨by show σ.1 + 1 = _; rw [i1]; exact nI_1 _, fin 0 rfl⟩
    · have c' : bq (r_X6_splitting ofk there awake grp) k = false := by simpa using c
      rw [c'] at fin ⊢
      rw [if_pos (by decide), if_pos (by decide), if_neg (by decide)]
      exact ⟨by show σ.1 + 0 = _; rw [i1]; exact nI_add _ 0, fin (-1) rfl⟩)
  rw [Nat.zero_add] at key
  exact key (Nat.le_refl n)

theorem eq_begin {T : Nat} {a : Nat → Int32} {w : Nat → Int64} {n f z : Nat} {kinds : Nat → Int32} {names : Nat → Int64} {seeds : Nat → Int32} {ones : Nat → Int64} {ofk : Nat → Int64} {sz : Int32} {there : Int64} {awake : Int64} {grp : Int64} {gm : Int64} {gb : Int64} {lf : Int32} {ir : Int32} {ln : Int64} {rows : Nat → Int64} {lens : Nat → Int32} {psz : Int32} {vals : Nat → Int32} {hold : Int64} {call : Int32} {fio : Int64} {fqu : Int32} {fal : Int32} {fco : Int32} {fgu : Int32} {ft : Nat → Int32} {fs : Int32} {qs : Int32} {als : Int32} {cs : Int32} {ps : Int32} {wire : Int32} {alo : Int32}  (h : Rel T a w n f z kinds names seeds ones ofk sz there awake grp gm gb lf ir ln rows lens psz vals hold call fio fqu fal fco fgu ft fs qs als cs ps wire alo)  : r_X8_begin ofk there awake grp = r_X9_begin a w n ∧ Rel (T + 1) ((lpF (b_X9_begin_11 w) n 0 (0, upd a 5 0)).2) w n f z kinds names seeds ones ofk sz there awake grp gm gb lf ir ln rows lens psz (lpF (b_J7_fill_53178_5 0) 40 0 vals) (r_X6_splitting ofk there awake grp) 0 fio fqu fal fco fgu ft fs qs als cs ps wire alo := by
  have hn := h.1.2.1
  obtain ⟨b1, b2, b3⟩ := begin_loop h.1
  unfold r_X8_begin r_X9_begin
  rw [b1, bitCount_cq, cq_ge (fun t q1 q2 => splitting_big h.1 q1 q2) 64 (by omega) (Nat.le_refl _)]
  refine ⟨rfl, ?_⟩
  have k : ∀ j, j ≠ 5 ∧ (∀ t, j ≠ 300 + 6 * t + 3) → (lpF (b_X9_begin_11 w) n 0 (0, upd a 5 0)).2 j = a j := fun j q => by rw [b2 j (fun t _ => q.2 t), pk_un q.1]
  obtain ⟨r1, r2, r3, r4, r5, r6, r7⟩ := h.tick
  have hf : ∀ t, lpF (b_J7_fill_53178_5 0) 40 0 vals t = if 0 ≤ t ∧ t < 0 + 40 then 0 else vals t := lpF_fill (g := fun _ => 0) (N := 40) (fun k σ _ t => rfl) 40 0 vals (by decide)
  refine ⟨r1.cong (k _ ⟨by omega, fun _ => by omega⟩) (fun t _ => ⟨k _ ⟨by omega, fun _ => by omega⟩, k _ ⟨by omega, fun _ => by omega⟩, k _ ⟨by omega, fun _ => by omega⟩, k _ ⟨by omega, fun _ => by omega⟩⟩) rfl rfl (fun _ _ => rfl), ⟨fun t ht => ?_, fun t ht hb => ⟨?_, 0, by omega, ?_⟩, fun t h1 h2 => splitting_big h.1 h1 h2, ?_, Or.inr ⟨0, by omega, rfl⟩⟩, r3.cong (k _ ⟨by omega, fun _ => by omega⟩) (k _ ⟨by omega, fun _ => by omega⟩) (k _ ⟨by omega, fun _ => by omega⟩) (k _ ⟨by omega, fun _ => by omega⟩) (fun t _ => k _ ⟨by omega, fun _ => by omega⟩), r4.cong (k _ ⟨by omega, fun _ => by omega⟩) (k _ ⟨by omega, fun _ => by omega⟩) rfl, r5.cong (k _ ⟨by omega, fun _ => by omega⟩) (fun i _ => k _ ⟨by omega, fun _ => by omega⟩) (fun _ _ => rfl), r6.cong (k _ ⟨by omega, fun _ => by omega⟩) (k _ ⟨by omega, fun _ => by omega⟩) (k _ ⟨by omega, fun _ => by omega⟩) (k _ ⟨by omega, fun _ => by omega⟩) (k _ ⟨by omega, fun _ => by omega⟩) (fun i _ => k _ ⟨by omega, fun _ => by omega⟩), r7.cong (k _ ⟨by omega, fun _ => by omega⟩) (k _ ⟨by omega, fun _ => by omega⟩)⟩
  · rw [b3 t ht, hf, if_pos (show 0 ≤ t ∧ t < 0 + 40 by omega)]
  · obtain ⟨-, -, -, -, -, -, k3, -⟩ := h.1.2.2.2.1 t ht
    unfold r_X6_splitting at hb
    rw [bq_and, bq_or] at hb
    simp only [Bool.and_eq_true, Bool.or_eq_true] at hb
    rcases hb.2 with e | e
    · exact Or.inl ((k3 3 (by omega)).mp e)
    · exact Or.inr ((k3 4 (by omega)).mp e)
  · rw [hf, if_pos (show 0 ≤ t ∧ t < 0 + 40 by omega)]; rfl
  · rw [b2 5 (fun t _ => by omega), pk_us]

theorem frames_loop (a : Nat → Int32) (n : Nat) : (∀ j, (∀ t, t < n → j ≠ 300 + 6 * t + 5) → lpF b_X9_frames_2 n 0 a j = a j) ∧ (∀ t, t < n → lpF b_X9_frames_2 n 0 a (300 + 6 * t + 5) = 0) := by
  have key := lpF_inv (body := b_X9_frames_2) (fun k σ => (∀ j, (∀ t, t < k → j ≠ 300 + 6 * t + 5) → σ j = a j) ∧ (∀ t, t < k → σ (300 + 6 * t + 5) = 0)) n 0 a ⟨fun _ _ => rfl, fun t q => absurd q (Nat.not_lt_zero t)⟩ (fun k σ _ _ hi => by
    unfold b_X9_frames_2
    refine ⟨fun j hj => ?_, fun t ht => ?_⟩
    · rw [pk_un (hj k (by omega))]; exact hi.1 j (fun t ht => hj t (by omega))
    · by_cases e : t = k
      · subst e; rw [pk_us]
      · rw [pk_un (by omega)]; exact hi.2 t (by omega))
  rw [Nat.zero_add] at key
  exact key

theorem eq_frames {T : Nat} {a : Nat → Int32} {w : Nat → Int64} {n f z : Nat} {kinds : Nat → Int32} {names : Nat → Int64} {seeds : Nat → Int32} {ones : Nat → Int64} {ofk : Nat → Int64} {sz : Int32} {there : Int64} {awake : Int64} {grp : Int64} {gm : Int64} {gb : Int64} {lf : Int32} {ir : Int32} {ln : Int64} {rows : Nat → Int64} {lens : Nat → Int32} {psz : Int32} {vals : Nat → Int32} {hold : Int64} {call : Int32} {fio : Int64} {fqu : Int32} {fal : Int32} {fco : Int32} {fgu : Int32} {ft : Nat → Int32} {fs : Int32} {qs : Int32} {als : Int32} {cs : Int32} {ps : Int32} {wire : Int32} {alo : Int32}  (h : Rel T a w n f z kinds names seeds ones ofk sz there awake grp gm gb lf ir ln rows lens psz vals hold call fio fqu fal fco fgu ft fs qs als cs ps wire alo)  : Rel (T + 1) (lpF b_X9_frames_2 n 0 a) w n f z kinds names seeds ones ofk sz there awake grp gm gb lf ir ln rows lens psz vals hold call 0 fqu fal fco fgu ft fs qs als cs ps wire alo := by
  obtain ⟨b2, b3⟩ := frames_loop a n
  have k : ∀ j, (∀ t, j ≠ 300 + 6 * t + 5) → lpF b_X9_frames_2 n 0 a j = a j := fun j q => b2 j (fun t _ => q t)
  obtain ⟨r1, r2, r3, r4, r5, r6, r7⟩ := h.tick
  refine ⟨r1.cong (k _ (fun _ => by omega)) (fun t _ => ⟨k _ (fun _ => by omega), k _ (fun _ => by omega), k _ (fun _ => by omega), k _ (fun _ => by omega)⟩) rfl rfl (fun _ _ => rfl), r2.cong (Nat.le_refl _) (k _ (fun _ => by omega)) (fun t _ => k _ (fun _ => by omega)), ?_, r4.cong (k _ (fun _ => by omega)) (k _ (fun _ => by omega)) rfl, r5.cong (k _ (fun _ => by omega)) (fun i _ => k _ (fun _ => by omega)) (fun _ _ => rfl), r6.cong (k _ (fun _ => by omega)) (k _ (fun _ => by omega)) (k _ (fun _ => by omega)) (k _ (fun _ => by omega)) (k _ (fun _ => by omega)) (fun i _ => k _ (fun _ => by omega)), r7.cong (k _ (fun _ => by omega)) (k _ (fun _ => by omega))⟩
  obtain ⟨q1, q2, q3⟩ := r3
  exact ⟨fun t ht => by rw [b3 t ht, bq_0]; rfl, fun t _ _ => bq_0 t, by rw [k _ (fun _ => by omega)]; exact q3.1, by rw [k _ (fun _ => by omega)]; exact q3.2.1, by rw [k _ (fun _ => by omega)]; exact q3.2.2.1, by rw [k _ (fun _ => by omega)]; exact q3.2.2.2⟩
