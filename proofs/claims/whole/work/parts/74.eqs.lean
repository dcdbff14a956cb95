theorem RelT.slotted {a : Nat → Int32} {w : Nat → Int64} {n : Nat} {kinds : Nat → Int32} {names : Nat → Int64} {seeds : Nat → Int32} {ones ofk : Nat → Int64} {sz : Int32} {there awake grp gm gb : Int64} (h : RelT a w n kinds names seeds ones ofk sz there awake grp gm gb) {t : Nat} (ht : t < n) : bq (r_X6_slotted ofk there awake grp) t = (bq (Lm there awake grp) t && !decide (a (300 + 6 * t + 0) < 2)) := by
  obtain ⟨k1, ⟨j, hj, k2⟩, -, -, -, -, k3, -⟩ := h.2.2.2.1 t ht
  have e : ∀ i, i < 6 → bq (ofk i) t = decide (j = i) := fun i hi => by
    by_cases c : j = i
    · rw [decide_eq_true c]; exact (k3 i hi).mpr (by rw [k2, c])
    · rw [decide_eq_false c]
      cases d : bq (ofk i) t with
      | false => rfl
      | true => exact absurd ((nI_eq (by omega) (by omega)).mp (by rw [← k2]; exact (k3 i hi).mp d)) c
  unfold r_X6_slotted
  rw [bq_and (Lm there awake grp) (((ofk 2 ||| ofk 3) ||| ofk 4) ||| ofk 5), bq_or, bq_or, bq_or, e 2 (by omega), e 3 (by omega), e 4 (by omega), e 5 (by omega), k1, k2]
  congr 1
  rcases (show j = 0 ∨ j = 1 ∨ j = 2 ∨ j = 3 ∨ j = 4 ∨ j = 5 by omega) with q | q | q | q | q | q <;> subst q <;> decide
theorem slotted_big {a : Nat → Int32} {w : Nat → Int64} {n : Nat} {kinds : Nat → Int32} {names : Nat → Int64} {seeds : Nat → Int32} {ones ofk : Nat → Int64} {sz : Int32} {there awake grp gm gb : Int64} (h : RelT a w n kinds names seeds ones ofk sz there awake grp gm gb) {t : Nat} (h1 : n ≤ t) (h2 : t < 64) : bq (r_X6_slotted ofk there awake grp) t = false := by
  unfold r_X6_slotted
  rw [bq_and, h.Lbig h1 h2]; rfl
theorem frame15_eq {a : Nat → Int32} {w : Nat → Int64} {n : Nat} {kinds : Nat → Int32} {names : Nat → Int64} {seeds : Nat → Int32} {ones ofk : Nat → Int64} {sz : Int32} {there awake grp gm gb : Int64} (h : RelT a w n kinds names seeds ones ofk sz there awake grp gm gb) {fio : Int64} {fqu fal fco fgu : Int32} (hf : RelF a n fio fqu fal fco fgu) (len : Int32) (dr : Nat → Int32) : (∀ t, t < n → (lpF (b_X9_frame_15 w len) n 0 (a, dr)).2 t = if bq (r_X6_slotted ofk there awake grp &&& (fio ^^^ (-1))) t = true then dw (seeds t) len else -1) ∧ (∀ j, (∀ t, t < n → j ≠ 300 + 6 * t + 4) → (lpF (b_X9_frame_15 w len) n 0 (a, dr)).1 j = a j) ∧ (∀ t, t < n → (lpF (b_X9_frame_15 w len) n 0 (a, dr)).1 (300 + 6 * t + 4) = if bq (r_X6_slotted ofk there awake grp &&& (fio ^^^ (-1))) t = true then ((1103515245 * (seeds t)) + 12345) else seeds t) := by
  have hn := h.2.1
  have key := lpF_inv (body := b_X9_frame_15 w len) (fun k σ => k ≤ n → (∀ t, t < k → σ.2 t = if bq (r_X6_slotted ofk there awake grp &&& (fio ^^^ (-1))) t = true then dw (seeds t) len else -1) ∧ (∀ j, (∀ t, t < k → j ≠ 300 + 6 * t + 4) → σ.1 j = a j) ∧ (∀ t, t < k → σ.1 (300 + 6 * t + 4) = if bq (r_X6_slotted ofk there awake grp &&& (fio ^^^ (-1))) t = true then ((1103515245 * (seeds t)) + 12345) else seeds t)) n 0 (a, dr) (fun _ => ⟨fun t q => absurd q (Nat.not_lt_zero t), fun _ _ => rfl, fun t q => absurd q (Nat.not_lt_zero t)⟩) (fun k σ _ hk hi hk1 => by
    obtain ⟨i1, i2, i3⟩ := hi (by omega)
    have hkn : k < n := by omega
    have ek : ∀ i, i < 6 → σ.1 (300 + 6 * k + i) = a (300 + 6 * k + i) := fun i hi => i2 _ (fun t ht => by omega)
    have el : r_X9_listens σ.1 w k = r_X9_listens a w k := by unfold r_X9_listens; rw [ek 1 (by omega), ek 2 (by omega)]
    have es : σ.1 (300 + 6 * k + 4) = seeds k := by rw [ek 4 (by omega)]; exact (h.2.2.2.1 k hkn).2.2.2.2.1
    have no : ¬ bq (r_X6_slotted ofk there awake grp &&& (fio ^^^ (-1))) k = true → (∀ t, t < k + 1 → (upd σ.2 k (-1)) t = if bq (r_X6_slotted ofk there awake grp &&& (fio ^^^ (-1))) t = true then dw (seeds t) len else -1) ∧ (∀ j, (∀ t, t < k + 1 → j ≠ 300 + 6 * t + 4) → σ.1 j = a j) ∧ (∀ t, t < k + 1 → σ.1 (300 + 6 * t + 4) = if bq (r_X6_slotted ofk there awake grp &&& (fio ^^^ (-1))) t = true then ((1103515245 * (seeds t)) + 12345) else seeds t) := fun nb => by
      refine ⟨fun t ht => ?_, fun j hj => i2 j (fun t ht => hj t (by omega)), fun t ht => ?_⟩
      · by_cases e : t = k
        · subst e; rw [pk_us, if_neg nb]
        · rw [pk_un e]; exact i1 t (by omega)
      · by_cases e : t = k
        · subst e; rw [if_neg nb]; exact es
        · exact i3 t (by omega)
    have yes : bq (r_X6_slotted ofk there awake grp &&& (fio ^^^ (-1))) k = true → (∀ t, t < k + 1 → (upd σ.2 k (r_X9_draw σ.1 k len)) t = if bq (r_X6_slotted ofk there awake grp &&& (fio ^^^ (-1))) t = true then dw (seeds t) len else -1) ∧ (∀ j, (∀ t, t < k + 1 → j ≠ 300 + 6 * t + 4) → u_X9_draw_a σ.1 k j = a j) ∧ (∀ t, t < k + 1 → u_X9_draw_a σ.1 k (300 + 6 * t + 4) = if bq (r_X6_slotted ofk there awake grp &&& (fio ^^^ (-1))) t = true then ((1103515245 * (seeds t)) + 12345) else seeds t) := fun yb => by
      rw [draw9, draw9a, es]
      refine ⟨fun t ht => ?_, fun j hj => ?_, fun t ht => ?_⟩
      · by_cases e : t = k
        · subst e; rw [pk_us, if_pos yb]
        · rw [pk_un e]; exact i1 t (by omega)
      · rw [pk_un (hj k (by omega))]; exact i2 j (fun t ht => hj t (by omega))
      · by_cases e : t = k
        · subst e; rw [pk_us, if_pos yb]
        · rw [pk_un (by omega)]; exact i3 t (by omega)
    have eS : bq (r_X6_slotted ofk there awake grp &&& (fio ^^^ (-1))) k = ((b01 (bq (Lm there awake grp) k) = 1 && !decide (a (300 + 6 * k + 0) < 2)) && !bq fio k) := by
      rw [bq_and, bq_not _ (by omega), h.slotted hkn]
      cases bq (Lm there awake grp) k <;> rfl
    have e5 : a (300 + 6 * k + 5) = b01 (bq fio k) := hf.1 k hkn
    unfold b_X9_frame_15
    rw [el, h.lis hkn, ek 0 (by omega), ek 5 (by omega), e5]
    by_cases c1 : a (300 + 6 * k + 0) < 2
    · rw [if_pos c1]
      exact no (by rw [eS, decide_eq_true c1]; simp)
    · rw [if_neg c1]
      rw [decide_eq_false c1] at eS
      cases c2 : bq fio k with
      | true =>
        rw [if_neg (by decide)]
        exact no (by rw [eS, c2]; simp)
      | false =>
        rw [if_pos (by decide)]
        cases c3 : bq (Lm there awake grp) k with
        | false =>
          rw [if_pos (by decide)]
          exact no (by rw [eS, c2, c3]; decide)
        | true =>
          rw [if_neg (by decide)]
          exact yes (by rw [eS, c2, c3]; decide))
  rw [Nat.zero_add] at key
  exact key (Nat.le_refl n)
theorem drawS_eq {a : Nat → Int32} {w : Nat → Int64} {n : Nat} {kinds : Nat → Int32} {names : Nat → Int64} {seeds : Nat → Int32} {ones ofk : Nat → Int64} {sz : Int32} {there awake grp gm gb : Int64} (h : RelT a w n kinds names seeds ones ofk sz there awake grp gm gb) (fio : Int64) {L : Nat} (h1 : 0 < L) (h2 : L ≤ 64) (sl : Nat → Int64) : (∀ t, t < n → u_X8_drawSlots_seeds sl seeds ofk sz there awake grp fio n (nI L) t = if bq (r_X6_slotted ofk there awake grp &&& (fio ^^^ (-1))) t = true then ((1103515245 * (seeds t)) + 12345) else seeds t) ∧ (∀ s, s < 64 → ∀ u, u < 64 → (bq (u_X8_drawSlots_sl sl seeds ofk sz there awake grp fio n (nI L) s) u = true ↔ u < n ∧ bq (r_X6_slotted ofk there awake grp &&& (fio ^^^ (-1))) u = true ∧ dw (seeds u) (nI L) = nI s)) := by
  have hn := h.2.1
  have hsz := h.2.2.1
  unfold u_X8_drawSlots_seeds u_X8_drawSlots_sl
  have z0 : ∀ s, lpF (b_J7_fill_d0a16_6 0) 64 0 sl s = if 0 ≤ s ∧ s < 0 + 64 then 0 else sl s := lpF_fill (g := fun _ => 0) (N := 64) (fun k σ _ t => rfl) 64 0 sl (by decide)
  have key := lpF_inv (body := b_X8_drawSlots_37 ofk sz there awake grp fio (nI L)) (fun k σ => k ≤ n → (∀ t, σ.1 t = if t < k ∧ bq (r_X6_slotted ofk there awake grp &&& (fio ^^^ (-1))) t = true then ((1103515245 * (seeds t)) + 12345) else seeds t) ∧ (∀ s, s < 64 → ∀ u, u < 64 → (bq (σ.2 s) u = true ↔ u < k ∧ bq (r_X6_slotted ofk there awake grp &&& (fio ^^^ (-1))) u = true ∧ dw (seeds u) (nI L) = nI s))) n 0 (seeds, lpF (b_J7_fill_d0a16_6 0) 64 0 sl) (fun _ => ⟨fun t => by rw [if_neg (by omega)], fun s hs u hu => by
      show bq (lpF (b_J7_fill_d0a16_6 0) 64 0 sl s) u = true ↔ _
      rw [z0 s, if_pos (by omega), bq_0]
      exact ⟨fun e => (by cases e), fun e => absurd e.1 (Nat.not_lt_zero u)⟩⟩) (fun k σ _ hk hi hk1 => by
    obtain ⟨i1, i2⟩ := hi (by omega)
    unfold b_X8_drawSlots_37
    rw [isIn_b01 _ (by omega)]
    by_cases c : bq (r_X6_slotted ofk there awake grp &&& (fio ^^^ (-1))) k = true
    · rw [c, if_neg (by decide)]
      have ek : σ.1 k = seeds k := by rw [i1 k, if_neg (by omega)]
      rw [hsz, draw6 (by omega) hn h1 h2, draw6s (by omega) hn h1 h2, ek]
      obtain ⟨d, hd, ed⟩ := dw_ok (seeds k) h1 h2
      rw [ed, if_neg (nI_pos (by omega)), if_neg (nn_nle (x := 64) (a := 64) rfl rfl (by omega) (by decide)), nI_clamp (by omega)]
      refine ⟨fun t => ?_, fun s hs u hu => ?_⟩
      · show upd σ.1 k _ t = _
        by_cases e : t = k
        · subst e; rw [pk_us, if_pos ⟨by omega, c⟩]
        · rw [pk_un e, i1 t]
          by_cases g : t < k ∧ bq (r_X6_slotted ofk there awake grp &&& (fio ^^^ (-1))) t = true
          · rw [if_pos g, if_pos ⟨by omega, g.2⟩]
          · rw [if_neg g, if_neg (fun q => g ⟨by omega, q.2⟩)]
      · show bq (vp_updL σ.2 d _ s) u = true ↔ _
        by_cases e : s = d
        · subst e
          rw [pk_uLs, bq_put (by omega)]
          by_cases g : u = k
          · subst g; rw [if_pos rfl]; exact ⟨fun _ => ⟨by omega, c, ed⟩, fun _ => rfl⟩
          · rw [if_neg g, i2 s hs u hu]; exact ⟨fun q => ⟨by omega, q.2⟩, fun q => ⟨by omega, q.2⟩⟩
        · rw [pk_uLn e, i2 s hs u hu]
          constructor
          · exact fun q => ⟨by omega, q.2⟩
          · intro q
            refine ⟨?_, q.2⟩
            by_cases g : u = k
            · subst g
              have := q.2.2
              rw [ed] at this
              exact absurd ((nI_eq (by omega) (by omega)).mp this).symm e
            · omega
    · have c' : bq (r_X6_slotted ofk there awake grp &&& (fio ^^^ (-1))) k = false := by simpa using c
      rw [c', if_pos (by decide)]
      refine ⟨fun t => ?_, fun s hs u hu => ?_⟩
      · show σ.1 t = _
        rw [i1 t]
        by_cases g : t < k ∧ bq (r_X6_slotted ofk there awake grp &&& (fio ^^^ (-1))) t = true
        · rw [if_pos g, if_pos ⟨by omega, g.2⟩]
        · rw [if_neg g, if_neg (fun q => g ⟨by
            by_cases e : t = k
            · subst e; exact absurd q.2 c
            · omega, q.2⟩)]
      · show bq (σ.2 s) u = true ↔ _
        rw [i2 s hs u hu]
        constructor
        · exact fun q => ⟨by omega, q.2⟩
        · intro q
          refine ⟨?_, q.2⟩
          by_cases g : u = k
          · subst g; exact absurd q.2.1 c
          · omega)
  rw [Nat.zero_add] at key
  obtain ⟨k1, k2⟩ := key (Nat.le_refl n)
  refine ⟨fun t ht => ?_, k2⟩
  rw [k1 t]
  by_cases g : bq (r_X6_slotted ofk there awake grp &&& (fio ^^^ (-1))) t = true
  · rw [if_pos ⟨ht, g⟩, if_pos g]
  · rw [if_neg (fun q => g q.2), if_neg g]
set_option maxRecDepth 20000 in
theorem guess_eq : ∀ c, c < 65 → u_X2_guessNext_fgu (nI c) = if 1 ≤ (239 * nI c) / 100 then (if (239 * nI c) / 100 ≤ 64 then ((239 * nI c) / 100) else 64) else 1 := by decide +kernel
