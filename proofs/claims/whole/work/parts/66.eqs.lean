theorem fr_finds {a : Nat → Int32} {f : Nat} {L : Int32} (h : a 15 = nI f) (hf : f ≤ 200) {j : Nat} (q : j ≠ 15 ∧ (j < 100 ∨ 299 < j)) : u_X9_finds_a a f L j = a j := by
  unfold u_X9_finds_a
  by_cases c : a 15 = 200
  · rw [if_pos c]
  · have : f ≠ 200 := fun e => c (by rw [h, e]; rfl)
    rw [if_neg c, pk_un (by omega), pk_un (by omega)]
theorem RelL.pop {a : Nat → Int32} {w : Nat → Int64} {z : Nat} {rows : Nat → Int64} {lens : Nat → Int32} {psz : Int32} (h : RelL a w z rows lens psz) : RelL (upd a 4 (nI (z - 1))) w (z - 1) rows lens (nI (z - 1)) := by
  obtain ⟨q1, q2, q3, q4⟩ := h
  exact ⟨pk_us, rfl, fun i hi => by rw [pk_un (by omega)]; exact q3 i (by omega), pJ_pop q4⟩
theorem RelL.push {a : Nat → Int32} {w : Nat → Int64} {z : Nat} {rows : Nat → Int64} {lens : Nat → Int32} {psz : Int32} (h : RelL a w z rows lens psz) {m : Nat} (hzm : z ≤ m) (hm : m < 64) (R R0 : Int64) {x : Int32} (hx : x = nI m) : RelL (upd (upd (upd (upd a (20 + z) (x + 1)) 4 (nI (z + 1))) (20 + (z + 1)) (x + 1)) 4 (nI ((z + 1) + 1))) (vp_updL (vp_updL w (4 + z) R) (4 + (z + 1)) R0) (z + 2) (u_X4_add_rows (u_X4_add_rows rows psz z R) (u_X4_add_psz psz z) (pN z) R0) (u_X4_add_lens (u_X4_add_lens lens psz z (x + 1)) (u_X4_add_psz psz z) (pN z) (x + 1)) (u_X4_add_psz (u_X4_add_psz psz z) (pN z)) := by
  obtain ⟨q1, q2, q3, q4⟩ := h
  have e1 : pN z = z + 1 := by unfold pN; rw [if_neg (by omega)]
  have e2 : u_X4_add_psz psz z = nI (z + 1) := by unfold u_X4_add_psz; rw [if_neg (nn_nle (x := 65) (a := 65) rfl q2 (by omega) (by omega))]
  have e3 : u_X4_add_psz (nI (z + 1)) (z + 1) = nI (z + 2) := by unfold u_X4_add_psz; rw [if_neg (nn_nle (x := 65) (a := 65) rfl rfl (by omega) (by omega))]
  have e4 : x + 1 = nI (m + 1) := by rw [hx]; exact nI_1 m
  rw [e2, e1, e3, e4]
  unfold u_X4_add_rows u_X4_add_lens
  rw [if_neg (nn_nle (x := 65) (a := 65) rfl rfl (by omega) (by omega)), if_neg (nn_nle (x := 65) (a := 65) rfl q2 (by omega) (by omega)), if_neg (nn_nle (x := 65) (a := 65) rfl rfl (by omega) (by omega)), if_neg (nn_nle (x := 65) (a := 65) rfl q2 (by omega) (by omega))]
  refine ⟨pk_us, rfl, fun i hi => ?_, fun i hi => ?_⟩
  · by_cases c1 : i = z + 1
    · subst c1
      exact ⟨by rw [pk_uLs, pk_uLs], by rw [pk_un (by omega), pk_us, pk_us]⟩
    · by_cases c2 : i = z
      · subst c2
        exact ⟨by rw [pk_uLn (by omega), pk_uLs, pk_uLn (by omega), pk_uLs], by rw [pk_un (by omega), pk_un (by omega), pk_un (by omega), pk_us, pk_un (by omega), pk_us]⟩
      · exact ⟨by rw [pk_uLn (by omega), pk_uLn (by omega), pk_uLn (by omega), pk_uLn (by omega)]; exact (q3 i (by omega)).1, by rw [pk_un (by omega), pk_un (by omega), pk_un (by omega), pk_un (by omega), pk_un (by omega), pk_un (by omega)]; exact (q3 i (by omega)).2⟩
  · by_cases c1 : i = z + 1
    · subst c1
      exact ⟨m + 1, pk_us, by omega, by omega⟩
    · by_cases c2 : i = z
      · subst c2
        exact ⟨m + 1, by rw [pk_un (by omega), pk_us], by omega, by omega⟩
      · obtain ⟨m', d1, d2, d3⟩ := q4 i (by omega)
        exact ⟨m', by rw [pk_un (by omega), pk_un (by omega)]; exact d1, d2, d3⟩

theorem eq_step {T : Nat} {a : Nat → Int32} {w : Nat → Int64} {n f z : Nat} {kinds : Nat → Int32} {names : Nat → Int64} {seeds : Nat → Int32} {ones : Nat → Int64} {ofk : Nat → Int64} {sz : Int32} {there : Int64} {awake : Int64} {grp : Int64} {gm : Int64} {gb : Int64} {lf : Int32} {ir : Int32} {ln : Int64} {rows : Nat → Int64} {lens : Nat → Int32} {psz : Int32} {vals : Nat → Int32} {hold : Int64} {call : Int32} {fio : Int64} {fqu : Int32} {fal : Int32} {fco : Int32} {fgu : Int32} {ft : Nat → Int32} {fs : Int32} {qs : Int32} {als : Int32} {cs : Int32} {ps : Int32} {wire : Int32} {alo : Int32} (sp : Nat → Int32) (mm : Nat) (h : Rel T a w n f z kinds names seeds ones ofk sz there awake grp gm gb lf ir ln rows lens psz vals hold call fio fqu fal fco fgu ft fs qs als cs ps wire alo) (hlen : r_X4_topLength lens psz z = nI mm) (hmm : mm ≤ 64) : r_X8_step ones ofk there awake grp rows psz wire z mm = r_X9_step a w sp n z ∧ ∃ f' z', Rel (T + 1) (u_X9_step_a a w sp n f z) (u_X9_step_w a w sp n z) n f' z' kinds names seeds ones ofk sz there awake grp gm gb lf ir ln (u_X8_step_rows ones ofk there awake grp rows lens psz wire z mm) (u_X8_step_lens ones ofk there awake grp rows lens psz wire z mm) (u_X8_step_psz ones ofk there awake grp rows lens psz wire z mm) vals hold call fio fqu fal fco fgu (u_X8_step_ft ones ofk there awake grp rows psz ft fs wire z f mm) (u_X8_step_fs ones ofk there awake grp rows psz fs wire z f mm) (u_X8_step_qs ones ofk there awake grp rows psz qs wire z mm) (u_X8_step_als ones ofk there awake grp rows psz als wire z mm) (u_X8_step_cs ones ofk there awake grp rows psz cs wire z mm) ps wire (u_X8_step_alo ones ofk there awake grp rows psz wire alo z mm) := by
  have hz65 := pJ_wt h.2.2.2.2.1.2.2.2
  have h4 : a 4 = nI z := h.2.2.2.2.1.1
  have hp : psz = nI z := h.2.2.2.2.1.2.1
  by_cases c0 : z = 0
  · have e1 : a 4 = 0 := by rw [h4, c0]; rfl
    have e2 : psz = 0 := by rw [hp, c0]; rfl
    unfold r_X8_step r_X9_step u_X9_step_a u_X9_step_w u_X8_step_rows u_X8_step_lens u_X8_step_psz u_X8_step_ft u_X8_step_fs u_X8_step_qs u_X8_step_als u_X8_step_cs u_X8_step_alo
    rw [if_pos e1, if_pos e1, if_pos e1, if_pos e2, if_pos e2, if_pos e2, if_pos e2, if_pos e2, if_pos e2, if_pos e2, if_pos e2, if_pos e2, if_pos e2]
    exact ⟨rfl, f, z, h.tick⟩
  · have e1 : ¬ a 4 = 0 := by rw [h4]; exact nI_ne0 (by omega) (by omega)
    have e2 : ¬ psz = 0 := by rw [hp]; exact nI_ne0 (by omega) (by omega)
    have e3 : ¬ psz ≤ 0 := by rw [hp]; exact nn_nle (x := nI z) (y := 0) (b := 0) rfl rfl (by omega) (by omega)
    have eR : r_X4_topRow rows psz z = w (4 + z - 1) := by
      unfold r_X4_topRow
      rw [if_neg e3, show 4 + z - 1 = 4 + (z - 1) by omega]
      exact (h.2.2.2.2.1.2.2.1 (z - 1) (by omega)).1.symm
    have eN : r_X4_topLength lens psz z = lens (z - 1) := by unfold r_X4_topLength; rw [if_neg e3]
    have eM : (upd a 4 (nI (z - 1))) (20 + z - 1) = nI mm := by
      rw [pk_un (by omega), show 20 + z - 1 = 20 + (z - 1) by omega, (h.2.2.2.2.1.2.2.1 (z - 1) (by omega)).2, ← eN]; exact hlen
    have eD : u_X4_dropTop_psz psz z = nI (z - 1) := by unfold u_X4_dropTop_psz; rw [if_neg e3]
    have hzm : z - 1 ≤ mm := by
      obtain ⟨m', d1, d2, d3⟩ := h.2.2.2.2.1.2.2.2 (z - 1) (by omega)
      have : nI m' = nI mm := by rw [← d1, ← eN]; exact hlen
      have := (nI_eq (by omega) (by omega)).mp this
      omega
    have h1 : Rel T (upd a 4 (nI (z - 1))) w n f (z - 1) kinds names seeds ones ofk sz there awake grp gm gb lf ir ln rows lens (nI (z - 1)) vals hold call fio fqu fal fco fgu ft fs qs als cs ps wire alo := by
      obtain ⟨r1, r2, r3, r4, r5, r6, r7⟩ := h
      have c : ∀ j, j ≠ 4 → upd a 4 (nI (z - 1)) j = a j := fun j q => pk_un q
      exact ⟨r1.cong (c _ (by omega)) (fun t _ => ⟨c _ (by omega), c _ (by omega), c _ (by omega), c _ (by omega)⟩) rfl rfl (fun _ _ => rfl), r2.cong (Nat.le_refl _) (c _ (by omega)) (fun t _ => c _ (by omega)), r3.cong (c _ (by omega)) (c _ (by omega)) (c _ (by omega)) (c _ (by omega)) (fun t _ => c _ (by omega)), r4.cong (c _ (by omega)) (c _ (by omega)) rfl, r5.pop, r6.cong (c _ (by omega)) (c _ (by omega)) (c _ (by omega)) (c _ (by omega)) (c _ (by omega)) (fun i _ => c _ (by omega)), r7.cong (c _ (by omega)) (c _ (by omega))⟩
    have hs := called_sp h1.1 (w (4 + z - 1)) eM hmm sp
    obtain ⟨q1, q2, q3⟩ := h1.hear hs
    unfold r_X8_step r_X9_step u_X9_step_a u_X9_step_w u_X8_step_rows u_X8_step_lens u_X8_step_psz u_X8_step_ft u_X8_step_fs u_X8_step_qs u_X8_step_als u_X8_step_cs u_X8_step_alo
    rw [if_neg e1, if_neg e1, if_neg e1, if_neg e2, if_neg e2, if_neg e2, if_neg e2, if_neg e2, if_neg e2, if_neg e2, if_neg e2, if_neg e2, if_neg e2, eR, eD, hlen, q1]
    have eM' : (upd a 4 (nI (z - 1))) (20 + z - 1) = nI mm := eM
    rw [eM'] at q1 q2 q3 ⊢
    generalize hk : nI (r_X8_hearSlot ofk wire (r_X6_beginningWith ones ofk there awake grp (w (4 + z - 1)) mm)) = kk at *
    generalize hL : u_X9_slot_lone (upd a 4 (nI (z - 1))) (lpF (b_X9_called_3 (upd a 4 (nI (z - 1))) w (w (4 + z - 1)) (nI mm)) n 0 sp) n = L at *
    generalize hA : upd (u_X9_counted_a (upd a 4 (nI (z - 1))) (lpF (b_X9_called_3 (upd a 4 (nI (z - 1))) w (w (4 + z - 1)) (nI mm)) n 0 sp) n) 6 L = A at *
    refine ⟨rfl, ?_⟩
    by_cases c1 : kk = 1
    · have c2 : ¬ kk = 2 := by rw [c1]; decide
      rw [if_pos c1, if_pos c1, if_pos c1, if_pos c1, if_pos c1, if_pos c1, if_neg c2, if_neg c2]
      refine ⟨fN f, z - 1, ?_⟩
      obtain ⟨r1, r2, r3, r4, r5, r6, r7⟩ := q3.tick
      have y := r6.found L
      rw [q2] at y
      have cf : ∀ j, j ≠ 15 ∧ (j < 100 ∨ 299 < j) → u_X9_finds_a A f L j = A j := fun j q => fr_finds r6.1 r6.2.1 q
      rw [q2] at cf ⊢
      exact ⟨r1.cong (cf _ (by omega)) (fun t _ => ⟨cf _ (by omega), cf _ (by omega), cf _ (by omega), cf _ (by omega)⟩) rfl rfl (fun _ _ => rfl), r2.cong (Nat.le_refl _) (cf _ (by omega)) (fun t _ => cf _ (by omega)), r3.cong (cf _ (by omega)) (cf _ (by omega)) (cf _ (by omega)) (cf _ (by omega)) (fun t _ => cf _ (by omega)), r4.cong (cf _ (by omega)) (cf _ (by omega)) rfl, r5.cong (cf _ (by omega)) (fun i _ => cf _ (by omega)) (fun _ _ => rfl), y, r7.cong (cf _ (by omega)) (cf _ (by omega))⟩
    · rw [if_neg c1, if_neg c1, if_neg c1, if_neg c1, if_neg c1, if_neg c1]
      by_cases c2 : kk = 2
      · rw [if_pos c2, if_pos c2, if_pos c2, if_pos c2, if_pos c2]
        unfold u_X4_addBoth_rows u_X4_addBoth_lens u_X4_addBoth_psz
        by_cases c3 : 64 ≤ nI mm
        · rw [if_pos c3, if_pos c3, if_pos c3, if_pos c3, if_pos c3]
          exact ⟨f, z - 1, q3.tick⟩
        · rw [if_neg c3, if_neg c3, if_neg c3, if_neg c3, if_neg c3]
          have hm64 : mm < 64 := by
            by_cases d : mm < 64
            · exact d
            · exact absurd (nn_le (x := 64) (a := 64) (y := nI mm) rfl rfl (by omega) (by omega)) c3
          refine ⟨f, z - 1 + 2, ?_⟩
          obtain ⟨r1, r2, r3, r4, r5, r6, r7⟩ := q3.tick
          have l := r5.push hzm hm64 (w (4 + z - 1) ||| ((1 : Int64) <<< ((63 - (nI mm)).toInt64 &&& 63))) (w (4 + z - 1)) (x := nI mm) rfl
          have c : ∀ j, j ≠ 4 ∧ (j < 20 ∨ 20 + 65 ≤ j) → upd (upd (upd (upd A (20 + (z - 1)) ((nI mm) + 1)) 4 (nI ((z - 1) + 1))) (20 + (z - 1 + 1)) ((nI mm) + 1)) 4 (nI ((z - 1 + 1) + 1)) j = A j := fun j q => by rw [pk_un (by omega), pk_un (by omega), pk_un (by omega), pk_un (by omega)]
          have wc : ∀ j, j < 4 ∨ 4 + 65 ≤ j → vp_updL (vp_updL w (4 + (z - 1)) (w (4 + z - 1) ||| ((1 : Int64) <<< ((63 - (nI mm)).toInt64 &&& 63)))) (4 + (z - 1 + 1)) (w (4 + z - 1)) j = w j := fun j q => by rw [pk_uLn (by omega), pk_uLn (by omega)]
          exact ⟨r1.cong (c _ (by omega)) (fun t _ => ⟨c _ (by omega), c _ (by omega), c _ (by omega), c _ (by omega)⟩) (wc _ (by omega)) (wc _ (by omega)) (fun _ _ => (wc _ (by omega))), r2.cong (Nat.le_refl _) (c _ (by omega)) (fun t _ => c _ (by omega)), r3.cong (c _ (by omega)) (c _ (by omega)) (c _ (by omega)) (c _ (by omega)) (fun t _ => c _ (by omega)), r4.cong (c _ (by omega)) (c _ (by omega)) (wc _ (by omega)), l, r6.cong (c _ (by omega)) (c _ (by omega)) (c _ (by omega)) (c _ (by omega)) (c _ (by omega)) (fun i _ => c _ (by omega)), r7.cong (c _ (by omega)) (c _ (by omega))⟩
      · rw [if_neg c2, if_neg c2, if_neg c2, if_neg c2, if_neg c2]
        exact ⟨f, z - 1, q3.tick⟩
