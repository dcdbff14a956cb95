theorem way1_eq (ones : Nat → Int64) (m : Int64) {k : Nat} (hk : k < 64) : r_X6_tellingOne ones m (nI k) = wayS ones m k true := by rw [tellingOne_nI _ _ hk]; rfl
theorem way0_eq (ones : Nat → Int64) (m : Int64) {k : Nat} (hk : k < 64) : m &&& ((r_X6_tellingOne ones m (nI k)) ^^^ (-1)) = wayS ones m k false := by rw [tellingOne_nI _ _ hk]; rfl
theorem pass_step {a : Nat → Int32} {w : Nat → Int64} {n : Nat} {kinds : Nat → Int32} {names : Nat → Int64} {seeds : Nat → Int32} {ones ofk : Nat → Int64} {sz : Int32} {there awake grp gm gb : Int64} (h : RelT a w n kinds names seeds ones ofk sz there awake grp gm gb) {lf ir : Int32} {ln : Int64} (hp : RelP a w lf ir ln) {σ : Nat → Int32} {m : Int64} (hs : SpR n σ m) (hm : ¬ m = 0) {k : Nat} (hk : k < 64) (x : Int32) : ∃ b : Bool, (b_X8_pass_19 ones lf ln k (m, x)).1 = wayS ones m k b ∧ (b_X9_pass_42 a w n k (x, σ)).2 = lpF (b_X9_goesOn_2 w (nI k) (b01 b)) n 0 σ ∧ ¬ wayS ones m k b = 0 ∧ (b_X8_pass_19 ones lf ln k (m, x)).2 = (b_X9_pass_42 a w n k (x, σ)).1 ∧ ((b_X9_pass_42 a w n k (x, σ)).1 = x ∨ (b_X9_pass_42 a w n k (x, σ)).1 = nI k) := by
  have t1 := tellers_0 h hs hk true
  have t0 := tellers_0 h hs hk false
  have e1 : b01 true = 1 := rfl
  have e0 : b01 false = 0 := rfl
  rw [e1] at t1
  rw [e0] at t0
  unfold b_X8_pass_19 b_X9_pass_42
  show ∃ b : Bool, _
  simp only
  rw [way1_eq _ _ hk]
  have w0 : m &&& ((wayS ones m k true) ^^^ (-1)) = wayS ones m k false := rfl
  rw [w0]
  by_cases z0 : wayS ones m k false = 0
  · have z1 : ¬ wayS ones m k true = 0 := fun q => hm (way_cover q z0)
    rw [if_neg (fun q => z1 ((lg0 _).mp q)), if_pos ((lg0 _).mpr z0), if_pos (t0.mpr z0)]
    exact ⟨true, rfl, rfl, z1, rfl, Or.inl rfl⟩
  · rw [if_neg (fun q => z0 (t0.mp q))]
    by_cases z1 : wayS ones m k true = 0
    · rw [if_pos ((lg0 _).mpr z1), if_pos (t1.mpr z1)]
      exact ⟨false, rfl, rfl, z0, rfl, Or.inl rfl⟩
    · rw [if_neg (fun q => z1 ((lg0 _).mp q)), if_neg (fun q => z0 ((lg0 _).mp q)), if_neg (fun q => z1 (t1.mp q)), hp.1]
      unfold r_X3_wayIsOneAt
      by_cases c1 : lf ≤ nI k
      · rw [if_pos c1, if_pos c1]
        by_cases c2 : nI k = lf
        · rw [if_pos c2, if_pos c2, if_neg (by decide)]
          exact ⟨true, rfl, rfl, z1, rfl, Or.inl rfl⟩
        · rw [if_neg c2, if_neg c2, if_pos rfl]
          exact ⟨false, rfl, rfl, z0, rfl, Or.inr rfl⟩
      · have c2 : ¬ nI k = lf := fun e => c1 (by rw [← e]; exact nn_le rfl rfl (Nat.le_refl k) (by omega))
        have c3 : w 2 = ln := by
          rcases hp.2.2 with q | q
          · exact absurd (show lf ≤ nI k by rw [q]; have : ∀ j, j < 64 → (-1 : Int32) ≤ nI j := by decide +kernel
                                            exact this k hk) c1
          · exact q.1
        rw [if_neg c1, if_neg c1, if_neg c2, isOneAt_bq _ hk, bitOf_bq _ hk, c3, b01_ite]
        cases bq ln (63 - k) with
        | true => rw [if_neg (by decide), if_neg (by decide)]; exact ⟨true, rfl, rfl, z1, rfl, Or.inl rfl⟩
        | false => rw [if_pos (by decide), if_pos (by decide)]; exact ⟨false, rfl, rfl, z0, rfl, Or.inr rfl⟩
def PR (n : Nat) (names : Nat → Int64) (k : Nat) (s : Int32 × (Nat → Int32)) (t : Int64 × Int32) : Prop := SpR n s.2 t.1 ∧ ¬ t.1 = 0 ∧ t.2 = s.1 ∧ (s.1 = -1 ∨ ∃ j, j < 64 ∧ s.1 = nI j) ∧ (∀ u v, u < n → v < n → bq t.1 u = true → bq t.1 v = true → ∀ j, j < k → bq (names u) (63 - j) = bq (names v) (63 - j))
theorem pass_sim {a : Nat → Int32} {w : Nat → Int64} {n : Nat} {kinds : Nat → Int32} {names : Nat → Int64} {seeds : Nat → Int32} {ones ofk : Nat → Int64} {sz : Int32} {there awake grp gm gb : Int64} (h : RelT a w n kinds names seeds ones ofk sz there awake grp gm gb) {lf ir : Int32} {ln : Int64} (hp : RelP a w lf ir ln) : ∀ (c k : Nat) (s : Int32 × (Nat → Int32)) (t : Int64 × Int32), k + c ≤ 64 → PR n names k s t → (lpW g_X8_pass_19 (b_X8_pass_19 ones lf ln) c k t).1 = k + c ∧ PR n names (k + c) (lpF (b_X9_pass_42 a w n) c k s) (lpW g_X8_pass_19 (b_X8_pass_19 ones lf ln) c k t).2
  | 0, _, _, _, _, r => ⟨rfl, r⟩
  | c + 1, k, s, t, hk, r => by
    obtain ⟨r1, r2, r3, r4, r5⟩ := r
    have hn := h.2.1
    have go : g_X8_pass_19 k t = true := by
      unfold g_X8_pass_19
      rw [decide_eq_false (fun q => r2 ((lg0 _).mp q))]; rfl
    rw [lpW_go go]
    obtain ⟨b, b1, b2, b3, b4, b5⟩ := pass_step h hp r1 r2 (show k < 64 by omega) s.1
    have et : (t.1, s.1) = t := by rw [← r3]
    rw [et] at b1 b4
    have es : (s.1, s.2) = s := rfl
    rw [es] at b2 b4 b5
    have nx : PR n names (k + 1) (b_X9_pass_42 a w n k s) (b_X8_pass_19 ones lf ln k t) := by
      refine ⟨by rw [b1, b2]; exact goesOn_sp h r1 (by omega) b, by rw [b1]; exact b3, b4, ?_, fun u v hu hv d1 d2 j hj => ?_⟩
      · rcases b5 with q | q
        · rw [q]; exact r4
        · exact Or.inr ⟨k, by omega, q⟩
      · rw [b1] at d1 d2
        have w1 := wayS_bq h r1.2 (show k < 64 by omega) b (t := u) (by omega)
        have w2 := wayS_bq h r1.2 (show k < 64 by omega) b (t := v) (by omega)
        rw [d1, if_pos hu] at w1
        rw [d2, if_pos hv] at w2
        by_cases e : j = k
        · subst e
          have w1' := w1.symm
          have w2' := w2.symm
          simp only [Bool.and_eq_true, beq_iff_eq] at w1' w2'
          rw [w1'.2, w2'.2]
        · exact r5 u v hu hv (way_sub d1) (way_sub d2) j (by omega)
    have := pass_sim h hp c (k + 1) _ _ (by omega) nx
    rw [show k + 1 + c = k + (c + 1) by omega] at this
    exact this
theorem name_ext {x y : Int64} (h : ∀ j, j < 64 → bq x (63 - j) = bq y (63 - j)) : x = y := bq_ext (fun t ht => by
  have := h (63 - t) (by omega)
  rw [show 63 - (63 - t) = t by omega] at this
  exact this)

theorem eq_pass {T : Nat} {a : Nat → Int32} {w : Nat → Int64} {n f z : Nat} {kinds : Nat → Int32} {names : Nat → Int64} {seeds : Nat → Int32} {ones : Nat → Int64} {ofk : Nat → Int64} {sz : Int32} {there : Int64} {awake : Int64} {grp : Int64} {gm : Int64} {gb : Int64} {lf : Int32} {ir : Int32} {ln : Int64} {rows : Nat → Int64} {lens : Nat → Int32} {psz : Int32} {vals : Nat → Int32} {hold : Int64} {call : Int32} {fio : Int64} {fqu : Int32} {fal : Int32} {fco : Int32} {fgu : Int32} {ft : Nat → Int32} {fs : Int32} {qs : Int32} {als : Int32} {cs : Int32} {ps : Int32} {wire : Int32} {alo : Int32} (inn : Nat → Int32) (h : Rel T a w n f z kinds names seeds ones ofk sz there awake grp gm gb lf ir ln rows lens psz vals hold call fio fqu fal fco fgu ft fs qs als cs ps wire alo)  : r_X8_pass ones sz there awake grp lf ln = r_X9_pass a w inn n ∧ ∃ f', Rel (T + 1) (u_X9_pass_a a w inn n f) (u_X9_pass_w a w inn n) n f' z kinds names seeds ones ofk sz there awake grp gm gb (u_X8_pass_lf ones sz there awake grp lf ln) (u_X8_pass_ir ones sz there awake grp lf ir ln) (u_X8_pass_ln names ones sz there awake grp lf ln) rows lens psz vals hold call fio fqu fal fco fgu (u_X8_pass_ft ones sz there awake grp lf ln ft fs f) (u_X8_pass_fs ones sz there awake grp lf ln fs f) qs als cs (u_X8_pass_ps ones there awake grp lf ln ps) wire alo := by
  have hn := h.1.2.1
  have ai := allIn_sp h.1 inn
  have hsz := h.1.2.2.1
  unfold r_X8_pass r_X9_pass u_X9_pass_a u_X9_pass_w u_X8_pass_lf u_X8_pass_ir u_X8_pass_ln u_X8_pass_ft u_X8_pass_fs u_X8_pass_ps
  rcases oneIn_sp ai hn with ⟨q1, q2⟩ | ⟨q1, t0, q2, q3, q4⟩
  · have q1' : (there &&& awake) &&& grp = 0 := q1
    have stop : lpW g_X8_pass_19 (b_X8_pass_19 ones lf ln) 64 0 (0, (-1)) = (0, (0, (-1))) := lpW_stop (n := 63) (by decide)
    have z1 : ¬ (0 : Int32) ≤ -1 := by decide
    have z2 : r_X6_has sz (-1) = 0 := by unfold r_X6_has; rw [if_pos (by decide)]
    rw [q1', stop, q2]
    simp only
    rw [first_none, if_neg z1, if_neg z1, if_neg z1, if_pos z2, if_pos z2, if_pos z2, if_pos z2, if_pos z2, if_pos z2]
    refine ⟨rfl, f, ?_⟩
    obtain ⟨r1, r2, r3, r4, r5, r6, r7⟩ := h.tick
    have c : ∀ j, j ≠ 14 ∧ j ≠ 2 ∧ j ≠ 3 → upd (upd (upd a 14 ((a 14) + 1)) 2 (-1)) 3 0 j = a j := fun j q => by rw [pk_un q.2.2, pk_un q.2.1, pk_un q.1]
    refine ⟨r1.cong (c _ (by omega)) (fun t _ => ⟨c _ (by omega), c _ (by omega), c _ (by omega), c _ (by omega)⟩) rfl rfl (fun _ _ => rfl), r2.cong (Nat.le_refl _) (c _ (by omega)) (fun t _ => c _ (by omega)), r3.cong (c _ (by omega)) (c _ (by omega)) (c _ (by omega)) (c _ (by omega)) (fun t _ => c _ (by omega)), ⟨by rw [pk_un (by omega), pk_us], pk_us, Or.inl rfl⟩, r5.cong (c _ (by omega)) (fun i _ => c _ (by omega)) (fun _ _ => rfl), ?_, r7.cong (c _ (by omega)) (c _ (by omega))⟩
    obtain ⟨y1, y2, y3, y4, y5, y6, y7, y8⟩ := r6
    refine ⟨by rw [c _ (by omega)]; exact y1, y2, y3, fun i hi => by rw [c _ (by omega)]; exact y4 i hi, by rw [c _ (by omega)]; exact y5, by rw [c _ (by omega)]; exact y6, by rw [c _ (by omega)]; exact y7, ?_⟩
    rw [pk_un (by omega), pk_un (by omega), pk_us, y8]
    rfl
  · obtain ⟨s1, s2, s3, s4, s5, s6⟩ := pass_sim h.1 h.2.2.2.1 64 0 ((-1), (lpF (b_X9_allIn_2 a w) n 0 inn)) (Lm there awake grp, -1) (by decide) ⟨ai, q1, rfl, Or.inl rfl, fun _ _ _ _ _ _ j hj => absurd hj (Nat.not_lt_zero j)⟩
    have e0 : (0 : Int32) ≤ nI t0 := nI_pos' (by omega)
    rw [q4, if_pos e0, if_pos e0, if_pos e0]
    have eL : ((there &&& awake) &&& grp, (-1 : Int32)) = (Lm there awake grp, -1) := rfl
    rw [eL]
    generalize lpW g_X8_pass_19 (b_X8_pass_19 ones lf ln) 64 0 (Lm there awake grp, -1) = W8 at *
    generalize lpF (b_X9_pass_42 a w n) 64 0 ((-1), (lpF (b_X9_allIn_2 a w) n 0 inn)) = W9 at *
    obtain ⟨c8, m8, x8⟩ := W8
    obtain ⟨x9, σ9⟩ := W9
    simp only at s1 s2 s3 s4 s5 s6 ⊢
    subst s4
    rcases oneIn_sp s2 hn with ⟨z1, -⟩ | ⟨-, t, z2, z3, z4⟩
    · exact absurd z1 s3
    · have ef : r_X8_firstOf m8 = nI t := first_bq (by omega) z3 (fun v hv => by
        cases e : bq m8 v with
        | false => rfl
        | true =>
          have := h.1.2.2.2.2.2.2.2 v t (by omega) z2 (name_ext (fun j hj => s6 v t (by omega) z2 e z3 j (by omega)))
          omega)
      have eh : ¬ r_X6_has sz (nI t) = 0 := by
        unfold r_X6_has
        rw [if_neg (nI_pos (by omega)), hsz, if_neg (nI_ge z2 (by omega))]; decide
      have ew : w ((84 + nI t).toNatClampNeg) = names t := by
        rw [nn_add (x := 84) (a := 84) (y := nI t) rfl rfl rfl, nI_clamp (by omega)]
        exact (h.1.2.2.2.1 t z2).2.2.2.2.2.1
      rw [z4, ef, if_neg eh, if_neg eh, if_neg eh, if_neg eh, if_neg eh, if_neg eh, ew, nI_clamp (by omega), s1]
      refine ⟨rfl, fN f, ?_⟩
      obtain ⟨r1, r2, r3, r4, r5, r6, r7⟩ := h.tick
      have ep : ∀ A : Nat → Int32, (∀ j, j ≠ 14 ∧ j ≠ 2 ∧ j ≠ 3 → A j = a j) → A 14 = a 14 + 193 → RelY A f ft fs qs als cs (ps + (1 + 3 * nI (0 + 64))) := fun A c g => by
        obtain ⟨y1, y2, y3, y4, y5, y6, y7, y8⟩ := r6
        refine ⟨by rw [c _ (by omega)]; exact y1, y2, y3, fun i hi => by rw [c _ (by omega)]; exact y4 i hi, by rw [c _ (by omega)]; exact y5, by rw [c _ (by omega)]; exact y6, by rw [c _ (by omega)]; exact y7, ?_⟩
        rw [g, y8]; rfl
      have core : ∀ A : Nat → Int32, (∀ j, j ≠ 14 ∧ j ≠ 2 ∧ j ≠ 3 → A j = a j) → A 14 = a 14 + 193 → A 2 = x8 → (A 3 = u_X3_goOnFrom_ir ir x8) → Rel (T + 1) (u_X9_finds_a A f (nI t)) (vp_updL w 2 (names t)) n (fN f) z kinds names seeds ones ofk sz there awake grp gm gb (u_X3_goOnFrom_lf x8) (u_X3_goOnFrom_ir ir x8) (u_X3_goOnFrom_ln ln x8 (names t)) rows lens psz vals hold call fio fqu fal fco fgu (u_X7_addFound_ft ft fs f (nI t)) (u_X7_addFound_fs fs f) qs als cs (ps + (1 + 3 * nI (0 + 64))) wire alo := by
        intro A c g14 g2 g3
        have y := ep A c g14
        have cf : ∀ j, (j ≠ 15 ∧ (j < 100 ∨ 299 < j)) ∧ j ≠ 14 ∧ j ≠ 2 ∧ j ≠ 3 → u_X9_finds_a A f (nI t) j = a j := fun j q => by rw [fr_finds y.1 y.2.1 q.1, c j q.2]
        have wc : ∀ j, j ≠ 2 → vp_updL w 2 (names t) j = w j := fun j q => pk_uLn q
        refine ⟨r1.cong (cf _ (by omega)) (fun t _ => ⟨cf _ (by omega), cf _ (by omega), cf _ (by omega), cf _ (by omega)⟩) (wc _ (by omega)) (wc _ (by omega)) (fun _ _ => (wc _ (by omega))), r2.cong (Nat.le_refl _) (cf _ (by omega)) (fun t _ => cf _ (by omega)), r3.cong (cf _ (by omega)) (cf _ (by omega)) (cf _ (by omega)) (cf _ (by omega)) (fun t _ => cf _ (by omega)), ⟨?_, ?_, ?_⟩, r5.cong (cf _ (by omega)) (fun i _ => cf _ (by omega)) (fun _ _ => (wc _ (by omega))), y.found (nI t), r7.cong (cf _ (by omega)) (cf _ (by omega))⟩
        · rw [fr_finds y.1 y.2.1 (by omega), g2]; unfold u_X3_goOnFrom_lf; split
          · assumption
          · rfl
        · rw [fr_finds y.1 y.2.1 (by omega), g3]
        · unfold u_X3_goOnFrom_lf u_X3_goOnFrom_ln
          by_cases d : x8 = -1
          · rw [if_pos d]; exact Or.inl rfl
          · rw [if_neg d, if_neg d, pk_uLs]
            rcases s5 with q | q
            · exact absurd q d
            · exact Or.inr ⟨rfl, q⟩
      have k14 : ∀ x y : Int32, (∀ j, j ≠ 14 ∧ j ≠ 2 ∧ j ≠ 3 → upd (upd (upd a 14 ((a 14) + 193)) 2 x) 3 y j = a j) ∧ upd (upd (upd a 14 ((a 14) + 193)) 2 x) 3 y 14 = a 14 + 193 ∧ upd (upd (upd a 14 ((a 14) + 193)) 2 x) 3 y 2 = x ∧ upd (upd (upd a 14 ((a 14) + 193)) 2 x) 3 y 3 = y := fun x y => ⟨fun j q => by rw [pk_un q.2.2, pk_un q.2.1, pk_un q.1], by rw [pk_un (by omega), pk_un (by omega), pk_us], by rw [pk_un (by omega), pk_us], pk_us⟩
      by_cases d : (0 : Int32) ≤ x8
      · rw [if_pos d]
        obtain ⟨g1, g2, g3, g4⟩ := k14 x8 ((upd (upd a 14 ((a 14) + 193)) 2 x8) 3 + 1)
        refine core _ g1 g2 g3 (g4.trans ?_)
        rw [pk_un (by omega), pk_un (by omega), r4.2.1]
        unfold u_X3_goOnFrom_ir
        rw [if_neg (fun e => by rw [e] at d; exact absurd d (by decide))]
      · rw [if_neg d]
        obtain ⟨g1, g2, g3, g4⟩ := k14 x8 0
        refine core _ g1 g2 g3 (g4.trans ?_)
        unfold u_X3_goOnFrom_ir
        rcases s5 with q | ⟨j, hj, q⟩
        · rw [if_pos q]
        · rw [q] at d; exact absurd (nI_pos' (by omega)) d
