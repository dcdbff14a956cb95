theorem rel_tire {a : Nat → Int32} {w : Nat → Int64} {n : Nat} {kinds : Nat → Int32} {names : Nat → Int64} {seeds : Nat → Int32} {ones ofk : Nat → Int64} {sz : Int32} {there awake grp gm gb : Int64} (h : RelT a w n kinds names seeds ones ofk sz there awake grp gm gb) {t0 : Nat} (ht : t0 < n) : RelT (u_X9_sleeps_a a t0) w n kinds names seeds ones ofk sz there (u_X6_tire_awake ofk awake (nI t0)) grp gm gb := by
  have hn := h.2.1
  obtain ⟨d0, -, -, d3, -, -, d6, -⟩ := h.2.2.2.1 t0 ht
  have hb : ∀ u, u < 64 → bq (u_X6_tire_awake ofk awake (nI t0)) u = if u = t0 then (bq awake u && !bq (ofk 4) u) else bq awake u := fun u hu => by
    unfold u_X6_tire_awake
    rw [bq_and, bq_not _ hu, bq_and, bq_set (by omega)]
    by_cases c : u = t0
    · rw [if_pos c, decide_eq_true c, Bool.true_and]
    · rw [if_neg c, decide_eq_false c, Bool.false_and]; exact Bool.and_true _
  unfold u_X9_sleeps_a
  rw [d0]
  by_cases c : kinds t0 = 4
  · rw [if_pos c]
    refine h.upd2 ht false (fun u hu => ?_)
    rw [hb u hu]
    by_cases e : u = t0
    · rw [if_pos e, if_pos e, e, (d6 4 (by omega)).mpr c]; exact Bool.and_false _
    · rw [if_neg e, if_neg e]
  · rw [if_neg c]
    have e : u_X6_tire_awake ofk awake (nI t0) = awake := bq_ext (fun u hu => by
      rw [hb u hu]
      by_cases e : u = t0
      · have : bq (ofk 4) t0 = false := by
          cases g : bq (ofk 4) t0 with
          | false => rfl
          | true => exact absurd ((d6 4 (by omega)).mp g) c
        rw [if_pos e, e, this]; exact Bool.and_true _
      · rw [if_neg e])
    rw [e]; exact h

theorem audible_sub {ofk : Nat → Int64} {wire : Int32} {m : Int64} {u : Nat} (h : bq (r_X8_audibleOf ofk wire m) u = true) : bq m u = true := by
  unfold r_X8_audibleOf at h
  split at h
  · split at h
    · rw [bq_and] at h; simp only [Bool.and_eq_true] at h; exact h.1
    · exact h
  · exact h
theorem kind_one {x : Int64} (h : nI (r_X8_kindOfSlot x) = 1) : cq x 64 = 1 := by
  have h1 : r_X8_kindOfSlot x = 1 := (nI_eq (by have := le_kind x; omega) (by decide)).mp h
  rw [kind_bq] at h1
  by_cases d1 : cq x 64 = 0
  · rw [if_pos d1] at h1; cases h1
  · rw [if_neg d1] at h1
    by_cases d2 : cq x 64 = 1
    · exact d2
    · rw [if_neg d2] at h1; cases h1
theorem alo_one {n : Nat} {sp : Nat → Int32} {m : Int64} {ofk : Nat → Int64} {wire : Int32} (hs : SpR n sp m) (k1 : nI (r_X8_hearSlot ofk wire m) = 1) : ∃ t, t < n ∧ bq m t = true ∧ u_X8_hearSlot_alo ofk wire m = nI t ∧ r_X8_firstOf (r_X8_audibleOf ofk wire m) = nI t ∧ (∀ u, u < 64 → bq (r_X8_audibleOf ofk wire m) u = decide (u = t)) := by
  have k1' : nI (r_X8_kindOfSlot (r_X8_audibleOf ofk wire m)) = 1 := k1
  have c1 := kind_one k1'
  obtain ⟨t, h1, h2, h3⟩ := cq_one.mp c1
  have hm := audible_sub h2
  have htn : t < n := by
    by_cases c : t < n
    · exact c
    · rw [hs.2 t (by omega) h1] at hm; cases hm
  refine ⟨t, htn, hm, ?_, first_one h1 h2 c1, fun u hu => ?_⟩
  · unfold u_X8_hearSlot_alo
    rw [if_pos k1']; exact first_one h1 h2 c1
  · by_cases e : u = t
    · rw [e, h2]; exact (decide_eq_true rfl).symm
    · rw [decide_eq_false e]
      cases d : bq (r_X8_audibleOf ofk wire m) u with
      | false => rfl
      | true => exact absurd (h3 u hu d) e
theorem alo_none {m : Int64} {ofk : Nat → Int64} {wire : Int32} (k1 : ¬ nI (r_X8_hearSlot ofk wire m) = 1) : u_X8_hearSlot_alo ofk wire m = -1 := by
  unfold u_X8_hearSlot_alo
  exact if_neg k1
theorem RelC.spl {a : Nat → Int32} {w : Nat → Int64} {n : Nat} {kinds : Nat → Int32} {names : Nat → Int64} {seeds : Nat → Int32} {ones ofk : Nat → Int64} {sz : Int32} {there awake grp gm gb : Int64} {T : Nat} {vals : Nat → Int32} {hold : Int64} {call : Int32} (h : RelT a w n kinds names seeds ones ofk sz there awake grp gm gb) (hc : RelC T a n kinds vals hold call) {t : Nat} (ht : t < n) (hb : bq hold t = true) : bq (r_X6_splitting ofk there awake grp) t = bq (Lm there awake grp) t := by
  obtain ⟨k3, -⟩ := hc.2.1 t ht hb
  obtain ⟨-, -, -, -, -, -, k, -⟩ := h.2.2.2.1 t ht
  unfold r_X6_splitting
  rw [bq_and (Lm there awake grp) (ofk 3 ||| ofk 4), bq_or]
  rcases k3 with e | e
  · rw [(k 3 (by omega)).mpr e, Bool.true_or, Bool.and_true]
  · rw [(k 4 (by omega)).mpr e, Bool.or_true, Bool.and_true]
theorem m1_ne {t : Nat} (h : t < 64) : ¬ nI t = -1 := by
  have : ∀ t, t < 64 → ¬ nI t = -1 := by decide +kernel
  exact this t h
theorem split_sp {a : Nat → Int32} {w : Nat → Int64} {n : Nat} {kinds : Nat → Int32} {names : Nat → Int64} {seeds : Nat → Int32} {ones ofk : Nat → Int64} {sz : Int32} {there awake grp gm gb : Int64} {T : Nat} {vals : Nat → Int32} {hold : Int64} {call : Int32} (h : RelT a w n kinds names seeds ones ofk sz there awake grp gm gb) (hc : RelC T a n kinds vals hold call) (hT : T < 2 ^ 20) (sp : Nat → Int32) : SpR n (lpF (b_X9_split_13 a w) n 0 sp) (r_X0_atZero vals hold (Lm there awake grp)) := by
  have hn := h.2.1
  have key := lpF_fill (body := b_X9_split_13 a w) (g := fun k => if r_X9_splits a w k = 0 then 0 else (if a (300 + 6 * k + 3) = 0 then 1 else 0)) (N := n) (fun k σ _ t => by
    unfold b_X9_split_13
    split
    · exact upd_ite _ _ _ _
    · split <;> exact upd_ite _ _ _ _) n 0 sp (by omega)
  refine ⟨fun t ht => ?_, fun t h1 h2 => ?_⟩
  · rw [key t, if_pos (by omega), h.splits ht, hc.1 t ht]
    have az := atZero_bq vals hold (Lm there awake grp) t (by omega)
    rw [bq_and] at az
    by_cases c : bq hold t = true
    · rw [RelC.spl h hc ht c, c, if_pos rfl]
      rw [c, Bool.and_true] at az
      by_cases d : bq (Lm there awake grp) t = true
      · rw [d, if_neg (by decide)]
        by_cases e : vals t = 0
        · rw [if_pos e, az.mpr ⟨by omega, d, e⟩]; rfl
        · rw [if_neg e]
          cases g : bq (r_X0_atZero vals hold (Lm there awake grp)) t with
          | false => rfl
          | true => exact absurd (az.mp g).2.2 e
      · have d' : bq (Lm there awake grp) t = false := by simpa using d
        rw [d', if_pos (by decide)]
        cases g : bq (r_X0_atZero vals hold (Lm there awake grp)) t with
        | false => rfl
        | true => exact absurd (az.mp g).2.1 d
    · rw [if_neg c]
      have c' : bq hold t = false := by simpa using c
      rw [c', Bool.and_false] at az
      have g : bq (r_X0_atZero vals hold (Lm there awake grp)) t = false := by
        cases g : bq (r_X0_atZero vals hold (Lm there awake grp)) t with
        | false => rfl
        | true => exact absurd (az.mp g).2.1 (by decide)
      rw [g]
      split
      · rfl
      · rw [if_neg (by decide)]; rfl
  · cases g : bq (r_X0_atZero vals hold (Lm there awake grp)) t with
    | false => rfl
    | true =>
      have := ((atZero_bq vals hold (Lm there awake grp) t h2).mp g).2.1
      rw [bq_and, hc.2.2.1 t h1 h2, Bool.and_false] at this
      cases this
theorem split_at {a : Nat → Int32} {w : Nat → Int64} {n : Nat} {kinds : Nat → Int32} {names : Nat → Int64} {seeds : Nat → Int32} {ones ofk : Nat → Int64} {sz : Int32} {there awake grp gm gb : Int64} {T : Nat} {vals : Nat → Int32} {hold : Int64} {call : Int32} (h : RelT a w n kinds names seeds ones ofk sz there awake grp gm gb) (hc : RelC T a n kinds vals hold call) (hT : T < 2 ^ 20) {a0 sv : Nat → Int32} {m : Int64} {t : Nat} (ht : t < n) (hsv : sv t = b01 (bq m t)) {LO KK : Int32} (hLO : u_X9_slot_lone a0 sv n = LO) (hKK : nI (r_X9_counted a0 sv n) = KK) : b_X9_split_75 a0 w n sv t a = if (bq (Lm there awake grp &&& hold) t = true ∧ ¬ nI t = LO) then (if KK = 2 then (if bq m t = true then upd (upd a (300 + 6 * t + 4) ((1103515245 * (seeds t)) + 12345)) (300 + 6 * t + 3) (dw (seeds t) 2) else upd a (300 + 6 * t + 3) (vals t + 1)) else upd a (300 + 6 * t + 3) (if vals t ≤ 0 then 0 else vals t - 1)) else a := by
  have hn := h.2.1
  have hs4 : a (300 + 6 * t + 4) = seeds t := (h.2.2.2.1 t ht).2.2.2.2.1
  unfold b_X9_split_75
  rw [draw9a, draw9, hs4, h.splits ht, hLO, hKK, hsv, hc.1 t ht, bq_and]
  by_cases c : bq hold t = true
  · rw [RelC.spl h hc ht c, if_pos c, c, Bool.and_true]
    obtain ⟨-, mm, hm, hv⟩ := hc.2.1 t ht c
    by_cases d : bq (Lm there awake grp) t = true
    · have nv : ¬ vals t < 0 := by rw [hv]; exact nI_pos (by omega)
      rw [d, if_neg (by decide), if_neg nv]
      by_cases e : nI t = LO
      · rw [if_pos e, if_neg (fun q => q.2 e)]
      · rw [if_neg e, if_pos (show true = true ∧ ¬ nI t = LO from ⟨rfl, e⟩)]
        by_cases g : KK = 2
        · rw [if_pos g, if_pos g]
          by_cases b : bq m t = true
          · rw [b, if_neg (by decide), if_pos rfl]
          · have b' : bq m t = false := by simpa using b
            rw [b', if_pos (by decide), if_neg (by decide)]
        · rw [if_neg g, if_neg g]
          split <;> rfl
    · have d' : bq (Lm there awake grp) t = false := by simpa using d
      rw [d', if_pos (by decide), if_neg (fun q => by cases q.1)]
  · have c' : bq hold t = false := by simpa using c
    rw [if_neg c, c', Bool.and_false, if_neg (fun (q : false = true ∧ _) => by cases q.1)]
    split
    · rfl
    · rw [if_pos (by decide)]

theorem eq_split {T : Nat} {a : Nat → Int32} {w : Nat → Int64} {n f z : Nat} {kinds : Nat → Int32} {names : Nat → Int64} {seeds : Nat → Int32} {ones : Nat → Int64} {ofk : Nat → Int64} {sz : Int32} {there : Int64} {awake : Int64} {grp : Int64} {gm : Int64} {gb : Int64} {lf : Int32} {ir : Int32} {ln : Int64} {rows : Nat → Int64} {lens : Nat → Int32} {psz : Int32} {vals : Nat → Int32} {hold : Int64} {call : Int32} {fio : Int64} {fqu : Int32} {fal : Int32} {fco : Int32} {fgu : Int32} {ft : Nat → Int32} {fs : Int32} {qs : Int32} {als : Int32} {cs : Int32} {ps : Int32} {wire : Int32} {alo : Int32} (sp : Nat → Int32) (h : Rel T a w n f z kinds names seeds ones ofk sz there awake grp gm gb lf ir ln rows lens psz vals hold call fio fqu fal fco fgu ft fs qs als cs ps wire alo) (hT : T < 2 ^ 20) : r_X8_split ofk there awake grp vals hold call wire = r_X9_split a w sp n ∧ ∃ f', Rel (T + 1) (u_X9_split_a a w sp n f) w n f' z kinds names (u_X8_split_seeds seeds ofk sz there awake grp vals hold call wire n) ones ofk sz there (u_X8_split_awake ofk there awake grp vals hold call wire) grp gm gb lf ir ln rows lens psz (u_X8_split_vals seeds ofk sz there awake grp vals hold call wire n) (u_X8_split_hold ofk there awake grp vals hold call wire) (u_X8_split_call ofk there awake grp vals hold call wire) fio fqu fal fco fgu (u_X8_split_ft ofk there awake grp vals hold call ft fs wire f) (u_X8_split_fs ofk there awake grp vals hold call fs wire f) (u_X8_split_qs ofk there awake grp vals hold call qs wire) (u_X8_split_als ofk there awake grp vals hold call als wire) (u_X8_split_cs ofk there awake grp vals hold call cs wire) ps wire (u_X8_split_alo ofk there awake grp vals hold call wire alo) := by
  have hn := h.1.2.1
  have hsz := h.1.2.2.1
  have h5 : a 5 = call := h.2.1.2.2.2.1
  unfold r_X8_split r_X9_split u_X9_split_a u_X8_split_seeds u_X8_split_awake u_X8_split_vals u_X8_split_hold u_X8_split_call u_X8_split_ft u_X8_split_fs u_X8_split_qs u_X8_split_als u_X8_split_cs u_X8_split_alo
  rcases h.2.1.2.2.2.2 with e | ⟨mc, hmc, e⟩
  · have e1 : r_X0_isUnderWay call = 0 := by rw [e]; decide
    have e2 : ¬ 0 ≤ a 5 := by rw [h5, e]; decide
    rw [if_neg e2, if_neg e2, if_pos e1, if_pos e1, if_pos e1, if_pos e1, if_pos e1, if_pos e1, if_pos e1, if_pos e1, if_pos e1, if_pos e1, if_pos e1, if_pos e1]
    exact ⟨rfl, f, h.tick⟩
  · have e1 : ¬ r_X0_isUnderWay call = 0 := by unfold r_X0_isUnderWay; rw [e, if_neg (nI_pos (by omega))]; decide
    have e2 : 0 ≤ a 5 := by rw [h5, e]; exact nI_pos' (by omega)
    rw [if_pos e2, if_pos e2, if_neg e1, if_neg e1, if_neg e1, if_neg e1, if_neg e1, if_neg e1, if_neg e1, if_neg e1, if_neg e1, if_neg e1, if_neg e1, if_neg e1]
    have hs := split_sp h.1 h.2.1 hT sp
    obtain ⟨q1, q2, q3⟩ := h.hear hs
    have aone := @alo_one n (lpF (b_X9_split_13 a w) n 0 sp) (r_X0_atZero vals hold (Lm there awake grp)) ofk wire hs
    have anone := @alo_none (r_X0_atZero vals hold (Lm there awake grp)) ofk wire
    have azq := atZero_bq vals hold (Lm there awake grp)
    have at_ : ∀ A, RelT A w n kinds names seeds ones ofk sz there awake grp gm gb → RelC T A n kinds vals hold call → ∀ t, t < n → _ := fun A hA hC t ht => split_at (a := A) hA hC hT (a0 := a) (sv := (lpF (b_X9_split_13 a w) n 0 sp)) (m := r_X0_atZero vals hold (Lm there awake grp)) ht (hs.1 t ht) q2 q1
    obtain ⟨B1, B2⟩ := blk_loop (s75_out a w n (lpF (b_X9_split_13 a w) n 0 sp)) (s75_in a w n (lpF (b_X9_split_13 a w) n 0 sp)) (upd (u_X9_counted_a a (lpF (b_X9_split_13 a w) n 0 sp) n) 6 (u_X9_slot_lone a (lpF (b_X9_split_13 a w) n 0 sp) n)) n
    have at0 := at_ _ q3.1 q3.2.1
    rw [q2] at q3 B1 B2 at0 ⊢
    rw [q1]
    refine ⟨rfl, ?_⟩
    show ∃ f', _
    have eM : (there &&& awake) &&& grp = Lm there awake grp := rfl
    rw [eM]
    generalize hm : r_X0_atZero vals hold (Lm there awake grp) = m at *
    generalize hA0 : upd (u_X9_counted_a a (lpF (b_X9_split_13 a w) n 0 sp) n) 6 (u_X8_hearSlot_alo ofk wire m) = A0 at *
    generalize hLL : lpF (b_X9_split_75 a w n (lpF (b_X9_split_13 a w) n 0 sp)) n 0 A0 = LL at *
    generalize hKK : nI (r_X8_hearSlot ofk wire m) = KK at *
    generalize hLO : u_X8_hearSlot_alo ofk wire m = LO at *
    generalize u_X8_hearSlot_qs ofk qs wire m = qs' at *
    generalize u_X8_hearSlot_als ofk als wire m = als' at *
    generalize u_X8_hearSlot_cs ofk cs wire m = cs' at *
    obtain ⟨r1, r2, r3, r4, r5, r6, r7⟩ := q3
    have hv : ∀ t, t < n → bq hold t = true → ∃ m, m ≤ T ∧ vals t = nI m := fun t ht hb => (r2.2.1 t ht hb).2
    -- the rest of the state is as before
    have b0 : ∀ j, j < 300 → LL j = A0 j := fun j q => B2 j (Or.inl q)
    have bk : ∀ t, t < n → ∀ i, i < 3 ∨ i = 5 → LL (300 + 6 * t + i) = A0 (300 + 6 * t + i) := fun t ht i hi => by
      rw [B1 t ht i (by omega), at0 t ht]
      split
      · split
        · split
          · rw [pk_un (by omega), pk_un (by omega)]
          · rw [pk_un (by omega)]
        · rw [pk_un (by omega)]
      · rfl
    have L5 : LL 5 = call := by rw [b0 5 (by omega)]; exact r2.2.2.2.1
    by_cases c2 : KK = 2
    · have c1 : ¬ KK = 1 := by rw [c2]; decide
      have lo : LO = -1 := anone (by rw [c2]; decide)
      repeat rw [if_pos c2]
      repeat rw [if_neg c1]
      refine ⟨f, ?_⟩
      obtain ⟨d1, d2⟩ := drawC_eq hn m seeds (lpF (b_X0_shift_3 hold (Lm there awake grp &&& (m ^^^ (-1))) 1) 40 0 vals)
      rw [← hsz] at d1 d2
      have k : ∀ j, j ≠ 5 ∧ j < 300 → upd LL 5 (LL 5 + 1) j = A0 j := fun j q => by rw [pk_un q.1, b0 j q.2]
      have kb : ∀ t, t < n → ∀ i, i < 6 → upd LL 5 (LL 5 + 1) (300 + 6 * t + i) = LL (300 + 6 * t + i) := fun t ht i hi => pk_un (by omega)
      have act : ∀ t, t < n → (bq (Lm there awake grp &&& hold) t = true ∧ ¬ nI t = LO ↔ bq (Lm there awake grp &&& hold) t = true) := fun t ht => ⟨fun q => q.1, fun q => ⟨q, by rw [lo]; exact m1_ne (by omega)⟩⟩
      have mLH : ∀ t, t < n → bq m t = true → bq (Lm there awake grp &&& hold) t = true := fun t ht hb => by
        exact ((azq t (by omega)).mp hb).2.1
      refine ⟨r1.seed (k 0 (by omega)) (fun t ht => ⟨by rw [kb t ht 0 (by omega), bk t ht 0 (by omega)], by rw [kb t ht 1 (by omega), bk t ht 1 (by omega)], by rw [kb t ht 2 (by omega), bk t ht 2 (by omega)], ?_⟩), ⟨fun t ht => ?_, fun t ht hb => ?_, r2.2.2.1, by rw [pk_us, L5], Or.inr ⟨mc + 1, by omega, by rw [e]; exact nI_1 mc⟩⟩, r3.cong (k _ (by omega)) (k _ (by omega)) (k _ (by omega)) (k _ (by omega)) (fun t ht => by rw [kb t ht 5 (by omega), bk t ht 5 (by omega)]), r4.cong (k _ (by omega)) (k _ (by omega)) rfl, r5.cong (k _ (by omega)) (fun i _ => k _ (by omega)) (fun _ _ => rfl), r6.cong (k _ (by omega)) (k _ (by omega)) (k _ (by omega)) (k _ (by omega)) (k _ (by omega)) (fun i _ => k _ (by omega)), r7.cong (k _ (by omega)) (k _ (by omega))⟩
      · rw [kb t ht 4 (by omega), B1 t ht 4 (by omega), at0 t ht, d1 t]
        by_cases b : bq m t = true
        · rw [if_pos ((act t ht).mpr (mLH t ht b)), if_pos c2, if_pos b, if_pos (show t < n ∧ bq m t = true from ⟨ht, b⟩), pk_un (by omega), pk_us]
        · rw [if_neg (show ¬ (t < n ∧ bq m t = true) from fun q => b q.2)]
          split
          · rw [pk_un (by omega)]; exact (r1.2.2.2.1 t ht).2.2.2.2.1
          · exact (r1.2.2.2.1 t ht).2.2.2.2.1
      · rw [kb t ht 3 (by omega), B1 t ht 3 (by omega), at0 t ht, d2 t, shift_eq _ _ _ _ t (by omega)]
        by_cases b : bq m t = true
        · have bl := mLH t ht b
          have bh : bq hold t = true := by rw [bq_and] at bl; simp only [Bool.and_eq_true] at bl; exact bl.2
          rw [if_pos ((act t ht).mpr bl), if_pos c2, if_pos b, if_pos bh, if_pos (show t < n ∧ bq m t = true from ⟨ht, b⟩), pk_us]
        · have nb : ¬ (t < n ∧ bq m t = true) := fun q => b q.2
          have b' : bq m t = false := by simpa using b
          rw [if_neg nb]
          by_cases bh : bq hold t = true
          · rw [if_pos bh]
            obtain ⟨mv, hmv, ev⟩ := hv t ht bh
            by_cases bl : bq (Lm there awake grp) t = true
            · have bLH : bq (Lm there awake grp &&& hold) t = true := by rw [bq_and, bl, bh]; rfl
              have bS : bq ((Lm there awake grp &&& (m ^^^ (-1))) &&& hold) t = true := by rw [bq_and, bq_and, bq_not _ (by omega), bl, bh, b']; rfl
              rw [if_pos ((act t ht).mpr bLH), if_pos c2, if_neg b, if_pos bS, pk_us, ev]
              exact ((sh_p1 mv (by omega)).trans (nI_1 mv).symm).symm
            · have bl' : bq (Lm there awake grp) t = false := by simpa using bl
              have bLH : ¬ bq (Lm there awake grp &&& hold) t = true := by rw [bq_and, bl']; exact fun q => by cases q
              have bS : ¬ bq ((Lm there awake grp &&& (m ^^^ (-1))) &&& hold) t = true := by rw [bq_and, bq_and, bl']; exact fun q => by cases q
              rw [if_neg (fun q => bLH q.1), if_neg bS, r2.1 t ht, if_pos bh]
          · have bLH : ¬ bq (Lm there awake grp &&& hold) t = true := by rw [bq_and]; intro q; simp only [Bool.and_eq_true] at q; exact bh q.2
            rw [if_neg bh, if_neg (fun q => bLH q.1), r2.1 t ht, if_neg bh]
      · refine ⟨(r2.2.1 t ht hb).1, ?_⟩
        rw [d2 t, shift_eq _ _ _ _ t (by omega)]
        obtain ⟨mv, hmv, ev⟩ := hv t ht hb
        by_cases b : bq m t = true
        · rw [if_pos ⟨ht, b⟩]
          obtain ⟨d, hd, ed⟩ := dw_ok (seeds t) (N := 2) (by omega) (by omega)
          exact ⟨d, by omega, ed⟩
        · rw [if_neg (fun (q : t < n ∧ _) => b q.2)]
          split
          · exact ⟨mv + 1, by omega, by rw [ev]; exact sh_p1 mv (by omega)⟩
          · exact ⟨mv, by omega, ev⟩
    · repeat rw [if_neg c2]
      have cc : call + (-1) = -1 ∨ ∃ m, m ≤ T + 1 ∧ call + (-1) = nI m := by
        by_cases z0 : mc = 0
        · left; rw [e, z0]; decide
        · right; exact ⟨mc - 1, by omega, nn_m1 e (by omega)⟩
      have dec3 : ∀ hold' : Int64, ∀ t, t < n → bq hold t = true → (bq hold' t = true) → ¬ nI t = LO → LL (300 + 6 * t + 3) = lpF (b_X0_shift_3 hold' (Lm there awake grp) (-1)) 40 0 vals t ∧ ∃ mv, mv ≤ T + 1 ∧ lpF (b_X0_shift_3 hold' (Lm there awake grp) (-1)) 40 0 vals t = nI mv := fun hold' t ht bh bh' nl => by
        rw [B1 t ht 3 (by omega), at0 t ht, shift_eq _ _ _ _ t (by omega)]
        obtain ⟨mv, hmv, ev⟩ := hv t ht bh
        by_cases bl : bq (Lm there awake grp) t = true
        · have bLH : bq (Lm there awake grp &&& hold) t = true := by rw [bq_and, bl, bh]; rfl
          have bS : bq (Lm there awake grp &&& hold') t = true := by rw [bq_and, bl, bh']; rfl
          have es : shv (nI mv) (-1) = nI (mv - 1) := sh_m1 mv (by omega)
          rw [if_pos ⟨bLH, nl⟩, if_neg c2, if_pos bS, pk_us, ev, es]
          exact ⟨nI_m1 mv (by omega), mv - 1, by omega, rfl⟩
        · have bl' : bq (Lm there awake grp) t = false := by simpa using bl
          have bLH : ¬ bq (Lm there awake grp &&& hold) t = true := by rw [bq_and, bl']; exact fun q => by cases q
          have bS : ¬ bq (Lm there awake grp &&& hold') t = true := by rw [bq_and, bl']; exact fun q => by cases q
          rw [if_neg (fun q => bLH q.1), if_neg bS, r2.1 t ht, if_pos bh]
          exact ⟨rfl, mv, by omega, ev⟩
      have no3 : ∀ t, t < n → ¬ bq hold t = true → LL (300 + 6 * t + 3) = -1 := fun t ht bh => by
        have bLH : ¬ bq (Lm there awake grp &&& hold) t = true := by rw [bq_and]; intro q; simp only [Bool.and_eq_true] at q; exact bh q.2
        rw [B1 t ht 3 (by omega), at0 t ht, if_neg (fun q => bLH q.1), r2.1 t ht, if_neg bh]
      have s4 : ∀ t, t < n → LL (300 + 6 * t + 4) = A0 (300 + 6 * t + 4) := fun t ht => by
        rw [B1 t ht 4 (by omega), at0 t ht]
        split
        · rw [pk_un (by omega)]
        · rfl
      by_cases c1 : KK = 1
      · repeat rw [if_pos c1]
        obtain ⟨t0, ht0, hb0, el, ef, -⟩ := aone (by rw [c1])
        have b0LH := ((azq t0 (by omega)).mp hb0).2.1
        have bh0 : bq hold t0 = true := by rw [bq_and] at b0LH; simp only [Bool.and_eq_true] at b0LH; exact b0LH.2
        rw [el] at dec3 r7 ⊢
        rw [nI_clamp (by omega)]
        refine ⟨fN f, ?_⟩
        have hh : ∀ u, u < 64 → bq (hold &&& (((1 : Int64) <<< ((nI t0).toInt64 &&& 63)) ^^^ (-1))) u = if u = t0 then false else bq hold u := fun u hu => by
          rw [bq_and, bq_not _ hu, bq_set (by omega)]
          by_cases g : u = t0
          · rw [if_pos g, decide_eq_true g]; exact Bool.and_false _
          · rw [if_neg g, decide_eq_false g]; exact Bool.and_true _
        -- the state before it is found
        generalize hB : upd (upd LL 5 (LL 5 + (-1))) (300 + 6 * t0 + 3) (-1) = B
        have kB : ∀ j, j ≠ 5 ∧ j < 300 → B j = A0 j := fun j q => by rw [← hB, pk_un (by omega), pk_un q.1, b0 j q.2]
        have kb : ∀ t, t < n → ∀ i, i < 3 ∨ i = 5 ∨ i = 4 → B (300 + 6 * t + i) = A0 (300 + 6 * t + i) := fun t ht i hi => by
          rw [← hB, pk_un (by omega), pk_un (by omega)]
          rcases hi with g | g | g
          · exact bk t ht i (Or.inl g)
          · exact bk t ht i (Or.inr g)
          · subst g; exact s4 t ht
        have B3 : ∀ t, t < n → B (300 + 6 * t + 3) = if t = t0 then -1 else LL (300 + 6 * t + 3) := fun t ht => by
          rw [← hB]
          by_cases g : t = t0
          · rw [if_pos g, g, pk_us]
          · rw [if_neg g, pk_un (by omega), pk_un (by omega)]
        have B5 : B 5 = call + (-1) := by rw [← hB, pk_un (by omega), pk_us, L5]
        have yB : RelY B f ft fs qs' als' cs' ps := r6.cong (kB _ (by omega)) (kB _ (by omega)) (kB _ (by omega)) (kB _ (by omega)) (kB _ (by omega)) (fun i _ => kB _ (by omega))
        have TB : RelT B w n kinds names seeds ones ofk sz there awake grp gm gb := r1.cong (kB _ (by omega)) (fun t ht => ⟨kb t ht 0 (by omega), kb t ht 1 (by omega), kb t ht 2 (by omega), kb t ht 4 (by omega)⟩) rfl rfl (fun _ _ => rfl)
        have cf : ∀ j, j ≠ 15 ∧ (j < 100 ∨ 299 < j) → u_X9_finds_a B f (nI t0) j = B j := fun j q => fr_finds yB.1 yB.2.1 q
        have yF := yB.found (nI t0)
        have TF : RelT (u_X9_finds_a B f (nI t0)) w n kinds names seeds ones ofk sz there awake grp gm gb := TB.cong (cf _ (by omega)) (fun t ht => ⟨cf _ (by omega), cf _ (by omega), cf _ (by omega), cf _ (by omega)⟩) rfl rfl (fun _ _ => rfl)
        have cs : ∀ j, j ≠ 300 + 6 * t0 + 2 → u_X9_sleeps_a (u_X9_finds_a B f (nI t0)) t0 j = u_X9_finds_a B f (nI t0) j := fun j q => fr_X9_sleeps q
        have csB : ∀ j, (j ≠ 15 ∧ (j < 100 ∨ 299 < j)) ∧ j ≠ 300 + 6 * t0 + 2 → u_X9_sleeps_a (u_X9_finds_a B f (nI t0)) t0 j = B j := fun j q => by rw [cs j q.2, cf j q.1]
        have csA : ∀ j, (j ≠ 15 ∧ j < 100 ∧ j ≠ 5) → u_X9_sleeps_a (u_X9_finds_a B f (nI t0)) t0 j = A0 j := fun j q => by rw [csB j (by omega), kB j (by omega)]
        refine ⟨rel_tire TF ht0, ⟨fun t ht => ?_, fun t ht hb => ?_, fun t h1 h2 => ?_, by rw [csB _ (by omega)]; exact B5, cc⟩, r3.cong (csA _ (by omega)) (csA _ (by omega)) (csA _ (by omega)) (csA _ (by omega)) (fun t ht => by rw [csB _ (by omega)]; exact kb t ht 5 (by omega)), r4.cong (csA _ (by omega)) (csA _ (by omega)) rfl, r5.cong (csA _ (by omega)) (fun i _ => csA _ (by omega)) (fun _ _ => rfl), yF.cong (cs _ (by omega)) (cs _ (by omega)) (cs _ (by omega)) (cs _ (by omega)) (cs _ (by omega)) (fun i _ => cs _ (by omega)), r7.cong (csA _ (by omega)) (csA _ (by omega))⟩
        · rw [csB _ (by omega), B3 t ht, hh t (by omega)]
          by_cases g : t = t0
          · rw [if_pos g, if_pos g, if_neg (by decide)]
          · rw [if_neg g, if_neg g]
            by_cases bh : bq hold t = true
            · rw [if_pos bh]
              exact (dec3 _ t ht bh (by rw [hh t (by omega), if_neg g]; exact bh) (fun q => g ((nI_eq (by omega) (by omega)).mp q))).1
            · rw [if_neg bh]; exact no3 t ht bh
        · rw [hh t (by omega)] at hb
          by_cases g : t = t0
          · rw [if_pos g] at hb; cases hb
          · rw [if_neg g] at hb
            exact ⟨(r2.2.1 t ht hb).1, (dec3 _ t ht hb (by rw [hh t (by omega), if_neg g]; exact hb) (fun q => g ((nI_eq (by omega) (by omega)).mp q))).2⟩
        · rw [hh t h2, if_neg (by omega)]; exact r2.2.2.1 t h1 h2
      · repeat rw [if_neg c1]
        have lo : LO = -1 := anone c1
        refine ⟨f, ?_⟩
        have nl : ∀ t, t < n → ¬ nI t = LO := fun t ht => by rw [lo]; exact m1_ne (by omega)
        have k : ∀ j, j ≠ 5 ∧ j < 300 → upd LL 5 (LL 5 + (-1)) j = A0 j := fun j q => by rw [pk_un q.1, b0 j q.2]
        have kb : ∀ t, t < n → ∀ i, i < 6 → upd LL 5 (LL 5 + (-1)) (300 + 6 * t + i) = LL (300 + 6 * t + i) := fun t ht i hi => pk_un (by omega)
        refine ⟨r1.cong (k 0 (by omega)) (fun t ht => ⟨by rw [kb t ht 0 (by omega), bk t ht 0 (by omega)], by rw [kb t ht 1 (by omega), bk t ht 1 (by omega)], by rw [kb t ht 2 (by omega), bk t ht 2 (by omega)], by rw [kb t ht 4 (by omega), s4 t ht]⟩) rfl rfl (fun _ _ => rfl), ⟨fun t ht => ?_, fun t ht hb => ⟨(r2.2.1 t ht hb).1, (dec3 _ t ht hb hb (nl t ht)).2⟩, r2.2.2.1, by rw [pk_us, L5], cc⟩, r3.cong (k _ (by omega)) (k _ (by omega)) (k _ (by omega)) (k _ (by omega)) (fun t ht => by rw [kb t ht 5 (by omega), bk t ht 5 (by omega)]), r4.cong (k _ (by omega)) (k _ (by omega)) rfl, r5.cong (k _ (by omega)) (fun i _ => k _ (by omega)) (fun _ _ => rfl), r6.cong (k _ (by omega)) (k _ (by omega)) (k _ (by omega)) (k _ (by omega)) (k _ (by omega)) (fun i _ => k _ (by omega)), r7.cong (k _ (by omega)) (k _ (by omega))⟩
        rw [kb t ht 3 (by omega)]
        by_cases bh : bq hold t = true
        · rw [if_pos bh]; exact (dec3 _ t ht bh bh (nl t ht)).1
        · rw [if_neg bh]; exact no3 t ht bh
