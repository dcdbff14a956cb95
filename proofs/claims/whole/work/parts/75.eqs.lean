theorem RelF.counted {a : Nat → Int32} {n : Nat} {fio : Int64} {fqu fal fco fgu : Int32} (h : RelF a n fio fqu fal fco fgu) {k : Nat} (hk : k ≤ 2) : RelF (upd a (7 + k) (a (7 + k) + 1)) n fio (u_X2_note_fqu fqu (nI k)) (u_X2_note_fal fal (nI k)) (u_X2_note_fco fco (nI k)) fgu := by
  obtain ⟨q1, q2, q5, q6, q7, q8⟩ := h
  unfold u_X2_note_fqu u_X2_note_fal u_X2_note_fco
  refine ⟨fun t ht => by rw [pk_un (by omega)]; exact q1 t ht, q2, ?_, ?_, ?_, by rw [pk_un (by omega)]; exact q8⟩
  · by_cases c : k = 0
    · subst c; rw [pk_us, if_pos (show nI 0 = 0 from rfl), q5]
    · rw [pk_un (by omega), if_neg (nI_ne0 (by omega) (by omega))]; exact q5
  · by_cases c : k = 0
    · subst c; rw [pk_un (by omega), if_pos (show nI 0 = 0 from rfl)]; exact q6
    · rw [if_neg (nI_ne0 (by omega) (by omega))]
      by_cases c1 : k = 1
      · subst c1; rw [pk_us, if_pos (show nI 1 = 1 from rfl), q6]
      · rw [pk_un (by omega), if_neg (nn_ne (y := 1) (b := 1) rfl rfl c1 (by omega) (by decide))]; exact q6
  · by_cases c : k = 0
    · subst c; rw [pk_un (by omega), if_pos (show nI 0 = 0 from rfl)]; exact q7
    · rw [if_neg (nI_ne0 (by omega) (by omega))]
      by_cases c1 : k = 1
      · subst c1; rw [pk_un (by omega), if_pos (show nI 1 = 1 from rfl)]; exact q7
      · have c2 : k = 2 := by omega
        subst c2
        rw [pk_us, if_neg (nn_ne (y := 1) (b := 1) rfl rfl (by decide) (by decide) (by decide)), q7]
theorem lpF_sim {α β : Type} {body1 : Nat → α → α} {body2 : Nat → β → β} {N : Nat} (R : Nat → α → β → Prop) (hb : ∀ k s t, k < N → R k s t → R (k + 1) (body1 k s) (body2 k t)) : ∀ (n k : Nat) (s : α) (t : β), k + n ≤ N → R k s t → R (k + n) (lpF body1 n k s) (lpF body2 n k t)
  | 0, _, _, _, _, r => r
  | n + 1, k, s, t, hk, r => by
    have := lpF_sim R hb n (k + 1) _ _ (by omega) (hb k s t (by omega) r)
    rw [show k + 1 + n = k + (n + 1) by omega] at this
    exact this

theorem frm1 {T : Nat} {a : Nat → Int32} {w : Nat → Int64} {n f z : Nat} {kinds : Nat → Int32} {names : Nat → Int64} {seeds : Nat → Int32} {ones : Nat → Int64} {ofk : Nat → Int64} {sz : Int32} {there : Int64} {awake : Int64} {grp : Int64} {gm : Int64} {gb : Int64} {lf : Int32} {ir : Int32} {ln : Int64} {rows : Nat → Int64} {lens : Nat → Int32} {psz : Int32} {vals : Nat → Int32} {hold : Int64} {call : Int32} {fio : Int64} {fqu : Int32} {fal : Int32} {fco : Int32} {fgu : Int32} {ft : Nat → Int32} {fs : Int32} {qs : Int32} {als : Int32} {cs : Int32} {ps : Int32} {wire : Int32} {alo : Int32} (h : Rel T a w n f z kinds names seeds ones ofk sz there awake grp gm gb lf ir ln rows lens psz vals hold call fio fqu fal fco fgu ft fs qs als cs ps wire alo) {sp : Nat → Int32} {m : Int64} (hs : SpR n sp m) : nI (r_X9_counted a sp n) = (nI (r_X8_kindOfSlot (r_X8_audibleOf ofk wire m))) ∧ u_X9_slot_lone a sp n = u_X8_hearSlot_alo ofk wire m ∧ Rel T (upd (u_X9_counted_a a sp n) (7 + r_X9_counted a sp n) ((u_X9_counted_a a sp n) (7 + r_X9_counted a sp n) + 1)) w n f z kinds names seeds ones ofk sz there awake grp gm gb lf ir ln rows lens psz vals hold call fio (u_X2_note_fqu fqu (nI (r_X8_kindOfSlot (r_X8_audibleOf ofk wire m)))) (u_X2_note_fal fal (nI (r_X8_kindOfSlot (r_X8_audibleOf ofk wire m)))) (u_X2_note_fco fco (nI (r_X8_kindOfSlot (r_X8_audibleOf ofk wire m)))) fgu ft fs (u_X7_addSlot_qs qs (nI (r_X8_kindOfSlot (r_X8_audibleOf ofk wire m)))) (u_X7_addSlot_als als (nI (r_X8_kindOfSlot (r_X8_audibleOf ofk wire m)))) (u_X7_addSlot_cs cs (nI (r_X8_kindOfSlot (r_X8_audibleOf ofk wire m)))) ps wire alo := by
  obtain ⟨e1, e2⟩ := slot_eq hs h.1.2.1 (weak_iff h.1) h.2.2.2.2.2.2.1
  have e3 : r_X9_counted a sp n = r_X8_kindOfSlot (r_X8_audibleOf ofk wire m) := e1
  have hle := le_X9_slot a sp n
  have e4 : r_X9_counted a sp n = r_X9_slot a sp n := rfl
  refine ⟨by rw [e3], e2, ?_⟩
  obtain ⟨r1, r2, r3, r4, r5, r6, r7⟩ := h
  rw [← e3, e4]
  have c : ∀ j, j < 7 ∨ 13 < j ∨ j = 10 → upd (u_X9_counted_a a sp n) (7 + r_X9_slot a sp n) ((u_X9_counted_a a sp n) (7 + r_X9_slot a sp n) + 1) j = a j := fun j q => by rw [pk_un (by omega), fr_X9_counted (by omega)]
  refine ⟨r1.cong (c _ (by omega)) (fun t _ => ⟨c _ (by omega), c _ (by omega), c _ (by omega), c _ (by omega)⟩) rfl rfl (fun _ _ => rfl), r2.cong (Nat.le_refl _) (c _ (by omega)) (fun t _ => c _ (by omega)), ?_, r4.cong (c _ (by omega)) (c _ (by omega)) rfl, r5.cong (c _ (by omega)) (fun i _ => c _ (by omega)) (fun _ _ => rfl), ?_, r7.cong (c _ (by omega)) (c _ (by omega))⟩
  · refine RelF.counted (r3.cong ?_ ?_ ?_ ?_ (fun t ht => ?_)) hle <;> exact fr_X9_counted (by omega)
  · exact (r6.counted hle).cong (pk_un (by omega)) (pk_un (by omega)) (pk_un (by omega)) (pk_un (by omega)) (pk_un (by omega)) (fun i _ => pk_un (by omega))
theorem frm2 {T : Nat} {a : Nat → Int32} {w : Nat → Int64} {n f z : Nat} {kinds : Nat → Int32} {names : Nat → Int64} {seeds : Nat → Int32} {ones : Nat → Int64} {ofk : Nat → Int64} {sz : Int32} {there : Int64} {awake : Int64} {grp : Int64} {gm : Int64} {gb : Int64} {lf : Int32} {ir : Int32} {ln : Int64} {rows : Nat → Int64} {lens : Nat → Int32} {psz : Int32} {vals : Nat → Int32} {hold : Int64} {call : Int32} {fio : Int64} {fqu : Int32} {fal : Int32} {fco : Int32} {fgu : Int32} {ft : Nat → Int32} {fs : Int32} {qs : Int32} {als : Int32} {cs : Int32} {ps : Int32} {wire : Int32} {alo : Int32} (h : Rel T a w n f z kinds names seeds ones ofk sz there awake grp gm gb lf ir ln rows lens psz vals hold call fio fqu fal fco fgu ft fs qs als cs ps wire alo) {t : Nat} (ht : t < n) {aud : Int64} (ha : ∀ u, u < 64 → bq aud u = decide (u = t)) : Rel T (u_X9_sleeps_a (upd (u_X9_finds_a a f (nI t)) (300 + 6 * t + 5) 1) t) w n (fN f) z kinds names seeds ones ofk sz there (u_X6_tire_awake ofk awake (nI t)) grp gm gb lf ir ln rows lens psz vals hold call (fio ||| aud) fqu fal fco fgu (u_X7_addFound_ft ft fs f (nI t)) (u_X7_addFound_fs fs f) qs als cs ps wire alo := by
  have hn := h.1.2.1
  obtain ⟨r1, r2, r3, r4, r5, r6, r7⟩ := h
  have k1 : ∀ j, (j ≠ 15 ∧ (j < 100 ∨ 299 < j)) ∧ j ≠ 300 + 6 * t + 5 → upd (u_X9_finds_a a f (nI t)) (300 + 6 * t + 5) 1 j = a j := fun j q => by rw [pk_un q.2, fr_finds r6.1 r6.2.1 q.1]
  have k : ∀ j, (j ≠ 15 ∧ (j < 100 ∨ 299 < j)) ∧ j ≠ 300 + 6 * t + 5 ∧ j ≠ 300 + 6 * t + 2 → u_X9_sleeps_a (upd (u_X9_finds_a a f (nI t)) (300 + 6 * t + 5) 1) t j = a j := fun j q => by rw [fr_X9_sleeps q.2.2, k1 j ⟨q.1, q.2.1⟩]
  have t1 : RelT (upd (u_X9_finds_a a f (nI t)) (300 + 6 * t + 5) 1) w n kinds names seeds ones ofk sz there awake grp gm gb := r1.cong (k1 _ (by omega)) (fun u _ => ⟨k1 _ (by omega), k1 _ (by omega), k1 _ (by omega), k1 _ (by omega)⟩) rfl rfl (fun _ _ => rfl)
  have y := r6.found (nI t)
  have ky : ∀ j, j < 300 → u_X9_sleeps_a (upd (u_X9_finds_a a f (nI t)) (300 + 6 * t + 5) 1) t j = u_X9_finds_a a f (nI t) j := fun j q => by rw [fr_X9_sleeps (by omega), pk_un (by omega)]
  refine ⟨rel_tire t1 ht, r2.cong (Nat.le_refl _) (k _ (by omega)) (fun u _ => k _ (by omega)), ?_, r4.cong (k _ (by omega)) (k _ (by omega)) rfl, r5.cong (k _ (by omega)) (fun i _ => k _ (by omega)) (fun _ _ => rfl), y.cong (ky _ (by omega)) (ky _ (by omega)) (ky _ (by omega)) (ky _ (by omega)) (ky _ (by omega)) (fun i _ => ky _ (by omega)), r7.cong (k _ (by omega)) (k _ (by omega))⟩
  obtain ⟨q1, q2, q3, q4, q5, q6⟩ := r3
  refine ⟨fun u hu => ?_, fun u h1 h2 => ?_, by rw [k _ (by omega)]; exact q3, by rw [k _ (by omega)]; exact q4, by rw [k _ (by omega)]; exact q5, by rw [k _ (by omega)]; exact q6⟩
  · rw [bq_or, ha u (by omega)]
    by_cases c : u = t
    · subst c
      rw [fr_X9_sleeps (by omega), pk_us, decide_eq_true rfl, Bool.or_true]; rfl
    · rw [decide_eq_false c, Bool.or_false, k _ (by omega)]; exact q1 u hu
  · rw [bq_or, ha u h2, decide_eq_false (show ¬ u = t by omega), Bool.or_false]; exact q2 u h1 h2

theorem len64 (len : Int32) : len < 1 ∨ (¬ len < 1 ∧ ¬ len ≤ 64) ∨ (¬ len < 1 ∧ len ≤ 64 ∧ ∃ L, 0 < L ∧ L ≤ 64 ∧ len = nI L) := by
  by_cases c1 : len < 1
  · exact Or.inl c1
  · by_cases c2 : len ≤ 64
    · have c0 : ¬ len < 0 := fun q => c1 (Int32.lt_trans q (by decide))
      obtain ⟨e1, e2⟩ := rng_nat' (N := 64) rfl (by decide) c0 c2
      refine Or.inr (Or.inr ⟨c1, c2, len.toNatClampNeg, ?_, e2, e1⟩)
      by_cases z : len.toNatClampNeg = 0
      · rw [z] at e1; rw [e1] at c1; exact absurd (show nI 0 < 1 by decide) c1
      · omega
    · exact Or.inr (Or.inl ⟨c1, c2⟩)

theorem frame_loop {T : Nat} {a : Nat → Int32} {w : Nat → Int64} {n f z : Nat} {kinds : Nat → Int32} {names : Nat → Int64} {seeds : Nat → Int32} {ones : Nat → Int64} {ofk : Nat → Int64} {sz : Int32} {there : Int64} {awake : Int64} {grp : Int64} {gm : Int64} {gb : Int64} {lf : Int32} {ir : Int32} {ln : Int64} {rows : Nat → Int64} {lens : Nat → Int32} {psz : Int32} {vals : Nat → Int32} {hold : Int64} {call : Int32} {fio : Int64} {fqu : Int32} {fal : Int32} {fco : Int32} {fgu : Int32} {ft : Nat → Int32} {fs : Int32} {qs : Int32} {als : Int32} {cs : Int32} {ps : Int32} {wire : Int32} {alo : Int32} (sl : Nat → Int64) (dr sp : Nat → Int32) (lone : Int32) {L : Nat} (h : Rel T a w n f z kinds names seeds ones ofk sz there awake grp gm gb lf ir ln rows lens psz vals hold call fio fqu fal fco fgu ft fs qs als cs ps wire alo) (h1 : 0 < L) (h2 : L ≤ 64) : (fun s (σ : Int32 × (Nat → Int32) × (Nat → Int32) × Int32) (τ : Int64 × Int32 × Int32 × Int32 × (Nat → Int32) × Int32 × Int32 × Int32 × Int32 × Int64) => ∃ f', Rel T σ.2.1 w n f' z kinds names (u_X8_drawSlots_seeds sl seeds ofk sz there awake grp fio n (nI L)) ones ofk sz there τ.2.2.2.2.2.2.2.2.2 grp gm gb lf ir ln rows lens psz vals hold call τ.1 τ.2.1 τ.2.2.1 τ.2.2.2.1 fgu τ.2.2.2.2.1 τ.2.2.2.2.2.1 τ.2.2.2.2.2.2.1 τ.2.2.2.2.2.2.2.1 τ.2.2.2.2.2.2.2.2.1 ps wire alo ∧ σ.1 = τ.2.2.1 ∧ ∃ c, c ≤ s ∧ τ.2.2.2.1 = nI c) L (lpF (b_X9_frame_101 n ((lpF (b_X9_frame_15 w (nI L)) n 0 (a, dr)).2)) L 0 (0, (lpF b_X9_frame_76 3 0 ((lpF (b_X9_frame_15 w (nI L)) n 0 (a, dr)).1)), sp, lone)) (lpF (b_X8_frame_30 sl seeds ofk sz there awake grp fio wire n (nI L)) L 0 (fio, 0, 0, 0, ft, fs, qs, als, cs, awake)) := by
  have hn := h.1.2.1
  obtain ⟨m1, m2, m3⟩ := frame15_eq h.1 h.2.2.1 (nI L) dr
  obtain ⟨c1, c2⟩ := drawS_eq h.1 fio h1 h2 sl
  have h0 : Rel T (lpF b_X9_frame_76 3 0 ((lpF (b_X9_frame_15 w (nI L)) n 0 (a, dr)).1)) w n f z kinds names (u_X8_drawSlots_seeds sl seeds ofk sz there awake grp fio n (nI L)) ones ofk sz there awake grp gm gb lf ir ln rows lens psz vals hold call fio 0 0 0 fgu ft fs qs als cs ps wire alo := by
    obtain ⟨r1, r2, r3, r4, r5, r6, r7⟩ := h
    have e76 : ∀ A : Nat → Int32, lpF b_X9_frame_76 3 0 A = upd (upd (upd A (7 + 0) 0) (7 + 1) 0) (7 + 2) 0 := fun A => rfl
    have k : ∀ j, (j < 7 ∨ 9 < j) ∧ (∀ t, j ≠ 300 + 6 * t + 4) → lpF b_X9_frame_76 3 0 ((lpF (b_X9_frame_15 w (nI L)) n 0 (a, dr)).1) j = a j := fun j q => by
      rw [e76, pk_un (by omega), pk_un (by omega), pk_un (by omega)]
      exact m2 j (fun t _ => q.2 t)
    refine ⟨r1.seed (k _ ⟨by omega, fun _ => by omega⟩) (fun t ht => ⟨k _ ⟨by omega, fun _ => by omega⟩, k _ ⟨by omega, fun _ => by omega⟩, k _ ⟨by omega, fun _ => by omega⟩, ?_⟩), r2.cong (Nat.le_refl _) (k _ ⟨by omega, fun _ => by omega⟩) (fun t _ => k _ ⟨by omega, fun _ => by omega⟩), ?_, r4.cong (k _ ⟨by omega, fun _ => by omega⟩) (k _ ⟨by omega, fun _ => by omega⟩) rfl, r5.cong (k _ ⟨by omega, fun _ => by omega⟩) (fun i _ => k _ ⟨by omega, fun _ => by omega⟩) (fun _ _ => rfl), r6.cong (k _ ⟨by omega, fun _ => by omega⟩) (k _ ⟨by omega, fun _ => by omega⟩) (k _ ⟨by omega, fun _ => by omega⟩) (k _ ⟨by omega, fun _ => by omega⟩) (k _ ⟨by omega, fun _ => by omega⟩) (fun i _ => k _ ⟨by omega, fun _ => by omega⟩), r7.cong (k _ ⟨by omega, fun _ => by omega⟩) (k _ ⟨by omega, fun _ => by omega⟩)⟩
    · rw [e76, pk_un (by omega), pk_un (by omega), pk_un (by omega), m3 t ht, c1 t ht]
    · obtain ⟨q1, q2, q3, q4, q5, q6⟩ := r3
      exact ⟨fun t ht => by rw [k _ ⟨by omega, fun _ => by omega⟩]; exact q1 t ht, q2, rfl, rfl, rfl, by rw [k _ ⟨by omega, fun _ => by omega⟩]; exact q6⟩
  have key := lpF_sim (body1 := b_X9_frame_101 n ((lpF (b_X9_frame_15 w (nI L)) n 0 (a, dr)).2)) (body2 := b_X8_frame_30 sl seeds ofk sz there awake grp fio wire n (nI L)) (N := L) (fun s (σ : Int32 × (Nat → Int32) × (Nat → Int32) × Int32) (τ : Int64 × Int32 × Int32 × Int32 × (Nat → Int32) × Int32 × Int32 × Int32 × Int32 × Int64) => ∃ f', Rel T σ.2.1 w n f' z kinds names (u_X8_drawSlots_seeds sl seeds ofk sz there awake grp fio n (nI L)) ones ofk sz there τ.2.2.2.2.2.2.2.2.2 grp gm gb lf ir ln rows lens psz vals hold call τ.1 τ.2.1 τ.2.2.1 τ.2.2.2.1 fgu τ.2.2.2.2.1 τ.2.2.2.2.2.1 τ.2.2.2.2.2.2.1 τ.2.2.2.2.2.2.2.1 τ.2.2.2.2.2.2.2.2.1 ps wire alo ∧ σ.1 = τ.2.2.1 ∧ ∃ c, c ≤ s ∧ τ.2.2.2.1 = nI c) (fun s σ τ hsL hR => by
    obtain ⟨f', hr, hc, c, hcs, hco⟩ := hR
    have hsp : SpR n (lpF (b_X9_frame_109 ((lpF (b_X9_frame_15 w (nI L)) n 0 (a, dr)).2) s) n 0 σ.2.2.1) ((u_X8_drawSlots_sl sl seeds ofk sz there awake grp fio n (nI L)) s) := by
      have key := lpF_fill (body := b_X9_frame_109 ((lpF (b_X9_frame_15 w (nI L)) n 0 (a, dr)).2) s) (g := fun k => if ((lpF (b_X9_frame_15 w (nI L)) n 0 (a, dr)).2) k = nI s then 1 else 0) (N := n) (fun k σ _ t => by
        unfold b_X9_frame_109
        split <;> exact upd_ite _ _ _ _) n 0 σ.2.2.1 (by omega)
      refine ⟨fun t ht => ?_, fun t q1 q2 => ?_⟩
      · rw [key t, if_pos (by omega), m1 t ht]
        have e := c2 s (by omega) t (by omega)
        by_cases b : bq (r_X6_slotted ofk there awake grp &&& (fio ^^^ (-1))) t = true
        · rw [if_pos b]
          by_cases d : dw (seeds t) (nI L) = nI s
          · rw [if_pos d, e.mpr ⟨ht, b, d⟩]; rfl
          · rw [if_neg d]
            cases g : bq ((u_X8_drawSlots_sl sl seeds ofk sz there awake grp fio n (nI L)) s) t with
            | false => rfl
            | true => exact absurd (e.mp g).2.2 d
        · rw [if_neg b, if_neg (fun q => m1_ne (t := s) (by omega) q.symm)]
          cases g : bq ((u_X8_drawSlots_sl sl seeds ofk sz there awake grp fio n (nI L)) s) t with
          | false => rfl
          | true => exact absurd (e.mp g).2.1 b
      · cases g : bq ((u_X8_drawSlots_sl sl seeds ofk sz there awake grp fio n (nI L)) s) t with
        | false => rfl
        | true => have := ((c2 s (by omega) t q2).mp g).1; omega
    obtain ⟨e1, e2, e3⟩ := frm1 hr hsp
    have e15 : σ.2.1 15 = nI f' := hr.2.2.2.2.2.1.1
    have hf' := hr.2.2.2.2.2.1.2.1
    have efs : τ.2.2.2.2.2.1 = nI f' := hr.2.2.2.2.2.1.2.2.1
    unfold b_X9_frame_101 b_X8_frame_30
    rw [e1, e15, efs, nI_clamp (by omega)]
    by_cases d1 : nI (r_X8_kindOfSlot (r_X8_audibleOf ofk wire ((u_X8_drawSlots_sl sl seeds ofk sz there awake grp fio n (nI L)) s))) = 1
    · obtain ⟨t, ht, hb, ea, ef, hd⟩ := alo_one hsp d1
      rw [if_pos d1, if_pos d1, e2, ea, ef, nI_clamp (by omega)]
      have e4 := frm2 e3 ht hd
      rw [efs] at e4
      refine ⟨fN f', e4, ?_, c, by omega, ?_⟩
      · show σ.1 + 1 = u_X2_note_fal τ.2.2.1 _
        unfold u_X2_note_fal
        rw [d1, if_neg (by decide), if_pos rfl, hc]
      · show u_X2_note_fco τ.2.2.2.1 _ = _
        unfold u_X2_note_fco
        rw [d1, if_neg (by decide), if_pos rfl, hco]
    · rw [if_neg d1, if_neg d1]
      rw [efs] at e3
      refine ⟨f', e3, ?_, ?_⟩
      · show σ.1 = u_X2_note_fal τ.2.2.1 _
        unfold u_X2_note_fal
        rw [if_neg d1, hc]
        split <;> rfl
      · show ∃ c, _ ∧ u_X2_note_fco τ.2.2.2.1 _ = _
        unfold u_X2_note_fco
        rw [if_neg d1, hco]
        split
        · exact ⟨c, by omega, rfl⟩
        · exact ⟨c + 1, by omega, nI_1 c⟩) L 0 (0, (lpF b_X9_frame_76 3 0 ((lpF (b_X9_frame_15 w (nI L)) n 0 (a, dr)).1)), sp, lone) (fio, 0, 0, 0, ft, fs, qs, als, cs, awake) (by omega) ⟨f, h0, rfl, 0, by omega, rfl⟩
  rw [Nat.zero_add] at key
  exact key

theorem eq_frame {T : Nat} {a : Nat → Int32} {w : Nat → Int64} {n f z : Nat} {kinds : Nat → Int32} {names : Nat → Int64} {seeds : Nat → Int32} {ones : Nat → Int64} {ofk : Nat → Int64} {sz : Int32} {there : Int64} {awake : Int64} {grp : Int64} {gm : Int64} {gb : Int64} {lf : Int32} {ir : Int32} {ln : Int64} {rows : Nat → Int64} {lens : Nat → Int32} {psz : Int32} {vals : Nat → Int32} {hold : Int64} {call : Int32} {fio : Int64} {fqu : Int32} {fal : Int32} {fco : Int32} {fgu : Int32} {ft : Nat → Int32} {fs : Int32} {qs : Int32} {als : Int32} {cs : Int32} {ps : Int32} {wire : Int32} {alo : Int32} (sl : Nat → Int64) (dr sp : Nat → Int32) (lone len : Int32) (h : Rel T a w n f z kinds names seeds ones ofk sz there awake grp gm gb lf ir ln rows lens psz vals hold call fio fqu fal fco fgu ft fs qs als cs ps wire alo)  : r_X8_frame sl seeds ofk sz there awake grp fio ft fs qs als cs wire n len = r_X9_frame a w sp lone dr n len ∧ ∃ f', Rel (T + 1) (u_X9_frame_a a w sp lone dr n len) w n f' z kinds names (u_X8_frame_seeds sl seeds ofk sz there awake grp fio n len) ones ofk sz there (u_X8_frame_awake sl seeds ofk sz there awake grp fio ft fs qs als cs wire n len) grp gm gb lf ir ln rows lens psz vals hold call (u_X8_frame_fio sl seeds ofk sz there awake grp fio ft fs qs als cs wire n len) (u_X8_frame_fqu sl seeds ofk sz there awake grp fio fqu ft fs qs als cs wire n len) (u_X8_frame_fal sl seeds ofk sz there awake grp fio fal ft fs qs als cs wire n len) (u_X8_frame_fco sl seeds ofk sz there awake grp fio fco ft fs qs als cs wire n len) (u_X8_frame_fgu sl seeds ofk sz there awake grp fio fgu ft fs qs als cs wire n len) (u_X8_frame_ft sl seeds ofk sz there awake grp fio ft fs qs als cs wire n len) (u_X8_frame_fs sl seeds ofk sz there awake grp fio ft fs qs als cs wire n len) (u_X8_frame_qs sl seeds ofk sz there awake grp fio ft fs qs als cs wire n len) (u_X8_frame_als sl seeds ofk sz there awake grp fio ft fs qs als cs wire n len) (u_X8_frame_cs sl seeds ofk sz there awake grp fio ft fs qs als cs wire n len) ps wire alo := by
  unfold r_X8_frame r_X9_frame u_X9_frame_a u_X8_frame_seeds u_X8_frame_awake u_X8_frame_fio u_X8_frame_fqu u_X8_frame_fal u_X8_frame_fco u_X8_frame_fgu u_X8_frame_ft u_X8_frame_fs u_X8_frame_qs u_X8_frame_als u_X8_frame_cs
  rcases len64 len with c | ⟨c1, c2⟩ | ⟨c1, c2, L, h1, h2, e⟩
  · repeat rw [if_pos c]
    exact ⟨rfl, f, h.tick⟩
  · repeat rw [if_neg c1]
    repeat rw [if_neg c2]
    exact ⟨rfl, f, h.tick⟩
  · repeat rw [if_neg c1]
    repeat rw [if_pos c2]
    subst e
    rw [nI_clamp (by omega)]
    obtain ⟨f', hr, hc, c, hcl, hco⟩ := frame_loop sl dr sp lone h h1 h2
    generalize lpF (b_X9_frame_101 n ((lpF (b_X9_frame_15 w (nI L)) n 0 (a, dr)).2)) L 0 (0, (lpF b_X9_frame_76 3 0 ((lpF (b_X9_frame_15 w (nI L)) n 0 (a, dr)).1)), sp, lone) = W9 at *
    generalize lpF (b_X8_frame_30 sl seeds ofk sz there awake grp fio wire n (nI L)) L 0 (fio, 0, 0, 0, ft, fs, qs, als, cs, awake) = W8 at *
    refine ⟨hc.symm, f', ?_⟩
    have e9 : W9.2.1 9 = nI c := by rw [← hco]; exact hr.2.2.1.2.2.2.2.1
    have eg : (if 1 ≤ (239 * (W9.2.1 9)) / 100 then (if (239 * (W9.2.1 9)) / 100 ≤ 64 then (upd W9.2.1 10 ((239 * (W9.2.1 9)) / 100)) else (upd W9.2.1 10 64)) else (upd W9.2.1 10 1)) = upd W9.2.1 10 (u_X2_guessNext_fgu W8.2.2.2.1) := by
      rw [hco, guess_eq c (by omega), e9]
      split
      · split <;> rfl
      · rfl
    rw [eg]
    obtain ⟨r1, r2, r3, r4, r5, r6, r7⟩ := hr.tick
    have k : ∀ j, j ≠ 10 → upd W9.2.1 10 (u_X2_guessNext_fgu W8.2.2.2.1) j = W9.2.1 j := fun j q => pk_un q
    refine ⟨r1.cong (k _ (by omega)) (fun t _ => ⟨k _ (by omega), k _ (by omega), k _ (by omega), k _ (by omega)⟩) rfl rfl (fun _ _ => rfl), r2.cong (Nat.le_refl _) (k _ (by omega)) (fun t _ => k _ (by omega)), ?_, r4.cong (k _ (by omega)) (k _ (by omega)) rfl, r5.cong (k _ (by omega)) (fun i _ => k _ (by omega)) (fun _ _ => rfl), r6.cong (k _ (by omega)) (k _ (by omega)) (k _ (by omega)) (k _ (by omega)) (k _ (by omega)) (fun i _ => k _ (by omega)), r7.cong (k _ (by omega)) (k _ (by omega))⟩
    obtain ⟨q1, q2, q3, q4, q5, q6⟩ := r3
    exact ⟨fun t ht => by rw [k _ (by omega)]; exact q1 t ht, q2, by rw [k _ (by omega)]; exact q3, by rw [k _ (by omega)]; exact q4, by rw [k _ (by omega)]; exact q5, pk_us⟩
