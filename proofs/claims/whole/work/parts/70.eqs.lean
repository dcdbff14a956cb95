theorem allIn_sp {a : Nat → Int32} {w : Nat → Int64} {n : Nat} {kinds : Nat → Int32} {names : Nat → Int64} {seeds : Nat → Int32} {ones ofk : Nat → Int64} {sz : Int32} {there awake grp gm gb : Int64} (h : RelT a w n kinds names seeds ones ofk sz there awake grp gm gb) (inn : Nat → Int32) : SpR n (lpF (b_X9_allIn_2 a w) n 0 inn) (Lm there awake grp) := by
  have key := lpF_fill (body := b_X9_allIn_2 a w) (g := fun k => r_X9_listens a w k) (N := n) (fun k σ _ t => rfl) n 0 inn (by omega)
  refine ⟨fun t ht => ?_, fun t h1 h2 => h.Lbig h1 h2⟩
  rw [key t, if_pos (by omega)]; exact h.lis ht
theorem way_sub {ones : Nat → Int64} {s : Int64} {k : Nat} {b : Bool} {t : Nat} (hb : bq (wayS ones s k b) t = true) : bq s t = true := by
  unfold wayS at hb
  split at hb <;> (rw [bq_and] at hb; simp only [Bool.and_eq_true] at hb; exact hb.1)
theorem way_cover {ones : Nat → Int64} {s : Int64} {k : Nat} (h1 : wayS ones s k true = 0) (h0 : wayS ones s k false = 0) : s = 0 := by
  refine bq_zero.mpr (fun t ht => ?_)
  have e1 := bq_zero.mp h1 t ht
  have e0 := bq_zero.mp h0 t ht
  unfold wayS at e1 e0
  rw [if_pos rfl, bq_and] at e1
  rw [if_neg (by decide), bq_and, bq_not _ ht, bq_and] at e0
  revert e1 e0
  cases bq s t <;> cases bq (ones k) t <;> decide
theorem goesOn_sp {a : Nat → Int32} {w : Nat → Int64} {n : Nat} {kinds : Nat → Int32} {names : Nat → Int64} {seeds : Nat → Int32} {ones ofk : Nat → Int64} {sz : Int32} {there awake grp gm gb : Int64} (h : RelT a w n kinds names seeds ones ofk sz there awake grp gm gb) {σ : Nat → Int32} {m : Int64} (hs : SpR n σ m) {k : Nat} (hk : k < 64) (b : Bool) : SpR n (lpF (b_X9_goesOn_2 w (nI k) (b01 b)) n 0 σ) (wayS ones m k b) := by
  have hn := h.2.1
  have key := lpF_inv (body := b_X9_goesOn_2 w (nI k) (b01 b)) (fun j σ' => j ≤ n → ∀ t, σ' t = if t < j then b01 (bq (wayS ones m k b) t) else σ t) n 0 σ (fun _ t => by rw [if_neg (by omega)]) (fun j σ' _ hj hi hj1 t => by
    have i := hi (by omega)
    have hw := wayS_bq h hs.2 hk b (t := j) (by omega)
    rw [if_pos (show j < n by omega)] at hw
    have ew : w (84 + j) = names j := (h.2.2.2.1 j (by omega)).2.2.2.2.2.1
    have one : b_X9_goesOn_2 w (nI k) (b01 b) j σ' = upd σ' j (b01 (bq (wayS ones m k b) j)) := by
      have ij : σ' j = b01 (bq m j) := by rw [i j, if_neg (Nat.lt_irrefl j)]; exact hs.1 j (by omega)
      unfold b_X9_goesOn_2
      rw [ij, bitOf_bq _ hk, ew, hw, b01_ite]
      cases bq m j with
      | false => rw [if_pos (by decide)]; rfl
      | true =>
        rw [if_neg (by decide)]
        cases bq (names j) (63 - k) <;> cases b <;> rfl
    rw [one]
    by_cases c : t = j
    · subst c; rw [pk_us, if_pos (by omega)]
    · rw [pk_un c, i t]
      by_cases d : t < j
      · rw [if_pos d, if_pos (by omega)]
      · rw [if_neg d, if_neg (by omega)])
  rw [Nat.zero_add] at key
  refine ⟨fun t ht => ?_, fun t h1 h2 => ?_⟩
  · rw [key (Nat.le_refl n) t, if_pos ht]
  · cases e : bq (wayS ones m k b) t with
    | false => rfl
    | true => have := way_sub e; rw [hs.2 t h1 h2] at this; cases this
theorem tellers_cq {a : Nat → Int32} {w : Nat → Int64} {n : Nat} {kinds : Nat → Int32} {names : Nat → Int64} {seeds : Nat → Int32} {ones ofk : Nat → Int64} {sz : Int32} {there awake grp gm gb : Int64} (h : RelT a w n kinds names seeds ones ofk sz there awake grp gm gb) {σ : Nat → Int32} {m : Int64} (hs : SpR n σ m) {k : Nat} (hk : k < 64) (b : Bool) : r_X9_tellers w σ n (nI k) (b01 b) = nI (cq (wayS ones m k b) n) := by
  have hn := h.2.1
  have key := lpF_inv (body := b_X9_tellers_5 w σ (nI k) (b01 b)) (fun j s => j ≤ n → s = nI (cq (wayS ones m k b) j)) n 0 0 (fun _ => rfl) (fun j s _ hj hi hj1 => by
    have hw := wayS_bq h hs.2 hk b (t := j) (by omega)
    rw [if_pos (show j < n by omega)] at hw
    have ew : w (84 + j) = names j := (h.2.2.2.1 j (by omega)).2.2.2.2.2.1
    have ec : cq (wayS ones m k b) (j + 1) = cq (wayS ones m k b) j + (if bq (wayS ones m k b) j = true then 1 else 0) := rfl
    unfold b_X9_tellers_5
    rw [ec, hi (by omega), hs.1 j (by omega), bitOf_bq _ hk, ew, hw, b01_ite]
    cases bq m j with
    | false => rw [if_pos (by decide)]; exact nI_add _ 0
    | true =>
      rw [if_neg (by decide)]
      cases bq (names j) (63 - k) <;> cases b
      · exact nI_1 _
      · exact nI_add _ 0
      · exact nI_add _ 0
      · exact nI_1 _)
  rw [Nat.zero_add] at key
  exact key (Nat.le_refl n)
theorem sp_zero {n : Nat} {σ : Nat → Int32} {m : Int64} (hs : SpR n σ m) (hn : n ≤ 40) : m = 0 ↔ cq m n = 0 := by
  rw [cq_zero, bq_zero]
  constructor
  · exact fun q t ht => q t (by omega)
  · intro q t ht
    by_cases c : t < n
    · exact q t c
    · exact hs.2 t (by omega) ht
theorem tellers_0 {a : Nat → Int32} {w : Nat → Int64} {n : Nat} {kinds : Nat → Int32} {names : Nat → Int64} {seeds : Nat → Int32} {ones ofk : Nat → Int64} {sz : Int32} {there awake grp gm gb : Int64} (h : RelT a w n kinds names seeds ones ofk sz there awake grp gm gb) {σ : Nat → Int32} {m : Int64} (hs : SpR n σ m) {k : Nat} (hk : k < 64) (b : Bool) : r_X9_tellers w σ n (nI k) (b01 b) ≤ 0 ↔ wayS ones m k b = 0 := by
  have hn := h.2.1
  rw [tellers_cq h hs hk b, sp_zero (goesOn_sp h hs hk b) hn]
  have := cq_le (wayS ones m k b) n
  constructor
  · intro q
    by_cases c : cq (wayS ones m k b) n = 0
    · exact c
    · exact absurd q (nn_nle (y := 0) (b := 0) rfl rfl (by omega) (by omega))
  · intro q; rw [q]; decide
/-- the model's one of those that are in -/
theorem oneIn_sp {n : Nat} {σ : Nat → Int32} {m : Int64} (hs : SpR n σ m) (hn : n ≤ 40) : (m = 0 ∧ lpF (b_X9_oneIn_4 σ) n 0 (-1) = -1) ∨ (¬ m = 0 ∧ ∃ t, t < n ∧ bq m t = true ∧ lpF (b_X9_oneIn_4 σ) n 0 (-1) = nI t) := by
  have key := lpF_inv (body := b_X9_oneIn_4 σ) (fun k s => k ≤ n → (cq m k = 0 ∧ s = -1) ∨ (∃ t, t < k ∧ bq m t = true ∧ s = nI t)) n 0 (-1) (fun _ => Or.inl ⟨rfl, rfl⟩) (fun j s _ hj hi hj1 => by
    unfold b_X9_oneIn_4
    rw [hs.1 j (by omega)]
    by_cases c : bq m j = true
    · rw [c, if_neg (by decide)]; exact Or.inr ⟨j, by omega, c, rfl⟩
    · have c' : bq m j = false := by simpa using c
      rw [c', if_pos (by decide)]
      rcases hi (by omega) with ⟨q1, q2⟩ | ⟨t, q1, q2, q3⟩
      · refine Or.inl ⟨?_, q2⟩
        show cq m j + (if bq m j = true then 1 else 0) = 0
        rw [c', q1]; rfl
      · exact Or.inr ⟨t, by omega, q2, q3⟩)
  rw [Nat.zero_add] at key
  rcases key (Nat.le_refl n) with ⟨q1, q2⟩ | ⟨t, q1, q2, q3⟩
  · exact Or.inl ⟨(sp_zero hs hn).mpr q1, q2⟩
  · refine Or.inr ⟨fun e => ?_, t, q1, q2, q3⟩
    rw [e, bq_0] at q2; cases q2
theorem lpW_sim {α β : Type} {go1 : Nat → α → Bool} {body1 : Nat → α → α} {go2 : Nat → β → Bool} {body2 : Nat → β → β} {N : Nat} (R : α → β → Prop) (hgo : ∀ k s t, k < N → R s t → go1 k s = go2 k t) (hb : ∀ k s t, k < N → R s t → R (body1 k s) (body2 k t)) : ∀ (n k : Nat) (s : α) (t : β), k + n ≤ N → R s t → (lpW go1 body1 n k s).1 = (lpW go2 body2 n k t).1 ∧ R (lpW go1 body1 n k s).2 (lpW go2 body2 n k t).2
  | 0, _, _, _, _, r => ⟨rfl, r⟩
  | n + 1, k, s, t, hk, r => by
    have e := hgo k s t (by omega) r
    cases c : go2 k t with
    | true => rw [lpW_go (e.trans c), lpW_go c]; exact lpW_sim R hgo hb n (k + 1) _ _ (by omega) (hb k s t (by omega) r)
    | false => rw [lpW_stop (e.trans c), lpW_stop c]; exact ⟨rfl, r⟩
theorem ver_body (ones : Nat → Int64) (bits s : Int64) {k : Nat} (hk : k < 64) : b_X8_verify_17 ones bits k s = wayS ones s k (bq bits (63 - k)) := begin_body ones bits s hk
theorem neg_nI {t : Nat} (h : t < 2 ^ 31) : ¬ nI t < 0 := nI_pos h

theorem eq_verify {T : Nat} {a : Nat → Int32} {w : Nat → Int64} {n f z : Nat} {kinds : Nat → Int32} {names : Nat → Int64} {seeds : Nat → Int32} {ones : Nat → Int64} {ofk : Nat → Int64} {sz : Int32} {there : Int64} {awake : Int64} {grp : Int64} {gm : Int64} {gb : Int64} {lf : Int32} {ir : Int32} {ln : Int64} {rows : Nat → Int64} {lens : Nat → Int32} {psz : Int32} {vals : Nat → Int32} {hold : Int64} {call : Int32} {fio : Int64} {fqu : Int32} {fal : Int32} {fco : Int32} {fgu : Int32} {ft : Nat → Int32} {fs : Int32} {qs : Int32} {als : Int32} {cs : Int32} {ps : Int32} {wire : Int32} {alo : Int32} (inn : Nat → Int32) (name : Int64) (h : Rel T a w n f z kinds names seeds ones ofk sz there awake grp gm gb lf ir ln rows lens psz vals hold call fio fqu fal fco fgu ft fs qs als cs ps wire alo)  : r_X8_verify ones there awake grp name = r_X9_verify a w inn n name ∧ Rel (T + 1) (u_X9_verify_a a w inn n name) w n f z kinds names seeds ones ofk sz there awake grp gm gb lf ir ln rows lens psz vals hold call fio fqu fal fco fgu ft fs qs als cs (u_X8_verify_ps ones there awake grp ps name) wire alo := by
  have hn := h.1.2.1
  have ai := allIn_sp h.1 inn
  have hgo : ∀ (σ : Nat → Int32) (m : Int64), SpR n σ m → (lpF (b_X9_oneIn_4 σ) n 0 (-1) < 0 ↔ lg_cmp m 0 = 0) := fun σ m hs => by
    rw [lg0]
    rcases oneIn_sp hs hn with ⟨q1, q2⟩ | ⟨q1, t, q2, q3, q4⟩
    · rw [q2]; exact ⟨fun _ => q1, fun _ => by decide⟩
    · rw [q4]; exact ⟨fun q => absurd q (nI_pos (by omega)), fun q => absurd q q1⟩
  obtain ⟨s1, s2⟩ := lpW_sim (go1 := g_X9_verify_6 n) (body1 := b_X9_verify_6 w n name) (go2 := g_X8_verify_17) (body2 := b_X8_verify_17 ones name) (N := 64) (SpR n) (fun k s t _ r => by
      unfold g_X9_verify_6 g_X8_verify_17
      rw [decide_eq_decide.mpr (hgo s t r)]) (fun k s t hk r => by
      unfold b_X9_verify_6
      rw [ver_body _ _ _ hk, bitOf_bq _ hk]
      exact goesOn_sp h.1 r hk _) 64 0 (lpF (b_X9_allIn_2 a w) n 0 inn) (Lm there awake grp) (by decide) ai
  unfold r_X8_verify r_X9_verify u_X9_verify_a u_X8_verify_ps
  rw [s1]
  generalize hW : lpW g_X8_verify_17 (b_X8_verify_17 ones name) 64 0 (Lm there awake grp) = W8 at *
  constructor
  · by_cases c : lg_cmp W8.2 0 = 0
    · rw [if_pos c, if_pos ((hgo _ _ s2).mpr c)]
    · rw [if_neg c, if_neg (fun e => c ((hgo _ _ s2).mp e))]
  · obtain ⟨r1, r2, r3, r4, r5, r6, r7⟩ := h.tick
    have c : ∀ j, j ≠ 14 → upd a 14 (a 14 + nI (1 + 3 * W8.1)) j = a j := fun j q => pk_un q
    refine ⟨r1.cong (c _ (by omega)) (fun t _ => ⟨c _ (by omega), c _ (by omega), c _ (by omega), c _ (by omega)⟩) rfl rfl (fun _ _ => rfl), r2.cong (Nat.le_refl _) (c _ (by omega)) (fun t _ => c _ (by omega)), r3.cong (c _ (by omega)) (c _ (by omega)) (c _ (by omega)) (c _ (by omega)) (fun t _ => c _ (by omega)), r4.cong (c _ (by omega)) (c _ (by omega)) rfl, r5.cong (c _ (by omega)) (fun i _ => c _ (by omega)) (fun _ _ => rfl), ?_, r7.cong (c _ (by omega)) (c _ (by omega))⟩
    obtain ⟨q1, q2, q3, q4, q5, q6, q7, q8⟩ := r6
    refine ⟨by rw [c _ (by omega)]; exact q1, q2, q3, fun i hi => by rw [c _ (by omega)]; exact q4 i hi, by rw [c _ (by omega)]; exact q5, by rw [c _ (by omega)]; exact q6, by rw [c _ (by omega)]; exact q7, ?_⟩
    rw [pk_us, q8]
    have e1 : (3 : Int32) * nI W8.1 = nI (3 * W8.1) := nn_mul (x := 3) (a := 3) rfl rfl rfl
    have e2 : (1 : Int32) + nI (3 * W8.1) = nI (1 + 3 * W8.1) := nn_add (x := 1) (a := 1) rfl rfl rfl
    rw [e1, e2]
