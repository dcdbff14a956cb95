theorem noteOnes_eq {n : Nat} (NM : Int64) (ones : Nat → Int64) : ∀ b, b < 64 → lpF (b_X6_noteOnes_3 (nI n) NM) 64 0 ones b = if bq NM (63 - b) = true then ones b ||| ((1 : Int64) <<< ((nI n).toInt64 &&& 63)) else ones b := by
  have key := lpF_inv (body := b_X6_noteOnes_3 (nI n) NM) (fun k σ => k ≤ 64 → ∀ b, σ b = if b < k ∧ bq NM (63 - b) = true then ones b ||| ((1 : Int64) <<< ((nI n).toInt64 &&& 63)) else ones b) 64 0 ones (fun _ b => by rw [if_neg (by omega)]) (fun k σ _ hk hi hk1 b => by
    have i := hi (by omega)
    unfold b_X6_noteOnes_3
    rw [isOneAt_bq _ (by omega)]
    by_cases c : bq NM (63 - k) = true
    · rw [if_pos c, if_neg (by decide)]
      by_cases e : b = k
      · subst e; rw [pk_uLs, i b, if_neg (by omega), if_pos ⟨by omega, c⟩]
      · rw [pk_uLn e, i b]
        by_cases d : b < k ∧ bq NM (63 - b) = true
        · rw [if_pos d, if_pos ⟨by omega, d.2⟩]
        · rw [if_neg d, if_neg (fun q => d ⟨by omega, q.2⟩)]
    · rw [if_neg c, if_pos rfl, i b]
      by_cases d : b < k ∧ bq NM (63 - b) = true
      · rw [if_pos d, if_pos ⟨by omega, d.2⟩]
      · rw [if_neg d, if_neg (fun q => d ⟨by
          by_cases e : b = k
          · subst e; exact absurd q.2 c
          · omega, q.2⟩)])
  intro b hb
  rw [Nat.zero_add] at key
  rw [key (Nat.le_refl _) b]
  by_cases c : bq NM (63 - b) = true
  · rw [if_pos ⟨hb, c⟩, if_pos c]
  · rw [if_neg (fun q => c q.2), if_neg c]
theorem RelT.add {a : Nat → Int32} {w : Nat → Int64} {n : Nat} {kinds : Nat → Int32} {names : Nat → Int64} {seeds : Nat → Int32} {ones ofk : Nat → Int64} {sz : Int32} {there awake grp gm gb : Int64} (h : RelT a w n kinds names seeds ones ofk sz there awake grp gm gb) (hn : n < 40) {NM : Int64} (hnew : ∀ k, k < n → ¬ names k = NM) {j : Nat} (hj : j < 6) {kind : Int32} (hk : kind = nI j) {seed : Int32} {v : Bool} {awake' : Int64} (hv : ∀ u, u < 64 → bq awake' u = if u = n then v else bq awake u) {a' : Nat → Int32} (g0 : a' 0 = nI (n + 1)) (g1 : a' (300 + 6 * n + 0) = kind) (g2 : a' (300 + 6 * n + 1) = 1) (g3 : a' (300 + 6 * n + 2) = b01 v) (g4 : a' (300 + 6 * n + 4) = seed) (gt : ∀ t, t < n → a' (300 + 6 * t + 0) = a (300 + 6 * t + 0) ∧ a' (300 + 6 * t + 1) = a (300 + 6 * t + 1) ∧ a' (300 + 6 * t + 2) = a (300 + 6 * t + 2) ∧ a' (300 + 6 * t + 4) = a (300 + 6 * t + 4)) : RelT a' (vp_updL w (84 + n) NM) (n + 1) (upd kinds n kind) (vp_updL names n NM) (upd seeds n seed) (lpF (b_X6_noteOnes_3 (nI n) NM) 64 0 ones) (vp_updL ofk j (ofk j ||| ((1 : Int64) <<< ((nI n).toInt64 &&& 63)))) (nI (n + 1)) (there ||| ((1 : Int64) <<< ((nI n).toInt64 &&& 63))) awake' (if r_X6_isOfGroup gm gb NM = 0 then grp else (grp ||| ((1 : Int64) <<< ((nI n).toInt64 &&& 63)))) gm gb := by
  obtain ⟨q1, q2, q3, q4, q5, q6, q7, q8⟩ := h
  have n64 : n < 64 := by omega
  have hofk : ∀ i u, i < 6 → bq (vp_updL ofk j (ofk j ||| ((1 : Int64) <<< ((nI n).toInt64 &&& 63))) i) u = if u = n ∧ i = j then true else bq (ofk i) u := fun i u _ => by
    by_cases c : i = j
    · subst c
      rw [pk_uLs, bq_put n64]
      by_cases d : u = n
      · rw [if_pos d, if_pos ⟨d, rfl⟩]
      · rw [if_neg d, if_neg (fun q => d q.1)]
    · rw [pk_uLn c, if_neg (fun q => c q.2)]
  have hones : ∀ b u, b < 64 → bq (lpF (b_X6_noteOnes_3 (nI n) NM) 64 0 ones b) u = if u = n ∧ bq NM (63 - b) = true then true else bq (ones b) u := fun b u hb => by
    rw [noteOnes_eq NM ones b hb]
    by_cases c : bq NM (63 - b) = true
    · rw [if_pos c, bq_put n64]
      by_cases d : u = n
      · rw [if_pos d, if_pos ⟨d, c⟩]
      · rw [if_neg d, if_neg (fun q => d q.1)]
    · rw [if_neg c, if_neg (fun q => c q.2)]
  have hgrp : ∀ u, bq (if r_X6_isOfGroup gm gb NM = 0 then grp else (grp ||| ((1 : Int64) <<< ((nI n).toInt64 &&& 63)))) u = if u = n ∧ (NM ^^^ w 1) &&& w 0 = 0 then true else bq grp u := fun u => by
    have e : (NM &&& gm = gb) ↔ (NM ^^^ w 1) &&& w 0 = 0 := by rw [q6, q7]; exact grp_iff _ _ _
    by_cases c : NM &&& gm = gb
    · rw [if_neg (fun x => (isOfGroup_iff _ _ _).mp x c), bq_put n64]
      by_cases d : u = n
      · rw [if_pos d, if_pos ⟨d, e.mp c⟩]
      · rw [if_neg d, if_neg (fun q => d q.1)]
    · rw [if_pos ((isOfGroup_iff _ _ _).mpr c), if_neg (fun q => c (e.mpr q.2))]
  obtain ⟨z1, z2, z3, z4, z5⟩ := q5 n (Nat.le_refl n) n64
  refine ⟨g0, by omega, rfl, fun t ht => ?_, fun t h1 h2 => ?_, by rw [pk_uLn (by omega)]; exact q6, by rw [pk_uLn (by omega), pk_uLn (by omega)]; exact q7, fun s t hs ht e => ?_⟩
  · rw [pk_uLn (show (0 : Nat) ≠ 84 + n by omega), pk_uLn (show (1 : Nat) ≠ 84 + n by omega)]
    by_cases c : t = n
    · subst c
      rw [pk_us, pk_uLs, pk_us, pk_uLs]
      refine ⟨g1, ⟨j, hj, hk⟩, ?_, ?_, g4, rfl, fun i hi => ?_, fun b hb => ?_, ?_⟩
      · rw [g2, bq_put n64, if_pos rfl]; rfl
      · rw [g3, hv t n64, if_pos rfl]
      · rw [hofk i t hi, hk]
        by_cases d : i = j
        · rw [if_pos ⟨rfl, d⟩, d]; exact ⟨fun _ => rfl, fun _ => rfl⟩
        · rw [if_neg (fun q => d q.2), z4 i hi]
          exact ⟨fun q => (by cases q), fun q => absurd ((nI_eq (by omega) (by omega)).mp q).symm d⟩
      · rw [hones b t hb, z5 b hb]
        cases bq NM (63 - b) <;> simp
      · rw [hgrp t, z3]
        by_cases d : (NM ^^^ w 1) &&& w 0 = 0
        · rw [if_pos ⟨rfl, d⟩]; exact ⟨fun _ => d, fun _ => rfl⟩
        · rw [if_neg (fun q => d q.2)]; exact ⟨fun q => (by cases q), fun q => absurd q d⟩
    · obtain ⟨e0, e1, e2, e4⟩ := gt t (by omega)
      obtain ⟨d0, d1, d2, d3, d4, d5, d6, d7, d8⟩ := q4 t (by omega)
      rw [pk_un c, pk_un c, pk_uLn c, pk_uLn (show 84 + t ≠ 84 + n by omega), e0, e1, e2, e4, bq_put n64, if_neg c, hv t (by omega), if_neg c, hgrp t, if_neg (fun q => c q.1)]
      refine ⟨d0, d1, d2, d3, d4, d5, fun i hi => ?_, fun b hb => ?_, d8⟩
      · rw [hofk i t hi, if_neg (fun q => c q.1)]; exact d6 i hi
      · rw [hones b t hb, if_neg (fun q => c q.1)]; exact d7 b hb
  · have c : t ≠ n := by omega
    obtain ⟨d1, d2, d3, d4, d5⟩ := q5 t (by omega) h2
    refine ⟨by rw [bq_put n64, if_neg c]; exact d1, by rw [hv t h2, if_neg c]; exact d2, by rw [hgrp t, if_neg (fun q => c q.1)]; exact d3, fun i hi => ?_, fun b hb => ?_⟩
    · rw [hofk i t hi, if_neg (fun q => c q.1)]; exact d4 i hi
    · rw [hones b t hb, if_neg (fun q => c q.1)]; exact d5 b hb
  · by_cases c1 : s = n
    · by_cases c2 : t = n
      · omega
      · rw [c1, pk_uLs, pk_uLn c2] at e
        exact absurd e.symm (hnew t (by omega))
    · by_cases c2 : t = n
      · rw [c2, pk_uLs, pk_uLn c1] at e
        exact absurd e (hnew s (by omega))
      · rw [pk_uLn c1, pk_uLn c2] at e
        exact q8 s t (by omega) (by omega) e
theorem kind6 (kind : Int32) : (r_X9_isIn kind 6 = 0 ∧ (kind < 0 ∨ (¬ kind < 0 ∧ 6 ≤ kind))) ∨ (¬ r_X9_isIn kind 6 = 0 ∧ ¬ kind < 0 ∧ ¬ 6 ≤ kind ∧ ∃ j, j < 6 ∧ kind = nI j ∧ kind.toNatClampNeg = j) := by
  by_cases c : r_X9_isIn kind 6 = 0
  · refine Or.inl ⟨c, ?_⟩
    unfold r_X9_isIn at c
    by_cases c1 : kind < 0
    · exact Or.inl c1
    · rw [if_neg c1] at c
      by_cases c2 : 6 ≤ kind
      · exact Or.inr ⟨c1, c2⟩
      · rw [if_neg c2] at c; exact absurd c (by decide)
  · obtain ⟨h1, h2⟩ := isIn_nat (n := 6) rfl (by decide) c
    refine Or.inr ⟨c, by rw [h1]; exact nI_pos (by omega), by rw [h1]; exact nn_nle (x := 6) (a := 6) rfl rfl h2 (by decide), _, h2, h1, rfl⟩

theorem eq_tag {T : Nat} {a : Nat → Int32} {w : Nat → Int64} {n f z : Nat} {kinds : Nat → Int32} {names : Nat → Int64} {seeds : Nat → Int32} {ones : Nat → Int64} {ofk : Nat → Int64} {sz : Int32} {there : Int64} {awake : Int64} {grp : Int64} {gm : Int64} {gb : Int64} {lf : Int32} {ir : Int32} {ln : Int64} {rows : Nat → Int64} {lens : Nat → Int32} {psz : Int32} {vals : Nat → Int32} {hold : Int64} {call : Int32} {fio : Int64} {fqu : Int32} {fal : Int32} {fco : Int32} {fgu : Int32} {ft : Nat → Int32} {fs : Int32} {qs : Int32} {als : Int32} {cs : Int32} {ps : Int32} {wire : Int32} {alo : Int32} (kind : Int32) (name : Int64) (seed : Int32) (h : Rel T a w n f z kinds names seeds ones ofk sz there awake grp gm gb lf ir ln rows lens psz vals hold call fio fqu fal fco fgu ft fs qs als cs ps wire alo)  : r_X8_tag names sz n kind name = r_X9_tag a w n kind name ∧ ∃ n', Rel (T + 1) (u_X9_tag_a a w n kind name seed) (u_X9_tag_w a w n kind name) n' f z (u_X8_tag_kinds kinds names sz n kind name) (u_X8_tag_names names sz n kind name) (u_X8_tag_seeds names seeds sz n kind name seed) (u_X8_tag_ones names ones sz n kind name) (u_X8_tag_ofk names ofk sz n kind name) (u_X8_tag_sz names sz n kind name) (u_X8_tag_there names sz there n kind name) (u_X8_tag_awake names sz awake n kind name) (u_X8_tag_grp names sz grp gm gb n kind name) gm gb lf ir ln rows lens psz vals hold call fio fqu fal fco fgu ft fs qs als cs ps wire alo := by
  have hn := h.1.2.1
  have h0 := h.1.1
  have hsz := h.1.2.2.1
  unfold r_X8_tag r_X9_tag u_X9_tag_a u_X9_tag_w u_X8_tag_kinds u_X8_tag_names u_X8_tag_seeds u_X8_tag_ones u_X8_tag_ofk u_X8_tag_sz u_X8_tag_there u_X8_tag_awake u_X8_tag_grp
  rw [sumOf_eq]
  unfold r_X6_add u_X6_add_kinds u_X6_add_names u_X6_add_seeds u_X6_add_ones u_X6_add_ofk u_X6_add_sz u_X6_add_there u_X6_add_awake u_X6_add_grp
  generalize ((name <<< (Int32.toInt64 8 &&& 63)) ||| ((lpF (b_X9_sumOf_4 (name <<< (Int32.toInt64 8 &&& 63))) 56 0 0).toInt64)) = NM
  by_cases c40 : n = 40
  · have e1 : a 0 = 40 := by rw [h0, c40]; rfl
    have e2 : 40 ≤ sz := by rw [hsz]; exact nn_le (x := 40) (a := 40) rfl rfl (by omega) (by omega)
    repeat rw [if_pos e1]
    repeat rw [if_pos e2]
    exact ⟨rfl, n, h.tick⟩
  · have e1 : ¬ a 0 = 40 := by rw [h0]; exact nn_ne (y := 40) (b := 40) rfl rfl c40 (by omega) (by omega)
    have e2 : ¬ 40 ≤ sz := by rw [hsz]; exact nn_nle (x := 40) (a := 40) rfl rfl (by omega) (by omega)
    repeat rw [if_neg e1]
    repeat rw [if_neg e2]
    rcases kind6 kind with ⟨k1, k2 | ⟨k2, k3⟩⟩ | ⟨k1, k2, k3, j, hj, hkj, hjc⟩
    · repeat rw [if_pos k1]
      repeat rw [if_pos k2]
      exact ⟨rfl, n, h.tick⟩
    · repeat rw [if_pos k1]
      repeat rw [if_neg k2]
      repeat rw [if_pos k3]
      exact ⟨rfl, n, h.tick⟩
    · repeat rw [if_neg k1]
      repeat rw [if_neg k2]
      repeat rw [if_neg k3]
      by_cases ct : ∃ k, k < n ∧ names k = NM
      · obtain ⟨k, hk, hkn⟩ := ct
        have t1 : anyB (fun k => decide (lg_cmp (w (84 + k)) NM = 0)) n = true := anyB_yes (P := fun k => lg_cmp (w (84 + k)) NM = 0) hk ((lg_cmp_eq _ _).mpr (by rw [(h.1.2.2.2.1 k hk).2.2.2.2.2.1]; exact hkn))
        have t2 : ¬ r_X6_isTaken names n NM = 0 := by
          unfold r_X6_isTaken
          rw [if_pos (anyB_yes (P := fun k => lg_cmp (names k) NM = 0) hk ((lg_cmp_eq _ _).mpr hkn))]; decide
        repeat rw [if_pos t1]
        repeat rw [if_neg t2]
        exact ⟨rfl, n, h.tick⟩
      · have hnew : ∀ k, k < n → ¬ names k = NM := fun k hk e => ct ⟨k, hk, e⟩
        have t1 : ¬ anyB (fun k => decide (lg_cmp (w (84 + k)) NM = 0)) n = true := anyB_no (P := fun k => lg_cmp (w (84 + k)) NM = 0) (fun k hk e => hnew k hk (by rw [← (h.1.2.2.2.1 k hk).2.2.2.2.2.1]; exact (lg_cmp_eq _ _).mp e))
        have t2 : r_X6_isTaken names n NM = 0 := by
          unfold r_X6_isTaken
          rw [if_neg (anyB_no (P := fun k => lg_cmp (names k) NM = 0) (fun k hk e => hnew k hk ((lg_cmp_eq _ _).mp e)))]
        repeat rw [if_neg t1]
        repeat rw [if_pos t2]
        refine ⟨by rw [h0, hsz], n + 1, ?_⟩
        rw [hjc]
        obtain ⟨r1, r2, r3, r4, r5, r6, r7⟩ := h.tick
        have core : ∀ (v : Bool) (awake' : Int64), (∀ u, u < 64 → bq awake' u = if u = n then v else bq awake u) → ∀ a', (∀ i, i ≠ 0 ∧ (i < 300 + 6 * n ∨ 300 + 6 * n + 5 < i) → a' i = a i) → a' 0 = nI (n + 1) → a' (300 + 6 * n + 0) = kind → a' (300 + 6 * n + 1) = 1 → a' (300 + 6 * n + 2) = b01 v → a' (300 + 6 * n + 3) = -1 → a' (300 + 6 * n + 4) = seed → a' (300 + 6 * n + 5) = 0 → Rel (T + 1) a' (vp_updL w (84 + n) NM) (n + 1) f z (upd kinds n kind) (vp_updL names n NM) (upd seeds n seed) (lpF (b_X6_noteOnes_3 sz NM) 64 0 ones) (vp_updL ofk j (ofk j ||| ((1 : Int64) <<< (sz.toInt64 &&& 63)))) (nI (n + 1)) (there ||| ((1 : Int64) <<< (sz.toInt64 &&& 63))) awake' (if r_X6_isOfGroup gm gb NM = 0 then grp else (grp ||| ((1 : Int64) <<< (sz.toInt64 &&& 63)))) gm gb lf ir ln rows lens psz vals hold call fio fqu fal fco fgu ft fs qs als cs ps wire alo := by
          intro v awake' hv a' k g0 g1 g2 g3 g5 g4 g6
          rw [hsz]
          have wk : ∀ i, i < 84 → vp_updL w (84 + n) NM i = w i := fun i q => pk_uLn (by omega)
          refine ⟨r1.add (by omega) hnew hj hkj hv g0 g1 g2 g3 g4 (fun t _ => ⟨k _ (by omega), k _ (by omega), k _ (by omega), k _ (by omega)⟩), ?_, ?_, r4.cong (k _ (by omega)) (k _ (by omega)) (wk _ (by omega)), r5.cong (k _ (by omega)) (fun i _ => k _ (by omega)) (fun _ _ => (wk _ (by omega))), r6.cong (k _ (by omega)) (k _ (by omega)) (k _ (by omega)) (k _ (by omega)) (k _ (by omega)) (fun i _ => k _ (by omega)), r7.cong (k _ (by omega)) (k _ (by omega))⟩
          · obtain ⟨q1, q2, q3, q4, q5⟩ := r2
            refine ⟨fun t ht => ?_, fun t ht hb => ?_, fun t x1 x2 => q3 t (by omega) x2, by rw [k _ (by omega)]; exact q4, q5⟩
            · by_cases c : t = n
              · subst c; rw [g5, q3 t (Nat.le_refl t) (by omega)]; rfl
              · rw [k _ (by omega)]; exact q1 t (by omega)
            · by_cases c : t = n
              · subst c; rw [q3 t (Nat.le_refl t) (by omega)] at hb; cases hb
              · rw [pk_un c]; exact q2 t (by omega) hb
          · obtain ⟨q1, q2, q3, q4, q5, q6⟩ := r3
            refine ⟨fun t ht => ?_, fun t x1 x2 => q2 t (by omega) x2, by rw [k _ (by omega)]; exact q3, by rw [k _ (by omega)]; exact q4, by rw [k _ (by omega)]; exact q5, by rw [k _ (by omega)]; exact q6⟩
            by_cases c : t = n
            · subst c; rw [g6, q2 t (Nat.le_refl t) (by omega)]; rfl
            · rw [k _ (by omega)]; exact q1 t (by omega)
        have o := (fun (x : Int32) => ((⟨fun i q => by rw [pk_un (by omega), pk_un (by omega), pk_un (by omega), pk_un (by omega), pk_un (by omega), pk_un (by omega), pk_un (by omega)], by rw [pk_un (by omega), pk_un (by omega), pk_un (by omega), pk_un (by omega), pk_un (by omega), pk_un (by omega), pk_us], by rw [pk_un (by omega), pk_un (by omega), pk_un (by omega), pk_un (by omega), pk_un (by omega), pk_us], by rw [pk_un (by omega), pk_un (by omega), pk_un (by omega), pk_un (by omega), pk_us], by rw [pk_un (by omega), pk_un (by omega), pk_un (by omega), pk_us], by rw [pk_un (by omega), pk_un (by omega), pk_us], by rw [pk_un (by omega), pk_us], pk_us⟩) : (∀ i, i ≠ 0 ∧ (i < 300 + 6 * n ∨ 300 + 6 * n + 5 < i) → (upd (upd (upd (upd (upd (upd (upd a 0 (nI (n + 1))) (300 + 6 * n + 0) kind) (300 + 6 * n + 1) 1) (300 + 6 * n + 2) x) (300 + 6 * n + 3) (-1)) (300 + 6 * n + 4) seed) (300 + 6 * n + 5) 0) i = a i) ∧ (upd (upd (upd (upd (upd (upd (upd a 0 (nI (n + 1))) (300 + 6 * n + 0) kind) (300 + 6 * n + 1) 1) (300 + 6 * n + 2) x) (300 + 6 * n + 3) (-1)) (300 + 6 * n + 4) seed) (300 + 6 * n + 5) 0) 0 = nI (n + 1) ∧ (upd (upd (upd (upd (upd (upd (upd a 0 (nI (n + 1))) (300 + 6 * n + 0) kind) (300 + 6 * n + 1) 1) (300 + 6 * n + 2) x) (300 + 6 * n + 3) (-1)) (300 + 6 * n + 4) seed) (300 + 6 * n + 5) 0) (300 + 6 * n + 0) = kind ∧ (upd (upd (upd (upd (upd (upd (upd a 0 (nI (n + 1))) (300 + 6 * n + 0) kind) (300 + 6 * n + 1) 1) (300 + 6 * n + 2) x) (300 + 6 * n + 3) (-1)) (300 + 6 * n + 4) seed) (300 + 6 * n + 5) 0) (300 + 6 * n + 1) = 1 ∧ (upd (upd (upd (upd (upd (upd (upd a 0 (nI (n + 1))) (300 + 6 * n + 0) kind) (300 + 6 * n + 1) 1) (300 + 6 * n + 2) x) (300 + 6 * n + 3) (-1)) (300 + 6 * n + 4) seed) (300 + 6 * n + 5) 0) (300 + 6 * n + 2) = x ∧ (upd (upd (upd (upd (upd (upd (upd a 0 (nI (n + 1))) (300 + 6 * n + 0) kind) (300 + 6 * n + 1) 1) (300 + 6 * n + 2) x) (300 + 6 * n + 3) (-1)) (300 + 6 * n + 4) seed) (300 + 6 * n + 5) 0) (300 + 6 * n + 3) = -1 ∧ (upd (upd (upd (upd (upd (upd (upd a 0 (nI (n + 1))) (300 + 6 * n + 0) kind) (300 + 6 * n + 1) 1) (300 + 6 * n + 2) x) (300 + 6 * n + 3) (-1)) (300 + 6 * n + 4) seed) (300 + 6 * n + 5) 0) (300 + 6 * n + 4) = seed ∧ (upd (upd (upd (upd (upd (upd (upd a 0 (nI (n + 1))) (300 + 6 * n + 0) kind) (300 + 6 * n + 1) 1) (300 + 6 * n + 2) x) (300 + 6 * n + 3) (-1)) (300 + 6 * n + 4) seed) (300 + 6 * n + 5) 0) (300 + 6 * n + 5) = 0))
        by_cases c4 : kind = 4
        · repeat rw [if_pos c4]
          obtain ⟨o1, o2, o3, o4, o5, o6, o7, o8⟩ := o 0
          refine core false awake (fun u hu => ?_) _ o1 o2 o3 o4 o5 o6 o7 o8
          by_cases e : u = n
          · rw [if_pos e, e]; exact (h.1.2.2.2.2.1 n (Nat.le_refl n) (by omega)).2.1
          · rw [if_neg e]
        · repeat rw [if_neg c4]
          obtain ⟨o1, o2, o3, o4, o5, o6, o7, o8⟩ := o 1
          refine core true _ (fun u hu => ?_) _ o1 o2 o3 o4 o5 o6 o7 o8
          rw [hsz]; exact bq_put (by omega) u
