theorem b01_eq (u v : Bool) : b01 u = b01 v ↔ u = v := by cases u <;> cases v <;> decide
theorem bq_flip {x : Int64} {t : Nat} (ht : t < 64) (u : Nat) : bq (x ^^^ ((1 : Int64) <<< ((nI t).toInt64 &&& 63))) u = if u = t then !bq x u else bq x u := by
  rw [bq_xor, bq_set ht]
  by_cases c : u = t
  · rw [if_pos c, decide_eq_true c]; cases bq x u <;> rfl
  · rw [if_neg c, decide_eq_false c]; cases bq x u <;> rfl
theorem bq_put {x : Int64} {t : Nat} (ht : t < 64) (u : Nat) : bq (x ||| ((1 : Int64) <<< ((nI t).toInt64 &&& 63))) u = if u = t then true else bq x u := by
  rw [bq_or, bq_set ht]
  by_cases c : u = t
  · rw [if_pos c, decide_eq_true c]; cases bq x u <;> rfl
  · rw [if_neg c, decide_eq_false c]; cases bq x u <;> rfl
theorem RelT.upd1 {a : Nat → Int32} {w : Nat → Int64} {n : Nat} {kinds : Nat → Int32} {names : Nat → Int64} {seeds : Nat → Int32} {ones ofk : Nat → Int64} {sz : Int32} {there awake grp gm gb : Int64} (h : RelT a w n kinds names seeds ones ofk sz there awake grp gm gb) {t : Nat} (ht : t < n) {there' : Int64} (v : Bool) (hb : ∀ u, u < 64 → bq there' u = if u = t then v else bq there u) : RelT (upd a (300 + 6 * t + 1) (b01 v)) w n kinds names seeds ones ofk sz there' awake grp gm gb := by
  obtain ⟨q1, q2, q3, q4, q5, q6⟩ := h
  refine ⟨by rw [pk_un (by omega)]; exact q1, q2, q3, fun u hu => ?_, fun u h1 h2 => ?_, q6⟩
  · obtain ⟨d0, d1, d2, d3, d4, d5⟩ := q4 u hu
    refine ⟨by rw [pk_un (by omega)]; exact d0, d1, ?_, by rw [pk_un (by omega)]; exact d3, by rw [pk_un (by omega)]; exact d4, d5⟩
    rw [hb u (by omega)]
    by_cases c : u = t
    · subst c; rw [pk_us, if_pos rfl]
    · rw [pk_un (by omega), if_neg c]; exact d2
  · obtain ⟨d1, d2⟩ := q5 u h1 h2
    refine ⟨?_, d2⟩
    rw [hb u h2, if_neg (by omega)]; exact d1
theorem RelT.upd2 {a : Nat → Int32} {w : Nat → Int64} {n : Nat} {kinds : Nat → Int32} {names : Nat → Int64} {seeds : Nat → Int32} {ones ofk : Nat → Int64} {sz : Int32} {there awake grp gm gb : Int64} (h : RelT a w n kinds names seeds ones ofk sz there awake grp gm gb) {t : Nat} (ht : t < n) {awake' : Int64} (v : Bool) (hb : ∀ u, u < 64 → bq awake' u = if u = t then v else bq awake u) : RelT (upd a (300 + 6 * t + 2) (b01 v)) w n kinds names seeds ones ofk sz there awake' grp gm gb := by
  obtain ⟨q1, q2, q3, q4, q5, q6⟩ := h
  refine ⟨by rw [pk_un (by omega)]; exact q1, q2, q3, fun u hu => ?_, fun u h1 h2 => ?_, q6⟩
  · obtain ⟨d0, d1, d2, d3, d4, d5⟩ := q4 u hu
    refine ⟨by rw [pk_un (by omega)]; exact d0, d1, by rw [pk_un (by omega)]; exact d2, ?_, by rw [pk_un (by omega)]; exact d4, d5⟩
    rw [hb u (by omega)]
    by_cases c : u = t
    · subst c; rw [pk_us, if_pos rfl]
    · rw [pk_un (by omega), if_neg c]; exact d3
  · obtain ⟨d1, d2, d3⟩ := q5 u h1 h2
    refine ⟨d1, ?_, d3⟩
    rw [hb u h2, if_neg (by omega)]; exact d2

theorem rel_setThere {T : Nat} {a : Nat → Int32} {w : Nat → Int64} {n f z : Nat} {kinds : Nat → Int32} {names : Nat → Int64} {seeds : Nat → Int32} {ones : Nat → Int64} {ofk : Nat → Int64} {sz : Int32} {there : Int64} {awake : Int64} {grp : Int64} {gm : Int64} {gb : Int64} {lf : Int32} {ir : Int32} {ln : Int64} {rows : Nat → Int64} {lens : Nat → Int32} {psz : Int32} {vals : Nat → Int32} {hold : Int64} {call : Int32} {fio : Int64} {fqu : Int32} {fal : Int32} {fco : Int32} {fgu : Int32} {ft : Nat → Int32} {fs : Int32} {qs : Int32} {als : Int32} {cs : Int32} {ps : Int32} {wire : Int32} {alo : Int32} {t : Nat} (v : Bool) (h : Rel T a w n f z kinds names seeds ones ofk sz there awake grp gm gb lf ir ln rows lens psz vals hold call fio fqu fal fco fgu ft fs qs als cs ps wire alo) (ht : t < n) : r_X6_setThere there (nI t) (b01 v) = (if a (300 + 6 * t + 1) = b01 v then 0 else 1) ∧ Rel (T + 1) (if a (300 + 6 * t + 1) = b01 v then a else upd a (300 + 6 * t + 1) (b01 v)) w n f z kinds names seeds ones ofk sz (u_X6_setThere_there there (nI t) (b01 v)) awake grp gm gb lf ir ln rows lens psz vals hold call fio fqu fal fco fgu ft fs qs als cs ps wire alo := by
  have hn := h.1.2.1
  have d := (h.1.2.2.2.1 t ht).2.2.1
  unfold r_X6_setThere u_X6_setThere_there
  rw [isIn_b01 _ (by omega), d]
  refine ⟨rfl, ?_⟩
  by_cases c : b01 (bq there t) = b01 v
  · rw [if_pos c, if_pos c]; exact h.tick
  · rw [if_neg c, if_neg c]
    have cv : (!bq there t) = v := by
      have := fun e => c ((b01_eq _ _).mpr e)
      cases e1 : bq there t <;> cases v <;> simp_all
    obtain ⟨r1, r2, r3, r4, r5, r6, r7⟩ := h.tick
    have k : ∀ j, j ≠ 300 + 6 * t + 1 → upd a (300 + 6 * t + 1) (b01 v) j = a j := fun j q => pk_un q
    refine ⟨r1.upd1 ht v (fun u _ => ?_), r2.cong (Nat.le_refl _) (k _ (by omega)) (fun t _ => k _ (by omega)), r3.cong (k _ (by omega)) (k _ (by omega)) (k _ (by omega)) (k _ (by omega)) (fun t _ => k _ (by omega)), r4.cong (k _ (by omega)) (k _ (by omega)) rfl, r5.cong (k _ (by omega)) (fun i _ => k _ (by omega)) (fun _ _ => rfl), r6.cong (k _ (by omega)) (k _ (by omega)) (k _ (by omega)) (k _ (by omega)) (k _ (by omega)) (fun i _ => k _ (by omega)), r7.cong (k _ (by omega)) (k _ (by omega))⟩
    rw [bq_flip (by omega)]
    by_cases e : u = t
    · subst e; rw [if_pos rfl, if_pos rfl, cv]
    · rw [if_neg e, if_neg e]

theorem rel_setAwake {T : Nat} {a : Nat → Int32} {w : Nat → Int64} {n f z : Nat} {kinds : Nat → Int32} {names : Nat → Int64} {seeds : Nat → Int32} {ones : Nat → Int64} {ofk : Nat → Int64} {sz : Int32} {there : Int64} {awake : Int64} {grp : Int64} {gm : Int64} {gb : Int64} {lf : Int32} {ir : Int32} {ln : Int64} {rows : Nat → Int64} {lens : Nat → Int32} {psz : Int32} {vals : Nat → Int32} {hold : Int64} {call : Int32} {fio : Int64} {fqu : Int32} {fal : Int32} {fco : Int32} {fgu : Int32} {ft : Nat → Int32} {fs : Int32} {qs : Int32} {als : Int32} {cs : Int32} {ps : Int32} {wire : Int32} {alo : Int32} {t : Nat} (v : Bool) (h : Rel T a w n f z kinds names seeds ones ofk sz there awake grp gm gb lf ir ln rows lens psz vals hold call fio fqu fal fco fgu ft fs qs als cs ps wire alo) (ht : t < n) : r_X6_setAwake awake (nI t) (b01 v) = (if a (300 + 6 * t + 2) = b01 v then 0 else 1) ∧ Rel (T + 1) (if a (300 + 6 * t + 2) = b01 v then a else upd a (300 + 6 * t + 2) (b01 v)) w n f z kinds names seeds ones ofk sz there (u_X6_setAwake_awake awake (nI t) (b01 v)) grp gm gb lf ir ln rows lens psz vals hold call fio fqu fal fco fgu ft fs qs als cs ps wire alo := by
  have hn := h.1.2.1
  have d := (h.1.2.2.2.1 t ht).2.2.2.1
  unfold r_X6_setAwake u_X6_setAwake_awake
  rw [isIn_b01 _ (by omega), d]
  refine ⟨rfl, ?_⟩
  by_cases c : b01 (bq awake t) = b01 v
  · rw [if_pos c, if_pos c]; exact h.tick
  · rw [if_neg c, if_neg c]
    have cv : (!bq awake t) = v := by
      have := fun e => c ((b01_eq _ _).mpr e)
      cases e1 : bq awake t <;> cases v <;> simp_all
    obtain ⟨r1, r2, r3, r4, r5, r6, r7⟩ := h.tick
    have k : ∀ j, j ≠ 300 + 6 * t + 2 → upd a (300 + 6 * t + 2) (b01 v) j = a j := fun j q => pk_un q
    refine ⟨r1.upd2 ht v (fun u _ => ?_), r2.cong (Nat.le_refl _) (k _ (by omega)) (fun t _ => k _ (by omega)), r3.cong (k _ (by omega)) (k _ (by omega)) (k _ (by omega)) (k _ (by omega)) (fun t _ => k _ (by omega)), r4.cong (k _ (by omega)) (k _ (by omega)) rfl, r5.cong (k _ (by omega)) (fun i _ => k _ (by omega)) (fun _ _ => rfl), r6.cong (k _ (by omega)) (k _ (by omega)) (k _ (by omega)) (k _ (by omega)) (k _ (by omega)) (fun i _ => k _ (by omega)), r7.cong (k _ (by omega)) (k _ (by omega))⟩
    rw [bq_flip (by omega)]
    by_cases e : u = t
    · subst e; rw [if_pos rfl, if_pos rfl, cv]
    · rw [if_neg e, if_neg e]

theorem eq_act {T : Nat} {a : Nat → Int32} {w : Nat → Int64} {n f z : Nat} {kinds : Nat → Int32} {names : Nat → Int64} {seeds : Nat → Int32} {ones : Nat → Int64} {ofk : Nat → Int64} {sz : Int32} {there : Int64} {awake : Int64} {grp : Int64} {gm : Int64} {gb : Int64} {lf : Int32} {ir : Int32} {ln : Int64} {rows : Nat → Int64} {lens : Nat → Int32} {psz : Int32} {vals : Nat → Int32} {hold : Int64} {call : Int32} {fio : Int64} {fqu : Int32} {fal : Int32} {fco : Int32} {fgu : Int32} {ft : Nat → Int32} {fs : Int32} {qs : Int32} {als : Int32} {cs : Int32} {ps : Int32} {wire : Int32} {alo : Int32} (tag what : Int32) (h : Rel T a w n f z kinds names seeds ones ofk sz there awake grp gm gb lf ir ln rows lens psz vals hold call fio fqu fal fco fgu ft fs qs als cs ps wire alo)  : r_X8_act kinds sz there awake tag what = r_X9_act a tag what ∧ Rel (T + 1) (u_X9_act_a a tag what) w n f z kinds names seeds ones ofk sz (u_X8_act_there sz there tag what) (u_X8_act_awake kinds sz awake tag what) grp gm gb lf ir ln rows lens psz vals hold call fio fqu fal fco fgu ft fs qs als cs ps wire alo := by
  unfold r_X8_act r_X9_act u_X9_act_a u_X8_act_there u_X8_act_awake
  rcases tag_of h.1 tag with ⟨c1, c2⟩ | ⟨t, ht, e1, e2, c1, c2⟩
  · rw [if_pos c1, if_pos c2, if_pos c2, if_pos c1, if_pos c1]; exact ⟨rfl, h.tick⟩
  · rw [if_neg c1, if_neg c2, if_neg c2, if_neg c1, if_neg c1, e2]
    rcases small4 what with ⟨c, w0, w1, w2, w3⟩ | ⟨c, e⟩
    · rw [if_pos c, if_pos c, if_neg w0, if_neg w1, if_neg w2, if_neg w3, if_neg w0, if_neg w1, if_neg w0, if_neg w1, if_neg w2, if_neg w3]; exact ⟨rfl, h.tick⟩
    · rw [if_neg c, if_neg c]
      rw [e1]
      rcases e with e | e | e | e <;> subst e
      · exact rel_setThere false h ht
      · exact rel_setThere true h ht
      · exact rel_setAwake true h ht
      · have k0 : a (300 + 6 * t + 0) = kinds t := (h.1.2.2.2.1 t ht).1
        rw [k0]
        by_cases ck : kinds t = 4
        · obtain ⟨q1, q2⟩ := rel_setAwake false h ht
          have z0 : ∀ x : Int32, (x = 0 ∨ x = 1) → (if x = 0 then (0 : Int32) else 1) = x := fun x hx => by rcases hx with e | e <;> subst e <;> decide
          have z1 : (if r_X6_setAwake awake (nI t) (b01 false) = 0 then (0 : Int32) else 1) = r_X6_setAwake awake (nI t) (b01 false) := z0 _ (by unfold r_X6_setAwake; split; exact Or.inl rfl; exact Or.inr rfl)
          have z2 : (if r_X6_setAwake awake (nI t) 0 = 0 then (0 : Int32) else 1) = (if a (300 + 6 * t + 2) = 0 then 0 else 1) := z1.trans q1
          repeat rw [if_pos ck]
          exact ⟨z2, q2⟩
        · repeat rw [if_neg ck]
          exact ⟨rfl, h.tick⟩
