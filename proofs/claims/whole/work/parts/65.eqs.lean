theorem eq_wire {T : Nat} {a : Nat → Int32} {w : Nat → Int64} {n f z : Nat} {kinds : Nat → Int32} {names : Nat → Int64} {seeds : Nat → Int32} {ones : Nat → Int64} {ofk : Nat → Int64} {sz : Int32} {there : Int64} {awake : Int64} {grp : Int64} {gm : Int64} {gb : Int64} {lf : Int32} {ir : Int32} {ln : Int64} {rows : Nat → Int64} {lens : Nat → Int32} {psz : Int32} {vals : Nat → Int32} {hold : Int64} {call : Int32} {fio : Int64} {fqu : Int32} {fal : Int32} {fco : Int32} {fgu : Int32} {ft : Nat → Int32} {fs : Int32} {qs : Int32} {als : Int32} {cs : Int32} {ps : Int32} {wire : Int32} {alo : Int32} (kind : Int32) (h : Rel T a w n f z kinds names seeds ones ofk sz there awake grp gm gb lf ir ln rows lens psz vals hold call fio fqu fal fco fgu ft fs qs als cs ps wire alo)  : r_X8_wire kind = r_X9_wire kind ∧ Rel (T + 1) (u_X9_wire_a a kind) w n f z kinds names seeds ones ofk sz there awake grp gm gb lf ir ln rows lens psz vals hold call fio fqu fal fco fgu ft fs qs als cs ps (u_X8_wire_wire wire kind) alo := by
  unfold r_X8_wire r_X9_wire u_X9_wire_a u_X8_wire_wire
  by_cases c : r_X9_isIn kind 2 = 0
  · have c0 : ¬ kind = 0 := fun e => by rw [e] at c; exact absurd c (by decide)
    have c1 : ¬ kind = 1 := fun e => by rw [e] at c; exact absurd c (by decide)
    rw [if_pos c, if_pos c, if_neg c0, if_neg c1, if_neg c0, if_neg c1]
    exact ⟨rfl, h.tick⟩
  · obtain ⟨h1, h2⟩ := isIn_nat (n := 2) rfl (by decide) c
    have hR : Rel (T + 1) (upd a 1 kind) w n f z kinds names seeds ones ofk sz there awake grp gm gb lf ir ln rows lens psz vals hold call fio fqu fal fco fgu ft fs qs als cs ps kind alo := by
      obtain ⟨r1, r2, r3, r4, r5, r6, r7⟩ := h.tick
      exact ⟨r1.cong (pk_un (by omega)) (fun t _ => ⟨pk_un (by omega), pk_un (by omega), pk_un (by omega), pk_un (by omega)⟩) rfl rfl (fun _ _ => rfl), r2.cong (Nat.le_refl _) (pk_un (by omega)) (fun t _ => pk_un (by omega)), r3.cong (pk_un (by omega)) (pk_un (by omega)) (pk_un (by omega)) (pk_un (by omega)) (fun t _ => pk_un (by omega)), r4.cong (pk_un (by omega)) (pk_un (by omega)) rfl, r5.cong (pk_un (by omega)) (fun i _ => pk_un (by omega)) (fun _ _ => rfl), r6.cong (pk_un (by omega)) (pk_un (by omega)) (pk_un (by omega)) (pk_un (by omega)) (pk_un (by omega)) (fun i _ => pk_un (by omega)), ⟨pk_us, by rw [pk_un (by omega)]; exact r7.2⟩⟩
    rw [if_neg c, if_neg c]
    rcases (show kind.toNatClampNeg = 0 ∨ kind.toNatClampNeg = 1 by omega) with e | e
    · have e0 : kind = 0 := by rw [h1, e]; rfl
      rw [if_pos e0, if_pos e0]
      exact ⟨rfl, hR⟩
    · have e0 : kind = 1 := by rw [h1, e]; rfl
      rw [if_neg (by rw [e0]; decide), if_pos e0, if_neg (by rw [e0]; decide), if_pos e0]
      exact ⟨rfl, hR⟩

/-- the state behind a slot of ask(), step(), split() -/
theorem Rel.hear {T : Nat} {a : Nat → Int32} {w : Nat → Int64} {n f z : Nat} {kinds : Nat → Int32} {names : Nat → Int64} {seeds : Nat → Int32} {ones : Nat → Int64} {ofk : Nat → Int64} {sz : Int32} {there : Int64} {awake : Int64} {grp : Int64} {gm : Int64} {gb : Int64} {lf : Int32} {ir : Int32} {ln : Int64} {rows : Nat → Int64} {lens : Nat → Int32} {psz : Int32} {vals : Nat → Int32} {hold : Int64} {call : Int32} {fio : Int64} {fqu : Int32} {fal : Int32} {fco : Int32} {fgu : Int32} {ft : Nat → Int32} {fs : Int32} {qs : Int32} {als : Int32} {cs : Int32} {ps : Int32} {wire : Int32} {alo : Int32} (h : Rel T a w n f z kinds names seeds ones ofk sz there awake grp gm gb lf ir ln rows lens psz vals hold call fio fqu fal fco fgu ft fs qs als cs ps wire alo) {sp : Nat → Int32} {m : Int64} (hs : SpR n sp m) : nI (r_X9_counted a sp n) = nI (r_X8_hearSlot ofk wire m) ∧ u_X9_slot_lone a sp n = u_X8_hearSlot_alo ofk wire m ∧ Rel T (upd (u_X9_counted_a a sp n) 6 (u_X9_slot_lone a sp n)) w n f z kinds names seeds ones ofk sz there awake grp gm gb lf ir ln rows lens psz vals hold call fio fqu fal fco fgu ft fs (u_X8_hearSlot_qs ofk qs wire m) (u_X8_hearSlot_als ofk als wire m) (u_X8_hearSlot_cs ofk cs wire m) ps wire (u_X8_hearSlot_alo ofk wire m) := by
  obtain ⟨e1, e2⟩ := slot_eq hs h.1.2.1 (weak_iff h.1) h.2.2.2.2.2.2.1
  have e3 : r_X9_counted a sp n = r_X8_hearSlot ofk wire m := e1
  refine ⟨by rw [e3], e2, ?_⟩
  have hle := le_X9_slot a sp n
  obtain ⟨r1, r2, r3, r4, r5, r6, r7⟩ := h
  have c6 : ∀ j, j ≠ 6 → (j < 11 ∨ 13 < j) → upd (u_X9_counted_a a sp n) 6 (u_X9_slot_lone a sp n) j = a j := fun j q1 q2 => by rw [pk_un q1, fr_X9_counted q2]
  refine ⟨r1.cong (c6 _ (by omega) (by omega)) (fun t _ => ⟨c6 _ (by omega) (by omega), c6 _ (by omega) (by omega), c6 _ (by omega) (by omega), c6 _ (by omega) (by omega)⟩) rfl rfl (fun _ _ => rfl), r2.cong (Nat.le_refl _) (c6 _ (by omega) (by omega)) (fun t _ => c6 _ (by omega) (by omega)), r3.cong (c6 _ (by omega) (by omega)) (c6 _ (by omega) (by omega)) (c6 _ (by omega) (by omega)) (c6 _ (by omega) (by omega)) (fun t _ => c6 _ (by omega) (by omega)), r4.cong (c6 _ (by omega) (by omega)) (c6 _ (by omega) (by omega)) rfl, r5.cong (c6 _ (by omega) (by omega)) (fun i _ => c6 _ (by omega) (by omega)) (fun _ _ => rfl), ?_, ⟨by rw [c6 _ (by omega) (by omega)]; exact r7.1, by rw [pk_us]; exact e2⟩⟩
  have y := r6.counted hle
  unfold u_X8_hearSlot_qs u_X8_hearSlot_als u_X8_hearSlot_cs
  have e4 : r_X8_kindOfSlot (r_X8_audibleOf ofk wire m) = r_X9_slot a sp n := e1.symm
  rw [e4]
  exact y.cong (pk_un (by omega)) (pk_un (by omega)) (pk_un (by omega)) (pk_un (by omega)) (pk_un (by omega)) (fun i _ => pk_un (by omega))

theorem eq_ask {T : Nat} {a : Nat → Int32} {w : Nat → Int64} {n f z : Nat} {kinds : Nat → Int32} {names : Nat → Int64} {seeds : Nat → Int32} {ones : Nat → Int64} {ofk : Nat → Int64} {sz : Int32} {there : Int64} {awake : Int64} {grp : Int64} {gm : Int64} {gb : Int64} {lf : Int32} {ir : Int32} {ln : Int64} {rows : Nat → Int64} {lens : Nat → Int32} {psz : Int32} {vals : Nat → Int32} {hold : Int64} {call : Int32} {fio : Int64} {fqu : Int32} {fal : Int32} {fco : Int32} {fgu : Int32} {ft : Nat → Int32} {fs : Int32} {qs : Int32} {als : Int32} {cs : Int32} {ps : Int32} {wire : Int32} {alo : Int32} (sp : Nat → Int32) (bits : Int64) (m_ : Int32) (h : Rel T a w n f z kinds names seeds ones ofk sz there awake grp gm gb lf ir ln rows lens psz vals hold call fio fqu fal fco fgu ft fs qs als cs ps wire alo)  : r_X8_ask ones ofk there awake grp wire bits m_ = r_X9_ask a w sp n bits m_ ∧ Rel (T + 1) (u_X9_ask_a a w sp n bits m_) w n f z kinds names seeds ones ofk sz there awake grp gm gb lf ir ln rows lens psz vals hold call fio fqu fal fco fgu ft fs (u_X8_ask_qs ones ofk there awake grp qs wire bits m_) (u_X8_ask_als ones ofk there awake grp als wire bits m_) (u_X8_ask_cs ones ofk there awake grp cs wire bits m_) ps wire (u_X8_ask_alo ones ofk there awake grp wire alo bits m_) := by
  unfold r_X8_ask r_X9_ask u_X9_ask_a u_X8_ask_qs u_X8_ask_als u_X8_ask_cs u_X8_ask_alo
  by_cases c1 : m_ < 0
  · rw [if_pos c1, if_pos c1, if_pos c1, if_pos c1, if_pos c1, if_pos c1, if_pos c1]
    exact ⟨rfl, h.tick⟩
  · rw [if_neg c1, if_neg c1, if_neg c1, if_neg c1, if_neg c1, if_neg c1, if_neg c1]
    by_cases c2 : m_ ≤ 64
    · rw [if_pos c2, if_pos c2, if_pos c2, if_pos c2, if_pos c2, if_pos c2, if_pos c2]
      obtain ⟨e1, e2⟩ := rng_nat' (N := 64) rfl (by decide) c1 c2
      obtain ⟨q1, -, q3⟩ := h.hear (called_sp h.1 bits e1 e2 sp)
      exact ⟨q1.symm, q3.tick⟩
    · rw [if_neg c2, if_neg c2, if_neg c2, if_neg c2, if_neg c2, if_neg c2, if_neg c2]
      exact ⟨rfl, h.tick⟩

theorem eq_descend {T : Nat} {a : Nat → Int32} {w : Nat → Int64} {n f z : Nat} {kinds : Nat → Int32} {names : Nat → Int64} {seeds : Nat → Int32} {ones : Nat → Int64} {ofk : Nat → Int64} {sz : Int32} {there : Int64} {awake : Int64} {grp : Int64} {gm : Int64} {gb : Int64} {lf : Int32} {ir : Int32} {ln : Int64} {rows : Nat → Int64} {lens : Nat → Int32} {psz : Int32} {vals : Nat → Int32} {hold : Int64} {call : Int32} {fio : Int64} {fqu : Int32} {fal : Int32} {fco : Int32} {fgu : Int32} {ft : Nat → Int32} {fs : Int32} {qs : Int32} {als : Int32} {cs : Int32} {ps : Int32} {wire : Int32} {alo : Int32}  (h : Rel T a w n f z kinds names seeds ones ofk sz there awake grp gm gb lf ir ln rows lens psz vals hold call fio fqu fal fco fgu ft fs qs als cs ps wire alo)  : ∃ z', Rel (T + 1) (upd (upd (upd a 4 0) (20 + 0) 0) 4 (nI (0 + 1))) (vp_updL w (4 + 0) 0) n f z' kinds names seeds ones ofk sz there awake grp gm gb lf ir ln (u_X4_add_rows rows 0 0 0) (u_X4_add_lens lens 0 0 0) (u_X4_add_psz 0 0) vals hold call fio fqu fal fco fgu ft fs qs als cs ps wire alo := by
  refine ⟨1, ?_⟩
  obtain ⟨r1, r2, r3, r4, r5, r6, r7⟩ := h.tick
  have c : ∀ j, j ≠ 4 → j ≠ 20 → upd (upd (upd a 4 0) (20 + 0) 0) 4 (nI (0 + 1)) j = a j := fun j q1 q2 => by rw [pk_un q1, pk_un (by omega), pk_un q1]
  refine ⟨r1.cong (c _ (by omega) (by omega)) (fun t _ => ⟨c _ (by omega) (by omega), c _ (by omega) (by omega), c _ (by omega) (by omega), c _ (by omega) (by omega)⟩) (pk_uLn (by omega)) (pk_uLn (by omega)) (fun _ _ => pk_uLn (by omega)), r2.cong (Nat.le_refl _) (c _ (by omega) (by omega)) (fun t _ => c _ (by omega) (by omega)), r3.cong (c _ (by omega) (by omega)) (c _ (by omega) (by omega)) (c _ (by omega) (by omega)) (c _ (by omega) (by omega)) (fun t _ => c _ (by omega) (by omega)), r4.cong (c _ (by omega) (by omega)) (c _ (by omega) (by omega)) (pk_uLn (by omega)), ?_, r6.cong (c _ (by omega) (by omega)) (c _ (by omega) (by omega)) (c _ (by omega) (by omega)) (c _ (by omega) (by omega)) (c _ (by omega) (by omega)) (fun i _ => c _ (by omega) (by omega)), r7.cong (c _ (by omega) (by omega)) (c _ (by omega) (by omega))⟩
  unfold u_X4_add_rows u_X4_add_lens u_X4_add_psz
  rw [if_neg (by decide), if_neg (by decide), if_neg (by decide)]
  refine ⟨pk_us, rfl, fun i hi => ?_, fun i hi => ?_⟩
  · have e : i = 0 := by omega
    subst e
    exact ⟨by rw [pk_uLs, pk_uLs], by rw [pk_un (by omega), pk_us, pk_us]⟩
  · have e : i = 0 := by omega
    subst e
    exact ⟨0, pk_us, Nat.le_refl 0, by omega⟩
