/-- the class's state against the model's; T: calls so far -/
def Rel (T : Nat) (a : Nat → Int32) (w : Nat → Int64) (n f z : Nat) (kinds : Nat → Int32) (names : Nat → Int64) (seeds : Nat → Int32) (ones : Nat → Int64) (ofk : Nat → Int64) (sz : Int32) (there : Int64) (awake : Int64) (grp : Int64) (gm : Int64) (gb : Int64) (lf : Int32) (ir : Int32) (ln : Int64) (rows : Nat → Int64) (lens : Nat → Int32) (psz : Int32) (vals : Nat → Int32) (hold : Int64) (call : Int32) (fio : Int64) (fqu : Int32) (fal : Int32) (fco : Int32) (fgu : Int32) (ft : Nat → Int32) (fs : Int32) (qs : Int32) (als : Int32) (cs : Int32) (ps : Int32) (wire : Int32) (alo : Int32) : Prop :=
  RelT a w n kinds names seeds ones ofk sz there awake grp gm gb ∧ RelC T a n kinds vals hold call ∧ RelF a n fio fqu fal fco fgu ∧ RelP a w lf ir ln ∧ RelL a w z rows lens psz ∧ RelY a f ft fs qs als cs ps ∧ RelV a wire alo
theorem Rel.tick {T : Nat} {a : Nat → Int32} {w : Nat → Int64} {n f z : Nat} {kinds : Nat → Int32} {names : Nat → Int64} {seeds : Nat → Int32} {ones : Nat → Int64} {ofk : Nat → Int64} {sz : Int32} {there : Int64} {awake : Int64} {grp : Int64} {gm : Int64} {gb : Int64} {lf : Int32} {ir : Int32} {ln : Int64} {rows : Nat → Int64} {lens : Nat → Int32} {psz : Int32} {vals : Nat → Int32} {hold : Int64} {call : Int32} {fio : Int64} {fqu : Int32} {fal : Int32} {fco : Int32} {fgu : Int32} {ft : Nat → Int32} {fs : Int32} {qs : Int32} {als : Int32} {cs : Int32} {ps : Int32} {wire : Int32} {alo : Int32} (h : Rel T a w n f z kinds names seeds ones ofk sz there awake grp gm gb lf ir ln rows lens psz vals hold call fio fqu fal fco fgu ft fs qs als cs ps wire alo) : Rel (T + 1) a w n f z kinds names seeds ones ofk sz there awake grp gm gb lf ir ln rows lens psz vals hold call fio fqu fal fco fgu ft fs qs als cs ps wire alo := ⟨h.1, h.2.1.cong (Nat.le_succ T) rfl (fun _ _ => rfl), h.2.2⟩

theorem small4 (x : Int32) : (r_X9_isIn x 4 = 0 ∧ ¬ x = 0 ∧ ¬ x = 1 ∧ ¬ x = 2 ∧ ¬ x = 3) ∨ (¬ r_X9_isIn x 4 = 0 ∧ (x = 0 ∨ x = 1 ∨ x = 2 ∨ x = 3)) := by
  by_cases c : r_X9_isIn x 4 = 0
  · refine Or.inl ⟨c, ?_, ?_, ?_, ?_⟩ <;> (intro e; rw [e] at c; exact absurd c (by decide))
  · obtain ⟨h1, h2⟩ := isIn_nat (n := 4) rfl (by decide) c
    refine Or.inr ⟨c, ?_⟩
    rcases (show x.toNatClampNeg = 0 ∨ x.toNatClampNeg = 1 ∨ x.toNatClampNeg = 2 ∨ x.toNatClampNeg = 3 by omega) with e | e | e | e <;> rw [e] at h1
    · exact Or.inl h1
    · exact Or.inr (Or.inl h1)
    · exact Or.inr (Or.inr (Or.inl h1))
    · exact Or.inr (Or.inr (Or.inr h1))

theorem eq_alone {T : Nat} {a : Nat → Int32} {w : Nat → Int64} {n f z : Nat} {kinds : Nat → Int32} {names : Nat → Int64} {seeds : Nat → Int32} {ones : Nat → Int64} {ofk : Nat → Int64} {sz : Int32} {there : Int64} {awake : Int64} {grp : Int64} {gm : Int64} {gb : Int64} {lf : Int32} {ir : Int32} {ln : Int64} {rows : Nat → Int64} {lens : Nat → Int32} {psz : Int32} {vals : Nat → Int32} {hold : Int64} {call : Int32} {fio : Int64} {fqu : Int32} {fal : Int32} {fco : Int32} {fgu : Int32} {ft : Nat → Int32} {fs : Int32} {qs : Int32} {als : Int32} {cs : Int32} {ps : Int32} {wire : Int32} {alo : Int32}  (h : Rel T a w n f z kinds names seeds ones ofk sz there awake grp gm gb lf ir ln rows lens psz vals hold call fio fqu fal fco fgu ft fs qs als cs ps wire alo)  : alo = a 6 := by
  exact h.2.2.2.2.2.2.2.symm

theorem eq_fork {T : Nat} {a : Nat → Int32} {w : Nat → Int64} {n f z : Nat} {kinds : Nat → Int32} {names : Nat → Int64} {seeds : Nat → Int32} {ones : Nat → Int64} {ofk : Nat → Int64} {sz : Int32} {there : Int64} {awake : Int64} {grp : Int64} {gm : Int64} {gb : Int64} {lf : Int32} {ir : Int32} {ln : Int64} {rows : Nat → Int64} {lens : Nat → Int32} {psz : Int32} {vals : Nat → Int32} {hold : Int64} {call : Int32} {fio : Int64} {fqu : Int32} {fal : Int32} {fco : Int32} {fgu : Int32} {ft : Nat → Int32} {fs : Int32} {qs : Int32} {als : Int32} {cs : Int32} {ps : Int32} {wire : Int32} {alo : Int32} (what : Int32) (h : Rel T a w n f z kinds names seeds ones ofk sz there awake grp gm gb lf ir ln rows lens psz vals hold call fio fqu fal fco fgu ft fs qs als cs ps wire alo)  : r_X8_fork lf ir what = r_X9_fork a what := by
  unfold r_X8_fork r_X9_fork
  rw [h.2.2.2.1.1, h.2.2.2.1.2.1]

theorem eq_heard {T : Nat} {a : Nat → Int32} {w : Nat → Int64} {n f z : Nat} {kinds : Nat → Int32} {names : Nat → Int64} {seeds : Nat → Int32} {ones : Nat → Int64} {ofk : Nat → Int64} {sz : Int32} {there : Int64} {awake : Int64} {grp : Int64} {gm : Int64} {gb : Int64} {lf : Int32} {ir : Int32} {ln : Int64} {rows : Nat → Int64} {lens : Nat → Int32} {psz : Int32} {vals : Nat → Int32} {hold : Int64} {call : Int32} {fio : Int64} {fqu : Int32} {fal : Int32} {fco : Int32} {fgu : Int32} {ft : Nat → Int32} {fs : Int32} {qs : Int32} {als : Int32} {cs : Int32} {ps : Int32} {wire : Int32} {alo : Int32} (what : Int32) (h : Rel T a w n f z kinds names seeds ones ofk sz there awake grp gm gb lf ir ln rows lens psz vals hold call fio fqu fal fco fgu ft fs qs als cs ps wire alo)  : r_X8_heard fqu fal fco fgu what = r_X9_heard a what := by
  obtain ⟨-, -, h7, h8, h9, h10⟩ := h.2.2.1
  unfold r_X8_heard r_X9_heard
  rcases small4 what with ⟨c, c0, c1, c2, c3⟩ | ⟨c, e⟩
  · rw [if_pos c, if_neg c0, if_neg c1, if_neg c2, if_neg c3]
  · rw [if_neg c]
    rcases e with e | e | e | e <;> subst e
    · rw [if_pos rfl]; exact h7.symm
    · rw [if_neg (by decide), if_pos rfl]; exact h8.symm
    · rw [if_neg (by decide), if_neg (by decide), if_pos rfl]; exact h9.symm
    · rw [if_neg (by decide), if_neg (by decide), if_neg (by decide), if_pos rfl]; exact h10.symm

theorem eq_cost {T : Nat} {a : Nat → Int32} {w : Nat → Int64} {n f z : Nat} {kinds : Nat → Int32} {names : Nat → Int64} {seeds : Nat → Int32} {ones : Nat → Int64} {ofk : Nat → Int64} {sz : Int32} {there : Int64} {awake : Int64} {grp : Int64} {gm : Int64} {gb : Int64} {lf : Int32} {ir : Int32} {ln : Int64} {rows : Nat → Int64} {lens : Nat → Int32} {psz : Int32} {vals : Nat → Int32} {hold : Int64} {call : Int32} {fio : Int64} {fqu : Int32} {fal : Int32} {fco : Int32} {fgu : Int32} {ft : Nat → Int32} {fs : Int32} {qs : Int32} {als : Int32} {cs : Int32} {ps : Int32} {wire : Int32} {alo : Int32} (what : Int32) (h : Rel T a w n f z kinds names seeds ones ofk sz there awake grp gm gb lf ir ln rows lens psz vals hold call fio fqu fal fco fgu ft fs qs als cs ps wire alo)  : r_X8_cost qs als cs ps what = r_X9_cost a what := by
  obtain ⟨-, -, -, -, h11, h12, h13, h14⟩ := h.2.2.2.2.2.1
  unfold r_X8_cost r_X9_cost
  by_cases c4 : what = 4
  · subst c4
    rw [if_neg (by decide), if_neg (by decide), if_neg (by decide), if_neg (by decide), if_pos rfl, if_pos rfl, h11, h12, h13, h14]
  · rw [if_neg c4]
    rcases small4 what with ⟨c, c0, c1, c2, c3⟩ | ⟨c, e⟩
    · rw [if_pos c, if_neg c0, if_neg c1, if_neg c2, if_neg c3, if_neg c4]
    · rw [if_neg c]
      rcases e with e | e | e | e <;> subst e
      · rw [if_pos rfl]; exact h11.symm
      · rw [if_neg (by decide), if_pos rfl]; exact h12.symm
      · rw [if_neg (by decide), if_neg (by decide), if_pos rfl]; exact h13.symm
      · rw [if_neg (by decide), if_neg (by decide), if_neg (by decide), if_pos rfl]; exact h14.symm

theorem eq_found {T : Nat} {a : Nat → Int32} {w : Nat → Int64} {n f z : Nat} {kinds : Nat → Int32} {names : Nat → Int64} {seeds : Nat → Int32} {ones : Nat → Int64} {ofk : Nat → Int64} {sz : Int32} {there : Int64} {awake : Int64} {grp : Int64} {gm : Int64} {gb : Int64} {lf : Int32} {ir : Int32} {ln : Int64} {rows : Nat → Int64} {lens : Nat → Int32} {psz : Int32} {vals : Nat → Int32} {hold : Int64} {call : Int32} {fio : Int64} {fqu : Int32} {fal : Int32} {fco : Int32} {fgu : Int32} {ft : Nat → Int32} {fs : Int32} {qs : Int32} {als : Int32} {cs : Int32} {ps : Int32} {wire : Int32} {alo : Int32} (kk : Int32) (h : Rel T a w n f z kinds names seeds ones ofk sz there awake grp gm gb lf ir ln rows lens psz vals hold call fio fqu fal fco fgu ft fs qs als cs ps wire alo)  : r_X7_foundAt ft fs kk = r_X9_found a kk := by
  obtain ⟨h15, hf, hfs, hft, -⟩ := h.2.2.2.2.2.1
  unfold r_X7_foundAt r_X9_found
  rw [h15, hfs]
  by_cases c : r_X9_isIn kk (nI f) = 0
  · rw [if_pos c]
    unfold r_X9_isIn at c
    by_cases c1 : kk < 0
    · rw [if_pos c1]
    · rw [if_neg c1] at c ⊢
      by_cases c2 : nI f ≤ kk
      · rw [if_pos c2]
      · rw [if_neg c2] at c; exact absurd c (by decide)
  · rw [if_neg c]
    obtain ⟨e1, e2⟩ := isIn_nat (n := f) rfl (by omega) c
    have c1 : ¬ kk < 0 := by rw [e1]; exact nI_pos (by omega)
    have c2 : ¬ nI f ≤ kk := by rw [e1]; exact nI_ge e2 (by omega)
    rw [if_neg c1, if_neg c2]
    exact (hft _ e2).symm

theorem eq_count {T : Nat} {a : Nat → Int32} {w : Nat → Int64} {n f z : Nat} {kinds : Nat → Int32} {names : Nat → Int64} {seeds : Nat → Int32} {ones : Nat → Int64} {ofk : Nat → Int64} {sz : Int32} {there : Int64} {awake : Int64} {grp : Int64} {gm : Int64} {gb : Int64} {lf : Int32} {ir : Int32} {ln : Int64} {rows : Nat → Int64} {lens : Nat → Int32} {psz : Int32} {vals : Nat → Int32} {hold : Int64} {call : Int32} {fio : Int64} {fqu : Int32} {fal : Int32} {fco : Int32} {fgu : Int32} {ft : Nat → Int32} {fs : Int32} {qs : Int32} {als : Int32} {cs : Int32} {ps : Int32} {wire : Int32} {alo : Int32} (what : Int32) (h : Rel T a w n f z kinds names seeds ones ofk sz there awake grp gm gb lf ir ln rows lens psz vals hold call fio fqu fal fco fgu ft fs qs als cs ps wire alo) (hT : T < 2 ^ 20) : r_X8_count sz there awake grp psz call fs what = r_X9_count a w n what := by
  unfold r_X8_count r_X9_count
  rw [lis_count h.1, bitCount_cq, cq_ge (fun t q1 q2 => h.1.Lbig q1 q2) 64 (by have := h.1.2.1; omega) (Nat.le_refl _), h.1.1, h.1.2.2.1, h.2.2.2.2.2.1.1, h.2.2.2.2.2.1.2.2.1, h.2.2.2.2.1.1, h.2.2.2.2.1.2.1, h.2.1.2.2.2.1]
  have e : (if r_X0_isUnderWay call = 0 then -1 else call) = call := by
    unfold r_X0_isUnderWay
    rcases h.2.1.2.2.2.2 with q | ⟨m, hm, q⟩
    · subst q; decide
    · have c : ¬ call < 0 := by rw [q]; exact nI_pos (by omega)
      rw [if_neg c, if_neg (by decide)]
  rw [e]

theorem eq_name {T : Nat} {a : Nat → Int32} {w : Nat → Int64} {n f z : Nat} {kinds : Nat → Int32} {names : Nat → Int64} {seeds : Nat → Int32} {ones : Nat → Int64} {ofk : Nat → Int64} {sz : Int32} {there : Int64} {awake : Int64} {grp : Int64} {gm : Int64} {gb : Int64} {lf : Int32} {ir : Int32} {ln : Int64} {rows : Nat → Int64} {lens : Nat → Int32} {psz : Int32} {vals : Nat → Int32} {hold : Int64} {call : Int32} {fio : Int64} {fqu : Int32} {fal : Int32} {fco : Int32} {fgu : Int32} {ft : Nat → Int32} {fs : Int32} {qs : Int32} {als : Int32} {cs : Int32} {ps : Int32} {wire : Int32} {alo : Int32} (tag : Int32) (h : Rel T a w n f z kinds names seeds ones ofk sz there awake grp gm gb lf ir ln rows lens psz vals hold call fio fqu fal fco fgu ft fs qs als cs ps wire alo)  : r_X8_name names sz tag = r_X9_name a w tag := by
  unfold r_X8_name r_X9_name
  rcases tag_of h.1 tag with ⟨c1, c2⟩ | ⟨t, ht, -, e2, c1, c2⟩
  · rw [if_pos c1, if_pos c2]
  · rw [if_neg c1, if_neg c2, e2]
    exact (h.1.2.2.2.1 t ht).2.2.2.2.2.1.symm

theorem sum_step : ∀ s, s < 256 → ∀ b : Bool, (if nI s >>> (7 &&& 31) = (if b = true then 1 else 0) then ((nI s <<< (1 &&& 31)) &&& 255) else (((nI s <<< (1 &&& 31)) &&& 255) ^^^ 49)) = (if nI s &&& 128 = 0 then (if 0 = (if b = true then (1 : Int32) else 0) then ((nI s <<< (1 &&& 31)) &&& 255) else (((nI s <<< (1 &&& 31)) &&& 255) ^^^ 49)) else (if 1 = (if b = true then (1 : Int32) else 0) then ((nI s <<< (1 &&& 31)) &&& 255) else (((nI s <<< (1 &&& 31)) &&& 255) ^^^ 49))) ∧ ∃ r : Fin 256, (if nI s >>> (7 &&& 31) = (if b = true then 1 else 0) then ((nI s <<< (1 &&& 31)) &&& 255) else (((nI s <<< (1 &&& 31)) &&& 255) ^^^ 49)) = nI r.val := by decide +kernel
theorem sum_eq (name : Int64) : ∀ (n k s : Nat), k + n ≤ 56 → s < 256 → lpF (b_X8_sumOf_4 name) n k (nI s) = lpF (b_X9_sumOf_4 name) n k (nI s)
  | 0, _, _, _, _ => rfl
  | n + 1, k, s, hk, hs => by
    show lpF (b_X8_sumOf_4 name) n (k + 1) (b_X8_sumOf_4 name k (nI s)) = lpF (b_X9_sumOf_4 name) n (k + 1) (b_X9_sumOf_4 name k (nI s))
    have e9 : b_X9_sumOf_4 name k (nI s) = (if nI s >>> (7 &&& 31) = (if bq name (63 - k) = true then 1 else 0) then ((nI s <<< (1 &&& 31)) &&& 255) else (((nI s <<< (1 &&& 31)) &&& 255) ^^^ 49)) := by
      unfold b_X9_sumOf_4
      rw [bitOf_bq _ (by omega)]
    have e8 : b_X8_sumOf_4 name k (nI s) = b_X9_sumOf_4 name k (nI s) := by
      rw [e9, (sum_step s hs (bq name (63 - k))).1]
      unfold b_X8_sumOf_4
      rw [isOneAt_bq _ (by omega)]
    obtain ⟨r, hr⟩ := (sum_step s hs (bq name (63 - k))).2
    rw [e8, e9, hr]
    exact sum_eq name n (k + 1) r.val (by omega) r.isLt
theorem sumOf_eq (name : Int64) : lpF (b_X8_sumOf_4 name) 56 0 0 = lpF (b_X9_sumOf_4 name) 56 0 0 := sum_eq name 56 0 0 (by decide) (by decide)
theorem eq_isName (name : Int64) : r_X8_isName name = r_X9_isName name := by
  unfold r_X8_isName r_X9_isName
  rw [sumOf_eq]
theorem isIn_b01 (x : Int64) {k : Nat} (hk : k < 64) : r_X8_isIn x (nI k) = b01 (bq x k) := isIn_bq x hk
theorem oneIf_b01 (b : Bool) : r_X8_oneIf (b01 b) = b01 b := by cases b <;> decide

theorem eq_tell {T : Nat} {a : Nat → Int32} {w : Nat → Int64} {n f z : Nat} {kinds : Nat → Int32} {names : Nat → Int64} {seeds : Nat → Int32} {ones : Nat → Int64} {ofk : Nat → Int64} {sz : Int32} {there : Int64} {awake : Int64} {grp : Int64} {gm : Int64} {gb : Int64} {lf : Int32} {ir : Int32} {ln : Int64} {rows : Nat → Int64} {lens : Nat → Int32} {psz : Int32} {vals : Nat → Int32} {hold : Int64} {call : Int32} {fio : Int64} {fqu : Int32} {fal : Int32} {fco : Int32} {fgu : Int32} {ft : Nat → Int32} {fs : Int32} {qs : Int32} {als : Int32} {cs : Int32} {ps : Int32} {wire : Int32} {alo : Int32} (tag what : Int32) (h : Rel T a w n f z kinds names seeds ones ofk sz there awake grp gm gb lf ir ln rows lens psz vals hold call fio fqu fal fco fgu ft fs qs als cs ps wire alo)  : r_X8_tell kinds seeds sz there awake grp vals hold ft f tag what = r_X9_tell a w f tag what := by
  unfold r_X8_tell r_X9_tell
  rcases tag_of h.1 tag with ⟨c1, c2⟩ | ⟨t, ht, e1, e2, c1, c2⟩
  · rw [if_pos c1, if_pos c2]
  · have hn := h.1.2.1
    obtain ⟨k1, -, k2, k3, k4, -⟩ := h.1.2.2.2.1 t ht
    rw [if_neg c1, if_neg c2, e2, k1, k2, k3, k4, h.1.lis ht, h.2.1.1 t ht]
    have i1 : r_X8_isIn there tag = b01 (bq there t) := by rw [e1]; exact isIn_b01 _ (by omega)
    have i2 : r_X8_isIn awake tag = b01 (bq awake t) := by rw [e1]; exact isIn_b01 _ (by omega)
    have i3 : r_X8_isIn ((there &&& awake) &&& grp) tag = b01 (bq (Lm there awake grp) t) := by rw [e1]; exact isIn_b01 _ (by omega)
    rw [i1, i2, i3, oneIf_b01, oneIf_b01, oneIf_b01]
    have i4 : (if b01 (bq (Lm there awake grp) t) = 0 then (0 : Int32) else 1) = b01 (bq (Lm there awake grp) t) := by cases bq (Lm there awake grp) t <;> decide
    rw [i4]
    have i5 : r_X0_of vals hold tag = if bq hold t = true then vals t else -1 := by
      unfold r_X0_of
      rw [e1, if_neg (nI_pos (by omega)), if_neg (nn_nle (x := 40) (a := 40) rfl rfl (by omega) (by decide)), isIn_b01 _ (by omega), nI_clamp (by omega)]
      cases bq hold t with
      | true => rw [if_neg (by decide), if_pos rfl]
      | false => rw [if_pos (by decide), if_neg (by decide)]
    have i6 : lpF (b_X7_timesFound_4 ft tag) f 0 0 = lpF (b_X9_tell_94 a tag) f 0 0 := by
      have key : ∀ (m k : Nat) (s : Int32), k + m ≤ f → lpF (b_X7_timesFound_4 ft tag) m k s = lpF (b_X9_tell_94 a tag) m k s := by
        intro m
        induction m with
        | zero => intro k s _; rfl
        | succ m ih =>
          intro k s hk
          show lpF (b_X7_timesFound_4 ft tag) m (k + 1) (b_X7_timesFound_4 ft tag k s) = lpF (b_X9_tell_94 a tag) m (k + 1) (b_X9_tell_94 a tag k s)
          have e : b_X7_timesFound_4 ft tag k s = b_X9_tell_94 a tag k s := by
            unfold b_X7_timesFound_4 b_X9_tell_94
            rw [h.2.2.2.2.2.1.2.2.2.1 k (by omega), Int32.add_zero]
          rw [e]
          exact ih (k + 1) _ (by omega)
      exact key f 0 0 (by omega)
    rw [i5, i6]
