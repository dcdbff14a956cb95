def FrA (a a' : Nat → Int32) : Prop := ∀ j, 540 ≤ j → a' j = a j
def FrW (w w' : Nat → Int64) : Prop := ∀ j, 124 ≤ j → w' j = w j
theorem FrA.refl (a : Nat → Int32) : FrA a a := fun _ _ => rfl
theorem FrW.refl (w : Nat → Int64) : FrW w w := fun _ _ => rfl
theorem FrA.upd {a a' : Nat → Int32} (h : FrA a a') {k : Nat} (hk : k < 540) (x : Int32) : FrA a (upd a' k x) := fun j hj => by rw [pk_un (by omega)]; exact h j hj
theorem FrW.upd {w w' : Nat → Int64} (h : FrW w w') {k : Nat} (hk : k < 124) (x : Int64) : FrW w (vp_updL w' k x) := fun j hj => by rw [pk_uLn (by omega)]; exact h j hj
theorem FrA.finds {a a' : Nat → Int32} (h : FrA a a') {f : Nat} (h15 : a' 15 = nI f) (hf : f ≤ 200) (x : Int32) : FrA a (u_X9_finds_a a' f x) := fun j hj => by rw [fr_finds h15 hf (by omega)]; exact h j hj
theorem FrA.counted {a a' : Nat → Int32} (h : FrA a a') (sp : Nat → Int32) (n : Nat) : FrA a (u_X9_counted_a a' sp n) := fun j hj => by rw [fr_X9_counted (by omega)]; exact h j hj
theorem lone_lt {a : Nat → Int32} {sp : Nat → Int32} {n : Nat} (hn : n ≤ 40) : (u_X9_slot_lone a sp n).toNatClampNeg < 40 := by
  rcases slot_lone_or a sp n with e | ⟨j, hj, e⟩
  · rw [e]; decide
  · rw [e, nI_clamp (by omega)]; omega
theorem FrA.sleeps {a a' : Nat → Int32} (h : FrA a a') {k : Nat} (hk : k < 40) : FrA a (u_X9_sleeps_a a' k) := fun j hj => by rw [fr_X9_sleeps (by omega)]; exact h j hj
theorem fra_wire (a : Nat → Int32) (kind : Int32) : FrA a (u_X9_wire_a a kind) := by
  unfold u_X9_wire_a
  split
  · exact FrA.refl a
  · exact (FrA.refl a).upd (by omega) _
theorem fra_tag {a : Nat → Int32} {w : Nat → Int64} {n : Nat} (h0 : a 0 = nI n) (hn : n ≤ 40) (kind : Int32) (name : Int64) (seed : Int32) : FrA a (u_X9_tag_a a w n kind name seed) ∧ FrW w (u_X9_tag_w a w n kind name) := by
  unfold u_X9_tag_a u_X9_tag_w
  by_cases c : n = 40
  · have e : a 0 = 40 := by rw [h0, c]; rfl
    rw [if_pos e, if_pos e]; exact ⟨FrA.refl a, FrW.refl w⟩
  · have e : ¬ a 0 = 40 := by rw [h0]; exact nn_ne (y := 40) (b := 40) rfl rfl c (by omega) (by omega)
    rw [if_neg e, if_neg e]
    refine ⟨?_, ?_⟩
    · split
      · exact FrA.refl a
      · split
        · exact FrA.refl a
        · split <;> exact (((((((FrA.refl a).upd (by omega) _).upd (by omega) _).upd (by omega) _).upd (by omega) _).upd (by omega) _).upd (by omega) _).upd (by omega) _
    · split
      · exact FrW.refl w
      · split
        · exact FrW.refl w
        · exact (FrW.refl w).upd (by omega) _
theorem fra_act {a : Nat → Int32} {n : Nat} (h0 : a 0 = nI n) (hn : n ≤ 40) (tag what : Int32) : FrA a (u_X9_act_a a tag what) := by
  unfold u_X9_act_a
  by_cases c : r_X9_isIn tag (a 0) = 0
  · rw [if_pos c]; exact FrA.refl a
  · obtain ⟨-, ht⟩ := isIn_nat (n := n) h0 (by omega) c
    rw [if_neg c]
    have u1 : ∀ x, FrA a (upd a (300 + 6 * tag.toNatClampNeg + 1) x) := fun x => (FrA.refl a).upd (by omega) x
    have u2 : ∀ x, FrA a (upd a (300 + 6 * tag.toNatClampNeg + 2) x) := fun x => (FrA.refl a).upd (by omega) x
    repeat' split
    all_goals first | exact FrA.refl a | exact u1 _ | exact u2 _
theorem frw_group (w : Nat → Int64) (mask bits : Int64) : FrW w (vp_updL (vp_updL w 0 mask) 1 bits) := ((FrW.refl w).upd (by omega) _).upd (by omega) _
theorem fra_pass {a : Nat → Int32} {w : Nat → Int64} {n f : Nat} (h15 : a 15 = nI f) (hf : f ≤ 200) (inn : Nat → Int32) : FrA a (u_X9_pass_a a w inn n f) ∧ FrW w (u_X9_pass_w a w inn n) := by
  unfold u_X9_pass_a u_X9_pass_w
  refine ⟨?_, ?_⟩
  · split
    · split
      · exact ((((FrA.refl a).upd (by omega) _).upd (by omega) _).upd (by omega) _).finds (by rw [pk_un (by omega), pk_un (by omega), pk_un (by omega)]; exact h15) hf _
      · exact ((((FrA.refl a).upd (by omega) _).upd (by omega) _).upd (by omega) _).finds (by rw [pk_un (by omega), pk_un (by omega), pk_un (by omega)]; exact h15) hf _
    · exact (((FrA.refl a).upd (by omega) _).upd (by omega) _).upd (by omega) _
  · split
    · exact (FrW.refl w).upd (by omega) _
    · exact FrW.refl w
theorem fra_verify (a : Nat → Int32) (w : Nat → Int64) (inn : Nat → Int32) (n : Nat) (name : Int64) : FrA a (u_X9_verify_a a w inn n name) := (FrA.refl a).upd (by omega) _
theorem fra_ask (a : Nat → Int32) (w : Nat → Int64) (sp : Nat → Int32) (n : Nat) (bits : Int64) (m_ : Int32) : FrA a (u_X9_ask_a a w sp n bits m_) := by
  unfold u_X9_ask_a
  split
  · exact FrA.refl a
  · split
    · exact ((FrA.refl a).counted _ _).upd (by omega) _
    · exact FrA.refl a
theorem fra_descend (a : Nat → Int32) : FrA a (upd (upd (upd a 4 0) (20 + 0) 0) 4 (nI (0 + 1))) := (((FrA.refl a).upd (by omega) _).upd (by omega) _).upd (by omega) _
theorem frw_descend (w : Nat → Int64) : FrW w (vp_updL w (4 + 0) 0) := (FrW.refl w).upd (by omega) _
theorem fra_step {a : Nat → Int32} {w : Nat → Int64} {n f z : Nat} (h15 : a 15 = nI f) (hf : f ≤ 200) (hz : z ≤ 65) (sp : Nat → Int32) : FrA a (u_X9_step_a a w sp n f z) ∧ FrW w (u_X9_step_w a w sp n z) := by
  have hA : ∀ sp', FrA a (upd (u_X9_counted_a (upd a 4 (nI (z - 1))) sp' n) 6 (u_X9_slot_lone (upd a 4 (nI (z - 1))) sp' n)) := fun sp' => (((FrA.refl a).upd (by omega) _).counted _ _).upd (by omega) _
  have hF : ∀ sp', FrA a (u_X9_finds_a (upd (u_X9_counted_a (upd a 4 (nI (z - 1))) sp' n) 6 (u_X9_slot_lone (upd a 4 (nI (z - 1))) sp' n)) f (u_X9_slot_lone (upd a 4 (nI (z - 1))) sp' n)) := fun sp' => (hA sp').finds (by rw [pk_un (by omega), fr_X9_counted (by omega), pk_un (by omega)]; exact h15) hf _
  unfold u_X9_step_a u_X9_step_w
  refine ⟨?_, ?_⟩
  · split
    · exact FrA.refl a
    · split
      · split
        · split
          · exact hF _
          · exact ((((hF _).upd (by omega) _).upd (by omega) _).upd (by omega) _).upd (by omega) _
        · exact hF _
      · split
        · split
          · exact hA _
          · exact ((((hA _).upd (by omega) _).upd (by omega) _).upd (by omega) _).upd (by omega) _
        · exact hA _
  · split
    · exact FrW.refl w
    · split
      · split
        · exact FrW.refl w
        · exact ((FrW.refl w).upd (by omega) _).upd (by omega) _
      · exact FrW.refl w

theorem fra_begin {a : Nat → Int32} {w : Nat → Int64} {n : Nat} {kinds : Nat → Int32} {names : Nat → Int64} {seeds : Nat → Int32} {ones ofk : Nat → Int64} {sz : Int32} {there awake grp gm gb : Int64} (h : RelT a w n kinds names seeds ones ofk sz there awake grp gm gb) : FrA a (lpF (b_X9_begin_11 w) n 0 (0, upd a 5 0)).2 := fun j hj => by
  have hn := h.2.1
  rw [(begin_loop h).2.1 j (fun t ht => by omega), pk_un (by omega)]
theorem fra_frames {a : Nat → Int32} {n : Nat} (hn : n ≤ 40) : FrA a (lpF b_X9_frames_2 n 0 a) := fun j hj => (frames_loop a n).1 j (fun t ht => by omega)
theorem fra_split {a : Nat → Int32} {w : Nat → Int64} {n f : Nat} (h15 : a 15 = nI f) (hf : f ≤ 200) (hn : n ≤ 40) (sp : Nat → Int32) : FrA a (u_X9_split_a a w sp n f) := by
  unfold u_X9_split_a
  generalize lpF (b_X9_split_13 a w) n 0 sp = SP
  obtain ⟨-, B2⟩ := blk_loop (s75_out a w n SP) (s75_in a w n SP) (upd (u_X9_counted_a a SP n) 6 (u_X9_slot_lone a SP n)) n
  have hL : FrA a (lpF (b_X9_split_75 a w n SP) n 0 (upd (u_X9_counted_a a SP n) 6 (u_X9_slot_lone a SP n))) := fun j hj => by
    rw [B2 j (by omega), pk_un (by omega), fr_X9_counted (by omega)]
  have h15' : lpF (b_X9_split_75 a w n SP) n 0 (upd (u_X9_counted_a a SP n) 6 (u_X9_slot_lone a SP n)) 15 = nI f := by
    rw [B2 15 (by omega), pk_un (by omega), fr_X9_counted (by omega)]; exact h15
  have hlo := lone_lt (a := a) (sp := SP) hn
  generalize lpF (b_X9_split_75 a w n SP) n 0 (upd (u_X9_counted_a a SP n) 6 (u_X9_slot_lone a SP n)) = LL at *
  have h3 : ∀ x, FrA a (u_X9_sleeps_a (u_X9_finds_a (upd (upd LL 5 x) (300 + 6 * (u_X9_slot_lone a SP n).toNatClampNeg + 3) (-1)) f (u_X9_slot_lone a SP n)) (u_X9_slot_lone a SP n).toNatClampNeg) := fun x => (((hL.upd (by omega) _).upd (by omega) _).finds (by rw [pk_un (by omega), pk_un (by omega)]; exact h15') hf _).sleeps hlo
  split
  · split
    · split
      · exact h3 _
      · exact hL.upd (by omega) _
    · split
      · exact h3 _
      · exact hL.upd (by omega) _
  · exact FrA.refl a
theorem fra_frame {a : Nat → Int32} {w : Nat → Int64} {n : Nat} {kinds : Nat → Int32} {names : Nat → Int64} {seeds : Nat → Int32} {ones ofk : Nat → Int64} {sz : Int32} {there awake grp gm gb : Int64} (h : RelT a w n kinds names seeds ones ofk sz there awake grp gm gb) {fio : Int64} {fqu fal fco fgu : Int32} (hF : RelF a n fio fqu fal fco fgu) {f : Nat} (h15 : a 15 = nI f) (hf : f ≤ 200) (sp : Nat → Int32) (lone : Int32) (dr : Nat → Int32) (len : Int32) : FrA a (u_X9_frame_a a w sp lone dr n len) := by
  have hn := h.2.1
  unfold u_X9_frame_a
  obtain ⟨-, m2, -⟩ := frame15_eq h hF len dr
  generalize lpF (b_X9_frame_15 w len) n 0 (a, dr) = D at *
  have e76 : lpF b_X9_frame_76 3 0 D.1 = upd (upd (upd D.1 (7 + 0) 0) (7 + 1) 0) (7 + 2) 0 := rfl
  have hD : FrA a D.1 := fun j hj => m2 j (fun t ht => by omega)
  have key := lpF_inv (body := b_X9_frame_101 n D.2) (fun _ σ => FrA a σ.2.1 ∧ ∃ f', f' ≤ 200 ∧ σ.2.1 15 = nI f') len.toNatClampNeg 0 (0, lpF b_X9_frame_76 3 0 D.1, sp, lone) ⟨by
      show FrA a (lpF b_X9_frame_76 3 0 D.1)
      rw [e76]; exact ((hD.upd (by omega) _).upd (by omega) _).upd (by omega) _, f, hf, by
      show lpF b_X9_frame_76 3 0 D.1 15 = _
      rw [e76, pk_un (by omega), pk_un (by omega), pk_un (by omega), m2 15 (fun t ht => by omega)]; exact h15⟩ (fun s σ _ _ hi => by
    obtain ⟨i1, f', hf', i2⟩ := hi
    have hle : r_X9_counted σ.2.1 (lpF (b_X9_frame_109 D.2 s) n 0 σ.2.2.1) n ≤ 2 := le_X9_slot _ _ _
    have hlo := lone_lt (a := σ.2.1) (sp := lpF (b_X9_frame_109 D.2 s) n 0 σ.2.2.1) hn
    unfold b_X9_frame_101
    generalize lpF (b_X9_frame_109 D.2 s) n 0 σ.2.2.1 = SP at *
    have k1 : FrA a (upd (u_X9_counted_a σ.2.1 SP n) (7 + r_X9_counted σ.2.1 SP n) ((u_X9_counted_a σ.2.1 SP n) (7 + r_X9_counted σ.2.1 SP n) + 1)) := (i1.counted _ _).upd (by omega) _
    have k2 : upd (u_X9_counted_a σ.2.1 SP n) (7 + r_X9_counted σ.2.1 SP n) ((u_X9_counted_a σ.2.1 SP n) (7 + r_X9_counted σ.2.1 SP n) + 1) 15 = nI f' := by rw [pk_un (by omega), fr_X9_counted (by omega)]; exact i2
    rw [i2, nI_clamp (by omega)]
    split
    · refine ⟨((k1.finds k2 hf' _).upd (by omega) _).sleeps hlo, fN f', fN_le hf', ?_⟩
      show u_X9_sleeps_a _ _ 15 = _
      rw [fr_X9_sleeps (by omega), pk_un (by omega)]
      exact fin_15 k2 hf'
    · exact ⟨k1, f', hf', k2⟩)
  generalize lpF (b_X9_frame_101 n D.2) len.toNatClampNeg 0 (0, lpF b_X9_frame_76 3 0 D.1, sp, lone) = W9 at *
  split
  · exact FrA.refl a
  · split
    · split
      · split <;> exact key.1.upd (by omega) _
      · exact key.1.upd (by omega) _
    · exact FrA.refl a
/-- what image() of the model does -/
theorem image_a (a : Nat → Int32) {kk : Int32} {k : Nat} (hk : kk.toNatClampNeg = k) : ∀ j, lpF (b_X9_image_19 kk) 540 0 a j = if 540 * (k + 1) ≤ j ∧ j < 540 * (k + 1) + 540 then a (j - 540 * (k + 1)) else a j := by
  have key := lpF_inv (body := b_X9_image_19 kk) (fun c σ => c ≤ 540 → ∀ j, σ j = if 540 * (k + 1) ≤ j ∧ j < 540 * (k + 1) + c then a (j - 540 * (k + 1)) else a j) 540 0 a (fun _ j => by rw [if_neg (by omega)]) (fun c σ _ _ hi hc j => by
    have i := hi (by omega)
    unfold b_X9_image_19
    rw [hk]
    by_cases e : j = 540 * (k + 1) + c
    · rw [e, pk_us, i c, if_neg (by omega), if_pos (by omega), show 540 * (k + 1) + c - 540 * (k + 1) = c by omega]
    · rw [pk_un e, i j]
      by_cases d : 540 * (k + 1) ≤ j ∧ j < 540 * (k + 1) + c
      · rw [if_pos d, if_pos (by omega)]
      · rw [if_neg d, if_neg (by omega)])
  rw [Nat.zero_add] at key
  exact key (Nat.le_refl _)
theorem image_w (w : Nat → Int64) {kk : Int32} {k : Nat} (hk : kk.toNatClampNeg = k) : ∀ j, lpF (b_X9_image_54 kk) 124 0 w j = if 124 * (k + 1) ≤ j ∧ j < 124 * (k + 1) + 124 then w (j - 124 * (k + 1)) else w j := by
  have key := lpF_inv (body := b_X9_image_54 kk) (fun c σ => c ≤ 124 → ∀ j, σ j = if 124 * (k + 1) ≤ j ∧ j < 124 * (k + 1) + c then w (j - 124 * (k + 1)) else w j) 124 0 w (fun _ j => by rw [if_neg (by omega)]) (fun c σ _ _ hi hc j => by
    have i := hi (by omega)
    unfold b_X9_image_54
    rw [hk]
    by_cases e : j = 124 * (k + 1) + c
    · rw [e, pk_uLs, i c, if_neg (by omega), if_pos (by omega), show 124 * (k + 1) + c - 124 * (k + 1) = c by omega]
    · rw [pk_uLn e, i j]
      by_cases d : 124 * (k + 1) ≤ j ∧ j < 124 * (k + 1) + c
      · rw [if_pos d, if_pos (by omega)]
      · rw [if_neg d, if_neg (by omega)])
  rw [Nat.zero_add] at key
  exact key (Nat.le_refl _)
theorem again_a (a : Nat → Int32) {kk : Int32} {k : Nat} (hk : kk.toNatClampNeg = k) : ∀ j, lpF (b_X9_again_21 kk) 540 0 a j = if j < 540 then a (540 * (k + 1) + j) else a j := by
  have key := lpF_inv (body := b_X9_again_21 kk) (fun c σ => c ≤ 540 → ∀ j, σ j = if j < c then a (540 * (k + 1) + j) else a j) 540 0 a (fun _ j => by rw [if_neg (by omega)]) (fun c σ _ _ hi hc j => by
    have i := hi (by omega)
    unfold b_X9_again_21
    rw [hk]
    by_cases e : j = c
    · rw [e, pk_us, i (540 * (k + 1) + c), if_neg (by omega), if_pos (by omega)]
    · rw [pk_un e, i j]
      by_cases d : j < c
      · rw [if_pos d, if_pos (by omega)]
      · rw [if_neg d, if_neg (by omega)])
  rw [Nat.zero_add] at key
  exact key (Nat.le_refl _)
theorem again_w (w : Nat → Int64) {kk : Int32} {k : Nat} (hk : kk.toNatClampNeg = k) : ∀ j, lpF (b_X9_again_56 kk) 124 0 w j = if j < 124 then w (124 * (k + 1) + j) else w j := by
  have key := lpF_inv (body := b_X9_again_56 kk) (fun c σ => c ≤ 124 → ∀ j, σ j = if j < c then w (124 * (k + 1) + j) else w j) 124 0 w (fun _ j => by rw [if_neg (by omega)]) (fun c σ _ _ hi hc j => by
    have i := hi (by omega)
    unfold b_X9_again_56
    rw [hk]
    by_cases e : j = c
    · rw [e, pk_uLs, i (124 * (k + 1) + c), if_neg (by omega), if_pos (by omega)]
    · rw [pk_uLn e, i j]
      by_cases d : j < c
      · rw [if_pos d, if_pos (by omega)]
      · rw [if_neg d, if_neg (by omega)])
  rw [Nat.zero_add] at key
  exact key (Nat.le_refl _)
theorem cpy_at {α : Type} (f g : Nat → α) {n i : Nat} (h : i < n) : va_cpy f g 0 0 n i = f i := by
  show (if 0 ≤ i ∧ i < 0 + n then f (0 + (i - 0)) else g i) = _
  rw [if_pos (by omega), show 0 + (i - 0) = i by omega]
theorem Rel.move {T : Nat} {a : Nat → Int32} {w : Nat → Int64} {n f z : Nat} {kinds : Nat → Int32} {names : Nat → Int64} {seeds : Nat → Int32} {ones : Nat → Int64} {ofk : Nat → Int64} {sz : Int32} {there : Int64} {awake : Int64} {grp : Int64} {gm : Int64} {gb : Int64} {lf : Int32} {ir : Int32} {ln : Int64} {rows : Nat → Int64} {lens : Nat → Int32} {psz : Int32} {vals : Nat → Int32} {hold : Int64} {call : Int32} {fio : Int64} {fqu : Int32} {fal : Int32} {fco : Int32} {fgu : Int32} {ft : Nat → Int32} {fs : Int32} {qs : Int32} {als : Int32} {cs : Int32} {ps : Int32} {wire : Int32} {alo : Int32} (h : Rel T a w n f z kinds names seeds ones ofk sz there awake grp gm gb lf ir ln rows lens psz vals hold call fio fqu fal fco fgu ft fs qs als cs ps wire alo) {T' : Nat} {a' : Nat → Int32} {w' : Nat → Int64} (hT : T ≤ T') (ha : ∀ j, j < 540 → a' j = a j) (hw : ∀ j, j < 124 → w' j = w j) : Rel T' a' w' n f z kinds names seeds ones ofk sz there awake grp gm gb lf ir ln rows lens psz vals hold call fio fqu fal fco fgu ft fs qs als cs ps wire alo := by
  have hn := h.1.2.1
  obtain ⟨r1, r2, r3, r4, r5, r6, r7⟩ := h
  exact ⟨r1.cong (ha _ (by omega)) (fun t _ => ⟨ha _ (by omega), ha _ (by omega), ha _ (by omega), ha _ (by omega)⟩) (hw _ (by omega)) (hw _ (by omega)) (fun t _ => hw _ (by omega)), r2.cong hT (ha _ (by omega)) (fun t _ => ha _ (by omega)), r3.cong (ha _ (by omega)) (ha _ (by omega)) (ha _ (by omega)) (ha _ (by omega)) (fun t _ => ha _ (by omega)), r4.cong (ha _ (by omega)) (ha _ (by omega)) (hw _ (by omega)), r5.cong (ha _ (by omega)) (fun i _ => ha _ (by omega)) (fun i _ => hw _ (by omega)), r6.cong (ha _ (by omega)) (ha _ (by omega)) (ha _ (by omega)) (ha _ (by omega)) (ha _ (by omega)) (fun i _ => ha _ (by omega)), r7.cong (ha _ (by omega)) (ha _ (by omega))⟩

theorem Rel.copy {T : Nat} {a : Nat → Int32} {w : Nat → Int64} {n f z : Nat} {kinds : Nat → Int32} {names : Nat → Int64} {seeds : Nat → Int32} {ones : Nat → Int64} {ofk : Nat → Int64} {sz : Int32} {there : Int64} {awake : Int64} {grp : Int64} {gm : Int64} {gb : Int64} {lf : Int32} {ir : Int32} {ln : Int64} {rows : Nat → Int64} {lens : Nat → Int32} {psz : Int32} {vals : Nat → Int32} {hold : Int64} {call : Int32} {fio : Int64} {fqu : Int32} {fal : Int32} {fco : Int32} {fgu : Int32} {ft : Nat → Int32} {fs : Int32} {qs : Int32} {als : Int32} {cs : Int32} {ps : Int32} {wire : Int32} {alo : Int32} (h : Rel T a w n f z kinds names seeds ones ofk sz there awake grp gm gb lf ir ln rows lens psz vals hold call fio fqu fal fco fgu ft fs qs als cs ps wire alo) (kinds0 : Nat → Int32) (names0 : Nat → Int64) (seeds0 : Nat → Int32) (ones0 : Nat → Int64) (ofk0 : Nat → Int64) (rows0 : Nat → Int64) (lens0 : Nat → Int32) (vals0 : Nat → Int32) (ft0 : Nat → Int32) : Rel T a w n f z (va_cpy kinds kinds0 0 0 40) (va_cpy names names0 0 0 40) (va_cpy seeds seeds0 0 0 40) (va_cpy ones ones0 0 0 64) (va_cpy ofk ofk0 0 0 6) sz there awake grp gm gb lf ir ln (va_cpy rows rows0 0 0 65) (va_cpy lens lens0 0 0 65) psz (va_cpy vals vals0 0 0 40) hold call fio fqu fal fco fgu (va_cpy ft ft0 0 0 200) fs qs als cs ps wire alo := by
  obtain ⟨⟨q1, q2, q3, q4, q5, q6, q7, q8⟩, ⟨c1, c2, c3, c4⟩, r3, r4, ⟨l1, l2, l3, l4⟩, ⟨y1, y2, y3, y4, y5⟩, r7⟩ := h
  refine ⟨⟨q1, q2, q3, fun t ht => ?_, fun t h1 h2 => ?_, q6, q7, fun s t hs ht e => ?_⟩, ⟨fun t ht => ?_, fun t ht hb => ?_, c3, c4⟩, r3, r4, ⟨l1, l2, fun i hi => ?_, fun i hi => ?_⟩, ⟨y1, y2, y3, fun i hi => ?_, y5⟩, r7⟩
  · rw [cpy_at _ _ (show t < 40 by omega), cpy_at _ _ (show t < 40 by omega), cpy_at _ _ (show t < 40 by omega)]
    obtain ⟨d0, d1, d2, d3, d4, d5, d6, d7, d8⟩ := q4 t ht
    exact ⟨d0, d1, d2, d3, d4, d5, fun j hj => by rw [cpy_at _ _ hj]; exact d6 j hj, fun b hb => by rw [cpy_at _ _ hb]; exact d7 b hb, d8⟩
  · obtain ⟨d1, d2, d3, d4, d5⟩ := q5 t h1 h2
    exact ⟨d1, d2, d3, fun j hj => by rw [cpy_at _ _ hj]; exact d4 j hj, fun b hb => by rw [cpy_at _ _ hb]; exact d5 b hb⟩
  · rw [cpy_at _ _ (show s < 40 by omega), cpy_at _ _ (show t < 40 by omega)] at e
    exact q8 s t hs ht e
  · rw [cpy_at _ _ (show t < 40 by omega)]; exact c1 t ht
  · rw [cpy_at _ _ (show t < 40 by omega), cpy_at _ _ (show t < 40 by omega)]; exact c2 t ht hb
  · have := pJ_wt l4
    rw [cpy_at _ _ (show i < 65 by omega), cpy_at _ _ (show i < 65 by omega)]; exact l3 i hi
  · have := pJ_wt l4
    rw [cpy_at _ _ (show i < 65 by omega)]; exact l4 i hi
  · rw [cpy_at _ _ (show i < 200 by omega)]; exact y4 i hi
