def sumC (ones ofk : Nat → Int64) (wire : Int32) (d : Nat) : Nat → (Nat → Int64) → Nat
  | 0, _ => 0
  | i + 1, g => sumC ones ofk wire d i g + (tq ones ofk wire d (g i) - 1)
def sumQ : Nat → (Nat → Int64) → Nat
  | 0, _ => 0
  | i + 1, g => sumQ i g + cq (g i) 64
theorem sumC_cong (ones ofk : Nat → Int64) (wire : Int32) (d : Nat) : ∀ (k : Nat) {g g' : Nat → Int64}, (∀ i, i < k → g i = g' i) → sumC ones ofk wire d k g = sumC ones ofk wire d k g'
  | 0, _, _, _ => rfl
  | k + 1, g, g', h => by
    show sumC ones ofk wire d k g + _ = sumC ones ofk wire d k g' + _
    rw [sumC_cong ones ofk wire d k (fun i hi => h i (by omega)), h k (by omega)]
theorem sumQ_cong : ∀ (k : Nat) {g g' : Nat → Int64}, (∀ i, i < k → g i = g' i) → sumQ k g = sumQ k g'
  | 0, _, _, _ => rfl
  | k + 1, g, g', h => by
    show sumQ k g + _ = sumQ k g' + _
    rw [sumQ_cong k (fun i hi => h i (by omega)), h k (by omega)]
theorem sumC_0 (ones ofk : Nat → Int64) (wire : Int32) (g : Nat → Int64) : ∀ k, sumC ones ofk wire 0 k g = 0
  | 0 => rfl
  | k + 1 => by
    show sumC ones ofk wire 0 k g + (1 - 1) = 0
    rw [sumC_0 ones ofk wire g k]
theorem sumQ_mono (g : Nat → Int64) : ∀ {j k : Nat}, j ≤ k → sumQ j g ≤ sumQ k g
  | j, 0, h => by
    have : j = 0 := by omega
    subst this; exact Nat.le_refl _
  | j, k + 1, h => by
    by_cases e : j = k + 1
    · subst e; exact Nat.le_refl _
    · have := sumQ_mono g (j := j) (k := k) (by omega)
      show sumQ j g ≤ sumQ k g + _
      omega
theorem cq_mono {x y : Int64} (h : ∀ t, bq x t = true → bq y t = true) : ∀ k, cq x k ≤ cq y k
  | 0 => Nat.le_refl _
  | k + 1 => by
    have := cq_mono h k
    show cq x k + (if bq x k = true then 1 else 0) ≤ cq y k + (if bq y k = true then 1 else 0)
    by_cases c : bq x k = true
    · rw [if_pos c, if_pos (h k c)]; omega
    · rw [if_neg c]; omega
theorem cl_two {ofk : Nat → Int64} {wire : Int32} {s : Int64} (h : (r_X8_kindOfSlot (r_X8_audibleOf ofk wire s) = 2)) : 2 ≤ cq s 64 := by
  have h1 := cq_mono (fun t => @audible_sub ofk wire s t) 64
  rw [kind_bq] at h
  by_cases d1 : cq (r_X8_audibleOf ofk wire s) 64 = 0
  · rw [if_pos d1] at h; cases h
  · rw [if_neg d1] at h
    by_cases d2 : cq (r_X8_audibleOf ofk wire s) 64 = 1
    · rw [if_pos d2] at h; cases h
    · omega
theorem sumQ_ge {ofk : Nat → Int64} {wire : Int32} {g : Nat → Int64} : ∀ {k : Nat}, (∀ i, i < k → (r_X8_kindOfSlot (r_X8_audibleOf ofk wire (g i)) = 2)) → 2 * k ≤ sumQ k g
  | 0, _ => Nat.le_refl _
  | k + 1, h => by
    have h1 := sumQ_ge (k := k) (fun i hi => h i (by omega))
    have h2 := cl_two (h k (by omega))
    show 2 * (k + 1) ≤ sumQ k g + cq (g k) 64
    omega
theorem tq_leaf (ones ofk : Nat → Int64) (wire : Int32) {s : Int64} (h : ¬ (r_X8_kindOfSlot (r_X8_audibleOf ofk wire s) = 2)) : ∀ d, tq ones ofk wire d s - 1 = 0
  | 0 => rfl
  | d + 1 => by
    show (1 + if r_X8_kindOfSlot (r_X8_audibleOf ofk wire s) = 2 then _ else 0) - 1 = 0
    rw [if_neg h]
theorem way_cq (ones : Nat → Int64) (s : Int64) (k : Nat) : cq s 64 = cq (wayS ones s k false) 64 + cq (wayS ones s k true) 64 := by
  have e : s &&& (s &&& ones k) = s &&& ones k := bq_ext (fun t _ => by rw [bq_and, bq_and]; cases bq s t <;> cases bq (ones k) t <;> rfl)
  have := cq_and_split s (s &&& ones k) 64 (Nat.le_refl _)
  rw [e] at this
  exact this
theorem adm (ones ofk : Nat → Int64) (wire : Int32) (nx : Nat → Int64) {ns : Int32} {x : Nat} (s : Int64) (hns : ns = nI x) (hx : x ≤ 20) (hc : (r_X8_kindOfSlot (r_X8_audibleOf ofk wire s) = 2) → x < 20) : ∃ x' : Nat, u_X8_admitCrowd_ns ns ofk wire x s = nI x' ∧ x' ≤ 20 ∧ (∀ i, i < x → u_X8_admitCrowd_nx nx ns ofk wire x s i = nx i) ∧ (((r_X8_kindOfSlot (r_X8_audibleOf ofk wire s) = 2) ∧ x' = x + 1 ∧ u_X8_admitCrowd_nx nx ns ofk wire x s x = s) ∨ (¬ (r_X8_kindOfSlot (r_X8_audibleOf ofk wire s) = 2) ∧ x' = x)) := by
  have hle := le_kind (r_X8_audibleOf ofk wire s)
  unfold u_X8_admitCrowd_ns u_X8_admitCrowd_nx
  by_cases c : (r_X8_kindOfSlot (r_X8_audibleOf ofk wire s) = 2)
  · have hx20 := hc c
    have e20 : ¬ 20 ≤ ns := by rw [hns]; exact nn_nle (x := 20) (a := 20) rfl rfl hx20 (by decide)
    rw [if_pos (by rw [c]; rfl), if_pos (by rw [c]; rfl)]
    unfold u_X1_admit_ns u_X1_admit_nx
    rw [if_neg e20, if_neg e20]
    exact ⟨x + 1, rfl, by omega, fun i hi => pk_uLn (by omega), Or.inl ⟨c, rfl, pk_uLs⟩⟩
  · have e2 : ¬ nI (r_X8_kindOfSlot (r_X8_audibleOf ofk wire s)) = 2 := nn_ne (y := 2) (b := 2) rfl rfl c (by omega) (by omega)
    rw [if_neg e2, if_neg e2]
    exact ⟨x, hns, hx, fun _ _ => rfl, Or.inr ⟨c, rfl⟩⟩
/-- what two admissions leave -/
theorem adm_sum (ones ofk : Nat → Int64) (wire : Int32) (d : Nat) {nx nx' : Nat → Int64} {x x' : Nat} {s : Int64} (hcl : ∀ i, i < x → (r_X8_kindOfSlot (r_X8_audibleOf ofk wire (nx i)) = 2)) (h3 : ∀ i, i < x → nx' i = nx i) (h4 : ((r_X8_kindOfSlot (r_X8_audibleOf ofk wire s) = 2) ∧ x' = x + 1 ∧ nx' x = s) ∨ (¬ (r_X8_kindOfSlot (r_X8_audibleOf ofk wire s) = 2) ∧ x' = x)) : (∀ i, i < x' → (r_X8_kindOfSlot (r_X8_audibleOf ofk wire (nx' i)) = 2)) ∧ sumQ x' nx' ≤ sumQ x nx + cq s 64 ∧ sumC ones ofk wire d x' nx' = sumC ones ofk wire d x nx + (tq ones ofk wire d s - 1) := by
  rcases h4 with ⟨c, e, es⟩ | ⟨c, e⟩
  · subst e
    refine ⟨fun i hi => ?_, ?_, ?_⟩
    · by_cases g : i = x
      · subst g; rw [es]; exact c
      · rw [h3 i (by omega)]; exact hcl i (by omega)
    · show sumQ x nx' + cq (nx' x) 64 ≤ _
      rw [es, sumQ_cong x h3]
      exact Nat.le_refl _
    · show sumC ones ofk wire d x nx' + (tq ones ofk wire d (nx' x) - 1) = _
      rw [es, sumC_cong ones ofk wire d x h3]
  · subst e
    refine ⟨fun i hi => by rw [h3 i hi]; exact hcl i hi, ?_, ?_⟩
    · rw [sumQ_cong x' h3]; omega
    · rw [sumC_cong ones ofk wire d x' h3, tq_leaf ones ofk wire c d]; omega
theorem bfs_in (ones ofk : Nat → Int64) (wire : Int32) {prv : Nat → Int64} {czv : Int32} {x0 bt : Nat} (hz : czv = nI x0) (hx0 : x0 ≤ 20) (hb : bt < 64) (hcl : ∀ i, i < x0 → (r_X8_kindOfSlot (r_X8_audibleOf ofk wire (prv i)) = 2)) (hQ : sumQ x0 prv ≤ 40) {q : Int32} {Q0 : Nat} (hq : q = nI Q0) (nx : Nat → Int64) : ∃ Q x, (lpF (b_X8_nodes_43 ones ofk wire prv czv bt) x0 0 (q, nx, 0)).1 = nI Q ∧ (lpF (b_X8_nodes_43 ones ofk wire prv czv bt) x0 0 (q, nx, 0)).2.2 = nI x ∧ x ≤ 20 ∧ (∀ i, i < x → (r_X8_kindOfSlot (r_X8_audibleOf ofk wire ((lpF (b_X8_nodes_43 ones ofk wire prv czv bt) x0 0 (q, nx, 0)).2.1 i)) = 2)) ∧ sumQ x (lpF (b_X8_nodes_43 ones ofk wire prv czv bt) x0 0 (q, nx, 0)).2.1 ≤ sumQ x0 prv ∧ Q + sumC ones ofk wire (63 - bt) x (lpF (b_X8_nodes_43 ones ofk wire prv czv bt) x0 0 (q, nx, 0)).2.1 = Q0 + sumC ones ofk wire (64 - bt) x0 prv := by
  have key := lpF_inv (body := b_X8_nodes_43 ones ofk wire prv czv bt) (fun k σ => k ≤ x0 → ∃ Q x, σ.1 = nI Q ∧ σ.2.2 = nI x ∧ x ≤ 20 ∧ (∀ i, i < x → (r_X8_kindOfSlot (r_X8_audibleOf ofk wire (σ.2.1 i)) = 2)) ∧ sumQ x σ.2.1 ≤ sumQ k prv ∧ Q + sumC ones ofk wire (63 - bt) x σ.2.1 = Q0 + sumC ones ofk wire (64 - bt) k prv) x0 0 (q, nx, 0) (fun _ => ⟨Q0, 0, hq, rfl, by omega, fun i hi => absurd hi (Nat.not_lt_zero i), Nat.le_refl 0, rfl⟩) (fun k σ _ hk hi hk1 => by
    obtain ⟨Q, x, i1, i2, i3, i4, i5, i6⟩ := hi (by omega)
    have ea : r_X1_at prv czv (nI k) = prv k := by
      unfold r_X1_at
      rw [if_neg (nI_pos (by omega)), hz, if_neg (nI_ge (by omega) (by omega)), nI_clamp (by omega)]
    have eQ : sumQ (k + 1) prv = sumQ k prv + cq (prv k) 64 := rfl
    have mQ := sumQ_mono prv (show k + 1 ≤ x0 by omega)
    have eC : sumC ones ofk wire (64 - bt) (k + 1) prv = sumC ones ofk wire (64 - bt) k prv + (tq ones ofk wire (64 - bt) (prv k) - 1) := rfl
    have hw := way_cq ones (prv k) bt
    have et : tq ones ofk wire (64 - bt) (prv k) = 1 + (tq ones ofk wire (63 - bt) (wayS ones (prv k) bt true) + tq ones ofk wire (63 - bt) (wayS ones (prv k) bt false)) := by
      rw [show 64 - bt = (63 - bt) + 1 by omega]
      show (1 + if _ = 2 then tq ones ofk wire (63 - bt) (wayS ones (prv k) (63 - (63 - bt)) true) + tq ones ofk wire (63 - bt) (wayS ones (prv k) (63 - (63 - bt)) false) else 0) = _
      rw [if_pos (hcl k (by omega)), show 63 - (63 - bt) = bt by omega]
    have p1 := tq_pos ones ofk wire (63 - bt) (wayS ones (prv k) bt true)
    have p0 := tq_pos ones ofk wire (63 - bt) (wayS ones (prv k) bt false)
    unfold b_X8_nodes_43
    rw [ea, way0_eq _ _ hb, way1_eq _ _ hb, i2, nI_clamp (by omega)]
    have g1 := sumQ_ge i4
    obtain ⟨x1, a1, a2, a3, a4⟩ := adm ones ofk wire σ.2.1 (wayS ones (prv k) bt true) (ns := nI x) rfl i3 (fun c => by have := cl_two c; omega)
    obtain ⟨b1, b2, b3⟩ := adm_sum ones ofk wire (63 - bt) i4 a3 a4
    have g2 := sumQ_ge b1
    obtain ⟨x2, c1, c2, c3, c4⟩ := adm ones ofk wire (u_X8_admitCrowd_nx σ.2.1 (nI x) ofk wire x (wayS ones (prv k) bt true)) (wayS ones (prv k) bt false) (ns := nI x1) rfl a2 (fun c => by have := cl_two c; omega)
    obtain ⟨d1, d2, d3⟩ := adm_sum ones ofk wire (63 - bt) b1 c3 c4
    rw [a1, nI_clamp (by omega)]
    refine ⟨Q + 2, x2, ?_, c1, c2, d1, ?_, ?_⟩
    · show σ.1 + 2 = _
      rw [i1]; exact nn_add (y := 2) (b := 2) rfl rfl rfl
    · rw [eQ]; simp only; omega
    · rw [eC, et]; simp only; omega)
  rw [Nat.zero_add] at key
  exact key (Nat.le_refl x0)
def OUT (ones ofk : Nat → Int64) (wire : Int32) (TOT b : Nat) (σ : Int32 × (Nat → Int64) × (Nat → Int64) × Int32 × Int32) : Prop := ∃ Q x, σ.1 = nI Q ∧ σ.2.2.2.2 = nI x ∧ x ≤ 20 ∧ σ.2.2.2.1 = 0 ∧ (∀ i, i < x → (r_X8_kindOfSlot (r_X8_audibleOf ofk wire (σ.2.1 i)) = 2)) ∧ sumQ x σ.2.1 ≤ 40 ∧ Q + sumC ones ofk wire (64 - b) x σ.2.1 = TOT
theorem bfs_out (ones ofk : Nat → Int64) (wire : Int32) (TOT : Nat) : ∀ (c b : Nat) (σ : Int32 × (Nat → Int64) × (Nat → Int64) × Int32 × Int32), b + c = 64 → OUT ones ofk wire TOT b σ → (lpW g_X8_nodes_25 (b_X8_nodes_25 ones ofk wire) c b σ).2.1 = nI TOT ∧ (lpW g_X8_nodes_25 (b_X8_nodes_25 ones ofk wire) c b σ).2.2.2.2.1 = 0
  | 0, b, σ, hb, ⟨Q, x, h1, h2, h3, h4, h5, h6, h7⟩ => by
    refine ⟨?_, h4⟩
    show σ.1 = nI TOT
    rw [show 64 - b = 0 by omega, sumC_0] at h7
    rw [h1, ← h7, Nat.add_zero]
  | c + 1, b, σ, hb, ⟨Q, x, h1, h2, h3, h4, h5, h6, h7⟩ => by
    by_cases c0 : x = 0
    · have go : g_X8_nodes_25 b σ = false := by
        unfold g_X8_nodes_25
        rw [h2, c0]; decide
      rw [lpW_stop go]
      refine ⟨?_, h4⟩
      show σ.1 = nI TOT
      rw [c0] at h7
      rw [h1, ← h7]; rfl
    · have go : g_X8_nodes_25 b σ = true := by
        unfold g_X8_nodes_25
        rw [h2, decide_eq_false (nn_nle (y := 0) (b := 0) rfl rfl (by omega) (by omega))]; rfl
      rw [lpW_go go]
      refine bfs_out ones ofk wire TOT c (b + 1) _ (by omega) ?_
      obtain ⟨Q', x', k1, k2, k3, k4, k5, k6⟩ := bfs_in ones ofk wire h2 h3 (show b < 64 by omega) h5 h6 h1 σ.2.2.1
      unfold b_X8_nodes_25
      rw [h4, show σ.2.2.2.2.toNatClampNeg = x by rw [h2]; exact nI_clamp (by omega)]
      generalize lpF (b_X8_nodes_43 ones ofk wire σ.2.1 σ.2.2.2.2 b) x 0 (σ.1, σ.2.2.1, 0) = W at *
      have ec : ∀ i, i < x' → va_cpy W.2.1 σ.2.1 0 0 x' i = W.2.1 i := fun i hi => by
        show (if 0 ≤ i ∧ i < 0 + x' then W.2.1 (0 + (i - 0)) else σ.2.1 i) = _
        rw [if_pos (by omega), show 0 + (i - 0) = i by omega]
      rw [show W.2.2.toNatClampNeg = x' by rw [k2]; exact nI_clamp (by omega)]
      refine ⟨Q', x', k1, k2, k3, rfl, fun i hi => ?_, ?_, ?_⟩
      · show (r_X8_kindOfSlot (r_X8_audibleOf ofk wire (va_cpy W.2.1 σ.2.1 0 0 x' i)) = 2)
        rw [ec i hi]; exact k4 i hi
      · show sumQ x' (va_cpy W.2.1 σ.2.1 0 0 x') ≤ 40
        rw [sumQ_cong x' ec]; omega
      · show Q' + sumC ones ofk wire (64 - (b + 1)) x' (va_cpy W.2.1 σ.2.1 0 0 x') = TOT
        rw [sumC_cong ones ofk wire _ x' ec, show 64 - (b + 1) = 63 - b by omega]; omega
theorem nodes8 {a : Nat → Int32} {w : Nat → Int64} {n : Nat} {kinds : Nat → Int32} {names : Nat → Int64} {seeds : Nat → Int32} {ones ofk : Nat → Int64} {sz : Int32} {there awake grp gm gb : Int64} (h : RelT a w n kinds names seeds ones ofk sz there awake grp gm gb) {wire : Int32} (pr nx : Nat → Int64) : r_X8_nodes pr nx 0 ones ofk there awake grp wire 0 = nI (tq ones ofk wire 64 (r_X6_asked ofk there awake grp)) ∧ u_X8_nodes_ns pr nx 0 ones ofk there awake grp wire 0 = 0 := by
  have hn := h.2.1
  unfold r_X8_nodes u_X8_nodes_ns
  obtain ⟨x, a1, a2, a3, a4⟩ := adm ones ofk wire nx (r_X6_asked ofk there awake grp) (ns := 0) (x := 0) rfl (by omega) (fun _ => by omega)
  have hq : cq (r_X6_asked ofk there awake grp) 64 ≤ 40 := by
    rw [cq_ge (n := n) (fun t q1 q2 => by unfold r_X6_asked; rw [bq_and, h.Lbig q1 q2]; rfl) 64 (by omega) (Nat.le_refl _)]
    have := cq_le (r_X6_asked ofk there awake grp) n
    omega
  have hp := tq_pos ones ofk wire 64 (r_X6_asked ofk there awake grp)
  rw [a1, nI_clamp (by omega)]
  refine bfs_out ones ofk wire (tq ones ofk wire 64 (r_X6_asked ofk there awake grp)) 64 0 _ rfl ⟨1, x, rfl, rfl, a2, rfl, ?_⟩
  simp only
  generalize u_X8_admitCrowd_nx nx 0 ofk wire 0 (r_X6_asked ofk there awake grp) = nx' at *
  rcases a4 with ⟨c, e, es⟩ | ⟨c, e⟩
  · subst e
    have e0 : va_cpy nx' pr 0 0 (0 + 1) 0 = r_X6_asked ofk there awake grp := by rw [← es]; rfl
    refine ⟨fun i hi => ?_, ?_, ?_⟩
    · have : i = 0 := by omega
      subst this; rw [e0]; exact c
    · show 0 + cq (va_cpy nx' pr 0 0 (0 + 1) 0) 64 ≤ 40
      rw [e0]; omega
    · show 1 + (0 + (tq ones ofk wire 64 (va_cpy nx' pr 0 0 (0 + 1) 0) - 1)) = _
      rw [e0]; omega
  · subst e
    refine ⟨fun i hi => absurd hi (Nat.not_lt_zero i), by show 0 ≤ 40; omega, ?_⟩
    show 1 + 0 = _
    have := tq_leaf ones ofk wire c 64
    omega

theorem eq_nodes {T : Nat} {a : Nat → Int32} {w : Nat → Int64} {n f z : Nat} {kinds : Nat → Int32} {names : Nat → Int64} {seeds : Nat → Int32} {ones : Nat → Int64} {ofk : Nat → Int64} {sz : Int32} {there : Int64} {awake : Int64} {grp : Int64} {gm : Int64} {gb : Int64} {lf : Int32} {ir : Int32} {ln : Int64} {rows : Nat → Int64} {lens : Nat → Int32} {psz : Int32} {vals : Nat → Int32} {hold : Int64} {call : Int32} {fio : Int64} {fqu : Int32} {fal : Int32} {fco : Int32} {fgu : Int32} {ft : Nat → Int32} {fs : Int32} {qs : Int32} {als : Int32} {cs : Int32} {ps : Int32} {wire : Int32} {alo : Int32} (pr nx : Nat → Int64) (sp : Nat → Int32) (lone : Int32) (lt : Nat → Int64) (lz : Nat → Int32) (h : Rel T a w n f z kinds names seeds ones ofk sz there awake grp gm gb lf ir ln rows lens psz vals hold call fio fqu fal fco fgu ft fs qs als cs ps wire alo)  : r_X8_nodes pr nx 0 ones ofk there awake grp wire 0 = r_X9_nodes a w sp lone lt lz n ∧ u_X8_nodes_ns pr nx 0 ones ofk there awake grp wire 0 = 0 := by
  obtain ⟨h1, h2⟩ := nodes8 h.1 (wire := wire) pr nx
  exact ⟨by rw [h1, nodes9 h.1 h.2.2.2.2.2.2.1], h2⟩
