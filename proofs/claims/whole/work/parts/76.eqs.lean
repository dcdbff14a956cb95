/-- the questions of the tree under a set of speakers, d bits before the end -/
def tq (ones ofk : Nat → Int64) (wire : Int32) : Nat → Int64 → Nat
  | 0, _ => 1
  | d + 1, s => 1 + if r_X8_kindOfSlot (r_X8_audibleOf ofk wire s) = 2 then tq ones ofk wire d (wayS ones s (63 - d) true) + tq ones ofk wire d (wayS ones s (63 - d) false) else 0
theorem tq_pos (ones ofk : Nat → Int64) (wire : Int32) : ∀ d s, 1 ≤ tq ones ofk wire d s
  | 0, _ => Nat.le_refl 1
  | d + 1, s => by
    show 1 ≤ 1 + _
    omega
theorem tq_le (ones ofk : Nat → Int64) (wire : Int32) : ∀ d s, tq ones ofk wire d s + 1 ≤ 2 ^ (d + 1)
  | 0, _ => Nat.le_refl 2
  | d + 1, s => by
    show (1 + if r_X8_kindOfSlot (r_X8_audibleOf ofk wire s) = 2 then tq ones ofk wire d (wayS ones s (63 - d) true) + tq ones ofk wire d (wayS ones s (63 - d) false) else 0) + 1 ≤ 2 ^ (d + 1 + 1)
    have e1 := tq_le ones ofk wire d (wayS ones s (63 - d) true)
    have e2 := tq_le ones ofk wire d (wayS ones s (63 - d) false)
    have e3 : 2 ^ (d + 1 + 1) = 2 ^ (d + 1) * 2 := Nat.pow_succ 2 (d + 1)
    rw [e3]
    split <;> omega
def sumT (ones ofk : Nat → Int64) (there awake grp : Int64) (wire : Int32) : Nat → (Nat → Int64) → (Nat → Int32) → Nat
  | 0, _, _ => 0
  | i + 1, lt, lz => sumT ones ofk there awake grp wire i lt lz + tq ones ofk wire (64 - (lz i).toNatClampNeg) (r_X6_beginningWith ones ofk there awake grp (lt i) (lz i).toNatClampNeg)
theorem sumT_cong (ones ofk : Nat → Int64) (there awake grp : Int64) (wire : Int32) : ∀ (k : Nat) {lt lt' : Nat → Int64} {lz lz' : Nat → Int32}, (∀ i, i < k → lt i = lt' i ∧ lz i = lz' i) → sumT ones ofk there awake grp wire k lt lz = sumT ones ofk there awake grp wire k lt' lz'
  | 0, _, _, _, _, _ => rfl
  | k + 1, lt, lt', lz, lz', h => by
    show sumT ones ofk there awake grp wire k lt lz + _ = sumT ones ofk there awake grp wire k lt' lz' + _
    rw [sumT_cong ones ofk there awake grp wire k (fun i hi => h i (by omega)), (h k (by omega)).1, (h k (by omega)).2]
theorem allB_cong {p q : Nat → Bool} : ∀ {n : Nat}, (∀ j, j < n → p j = q j) → allB p n = allB q n
  | 0, _ => rfl
  | n + 1, h => by
    show (allB p n && p n) = (allB q n && q n)
    rw [allB_cong (fun j hj => h j (by omega)), h n (by omega)]
theorem begin_big {a : Nat → Int32} {w : Nat → Int64} {n : Nat} {kinds : Nat → Int32} {names : Nat → Int64} {seeds : Nat → Int32} {ones ofk : Nat → Int64} {sz : Int32} {there awake grp gm gb : Int64} (h : RelT a w n kinds names seeds ones ofk sz there awake grp gm gb) (bits : Int64) {mm : Nat} (hm : mm ≤ 64) : ∀ t, n ≤ t → t < 64 → bq (r_X6_beginningWith ones ofk there awake grp bits mm) t = false := fun t h1 h2 => by
  rw [begin_bq h bits hm h2, if_neg (by omega), Bool.and_false]
theorem begin_way {a : Nat → Int32} {w : Nat → Int64} {n : Nat} {kinds : Nat → Int32} {names : Nat → Int64} {seeds : Nat → Int32} {ones ofk : Nat → Int64} {sz : Int32} {there awake grp gm gb : Int64} (h : RelT a w n kinds names seeds ones ofk sz there awake grp gm gb) {row row' : Int64} {m : Nat} (hm : m < 64) (b : Bool) (hb : bq row' (63 - m) = b) (hr : ∀ j, j < m → bq row' (63 - j) = bq row (63 - j)) : r_X6_beginningWith ones ofk there awake grp row' (m + 1) = wayS ones (r_X6_beginningWith ones ofk there awake grp row m) m b := by
  refine bq_ext (fun t ht => ?_)
  rw [begin_bq h row' (by omega) ht, wayS_bq h (begin_big h row (by omega)) hm b ht, begin_bq h row (by omega) ht]
  by_cases c : t < n
  · rw [if_pos c, if_pos c, if_pos c, Bool.and_assoc]
    congr 1
    show (allB _ m && (bq (names t) (63 - m) == bq row' (63 - m))) = _
    rw [allB_cong (q := fun j => bq (names t) (63 - j) == bq row (63 - j)) (fun j hj => by rw [hr j hj]), hb]
  · rw [if_neg c, if_neg c, if_neg c, Bool.and_false, Bool.and_false]
theorem sh63 : ∀ m, m < 64 → (63 : Int32) - nI m = nI (63 - m) := by decide +kernel
theorem dfs {a : Nat → Int32} {w : Nat → Int64} {n : Nat} {kinds : Nat → Int32} {names : Nat → Int64} {seeds : Nat → Int32} {ones ofk : Nat → Int64} {sz : Int32} {there awake grp gm gb : Int64} (h : RelT a w n kinds names seeds ones ofk sz there awake grp gm gb) {wire : Int32} (hw : a 1 = wire) : ∀ (fuel : Nat) (σ : Int32 × Nat × (Nat → Int64) × (Nat → Int32) × (Nat → Int32) × Int32), pJ σ.2.1 σ.2.2.2.1 → (∀ i, i < σ.2.1 → ∀ j, (σ.2.2.2.1 i).toNatClampNeg ≤ j → j < 64 → bq (σ.2.2.1 i) (63 - j) = false) → sumT ones ofk there awake grp wire σ.2.1 σ.2.2.1 σ.2.2.2.1 ≤ fuel → (lpN (fun σ : Int32 × Nat × (Nat → Int64) × (Nat → Int32) × (Nat → Int32) × Int32 => !decide (σ.2.1 = 0)) (b_X9_nodes_18 a w n) fuel σ).1 = σ.1 + nI (sumT ones ofk there awake grp wire σ.2.1 σ.2.2.1 σ.2.2.2.1)
  | 0, σ, _, _, hf => by
    have : sumT ones ofk there awake grp wire σ.2.1 σ.2.2.1 σ.2.2.2.1 = 0 := by omega
    rw [this]
    show σ.1 = σ.1 + 0
    exact (Int32.add_zero _).symm
  | fuel + 1, (q, wt, lt, lz, sp, lo), hj, hz, hf => by
    by_cases c0 : wt = 0
    · subst c0
      rw [lpN_stop (by simp)]
      show q = q + nI 0
      exact (Int32.add_zero _).symm
    · obtain ⟨k, rfl⟩ : ∃ k, wt = k + 1 := ⟨wt - 1, by omega⟩
      rw [lpN_go (by simp)]
      simp only at hj hz hf
      obtain ⟨m, hm1, hm2, hm3⟩ := hj k (by omega)
      have hmc : (lz k).toNatClampNeg = m := by rw [hm1]; exact nI_clamp (by omega)
      have eS : sumT ones ofk there awake grp wire (k + 1) lt lz = sumT ones ofk there awake grp wire k lt lz + tq ones ofk wire (64 - m) (r_X6_beginningWith ones ofk there awake grp (lt k) m) := by
        show sumT ones ofk there awake grp wire k lt lz + tq ones ofk wire (64 - (lz k).toNatClampNeg) (r_X6_beginningWith ones ofk there awake grp (lt k) (lz k).toNatClampNeg) = _
        rw [hmc]
      have hs := called_sp h (lt k) hm1 hm3 sp
      have e1 : r_X9_slot a (lpF (b_X9_called_3 a w (lt k) (lz k)) n 0 sp) n = r_X8_kindOfSlot (r_X8_audibleOf ofk wire (r_X6_beginningWith ones ofk there awake grp (lt k) m)) := (slot_eq hs h.2.1 (weak_iff h) hw).1
      have hle := le_kind (r_X8_audibleOf ofk wire (r_X6_beginningWith ones ofk there awake grp (lt k) m))
      have fin : ∀ S S' : Nat, S = S' + 1 → q + 1 + nI S' = q + nI S := fun S S' e => by
        rw [e, Int32.add_assoc]
        congr 1
        rw [show S' + 1 = 1 + S' by omega]
        exact nn_add (x := 1) (a := 1) rfl rfl rfl
      have leaf : tq ones ofk wire (64 - m) (r_X6_beginningWith ones ofk there awake grp (lt k) m) = 1 → (lpN (fun σ : Int32 × Nat × (Nat → Int64) × (Nat → Int32) × (Nat → Int32) × Int32 => !decide (σ.2.1 = 0)) (b_X9_nodes_18 a w n) fuel (q + 1, k + 1 - 1, lt, lz, (lpF (b_X9_called_3 a w (lt k) (lz k)) n 0 sp), u_X9_slot_lone a (lpF (b_X9_called_3 a w (lt k) (lz k)) n 0 sp) n)).1 = q + nI (sumT ones ofk there awake grp wire (k + 1) lt lz) := fun e => by
        rw [dfs h hw fuel _ (pJ_pop hj) (fun i hi => hz i (by simp only at hi; omega)) (by simp only; rw [show k + 1 - 1 = k by omega]; omega)]
        exact fin _ _ (by simp only; rw [show k + 1 - 1 = k by omega]; omega)
      have eb : b_X9_nodes_18 a w n (q, k + 1, lt, lz, sp, lo) = (if nI (r_X9_slot a (lpF (b_X9_called_3 a w (lt k) (lz k)) n 0 sp) n) = 2 then (if lz k = 64 then (q + 1, k + 1 - 1, lt, lz, (lpF (b_X9_called_3 a w (lt k) (lz k)) n 0 sp), u_X9_slot_lone a (lpF (b_X9_called_3 a w (lt k) (lz k)) n 0 sp) n) else (q + 1, k + 2, vp_updL (vp_updL lt k (lt k ||| ((1 : Int64) <<< ((63 - (lz k)).toInt64 &&& 63)))) (k + 1) (lt k), upd (upd lz k (lz k + 1)) (k + 1) (lz k + 1), (lpF (b_X9_called_3 a w (lt k) (lz k)) n 0 sp), u_X9_slot_lone a (lpF (b_X9_called_3 a w (lt k) (lz k)) n 0 sp) n)) else (q + 1, k + 1 - 1, lt, lz, (lpF (b_X9_called_3 a w (lt k) (lz k)) n 0 sp), u_X9_slot_lone a (lpF (b_X9_called_3 a w (lt k) (lz k)) n 0 sp) n)) := rfl
      rw [eb, e1]
      by_cases c2 : r_X8_kindOfSlot (r_X8_audibleOf ofk wire (r_X6_beginningWith ones ofk there awake grp (lt k) m)) = 2
      · rw [if_pos (by rw [c2]; rfl)]
        by_cases c64 : m = 64
        · rw [if_pos (by rw [hm1, c64]; rfl)]
          exact leaf (by rw [c64]; rfl)
        · have n64 : ¬ lz k = 64 := by rw [hm1]; exact nn_ne (y := 64) (b := 64) rfl rfl c64 (by omega) (by omega)
          rw [if_neg n64]
          rw [hm1] at leaf ⊢
          rw [sh63 m (by omega)]
          have hp := pJ_push hj (by omega) (by rw [show k + 1 - 1 = k by omega]; exact n64)
          rw [show k + 1 - 1 = k by omega, hm1] at hp
          have em : nI m + 1 = nI (m + 1) := nI_1 m
          rw [em] at hp ⊢
          obtain ⟨d, hd⟩ : ∃ d, 64 - m = d + 1 := ⟨63 - m, by omega⟩
          have hd2 : 63 - d = m := by omega
          have eT : tq ones ofk wire (64 - m) (r_X6_beginningWith ones ofk there awake grp (lt k) m) = 1 + (tq ones ofk wire d (wayS ones (r_X6_beginningWith ones ofk there awake grp (lt k) m) m true) + tq ones ofk wire d (wayS ones (r_X6_beginningWith ones ofk there awake grp (lt k) m) m false)) := by
            rw [hd]
            show (1 + if _ = 2 then tq ones ofk wire d (wayS ones (r_X6_beginningWith ones ofk there awake grp (lt k) m) (63 - d) true) + tq ones ofk wire d (wayS ones (r_X6_beginningWith ones ofk there awake grp (lt k) m) (63 - d) false) else 0) = _
            rw [if_pos c2, hd2]
          have hz0 : bq (lt k) (63 - m) = false := hz k (by omega) m (by omega) (by omega)
          have w1 : r_X6_beginningWith ones ofk there awake grp (lt k ||| ((1 : Int64) <<< ((nI (63 - m)).toInt64 &&& 63))) (m + 1) = wayS ones (r_X6_beginningWith ones ofk there awake grp (lt k) m) m true := begin_way h (by omega) true (by rw [bq_put (by omega), if_pos rfl]) (fun j hj => by rw [bq_put (by omega), if_neg (by omega)])
          have w0 : r_X6_beginningWith ones ofk there awake grp (lt k) (m + 1) = wayS ones (r_X6_beginningWith ones ofk there awake grp (lt k) m) m false := begin_way h (by omega) false hz0 (fun j hj => rfl)
          generalize hlt : vp_updL (vp_updL lt k (lt k ||| ((1 : Int64) <<< ((nI (63 - m)).toInt64 &&& 63)))) (k + 1) (lt k) = lt'
          generalize hlz : upd (upd lz k (nI (m + 1))) (k + 1) (nI (m + 1)) = lz' at hp ⊢
          have l1 : lt' k = lt k ||| ((1 : Int64) <<< ((nI (63 - m)).toInt64 &&& 63)) := by rw [← hlt, pk_uLn (by omega), pk_uLs]
          have l2 : lt' (k + 1) = lt k := by rw [← hlt, pk_uLs]
          have z1 : (lz' k).toNatClampNeg = m + 1 := by rw [← hlz, pk_un (by omega), pk_us]; exact nI_clamp (by omega)
          have z2 : (lz' (k + 1)).toNatClampNeg = m + 1 := by rw [← hlz, pk_us]; exact nI_clamp (by omega)
          have lo_ : ∀ i, i < k → lt' i = lt i ∧ lz' i = lz i := fun i hi => ⟨by rw [← hlt, pk_uLn (by omega), pk_uLn (by omega)], by rw [← hlz, pk_un (by omega), pk_un (by omega)]⟩
          have eN : sumT ones ofk there awake grp wire (k + 2) lt' lz' = sumT ones ofk there awake grp wire k lt lz + tq ones ofk wire d (wayS ones (r_X6_beginningWith ones ofk there awake grp (lt k) m) m true) + tq ones ofk wire d (wayS ones (r_X6_beginningWith ones ofk there awake grp (lt k) m) m false) := by
            show sumT ones ofk there awake grp wire k lt' lz' + tq ones ofk wire (64 - (lz' k).toNatClampNeg) (r_X6_beginningWith ones ofk there awake grp (lt' k) (lz' k).toNatClampNeg) + tq ones ofk wire (64 - (lz' (k + 1)).toNatClampNeg) (r_X6_beginningWith ones ofk there awake grp (lt' (k + 1)) (lz' (k + 1)).toNatClampNeg) = _
            rw [z1, z2, l1, l2, w1, w0, show 64 - (m + 1) = d by omega, sumT_cong ones ofk there awake grp wire k lo_]
          rw [dfs h hw fuel (q + 1, k + 2, lt', lz', lpF (b_X9_called_3 a w (lt k) (nI m)) n 0 sp, u_X9_slot_lone a (lpF (b_X9_called_3 a w (lt k) (nI m)) n 0 sp) n) hp (fun i hi j hj1 hj2 => by
            simp only at hi hj1 ⊢
            by_cases g1 : i = k + 1
            · subst g1; rw [l2]; rw [z2] at hj1; exact hz k (by omega) j (by omega) hj2
            · by_cases g2 : i = k
              · subst g2; rw [l1]; rw [z1] at hj1; rw [bq_put (by omega), if_neg (by omega)]; exact hz i (by omega) j (by omega) hj2
              · rw [(lo_ i (by omega)).1]; rw [(lo_ i (by omega)).2] at hj1; exact hz i (by omega) j hj1 hj2) (by simp only; omega)]
          exact fin _ _ (by simp only; omega)
      · rw [if_neg (nn_ne (y := 2) (b := 2) rfl rfl c2 (by omega) (by omega))]
        refine leaf ?_
        by_cases c64 : m = 64
        · rw [c64]; rfl
        · obtain ⟨d, hd⟩ : ∃ d, 64 - m = d + 1 := ⟨63 - m, by omega⟩
          rw [hd]
          show (1 + if _ = 2 then _ else 0) = 1
          rw [if_neg c2]
theorem nodes9 {a : Nat → Int32} {w : Nat → Int64} {n : Nat} {kinds : Nat → Int32} {names : Nat → Int64} {seeds : Nat → Int32} {ones ofk : Nat → Int64} {sz : Int32} {there awake grp gm gb : Int64} (h : RelT a w n kinds names seeds ones ofk sz there awake grp gm gb) {wire : Int32} (hw : a 1 = wire) (sp : Nat → Int32) (lone : Int32) (lt : Nat → Int64) (lz : Nat → Int32) : r_X9_nodes a w sp lone lt lz n = nI (tq ones ofk wire 64 (r_X6_asked ofk there awake grp)) := by
  unfold r_X9_nodes
  have e1 : sumT ones ofk there awake grp wire 1 (vp_updL lt 0 0) (upd lz 0 0) = tq ones ofk wire 64 (r_X6_asked ofk there awake grp) := by
    show 0 + tq ones ofk wire (64 - (upd lz 0 0 0).toNatClampNeg) (r_X6_beginningWith ones ofk there awake grp (vp_updL lt 0 0 0) (upd lz 0 0 0).toNatClampNeg) = _
    rw [pk_us, pk_uLs, Nat.zero_add]
    rfl
  have hb := tq_le ones ofk wire 64 (r_X6_asked ofk there awake grp)
  rw [dfs h hw (2 ^ 65) (0, 1, vp_updL lt 0 0, upd lz 0 0, sp, lone) (pJ_0 lz) (fun i hi j _ _ => by
    have : i = 0 := by simp only at hi; omega
    subst this
    simp only
    rw [pk_uLs, bq_0]) (by simp only; rw [e1]; omega)]
  simp only
  rw [e1]
  exact Int32.zero_add _
