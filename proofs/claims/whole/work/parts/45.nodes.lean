def lpN {σ : Type} (go : σ → Bool) (body : σ → σ) : Nat → σ → σ
  | 0, s => s
  | n + 1, s => if go s = true then lpN go body n (body s) else s
theorem lpN_go {σ : Type} {go : σ → Bool} {body : σ → σ} {n : Nat} {s : σ} (h : go s = true) : lpN go body (n + 1) s = lpN go body n (body s) := if_pos h
theorem lpN_stop {σ : Type} {go : σ → Bool} {body : σ → σ} {n : Nat} {s : σ} (h : go s = false) : lpN go body (n + 1) s = s := if_neg (by rw [h]; decide)
/-- the lengths on a pile: at place i at least i, 64 at most -/
def pJ (wt : Nat) (lz : Nat → Int32) : Prop := ∀ i, i < wt → ∃ m : Nat, lz i = nI m ∧ i ≤ m ∧ m ≤ 64
theorem pJ_wt {wt : Nat} {lz : Nat → Int32} (h : pJ wt lz) : wt ≤ 65 := by
  rcases Nat.eq_zero_or_pos wt with e | e
  · omega
  · obtain ⟨m, -, h2, h3⟩ := h (wt - 1) (by omega)
    omega
theorem pJ_pop {wt : Nat} {lz : Nat → Int32} (h : pJ wt lz) : pJ (wt - 1) lz := fun i hi => h i (by omega)
theorem pJ_push {wt : Nat} {lz : Nat → Int32} (h : pJ wt lz) (hw : ¬ wt = 0) (h64 : ¬ lz (wt - 1) = 64) : pJ (wt - 1 + 2) (upd (upd lz (wt - 1) (lz (wt - 1) + 1)) (wt - 1 + 1) (lz (wt - 1) + 1)) := by
  obtain ⟨m, h1, h2, h3⟩ := h (wt - 1) (by omega)
  have hm : m ≠ 64 := fun e => h64 (by rw [h1, e]; rfl)
  have e1 : lz (wt - 1) + 1 = nI (m + 1) := by rw [h1]; exact nI_1 m
  intro i hi
  by_cases a : i = wt - 1 + 1
  · subst a
    exact ⟨m + 1, by rw [pk_us, e1], by omega, by omega⟩
  · rw [pk_un a]
    by_cases b : i = wt - 1
    · subst b
      exact ⟨m + 1, by rw [pk_us, e1], by omega, by omega⟩
    · rw [pk_un b]
      exact h i (by omega)
theorem pJ_0 (lz : Nat → Int32) : pJ 1 (upd lz 0 0) := fun i hi => by
  have e : i = 0 := by omega
  subst e
  exact ⟨0, pk_us, Nat.le_refl 0, by omega⟩
def pM : Nat → (Nat → Int32) → Nat
  | 0, _ => 0
  | n + 1, lz => pM n lz + (2 ^ (65 - (lz n).toNatClampNeg) - 1)
theorem pM_cong : ∀ (n : Nat) {f g : Nat → Int32}, (∀ i, i < n → f i = g i) → pM n f = pM n g
  | 0, _, _, _ => rfl
  | n + 1, f, g, h => by
    show pM n f + _ = pM n g + _
    rw [pM_cong n (fun i hi => h i (by omega)), h n (by omega)]
theorem pM_pos {wt : Nat} {lz : Nat → Int32} (h : pJ wt lz) (hw : ¬ wt = 0) : pM (wt - 1) lz + 1 ≤ pM wt lz := by
  obtain ⟨k, rfl⟩ : ∃ k, wt = k + 1 := ⟨wt - 1, by omega⟩
  obtain ⟨m, h1, h2, h3⟩ := h k (by omega)
  show pM k lz + 1 ≤ pM k lz + (2 ^ (65 - (lz k).toNatClampNeg) - 1)
  rw [h1, nI_clamp (by omega)]
  have : 2 ^ 1 ≤ 2 ^ (65 - m) := Nat.pow_le_pow_right (by decide) (by omega)
  omega
theorem pM_0 {wt : Nat} {lz : Nat → Int32} (h : pJ wt lz) (hm : pM wt lz ≤ 0) : wt = 0 := by
  rcases Nat.eq_zero_or_pos wt with e | e
  · exact e
  · have := pM_pos h (by omega)
    omega
theorem pM_push {wt : Nat} {lz : Nat → Int32} (h : pJ wt lz) (hw : ¬ wt = 0) (h64 : ¬ lz (wt - 1) = 64) : pM (wt - 1 + 2) (upd (upd lz (wt - 1) (lz (wt - 1) + 1)) (wt - 1 + 1) (lz (wt - 1) + 1)) + 1 ≤ pM wt lz := by
  obtain ⟨k, rfl⟩ : ∃ k, wt = k + 1 := ⟨wt - 1, by omega⟩
  obtain ⟨m, h1, h2, h3⟩ := h k (by omega)
  have e0 : k + 1 - 1 = k := by omega
  rw [e0] at h64 ⊢
  have hm : m ≠ 64 := fun e => h64 (by rw [h1, e]; rfl)
  have e1 : lz k + 1 = nI (m + 1) := by rw [h1]; exact nI_1 m
  have e2 : ∀ g : Nat → Int32, pM (k + 2) g = pM k g + (2 ^ (65 - (g k).toNatClampNeg) - 1) + (2 ^ (65 - (g (k + 1)).toNatClampNeg) - 1) := fun _ => rfl
  rw [e2]
  have e3 : pM (k + 1) lz = pM k lz + (2 ^ (65 - (lz k).toNatClampNeg) - 1) := rfl
  rw [e3, h1, nI_clamp (by omega)]
  have e4 : pM k (upd (upd lz k (nI m + 1)) (k + 1) (nI m + 1)) = pM k lz := pM_cong k (fun i hi => by rw [pk_un (by omega), pk_un (by omega)])
  have e5 : upd (upd lz k (nI m + 1)) (k + 1) (nI m + 1) k = nI (m + 1) := by rw [pk_un (by omega), pk_us]; exact nI_1 m
  have e6 : upd (upd lz k (nI m + 1)) (k + 1) (nI m + 1) (k + 1) = nI (m + 1) := by rw [pk_us]; exact nI_1 m
  rw [e4, e5, e6, nI_clamp (by omega)]
  have e7 : 65 - m = (65 - (m + 1)) + 1 := by omega
  have e8 : 2 ^ (65 - m) = 2 * 2 ^ (65 - (m + 1)) := by rw [e7, Nat.pow_succ, Nat.mul_comm]
  have e9 : 1 ≤ 2 ^ (65 - (m + 1)) := Nat.one_le_two_pow
  omega

def b_X9_nodes_18 (a : Nat → Int32) (w : Nat → Int64) (n : Nat) (σ : Int32 × Nat × (Nat → Int64) × (Nat → Int32) × (Nat → Int32) × Int32) : Int32 × Nat × (Nat → Int64) × (Nat → Int32) × (Nat → Int32) × Int32 := if nI (r_X9_slot a (lpF (b_X9_called_3 a w (σ.2.2.1 (σ.2.1 - 1)) (σ.2.2.2.1 (σ.2.1 - 1))) n 0 σ.2.2.2.2.1) n) = 2 then (if σ.2.2.2.1 (σ.2.1 - 1) = 64 then (σ.1 + 1, σ.2.1 - 1, σ.2.2.1, σ.2.2.2.1, (lpF (b_X9_called_3 a w (σ.2.2.1 (σ.2.1 - 1)) (σ.2.2.2.1 (σ.2.1 - 1))) n 0 σ.2.2.2.2.1), u_X9_slot_lone a (lpF (b_X9_called_3 a w (σ.2.2.1 (σ.2.1 - 1)) (σ.2.2.2.1 (σ.2.1 - 1))) n 0 σ.2.2.2.2.1) n) else (σ.1 + 1, σ.2.1 - 1 + 2, vp_updL (vp_updL σ.2.2.1 (σ.2.1 - 1) ((σ.2.2.1 (σ.2.1 - 1)) ||| ((1 : Int64) <<< ((63 - (σ.2.2.2.1 (σ.2.1 - 1))).toInt64 &&& 63)))) (σ.2.1 - 1 + 1) (σ.2.2.1 (σ.2.1 - 1)), upd (upd σ.2.2.2.1 (σ.2.1 - 1) ((σ.2.2.2.1 (σ.2.1 - 1)) + 1)) (σ.2.1 - 1 + 1) ((σ.2.2.2.1 (σ.2.1 - 1)) + 1), (lpF (b_X9_called_3 a w (σ.2.2.1 (σ.2.1 - 1)) (σ.2.2.2.1 (σ.2.1 - 1))) n 0 σ.2.2.2.2.1), u_X9_slot_lone a (lpF (b_X9_called_3 a w (σ.2.2.1 (σ.2.1 - 1)) (σ.2.2.2.1 (σ.2.1 - 1))) n 0 σ.2.2.2.2.1) n)) else (σ.1 + 1, σ.2.1 - 1, σ.2.2.1, σ.2.2.2.1, (lpF (b_X9_called_3 a w (σ.2.2.1 (σ.2.1 - 1)) (σ.2.2.2.1 (σ.2.1 - 1))) n 0 σ.2.2.2.2.1), u_X9_slot_lone a (lpF (b_X9_called_3 a w (σ.2.2.1 (σ.2.1 - 1)) (σ.2.2.2.1 (σ.2.1 - 1))) n 0 σ.2.2.2.2.1) n)
def r_X9_nodes (a : Nat → Int32) (w : Nat → Int64) (sp : Nat → Int32) (lone : Int32) (lt : Nat → Int64) (lz : Nat → Int32) (n : Nat) : Int32 := ((lpN (fun σ : Int32 × Nat × (Nat → Int64) × (Nat → Int32) × (Nat → Int32) × Int32 => !decide (σ.2.1 = 0)) (b_X9_nodes_18 a w n) (2 ^ 65) (0, 1, vp_updL lt 0 0, upd lz 0 0, sp, lone)).1)
def u_X9_nodes_sp (a : Nat → Int32) (w : Nat → Int64) (sp : Nat → Int32) (lone : Int32) (lt : Nat → Int64) (lz : Nat → Int32) (n : Nat) : Nat → Int32 := ((lpN (fun σ : Int32 × Nat × (Nat → Int64) × (Nat → Int32) × (Nat → Int32) × Int32 => !decide (σ.2.1 = 0)) (b_X9_nodes_18 a w n) (2 ^ 65) (0, 1, vp_updL lt 0 0, upd lz 0 0, sp, lone)).2.2.2.2.1)
def u_X9_nodes_lone (a : Nat → Int32) (w : Nat → Int64) (sp : Nat → Int32) (lone : Int32) (lt : Nat → Int64) (lz : Nat → Int32) (n : Nat) : Int32 := ((lpN (fun σ : Int32 × Nat × (Nat → Int64) × (Nat → Int32) × (Nat → Int32) × Int32 => !decide (σ.2.1 = 0)) (b_X9_nodes_18 a w n) (2 ^ 65) (0, 1, vp_updL lt 0 0, upd lz 0 0, sp, lone)).2.2.2.2.2)
def u_X9_nodes_lt (a : Nat → Int32) (w : Nat → Int64) (sp : Nat → Int32) (lone : Int32) (lt : Nat → Int64) (lz : Nat → Int32) (n : Nat) : Nat → Int64 := ((lpN (fun σ : Int32 × Nat × (Nat → Int64) × (Nat → Int32) × (Nat → Int32) × Int32 => !decide (σ.2.1 = 0)) (b_X9_nodes_18 a w n) (2 ^ 65) (0, 1, vp_updL lt 0 0, upd lz 0 0, sp, lone)).2.2.1)
def u_X9_nodes_lz (a : Nat → Int32) (w : Nat → Int64) (sp : Nat → Int32) (lone : Int32) (lt : Nat → Int64) (lz : Nat → Int32) (n : Nat) : Nat → Int32 := ((lpN (fun σ : Int32 × Nat × (Nat → Int64) × (Nat → Int32) × (Nat → Int32) × Int32 => !decide (σ.2.1 = 0)) (b_X9_nodes_18 a w n) (2 ^ 65) (0, 1, vp_updL lt 0 0, upd lz 0 0, sp, lone)).2.2.2.1)
abbrev rm_X9_nodes : Room := { frames := 3, cells := 0, slots := 0, locals := 67 }
set_option maxHeartbeats 400000 in
set_option maxRecDepth 100000 in
theorem c_X9_nodes (l : Launch) (D : va_G) (q : Nat → Nat) (kc : Nat → ClassId) (a : Nat → Int32) (w : Nat → Int64) (hs : Nat → Int32) (inn : Nat → Int32) (sp : Nat → Int32) (lone : Int32) (lt : Nat → Int64) (lz : Nat → Int32) (dr : Nat → Int32) (n : Nat) (ha0 : a 0 = nI n) (hn : n ≤ 40) : MW l D yX9_nodes (Cond.code yX9_nodes cX9_nodes 6 (some .int) :: TT) rm_X9_nodes [.ref (q 0)] [(kc 1, .int), (kc 2, .long), (kc 3, .boolean), (kc 4, .boolean), (kc 5, .boolean), (kc 6, .long), (kc 7, .int), (kc 8, .int)] (mW q kc a w hs inn sp lone lt lz dr) (some (.int (r_X9_nodes a w sp lone lt lz n))) (mW q kc a w hs inn (u_X9_nodes_sp a w sp lone lt lz n) (u_X9_nodes_lone a w sp lone lt lz n) (u_X9_nodes_lt a w sp lone lt lz n) (u_X9_nodes_lz a w sp lone lt lz n) dr) := by
  refine MW.of (cc := cX9_nodes) (nL := 6) (ret := (some .int)) (lv := [(0, .ref (q 0))]) (by decide) ((mW_ad ..).trans (mW_ad ..).symm) rfl (Nat.le_of_ble_eq_true rfl) ?_
  intro p e s m args below meth c A Q hQ X
  refine aw_iconst X (pc := 0) (v := 0) dX9_nodes_0 (by decide) ?_
  refine aw_istore_n X (pc := 1) (lv' := [(1, .int 0), (0, .ref (q 0))]) rfl (by decide) rfl dX9_nodes_1 ?_
  refine aw_iconst X (pc := 2) (v := 1) dX9_nodes_2 (by decide) ?_
  refine aw_istore_n X (pc := 3) (lv' := [(2, .int 1), (1, .int 0), (0, .ref (q 0))]) rfl (by decide) rfl dX9_nodes_3 ?_
  refine aw_aload_n X (pc := 4) 2 rfl rfl dX9_nodes_4 ?_
  refine aw_get X (pc := 5) iX9 0 6 rfl rfl (by decide) fl_X9_27 rfl dX9_nodes_5 ?_
  refine aw_iconst X (pc := 8) (v := 0) dX9_nodes_8 (by decide) ?_
  refine aw_lconst X (pc := 9) (v := 0) dX9_nodes_9 (by decide) ?_
  refine aw_last X (pc := 10) 6 5 (ws' := (mW q kc a w hs inn sp lone (vp_updL lt 0 0) lz dr)) 0 rfl  rfl rfl (by decide) (by omega) rfl dX9_nodes_10 ?_
  refine aw_aload_n X (pc := 11) 2 rfl rfl dX9_nodes_11 ?_
  refine aw_get X (pc := 12) iX9 0 7 rfl rfl (by decide) fl_X9_30 rfl dX9_nodes_12 ?_
  refine aw_iconst X (pc := 15) (v := 0) dX9_nodes_15 (by decide) ?_
  refine aw_iconst X (pc := 16) (v := 0) dX9_nodes_16 (by decide) ?_
  refine aw_iast X (pc := 17) 7 6 (ws' := (mW q kc a w hs inn sp lone (vp_updL lt 0 0) (upd lz 0 0) dr)) 0 rfl  rfl rfl (by decide) (by omega) rfl dX9_nodes_17 ?_
  have hx1 : ∀ (ask : Int32) (wt : Nat) (ltv : Nat → Int64) (lzv : Nat → Int32) (sv : Nat → Int32) (lo : Int32), wt = 0 → (ask, wt, ltv, lzv, sv, lo) = lpN (fun σ : Int32 × Nat × (Nat → Int64) × (Nat → Int32) × (Nat → Int32) × Int32 => !decide (σ.2.1 = 0)) (b_X9_nodes_18 a w n) (2 ^ 65) (0, 1, vp_updL lt 0 0, upd lz 0 0, sp, lone) → AW p l e rm_X9_nodes s m args below meth c D A 6 0 0 Q 120 [(2, .int (nI wt)), (1, .int ask), (0, .ref (q 0))] [] (mW q kc a w hs inn sv lo ltv lzv dr) := by
    intro ask wt ltv lzv sv lo hw1 hf1
    refine aw_iload_n X (pc := 120) 1 rfl rfl dX9_nodes_120 ?_
    exact aw_iret X (v := ask) hQ (by simp only [r_X9_nodes, ← hf1]; try rfl) (by simp only [u_X9_nodes_sp, u_X9_nodes_lone, u_X9_nodes_lt, u_X9_nodes_lz, ← hf1]) dX9_nodes_121
  have L1 : ∀ (n1 : Nat) (ask : Int32) (wt : Nat) (ltv : Nat → Int64) (lzv : Nat → Int32) (sv : Nat → Int32) (lo : Int32), pJ wt lzv → pM wt lzv ≤ n1 → lpN (fun σ : Int32 × Nat × (Nat → Int64) × (Nat → Int32) × (Nat → Int32) × Int32 => !decide (σ.2.1 = 0)) (b_X9_nodes_18 a w n) n1 (ask, wt, ltv, lzv, sv, lo) = lpN (fun σ : Int32 × Nat × (Nat → Int64) × (Nat → Int32) × (Nat → Int32) × Int32 => !decide (σ.2.1 = 0)) (b_X9_nodes_18 a w n) (2 ^ 65) (0, 1, vp_updL lt 0 0, upd lz 0 0, sp, lone) → AW p l e rm_X9_nodes s m args below meth c D A 6 0 0 Q 18 [(2, .int (nI wt)), (1, .int ask), (0, .ref (q 0))] [] (mW q kc a w hs inn sv lo ltv lzv dr) := by
    intro n1; induction n1 with
    | zero =>
      intro ask wt ltv lzv sv lo hJ1 hmu1 hf1
      have hw1 : wt = 0 := pM_0 (by assumption) hmu1
      refine aw_iload_n X (pc := 18) 0 rfl rfl dX9_nodes_18 ?_
      refine aw_if_le X (pc := 19) (tgt := 120) (by decide) dX9_nodes_19 (fun c9 => ?_) (fun c9 => absurd (by rw [hw1]; decide) c9)
      exact aw_sub (lv' := [(2, .int (nI wt)), (1, .int ask), (0, .ref (q 0))]) [0, 1, 2] rfl (hx1 ask wt ltv lzv sv lo hw1 hf1)
    | succ n1 ih1 =>
      intro ask wt ltv lzv sv lo hJ1 hmu1 hf1
      by_cases hw1 : wt = 0
      · refine aw_iload_n X (pc := 18) 0 rfl rfl dX9_nodes_18 ?_
        refine aw_if_le X (pc := 19) (tgt := 120) (by decide) dX9_nodes_19 (fun c10 => ?_) (fun c10 => absurd (by rw [hw1]; decide) c10)
        exact aw_sub (lv' := [(2, .int (nI wt)), (1, .int ask), (0, .ref (q 0))]) [0, 1, 2] rfl (hx1 ask wt ltv lzv sv lo hw1 ((lpN_stop (by simp [hw1])).symm.trans hf1))
      · have hf1 := (lpN_go (go := (fun σ : Int32 × Nat × (Nat → Int64) × (Nat → Int32) × (Nat → Int32) × Int32 => !decide (σ.2.1 = 0))) (body := b_X9_nodes_18 a w n) (n := n1) (s := (ask, wt, ltv, lzv, sv, lo)) (by simp [hw1])).symm.trans hf1
        have hwz := hw1
        have hw65 := pJ_wt hJ1
        refine aw_iload_n X (pc := 18) 0 rfl rfl dX9_nodes_18 ?_
        refine aw_if_le X (pc := 19) (tgt := 120) (by decide) dX9_nodes_19 (fun c2 => absurd c2 (nI_nle (by omega) (by have := pJ_wt hJ1; omega))) (fun c2 => ?_)
        refine aw_iinc X (pc := 22) (kx := 0) (v := nI (wt - 1)) (lv' := [(2, .int (nI (wt - 1))), (1, .int ask), (0, .ref (q 0))]) rfl (nn_m1 (a := wt) rfl (by omega)) (by decide) rfl dX9_nodes_22 ?_
        refine aw_aload_n X (pc := 25) 2 rfl rfl dX9_nodes_25 ?_
        refine aw_get X (pc := 26) iX9 0 6 rfl rfl (by decide) fl_X9_27 rfl dX9_nodes_26 ?_
        refine aw_iload_n X (pc := 29) 0 rfl rfl dX9_nodes_29 ?_
        refine aw_lald X (pc := 30) 6 5 (wt - 1) rfl rfl rfl (by decide) (by omega) dX9_nodes_30 ?_
        refine aw_lstore_n X (pc := 31) (lv' := [(3, .long (ltv (wt - 1))), (2, .int (nI (wt - 1))), (1, .int ask), (0, .ref (q 0))]) rfl (by decide) rfl dX9_nodes_31 ?_
        refine aw_aload_n X (pc := 32) 3 rfl rfl dX9_nodes_32 ?_
        refine aw_get X (pc := 33) iX9 0 7 rfl rfl (by decide) fl_X9_30 rfl dX9_nodes_33 ?_
        refine aw_iload_n X (pc := 36) 1 rfl rfl dX9_nodes_36 ?_
        refine aw_iald X (pc := 37) 7 6 (wt - 1) rfl rfl rfl (by decide) (by omega) dX9_nodes_37 ?_
        refine aw_istore X (pc := 38) (lv' := [(5, .int (lzv (wt - 1))), (3, .long (ltv (wt - 1))), (2, .int (nI (wt - 1))), (1, .int ask), (0, .ref (q 0))]) (by decide) rfl dX9_nodes_38 ?_
        refine aw_iinc X (pc := 40) (kx := 3) (v := ask + 1) (lv' := [(1, .int (ask + 1)), (5, .int (lzv (wt - 1))), (3, .long (ltv (wt - 1))), (2, .int (nI (wt - 1))), (0, .ref (q 0))]) rfl rfl (by decide) rfl dX9_nodes_40 ?_
        refine aw_aload_n X (pc := 43) 4 rfl rfl dX9_nodes_43 ?_
        refine aw_lload_n X (pc := 44) 2 rfl rfl dX9_nodes_44 ?_
        refine aw_iload X (pc := 45) 1 rfl dX9_nodes_45 ?_
        refine aw_callVF X (pc := 47) (q1 := 0) (rest := []) (st' := []) (c_X9_called l D q kc a w hs inn sv lo ltv lzv dr n (ltv (wt - 1)) (lzv (wt - 1)) ha0 (by omega)) rfl rfl ⟨_, _, rfl⟩ rfl cf_X9_97 cd_X9_called dd_X9_called (by decide) (by decide) (by decide) rfl (Nat.le_of_ble_eq_true rfl) dX9_nodes_47 rfl ?_
        refine aw_aload_n X (pc := 50) 4 rfl rfl dX9_nodes_50 ?_
        refine aw_callVF X (pc := 51) (q1 := 0) (rest := []) (st' := [.int (nI (r_X9_slot a (lpF (b_X9_called_3 a w (ltv (wt - 1)) (lzv (wt - 1))) n 0 sv) n))]) (c_X9_slot l D q kc a w hs inn (lpF (b_X9_called_3 a w (ltv (wt - 1)) (lzv (wt - 1))) n 0 sv) lo ltv lzv dr n ha0 (by omega)) rfl rfl ⟨_, _, rfl⟩ rfl cf_X9_90 cd_X9_slot dd_X9_slot (by decide) (by decide) (by decide) rfl (Nat.le_of_ble_eq_true rfl) dX9_nodes_51 rfl ?_
        have hs3 : r_X9_slot a (lpF (b_X9_called_3 a w (ltv (wt - 1)) (lzv (wt - 1))) n 0 sv) n ≤ 2 := le_X9_slot ..
        refine aw_iconst X (pc := 54) (v := 2) dX9_nodes_54 (by decide) ?_
        refine aw_icmp_ne X (pc := 55) (tgt := 18) (by decide) dX9_nodes_55 (fun c4 => ?_) (fun c4 => ?_)
        · have e5 : b_X9_nodes_18 a w n (ask, wt, ltv, lzv, sv, lo) = (ask + 1, wt - 1, ltv, lzv, (lpF (b_X9_called_3 a w (ltv (wt - 1)) (lzv (wt - 1))) n 0 sv), u_X9_slot_lone a (lpF (b_X9_called_3 a w (ltv (wt - 1)) (lzv (wt - 1))) n 0 sv) n) := by simp only [b_X9_nodes_18, if_neg c4]
          exact aw_sub (lv' := [(2, .int (nI (wt - 1))), (1, .int (ask + 1)), (0, .ref (q 0))]) [3, 0, 4] rfl (ih1 (ask + 1) (wt - 1) ltv lzv (lpF (b_X9_called_3 a w (ltv (wt - 1)) (lzv (wt - 1))) n 0 sv) (u_X9_slot_lone a (lpF (b_X9_called_3 a w (ltv (wt - 1)) (lzv (wt - 1))) n 0 sv) n) (pJ_pop hJ1) (by have := pM_pos hJ1 hwz; omega) (by rw [← e5]; exact hf1))
        · refine aw_iload X (pc := 58) 1 rfl dX9_nodes_58 ?_
          refine aw_bipush X (pc := 60) (v := 64) dX9_nodes_60 (by decide) ?_
          refine aw_icmp_ne X (pc := 62) (tgt := 68) (by decide) dX9_nodes_62 (fun c6 => ?_) (fun c6 => ?_)
          · refine aw_aload_n X (pc := 68) 4 rfl rfl dX9_nodes_68 ?_
            refine aw_get X (pc := 69) iX9 0 6 rfl rfl (by decide) fl_X9_27 rfl dX9_nodes_69 ?_
            refine aw_iload_n X (pc := 72) 3 rfl rfl dX9_nodes_72 ?_
            refine aw_lload_n X (pc := 73) 2 rfl rfl dX9_nodes_73 ?_
            refine aw_lconst X (pc := 74) (v := 1) dX9_nodes_74 (by decide) ?_
            refine aw_bipush X (pc := 75) (v := 63) dX9_nodes_75 (by decide) ?_
            refine aw_iload X (pc := 77) 1 rfl dX9_nodes_77 ?_
            refine aw_isub X (pc := 79) (z := 63 - (lzv (wt - 1))) rfl  dX9_nodes_79 ?_
            refine aw_lshl X (pc := 80) (z := ((1 : Int64) <<< ((63 - (lzv (wt - 1))).toInt64 &&& 63))) rfl dX9_nodes_80 ?_
            refine aw_lor X (pc := 81) (z := (ltv (wt - 1)) ||| ((1 : Int64) <<< ((63 - (lzv (wt - 1))).toInt64 &&& 63))) rfl dX9_nodes_81 ?_
            refine aw_last X (pc := 82) 6 5 (ws' := (mW q kc a w hs inn (lpF (b_X9_called_3 a w (ltv (wt - 1)) (lzv (wt - 1))) n 0 sv) (u_X9_slot_lone a (lpF (b_X9_called_3 a w (ltv (wt - 1)) (lzv (wt - 1))) n 0 sv) n) (vp_updL ltv (wt - 1) ((ltv (wt - 1)) ||| ((1 : Int64) <<< ((63 - (lzv (wt - 1))).toInt64 &&& 63)))) lzv dr)) (wt - 1) rfl  rfl rfl (by decide) (by omega) rfl dX9_nodes_82 ?_
            refine aw_aload_n X (pc := 83) 4 rfl rfl dX9_nodes_83 ?_
            refine aw_get X (pc := 84) iX9 0 7 rfl rfl (by decide) fl_X9_30 rfl dX9_nodes_84 ?_
            refine aw_iload_n X (pc := 87) 3 rfl rfl dX9_nodes_87 ?_
            refine aw_iload X (pc := 88) 1 rfl dX9_nodes_88 ?_
            refine aw_iconst X (pc := 90) (v := 1) dX9_nodes_90 (by decide) ?_
            refine aw_iadd X (pc := 91) (z := (lzv (wt - 1)) + 1) rfl  dX9_nodes_91 ?_
            refine aw_iast X (pc := 92) 7 6 (ws' := (mW q kc a w hs inn (lpF (b_X9_called_3 a w (ltv (wt - 1)) (lzv (wt - 1))) n 0 sv) (u_X9_slot_lone a (lpF (b_X9_called_3 a w (ltv (wt - 1)) (lzv (wt - 1))) n 0 sv) n) (vp_updL ltv (wt - 1) ((ltv (wt - 1)) ||| ((1 : Int64) <<< ((63 - (lzv (wt - 1))).toInt64 &&& 63)))) (upd lzv (wt - 1) ((lzv (wt - 1)) + 1)) dr)) (wt - 1) rfl  rfl rfl (by decide) (by omega) rfl dX9_nodes_92 ?_
            refine aw_aload_n X (pc := 93) 4 rfl rfl dX9_nodes_93 ?_
            refine aw_get X (pc := 94) iX9 0 6 rfl rfl (by decide) fl_X9_27 rfl dX9_nodes_94 ?_
            refine aw_iload_n X (pc := 97) 3 rfl rfl dX9_nodes_97 ?_
            refine aw_iconst X (pc := 98) (v := 1) dX9_nodes_98 (by decide) ?_
            refine aw_iadd X (pc := 99) (z := nI (wt - 1 + 1)) (nn_add (a := wt - 1) (b := 1) rfl rfl (by first | rfl | omega))  dX9_nodes_99 ?_
            refine aw_lload_n X (pc := 100) 2 rfl rfl dX9_nodes_100 ?_
            refine aw_last X (pc := 101) 6 5 (ws' := (mW q kc a w hs inn (lpF (b_X9_called_3 a w (ltv (wt - 1)) (lzv (wt - 1))) n 0 sv) (u_X9_slot_lone a (lpF (b_X9_called_3 a w (ltv (wt - 1)) (lzv (wt - 1))) n 0 sv) n) (vp_updL (vp_updL ltv (wt - 1) ((ltv (wt - 1)) ||| ((1 : Int64) <<< ((63 - (lzv (wt - 1))).toInt64 &&& 63)))) (wt - 1 + 1) (ltv (wt - 1))) (upd lzv (wt - 1) ((lzv (wt - 1)) + 1)) dr)) (wt - 1 + 1) rfl  rfl rfl (by decide) (by omega) rfl dX9_nodes_101 ?_
            refine aw_aload_n X (pc := 102) 4 rfl rfl dX9_nodes_102 ?_
            refine aw_get X (pc := 103) iX9 0 7 rfl rfl (by decide) fl_X9_30 rfl dX9_nodes_103 ?_
            refine aw_iload_n X (pc := 106) 3 rfl rfl dX9_nodes_106 ?_
            refine aw_iconst X (pc := 107) (v := 1) dX9_nodes_107 (by decide) ?_
            refine aw_iadd X (pc := 108) (z := nI (wt - 1 + 1)) (nn_add (a := wt - 1) (b := 1) rfl rfl (by first | rfl | omega))  dX9_nodes_108 ?_
            refine aw_iload X (pc := 109) 1 rfl dX9_nodes_109 ?_
            refine aw_iconst X (pc := 111) (v := 1) dX9_nodes_111 (by decide) ?_
            refine aw_iadd X (pc := 112) (z := (lzv (wt - 1)) + 1) rfl  dX9_nodes_112 ?_
            refine aw_iast X (pc := 113) 7 6 (ws' := (mW q kc a w hs inn (lpF (b_X9_called_3 a w (ltv (wt - 1)) (lzv (wt - 1))) n 0 sv) (u_X9_slot_lone a (lpF (b_X9_called_3 a w (ltv (wt - 1)) (lzv (wt - 1))) n 0 sv) n) (vp_updL (vp_updL ltv (wt - 1) ((ltv (wt - 1)) ||| ((1 : Int64) <<< ((63 - (lzv (wt - 1))).toInt64 &&& 63)))) (wt - 1 + 1) (ltv (wt - 1))) (upd (upd lzv (wt - 1) ((lzv (wt - 1)) + 1)) (wt - 1 + 1) ((lzv (wt - 1)) + 1)) dr)) (wt - 1 + 1) rfl  rfl rfl (by decide) (by omega) rfl dX9_nodes_113 ?_
            refine aw_iinc X (pc := 114) (kx := 3) (v := nI (wt - 1 + 2)) (lv' := [(2, .int (nI (wt - 1 + 2))), (1, .int (ask + 1)), (5, .int (lzv (wt - 1))), (3, .long (ltv (wt - 1))), (0, .ref (q 0))]) rfl (nn_add (a := wt - 1) (b := 2) rfl rfl rfl) (by decide) rfl dX9_nodes_114 ?_
            refine aw_goto X (pc := 117) (tgt := 18) (by decide) dX9_nodes_117 ?_
            have e7 : b_X9_nodes_18 a w n (ask, wt, ltv, lzv, sv, lo) = (ask + 1, wt - 1 + 2, vp_updL (vp_updL ltv (wt - 1) ((ltv (wt - 1)) ||| ((1 : Int64) <<< ((63 - (lzv (wt - 1))).toInt64 &&& 63)))) (wt - 1 + 1) (ltv (wt - 1)), upd (upd lzv (wt - 1) ((lzv (wt - 1)) + 1)) (wt - 1 + 1) ((lzv (wt - 1)) + 1), (lpF (b_X9_called_3 a w (ltv (wt - 1)) (lzv (wt - 1))) n 0 sv), u_X9_slot_lone a (lpF (b_X9_called_3 a w (ltv (wt - 1)) (lzv (wt - 1))) n 0 sv) n) := by simp only [b_X9_nodes_18, if_pos c4, if_neg c6]
            exact aw_sub (lv' := [(2, .int (nI (wt - 1 + 2))), (1, .int (ask + 1)), (0, .ref (q 0))]) [0, 1, 4] rfl (ih1 (ask + 1) (wt - 1 + 2) (vp_updL (vp_updL ltv (wt - 1) ((ltv (wt - 1)) ||| ((1 : Int64) <<< ((63 - (lzv (wt - 1))).toInt64 &&& 63)))) (wt - 1 + 1) (ltv (wt - 1))) (upd (upd lzv (wt - 1) ((lzv (wt - 1)) + 1)) (wt - 1 + 1) ((lzv (wt - 1)) + 1)) (lpF (b_X9_called_3 a w (ltv (wt - 1)) (lzv (wt - 1))) n 0 sv) (u_X9_slot_lone a (lpF (b_X9_called_3 a w (ltv (wt - 1)) (lzv (wt - 1))) n 0 sv) n) (pJ_push hJ1 hwz c6) (by have := pM_push hJ1 hwz c6; omega) (by rw [← e7]; exact hf1))
          · refine aw_goto X (pc := 65) (tgt := 18) (by decide) dX9_nodes_65 ?_
            have e8 : b_X9_nodes_18 a w n (ask, wt, ltv, lzv, sv, lo) = (ask + 1, wt - 1, ltv, lzv, (lpF (b_X9_called_3 a w (ltv (wt - 1)) (lzv (wt - 1))) n 0 sv), u_X9_slot_lone a (lpF (b_X9_called_3 a w (ltv (wt - 1)) (lzv (wt - 1))) n 0 sv) n) := by simp only [b_X9_nodes_18, if_pos c4, if_pos c6]
            exact aw_sub (lv' := [(2, .int (nI (wt - 1))), (1, .int (ask + 1)), (0, .ref (q 0))]) [3, 0, 4] rfl (ih1 (ask + 1) (wt - 1) ltv lzv (lpF (b_X9_called_3 a w (ltv (wt - 1)) (lzv (wt - 1))) n 0 sv) (u_X9_slot_lone a (lpF (b_X9_called_3 a w (ltv (wt - 1)) (lzv (wt - 1))) n 0 sv) n) (pJ_pop hJ1) (by have := pM_pos hJ1 hwz; omega) (by rw [← e8]; exact hf1))
  exact aw_sub (lv' := [(2, .int 1), (1, .int 0), (0, .ref (q 0))]) [0, 1, 2] rfl (L1 (2 ^ 65) 0 1 (vp_updL lt 0 0) (upd lz 0 0) sp lone (pJ_0 lz) (by show 0 + (2 ^ (65 - (upd lz 0 0 0).toNatClampNeg) - 1) ≤ 2 ^ 65; rw [pk_us]; decide) rfl)
