abbrev rm_X9_isTag : Room := { frames := 1, cells := 0, slots := 0, locals := 21 }
set_option maxHeartbeats 400000 in
set_option maxRecDepth 100000 in
theorem c_X9_isTag (l : Launch) (D : va_G) (q : Nat → Nat) (kc : Nat → ClassId) (a : Nat → Int32) (w : Nat → Int64) (hs : Nat → Int32) (inn : Nat → Int32) (sp : Nat → Int32) (lone : Int32) (lt : Nat → Int64) (lz : Nat → Int32) (dr : Nat → Int32) (t : Int32)  : MW l D yX9_isTag (Cond.code yX9_isTag cX9_isTag 2 (some .boolean) :: TT) rm_X9_isTag [.ref (q 0), .int t] [(kc 1, .int), (kc 2, .long), (kc 3, .boolean), (kc 4, .boolean), (kc 5, .boolean), (kc 6, .long), (kc 7, .int), (kc 8, .int)] (mW q kc a w hs inn sp lone lt lz dr) (some (.int (r_X9_isIn t (a 0)))) (mW q kc a w hs inn sp lone lt lz dr) := by
  refine MW.of (cc := cX9_isTag) (nL := 2) (ret := (some .boolean)) (lv := [(0, .ref (q 0)), (1, .int t)]) (by decide) rfl rfl (Nat.le_of_ble_eq_true rfl) ?_
  intro p e s m args below meth c A Q hQ X
  refine aw_iload_n X (pc := 0) 1 rfl rfl dX9_isTag_0 ?_
  refine aw_aload_n X (pc := 1) 0 rfl rfl dX9_isTag_1 ?_
  refine aw_get X (pc := 2) iX9 0 0 rfl rfl (by decide) fl_X9_7 rfl dX9_isTag_2 ?_
  refine aw_iconst X (pc := 5) (v := 0) dX9_isTag_5 (by decide) ?_
  refine aw_iald X (pc := 6) 1 0 0 rfl rfl rfl (by decide) (by omega) dX9_isTag_6 ?_
  refine aw_callS X (pc := 7) (rest := []) (st' := [.int (r_X9_isIn t (a 0))]) (ws' := (mW q kc a w hs inn sp lone lt lz dr)) (c_X9_isIn l D t (a 0)) rfl [] [] rfl (by decide +kernel) rfl rfl cf_X9_36 cd_X9_isIn dd_X9_isIn (by decide) (by decide) (by decide) rfl (Nat.le_of_ble_eq_true rfl) dX9_isTag_7 rfl ?_
  exact aw_zret X (v := r_X9_isIn t (a 0)) (nrw_01 (z_X9_isIn ..)) hQ rfl rfl dX9_isTag_10

abbrev rm_X9_of : Room := { frames := 0, cells := 0, slots := 0, locals := 0 }
set_option maxHeartbeats 400000 in
set_option maxRecDepth 100000 in
theorem c_X9_of (l : Launch) (D : va_G) (q : Nat → Nat) (kc : Nat → ClassId) (a : Nat → Int32) (w : Nat → Int64) (hs : Nat → Int32) (inn : Nat → Int32) (sp : Nat → Int32) (lone : Int32) (lt : Nat → Int64) (lz : Nat → Int32) (dr : Nat → Int32) (t : Int32) (wh : Int32) (k : Nat) (j : Nat) (ht : t = nI k) (hj : wh = nI j) (hb : 300 + 6 * k + j < 2700) : MW l D yX9_of (Cond.code yX9_of cX9_of 3 (some .int) :: TT) rm_X9_of [.ref (q 0), .int t, .int wh] [(kc 1, .int), (kc 2, .long), (kc 3, .boolean), (kc 4, .boolean), (kc 5, .boolean), (kc 6, .long), (kc 7, .int), (kc 8, .int)] (mW q kc a w hs inn sp lone lt lz dr) (some (.int (a (300 + 6 * k + j)))) (mW q kc a w hs inn sp lone lt lz dr) := by
  refine MW.of (cc := cX9_of) (nL := 3) (ret := (some .int)) (lv := [(0, .ref (q 0)), (1, .int t), (2, .int wh)]) (by decide) rfl rfl (Nat.le_of_ble_eq_true rfl) ?_
  intro p e s m args below meth c A Q hQ X
  refine aw_aload_n X (pc := 0) 0 rfl rfl dX9_of_0 ?_
  refine aw_get X (pc := 1) iX9 0 0 rfl rfl (by decide) fl_X9_7 rfl dX9_of_1 ?_
  refine aw_sipush X (pc := 4) (v := 300) dX9_of_4 (by decide) ?_
  refine aw_bipush X (pc := 7) (v := 6) dX9_of_7 (by decide) ?_
  refine aw_iload_n X (pc := 9) 1 rfl rfl dX9_of_9 ?_
  refine aw_imul X (pc := 10) (z := nI (6 * k)) (nn_mul (a := 6) (b := k) rfl ht (by first | rfl | omega))  dX9_of_10 ?_
  refine aw_iadd X (pc := 11) (z := nI (300 + 6 * k)) (nn_add (a := 300) (b := 6 * k) rfl rfl (by first | rfl | omega))  dX9_of_11 ?_
  refine aw_iload_n X (pc := 12) 2 rfl rfl dX9_of_12 ?_
  refine aw_iadd X (pc := 13) (z := nI (300 + 6 * k + j)) (nn_add (a := 300 + 6 * k) (b := j) rfl hj (by first | rfl | omega))  dX9_of_13 ?_
  refine aw_iald X (pc := 14) 1 0 (300 + 6 * k + j) rfl rfl rfl (by decide) (by omega) dX9_of_14 ?_
  exact aw_iret X (v := a (300 + 6 * k + j)) hQ rfl rfl dX9_of_15

abbrev rm_X9_sets : Room := { frames := 0, cells := 0, slots := 0, locals := 0 }
set_option maxHeartbeats 400000 in
set_option maxRecDepth 100000 in
theorem c_X9_sets (l : Launch) (D : va_G) (q : Nat → Nat) (kc : Nat → ClassId) (a : Nat → Int32) (w : Nat → Int64) (hs : Nat → Int32) (inn : Nat → Int32) (sp : Nat → Int32) (lone : Int32) (lt : Nat → Int64) (lz : Nat → Int32) (dr : Nat → Int32) (t : Int32) (wh : Int32) (k : Nat) (j : Nat) (x : Int32) (ht : t = nI k) (hj : wh = nI j) (hb : 300 + 6 * k + j < 2700) : MW l D yX9_sets (Cond.code yX9_sets cX9_sets 4 none :: TT) rm_X9_sets [.ref (q 0), .int t, .int wh, .int x] [(kc 1, .int), (kc 2, .long), (kc 3, .boolean), (kc 4, .boolean), (kc 5, .boolean), (kc 6, .long), (kc 7, .int), (kc 8, .int)] (mW q kc a w hs inn sp lone lt lz dr) none (mW q kc (upd a (300 + 6 * k + j) x) w hs inn sp lone lt lz dr) := by
  refine MW.of (cc := cX9_sets) (nL := 4) (ret := none) (lv := [(0, .ref (q 0)), (1, .int t), (2, .int wh), (3, .int x)]) (by decide) ((mW_ad ..).trans (mW_ad ..).symm) rfl (Nat.le_of_ble_eq_true rfl) ?_
  intro p e s m args below meth c A Q hQ X
  refine aw_aload_n X (pc := 0) 0 rfl rfl dX9_sets_0 ?_
  refine aw_get X (pc := 1) iX9 0 0 rfl rfl (by decide) fl_X9_7 rfl dX9_sets_1 ?_
  refine aw_sipush X (pc := 4) (v := 300) dX9_sets_4 (by decide) ?_
  refine aw_bipush X (pc := 7) (v := 6) dX9_sets_7 (by decide) ?_
  refine aw_iload_n X (pc := 9) 1 rfl rfl dX9_sets_9 ?_
  refine aw_imul X (pc := 10) (z := nI (6 * k)) (nn_mul (a := 6) (b := k) rfl ht (by first | rfl | omega))  dX9_sets_10 ?_
  refine aw_iadd X (pc := 11) (z := nI (300 + 6 * k)) (nn_add (a := 300) (b := 6 * k) rfl rfl (by first | rfl | omega))  dX9_sets_11 ?_
  refine aw_iload_n X (pc := 12) 2 rfl rfl dX9_sets_12 ?_
  refine aw_iadd X (pc := 13) (z := nI (300 + 6 * k + j)) (nn_add (a := 300 + 6 * k) (b := j) rfl hj (by first | rfl | omega))  dX9_sets_13 ?_
  refine aw_iload_n X (pc := 14) 3 rfl rfl dX9_sets_14 ?_
  refine aw_iast X (pc := 15) 1 0 (ws' := (mW q kc (upd a (300 + 6 * k + j) x) w hs inn sp lone lt lz dr)) (300 + 6 * k + j) rfl  rfl rfl (by decide) (by omega) rfl dX9_sets_15 ?_
  exact aw_vret X hQ rfl rfl dX9_sets_16

def r_X9_listens (a : Nat → Int32) (w : Nat → Int64) (k : Nat) : Int32 := if a (300 + 6 * k + 1) = 1 then (if a (300 + 6 * k + 2) = 1 then (if lg_cmp (((w (84 + k)) ^^^ (w 1)) &&& (w 0)) 0 = 0 then 1 else 0) else 0) else 0
theorem z_X9_listens (a : Nat → Int32) (w : Nat → Int64) (k : Nat) : r_X9_listens a w k = 0 ∨ r_X9_listens a w k = 1 := by
  unfold r_X9_listens
  by_cases h0 : a (300 + 6 * k + 1) = 1
  · try rw [if_pos h0]
    by_cases h1 : a (300 + 6 * k + 2) = 1
    · try rw [if_pos h1]
      by_cases h2 : lg_cmp (((w (84 + k)) ^^^ (w 1)) &&& (w 0)) 0 = 0
      · try rw [if_pos h2]
        exact Or.inr rfl
      · try rw [if_neg h2]
        exact Or.inl rfl
    · try rw [if_neg h1]
      exact Or.inl rfl
  · try rw [if_neg h0]
    exact Or.inl rfl
abbrev rm_X9_listens : Room := { frames := 1, cells := 0, slots := 0, locals := 22 }
set_option maxHeartbeats 400000 in
set_option maxRecDepth 100000 in
theorem c_X9_listens (l : Launch) (D : va_G) (q : Nat → Nat) (kc : Nat → ClassId) (a : Nat → Int32) (w : Nat → Int64) (hs : Nat → Int32) (inn : Nat → Int32) (sp : Nat → Int32) (lone : Int32) (lt : Nat → Int64) (lz : Nat → Int32) (dr : Nat → Int32) (t : Int32) (k : Nat) (ht : t = nI k) (hk : k < 40) : MW l D yX9_listens (Cond.code yX9_listens cX9_listens 2 (some .boolean) :: TT) rm_X9_listens [.ref (q 0), .int t] [(kc 1, .int), (kc 2, .long), (kc 3, .boolean), (kc 4, .boolean), (kc 5, .boolean), (kc 6, .long), (kc 7, .int), (kc 8, .int)] (mW q kc a w hs inn sp lone lt lz dr) (some (.int (r_X9_listens a w k))) (mW q kc a w hs inn sp lone lt lz dr) := by
  refine MW.of (cc := cX9_listens) (nL := 2) (ret := (some .boolean)) (lv := [(0, .ref (q 0)), (1, .int t)]) (by decide) rfl rfl (Nat.le_of_ble_eq_true rfl) ?_
  intro p e s m args below meth c A Q hQ X
  refine aw_aload_n X (pc := 0) 0 rfl rfl dX9_listens_0 ?_
  refine aw_iload_n X (pc := 1) 1 rfl rfl dX9_listens_1 ?_
  refine aw_iconst X (pc := 2) (v := 1) dX9_listens_2 (by decide) ?_
  refine aw_callVF X (pc := 3) (q1 := 0) (rest := []) (st' := [.int (a (300 + 6 * k + 1))]) (c_X9_of l D q kc a w hs inn sp lone lt lz dr t 1 k 1 ht rfl (by omega)) rfl rfl ⟨_, _, rfl⟩ rfl cf_X9_44 cd_X9_of dd_X9_of (by decide) (by decide) (by decide) rfl (Nat.le_of_ble_eq_true rfl) dX9_listens_3 rfl ?_
  refine aw_iconst X (pc := 6) (v := 1) dX9_listens_6 (by decide) ?_
  refine aw_icmp_ne X (pc := 7) (tgt := 52) (by decide) dX9_listens_7 (fun c1 => ?_) (fun c1 => ?_)
  · refine aw_iconst X (pc := 52) (v := 0) dX9_listens_52 (by decide) ?_
    exact aw_zret X (v := 0) rfl hQ (by simp only [r_X9_listens, if_neg c1]; try rfl) rfl dX9_listens_53
  · refine aw_aload_n X (pc := 10) 0 rfl rfl dX9_listens_10 ?_
    refine aw_iload_n X (pc := 11) 1 rfl rfl dX9_listens_11 ?_
    refine aw_iconst X (pc := 12) (v := 2) dX9_listens_12 (by decide) ?_
    refine aw_callVF X (pc := 13) (q1 := 0) (rest := []) (st' := [.int (a (300 + 6 * k + 2))]) (c_X9_of l D q kc a w hs inn sp lone lt lz dr t 2 k 2 ht rfl (by omega)) rfl rfl ⟨_, _, rfl⟩ rfl cf_X9_44 cd_X9_of dd_X9_of (by decide) (by decide) (by decide) rfl (Nat.le_of_ble_eq_true rfl) dX9_listens_13 rfl ?_
    refine aw_iconst X (pc := 16) (v := 1) dX9_listens_16 (by decide) ?_
    refine aw_icmp_ne X (pc := 17) (tgt := 52) (by decide) dX9_listens_17 (fun c2 => ?_) (fun c2 => ?_)
    · refine aw_iconst X (pc := 52) (v := 0) dX9_listens_52 (by decide) ?_
      exact aw_zret X (v := 0) rfl hQ (by simp only [r_X9_listens, if_pos c1, if_neg c2]; try rfl) rfl dX9_listens_53
    · refine aw_aload_n X (pc := 20) 0 rfl rfl dX9_listens_20 ?_
      refine aw_get X (pc := 21) iX9 0 1 rfl rfl (by decide) fl_X9_13 rfl dX9_listens_21 ?_
      refine aw_bipush X (pc := 24) (v := 84) dX9_listens_24 (by decide) ?_
      refine aw_iload_n X (pc := 26) 1 rfl rfl dX9_listens_26 ?_
      refine aw_iadd X (pc := 27) (z := nI (84 + k)) (nn_add (a := 84) (b := k) rfl ht (by first | rfl | omega))  dX9_listens_27 ?_
      refine aw_lald X (pc := 28) 2 1 (84 + k) rfl rfl rfl (by decide) (by omega) dX9_listens_28 ?_
      refine aw_aload_n X (pc := 29) 0 rfl rfl dX9_listens_29 ?_
      refine aw_get X (pc := 30) iX9 0 1 rfl rfl (by decide) fl_X9_13 rfl dX9_listens_30 ?_
      refine aw_iconst X (pc := 33) (v := 1) dX9_listens_33 (by decide) ?_
      refine aw_lald X (pc := 34) 2 1 1 rfl rfl rfl (by decide) (by omega) dX9_listens_34 ?_
      refine aw_lxor X (pc := 35) (z := (w (84 + k)) ^^^ (w 1)) rfl dX9_listens_35 ?_
      refine aw_aload_n X (pc := 36) 0 rfl rfl dX9_listens_36 ?_
      refine aw_get X (pc := 37) iX9 0 1 rfl rfl (by decide) fl_X9_13 rfl dX9_listens_37 ?_
      refine aw_iconst X (pc := 40) (v := 0) dX9_listens_40 (by decide) ?_
      refine aw_lald X (pc := 41) 2 1 0 rfl rfl rfl (by decide) (by omega) dX9_listens_41 ?_
      refine aw_land X (pc := 42) (z := ((w (84 + k)) ^^^ (w 1)) &&& (w 0)) rfl dX9_listens_42 ?_
      refine aw_lconst X (pc := 43) (v := 0) dX9_listens_43 (by decide) ?_
      refine aw_lcmp X (pc := 44) dX9_listens_44 ?_
      refine aw_if_ne X (pc := 45) (tgt := 52) (by decide) dX9_listens_45 (fun c3 => ?_) (fun c3 => ?_)
      · refine aw_iconst X (pc := 52) (v := 0) dX9_listens_52 (by decide) ?_
        exact aw_zret X (v := 0) rfl hQ (by simp only [r_X9_listens, if_pos c1, if_pos c2, if_neg c3]; try rfl) rfl dX9_listens_53
      · refine aw_iconst X (pc := 48) (v := 1) dX9_listens_48 (by decide) ?_
        refine aw_goto X (pc := 49) (tgt := 53) (by decide) dX9_listens_49 ?_
        exact aw_zret X (v := 1) rfl hQ (by simp only [r_X9_listens, if_pos c1, if_pos c2, if_pos c3]; try rfl) rfl dX9_listens_53

def r_X9_wire (kind : Int32) : Int32 := if r_X9_isIn kind 2 = 0 then 0 else 1
def u_X9_wire_a (a : Nat → Int32) (kind : Int32) : Nat → Int32 := if r_X9_isIn kind 2 = 0 then a else (upd a 1 kind)
theorem z_X9_wire (kind : Int32) : r_X9_wire kind = 0 ∨ r_X9_wire kind = 1 := by
  unfold r_X9_wire
  by_cases h0 : r_X9_isIn kind 2 = 0
  · try rw [if_pos h0]
    exact Or.inl rfl
  · try rw [if_neg h0]
    exact Or.inr rfl
abbrev rm_X9_wire : Room := { frames := 1, cells := 0, slots := 0, locals := 21 }
set_option maxHeartbeats 400000 in
set_option maxRecDepth 100000 in
theorem c_X9_wire (l : Launch) (D : va_G) (q : Nat → Nat) (kc : Nat → ClassId) (a : Nat → Int32) (w : Nat → Int64) (hs : Nat → Int32) (inn : Nat → Int32) (sp : Nat → Int32) (lone : Int32) (lt : Nat → Int64) (lz : Nat → Int32) (dr : Nat → Int32) (kind : Int32)  : MW l D yX9_wire (Cond.code yX9_wire cX9_wire 2 (some .boolean) :: TT) rm_X9_wire [.ref (q 0), .int kind] [(kc 1, .int), (kc 2, .long), (kc 3, .boolean), (kc 4, .boolean), (kc 5, .boolean), (kc 6, .long), (kc 7, .int), (kc 8, .int)] (mW q kc a w hs inn sp lone lt lz dr) (some (.int (r_X9_wire kind))) (mW q kc (u_X9_wire_a a kind) w hs inn sp lone lt lz dr) := by
  refine MW.of (cc := cX9_wire) (nL := 2) (ret := (some .boolean)) (lv := [(0, .ref (q 0)), (1, .int kind)]) (by decide) ((mW_ad ..).trans (mW_ad ..).symm) rfl (Nat.le_of_ble_eq_true rfl) ?_
  intro p e s m args below meth c A Q hQ X
  refine aw_iload_n X (pc := 0) 1 rfl rfl dX9_wire_0 ?_
  refine aw_iconst X (pc := 1) (v := 2) dX9_wire_1 (by decide) ?_
  refine aw_callS X (pc := 2) (rest := []) (st' := [.int (r_X9_isIn kind 2)]) (ws' := (mW q kc a w hs inn sp lone lt lz dr)) (c_X9_isIn l D kind 2) rfl [] [] rfl (by decide +kernel) rfl rfl cf_X9_36 cd_X9_isIn dd_X9_isIn (by decide) (by decide) (by decide) rfl (Nat.le_of_ble_eq_true rfl) dX9_wire_2 rfl ?_
  refine aw_if_ne X (pc := 5) (tgt := 10) (by decide) dX9_wire_5 (fun c1 => ?_) (fun c1 => ?_)
  · refine aw_aload_n X (pc := 10) 0 rfl rfl dX9_wire_10 ?_
    refine aw_get X (pc := 11) iX9 0 0 rfl rfl (by decide) fl_X9_7 rfl dX9_wire_11 ?_
    refine aw_iconst X (pc := 14) (v := 1) dX9_wire_14 (by decide) ?_
    refine aw_iload_n X (pc := 15) 1 rfl rfl dX9_wire_15 ?_
    refine aw_iast X (pc := 16) 1 0 (ws' := (mW q kc (upd a 1 kind) w hs inn sp lone lt lz dr)) 1 rfl  rfl rfl (by decide) (by omega) rfl dX9_wire_16 ?_
    refine aw_iconst X (pc := 17) (v := 1) dX9_wire_17 (by decide) ?_
    exact aw_zret X (v := 1) rfl hQ (by simp only [r_X9_wire, if_neg c1]; try rfl) (by simp only [u_X9_wire_a, if_neg c1]) dX9_wire_18
  · refine aw_iconst X (pc := 8) (v := 0) dX9_wire_8 (by decide) ?_
    exact aw_zret X (v := 0) rfl hQ (by simp only [r_X9_wire, if_pos c1]; try rfl) (by simp only [u_X9_wire_a, if_pos c1]) dX9_wire_9

theorem isIn_nat {v most : Int32} {n : Nat} (hm : most = nI n) (hn : n < 2 ^ 31) (h : ¬ r_X9_isIn v most = 0) : v = nI v.toNatClampNeg ∧ v.toNatClampNeg < n := by
  unfold r_X9_isIn at h
  by_cases h1 : v < 0
  · rw [if_pos h1] at h; exact absurd rfl h
  · rw [if_neg h1] at h
    by_cases h2 : most ≤ v
    · rw [if_pos h2] at h; exact absurd rfl h
    · obtain ⟨j, hj, rfl⟩ := nI_of h1
      rw [nI_clamp hj]
      refine ⟨rfl, ?_⟩
      rw [hm, nI_leI hn hj] at h2
      omega

def r_X9_tag (a : Nat → Int32) (w : Nat → Int64) (n : Nat) (kind : Int32) (name : Int64) : Int32 := if a 0 = 40 then (-1) else (if r_X9_isIn kind 6 = 0 then (-1) else (if anyB (fun k => decide (lg_cmp (w (84 + k)) ((name <<< (Int32.toInt64 8 &&& 63)) ||| ((lpF (b_X9_sumOf_4 (name <<< (Int32.toInt64 8 &&& 63))) 56 0 0).toInt64)) = 0)) n = true then (-1) else (a 0)))
def u_X9_tag_a (a : Nat → Int32) (w : Nat → Int64) (n : Nat) (kind : Int32) (name : Int64) (seed : Int32) : Nat → Int32 := if a 0 = 40 then a else (if r_X9_isIn kind 6 = 0 then a else (if anyB (fun k => decide (lg_cmp (w (84 + k)) ((name <<< (Int32.toInt64 8 &&& 63)) ||| ((lpF (b_X9_sumOf_4 (name <<< (Int32.toInt64 8 &&& 63))) 56 0 0).toInt64)) = 0)) n = true then a else (if kind = 4 then (upd (upd (upd (upd (upd (upd (upd a 0 (nI (n + 1))) (300 + 6 * n + 0) kind) (300 + 6 * n + 1) 1) (300 + 6 * n + 2) 0) (300 + 6 * n + 3) (-1)) (300 + 6 * n + 4) seed) (300 + 6 * n + 5) 0) else (upd (upd (upd (upd (upd (upd (upd a 0 (nI (n + 1))) (300 + 6 * n + 0) kind) (300 + 6 * n + 1) 1) (300 + 6 * n + 2) 1) (300 + 6 * n + 3) (-1)) (300 + 6 * n + 4) seed) (300 + 6 * n + 5) 0))))
def u_X9_tag_w (a : Nat → Int32) (w : Nat → Int64) (n : Nat) (kind : Int32) (name : Int64) : Nat → Int64 := if a 0 = 40 then w else (if r_X9_isIn kind 6 = 0 then w else (if anyB (fun k => decide (lg_cmp (w (84 + k)) ((name <<< (Int32.toInt64 8 &&& 63)) ||| ((lpF (b_X9_sumOf_4 (name <<< (Int32.toInt64 8 &&& 63))) 56 0 0).toInt64)) = 0)) n = true then w else (vp_updL w (84 + n) ((name <<< (Int32.toInt64 8 &&& 63)) ||| ((lpF (b_X9_sumOf_4 (name <<< (Int32.toInt64 8 &&& 63))) 56 0 0).toInt64)))))
abbrev rm_X9_tag : Room := { frames := 2, cells := 0, slots := 0, locals := 46 }
set_option maxHeartbeats 400000 in
set_option maxRecDepth 100000 in
theorem c_X9_tag (l : Launch) (D : va_G) (q : Nat → Nat) (kc : Nat → ClassId) (a : Nat → Int32) (w : Nat → Int64) (hs : Nat → Int32) (inn : Nat → Int32) (sp : Nat → Int32) (lone : Int32) (lt : Nat → Int64) (lz : Nat → Int32) (dr : Nat → Int32) (n : Nat) (kind : Int32) (name : Int64) (seed : Int32) (ha0 : a 0 = nI n) (hn : n ≤ 40) : MW l D yX9_tag (Cond.code yX9_tag cX9_tag 8 (some .int) :: TT) rm_X9_tag [.ref (q 0), .int kind, .long name, .int seed] [(kc 1, .int), (kc 2, .long), (kc 3, .boolean), (kc 4, .boolean), (kc 5, .boolean), (kc 6, .long), (kc 7, .int), (kc 8, .int)] (mW q kc a w hs inn sp lone lt lz dr) (some (.int (r_X9_tag a w n kind name))) (mW q kc (u_X9_tag_a a w n kind name seed) (u_X9_tag_w a w n kind name) hs inn sp lone lt lz dr) := by
  refine MW.of (cc := cX9_tag) (nL := 8) (ret := (some .int)) (lv := [(0, .ref (q 0)), (1, .int kind), (2, .long name), (4, .int seed)]) (by decide) ((mW_ad ..).trans (mW_ad ..).symm) rfl (Nat.le_of_ble_eq_true rfl) ?_
  intro p e s m args below meth c A Q hQ X
  refine aw_aload_n X (pc := 0) 0 rfl rfl dX9_tag_0 ?_
  refine aw_get X (pc := 1) iX9 0 0 rfl rfl (by decide) fl_X9_7 rfl dX9_tag_1 ?_
  refine aw_iconst X (pc := 4) (v := 0) dX9_tag_4 (by decide) ?_
  refine aw_iald X (pc := 5) 1 0 0 rfl rfl rfl (by decide) (by omega) dX9_tag_5 ?_
  refine aw_bipush X (pc := 6) (v := 40) dX9_tag_6 (by decide) ?_
  refine aw_icmp_eq X (pc := 8) (tgt := 20) (by decide) dX9_tag_8 (fun c1 => ?_) (fun c1 => ?_)
  · refine aw_iconst X (pc := 20) (v := (-1)) dX9_tag_20 (by decide) ?_
    exact aw_iret X (v := (-1)) hQ (by simp only [r_X9_tag, if_pos c1]; try rfl) (by simp only [u_X9_tag_a, u_X9_tag_w, if_pos c1]) dX9_tag_21
  · have hn40 : n ≠ 40 := fun z => c1 (by rw [ha0, z]; rfl)
    refine aw_iload_n X (pc := 11) 1 rfl rfl dX9_tag_11 ?_
    refine aw_bipush X (pc := 12) (v := 6) dX9_tag_12 (by decide) ?_
    refine aw_callS X (pc := 14) (rest := []) (st' := [.int (r_X9_isIn kind 6)]) (ws' := (mW q kc a w hs inn sp lone lt lz dr)) (c_X9_isIn l D kind 6) rfl [] [] rfl (by decide +kernel) rfl rfl cf_X9_36 cd_X9_isIn dd_X9_isIn (by decide) (by decide) (by decide) rfl (Nat.le_of_ble_eq_true rfl) dX9_tag_14 rfl ?_
    refine aw_if_ne X (pc := 17) (tgt := 22) (by decide) dX9_tag_17 (fun c2 => ?_) (fun c2 => ?_)
    · refine aw_lload_n X (pc := 22) 2 rfl rfl dX9_tag_22 ?_
      refine aw_bipush X (pc := 23) (v := 8) dX9_tag_23 (by decide) ?_
      refine aw_lshl X (pc := 25) (z := name <<< (Int32.toInt64 8 &&& 63)) rfl dX9_tag_25 ?_
      refine aw_lstore X (pc := 26) (lv' := [(5, .long (name <<< (Int32.toInt64 8 &&& 63))), (0, .ref (q 0)), (1, .int kind), (2, .long name), (4, .int seed)]) (by decide) rfl dX9_tag_26 ?_
      refine aw_lload X (pc := 28) 0 rfl dX9_tag_28 ?_
      refine aw_lload X (pc := 30) 0 rfl dX9_tag_30 ?_
      refine aw_callS X (pc := 32) (rest := [.long (name <<< (Int32.toInt64 8 &&& 63))]) (st' := [.int (lpF (b_X9_sumOf_4 (name <<< (Int32.toInt64 8 &&& 63))) 56 0 0), .long (name <<< (Int32.toInt64 8 &&& 63))]) (ws' := (mW q kc a w hs inn sp lone lt lz dr)) (c_X9_sumOf l D (name <<< (Int32.toInt64 8 &&& 63))) rfl [] [] rfl (by decide +kernel) rfl rfl cf_X9_48 cd_X9_sumOf dd_X9_sumOf (by decide) (by decide) (by decide) rfl (Nat.le_of_ble_eq_true rfl) dX9_tag_32 rfl ?_
      refine aw_i2l X (pc := 35) (z := (lpF (b_X9_sumOf_4 (name <<< (Int32.toInt64 8 &&& 63))) 56 0 0).toInt64) rfl dX9_tag_35 ?_
      refine aw_lor X (pc := 36) (z := (name <<< (Int32.toInt64 8 &&& 63)) ||| ((lpF (b_X9_sumOf_4 (name <<< (Int32.toInt64 8 &&& 63))) 56 0 0).toInt64)) rfl dX9_tag_36 ?_
      refine aw_lstore X (pc := 37) (lv' := [(5, .long ((name <<< (Int32.toInt64 8 &&& 63)) ||| ((lpF (b_X9_sumOf_4 (name <<< (Int32.toInt64 8 &&& 63))) 56 0 0).toInt64))), (0, .ref (q 0)), (1, .int kind), (2, .long name), (4, .int seed)]) (by decide) rfl dX9_tag_37 ?_
      refine aw_iconst X (pc := 39) (v := 0) dX9_tag_39 (by decide) ?_
      refine aw_istore X (pc := 40) (lv' := [(7, .int 0), (5, .long ((name <<< (Int32.toInt64 8 &&& 63)) ||| ((lpF (b_X9_sumOf_4 (name <<< (Int32.toInt64 8 &&& 63))) 56 0 0).toInt64))), (0, .ref (q 0)), (1, .int kind), (2, .long name), (4, .int seed)]) (by decide) rfl dX9_tag_40 ?_
      have L3 : ∀ (n3 k : Nat), k + n3 = n → (∀ j, j < k → ¬ (fun k : Nat => lg_cmp (w (84 + k)) ((name <<< (Int32.toInt64 8 &&& 63)) ||| ((lpF (b_X9_sumOf_4 (name <<< (Int32.toInt64 8 &&& 63))) 56 0 0).toInt64)) = 0) j) → AW p l e rm_X9_tag s m args below meth c D A 8 0 0 Q 42 [(7, .int (nI k)), (5, .long ((name <<< (Int32.toInt64 8 &&& 63)) ||| ((lpF (b_X9_sumOf_4 (name <<< (Int32.toInt64 8 &&& 63))) 56 0 0).toInt64))), (0, .ref (q 0)), (1, .int kind), (2, .long name), (4, .int seed)] [] (mW q kc a w hs inn sp lone lt lz dr) := by
        intro n3; induction n3 with
        | zero =>
          intro k hk3 hn3
          have hk3 : k = n := by omega
          have g4 : ¬ anyB (fun k => decide (lg_cmp (w (84 + k)) ((name <<< (Int32.toInt64 8 &&& 63)) ||| ((lpF (b_X9_sumOf_4 (name <<< (Int32.toInt64 8 &&& 63))) 56 0 0).toInt64)) = 0)) n = true := anyB_no (fun j hj => hn3 j (by omega))
          refine aw_iload X (pc := 42) 0 rfl dX9_tag_42 ?_
          refine aw_aload_n X (pc := 44) 2 rfl rfl dX9_tag_44 ?_
          refine aw_get X (pc := 45) iX9 0 0 rfl rfl (by decide) fl_X9_7 rfl dX9_tag_45 ?_
          refine aw_iconst X (pc := 48) (v := 0) dX9_tag_48 (by decide) ?_
          refine aw_iald X (pc := 49) 1 0 0 rfl rfl rfl (by decide) (by omega) dX9_tag_49 ?_
          refine aw_icmp_ge X (pc := 50) (tgt := 77) (by decide) dX9_tag_50 (fun c5 => ?_) (fun c5 => absurd (nn_le (a := n) (b := k) ha0 rfl (by omega) (by omega)) c5)
          refine aw_aload_n X (pc := 77) 2 rfl rfl dX9_tag_77 ?_
          refine aw_get X (pc := 78) iX9 0 0 rfl rfl (by decide) fl_X9_7 rfl dX9_tag_78 ?_
          refine aw_iconst X (pc := 81) (v := 0) dX9_tag_81 (by decide) ?_
          refine aw_iald X (pc := 82) 1 0 0 rfl rfl rfl (by decide) (by omega) dX9_tag_82 ?_
          refine aw_istore X (pc := 83) (lv' := [(7, .int (a 0)), (5, .long ((name <<< (Int32.toInt64 8 &&& 63)) ||| ((lpF (b_X9_sumOf_4 (name <<< (Int32.toInt64 8 &&& 63))) 56 0 0).toInt64))), (0, .ref (q 0)), (1, .int kind), (2, .long name), (4, .int seed)]) (by decide) rfl dX9_tag_83 ?_
          refine aw_aload_n X (pc := 85) 2 rfl rfl dX9_tag_85 ?_
          refine aw_get X (pc := 86) iX9 0 0 rfl rfl (by decide) fl_X9_7 rfl dX9_tag_86 ?_
          refine aw_iconst X (pc := 89) (v := 0) dX9_tag_89 (by decide) ?_
          refine aw_dup2_11 X (pc := 90) dX9_tag_90 rfl rfl ?_
          refine aw_iald X (pc := 91) 1 0 0 rfl rfl rfl (by decide) (by omega) dX9_tag_91 ?_
          refine aw_iconst X (pc := 92) (v := 1) dX9_tag_92 (by decide) ?_
          refine aw_iadd X (pc := 93) (z := nI (n + 1)) (nn_add (a := n) (b := 1) ha0 rfl (by first | rfl | omega))  dX9_tag_93 ?_
          refine aw_iast X (pc := 94) 1 0 (ws' := (mW q kc (upd a 0 (nI (n + 1))) w hs inn sp lone lt lz dr)) 0 rfl  rfl rfl (by decide) (by omega) rfl dX9_tag_94 ?_
          have ha6 : (upd a 0 (nI (n + 1))) 0 = nI (n + 1) := pk_us.trans rfl
          refine aw_aload_n X (pc := 95) 2 rfl rfl dX9_tag_95 ?_
          refine aw_get X (pc := 96) iX9 0 1 rfl rfl (by decide) fl_X9_13 rfl dX9_tag_96 ?_
          refine aw_bipush X (pc := 99) (v := 84) dX9_tag_99 (by decide) ?_
          refine aw_iload X (pc := 101) 0 rfl dX9_tag_101 ?_
          refine aw_iadd X (pc := 103) (z := nI (84 + n)) (nn_add (a := 84) (b := n) rfl ha0 (by first | rfl | omega))  dX9_tag_103 ?_
          refine aw_lload X (pc := 104) 1 rfl dX9_tag_104 ?_
          refine aw_last X (pc := 106) 2 1 (ws' := (mW q kc (upd a 0 (nI (n + 1))) (vp_updL w (84 + n) ((name <<< (Int32.toInt64 8 &&& 63)) ||| ((lpF (b_X9_sumOf_4 (name <<< (Int32.toInt64 8 &&& 63))) 56 0 0).toInt64))) hs inn sp lone lt lz dr)) (84 + n) rfl  rfl rfl (by decide) (by omega) rfl dX9_tag_106 ?_
          refine aw_aload_n X (pc := 107) 2 rfl rfl dX9_tag_107 ?_
          refine aw_iload X (pc := 108) 0 rfl dX9_tag_108 ?_
          refine aw_iconst X (pc := 110) (v := 0) dX9_tag_110 (by decide) ?_
          refine aw_iload_n X (pc := 111) 3 rfl rfl dX9_tag_111 ?_
          refine aw_callVF X (pc := 112) (q1 := 0) (rest := []) (st' := []) (c_X9_sets l D q kc (upd a 0 (nI (n + 1))) (vp_updL w (84 + n) ((name <<< (Int32.toInt64 8 &&& 63)) ||| ((lpF (b_X9_sumOf_4 (name <<< (Int32.toInt64 8 &&& 63))) 56 0 0).toInt64))) hs inn sp lone lt lz dr (a 0) 0 n 0 kind ha0 rfl (by omega)) rfl rfl ⟨_, _, rfl⟩ rfl cf_X9_52 cd_X9_sets dd_X9_sets (by decide) (by decide) (by decide) rfl (Nat.le_of_ble_eq_true rfl) dX9_tag_112 rfl ?_
          have ha7 : (upd (upd a 0 (nI (n + 1))) (300 + 6 * n + 0) kind) 0 = nI (n + 1) := by rw [pk_un (by omega)]; exact ha6
          refine aw_aload_n X (pc := 115) 2 rfl rfl dX9_tag_115 ?_
          refine aw_iload X (pc := 116) 0 rfl dX9_tag_116 ?_
          refine aw_iconst X (pc := 118) (v := 1) dX9_tag_118 (by decide) ?_
          refine aw_iconst X (pc := 119) (v := 1) dX9_tag_119 (by decide) ?_
          refine aw_callVF X (pc := 120) (q1 := 0) (rest := []) (st' := []) (c_X9_sets l D q kc (upd (upd a 0 (nI (n + 1))) (300 + 6 * n + 0) kind) (vp_updL w (84 + n) ((name <<< (Int32.toInt64 8 &&& 63)) ||| ((lpF (b_X9_sumOf_4 (name <<< (Int32.toInt64 8 &&& 63))) 56 0 0).toInt64))) hs inn sp lone lt lz dr (a 0) 1 n 1 1 ha0 rfl (by omega)) rfl rfl ⟨_, _, rfl⟩ rfl cf_X9_52 cd_X9_sets dd_X9_sets (by decide) (by decide) (by decide) rfl (Nat.le_of_ble_eq_true rfl) dX9_tag_120 rfl ?_
          have ha8 : (upd (upd (upd a 0 (nI (n + 1))) (300 + 6 * n + 0) kind) (300 + 6 * n + 1) 1) 0 = nI (n + 1) := by rw [pk_un (by omega)]; exact ha7
          refine aw_aload_n X (pc := 123) 2 rfl rfl dX9_tag_123 ?_
          refine aw_iload X (pc := 124) 0 rfl dX9_tag_124 ?_
          refine aw_iconst X (pc := 126) (v := 2) dX9_tag_126 (by decide) ?_
          refine aw_iload_n X (pc := 127) 3 rfl rfl dX9_tag_127 ?_
          refine aw_iconst X (pc := 128) (v := 4) dX9_tag_128 (by decide) ?_
          refine aw_icmp_ne X (pc := 129) (tgt := 136) (by decide) dX9_tag_129 (fun c9 => ?_) (fun c9 => ?_)
          · refine aw_iconst X (pc := 136) (v := 1) dX9_tag_136 (by decide) ?_
            refine aw_callVF X (pc := 137) (q1 := 0) (rest := []) (st' := []) (c_X9_sets l D q kc (upd (upd (upd a 0 (nI (n + 1))) (300 + 6 * n + 0) kind) (300 + 6 * n + 1) 1) (vp_updL w (84 + n) ((name <<< (Int32.toInt64 8 &&& 63)) ||| ((lpF (b_X9_sumOf_4 (name <<< (Int32.toInt64 8 &&& 63))) 56 0 0).toInt64))) hs inn sp lone lt lz dr (a 0) 2 n 2 1 ha0 rfl (by omega)) rfl rfl ⟨_, _, rfl⟩ rfl cf_X9_52 cd_X9_sets dd_X9_sets (by decide) (by decide) (by decide) rfl (Nat.le_of_ble_eq_true rfl) dX9_tag_137 rfl ?_
            have ha10 : (upd (upd (upd (upd a 0 (nI (n + 1))) (300 + 6 * n + 0) kind) (300 + 6 * n + 1) 1) (300 + 6 * n + 2) 1) 0 = nI (n + 1) := by rw [pk_un (by omega)]; exact ha8
            refine aw_aload_n X (pc := 140) 2 rfl rfl dX9_tag_140 ?_
            refine aw_iload X (pc := 141) 0 rfl dX9_tag_141 ?_
            refine aw_iconst X (pc := 143) (v := 3) dX9_tag_143 (by decide) ?_
            refine aw_iconst X (pc := 144) (v := (-1)) dX9_tag_144 (by decide) ?_
            refine aw_callVF X (pc := 145) (q1 := 0) (rest := []) (st' := []) (c_X9_sets l D q kc (upd (upd (upd (upd a 0 (nI (n + 1))) (300 + 6 * n + 0) kind) (300 + 6 * n + 1) 1) (300 + 6 * n + 2) 1) (vp_updL w (84 + n) ((name <<< (Int32.toInt64 8 &&& 63)) ||| ((lpF (b_X9_sumOf_4 (name <<< (Int32.toInt64 8 &&& 63))) 56 0 0).toInt64))) hs inn sp lone lt lz dr (a 0) 3 n 3 (-1) ha0 rfl (by omega)) rfl rfl ⟨_, _, rfl⟩ rfl cf_X9_52 cd_X9_sets dd_X9_sets (by decide) (by decide) (by decide) rfl (Nat.le_of_ble_eq_true rfl) dX9_tag_145 rfl ?_
            have ha11 : (upd (upd (upd (upd (upd a 0 (nI (n + 1))) (300 + 6 * n + 0) kind) (300 + 6 * n + 1) 1) (300 + 6 * n + 2) 1) (300 + 6 * n + 3) (-1)) 0 = nI (n + 1) := by rw [pk_un (by omega)]; exact ha10
            refine aw_aload_n X (pc := 148) 2 rfl rfl dX9_tag_148 ?_
            refine aw_iload X (pc := 149) 0 rfl dX9_tag_149 ?_
            refine aw_iconst X (pc := 151) (v := 4) dX9_tag_151 (by decide) ?_
            refine aw_iload X (pc := 152) 5 rfl dX9_tag_152 ?_
            refine aw_callVF X (pc := 154) (q1 := 0) (rest := []) (st' := []) (c_X9_sets l D q kc (upd (upd (upd (upd (upd a 0 (nI (n + 1))) (300 + 6 * n + 0) kind) (300 + 6 * n + 1) 1) (300 + 6 * n + 2) 1) (300 + 6 * n + 3) (-1)) (vp_updL w (84 + n) ((name <<< (Int32.toInt64 8 &&& 63)) ||| ((lpF (b_X9_sumOf_4 (name <<< (Int32.toInt64 8 &&& 63))) 56 0 0).toInt64))) hs inn sp lone lt lz dr (a 0) 4 n 4 seed ha0 rfl (by omega)) rfl rfl ⟨_, _, rfl⟩ rfl cf_X9_52 cd_X9_sets dd_X9_sets (by decide) (by decide) (by decide) rfl (Nat.le_of_ble_eq_true rfl) dX9_tag_154 rfl ?_
            have ha12 : (upd (upd (upd (upd (upd (upd a 0 (nI (n + 1))) (300 + 6 * n + 0) kind) (300 + 6 * n + 1) 1) (300 + 6 * n + 2) 1) (300 + 6 * n + 3) (-1)) (300 + 6 * n + 4) seed) 0 = nI (n + 1) := by rw [pk_un (by omega)]; exact ha11
            refine aw_aload_n X (pc := 157) 2 rfl rfl dX9_tag_157 ?_
            refine aw_iload X (pc := 158) 0 rfl dX9_tag_158 ?_
            refine aw_iconst X (pc := 160) (v := 5) dX9_tag_160 (by decide) ?_
            refine aw_iconst X (pc := 161) (v := 0) dX9_tag_161 (by decide) ?_
            refine aw_callVF X (pc := 162) (q1 := 0) (rest := []) (st' := []) (c_X9_sets l D q kc (upd (upd (upd (upd (upd (upd a 0 (nI (n + 1))) (300 + 6 * n + 0) kind) (300 + 6 * n + 1) 1) (300 + 6 * n + 2) 1) (300 + 6 * n + 3) (-1)) (300 + 6 * n + 4) seed) (vp_updL w (84 + n) ((name <<< (Int32.toInt64 8 &&& 63)) ||| ((lpF (b_X9_sumOf_4 (name <<< (Int32.toInt64 8 &&& 63))) 56 0 0).toInt64))) hs inn sp lone lt lz dr (a 0) 5 n 5 0 ha0 rfl (by omega)) rfl rfl ⟨_, _, rfl⟩ rfl cf_X9_52 cd_X9_sets dd_X9_sets (by decide) (by decide) (by decide) rfl (Nat.le_of_ble_eq_true rfl) dX9_tag_162 rfl ?_
            have ha13 : (upd (upd (upd (upd (upd (upd (upd a 0 (nI (n + 1))) (300 + 6 * n + 0) kind) (300 + 6 * n + 1) 1) (300 + 6 * n + 2) 1) (300 + 6 * n + 3) (-1)) (300 + 6 * n + 4) seed) (300 + 6 * n + 5) 0) 0 = nI (n + 1) := by rw [pk_un (by omega)]; exact ha12
            refine aw_iload X (pc := 165) 0 rfl dX9_tag_165 ?_
            exact aw_iret X (v := a 0) hQ (by simp only [r_X9_tag, if_neg c1, if_neg c2, if_neg g4, if_neg c9]; try rfl) (by simp only [u_X9_tag_a, u_X9_tag_w, if_neg c1, if_neg c2, if_neg g4, if_neg c9]) dX9_tag_167
          · refine aw_iconst X (pc := 132) (v := 0) dX9_tag_132 (by decide) ?_
            refine aw_goto X (pc := 133) (tgt := 137) (by decide) dX9_tag_133 ?_
            refine aw_callVF X (pc := 137) (q1 := 0) (rest := []) (st' := []) (c_X9_sets l D q kc (upd (upd (upd a 0 (nI (n + 1))) (300 + 6 * n + 0) kind) (300 + 6 * n + 1) 1) (vp_updL w (84 + n) ((name <<< (Int32.toInt64 8 &&& 63)) ||| ((lpF (b_X9_sumOf_4 (name <<< (Int32.toInt64 8 &&& 63))) 56 0 0).toInt64))) hs inn sp lone lt lz dr (a 0) 2 n 2 0 ha0 rfl (by omega)) rfl rfl ⟨_, _, rfl⟩ rfl cf_X9_52 cd_X9_sets dd_X9_sets (by decide) (by decide) (by decide) rfl (Nat.le_of_ble_eq_true rfl) dX9_tag_137 rfl ?_
            have ha14 : (upd (upd (upd (upd a 0 (nI (n + 1))) (300 + 6 * n + 0) kind) (300 + 6 * n + 1) 1) (300 + 6 * n + 2) 0) 0 = nI (n + 1) := by rw [pk_un (by omega)]; exact ha8
            refine aw_aload_n X (pc := 140) 2 rfl rfl dX9_tag_140 ?_
            refine aw_iload X (pc := 141) 0 rfl dX9_tag_141 ?_
            refine aw_iconst X (pc := 143) (v := 3) dX9_tag_143 (by decide) ?_
            refine aw_iconst X (pc := 144) (v := (-1)) dX9_tag_144 (by decide) ?_
            refine aw_callVF X (pc := 145) (q1 := 0) (rest := []) (st' := []) (c_X9_sets l D q kc (upd (upd (upd (upd a 0 (nI (n + 1))) (300 + 6 * n + 0) kind) (300 + 6 * n + 1) 1) (300 + 6 * n + 2) 0) (vp_updL w (84 + n) ((name <<< (Int32.toInt64 8 &&& 63)) ||| ((lpF (b_X9_sumOf_4 (name <<< (Int32.toInt64 8 &&& 63))) 56 0 0).toInt64))) hs inn sp lone lt lz dr (a 0) 3 n 3 (-1) ha0 rfl (by omega)) rfl rfl ⟨_, _, rfl⟩ rfl cf_X9_52 cd_X9_sets dd_X9_sets (by decide) (by decide) (by decide) rfl (Nat.le_of_ble_eq_true rfl) dX9_tag_145 rfl ?_
            have ha15 : (upd (upd (upd (upd (upd a 0 (nI (n + 1))) (300 + 6 * n + 0) kind) (300 + 6 * n + 1) 1) (300 + 6 * n + 2) 0) (300 + 6 * n + 3) (-1)) 0 = nI (n + 1) := by rw [pk_un (by omega)]; exact ha14
            refine aw_aload_n X (pc := 148) 2 rfl rfl dX9_tag_148 ?_
            refine aw_iload X (pc := 149) 0 rfl dX9_tag_149 ?_
            refine aw_iconst X (pc := 151) (v := 4) dX9_tag_151 (by decide) ?_
            refine aw_iload X (pc := 152) 5 rfl dX9_tag_152 ?_
            refine aw_callVF X (pc := 154) (q1 := 0) (rest := []) (st' := []) (c_X9_sets l D q kc (upd (upd (upd (upd (upd a 0 (nI (n + 1))) (300 + 6 * n + 0) kind) (300 + 6 * n + 1) 1) (300 + 6 * n + 2) 0) (300 + 6 * n + 3) (-1)) (vp_updL w (84 + n) ((name <<< (Int32.toInt64 8 &&& 63)) ||| ((lpF (b_X9_sumOf_4 (name <<< (Int32.toInt64 8 &&& 63))) 56 0 0).toInt64))) hs inn sp lone lt lz dr (a 0) 4 n 4 seed ha0 rfl (by omega)) rfl rfl ⟨_, _, rfl⟩ rfl cf_X9_52 cd_X9_sets dd_X9_sets (by decide) (by decide) (by decide) rfl (Nat.le_of_ble_eq_true rfl) dX9_tag_154 rfl ?_
            have ha16 : (upd (upd (upd (upd (upd (upd a 0 (nI (n + 1))) (300 + 6 * n + 0) kind) (300 + 6 * n + 1) 1) (300 + 6 * n + 2) 0) (300 + 6 * n + 3) (-1)) (300 + 6 * n + 4) seed) 0 = nI (n + 1) := by rw [pk_un (by omega)]; exact ha15
            refine aw_aload_n X (pc := 157) 2 rfl rfl dX9_tag_157 ?_
            refine aw_iload X (pc := 158) 0 rfl dX9_tag_158 ?_
            refine aw_iconst X (pc := 160) (v := 5) dX9_tag_160 (by decide) ?_
            refine aw_iconst X (pc := 161) (v := 0) dX9_tag_161 (by decide) ?_
            refine aw_callVF X (pc := 162) (q1 := 0) (rest := []) (st' := []) (c_X9_sets l D q kc (upd (upd (upd (upd (upd (upd a 0 (nI (n + 1))) (300 + 6 * n + 0) kind) (300 + 6 * n + 1) 1) (300 + 6 * n + 2) 0) (300 + 6 * n + 3) (-1)) (300 + 6 * n + 4) seed) (vp_updL w (84 + n) ((name <<< (Int32.toInt64 8 &&& 63)) ||| ((lpF (b_X9_sumOf_4 (name <<< (Int32.toInt64 8 &&& 63))) 56 0 0).toInt64))) hs inn sp lone lt lz dr (a 0) 5 n 5 0 ha0 rfl (by omega)) rfl rfl ⟨_, _, rfl⟩ rfl cf_X9_52 cd_X9_sets dd_X9_sets (by decide) (by decide) (by decide) rfl (Nat.le_of_ble_eq_true rfl) dX9_tag_162 rfl ?_
            have ha17 : (upd (upd (upd (upd (upd (upd (upd a 0 (nI (n + 1))) (300 + 6 * n + 0) kind) (300 + 6 * n + 1) 1) (300 + 6 * n + 2) 0) (300 + 6 * n + 3) (-1)) (300 + 6 * n + 4) seed) (300 + 6 * n + 5) 0) 0 = nI (n + 1) := by rw [pk_un (by omega)]; exact ha16
            refine aw_iload X (pc := 165) 0 rfl dX9_tag_165 ?_
            exact aw_iret X (v := a 0) hQ (by simp only [r_X9_tag, if_neg c1, if_neg c2, if_neg g4, if_pos c9]; try rfl) (by simp only [u_X9_tag_a, u_X9_tag_w, if_neg c1, if_neg c2, if_neg g4, if_pos c9]) dX9_tag_167
        | succ n3 ih3 =>
          intro k hk3 hn3
          refine aw_iload X (pc := 42) 0 rfl dX9_tag_42 ?_
          refine aw_aload_n X (pc := 44) 2 rfl rfl dX9_tag_44 ?_
          refine aw_get X (pc := 45) iX9 0 0 rfl rfl (by decide) fl_X9_7 rfl dX9_tag_45 ?_
          refine aw_iconst X (pc := 48) (v := 0) dX9_tag_48 (by decide) ?_
          refine aw_iald X (pc := 49) 1 0 0 rfl rfl rfl (by decide) (by omega) dX9_tag_49 ?_
          refine aw_icmp_ge X (pc := 50) (tgt := 77) (by decide) dX9_tag_50 (fun c18 => absurd c18 (nn_nle (a := n) (b := k) ha0 rfl (by omega) (by omega))) (fun c18 => ?_)
          refine aw_aload_n X (pc := 53) 2 rfl rfl dX9_tag_53 ?_
          refine aw_get X (pc := 54) iX9 0 1 rfl rfl (by decide) fl_X9_13 rfl dX9_tag_54 ?_
          refine aw_bipush X (pc := 57) (v := 84) dX9_tag_57 (by decide) ?_
          refine aw_iload X (pc := 59) 0 rfl dX9_tag_59 ?_
          refine aw_iadd X (pc := 61) (z := nI (84 + k)) (nn_add (a := 84) (b := k) rfl rfl (by first | rfl | omega))  dX9_tag_61 ?_
          refine aw_lald X (pc := 62) 2 1 (84 + k) rfl rfl rfl (by decide) (by omega) dX9_tag_62 ?_
          refine aw_lload X (pc := 63) 1 rfl dX9_tag_63 ?_
          refine aw_lcmp X (pc := 65) dX9_tag_65 ?_
          refine aw_if_ne X (pc := 66) (tgt := 71) (by decide) dX9_tag_66 (fun c19 => ?_) (fun c19 => ?_)
          · refine aw_iinc X (pc := 71) (kx := 0) (v := nI (k + 1)) (lv' := [(7, .int (nI (k + 1))), (5, .long ((name <<< (Int32.toInt64 8 &&& 63)) ||| ((lpF (b_X9_sumOf_4 (name <<< (Int32.toInt64 8 &&& 63))) 56 0 0).toInt64))), (0, .ref (q 0)), (1, .int kind), (2, .long name), (4, .int seed)]) rfl (nn_add (a := k) (b := 1) rfl rfl rfl) (by decide) rfl dX9_tag_71 ?_
            refine aw_goto X (pc := 74) (tgt := 42) (by decide) dX9_tag_74 ?_
            exact aw_sub (lv' := [(7, .int (nI (k + 1))), (5, .long ((name <<< (Int32.toInt64 8 &&& 63)) ||| ((lpF (b_X9_sumOf_4 (name <<< (Int32.toInt64 8 &&& 63))) 56 0 0).toInt64))), (0, .ref (q 0)), (1, .int kind), (2, .long name), (4, .int seed)]) [0, 1, 2, 3, 4, 5] rfl (ih3 (k + 1) (by omega) (lt_s hn3 c19))
          · have g20 : anyB (fun k => decide (lg_cmp (w (84 + k)) ((name <<< (Int32.toInt64 8 &&& 63)) ||| ((lpF (b_X9_sumOf_4 (name <<< (Int32.toInt64 8 &&& 63))) 56 0 0).toInt64)) = 0)) n = true := anyB_yes (k := k) (by omega) c19
            refine aw_iconst X (pc := 69) (v := (-1)) dX9_tag_69 (by decide) ?_
            exact aw_iret X (v := (-1)) hQ (by simp only [r_X9_tag, if_neg c1, if_neg c2, if_pos g20]; try rfl) (by simp only [u_X9_tag_a, u_X9_tag_w, if_neg c1, if_neg c2, if_pos g20]) dX9_tag_70
      exact aw_sub (lv' := [(7, .int 0), (5, .long ((name <<< (Int32.toInt64 8 &&& 63)) ||| ((lpF (b_X9_sumOf_4 (name <<< (Int32.toInt64 8 &&& 63))) 56 0 0).toInt64))), (0, .ref (q 0)), (1, .int kind), (2, .long name), (4, .int seed)]) [0, 1, 2, 3, 4, 5] rfl (L3 n 0 (by omega) (fun j hj => absurd hj (Nat.not_lt_zero j)))
    · refine aw_iconst X (pc := 20) (v := (-1)) dX9_tag_20 (by decide) ?_
      exact aw_iret X (v := (-1)) hQ (by simp only [r_X9_tag, if_neg c1, if_pos c2]; try rfl) (by simp only [u_X9_tag_a, u_X9_tag_w, if_neg c1, if_pos c2]) dX9_tag_21

def r_X9_name (a : Nat → Int32) (w : Nat → Int64) (tag : Int32) : Int64 := if r_X9_isIn tag (a 0) = 0 then 0 else (w (84 + tag.toNatClampNeg))
abbrev rm_X9_name : Room := { frames := 2, cells := 0, slots := 0, locals := 42 }
set_option maxHeartbeats 400000 in
set_option maxRecDepth 100000 in
theorem c_X9_name (l : Launch) (D : va_G) (q : Nat → Nat) (kc : Nat → ClassId) (a : Nat → Int32) (w : Nat → Int64) (hs : Nat → Int32) (inn : Nat → Int32) (sp : Nat → Int32) (lone : Int32) (lt : Nat → Int64) (lz : Nat → Int32) (dr : Nat → Int32) (n : Nat) (tag : Int32) (ha0 : a 0 = nI n) (hn : n ≤ 40) : MW l D yX9_name (Cond.code yX9_name cX9_name 2 (some .long) :: TT) rm_X9_name [.ref (q 0), .int tag] [(kc 1, .int), (kc 2, .long), (kc 3, .boolean), (kc 4, .boolean), (kc 5, .boolean), (kc 6, .long), (kc 7, .int), (kc 8, .int)] (mW q kc a w hs inn sp lone lt lz dr) (some (.long (r_X9_name a w tag))) (mW q kc a w hs inn sp lone lt lz dr) := by
  refine MW.of (cc := cX9_name) (nL := 2) (ret := (some .long)) (lv := [(0, .ref (q 0)), (1, .int tag)]) (by decide) rfl rfl (Nat.le_of_ble_eq_true rfl) ?_
  intro p e s m args below meth c A Q hQ X
  refine aw_aload_n X (pc := 0) 0 rfl rfl dX9_name_0 ?_
  refine aw_iload_n X (pc := 1) 1 rfl rfl dX9_name_1 ?_
  refine aw_callVF X (pc := 2) (q1 := 0) (rest := []) (st' := [.int (r_X9_isIn tag (a 0))]) (c_X9_isTag l D q kc a w hs inn sp lone lt lz dr tag) rfl rfl ⟨_, _, rfl⟩ rfl cf_X9_56 cd_X9_isTag dd_X9_isTag (by decide) (by decide) (by decide) rfl (Nat.le_of_ble_eq_true rfl) dX9_name_2 rfl ?_
  refine aw_if_eq X (pc := 5) (tgt := 20) (by decide) dX9_name_5 (fun c1 => ?_) (fun c1 => ?_)
  · refine aw_lconst X (pc := 20) (v := 0) dX9_name_20 (by decide) ?_
    exact aw_lret X (v := 0) hQ (by simp only [r_X9_name, if_pos c1]; try rfl) rfl dX9_name_21
  · obtain ⟨ht2, hu3⟩ := isIn_nat (n := n) ha0 (by omega) c1
    refine aw_aload_n X (pc := 8) 0 rfl rfl dX9_name_8 ?_
    refine aw_get X (pc := 9) iX9 0 1 rfl rfl (by decide) fl_X9_13 rfl dX9_name_9 ?_
    refine aw_bipush X (pc := 12) (v := 84) dX9_name_12 (by decide) ?_
    refine aw_iload_n X (pc := 14) 1 rfl rfl dX9_name_14 ?_
    refine aw_iadd X (pc := 15) (z := nI (84 + tag.toNatClampNeg)) (nn_add (a := 84) (b := tag.toNatClampNeg) rfl ht2 (by first | rfl | omega))  dX9_name_15 ?_
    refine aw_lald X (pc := 16) 2 1 (84 + tag.toNatClampNeg) rfl rfl rfl (by decide) (by omega) dX9_name_16 ?_
    refine aw_goto X (pc := 17) (tgt := 21) (by decide) dX9_name_17 ?_
    exact aw_lret X (v := w (84 + tag.toNatClampNeg)) hQ (by simp only [r_X9_name, if_neg c1]; try rfl) rfl dX9_name_21

def r_X9_isName (name : Int64) : Int32 := if lg_cmp (name &&& 255) ((lpF (b_X9_sumOf_4 name) 56 0 0).toInt64) = 0 then 1 else 0
theorem z_X9_isName (name : Int64) : r_X9_isName name = 0 ∨ r_X9_isName name = 1 := by
  unfold r_X9_isName
  by_cases h0 : lg_cmp (name &&& 255) ((lpF (b_X9_sumOf_4 name) 56 0 0).toInt64) = 0
  · try rw [if_pos h0]
    exact Or.inr rfl
  · try rw [if_neg h0]
    exact Or.inl rfl
abbrev rm_X9_isName : Room := { frames := 2, cells := 0, slots := 0, locals := 46 }
set_option maxHeartbeats 400000 in
set_option maxRecDepth 100000 in
theorem c_X9_isName (l : Launch) (D : va_G) (q : Nat → Nat) (kc : Nat → ClassId) (a : Nat → Int32) (w : Nat → Int64) (hs : Nat → Int32) (inn : Nat → Int32) (sp : Nat → Int32) (lone : Int32) (lt : Nat → Int64) (lz : Nat → Int32) (dr : Nat → Int32) (name : Int64)  : MW l D yX9_isName (Cond.code yX9_isName cX9_isName 3 (some .boolean) :: TT) rm_X9_isName [.ref (q 0), .long name] [(kc 1, .int), (kc 2, .long), (kc 3, .boolean), (kc 4, .boolean), (kc 5, .boolean), (kc 6, .long), (kc 7, .int), (kc 8, .int)] (mW q kc a w hs inn sp lone lt lz dr) (some (.int (r_X9_isName name))) (mW q kc a w hs inn sp lone lt lz dr) := by
  refine MW.of (cc := cX9_isName) (nL := 3) (ret := (some .boolean)) (lv := [(0, .ref (q 0)), (1, .long name)]) (by decide) rfl rfl (Nat.le_of_ble_eq_true rfl) ?_
  intro p e s m args below meth c A Q hQ X
  refine aw_lload_n X (pc := 0) 1 rfl rfl dX9_isName_0 ?_
  refine aw_ldc2 X (pc := 1) ld_X9_60 dX9_isName_1 ?_
  refine aw_land X (pc := 4) (z := name &&& 255) rfl dX9_isName_4 ?_
  refine aw_lload_n X (pc := 5) 1 rfl rfl dX9_isName_5 ?_
  refine aw_callS X (pc := 6) (rest := [.long (name &&& 255)]) (st' := [.int (lpF (b_X9_sumOf_4 name) 56 0 0), .long (name &&& 255)]) (ws' := (mW q kc a w hs inn sp lone lt lz dr)) (c_X9_sumOf l D name) rfl [] [] rfl (by decide +kernel) rfl rfl cf_X9_48 cd_X9_sumOf dd_X9_sumOf (by decide) (by decide) (by decide) rfl (Nat.le_of_ble_eq_true rfl) dX9_isName_6 rfl ?_
  refine aw_i2l X (pc := 9) (z := (lpF (b_X9_sumOf_4 name) 56 0 0).toInt64) rfl dX9_isName_9 ?_
  refine aw_lcmp X (pc := 10) dX9_isName_10 ?_
  refine aw_if_ne X (pc := 11) (tgt := 18) (by decide) dX9_isName_11 (fun c1 => ?_) (fun c1 => ?_)
  · refine aw_iconst X (pc := 18) (v := 0) dX9_isName_18 (by decide) ?_
    exact aw_zret X (v := 0) rfl hQ (by simp only [r_X9_isName, if_neg c1]; try rfl) rfl dX9_isName_19
  · refine aw_iconst X (pc := 14) (v := 1) dX9_isName_14 (by decide) ?_
    refine aw_goto X (pc := 15) (tgt := 19) (by decide) dX9_isName_15 ?_
    exact aw_zret X (v := 1) rfl hQ (by simp only [r_X9_isName, if_pos c1]; try rfl) rfl dX9_isName_19

def b_X9_listening_4 (a : Nat → Int32) (w : Nat → Int64) (k : Nat) (σ : Int32) : Int32 := if r_X9_listens a w k = 0 then (σ + 0) else (σ + 1)
abbrev rm_X9_listening : Room := { frames := 2, cells := 0, slots := 0, locals := 43 }
set_option maxHeartbeats 400000 in
set_option maxRecDepth 100000 in
theorem c_X9_listening (l : Launch) (D : va_G) (q : Nat → Nat) (kc : Nat → ClassId) (a : Nat → Int32) (w : Nat → Int64) (hs : Nat → Int32) (inn : Nat → Int32) (sp : Nat → Int32) (lone : Int32) (lt : Nat → Int64) (lz : Nat → Int32) (dr : Nat → Int32) (n : Nat) (ha0 : a 0 = nI n) (hn : n ≤ 40) : MW l D yX9_listening (Cond.code yX9_listening cX9_listening 3 (some .int) :: TT) rm_X9_listening [.ref (q 0)] [(kc 1, .int), (kc 2, .long), (kc 3, .boolean), (kc 4, .boolean), (kc 5, .boolean), (kc 6, .long), (kc 7, .int), (kc 8, .int)] (mW q kc a w hs inn sp lone lt lz dr) (some (.int (lpF (b_X9_listening_4 a w) n 0 0))) (mW q kc a w hs inn sp lone lt lz dr) := by
  refine MW.of (cc := cX9_listening) (nL := 3) (ret := (some .int)) (lv := [(0, .ref (q 0))]) (by decide) rfl rfl (Nat.le_of_ble_eq_true rfl) ?_
  intro p e s m args below meth c A Q hQ X
  refine aw_iconst X (pc := 0) (v := 0) dX9_listening_0 (by decide) ?_
  refine aw_istore_n X (pc := 1) (lv' := [(1, .int 0), (0, .ref (q 0))]) rfl (by decide) rfl dX9_listening_1 ?_
  refine aw_iconst X (pc := 2) (v := 0) dX9_listening_2 (by decide) ?_
  refine aw_istore_n X (pc := 3) (lv' := [(2, .int 0), (1, .int 0), (0, .ref (q 0))]) rfl (by decide) rfl dX9_listening_3 ?_
  have L1 : ∀ (n1 k : Nat) (ct : Int32), k + n1 = n → lpF (b_X9_listening_4 a w) n1 k ct = lpF (b_X9_listening_4 a w) n 0 0 → AW p l e rm_X9_listening s m args below meth c D A 3 0 0 Q 4 [(2, .int (nI k)), (1, .int ct), (0, .ref (q 0))] [] (mW q kc a w hs inn sp lone lt lz dr) := by
    intro n1; induction n1 with
    | zero =>
      intro k ct hk1  hf1
      have hf1 : ct = lpF (b_X9_listening_4 a w) n 0 0 := hf1
      refine aw_iload_n X (pc := 4) 0 rfl rfl dX9_listening_4 ?_
      refine aw_aload_n X (pc := 5) 2 rfl rfl dX9_listening_5 ?_
      refine aw_get X (pc := 6) iX9 0 0 rfl rfl (by decide) fl_X9_7 rfl dX9_listening_6 ?_
      refine aw_iconst X (pc := 9) (v := 0) dX9_listening_9 (by decide) ?_
      refine aw_iald X (pc := 10) 1 0 0 rfl rfl rfl (by decide) (by omega) dX9_listening_10 ?_
      refine aw_icmp_ge X (pc := 11) (tgt := 36) (by decide) dX9_listening_11 (fun c6 => ?_) (fun c6 => absurd (nn_le (a := n) (b := k) ha0 rfl (by omega) (by omega)) c6)
      refine aw_iload_n X (pc := 36) 1 rfl rfl dX9_listening_36 ?_
      exact aw_iret X (v := ct) hQ (by simp only [← hf1]; try rfl) rfl dX9_listening_37
    | succ n1 ih1 =>
      intro k ct hk1  hf1
      have hf1 : lpF (b_X9_listening_4 a w) n1 (k + 1) (b_X9_listening_4 a w k ct) = lpF (b_X9_listening_4 a w) n 0 0 := hf1
      refine aw_iload_n X (pc := 4) 0 rfl rfl dX9_listening_4 ?_
      refine aw_aload_n X (pc := 5) 2 rfl rfl dX9_listening_5 ?_
      refine aw_get X (pc := 6) iX9 0 0 rfl rfl (by decide) fl_X9_7 rfl dX9_listening_6 ?_
      refine aw_iconst X (pc := 9) (v := 0) dX9_listening_9 (by decide) ?_
      refine aw_iald X (pc := 10) 1 0 0 rfl rfl rfl (by decide) (by omega) dX9_listening_10 ?_
      refine aw_icmp_ge X (pc := 11) (tgt := 36) (by decide) dX9_listening_11 (fun c2 => absurd c2 (nn_nle (a := n) (b := k) ha0 rfl (by omega) (by omega))) (fun c2 => ?_)
      refine aw_iload_n X (pc := 14) 1 rfl rfl dX9_listening_14 ?_
      refine aw_aload_n X (pc := 15) 2 rfl rfl dX9_listening_15 ?_
      refine aw_iload_n X (pc := 16) 0 rfl rfl dX9_listening_16 ?_
      refine aw_callVF X (pc := 17) (q1 := 0) (rest := [.int ct]) (st' := [.int (r_X9_listens a w k), .int ct]) (c_X9_listens l D q kc a w hs inn sp lone lt lz dr (nI k) k rfl (by omega)) rfl rfl ⟨_, _, rfl⟩ rfl cf_X9_62 cd_X9_listens dd_X9_listens (by decide) (by decide) (by decide) rfl (Nat.le_of_ble_eq_true rfl) dX9_listening_17 rfl ?_
      refine aw_if_eq X (pc := 20) (tgt := 27) (by decide) dX9_listening_20 (fun c3 => ?_) (fun c3 => ?_)
      · refine aw_iconst X (pc := 27) (v := 0) dX9_listening_27 (by decide) ?_
        refine aw_iadd X (pc := 28) (z := ct + 0) rfl  dX9_listening_28 ?_
        refine aw_istore_n X (pc := 29) (lv' := [(1, .int (ct + 0)), (2, .int (nI k)), (0, .ref (q 0))]) rfl (by decide) rfl dX9_listening_29 ?_
        refine aw_iinc X (pc := 30) (kx := 1) (v := nI (k + 1)) (lv' := [(2, .int (nI (k + 1))), (1, .int (ct + 0)), (0, .ref (q 0))]) rfl (nn_add (a := k) (b := 1) rfl rfl rfl) (by decide) rfl dX9_listening_30 ?_
        refine aw_goto X (pc := 33) (tgt := 4) (by decide) dX9_listening_33 ?_
        have e4 : b_X9_listening_4 a w k ct = (ct + 0) := by simp only [b_X9_listening_4, if_pos c3]
        exact aw_sub (lv' := [(2, .int (nI (k + 1))), (1, .int (ct + 0)), (0, .ref (q 0))]) [0, 1, 2] rfl (ih1 (k + 1) (ct + 0) (by omega)  (by rw [← e4]; exact hf1))
      · refine aw_iconst X (pc := 23) (v := 1) dX9_listening_23 (by decide) ?_
        refine aw_goto X (pc := 24) (tgt := 28) (by decide) dX9_listening_24 ?_
        refine aw_iadd X (pc := 28) (z := ct + 1) rfl  dX9_listening_28 ?_
        refine aw_istore_n X (pc := 29) (lv' := [(1, .int (ct + 1)), (2, .int (nI k)), (0, .ref (q 0))]) rfl (by decide) rfl dX9_listening_29 ?_
        refine aw_iinc X (pc := 30) (kx := 1) (v := nI (k + 1)) (lv' := [(2, .int (nI (k + 1))), (1, .int (ct + 1)), (0, .ref (q 0))]) rfl (nn_add (a := k) (b := 1) rfl rfl rfl) (by decide) rfl dX9_listening_30 ?_
        refine aw_goto X (pc := 33) (tgt := 4) (by decide) dX9_listening_33 ?_
        have e5 : b_X9_listening_4 a w k ct = (ct + 1) := by simp only [b_X9_listening_4, if_neg c3]
        exact aw_sub (lv' := [(2, .int (nI (k + 1))), (1, .int (ct + 1)), (0, .ref (q 0))]) [0, 1, 2] rfl (ih1 (k + 1) (ct + 1) (by omega)  (by rw [← e5]; exact hf1))
  exact aw_sub (lv' := [(2, .int 0), (1, .int 0), (0, .ref (q 0))]) [0, 1, 2] rfl (L1 n 0 0 (by omega)  rfl)

def b_X9_tell_94 (a : Nat → Int32) (tag : Int32) (k : Nat) (σ : Int32) : Int32 := if a (100 + k) = tag then (σ + 1) else (σ + 0)
def r_X9_tell (a : Nat → Int32) (w : Nat → Int64) (f : Nat) (tag : Int32) (what : Int32) : Int32 := if r_X9_isIn tag (a 0) = 0 then (-1) else (if what = 0 then (a (300 + 6 * tag.toNatClampNeg + 0)) else (if what = 1 then (a (300 + 6 * tag.toNatClampNeg + 1)) else (if what = 2 then (a (300 + 6 * tag.toNatClampNeg + 2)) else (if what = 3 then (if r_X9_listens a w tag.toNatClampNeg = 0 then 0 else 1) else (if what = 4 then (a (300 + 6 * tag.toNatClampNeg + 3)) else (if what = 5 then (a (300 + 6 * tag.toNatClampNeg + 4)) else (if what = 6 then (lpF (b_X9_tell_94 a tag) f 0 0) else (-1))))))))
abbrev rm_X9_tell : Room := { frames := 2, cells := 0, slots := 0, locals := 43 }
set_option maxHeartbeats 400000 in
set_option maxRecDepth 100000 in
theorem c_X9_tell (l : Launch) (D : va_G) (q : Nat → Nat) (kc : Nat → ClassId) (a : Nat → Int32) (w : Nat → Int64) (hs : Nat → Int32) (inn : Nat → Int32) (sp : Nat → Int32) (lone : Int32) (lt : Nat → Int64) (lz : Nat → Int32) (dr : Nat → Int32) (n : Nat) (f : Nat) (tag : Int32) (what : Int32) (ha0 : a 0 = nI n) (hn : n ≤ 40) (ha15 : a 15 = nI f) (hf : f ≤ 200) : MW l D yX9_tell (Cond.code yX9_tell cX9_tell 5 (some .int) :: TT) rm_X9_tell [.ref (q 0), .int tag, .int what] [(kc 1, .int), (kc 2, .long), (kc 3, .boolean), (kc 4, .boolean), (kc 5, .boolean), (kc 6, .long), (kc 7, .int), (kc 8, .int)] (mW q kc a w hs inn sp lone lt lz dr) (some (.int (r_X9_tell a w f tag what))) (mW q kc a w hs inn sp lone lt lz dr) := by
  refine MW.of (cc := cX9_tell) (nL := 5) (ret := (some .int)) (lv := [(0, .ref (q 0)), (1, .int tag), (2, .int what)]) (by decide) rfl rfl (Nat.le_of_ble_eq_true rfl) ?_
  intro p e s m args below meth c A Q hQ X
  refine aw_aload_n X (pc := 0) 0 rfl rfl dX9_tell_0 ?_
  refine aw_iload_n X (pc := 1) 1 rfl rfl dX9_tell_1 ?_
  refine aw_callVF X (pc := 2) (q1 := 0) (rest := []) (st' := [.int (r_X9_isIn tag (a 0))]) (c_X9_isTag l D q kc a w hs inn sp lone lt lz dr tag) rfl rfl ⟨_, _, rfl⟩ rfl cf_X9_56 cd_X9_isTag dd_X9_isTag (by decide) (by decide) (by decide) rfl (Nat.le_of_ble_eq_true rfl) dX9_tell_2 rfl ?_
  refine aw_if_ne X (pc := 5) (tgt := 10) (by decide) dX9_tell_5 (fun c1 => ?_) (fun c1 => ?_)
  · obtain ⟨ht2, hu3⟩ := isIn_nat (n := n) ha0 (by omega) c1
    refine aw_iconst X (pc := 10) (v := 0) dX9_tell_10 (by decide) ?_
    refine aw_istore_n X (pc := 11) (lv' := [(3, .int 0), (0, .ref (q 0)), (1, .int tag), (2, .int what)]) rfl (by decide) rfl dX9_tell_11 ?_
    refine aw_iload_n X (pc := 12) 3 rfl rfl dX9_tell_12 ?_
    by_cases c4 : what = 0
    · refine aw_tableIn X (pc := 13) (tgt := 56) (by rw [c4]; decide) (by rw [c4]; decide) (by rw [c4]; rfl) (by decide) dX9_tell_13 ?_
      refine aw_aload_n X (pc := 56) 1 rfl rfl dX9_tell_56 ?_
      refine aw_iload_n X (pc := 57) 2 rfl rfl dX9_tell_57 ?_
      refine aw_iload_n X (pc := 58) 3 rfl rfl dX9_tell_58 ?_
      refine aw_callVF X (pc := 59) (q1 := 0) (rest := []) (st' := [.int (a (300 + 6 * tag.toNatClampNeg + 0))]) (c_X9_of l D q kc a w hs inn sp lone lt lz dr tag what tag.toNatClampNeg 0 ht2 c4 (by omega)) rfl rfl ⟨_, _, rfl⟩ rfl cf_X9_44 cd_X9_of dd_X9_of (by decide) (by decide) (by decide) rfl (Nat.le_of_ble_eq_true rfl) dX9_tell_59 rfl ?_
      exact aw_iret X (v := a (300 + 6 * tag.toNatClampNeg + 0)) hQ (by simp only [r_X9_tell, if_neg c1, if_pos c4]; try rfl) rfl dX9_tell_62
    · by_cases c5 : what = 1
      · refine aw_tableIn X (pc := 13) (tgt := 56) (by rw [c5]; decide) (by rw [c5]; decide) (by rw [c5]; rfl) (by decide) dX9_tell_13 ?_
        refine aw_aload_n X (pc := 56) 1 rfl rfl dX9_tell_56 ?_
        refine aw_iload_n X (pc := 57) 2 rfl rfl dX9_tell_57 ?_
        refine aw_iload_n X (pc := 58) 3 rfl rfl dX9_tell_58 ?_
        refine aw_callVF X (pc := 59) (q1 := 0) (rest := []) (st' := [.int (a (300 + 6 * tag.toNatClampNeg + 1))]) (c_X9_of l D q kc a w hs inn sp lone lt lz dr tag what tag.toNatClampNeg 1 ht2 c5 (by omega)) rfl rfl ⟨_, _, rfl⟩ rfl cf_X9_44 cd_X9_of dd_X9_of (by decide) (by decide) (by decide) rfl (Nat.le_of_ble_eq_true rfl) dX9_tell_59 rfl ?_
        exact aw_iret X (v := a (300 + 6 * tag.toNatClampNeg + 1)) hQ (by simp only [r_X9_tell, if_neg c1, if_neg c4, if_pos c5]; try rfl) rfl dX9_tell_62
      · by_cases c6 : what = 2
        · refine aw_tableIn X (pc := 13) (tgt := 56) (by rw [c6]; decide) (by rw [c6]; decide) (by rw [c6]; rfl) (by decide) dX9_tell_13 ?_
          refine aw_aload_n X (pc := 56) 1 rfl rfl dX9_tell_56 ?_
          refine aw_iload_n X (pc := 57) 2 rfl rfl dX9_tell_57 ?_
          refine aw_iload_n X (pc := 58) 3 rfl rfl dX9_tell_58 ?_
          refine aw_callVF X (pc := 59) (q1 := 0) (rest := []) (st' := [.int (a (300 + 6 * tag.toNatClampNeg + 2))]) (c_X9_of l D q kc a w hs inn sp lone lt lz dr tag what tag.toNatClampNeg 2 ht2 c6 (by omega)) rfl rfl ⟨_, _, rfl⟩ rfl cf_X9_44 cd_X9_of dd_X9_of (by decide) (by decide) (by decide) rfl (Nat.le_of_ble_eq_true rfl) dX9_tell_59 rfl ?_
          exact aw_iret X (v := a (300 + 6 * tag.toNatClampNeg + 2)) hQ (by simp only [r_X9_tell, if_neg c1, if_neg c4, if_neg c5, if_pos c6]; try rfl) rfl dX9_tell_62
        · by_cases c7 : what = 3
          · refine aw_tableIn X (pc := 13) (tgt := 63) (by rw [c7]; decide) (by rw [c7]; decide) (by rw [c7]; rfl) (by decide) dX9_tell_13 ?_
            refine aw_aload_n X (pc := 63) 1 rfl rfl dX9_tell_63 ?_
            refine aw_iload_n X (pc := 64) 2 rfl rfl dX9_tell_64 ?_
            refine aw_callVF X (pc := 65) (q1 := 0) (rest := []) (st' := [.int (r_X9_listens a w tag.toNatClampNeg)]) (c_X9_listens l D q kc a w hs inn sp lone lt lz dr tag tag.toNatClampNeg ht2 (by omega)) rfl rfl ⟨_, _, rfl⟩ rfl cf_X9_62 cd_X9_listens dd_X9_listens (by decide) (by decide) (by decide) rfl (Nat.le_of_ble_eq_true rfl) dX9_tell_65 rfl ?_
            refine aw_if_eq X (pc := 68) (tgt := 75) (by decide) dX9_tell_68 (fun c8 => ?_) (fun c8 => ?_)
            · refine aw_iconst X (pc := 75) (v := 0) dX9_tell_75 (by decide) ?_
              exact aw_iret X (v := 0) hQ (by simp only [r_X9_tell, if_neg c1, if_neg c4, if_neg c5, if_neg c6, if_pos c7, if_pos c8]; try rfl) rfl dX9_tell_76
            · refine aw_iconst X (pc := 71) (v := 1) dX9_tell_71 (by decide) ?_
              refine aw_goto X (pc := 72) (tgt := 76) (by decide) dX9_tell_72 ?_
              exact aw_iret X (v := 1) hQ (by simp only [r_X9_tell, if_neg c1, if_neg c4, if_neg c5, if_neg c6, if_pos c7, if_neg c8]; try rfl) rfl dX9_tell_76
          · by_cases c9 : what = 4
            · refine aw_tableIn X (pc := 13) (tgt := 77) (by rw [c9]; decide) (by rw [c9]; decide) (by rw [c9]; rfl) (by decide) dX9_tell_13 ?_
              refine aw_aload_n X (pc := 77) 1 rfl rfl dX9_tell_77 ?_
              refine aw_iload_n X (pc := 78) 2 rfl rfl dX9_tell_78 ?_
              refine aw_iconst X (pc := 79) (v := 3) dX9_tell_79 (by decide) ?_
              refine aw_callVF X (pc := 80) (q1 := 0) (rest := []) (st' := [.int (a (300 + 6 * tag.toNatClampNeg + 3))]) (c_X9_of l D q kc a w hs inn sp lone lt lz dr tag 3 tag.toNatClampNeg 3 ht2 rfl (by omega)) rfl rfl ⟨_, _, rfl⟩ rfl cf_X9_44 cd_X9_of dd_X9_of (by decide) (by decide) (by decide) rfl (Nat.le_of_ble_eq_true rfl) dX9_tell_80 rfl ?_
              exact aw_iret X (v := a (300 + 6 * tag.toNatClampNeg + 3)) hQ (by simp only [r_X9_tell, if_neg c1, if_neg c4, if_neg c5, if_neg c6, if_neg c7, if_pos c9]; try rfl) rfl dX9_tell_83
            · by_cases c10 : what = 5
              · refine aw_tableIn X (pc := 13) (tgt := 84) (by rw [c10]; decide) (by rw [c10]; decide) (by rw [c10]; rfl) (by decide) dX9_tell_13 ?_
                refine aw_aload_n X (pc := 84) 1 rfl rfl dX9_tell_84 ?_
                refine aw_iload_n X (pc := 85) 2 rfl rfl dX9_tell_85 ?_
                refine aw_iconst X (pc := 86) (v := 4) dX9_tell_86 (by decide) ?_
                refine aw_callVF X (pc := 87) (q1 := 0) (rest := []) (st' := [.int (a (300 + 6 * tag.toNatClampNeg + 4))]) (c_X9_of l D q kc a w hs inn sp lone lt lz dr tag 4 tag.toNatClampNeg 4 ht2 rfl (by omega)) rfl rfl ⟨_, _, rfl⟩ rfl cf_X9_44 cd_X9_of dd_X9_of (by decide) (by decide) (by decide) rfl (Nat.le_of_ble_eq_true rfl) dX9_tell_87 rfl ?_
                exact aw_iret X (v := a (300 + 6 * tag.toNatClampNeg + 4)) hQ (by simp only [r_X9_tell, if_neg c1, if_neg c4, if_neg c5, if_neg c6, if_neg c7, if_neg c9, if_pos c10]; try rfl) rfl dX9_tell_90
              · by_cases c11 : what = 6
                · refine aw_tableIn X (pc := 13) (tgt := 91) (by rw [c11]; decide) (by rw [c11]; decide) (by rw [c11]; rfl) (by decide) dX9_tell_13 ?_
                  refine aw_iconst X (pc := 91) (v := 0) dX9_tell_91 (by decide) ?_
                  refine aw_istore X (pc := 92) (lv' := [(4, .int 0), (3, .int 0), (0, .ref (q 0)), (1, .int tag), (2, .int what)]) (by decide) rfl dX9_tell_92 ?_
                  have L12 : ∀ (n12 k : Nat) (ct : Int32), k + n12 = f → lpF (b_X9_tell_94 a tag) n12 k ct = lpF (b_X9_tell_94 a tag) f 0 0 → AW p l e rm_X9_tell s m args below meth c D A 5 0 0 Q 94 [(4, .int (nI k)), (3, .int ct), (0, .ref (q 0)), (1, .int tag), (2, .int what)] [] (mW q kc a w hs inn sp lone lt lz dr) := by
                    intro n12; induction n12 with
                    | zero =>
                      intro k ct hk12  hf12
                      have hf12 : ct = lpF (b_X9_tell_94 a tag) f 0 0 := hf12
                      refine aw_iload X (pc := 94) 0 rfl dX9_tell_94 ?_
                      refine aw_aload_n X (pc := 96) 2 rfl rfl dX9_tell_96 ?_
                      refine aw_get X (pc := 97) iX9 0 0 rfl rfl (by decide) fl_X9_7 rfl dX9_tell_97 ?_
                      refine aw_bipush X (pc := 100) (v := 15) dX9_tell_100 (by decide) ?_
                      refine aw_iald X (pc := 102) 1 0 15 rfl rfl rfl (by decide) (by omega) dX9_tell_102 ?_
                      refine aw_icmp_ge X (pc := 103) (tgt := 134) (by decide) dX9_tell_103 (fun c17 => ?_) (fun c17 => absurd (nn_le (a := f) (b := k) ha15 rfl (by omega) (by omega)) c17)
                      refine aw_iload_n X (pc := 134) 1 rfl rfl dX9_tell_134 ?_
                      exact aw_iret X (v := ct) hQ (by simp only [r_X9_tell, if_neg c1, if_neg c4, if_neg c5, if_neg c6, if_neg c7, if_neg c9, if_neg c10, if_pos c11, ← hf12]; try rfl) rfl dX9_tell_135
                    | succ n12 ih12 =>
                      intro k ct hk12  hf12
                      have hf12 : lpF (b_X9_tell_94 a tag) n12 (k + 1) (b_X9_tell_94 a tag k ct) = lpF (b_X9_tell_94 a tag) f 0 0 := hf12
                      refine aw_iload X (pc := 94) 0 rfl dX9_tell_94 ?_
                      refine aw_aload_n X (pc := 96) 2 rfl rfl dX9_tell_96 ?_
                      refine aw_get X (pc := 97) iX9 0 0 rfl rfl (by decide) fl_X9_7 rfl dX9_tell_97 ?_
                      refine aw_bipush X (pc := 100) (v := 15) dX9_tell_100 (by decide) ?_
                      refine aw_iald X (pc := 102) 1 0 15 rfl rfl rfl (by decide) (by omega) dX9_tell_102 ?_
                      refine aw_icmp_ge X (pc := 103) (tgt := 134) (by decide) dX9_tell_103 (fun c13 => absurd c13 (nn_nle (a := f) (b := k) ha15 rfl (by omega) (by omega))) (fun c13 => ?_)
                      refine aw_iload_n X (pc := 106) 1 rfl rfl dX9_tell_106 ?_
                      refine aw_aload_n X (pc := 107) 2 rfl rfl dX9_tell_107 ?_
                      refine aw_get X (pc := 108) iX9 0 0 rfl rfl (by decide) fl_X9_7 rfl dX9_tell_108 ?_
                      refine aw_bipush X (pc := 111) (v := 100) dX9_tell_111 (by decide) ?_
                      refine aw_iload X (pc := 113) 0 rfl dX9_tell_113 ?_
                      refine aw_iadd X (pc := 115) (z := nI (100 + k)) (nn_add (a := 100) (b := k) rfl rfl (by first | rfl | omega))  dX9_tell_115 ?_
                      refine aw_iald X (pc := 116) 1 0 (100 + k) rfl rfl rfl (by decide) (by omega) dX9_tell_116 ?_
                      refine aw_iload_n X (pc := 117) 3 rfl rfl dX9_tell_117 ?_
                      refine aw_icmp_ne X (pc := 118) (tgt := 125) (by decide) dX9_tell_118 (fun c14 => ?_) (fun c14 => ?_)
                      · refine aw_iconst X (pc := 125) (v := 0) dX9_tell_125 (by decide) ?_
                        refine aw_iadd X (pc := 126) (z := ct + 0) rfl  dX9_tell_126 ?_
                        refine aw_istore_n X (pc := 127) (lv' := [(3, .int (ct + 0)), (4, .int (nI k)), (0, .ref (q 0)), (1, .int tag), (2, .int what)]) rfl (by decide) rfl dX9_tell_127 ?_
                        refine aw_iinc X (pc := 128) (kx := 1) (v := nI (k + 1)) (lv' := [(4, .int (nI (k + 1))), (3, .int (ct + 0)), (0, .ref (q 0)), (1, .int tag), (2, .int what)]) rfl (nn_add (a := k) (b := 1) rfl rfl rfl) (by decide) rfl dX9_tell_128 ?_
                        refine aw_goto X (pc := 131) (tgt := 94) (by decide) dX9_tell_131 ?_
                        have e15 : b_X9_tell_94 a tag k ct = (ct + 0) := by simp only [b_X9_tell_94, if_neg c14]
                        exact aw_sub (lv' := [(4, .int (nI (k + 1))), (3, .int (ct + 0)), (0, .ref (q 0)), (1, .int tag), (2, .int what)]) [0, 1, 2, 3, 4] rfl (ih12 (k + 1) (ct + 0) (by omega)  (by rw [← e15]; exact hf12))
                      · refine aw_iconst X (pc := 121) (v := 1) dX9_tell_121 (by decide) ?_
                        refine aw_goto X (pc := 122) (tgt := 126) (by decide) dX9_tell_122 ?_
                        refine aw_iadd X (pc := 126) (z := ct + 1) rfl  dX9_tell_126 ?_
                        refine aw_istore_n X (pc := 127) (lv' := [(3, .int (ct + 1)), (4, .int (nI k)), (0, .ref (q 0)), (1, .int tag), (2, .int what)]) rfl (by decide) rfl dX9_tell_127 ?_
                        refine aw_iinc X (pc := 128) (kx := 1) (v := nI (k + 1)) (lv' := [(4, .int (nI (k + 1))), (3, .int (ct + 1)), (0, .ref (q 0)), (1, .int tag), (2, .int what)]) rfl (nn_add (a := k) (b := 1) rfl rfl rfl) (by decide) rfl dX9_tell_128 ?_
                        refine aw_goto X (pc := 131) (tgt := 94) (by decide) dX9_tell_131 ?_
                        have e16 : b_X9_tell_94 a tag k ct = (ct + 1) := by simp only [b_X9_tell_94, if_pos c14]
                        exact aw_sub (lv' := [(4, .int (nI (k + 1))), (3, .int (ct + 1)), (0, .ref (q 0)), (1, .int tag), (2, .int what)]) [0, 1, 2, 3, 4] rfl (ih12 (k + 1) (ct + 1) (by omega)  (by rw [← e16]; exact hf12))
                  exact aw_sub (lv' := [(4, .int 0), (3, .int 0), (0, .ref (q 0)), (1, .int tag), (2, .int what)]) [0, 1, 2, 3, 4] rfl (L12 f 0 0 (by omega)  rfl)
                · refine aw_tableOut X (pc := 13) (tgt := 136) (tb_out6 c4 c5 c6 c7 c9 c10 c11) (by decide) dX9_tell_13 ?_
                  refine aw_iconst X (pc := 136) (v := (-1)) dX9_tell_136 (by decide) ?_
                  exact aw_iret X (v := (-1)) hQ (by simp only [r_X9_tell, if_neg c1, if_neg c4, if_neg c5, if_neg c6, if_neg c7, if_neg c9, if_neg c10, if_neg c11]; try rfl) rfl dX9_tell_137
  · refine aw_iconst X (pc := 8) (v := (-1)) dX9_tell_8 (by decide) ?_
    exact aw_iret X (v := (-1)) hQ (by simp only [r_X9_tell, if_pos c1]; try rfl) rfl dX9_tell_9

def r_X9_act (a : Nat → Int32) (tag : Int32) (what : Int32) : Int32 := if r_X9_isIn tag (a 0) = 0 then 0 else (if r_X9_isIn what 4 = 0 then 0 else (if what = 3 then (if a (300 + 6 * tag.toNatClampNeg + 0) = 4 then (if 2 ≤ what then (if what = 1 then (if a (300 + 6 * tag.toNatClampNeg + 2) = 1 then 0 else 1) else (if what = 2 then (if a (300 + 6 * tag.toNatClampNeg + 2) = 1 then 0 else 1) else (if a (300 + 6 * tag.toNatClampNeg + 2) = 0 then 0 else 1))) else (if what = 1 then (if a (300 + 6 * tag.toNatClampNeg + 1) = 1 then 0 else 1) else (if what = 2 then (if a (300 + 6 * tag.toNatClampNeg + 1) = 1 then 0 else 1) else (if a (300 + 6 * tag.toNatClampNeg + 1) = 0 then 0 else 1)))) else 0) else (if 2 ≤ what then (if what = 1 then (if a (300 + 6 * tag.toNatClampNeg + 2) = 1 then 0 else 1) else (if what = 2 then (if a (300 + 6 * tag.toNatClampNeg + 2) = 1 then 0 else 1) else (if a (300 + 6 * tag.toNatClampNeg + 2) = 0 then 0 else 1))) else (if what = 1 then (if a (300 + 6 * tag.toNatClampNeg + 1) = 1 then 0 else 1) else (if what = 2 then (if a (300 + 6 * tag.toNatClampNeg + 1) = 1 then 0 else 1) else (if a (300 + 6 * tag.toNatClampNeg + 1) = 0 then 0 else 1))))))
def u_X9_act_a (a : Nat → Int32) (tag : Int32) (what : Int32) : Nat → Int32 := if r_X9_isIn tag (a 0) = 0 then a else (if r_X9_isIn what 4 = 0 then a else (if what = 3 then (if a (300 + 6 * tag.toNatClampNeg + 0) = 4 then (if 2 ≤ what then (if what = 1 then (if a (300 + 6 * tag.toNatClampNeg + 2) = 1 then a else (upd a (300 + 6 * tag.toNatClampNeg + 2) 1)) else (if what = 2 then (if a (300 + 6 * tag.toNatClampNeg + 2) = 1 then a else (upd a (300 + 6 * tag.toNatClampNeg + 2) 1)) else (if a (300 + 6 * tag.toNatClampNeg + 2) = 0 then a else (upd a (300 + 6 * tag.toNatClampNeg + 2) 0)))) else (if what = 1 then (if a (300 + 6 * tag.toNatClampNeg + 1) = 1 then a else (upd a (300 + 6 * tag.toNatClampNeg + 1) 1)) else (if what = 2 then (if a (300 + 6 * tag.toNatClampNeg + 1) = 1 then a else (upd a (300 + 6 * tag.toNatClampNeg + 1) 1)) else (if a (300 + 6 * tag.toNatClampNeg + 1) = 0 then a else (upd a (300 + 6 * tag.toNatClampNeg + 1) 0))))) else a) else (if 2 ≤ what then (if what = 1 then (if a (300 + 6 * tag.toNatClampNeg + 2) = 1 then a else (upd a (300 + 6 * tag.toNatClampNeg + 2) 1)) else (if what = 2 then (if a (300 + 6 * tag.toNatClampNeg + 2) = 1 then a else (upd a (300 + 6 * tag.toNatClampNeg + 2) 1)) else (if a (300 + 6 * tag.toNatClampNeg + 2) = 0 then a else (upd a (300 + 6 * tag.toNatClampNeg + 2) 0)))) else (if what = 1 then (if a (300 + 6 * tag.toNatClampNeg + 1) = 1 then a else (upd a (300 + 6 * tag.toNatClampNeg + 1) 1)) else (if what = 2 then (if a (300 + 6 * tag.toNatClampNeg + 1) = 1 then a else (upd a (300 + 6 * tag.toNatClampNeg + 1) 1)) else (if a (300 + 6 * tag.toNatClampNeg + 1) = 0 then a else (upd a (300 + 6 * tag.toNatClampNeg + 1) 0)))))))
theorem z_X9_act (a : Nat → Int32) (tag : Int32) (what : Int32) : r_X9_act a tag what = 0 ∨ r_X9_act a tag what = 1 := by
  unfold r_X9_act
  by_cases h0 : r_X9_isIn tag (a 0) = 0
  · try rw [if_pos h0]
    exact Or.inl rfl
  · try rw [if_neg h0]
    by_cases h1 : r_X9_isIn what 4 = 0
    · try rw [if_pos h1]
      exact Or.inl rfl
    · try rw [if_neg h1]
      by_cases h2 : what = 3
      · try rw [if_pos h2]
        by_cases h3 : a (300 + 6 * tag.toNatClampNeg + 0) = 4
        · try rw [if_pos h3]
          by_cases h4 : 2 ≤ what
          · try rw [if_pos h4]
            by_cases h5 : what = 1
            · try rw [if_pos h5]
              by_cases h6 : a (300 + 6 * tag.toNatClampNeg + 2) = 1
              · try rw [if_pos h6]
                exact Or.inl rfl
              · try rw [if_neg h6]
                exact Or.inr rfl
            · try rw [if_neg h5]
              by_cases h6 : what = 2
              · try rw [if_pos h6]
                by_cases h7 : a (300 + 6 * tag.toNatClampNeg + 2) = 1
                · try rw [if_pos h7]
                  exact Or.inl rfl
                · try rw [if_neg h7]
                  exact Or.inr rfl
              · try rw [if_neg h6]
                by_cases h7 : a (300 + 6 * tag.toNatClampNeg + 2) = 0
                · try rw [if_pos h7]
                  exact Or.inl rfl
                · try rw [if_neg h7]
                  exact Or.inr rfl
          · try rw [if_neg h4]
            by_cases h5 : what = 1
            · try rw [if_pos h5]
              by_cases h6 : a (300 + 6 * tag.toNatClampNeg + 1) = 1
              · try rw [if_pos h6]
                exact Or.inl rfl
              · try rw [if_neg h6]
                exact Or.inr rfl
            · try rw [if_neg h5]
              by_cases h6 : what = 2
              · try rw [if_pos h6]
                by_cases h7 : a (300 + 6 * tag.toNatClampNeg + 1) = 1
                · try rw [if_pos h7]
                  exact Or.inl rfl
                · try rw [if_neg h7]
                  exact Or.inr rfl
              · try rw [if_neg h6]
                by_cases h7 : a (300 + 6 * tag.toNatClampNeg + 1) = 0
                · try rw [if_pos h7]
                  exact Or.inl rfl
                · try rw [if_neg h7]
                  exact Or.inr rfl
        · try rw [if_neg h3]
          exact Or.inl rfl
      · try rw [if_neg h2]
        by_cases h3 : 2 ≤ what
        · try rw [if_pos h3]
          by_cases h4 : what = 1
          · try rw [if_pos h4]
            by_cases h5 : a (300 + 6 * tag.toNatClampNeg + 2) = 1
            · try rw [if_pos h5]
              exact Or.inl rfl
            · try rw [if_neg h5]
              exact Or.inr rfl
          · try rw [if_neg h4]
            by_cases h5 : what = 2
            · try rw [if_pos h5]
              by_cases h6 : a (300 + 6 * tag.toNatClampNeg + 2) = 1
              · try rw [if_pos h6]
                exact Or.inl rfl
              · try rw [if_neg h6]
                exact Or.inr rfl
            · try rw [if_neg h5]
              by_cases h6 : a (300 + 6 * tag.toNatClampNeg + 2) = 0
              · try rw [if_pos h6]
                exact Or.inl rfl
              · try rw [if_neg h6]
                exact Or.inr rfl
        · try rw [if_neg h3]
          by_cases h4 : what = 1
          · try rw [if_pos h4]
            by_cases h5 : a (300 + 6 * tag.toNatClampNeg + 1) = 1
            · try rw [if_pos h5]
              exact Or.inl rfl
            · try rw [if_neg h5]
              exact Or.inr rfl
          · try rw [if_neg h4]
            by_cases h5 : what = 2
            · try rw [if_pos h5]
              by_cases h6 : a (300 + 6 * tag.toNatClampNeg + 1) = 1
              · try rw [if_pos h6]
                exact Or.inl rfl
              · try rw [if_neg h6]
                exact Or.inr rfl
            · try rw [if_neg h5]
              by_cases h6 : a (300 + 6 * tag.toNatClampNeg + 1) = 0
              · try rw [if_pos h6]
                exact Or.inl rfl
              · try rw [if_neg h6]
                exact Or.inr rfl
abbrev rm_X9_act : Room := { frames := 2, cells := 0, slots := 0, locals := 42 }
set_option maxHeartbeats 400000 in
set_option maxRecDepth 100000 in
theorem c_X9_act (l : Launch) (D : va_G) (q : Nat → Nat) (kc : Nat → ClassId) (a : Nat → Int32) (w : Nat → Int64) (hs : Nat → Int32) (inn : Nat → Int32) (sp : Nat → Int32) (lone : Int32) (lt : Nat → Int64) (lz : Nat → Int32) (dr : Nat → Int32) (n : Nat) (tag : Int32) (what : Int32) (ha0 : a 0 = nI n) (hn : n ≤ 40) : MW l D yX9_act (Cond.code yX9_act cX9_act 5 (some .boolean) :: TT) rm_X9_act [.ref (q 0), .int tag, .int what] [(kc 1, .int), (kc 2, .long), (kc 3, .boolean), (kc 4, .boolean), (kc 5, .boolean), (kc 6, .long), (kc 7, .int), (kc 8, .int)] (mW q kc a w hs inn sp lone lt lz dr) (some (.int (r_X9_act a tag what))) (mW q kc (u_X9_act_a a tag what) w hs inn sp lone lt lz dr) := by
  refine MW.of (cc := cX9_act) (nL := 5) (ret := (some .boolean)) (lv := [(0, .ref (q 0)), (1, .int tag), (2, .int what)]) (by decide) ((mW_ad ..).trans (mW_ad ..).symm) rfl (Nat.le_of_ble_eq_true rfl) ?_
  intro p e s m args below meth c A Q hQ X
  refine aw_aload_n X (pc := 0) 0 rfl rfl dX9_act_0 ?_
  refine aw_iload_n X (pc := 1) 1 rfl rfl dX9_act_1 ?_
  refine aw_callVF X (pc := 2) (q1 := 0) (rest := []) (st' := [.int (r_X9_isIn tag (a 0))]) (c_X9_isTag l D q kc a w hs inn sp lone lt lz dr tag) rfl rfl ⟨_, _, rfl⟩ rfl cf_X9_56 cd_X9_isTag dd_X9_isTag (by decide) (by decide) (by decide) rfl (Nat.le_of_ble_eq_true rfl) dX9_act_2 rfl ?_
  refine aw_if_eq X (pc := 5) (tgt := 31) (by decide) dX9_act_5 (fun c1 => ?_) (fun c1 => ?_)
  · refine aw_iconst X (pc := 31) (v := 0) dX9_act_31 (by decide) ?_
    exact aw_zret X (v := 0) rfl hQ (by simp only [r_X9_act, if_pos c1]; try rfl) (by simp only [u_X9_act_a, if_pos c1]) dX9_act_32
  · obtain ⟨ht2, hu3⟩ := isIn_nat (n := n) ha0 (by omega) c1
    refine aw_iload_n X (pc := 8) 2 rfl rfl dX9_act_8 ?_
    refine aw_iconst X (pc := 9) (v := 4) dX9_act_9 (by decide) ?_
    refine aw_callS X (pc := 10) (rest := []) (st' := [.int (r_X9_isIn what 4)]) (ws' := (mW q kc a w hs inn sp lone lt lz dr)) (c_X9_isIn l D what 4) rfl [] [] rfl (by decide +kernel) rfl rfl cf_X9_36 cd_X9_isIn dd_X9_isIn (by decide) (by decide) (by decide) rfl (Nat.le_of_ble_eq_true rfl) dX9_act_10 rfl ?_
    refine aw_if_eq X (pc := 13) (tgt := 31) (by decide) dX9_act_13 (fun c4 => ?_) (fun c4 => ?_)
    · refine aw_iconst X (pc := 31) (v := 0) dX9_act_31 (by decide) ?_
      exact aw_zret X (v := 0) rfl hQ (by simp only [r_X9_act, if_neg c1, if_pos c4]; try rfl) (by simp only [u_X9_act_a, if_neg c1, if_pos c4]) dX9_act_32
    · refine aw_iload_n X (pc := 16) 2 rfl rfl dX9_act_16 ?_
      refine aw_iconst X (pc := 17) (v := 3) dX9_act_17 (by decide) ?_
      refine aw_icmp_ne X (pc := 18) (tgt := 33) (by decide) dX9_act_18 (fun c5 => ?_) (fun c5 => ?_)
      · refine aw_iload_n X (pc := 33) 2 rfl rfl dX9_act_33 ?_
        refine aw_iconst X (pc := 34) (v := 2) dX9_act_34 (by decide) ?_
        refine aw_icmp_ge X (pc := 35) (tgt := 42) (by decide) dX9_act_35 (fun c6 => ?_) (fun c6 => ?_)
        · refine aw_iconst X (pc := 42) (v := 2) dX9_act_42 (by decide) ?_
          refine aw_istore_n X (pc := 43) (lv' := [(3, .int 2), (0, .ref (q 0)), (1, .int tag), (2, .int what)]) rfl (by decide) rfl dX9_act_43 ?_
          refine aw_iload_n X (pc := 44) 3 rfl rfl dX9_act_44 ?_
          refine aw_iconst X (pc := 45) (v := 1) dX9_act_45 (by decide) ?_
          refine aw_icmp_eq X (pc := 46) (tgt := 54) (by decide) dX9_act_46 (fun c7 => ?_) (fun c7 => ?_)
          · refine aw_iconst X (pc := 54) (v := 1) dX9_act_54 (by decide) ?_
            refine aw_goto X (pc := 55) (tgt := 59) (by decide) dX9_act_55 ?_
            refine aw_istore X (pc := 59) (lv' := [(4, .int 1), (3, .int 2), (0, .ref (q 0)), (1, .int tag), (2, .int what)]) (by decide) rfl dX9_act_59 ?_
            refine aw_aload_n X (pc := 61) 2 rfl rfl dX9_act_61 ?_
            refine aw_iload_n X (pc := 62) 3 rfl rfl dX9_act_62 ?_
            refine aw_iload_n X (pc := 63) 1 rfl rfl dX9_act_63 ?_
            refine aw_callVF X (pc := 64) (q1 := 0) (rest := []) (st' := [.int (a (300 + 6 * tag.toNatClampNeg + 2))]) (c_X9_of l D q kc a w hs inn sp lone lt lz dr tag 2 tag.toNatClampNeg 2 ht2 rfl (by omega)) rfl rfl ⟨_, _, rfl⟩ rfl cf_X9_44 cd_X9_of dd_X9_of (by decide) (by decide) (by decide) rfl (Nat.le_of_ble_eq_true rfl) dX9_act_64 rfl ?_
            refine aw_iload X (pc := 67) 0 rfl dX9_act_67 ?_
            refine aw_icmp_ne X (pc := 69) (tgt := 74) (by decide) dX9_act_69 (fun c8 => ?_) (fun c8 => ?_)
            · refine aw_aload_n X (pc := 74) 2 rfl rfl dX9_act_74 ?_
              refine aw_iload_n X (pc := 75) 3 rfl rfl dX9_act_75 ?_
              refine aw_iload_n X (pc := 76) 1 rfl rfl dX9_act_76 ?_
              refine aw_iload X (pc := 77) 0 rfl dX9_act_77 ?_
              refine aw_callVF X (pc := 79) (q1 := 0) (rest := []) (st' := []) (c_X9_sets l D q kc a w hs inn sp lone lt lz dr tag 2 tag.toNatClampNeg 2 1 ht2 rfl (by omega)) rfl rfl ⟨_, _, rfl⟩ rfl cf_X9_52 cd_X9_sets dd_X9_sets (by decide) (by decide) (by decide) rfl (Nat.le_of_ble_eq_true rfl) dX9_act_79 rfl ?_
              have ha9 : (upd a (300 + 6 * tag.toNatClampNeg + 2) 1) 0 = nI n := by rw [pk_un (by omega)]; exact ha0
              refine aw_iconst X (pc := 82) (v := 1) dX9_act_82 (by decide) ?_
              exact aw_zret X (v := 1) rfl hQ (by simp only [r_X9_act, if_neg c1, if_neg c4, if_neg c5, if_pos c6, if_pos c7, if_neg c8]; try rfl) (by simp only [u_X9_act_a, if_neg c1, if_neg c4, if_neg c5, if_pos c6, if_pos c7, if_neg c8]) dX9_act_83
            · refine aw_iconst X (pc := 72) (v := 0) dX9_act_72 (by decide) ?_
              exact aw_zret X (v := 0) rfl hQ (by simp only [r_X9_act, if_neg c1, if_neg c4, if_neg c5, if_pos c6, if_pos c7, if_pos c8]; try rfl) (by simp only [u_X9_act_a, if_neg c1, if_neg c4, if_neg c5, if_pos c6, if_pos c7, if_pos c8]) dX9_act_73
          · refine aw_iload_n X (pc := 49) 3 rfl rfl dX9_act_49 ?_
            refine aw_iconst X (pc := 50) (v := 2) dX9_act_50 (by decide) ?_
            refine aw_icmp_ne X (pc := 51) (tgt := 58) (by decide) dX9_act_51 (fun c10 => ?_) (fun c10 => ?_)
            · refine aw_iconst X (pc := 58) (v := 0) dX9_act_58 (by decide) ?_
              refine aw_istore X (pc := 59) (lv' := [(4, .int 0), (3, .int 2), (0, .ref (q 0)), (1, .int tag), (2, .int what)]) (by decide) rfl dX9_act_59 ?_
              refine aw_aload_n X (pc := 61) 2 rfl rfl dX9_act_61 ?_
              refine aw_iload_n X (pc := 62) 3 rfl rfl dX9_act_62 ?_
              refine aw_iload_n X (pc := 63) 1 rfl rfl dX9_act_63 ?_
              refine aw_callVF X (pc := 64) (q1 := 0) (rest := []) (st' := [.int (a (300 + 6 * tag.toNatClampNeg + 2))]) (c_X9_of l D q kc a w hs inn sp lone lt lz dr tag 2 tag.toNatClampNeg 2 ht2 rfl (by omega)) rfl rfl ⟨_, _, rfl⟩ rfl cf_X9_44 cd_X9_of dd_X9_of (by decide) (by decide) (by decide) rfl (Nat.le_of_ble_eq_true rfl) dX9_act_64 rfl ?_
              refine aw_iload X (pc := 67) 0 rfl dX9_act_67 ?_
              refine aw_icmp_ne X (pc := 69) (tgt := 74) (by decide) dX9_act_69 (fun c11 => ?_) (fun c11 => ?_)
              · refine aw_aload_n X (pc := 74) 2 rfl rfl dX9_act_74 ?_
                refine aw_iload_n X (pc := 75) 3 rfl rfl dX9_act_75 ?_
                refine aw_iload_n X (pc := 76) 1 rfl rfl dX9_act_76 ?_
                refine aw_iload X (pc := 77) 0 rfl dX9_act_77 ?_
                refine aw_callVF X (pc := 79) (q1 := 0) (rest := []) (st' := []) (c_X9_sets l D q kc a w hs inn sp lone lt lz dr tag 2 tag.toNatClampNeg 2 0 ht2 rfl (by omega)) rfl rfl ⟨_, _, rfl⟩ rfl cf_X9_52 cd_X9_sets dd_X9_sets (by decide) (by decide) (by decide) rfl (Nat.le_of_ble_eq_true rfl) dX9_act_79 rfl ?_
                have ha12 : (upd a (300 + 6 * tag.toNatClampNeg + 2) 0) 0 = nI n := by rw [pk_un (by omega)]; exact ha0
                refine aw_iconst X (pc := 82) (v := 1) dX9_act_82 (by decide) ?_
                exact aw_zret X (v := 1) rfl hQ (by simp only [r_X9_act, if_neg c1, if_neg c4, if_neg c5, if_pos c6, if_neg c7, if_neg c10, if_neg c11]; try rfl) (by simp only [u_X9_act_a, if_neg c1, if_neg c4, if_neg c5, if_pos c6, if_neg c7, if_neg c10, if_neg c11]) dX9_act_83
              · refine aw_iconst X (pc := 72) (v := 0) dX9_act_72 (by decide) ?_
                exact aw_zret X (v := 0) rfl hQ (by simp only [r_X9_act, if_neg c1, if_neg c4, if_neg c5, if_pos c6, if_neg c7, if_neg c10, if_pos c11]; try rfl) (by simp only [u_X9_act_a, if_neg c1, if_neg c4, if_neg c5, if_pos c6, if_neg c7, if_neg c10, if_pos c11]) dX9_act_73
            · refine aw_iconst X (pc := 54) (v := 1) dX9_act_54 (by decide) ?_
              refine aw_goto X (pc := 55) (tgt := 59) (by decide) dX9_act_55 ?_
              refine aw_istore X (pc := 59) (lv' := [(4, .int 1), (3, .int 2), (0, .ref (q 0)), (1, .int tag), (2, .int what)]) (by decide) rfl dX9_act_59 ?_
              refine aw_aload_n X (pc := 61) 2 rfl rfl dX9_act_61 ?_
              refine aw_iload_n X (pc := 62) 3 rfl rfl dX9_act_62 ?_
              refine aw_iload_n X (pc := 63) 1 rfl rfl dX9_act_63 ?_
              refine aw_callVF X (pc := 64) (q1 := 0) (rest := []) (st' := [.int (a (300 + 6 * tag.toNatClampNeg + 2))]) (c_X9_of l D q kc a w hs inn sp lone lt lz dr tag 2 tag.toNatClampNeg 2 ht2 rfl (by omega)) rfl rfl ⟨_, _, rfl⟩ rfl cf_X9_44 cd_X9_of dd_X9_of (by decide) (by decide) (by decide) rfl (Nat.le_of_ble_eq_true rfl) dX9_act_64 rfl ?_
              refine aw_iload X (pc := 67) 0 rfl dX9_act_67 ?_
              refine aw_icmp_ne X (pc := 69) (tgt := 74) (by decide) dX9_act_69 (fun c13 => ?_) (fun c13 => ?_)
              · refine aw_aload_n X (pc := 74) 2 rfl rfl dX9_act_74 ?_
                refine aw_iload_n X (pc := 75) 3 rfl rfl dX9_act_75 ?_
                refine aw_iload_n X (pc := 76) 1 rfl rfl dX9_act_76 ?_
                refine aw_iload X (pc := 77) 0 rfl dX9_act_77 ?_
                refine aw_callVF X (pc := 79) (q1 := 0) (rest := []) (st' := []) (c_X9_sets l D q kc a w hs inn sp lone lt lz dr tag 2 tag.toNatClampNeg 2 1 ht2 rfl (by omega)) rfl rfl ⟨_, _, rfl⟩ rfl cf_X9_52 cd_X9_sets dd_X9_sets (by decide) (by decide) (by decide) rfl (Nat.le_of_ble_eq_true rfl) dX9_act_79 rfl ?_
                have ha14 : (upd a (300 + 6 * tag.toNatClampNeg + 2) 1) 0 = nI n := by rw [pk_un (by omega)]; exact ha0
                refine aw_iconst X (pc := 82) (v := 1) dX9_act_82 (by decide) ?_
                exact aw_zret X (v := 1) rfl hQ (by simp only [r_X9_act, if_neg c1, if_neg c4, if_neg c5, if_pos c6, if_neg c7, if_pos c10, if_neg c13]; try rfl) (by simp only [u_X9_act_a, if_neg c1, if_neg c4, if_neg c5, if_pos c6, if_neg c7, if_pos c10, if_neg c13]) dX9_act_83
              · refine aw_iconst X (pc := 72) (v := 0) dX9_act_72 (by decide) ?_
                exact aw_zret X (v := 0) rfl hQ (by simp only [r_X9_act, if_neg c1, if_neg c4, if_neg c5, if_pos c6, if_neg c7, if_pos c10, if_pos c13]; try rfl) (by simp only [u_X9_act_a, if_neg c1, if_neg c4, if_neg c5, if_pos c6, if_neg c7, if_pos c10, if_pos c13]) dX9_act_73
        · refine aw_iconst X (pc := 38) (v := 1) dX9_act_38 (by decide) ?_
          refine aw_goto X (pc := 39) (tgt := 43) (by decide) dX9_act_39 ?_
          refine aw_istore_n X (pc := 43) (lv' := [(3, .int 1), (0, .ref (q 0)), (1, .int tag), (2, .int what)]) rfl (by decide) rfl dX9_act_43 ?_
          refine aw_iload_n X (pc := 44) 3 rfl rfl dX9_act_44 ?_
          refine aw_iconst X (pc := 45) (v := 1) dX9_act_45 (by decide) ?_
          refine aw_icmp_eq X (pc := 46) (tgt := 54) (by decide) dX9_act_46 (fun c15 => ?_) (fun c15 => ?_)
          · refine aw_iconst X (pc := 54) (v := 1) dX9_act_54 (by decide) ?_
            refine aw_goto X (pc := 55) (tgt := 59) (by decide) dX9_act_55 ?_
            refine aw_istore X (pc := 59) (lv' := [(4, .int 1), (3, .int 1), (0, .ref (q 0)), (1, .int tag), (2, .int what)]) (by decide) rfl dX9_act_59 ?_
            refine aw_aload_n X (pc := 61) 2 rfl rfl dX9_act_61 ?_
            refine aw_iload_n X (pc := 62) 3 rfl rfl dX9_act_62 ?_
            refine aw_iload_n X (pc := 63) 1 rfl rfl dX9_act_63 ?_
            refine aw_callVF X (pc := 64) (q1 := 0) (rest := []) (st' := [.int (a (300 + 6 * tag.toNatClampNeg + 1))]) (c_X9_of l D q kc a w hs inn sp lone lt lz dr tag 1 tag.toNatClampNeg 1 ht2 rfl (by omega)) rfl rfl ⟨_, _, rfl⟩ rfl cf_X9_44 cd_X9_of dd_X9_of (by decide) (by decide) (by decide) rfl (Nat.le_of_ble_eq_true rfl) dX9_act_64 rfl ?_
            refine aw_iload X (pc := 67) 0 rfl dX9_act_67 ?_
            refine aw_icmp_ne X (pc := 69) (tgt := 74) (by decide) dX9_act_69 (fun c16 => ?_) (fun c16 => ?_)
            · refine aw_aload_n X (pc := 74) 2 rfl rfl dX9_act_74 ?_
              refine aw_iload_n X (pc := 75) 3 rfl rfl dX9_act_75 ?_
              refine aw_iload_n X (pc := 76) 1 rfl rfl dX9_act_76 ?_
              refine aw_iload X (pc := 77) 0 rfl dX9_act_77 ?_
              refine aw_callVF X (pc := 79) (q1 := 0) (rest := []) (st' := []) (c_X9_sets l D q kc a w hs inn sp lone lt lz dr tag 1 tag.toNatClampNeg 1 1 ht2 rfl (by omega)) rfl rfl ⟨_, _, rfl⟩ rfl cf_X9_52 cd_X9_sets dd_X9_sets (by decide) (by decide) (by decide) rfl (Nat.le_of_ble_eq_true rfl) dX9_act_79 rfl ?_
              have ha17 : (upd a (300 + 6 * tag.toNatClampNeg + 1) 1) 0 = nI n := by rw [pk_un (by omega)]; exact ha0
              refine aw_iconst X (pc := 82) (v := 1) dX9_act_82 (by decide) ?_
              exact aw_zret X (v := 1) rfl hQ (by simp only [r_X9_act, if_neg c1, if_neg c4, if_neg c5, if_neg c6, if_pos c15, if_neg c16]; try rfl) (by simp only [u_X9_act_a, if_neg c1, if_neg c4, if_neg c5, if_neg c6, if_pos c15, if_neg c16]) dX9_act_83
            · refine aw_iconst X (pc := 72) (v := 0) dX9_act_72 (by decide) ?_
              exact aw_zret X (v := 0) rfl hQ (by simp only [r_X9_act, if_neg c1, if_neg c4, if_neg c5, if_neg c6, if_pos c15, if_pos c16]; try rfl) (by simp only [u_X9_act_a, if_neg c1, if_neg c4, if_neg c5, if_neg c6, if_pos c15, if_pos c16]) dX9_act_73
          · refine aw_iload_n X (pc := 49) 3 rfl rfl dX9_act_49 ?_
            refine aw_iconst X (pc := 50) (v := 2) dX9_act_50 (by decide) ?_
            refine aw_icmp_ne X (pc := 51) (tgt := 58) (by decide) dX9_act_51 (fun c18 => ?_) (fun c18 => ?_)
            · refine aw_iconst X (pc := 58) (v := 0) dX9_act_58 (by decide) ?_
              refine aw_istore X (pc := 59) (lv' := [(4, .int 0), (3, .int 1), (0, .ref (q 0)), (1, .int tag), (2, .int what)]) (by decide) rfl dX9_act_59 ?_
              refine aw_aload_n X (pc := 61) 2 rfl rfl dX9_act_61 ?_
              refine aw_iload_n X (pc := 62) 3 rfl rfl dX9_act_62 ?_
              refine aw_iload_n X (pc := 63) 1 rfl rfl dX9_act_63 ?_
              refine aw_callVF X (pc := 64) (q1 := 0) (rest := []) (st' := [.int (a (300 + 6 * tag.toNatClampNeg + 1))]) (c_X9_of l D q kc a w hs inn sp lone lt lz dr tag 1 tag.toNatClampNeg 1 ht2 rfl (by omega)) rfl rfl ⟨_, _, rfl⟩ rfl cf_X9_44 cd_X9_of dd_X9_of (by decide) (by decide) (by decide) rfl (Nat.le_of_ble_eq_true rfl) dX9_act_64 rfl ?_
              refine aw_iload X (pc := 67) 0 rfl dX9_act_67 ?_
              refine aw_icmp_ne X (pc := 69) (tgt := 74) (by decide) dX9_act_69 (fun c19 => ?_) (fun c19 => ?_)
              · refine aw_aload_n X (pc := 74) 2 rfl rfl dX9_act_74 ?_
                refine aw_iload_n X (pc := 75) 3 rfl rfl dX9_act_75 ?_
                refine aw_iload_n X (pc := 76) 1 rfl rfl dX9_act_76 ?_
                refine aw_iload X (pc := 77) 0 rfl dX9_act_77 ?_
                refine aw_callVF X (pc := 79) (q1 := 0) (rest := []) (st' := []) (c_X9_sets l D q kc a w hs inn sp lone lt lz dr tag 1 tag.toNatClampNeg 1 0 ht2 rfl (by omega)) rfl rfl ⟨_, _, rfl⟩ rfl cf_X9_52 cd_X9_sets dd_X9_sets (by decide) (by decide) (by decide) rfl (Nat.le_of_ble_eq_true rfl) dX9_act_79 rfl ?_
                have ha20 : (upd a (300 + 6 * tag.toNatClampNeg + 1) 0) 0 = nI n := by rw [pk_un (by omega)]; exact ha0
                refine aw_iconst X (pc := 82) (v := 1) dX9_act_82 (by decide) ?_
                exact aw_zret X (v := 1) rfl hQ (by simp only [r_X9_act, if_neg c1, if_neg c4, if_neg c5, if_neg c6, if_neg c15, if_neg c18, if_neg c19]; try rfl) (by simp only [u_X9_act_a, if_neg c1, if_neg c4, if_neg c5, if_neg c6, if_neg c15, if_neg c18, if_neg c19]) dX9_act_83
              · refine aw_iconst X (pc := 72) (v := 0) dX9_act_72 (by decide) ?_
                exact aw_zret X (v := 0) rfl hQ (by simp only [r_X9_act, if_neg c1, if_neg c4, if_neg c5, if_neg c6, if_neg c15, if_neg c18, if_pos c19]; try rfl) (by simp only [u_X9_act_a, if_neg c1, if_neg c4, if_neg c5, if_neg c6, if_neg c15, if_neg c18, if_pos c19]) dX9_act_73
            · refine aw_iconst X (pc := 54) (v := 1) dX9_act_54 (by decide) ?_
              refine aw_goto X (pc := 55) (tgt := 59) (by decide) dX9_act_55 ?_
              refine aw_istore X (pc := 59) (lv' := [(4, .int 1), (3, .int 1), (0, .ref (q 0)), (1, .int tag), (2, .int what)]) (by decide) rfl dX9_act_59 ?_
              refine aw_aload_n X (pc := 61) 2 rfl rfl dX9_act_61 ?_
              refine aw_iload_n X (pc := 62) 3 rfl rfl dX9_act_62 ?_
              refine aw_iload_n X (pc := 63) 1 rfl rfl dX9_act_63 ?_
              refine aw_callVF X (pc := 64) (q1 := 0) (rest := []) (st' := [.int (a (300 + 6 * tag.toNatClampNeg + 1))]) (c_X9_of l D q kc a w hs inn sp lone lt lz dr tag 1 tag.toNatClampNeg 1 ht2 rfl (by omega)) rfl rfl ⟨_, _, rfl⟩ rfl cf_X9_44 cd_X9_of dd_X9_of (by decide) (by decide) (by decide) rfl (Nat.le_of_ble_eq_true rfl) dX9_act_64 rfl ?_
              refine aw_iload X (pc := 67) 0 rfl dX9_act_67 ?_
              refine aw_icmp_ne X (pc := 69) (tgt := 74) (by decide) dX9_act_69 (fun c21 => ?_) (fun c21 => ?_)
              · refine aw_aload_n X (pc := 74) 2 rfl rfl dX9_act_74 ?_
                refine aw_iload_n X (pc := 75) 3 rfl rfl dX9_act_75 ?_
                refine aw_iload_n X (pc := 76) 1 rfl rfl dX9_act_76 ?_
                refine aw_iload X (pc := 77) 0 rfl dX9_act_77 ?_
                refine aw_callVF X (pc := 79) (q1 := 0) (rest := []) (st' := []) (c_X9_sets l D q kc a w hs inn sp lone lt lz dr tag 1 tag.toNatClampNeg 1 1 ht2 rfl (by omega)) rfl rfl ⟨_, _, rfl⟩ rfl cf_X9_52 cd_X9_sets dd_X9_sets (by decide) (by decide) (by decide) rfl (Nat.le_of_ble_eq_true rfl) dX9_act_79 rfl ?_
                have ha22 : (upd a (300 + 6 * tag.toNatClampNeg + 1) 1) 0 = nI n := by rw [pk_un (by omega)]; exact ha0
                refine aw_iconst X (pc := 82) (v := 1) dX9_act_82 (by decide) ?_
                exact aw_zret X (v := 1) rfl hQ (by simp only [r_X9_act, if_neg c1, if_neg c4, if_neg c5, if_neg c6, if_neg c15, if_pos c18, if_neg c21]; try rfl) (by simp only [u_X9_act_a, if_neg c1, if_neg c4, if_neg c5, if_neg c6, if_neg c15, if_pos c18, if_neg c21]) dX9_act_83
              · refine aw_iconst X (pc := 72) (v := 0) dX9_act_72 (by decide) ?_
                exact aw_zret X (v := 0) rfl hQ (by simp only [r_X9_act, if_neg c1, if_neg c4, if_neg c5, if_neg c6, if_neg c15, if_pos c18, if_pos c21]; try rfl) (by simp only [u_X9_act_a, if_neg c1, if_neg c4, if_neg c5, if_neg c6, if_neg c15, if_pos c18, if_pos c21]) dX9_act_73
      · refine aw_aload_n X (pc := 21) 0 rfl rfl dX9_act_21 ?_
        refine aw_iload_n X (pc := 22) 1 rfl rfl dX9_act_22 ?_
        refine aw_iconst X (pc := 23) (v := 0) dX9_act_23 (by decide) ?_
        refine aw_callVF X (pc := 24) (q1 := 0) (rest := []) (st' := [.int (a (300 + 6 * tag.toNatClampNeg + 0))]) (c_X9_of l D q kc a w hs inn sp lone lt lz dr tag 0 tag.toNatClampNeg 0 ht2 rfl (by omega)) rfl rfl ⟨_, _, rfl⟩ rfl cf_X9_44 cd_X9_of dd_X9_of (by decide) (by decide) (by decide) rfl (Nat.le_of_ble_eq_true rfl) dX9_act_24 rfl ?_
        refine aw_iconst X (pc := 27) (v := 4) dX9_act_27 (by decide) ?_
        refine aw_icmp_eq X (pc := 28) (tgt := 33) (by decide) dX9_act_28 (fun c23 => ?_) (fun c23 => ?_)
        · refine aw_iload_n X (pc := 33) 2 rfl rfl dX9_act_33 ?_
          refine aw_iconst X (pc := 34) (v := 2) dX9_act_34 (by decide) ?_
          refine aw_icmp_ge X (pc := 35) (tgt := 42) (by decide) dX9_act_35 (fun c24 => ?_) (fun c24 => ?_)
          · refine aw_iconst X (pc := 42) (v := 2) dX9_act_42 (by decide) ?_
            refine aw_istore_n X (pc := 43) (lv' := [(3, .int 2), (0, .ref (q 0)), (1, .int tag), (2, .int what)]) rfl (by decide) rfl dX9_act_43 ?_
            refine aw_iload_n X (pc := 44) 3 rfl rfl dX9_act_44 ?_
            refine aw_iconst X (pc := 45) (v := 1) dX9_act_45 (by decide) ?_
            refine aw_icmp_eq X (pc := 46) (tgt := 54) (by decide) dX9_act_46 (fun c25 => ?_) (fun c25 => ?_)
            · refine aw_iconst X (pc := 54) (v := 1) dX9_act_54 (by decide) ?_
              refine aw_goto X (pc := 55) (tgt := 59) (by decide) dX9_act_55 ?_
              refine aw_istore X (pc := 59) (lv' := [(4, .int 1), (3, .int 2), (0, .ref (q 0)), (1, .int tag), (2, .int what)]) (by decide) rfl dX9_act_59 ?_
              refine aw_aload_n X (pc := 61) 2 rfl rfl dX9_act_61 ?_
              refine aw_iload_n X (pc := 62) 3 rfl rfl dX9_act_62 ?_
              refine aw_iload_n X (pc := 63) 1 rfl rfl dX9_act_63 ?_
              refine aw_callVF X (pc := 64) (q1 := 0) (rest := []) (st' := [.int (a (300 + 6 * tag.toNatClampNeg + 2))]) (c_X9_of l D q kc a w hs inn sp lone lt lz dr tag 2 tag.toNatClampNeg 2 ht2 rfl (by omega)) rfl rfl ⟨_, _, rfl⟩ rfl cf_X9_44 cd_X9_of dd_X9_of (by decide) (by decide) (by decide) rfl (Nat.le_of_ble_eq_true rfl) dX9_act_64 rfl ?_
              refine aw_iload X (pc := 67) 0 rfl dX9_act_67 ?_
              refine aw_icmp_ne X (pc := 69) (tgt := 74) (by decide) dX9_act_69 (fun c26 => ?_) (fun c26 => ?_)
              · refine aw_aload_n X (pc := 74) 2 rfl rfl dX9_act_74 ?_
                refine aw_iload_n X (pc := 75) 3 rfl rfl dX9_act_75 ?_
                refine aw_iload_n X (pc := 76) 1 rfl rfl dX9_act_76 ?_
                refine aw_iload X (pc := 77) 0 rfl dX9_act_77 ?_
                refine aw_callVF X (pc := 79) (q1 := 0) (rest := []) (st' := []) (c_X9_sets l D q kc a w hs inn sp lone lt lz dr tag 2 tag.toNatClampNeg 2 1 ht2 rfl (by omega)) rfl rfl ⟨_, _, rfl⟩ rfl cf_X9_52 cd_X9_sets dd_X9_sets (by decide) (by decide) (by decide) rfl (Nat.le_of_ble_eq_true rfl) dX9_act_79 rfl ?_
                have ha27 : (upd a (300 + 6 * tag.toNatClampNeg + 2) 1) 0 = nI n := by rw [pk_un (by omega)]; exact ha0
                refine aw_iconst X (pc := 82) (v := 1) dX9_act_82 (by decide) ?_
                exact aw_zret X (v := 1) rfl hQ (by simp only [r_X9_act, if_neg c1, if_neg c4, if_pos c5, if_pos c23, if_pos c24, if_pos c25, if_neg c26]; try rfl) (by simp only [u_X9_act_a, if_neg c1, if_neg c4, if_pos c5, if_pos c23, if_pos c24, if_pos c25, if_neg c26]) dX9_act_83
              · refine aw_iconst X (pc := 72) (v := 0) dX9_act_72 (by decide) ?_
                exact aw_zret X (v := 0) rfl hQ (by simp only [r_X9_act, if_neg c1, if_neg c4, if_pos c5, if_pos c23, if_pos c24, if_pos c25, if_pos c26]; try rfl) (by simp only [u_X9_act_a, if_neg c1, if_neg c4, if_pos c5, if_pos c23, if_pos c24, if_pos c25, if_pos c26]) dX9_act_73
            · refine aw_iload_n X (pc := 49) 3 rfl rfl dX9_act_49 ?_
              refine aw_iconst X (pc := 50) (v := 2) dX9_act_50 (by decide) ?_
              refine aw_icmp_ne X (pc := 51) (tgt := 58) (by decide) dX9_act_51 (fun c28 => ?_) (fun c28 => ?_)
              · refine aw_iconst X (pc := 58) (v := 0) dX9_act_58 (by decide) ?_
                refine aw_istore X (pc := 59) (lv' := [(4, .int 0), (3, .int 2), (0, .ref (q 0)), (1, .int tag), (2, .int what)]) (by decide) rfl dX9_act_59 ?_
                refine aw_aload_n X (pc := 61) 2 rfl rfl dX9_act_61 ?_
                refine aw_iload_n X (pc := 62) 3 rfl rfl dX9_act_62 ?_
                refine aw_iload_n X (pc := 63) 1 rfl rfl dX9_act_63 ?_
                refine aw_callVF X (pc := 64) (q1 := 0) (rest := []) (st' := [.int (a (300 + 6 * tag.toNatClampNeg + 2))]) (c_X9_of l D q kc a w hs inn sp lone lt lz dr tag 2 tag.toNatClampNeg 2 ht2 rfl (by omega)) rfl rfl ⟨_, _, rfl⟩ rfl cf_X9_44 cd_X9_of dd_X9_of (by decide) (by decide) (by decide) rfl (Nat.le_of_ble_eq_true rfl) dX9_act_64 rfl ?_
                refine aw_iload X (pc := 67) 0 rfl dX9_act_67 ?_
                refine aw_icmp_ne X (pc := 69) (tgt := 74) (by decide) dX9_act_69 (fun c29 => ?_) (fun c29 => ?_)
                · refine aw_aload_n X (pc := 74) 2 rfl rfl dX9_act_74 ?_
                  refine aw_iload_n X (pc := 75) 3 rfl rfl dX9_act_75 ?_
                  refine aw_iload_n X (pc := 76) 1 rfl rfl dX9_act_76 ?_
                  refine aw_iload X (pc := 77) 0 rfl dX9_act_77 ?_
                  refine aw_callVF X (pc := 79) (q1 := 0) (rest := []) (st' := []) (c_X9_sets l D q kc a w hs inn sp lone lt lz dr tag 2 tag.toNatClampNeg 2 0 ht2 rfl (by omega)) rfl rfl ⟨_, _, rfl⟩ rfl cf_X9_52 cd_X9_sets dd_X9_sets (by decide) (by decide) (by decide) rfl (Nat.le_of_ble_eq_true rfl) dX9_act_79 rfl ?_
                  have ha30 : (upd a (300 + 6 * tag.toNatClampNeg + 2) 0) 0 = nI n := by rw [pk_un (by omega)]; exact ha0
                  refine aw_iconst X (pc := 82) (v := 1) dX9_act_82 (by decide) ?_
                  exact aw_zret X (v := 1) rfl hQ (by simp only [r_X9_act, if_neg c1, if_neg c4, if_pos c5, if_pos c23, if_pos c24, if_neg c25, if_neg c28, if_neg c29]; try rfl) (by simp only [u_X9_act_a, if_neg c1, if_neg c4, if_pos c5, if_pos c23, if_pos c24, if_neg c25, if_neg c28, if_neg c29]) dX9_act_83
                · refine aw_iconst X (pc := 72) (v := 0) dX9_act_72 (by decide) ?_
                  exact aw_zret X (v := 0) rfl hQ (by simp only [r_X9_act, if_neg c1, if_neg c4, if_pos c5, if_pos c23, if_pos c24, if_neg c25, if_neg c28, if_pos c29]; try rfl) (by simp only [u_X9_act_a, if_neg c1, if_neg c4, if_pos c5, if_pos c23, if_pos c24, if_neg c25, if_neg c28, if_pos c29]) dX9_act_73
              · refine aw_iconst X (pc := 54) (v := 1) dX9_act_54 (by decide) ?_
                refine aw_goto X (pc := 55) (tgt := 59) (by decide) dX9_act_55 ?_
                refine aw_istore X (pc := 59) (lv' := [(4, .int 1), (3, .int 2), (0, .ref (q 0)), (1, .int tag), (2, .int what)]) (by decide) rfl dX9_act_59 ?_
                refine aw_aload_n X (pc := 61) 2 rfl rfl dX9_act_61 ?_
                refine aw_iload_n X (pc := 62) 3 rfl rfl dX9_act_62 ?_
                refine aw_iload_n X (pc := 63) 1 rfl rfl dX9_act_63 ?_
                refine aw_callVF X (pc := 64) (q1 := 0) (rest := []) (st' := [.int (a (300 + 6 * tag.toNatClampNeg + 2))]) (c_X9_of l D q kc a w hs inn sp lone lt lz dr tag 2 tag.toNatClampNeg 2 ht2 rfl (by omega)) rfl rfl ⟨_, _, rfl⟩ rfl cf_X9_44 cd_X9_of dd_X9_of (by decide) (by decide) (by decide) rfl (Nat.le_of_ble_eq_true rfl) dX9_act_64 rfl ?_
                refine aw_iload X (pc := 67) 0 rfl dX9_act_67 ?_
                refine aw_icmp_ne X (pc := 69) (tgt := 74) (by decide) dX9_act_69 (fun c31 => ?_) (fun c31 => ?_)
                · refine aw_aload_n X (pc := 74) 2 rfl rfl dX9_act_74 ?_
                  refine aw_iload_n X (pc := 75) 3 rfl rfl dX9_act_75 ?_
                  refine aw_iload_n X (pc := 76) 1 rfl rfl dX9_act_76 ?_
                  refine aw_iload X (pc := 77) 0 rfl dX9_act_77 ?_
                  refine aw_callVF X (pc := 79) (q1 := 0) (rest := []) (st' := []) (c_X9_sets l D q kc a w hs inn sp lone lt lz dr tag 2 tag.toNatClampNeg 2 1 ht2 rfl (by omega)) rfl rfl ⟨_, _, rfl⟩ rfl cf_X9_52 cd_X9_sets dd_X9_sets (by decide) (by decide) (by decide) rfl (Nat.le_of_ble_eq_true rfl) dX9_act_79 rfl ?_
                  have ha32 : (upd a (300 + 6 * tag.toNatClampNeg + 2) 1) 0 = nI n := by rw [pk_un (by omega)]; exact ha0
                  refine aw_iconst X (pc := 82) (v := 1) dX9_act_82 (by decide) ?_
                  exact aw_zret X (v := 1) rfl hQ (by simp only [r_X9_act, if_neg c1, if_neg c4, if_pos c5, if_pos c23, if_pos c24, if_neg c25, if_pos c28, if_neg c31]; try rfl) (by simp only [u_X9_act_a, if_neg c1, if_neg c4, if_pos c5, if_pos c23, if_pos c24, if_neg c25, if_pos c28, if_neg c31]) dX9_act_83
                · refine aw_iconst X (pc := 72) (v := 0) dX9_act_72 (by decide) ?_
                  exact aw_zret X (v := 0) rfl hQ (by simp only [r_X9_act, if_neg c1, if_neg c4, if_pos c5, if_pos c23, if_pos c24, if_neg c25, if_pos c28, if_pos c31]; try rfl) (by simp only [u_X9_act_a, if_neg c1, if_neg c4, if_pos c5, if_pos c23, if_pos c24, if_neg c25, if_pos c28, if_pos c31]) dX9_act_73
          · refine aw_iconst X (pc := 38) (v := 1) dX9_act_38 (by decide) ?_
            refine aw_goto X (pc := 39) (tgt := 43) (by decide) dX9_act_39 ?_
            refine aw_istore_n X (pc := 43) (lv' := [(3, .int 1), (0, .ref (q 0)), (1, .int tag), (2, .int what)]) rfl (by decide) rfl dX9_act_43 ?_
            refine aw_iload_n X (pc := 44) 3 rfl rfl dX9_act_44 ?_
            refine aw_iconst X (pc := 45) (v := 1) dX9_act_45 (by decide) ?_
            refine aw_icmp_eq X (pc := 46) (tgt := 54) (by decide) dX9_act_46 (fun c33 => ?_) (fun c33 => ?_)
            · refine aw_iconst X (pc := 54) (v := 1) dX9_act_54 (by decide) ?_
              refine aw_goto X (pc := 55) (tgt := 59) (by decide) dX9_act_55 ?_
              refine aw_istore X (pc := 59) (lv' := [(4, .int 1), (3, .int 1), (0, .ref (q 0)), (1, .int tag), (2, .int what)]) (by decide) rfl dX9_act_59 ?_
              refine aw_aload_n X (pc := 61) 2 rfl rfl dX9_act_61 ?_
              refine aw_iload_n X (pc := 62) 3 rfl rfl dX9_act_62 ?_
              refine aw_iload_n X (pc := 63) 1 rfl rfl dX9_act_63 ?_
              refine aw_callVF X (pc := 64) (q1 := 0) (rest := []) (st' := [.int (a (300 + 6 * tag.toNatClampNeg + 1))]) (c_X9_of l D q kc a w hs inn sp lone lt lz dr tag 1 tag.toNatClampNeg 1 ht2 rfl (by omega)) rfl rfl ⟨_, _, rfl⟩ rfl cf_X9_44 cd_X9_of dd_X9_of (by decide) (by decide) (by decide) rfl (Nat.le_of_ble_eq_true rfl) dX9_act_64 rfl ?_
              refine aw_iload X (pc := 67) 0 rfl dX9_act_67 ?_
              refine aw_icmp_ne X (pc := 69) (tgt := 74) (by decide) dX9_act_69 (fun c34 => ?_) (fun c34 => ?_)
              · refine aw_aload_n X (pc := 74) 2 rfl rfl dX9_act_74 ?_
                refine aw_iload_n X (pc := 75) 3 rfl rfl dX9_act_75 ?_
                refine aw_iload_n X (pc := 76) 1 rfl rfl dX9_act_76 ?_
                refine aw_iload X (pc := 77) 0 rfl dX9_act_77 ?_
                refine aw_callVF X (pc := 79) (q1 := 0) (rest := []) (st' := []) (c_X9_sets l D q kc a w hs inn sp lone lt lz dr tag 1 tag.toNatClampNeg 1 1 ht2 rfl (by omega)) rfl rfl ⟨_, _, rfl⟩ rfl cf_X9_52 cd_X9_sets dd_X9_sets (by decide) (by decide) (by decide) rfl (Nat.le_of_ble_eq_true rfl) dX9_act_79 rfl ?_
                have ha35 : (upd a (300 + 6 * tag.toNatClampNeg + 1) 1) 0 = nI n := by rw [pk_un (by omega)]; exact ha0
                refine aw_iconst X (pc := 82) (v := 1) dX9_act_82 (by decide) ?_
                exact aw_zret X (v := 1) rfl hQ (by simp only [r_X9_act, if_neg c1, if_neg c4, if_pos c5, if_pos c23, if_neg c24, if_pos c33, if_neg c34]; try rfl) (by simp only [u_X9_act_a, if_neg c1, if_neg c4, if_pos c5, if_pos c23, if_neg c24, if_pos c33, if_neg c34]) dX9_act_83
              · refine aw_iconst X (pc := 72) (v := 0) dX9_act_72 (by decide) ?_
                exact aw_zret X (v := 0) rfl hQ (by simp only [r_X9_act, if_neg c1, if_neg c4, if_pos c5, if_pos c23, if_neg c24, if_pos c33, if_pos c34]; try rfl) (by simp only [u_X9_act_a, if_neg c1, if_neg c4, if_pos c5, if_pos c23, if_neg c24, if_pos c33, if_pos c34]) dX9_act_73
            · refine aw_iload_n X (pc := 49) 3 rfl rfl dX9_act_49 ?_
              refine aw_iconst X (pc := 50) (v := 2) dX9_act_50 (by decide) ?_
              refine aw_icmp_ne X (pc := 51) (tgt := 58) (by decide) dX9_act_51 (fun c36 => ?_) (fun c36 => ?_)
              · refine aw_iconst X (pc := 58) (v := 0) dX9_act_58 (by decide) ?_
                refine aw_istore X (pc := 59) (lv' := [(4, .int 0), (3, .int 1), (0, .ref (q 0)), (1, .int tag), (2, .int what)]) (by decide) rfl dX9_act_59 ?_
                refine aw_aload_n X (pc := 61) 2 rfl rfl dX9_act_61 ?_
                refine aw_iload_n X (pc := 62) 3 rfl rfl dX9_act_62 ?_
                refine aw_iload_n X (pc := 63) 1 rfl rfl dX9_act_63 ?_
                refine aw_callVF X (pc := 64) (q1 := 0) (rest := []) (st' := [.int (a (300 + 6 * tag.toNatClampNeg + 1))]) (c_X9_of l D q kc a w hs inn sp lone lt lz dr tag 1 tag.toNatClampNeg 1 ht2 rfl (by omega)) rfl rfl ⟨_, _, rfl⟩ rfl cf_X9_44 cd_X9_of dd_X9_of (by decide) (by decide) (by decide) rfl (Nat.le_of_ble_eq_true rfl) dX9_act_64 rfl ?_
                refine aw_iload X (pc := 67) 0 rfl dX9_act_67 ?_
                refine aw_icmp_ne X (pc := 69) (tgt := 74) (by decide) dX9_act_69 (fun c37 => ?_) (fun c37 => ?_)
                · refine aw_aload_n X (pc := 74) 2 rfl rfl dX9_act_74 ?_
                  refine aw_iload_n X (pc := 75) 3 rfl rfl dX9_act_75 ?_
                  refine aw_iload_n X (pc := 76) 1 rfl rfl dX9_act_76 ?_
                  refine aw_iload X (pc := 77) 0 rfl dX9_act_77 ?_
                  refine aw_callVF X (pc := 79) (q1 := 0) (rest := []) (st' := []) (c_X9_sets l D q kc a w hs inn sp lone lt lz dr tag 1 tag.toNatClampNeg 1 0 ht2 rfl (by omega)) rfl rfl ⟨_, _, rfl⟩ rfl cf_X9_52 cd_X9_sets dd_X9_sets (by decide) (by decide) (by decide) rfl (Nat.le_of_ble_eq_true rfl) dX9_act_79 rfl ?_
                  have ha38 : (upd a (300 + 6 * tag.toNatClampNeg + 1) 0) 0 = nI n := by rw [pk_un (by omega)]; exact ha0
                  refine aw_iconst X (pc := 82) (v := 1) dX9_act_82 (by decide) ?_
                  exact aw_zret X (v := 1) rfl hQ (by simp only [r_X9_act, if_neg c1, if_neg c4, if_pos c5, if_pos c23, if_neg c24, if_neg c33, if_neg c36, if_neg c37]; try rfl) (by simp only [u_X9_act_a, if_neg c1, if_neg c4, if_pos c5, if_pos c23, if_neg c24, if_neg c33, if_neg c36, if_neg c37]) dX9_act_83
                · refine aw_iconst X (pc := 72) (v := 0) dX9_act_72 (by decide) ?_
                  exact aw_zret X (v := 0) rfl hQ (by simp only [r_X9_act, if_neg c1, if_neg c4, if_pos c5, if_pos c23, if_neg c24, if_neg c33, if_neg c36, if_pos c37]; try rfl) (by simp only [u_X9_act_a, if_neg c1, if_neg c4, if_pos c5, if_pos c23, if_neg c24, if_neg c33, if_neg c36, if_pos c37]) dX9_act_73
              · refine aw_iconst X (pc := 54) (v := 1) dX9_act_54 (by decide) ?_
                refine aw_goto X (pc := 55) (tgt := 59) (by decide) dX9_act_55 ?_
                refine aw_istore X (pc := 59) (lv' := [(4, .int 1), (3, .int 1), (0, .ref (q 0)), (1, .int tag), (2, .int what)]) (by decide) rfl dX9_act_59 ?_
                refine aw_aload_n X (pc := 61) 2 rfl rfl dX9_act_61 ?_
                refine aw_iload_n X (pc := 62) 3 rfl rfl dX9_act_62 ?_
                refine aw_iload_n X (pc := 63) 1 rfl rfl dX9_act_63 ?_
                refine aw_callVF X (pc := 64) (q1 := 0) (rest := []) (st' := [.int (a (300 + 6 * tag.toNatClampNeg + 1))]) (c_X9_of l D q kc a w hs inn sp lone lt lz dr tag 1 tag.toNatClampNeg 1 ht2 rfl (by omega)) rfl rfl ⟨_, _, rfl⟩ rfl cf_X9_44 cd_X9_of dd_X9_of (by decide) (by decide) (by decide) rfl (Nat.le_of_ble_eq_true rfl) dX9_act_64 rfl ?_
                refine aw_iload X (pc := 67) 0 rfl dX9_act_67 ?_
                refine aw_icmp_ne X (pc := 69) (tgt := 74) (by decide) dX9_act_69 (fun c39 => ?_) (fun c39 => ?_)
                · refine aw_aload_n X (pc := 74) 2 rfl rfl dX9_act_74 ?_
                  refine aw_iload_n X (pc := 75) 3 rfl rfl dX9_act_75 ?_
                  refine aw_iload_n X (pc := 76) 1 rfl rfl dX9_act_76 ?_
                  refine aw_iload X (pc := 77) 0 rfl dX9_act_77 ?_
                  refine aw_callVF X (pc := 79) (q1 := 0) (rest := []) (st' := []) (c_X9_sets l D q kc a w hs inn sp lone lt lz dr tag 1 tag.toNatClampNeg 1 1 ht2 rfl (by omega)) rfl rfl ⟨_, _, rfl⟩ rfl cf_X9_52 cd_X9_sets dd_X9_sets (by decide) (by decide) (by decide) rfl (Nat.le_of_ble_eq_true rfl) dX9_act_79 rfl ?_
                  have ha40 : (upd a (300 + 6 * tag.toNatClampNeg + 1) 1) 0 = nI n := by rw [pk_un (by omega)]; exact ha0
                  refine aw_iconst X (pc := 82) (v := 1) dX9_act_82 (by decide) ?_
                  exact aw_zret X (v := 1) rfl hQ (by simp only [r_X9_act, if_neg c1, if_neg c4, if_pos c5, if_pos c23, if_neg c24, if_neg c33, if_pos c36, if_neg c39]; try rfl) (by simp only [u_X9_act_a, if_neg c1, if_neg c4, if_pos c5, if_pos c23, if_neg c24, if_neg c33, if_pos c36, if_neg c39]) dX9_act_83
                · refine aw_iconst X (pc := 72) (v := 0) dX9_act_72 (by decide) ?_
                  exact aw_zret X (v := 0) rfl hQ (by simp only [r_X9_act, if_neg c1, if_neg c4, if_pos c5, if_pos c23, if_neg c24, if_neg c33, if_pos c36, if_pos c39]; try rfl) (by simp only [u_X9_act_a, if_neg c1, if_neg c4, if_pos c5, if_pos c23, if_neg c24, if_neg c33, if_pos c36, if_pos c39]) dX9_act_73
        · refine aw_iconst X (pc := 31) (v := 0) dX9_act_31 (by decide) ?_
          exact aw_zret X (v := 0) rfl hQ (by simp only [r_X9_act, if_neg c1, if_neg c4, if_pos c5, if_neg c23]; try rfl) (by simp only [u_X9_act_a, if_neg c1, if_neg c4, if_pos c5, if_neg c23]) dX9_act_32

def r_X9_group (a : Nat → Int32) (w : Nat → Int64) (n : Nat) (mask : Int64) (bits : Int64) : Int32 := (lpF (b_X9_listening_4 a (vp_updL (vp_updL w 0 mask) 1 bits)) n 0 0)
abbrev rm_X9_group : Room := { frames := 3, cells := 0, slots := 0, locals := 65 }
set_option maxHeartbeats 400000 in
set_option maxRecDepth 100000 in
theorem c_X9_group (l : Launch) (D : va_G) (q : Nat → Nat) (kc : Nat → ClassId) (a : Nat → Int32) (w : Nat → Int64) (hs : Nat → Int32) (inn : Nat → Int32) (sp : Nat → Int32) (lone : Int32) (lt : Nat → Int64) (lz : Nat → Int32) (dr : Nat → Int32) (n : Nat) (mask : Int64) (bits : Int64) (ha0 : a 0 = nI n) (hn : n ≤ 40) : MW l D yX9_group (Cond.code yX9_group cX9_group 5 (some .int) :: TT) rm_X9_group [.ref (q 0), .long mask, .long bits] [(kc 1, .int), (kc 2, .long), (kc 3, .boolean), (kc 4, .boolean), (kc 5, .boolean), (kc 6, .long), (kc 7, .int), (kc 8, .int)] (mW q kc a w hs inn sp lone lt lz dr) (some (.int (r_X9_group a w n mask bits))) (mW q kc a (vp_updL (vp_updL w 0 mask) 1 bits) hs inn sp lone lt lz dr) := by
  refine MW.of (cc := cX9_group) (nL := 5) (ret := (some .int)) (lv := [(0, .ref (q 0)), (1, .long mask), (3, .long bits)]) (by decide) ((mW_ad ..).trans (mW_ad ..).symm) rfl (Nat.le_of_ble_eq_true rfl) ?_
  intro p e s m args below meth c A Q hQ X
  refine aw_aload_n X (pc := 0) 0 rfl rfl dX9_group_0 ?_
  refine aw_get X (pc := 1) iX9 0 1 rfl rfl (by decide) fl_X9_13 rfl dX9_group_1 ?_
  refine aw_iconst X (pc := 4) (v := 0) dX9_group_4 (by decide) ?_
  refine aw_lload_n X (pc := 5) 1 rfl rfl dX9_group_5 ?_
  refine aw_last X (pc := 6) 2 1 (ws' := (mW q kc a (vp_updL w 0 mask) hs inn sp lone lt lz dr)) 0 rfl  rfl rfl (by decide) (by omega) rfl dX9_group_6 ?_
  refine aw_aload_n X (pc := 7) 0 rfl rfl dX9_group_7 ?_
  refine aw_get X (pc := 8) iX9 0 1 rfl rfl (by decide) fl_X9_13 rfl dX9_group_8 ?_
  refine aw_iconst X (pc := 11) (v := 1) dX9_group_11 (by decide) ?_
  refine aw_lload_n X (pc := 12) 2 rfl rfl dX9_group_12 ?_
  refine aw_last X (pc := 13) 2 1 (ws' := (mW q kc a (vp_updL (vp_updL w 0 mask) 1 bits) hs inn sp lone lt lz dr)) 1 rfl  rfl rfl (by decide) (by omega) rfl dX9_group_13 ?_
  refine aw_aload_n X (pc := 14) 0 rfl rfl dX9_group_14 ?_
  refine aw_callVF X (pc := 15) (q1 := 0) (rest := []) (st' := [.int (lpF (b_X9_listening_4 a (vp_updL (vp_updL w 0 mask) 1 bits)) n 0 0)]) (c_X9_listening l D q kc a (vp_updL (vp_updL w 0 mask) 1 bits) hs inn sp lone lt lz dr n ha0 (by omega)) rfl rfl ⟨_, _, rfl⟩ rfl cf_X9_65 cd_X9_listening dd_X9_listening (by decide) (by decide) (by decide) rfl (Nat.le_of_ble_eq_true rfl) dX9_group_15 rfl ?_
  exact aw_iret X (v := (lpF (b_X9_listening_4 a (vp_updL (vp_updL w 0 mask) 1 bits)) n 0 0)) hQ rfl rfl dX9_group_18

def fN (f : Nat) : Nat := if f = 200 then 200 else f + 1
theorem fN_le {f : Nat} (h : f ≤ 200) : fN f ≤ 200 := by unfold fN; split <;> omega

def u_X9_finds_a (a : Nat → Int32) (f : Nat) (t : Int32) : Nat → Int32 := if a 15 = 200 then a else (upd (upd a (100 + f) t) 15 (nI (f + 1)))
abbrev rm_X9_finds : Room := { frames := 0, cells := 0, slots := 0, locals := 0 }
set_option maxHeartbeats 400000 in
set_option maxRecDepth 100000 in
theorem c_X9_finds (l : Launch) (D : va_G) (q : Nat → Nat) (kc : Nat → ClassId) (a : Nat → Int32) (w : Nat → Int64) (hs : Nat → Int32) (inn : Nat → Int32) (sp : Nat → Int32) (lone : Int32) (lt : Nat → Int64) (lz : Nat → Int32) (dr : Nat → Int32) (f : Nat) (t : Int32) (ha15 : a 15 = nI f) (hf : f ≤ 200) : MW l D yX9_finds (Cond.code yX9_finds cX9_finds 2 none :: TT) rm_X9_finds [.ref (q 0), .int t] [(kc 1, .int), (kc 2, .long), (kc 3, .boolean), (kc 4, .boolean), (kc 5, .boolean), (kc 6, .long), (kc 7, .int), (kc 8, .int)] (mW q kc a w hs inn sp lone lt lz dr) none (mW q kc (u_X9_finds_a a f t) w hs inn sp lone lt lz dr) := by
  refine MW.of (cc := cX9_finds) (nL := 2) (ret := none) (lv := [(0, .ref (q 0)), (1, .int t)]) (by decide) ((mW_ad ..).trans (mW_ad ..).symm) rfl (Nat.le_of_ble_eq_true rfl) ?_
  intro p e s m args below meth c A Q hQ X
  refine aw_aload_n X (pc := 0) 0 rfl rfl dX9_finds_0 ?_
  refine aw_get X (pc := 1) iX9 0 0 rfl rfl (by decide) fl_X9_7 rfl dX9_finds_1 ?_
  refine aw_bipush X (pc := 4) (v := 15) dX9_finds_4 (by decide) ?_
  refine aw_iald X (pc := 6) 1 0 15 rfl rfl rfl (by decide) (by omega) dX9_finds_6 ?_
  refine aw_sipush X (pc := 7) (v := 200) dX9_finds_7 (by decide) ?_
  refine aw_icmp_ne X (pc := 10) (tgt := 14) (by decide) dX9_finds_10 (fun c1 => ?_) (fun c1 => ?_)
  · have hf200 : f ≠ 200 := fun z => c1 (by rw [ha15, z]; rfl)
    refine aw_aload_n X (pc := 14) 0 rfl rfl dX9_finds_14 ?_
    refine aw_get X (pc := 15) iX9 0 0 rfl rfl (by decide) fl_X9_7 rfl dX9_finds_15 ?_
    refine aw_bipush X (pc := 18) (v := 100) dX9_finds_18 (by decide) ?_
    refine aw_aload_n X (pc := 20) 0 rfl rfl dX9_finds_20 ?_
    refine aw_get X (pc := 21) iX9 0 0 rfl rfl (by decide) fl_X9_7 rfl dX9_finds_21 ?_
    refine aw_bipush X (pc := 24) (v := 15) dX9_finds_24 (by decide) ?_
    refine aw_iald X (pc := 26) 1 0 15 rfl rfl rfl (by decide) (by omega) dX9_finds_26 ?_
    refine aw_iadd X (pc := 27) (z := nI (100 + f)) (nn_add (a := 100) (b := f) rfl ha15 (by first | rfl | omega))  dX9_finds_27 ?_
    refine aw_iload_n X (pc := 28) 1 rfl rfl dX9_finds_28 ?_
    refine aw_iast X (pc := 29) 1 0 (ws' := (mW q kc (upd a (100 + f) t) w hs inn sp lone lt lz dr)) (100 + f) rfl  rfl rfl (by decide) (by omega) rfl dX9_finds_29 ?_
    have ha2 : (upd a (100 + f) t) 15 = nI f := by rw [pk_un (by omega)]; exact ha15
    refine aw_aload_n X (pc := 30) 0 rfl rfl dX9_finds_30 ?_
    refine aw_get X (pc := 31) iX9 0 0 rfl rfl (by decide) fl_X9_7 rfl dX9_finds_31 ?_
    refine aw_bipush X (pc := 34) (v := 15) dX9_finds_34 (by decide) ?_
    refine aw_dup2_11 X (pc := 36) dX9_finds_36 rfl rfl ?_
    refine aw_iald X (pc := 37) 1 0 15 rfl rfl rfl (by decide) (by omega) dX9_finds_37 ?_
    refine aw_iconst X (pc := 38) (v := 1) dX9_finds_38 (by decide) ?_
    refine aw_iadd X (pc := 39) (z := nI (f + 1)) (nn_add (a := f) (b := 1) ha2 rfl (by first | rfl | omega))  dX9_finds_39 ?_
    refine aw_iast X (pc := 40) 1 0 (ws' := (mW q kc (upd (upd a (100 + f) t) 15 (nI (f + 1))) w hs inn sp lone lt lz dr)) 15 rfl  rfl rfl (by decide) (by omega) rfl dX9_finds_40 ?_
    have ha3 : (upd (upd a (100 + f) t) 15 (nI (f + 1))) 15 = nI (f + 1) := pk_us.trans rfl
    exact aw_vret X hQ rfl (by simp only [u_X9_finds_a, if_neg c1]) dX9_finds_41
  · exact aw_vret X hQ rfl (by simp only [u_X9_finds_a, if_pos c1]) dX9_finds_13

theorem fr_X9_finds {a : Nat → Int32} {f : Nat} {t : Int32} {j : Nat} (h : j < 15) : u_X9_finds_a a f t j = a j := by
  unfold u_X9_finds_a
  split
  · rfl
  · rw [pk_un (by omega), pk_un (by omega)]
theorem fin_15 {a : Nat → Int32} {f : Nat} {t : Int32} (h : a 15 = nI f) (hf : f ≤ 200) : u_X9_finds_a a f t 15 = nI (fN f) := by
  unfold u_X9_finds_a fN
  by_cases h2 : f = 200
  · subst h2; rw [if_pos (by rw [h]; rfl), if_pos rfl, h]
  · rw [if_neg (nn_ne (y := 200) (b := 200) h rfl h2 (by omega) (by decide)), if_neg h2, pk_us]

def b_X9_allIn_2 (a : Nat → Int32) (w : Nat → Int64) (k : Nat) (σ : (Nat → Int32)) : (Nat → Int32) := (upd σ k (r_X9_listens a w k))
abbrev rm_X9_allIn : Room := { frames := 2, cells := 0, slots := 0, locals := 43 }
set_option maxHeartbeats 400000 in
set_option maxRecDepth 100000 in
theorem c_X9_allIn (l : Launch) (D : va_G) (q : Nat → Nat) (kc : Nat → ClassId) (a : Nat → Int32) (w : Nat → Int64) (hs : Nat → Int32) (inn : Nat → Int32) (sp : Nat → Int32) (lone : Int32) (lt : Nat → Int64) (lz : Nat → Int32) (dr : Nat → Int32) (n : Nat) (ha0 : a 0 = nI n) (hn : n ≤ 40) : MW l D yX9_allIn (Cond.code yX9_allIn cX9_allIn 2 none :: TT) rm_X9_allIn [.ref (q 0)] [(kc 1, .int), (kc 2, .long), (kc 3, .boolean), (kc 4, .boolean), (kc 5, .boolean), (kc 6, .long), (kc 7, .int), (kc 8, .int)] (mW q kc a w hs inn sp lone lt lz dr) none (mW q kc a w hs (lpF (b_X9_allIn_2 a w) n 0 inn) sp lone lt lz dr) := by
  refine MW.of (cc := cX9_allIn) (nL := 2) (ret := none) (lv := [(0, .ref (q 0))]) (by decide) ((mW_ad ..).trans (mW_ad ..).symm) rfl (Nat.le_of_ble_eq_true rfl) ?_
  intro p e s m args below meth c A Q hQ X
  refine aw_iconst X (pc := 0) (v := 0) dX9_allIn_0 (by decide) ?_
  refine aw_istore_n X (pc := 1) (lv' := [(1, .int 0), (0, .ref (q 0))]) rfl (by decide) rfl dX9_allIn_1 ?_
  have L1 : ∀ (n1 k : Nat) (iv : Nat → Int32), k + n1 = n → lpF (b_X9_allIn_2 a w) n1 k iv = lpF (b_X9_allIn_2 a w) n 0 inn → AW p l e rm_X9_allIn s m args below meth c D A 2 0 0 Q 2 [(1, .int (nI k)), (0, .ref (q 0))] [] (mW q kc a w hs iv sp lone lt lz dr) := by
    intro n1; induction n1 with
    | zero =>
      intro k iv hk1  hf1
      have hf1 : iv = lpF (b_X9_allIn_2 a w) n 0 inn := hf1
      refine aw_iload_n X (pc := 2) 0 rfl rfl dX9_allIn_2 ?_
      refine aw_aload_n X (pc := 3) 1 rfl rfl dX9_allIn_3 ?_
      refine aw_get X (pc := 4) iX9 0 0 rfl rfl (by decide) fl_X9_7 rfl dX9_allIn_4 ?_
      refine aw_iconst X (pc := 7) (v := 0) dX9_allIn_7 (by decide) ?_
      refine aw_iald X (pc := 8) 1 0 0 rfl rfl rfl (by decide) (by omega) dX9_allIn_8 ?_
      refine aw_icmp_ge X (pc := 9) (tgt := 29) (by decide) dX9_allIn_9 (fun c4 => ?_) (fun c4 => absurd (nn_le (a := n) (b := k) ha0 rfl (by omega) (by omega)) c4)
      exact aw_vret X hQ rfl (by simp only [← hf1]) dX9_allIn_29
    | succ n1 ih1 =>
      intro k iv hk1  hf1
      have hf1 : lpF (b_X9_allIn_2 a w) n1 (k + 1) (b_X9_allIn_2 a w k iv) = lpF (b_X9_allIn_2 a w) n 0 inn := hf1
      refine aw_iload_n X (pc := 2) 0 rfl rfl dX9_allIn_2 ?_
      refine aw_aload_n X (pc := 3) 1 rfl rfl dX9_allIn_3 ?_
      refine aw_get X (pc := 4) iX9 0 0 rfl rfl (by decide) fl_X9_7 rfl dX9_allIn_4 ?_
      refine aw_iconst X (pc := 7) (v := 0) dX9_allIn_7 (by decide) ?_
      refine aw_iald X (pc := 8) 1 0 0 rfl rfl rfl (by decide) (by omega) dX9_allIn_8 ?_
      refine aw_icmp_ge X (pc := 9) (tgt := 29) (by decide) dX9_allIn_9 (fun c2 => absurd c2 (nn_nle (a := n) (b := k) ha0 rfl (by omega) (by omega))) (fun c2 => ?_)
      refine aw_aload_n X (pc := 12) 1 rfl rfl dX9_allIn_12 ?_
      refine aw_get X (pc := 13) iX9 0 3 rfl rfl (by decide) fl_X9_21 rfl dX9_allIn_13 ?_
      refine aw_iload_n X (pc := 16) 0 rfl rfl dX9_allIn_16 ?_
      refine aw_aload_n X (pc := 17) 1 rfl rfl dX9_allIn_17 ?_
      refine aw_iload_n X (pc := 18) 0 rfl rfl dX9_allIn_18 ?_
      refine aw_callVF X (pc := 19) (q1 := 0) (rest := [.int (nI k), .ref (q 4)]) (st' := [.int (r_X9_listens a w k), .int (nI k), .ref (q 4)]) (c_X9_listens l D q kc a w hs iv sp lone lt lz dr (nI k) k rfl (by omega)) rfl rfl ⟨_, _, rfl⟩ rfl cf_X9_62 cd_X9_listens dd_X9_listens (by decide) (by decide) (by decide) rfl (Nat.le_of_ble_eq_true rfl) dX9_allIn_19 rfl ?_
      refine aw_zast X (pc := 22) 4 3 (ws' := (mW q kc a w hs (upd iv k (r_X9_listens a w k)) sp lone lt lz dr)) k rfl (nar_01 (z_X9_listens ..)) rfl rfl (by decide) (by omega) rfl dX9_allIn_22 ?_
      refine aw_iinc X (pc := 23) (kx := 0) (v := nI (k + 1)) (lv' := [(1, .int (nI (k + 1))), (0, .ref (q 0))]) rfl (nn_add (a := k) (b := 1) rfl rfl rfl) (by decide) rfl dX9_allIn_23 ?_
      refine aw_goto X (pc := 26) (tgt := 2) (by decide) dX9_allIn_26 ?_
      have e3 : b_X9_allIn_2 a w k iv = (upd iv k (r_X9_listens a w k)) := by first | rfl | simp only [b_X9_allIn_2]
      exact aw_sub (lv' := [(1, .int (nI (k + 1))), (0, .ref (q 0))]) [0, 1] rfl (ih1 (k + 1) (upd iv k (r_X9_listens a w k)) (by omega)  (by rw [← e3]; exact hf1))
  exact aw_sub (lv' := [(1, .int 0), (0, .ref (q 0))]) [0, 1] rfl (L1 n 0 inn (by omega)  rfl)

def b_X9_tellers_5 (w : Nat → Int64) (inn : Nat → Int32) (i : Int32) (bit : Int32) (k : Nat) (σ : Int32) : Int32 := if inn k = 0 then (σ + 0) else (if r_X9_bitOf (w (84 + k)) i = bit then (σ + 1) else (σ + 0))
def r_X9_tellers (w : Nat → Int64) (inn : Nat → Int32) (n : Nat) (i : Int32) (bit : Int32) : Int32 := (lpF (b_X9_tellers_5 w inn i bit) n 0 0)
abbrev rm_X9_tellers : Room := { frames := 1, cells := 0, slots := 0, locals := 22 }
set_option maxHeartbeats 400000 in
set_option maxRecDepth 100000 in
theorem c_X9_tellers (l : Launch) (D : va_G) (q : Nat → Nat) (kc : Nat → ClassId) (a : Nat → Int32) (w : Nat → Int64) (hs : Nat → Int32) (inn : Nat → Int32) (sp : Nat → Int32) (lone : Int32) (lt : Nat → Int64) (lz : Nat → Int32) (dr : Nat → Int32) (n : Nat) (i : Int32) (bit : Int32) (ha0 : a 0 = nI n) (hn : n ≤ 40) : MW l D yX9_tellers (Cond.code yX9_tellers cX9_tellers 5 (some .int) :: TT) rm_X9_tellers [.ref (q 0), .int i, .int bit] [(kc 1, .int), (kc 2, .long), (kc 3, .boolean), (kc 4, .boolean), (kc 5, .boolean), (kc 6, .long), (kc 7, .int), (kc 8, .int)] (mW q kc a w hs inn sp lone lt lz dr) (some (.int (r_X9_tellers w inn n i bit))) (mW q kc a w hs inn sp lone lt lz dr) := by
  refine MW.of (cc := cX9_tellers) (nL := 5) (ret := (some .int)) (lv := [(0, .ref (q 0)), (1, .int i), (2, .int bit)]) (by decide) rfl rfl (Nat.le_of_ble_eq_true rfl) ?_
  intro p e s m args below meth c A Q hQ X
  refine aw_iconst X (pc := 0) (v := 0) dX9_tellers_0 (by decide) ?_
  refine aw_istore_n X (pc := 1) (lv' := [(3, .int 0), (0, .ref (q 0)), (1, .int i), (2, .int bit)]) rfl (by decide) rfl dX9_tellers_1 ?_
  refine aw_iconst X (pc := 2) (v := 0) dX9_tellers_2 (by decide) ?_
  refine aw_istore X (pc := 3) (lv' := [(4, .int 0), (3, .int 0), (0, .ref (q 0)), (1, .int i), (2, .int bit)]) (by decide) rfl dX9_tellers_3 ?_
  have L1 : ∀ (n1 k : Nat) (ct : Int32), k + n1 = n → lpF (b_X9_tellers_5 w inn i bit) n1 k ct = lpF (b_X9_tellers_5 w inn i bit) n 0 0 → AW p l e rm_X9_tellers s m args below meth c D A 5 0 0 Q 5 [(4, .int (nI k)), (3, .int ct), (0, .ref (q 0)), (1, .int i), (2, .int bit)] [] (mW q kc a w hs inn sp lone lt lz dr) := by
    intro n1; induction n1 with
    | zero =>
      intro k ct hk1  hf1
      have hf1 : ct = lpF (b_X9_tellers_5 w inn i bit) n 0 0 := hf1
      refine aw_iload X (pc := 5) 0 rfl dX9_tellers_5 ?_
      refine aw_aload_n X (pc := 7) 2 rfl rfl dX9_tellers_7 ?_
      refine aw_get X (pc := 8) iX9 0 0 rfl rfl (by decide) fl_X9_7 rfl dX9_tellers_8 ?_
      refine aw_iconst X (pc := 11) (v := 0) dX9_tellers_11 (by decide) ?_
      refine aw_iald X (pc := 12) 1 0 0 rfl rfl rfl (by decide) (by omega) dX9_tellers_12 ?_
      refine aw_icmp_ge X (pc := 13) (tgt := 58) (by decide) dX9_tellers_13 (fun c8 => ?_) (fun c8 => absurd (nn_le (a := n) (b := k) ha0 rfl (by omega) (by omega)) c8)
      refine aw_iload_n X (pc := 58) 1 rfl rfl dX9_tellers_58 ?_
      exact aw_iret X (v := ct) hQ (by simp only [r_X9_tellers, ← hf1]; try rfl) rfl dX9_tellers_59
    | succ n1 ih1 =>
      intro k ct hk1  hf1
      have hf1 : lpF (b_X9_tellers_5 w inn i bit) n1 (k + 1) (b_X9_tellers_5 w inn i bit k ct) = lpF (b_X9_tellers_5 w inn i bit) n 0 0 := hf1
      refine aw_iload X (pc := 5) 0 rfl dX9_tellers_5 ?_
      refine aw_aload_n X (pc := 7) 2 rfl rfl dX9_tellers_7 ?_
      refine aw_get X (pc := 8) iX9 0 0 rfl rfl (by decide) fl_X9_7 rfl dX9_tellers_8 ?_
      refine aw_iconst X (pc := 11) (v := 0) dX9_tellers_11 (by decide) ?_
      refine aw_iald X (pc := 12) 1 0 0 rfl rfl rfl (by decide) (by omega) dX9_tellers_12 ?_
      refine aw_icmp_ge X (pc := 13) (tgt := 58) (by decide) dX9_tellers_13 (fun c2 => absurd c2 (nn_nle (a := n) (b := k) ha0 rfl (by omega) (by omega))) (fun c2 => ?_)
      refine aw_iload_n X (pc := 16) 1 rfl rfl dX9_tellers_16 ?_
      refine aw_aload_n X (pc := 17) 2 rfl rfl dX9_tellers_17 ?_
      refine aw_get X (pc := 18) iX9 0 3 rfl rfl (by decide) fl_X9_21 rfl dX9_tellers_18 ?_
      refine aw_iload X (pc := 21) 0 rfl dX9_tellers_21 ?_
      refine aw_zald X (pc := 23) 4 3 k rfl rfl rfl (by decide) (by omega) dX9_tellers_23 ?_
      refine aw_if_eq X (pc := 24) (tgt := 49) (by decide) dX9_tellers_24 (fun c3 => ?_) (fun c3 => ?_)
      · refine aw_iconst X (pc := 49) (v := 0) dX9_tellers_49 (by decide) ?_
        refine aw_iadd X (pc := 50) (z := ct + 0) rfl  dX9_tellers_50 ?_
        refine aw_istore_n X (pc := 51) (lv' := [(3, .int (ct + 0)), (4, .int (nI k)), (0, .ref (q 0)), (1, .int i), (2, .int bit)]) rfl (by decide) rfl dX9_tellers_51 ?_
        refine aw_iinc X (pc := 52) (kx := 1) (v := nI (k + 1)) (lv' := [(4, .int (nI (k + 1))), (3, .int (ct + 0)), (0, .ref (q 0)), (1, .int i), (2, .int bit)]) rfl (nn_add (a := k) (b := 1) rfl rfl rfl) (by decide) rfl dX9_tellers_52 ?_
        refine aw_goto X (pc := 55) (tgt := 5) (by decide) dX9_tellers_55 ?_
        have e4 : b_X9_tellers_5 w inn i bit k ct = (ct + 0) := by simp only [b_X9_tellers_5, if_pos c3]
        exact aw_sub (lv' := [(4, .int (nI (k + 1))), (3, .int (ct + 0)), (0, .ref (q 0)), (1, .int i), (2, .int bit)]) [0, 1, 2, 3, 4] rfl (ih1 (k + 1) (ct + 0) (by omega)  (by rw [← e4]; exact hf1))
      · refine aw_aload_n X (pc := 27) 2 rfl rfl dX9_tellers_27 ?_
        refine aw_get X (pc := 28) iX9 0 1 rfl rfl (by decide) fl_X9_13 rfl dX9_tellers_28 ?_
        refine aw_bipush X (pc := 31) (v := 84) dX9_tellers_31 (by decide) ?_
        refine aw_iload X (pc := 33) 0 rfl dX9_tellers_33 ?_
        refine aw_iadd X (pc := 35) (z := nI (84 + k)) (nn_add (a := 84) (b := k) rfl rfl (by first | rfl | omega))  dX9_tellers_35 ?_
        refine aw_lald X (pc := 36) 2 1 (84 + k) rfl rfl rfl (by decide) (by omega) dX9_tellers_36 ?_
        refine aw_iload_n X (pc := 37) 3 rfl rfl dX9_tellers_37 ?_
        refine aw_callS X (pc := 38) (rest := [.int ct]) (st' := [.int (r_X9_bitOf (w (84 + k)) i), .int ct]) (ws' := (mW q kc a w hs inn sp lone lt lz dr)) (c_X9_bitOf l D (w (84 + k)) i) rfl [] [] rfl (by decide +kernel) rfl rfl cf_X9_40 cd_X9_bitOf dd_X9_bitOf (by decide) (by decide) (by decide) rfl (Nat.le_of_ble_eq_true rfl) dX9_tellers_38 rfl ?_
        refine aw_iload_n X (pc := 41) 4 rfl rfl dX9_tellers_41 ?_
        refine aw_icmp_ne X (pc := 42) (tgt := 49) (by decide) dX9_tellers_42 (fun c5 => ?_) (fun c5 => ?_)
        · refine aw_iconst X (pc := 49) (v := 0) dX9_tellers_49 (by decide) ?_
          refine aw_iadd X (pc := 50) (z := ct + 0) rfl  dX9_tellers_50 ?_
          refine aw_istore_n X (pc := 51) (lv' := [(3, .int (ct + 0)), (4, .int (nI k)), (0, .ref (q 0)), (1, .int i), (2, .int bit)]) rfl (by decide) rfl dX9_tellers_51 ?_
          refine aw_iinc X (pc := 52) (kx := 1) (v := nI (k + 1)) (lv' := [(4, .int (nI (k + 1))), (3, .int (ct + 0)), (0, .ref (q 0)), (1, .int i), (2, .int bit)]) rfl (nn_add (a := k) (b := 1) rfl rfl rfl) (by decide) rfl dX9_tellers_52 ?_
          refine aw_goto X (pc := 55) (tgt := 5) (by decide) dX9_tellers_55 ?_
          have e6 : b_X9_tellers_5 w inn i bit k ct = (ct + 0) := by simp only [b_X9_tellers_5, if_neg c3, if_neg c5]
          exact aw_sub (lv' := [(4, .int (nI (k + 1))), (3, .int (ct + 0)), (0, .ref (q 0)), (1, .int i), (2, .int bit)]) [0, 1, 2, 3, 4] rfl (ih1 (k + 1) (ct + 0) (by omega)  (by rw [← e6]; exact hf1))
        · refine aw_iconst X (pc := 45) (v := 1) dX9_tellers_45 (by decide) ?_
          refine aw_goto X (pc := 46) (tgt := 50) (by decide) dX9_tellers_46 ?_
          refine aw_iadd X (pc := 50) (z := ct + 1) rfl  dX9_tellers_50 ?_
          refine aw_istore_n X (pc := 51) (lv' := [(3, .int (ct + 1)), (4, .int (nI k)), (0, .ref (q 0)), (1, .int i), (2, .int bit)]) rfl (by decide) rfl dX9_tellers_51 ?_
          refine aw_iinc X (pc := 52) (kx := 1) (v := nI (k + 1)) (lv' := [(4, .int (nI (k + 1))), (3, .int (ct + 1)), (0, .ref (q 0)), (1, .int i), (2, .int bit)]) rfl (nn_add (a := k) (b := 1) rfl rfl rfl) (by decide) rfl dX9_tellers_52 ?_
          refine aw_goto X (pc := 55) (tgt := 5) (by decide) dX9_tellers_55 ?_
          have e7 : b_X9_tellers_5 w inn i bit k ct = (ct + 1) := by simp only [b_X9_tellers_5, if_neg c3, if_pos c5]
          exact aw_sub (lv' := [(4, .int (nI (k + 1))), (3, .int (ct + 1)), (0, .ref (q 0)), (1, .int i), (2, .int bit)]) [0, 1, 2, 3, 4] rfl (ih1 (k + 1) (ct + 1) (by omega)  (by rw [← e7]; exact hf1))
  exact aw_sub (lv' := [(4, .int 0), (3, .int 0), (0, .ref (q 0)), (1, .int i), (2, .int bit)]) [0, 1, 2, 3, 4] rfl (L1 n 0 0 (by omega)  rfl)

def b_X9_goesOn_2 (w : Nat → Int64) (i : Int32) (bit : Int32) (k : Nat) (σ : (Nat → Int32)) : (Nat → Int32) := if σ k = 0 then (upd σ k 0) else (if r_X9_bitOf (w (84 + k)) i = bit then (upd σ k 1) else (upd σ k 0))
abbrev rm_X9_goesOn : Room := { frames := 1, cells := 0, slots := 0, locals := 22 }
set_option maxHeartbeats 400000 in
set_option maxRecDepth 100000 in
theorem c_X9_goesOn (l : Launch) (D : va_G) (q : Nat → Nat) (kc : Nat → ClassId) (a : Nat → Int32) (w : Nat → Int64) (hs : Nat → Int32) (inn : Nat → Int32) (sp : Nat → Int32) (lone : Int32) (lt : Nat → Int64) (lz : Nat → Int32) (dr : Nat → Int32) (n : Nat) (i : Int32) (bit : Int32) (ha0 : a 0 = nI n) (hn : n ≤ 40) : MW l D yX9_goesOn (Cond.code yX9_goesOn cX9_goesOn 4 none :: TT) rm_X9_goesOn [.ref (q 0), .int i, .int bit] [(kc 1, .int), (kc 2, .long), (kc 3, .boolean), (kc 4, .boolean), (kc 5, .boolean), (kc 6, .long), (kc 7, .int), (kc 8, .int)] (mW q kc a w hs inn sp lone lt lz dr) none (mW q kc a w hs (lpF (b_X9_goesOn_2 w i bit) n 0 inn) sp lone lt lz dr) := by
  refine MW.of (cc := cX9_goesOn) (nL := 4) (ret := none) (lv := [(0, .ref (q 0)), (1, .int i), (2, .int bit)]) (by decide) ((mW_ad ..).trans (mW_ad ..).symm) rfl (Nat.le_of_ble_eq_true rfl) ?_
  intro p e s m args below meth c A Q hQ X
  refine aw_iconst X (pc := 0) (v := 0) dX9_goesOn_0 (by decide) ?_
  refine aw_istore_n X (pc := 1) (lv' := [(3, .int 0), (0, .ref (q 0)), (1, .int i), (2, .int bit)]) rfl (by decide) rfl dX9_goesOn_1 ?_
  have L1 : ∀ (n1 k : Nat) (iv : Nat → Int32), k + n1 = n → lpF (b_X9_goesOn_2 w i bit) n1 k iv = lpF (b_X9_goesOn_2 w i bit) n 0 inn → AW p l e rm_X9_goesOn s m args below meth c D A 4 0 0 Q 2 [(3, .int (nI k)), (0, .ref (q 0)), (1, .int i), (2, .int bit)] [] (mW q kc a w hs iv sp lone lt lz dr) := by
    intro n1; induction n1 with
    | zero =>
      intro k iv hk1  hf1
      have hf1 : iv = lpF (b_X9_goesOn_2 w i bit) n 0 inn := hf1
      refine aw_iload_n X (pc := 2) 0 rfl rfl dX9_goesOn_2 ?_
      refine aw_aload_n X (pc := 3) 1 rfl rfl dX9_goesOn_3 ?_
      refine aw_get X (pc := 4) iX9 0 0 rfl rfl (by decide) fl_X9_7 rfl dX9_goesOn_4 ?_
      refine aw_iconst X (pc := 7) (v := 0) dX9_goesOn_7 (by decide) ?_
      refine aw_iald X (pc := 8) 1 0 0 rfl rfl rfl (by decide) (by omega) dX9_goesOn_8 ?_
      refine aw_icmp_ge X (pc := 9) (tgt := 55) (by decide) dX9_goesOn_9 (fun c8 => ?_) (fun c8 => absurd (nn_le (a := n) (b := k) ha0 rfl (by omega) (by omega)) c8)
      exact aw_vret X hQ rfl (by simp only [← hf1]) dX9_goesOn_55
    | succ n1 ih1 =>
      intro k iv hk1  hf1
      have hf1 : lpF (b_X9_goesOn_2 w i bit) n1 (k + 1) (b_X9_goesOn_2 w i bit k iv) = lpF (b_X9_goesOn_2 w i bit) n 0 inn := hf1
      refine aw_iload_n X (pc := 2) 0 rfl rfl dX9_goesOn_2 ?_
      refine aw_aload_n X (pc := 3) 1 rfl rfl dX9_goesOn_3 ?_
      refine aw_get X (pc := 4) iX9 0 0 rfl rfl (by decide) fl_X9_7 rfl dX9_goesOn_4 ?_
      refine aw_iconst X (pc := 7) (v := 0) dX9_goesOn_7 (by decide) ?_
      refine aw_iald X (pc := 8) 1 0 0 rfl rfl rfl (by decide) (by omega) dX9_goesOn_8 ?_
      refine aw_icmp_ge X (pc := 9) (tgt := 55) (by decide) dX9_goesOn_9 (fun c2 => absurd c2 (nn_nle (a := n) (b := k) ha0 rfl (by omega) (by omega))) (fun c2 => ?_)
      refine aw_aload_n X (pc := 12) 1 rfl rfl dX9_goesOn_12 ?_
      refine aw_get X (pc := 13) iX9 0 3 rfl rfl (by decide) fl_X9_21 rfl dX9_goesOn_13 ?_
      refine aw_iload_n X (pc := 16) 0 rfl rfl dX9_goesOn_16 ?_
      refine aw_aload_n X (pc := 17) 1 rfl rfl dX9_goesOn_17 ?_
      refine aw_get X (pc := 18) iX9 0 3 rfl rfl (by decide) fl_X9_21 rfl dX9_goesOn_18 ?_
      refine aw_iload_n X (pc := 21) 0 rfl rfl dX9_goesOn_21 ?_
      refine aw_zald X (pc := 22) 4 3 k rfl rfl rfl (by decide) (by omega) dX9_goesOn_22 ?_
      refine aw_if_eq X (pc := 23) (tgt := 47) (by decide) dX9_goesOn_23 (fun c3 => ?_) (fun c3 => ?_)
      · refine aw_iconst X (pc := 47) (v := 0) dX9_goesOn_47 (by decide) ?_
        refine aw_zast X (pc := 48) 4 3 (ws' := (mW q kc a w hs (upd iv k 0) sp lone lt lz dr)) k rfl (nar_01 (by decide)) rfl rfl (by decide) (by omega) rfl dX9_goesOn_48 ?_
        refine aw_iinc X (pc := 49) (kx := 0) (v := nI (k + 1)) (lv' := [(3, .int (nI (k + 1))), (0, .ref (q 0)), (1, .int i), (2, .int bit)]) rfl (nn_add (a := k) (b := 1) rfl rfl rfl) (by decide) rfl dX9_goesOn_49 ?_
        refine aw_goto X (pc := 52) (tgt := 2) (by decide) dX9_goesOn_52 ?_
        have e4 : b_X9_goesOn_2 w i bit k iv = (upd iv k 0) := by simp only [b_X9_goesOn_2, if_pos c3]
        exact aw_sub (lv' := [(3, .int (nI (k + 1))), (0, .ref (q 0)), (1, .int i), (2, .int bit)]) [0, 1, 2, 3] rfl (ih1 (k + 1) (upd iv k 0) (by omega)  (by rw [← e4]; exact hf1))
      · refine aw_aload_n X (pc := 26) 1 rfl rfl dX9_goesOn_26 ?_
        refine aw_get X (pc := 27) iX9 0 1 rfl rfl (by decide) fl_X9_13 rfl dX9_goesOn_27 ?_
        refine aw_bipush X (pc := 30) (v := 84) dX9_goesOn_30 (by decide) ?_
        refine aw_iload_n X (pc := 32) 0 rfl rfl dX9_goesOn_32 ?_
        refine aw_iadd X (pc := 33) (z := nI (84 + k)) (nn_add (a := 84) (b := k) rfl rfl (by first | rfl | omega))  dX9_goesOn_33 ?_
        refine aw_lald X (pc := 34) 2 1 (84 + k) rfl rfl rfl (by decide) (by omega) dX9_goesOn_34 ?_
        refine aw_iload_n X (pc := 35) 2 rfl rfl dX9_goesOn_35 ?_
        refine aw_callS X (pc := 36) (rest := [.int (nI k), .ref (q 4)]) (st' := [.int (r_X9_bitOf (w (84 + k)) i), .int (nI k), .ref (q 4)]) (ws' := (mW q kc a w hs iv sp lone lt lz dr)) (c_X9_bitOf l D (w (84 + k)) i) rfl [] [] rfl (by decide +kernel) rfl rfl cf_X9_40 cd_X9_bitOf dd_X9_bitOf (by decide) (by decide) (by decide) rfl (Nat.le_of_ble_eq_true rfl) dX9_goesOn_36 rfl ?_
        refine aw_iload_n X (pc := 39) 3 rfl rfl dX9_goesOn_39 ?_
        refine aw_icmp_ne X (pc := 40) (tgt := 47) (by decide) dX9_goesOn_40 (fun c5 => ?_) (fun c5 => ?_)
        · refine aw_iconst X (pc := 47) (v := 0) dX9_goesOn_47 (by decide) ?_
          refine aw_zast X (pc := 48) 4 3 (ws' := (mW q kc a w hs (upd iv k 0) sp lone lt lz dr)) k rfl (nar_01 (by decide)) rfl rfl (by decide) (by omega) rfl dX9_goesOn_48 ?_
          refine aw_iinc X (pc := 49) (kx := 0) (v := nI (k + 1)) (lv' := [(3, .int (nI (k + 1))), (0, .ref (q 0)), (1, .int i), (2, .int bit)]) rfl (nn_add (a := k) (b := 1) rfl rfl rfl) (by decide) rfl dX9_goesOn_49 ?_
          refine aw_goto X (pc := 52) (tgt := 2) (by decide) dX9_goesOn_52 ?_
          have e6 : b_X9_goesOn_2 w i bit k iv = (upd iv k 0) := by simp only [b_X9_goesOn_2, if_neg c3, if_neg c5]
          exact aw_sub (lv' := [(3, .int (nI (k + 1))), (0, .ref (q 0)), (1, .int i), (2, .int bit)]) [0, 1, 2, 3] rfl (ih1 (k + 1) (upd iv k 0) (by omega)  (by rw [← e6]; exact hf1))
        · refine aw_iconst X (pc := 43) (v := 1) dX9_goesOn_43 (by decide) ?_
          refine aw_goto X (pc := 44) (tgt := 48) (by decide) dX9_goesOn_44 ?_
          refine aw_zast X (pc := 48) 4 3 (ws' := (mW q kc a w hs (upd iv k 1) sp lone lt lz dr)) k rfl (nar_01 (by decide)) rfl rfl (by decide) (by omega) rfl dX9_goesOn_48 ?_
          refine aw_iinc X (pc := 49) (kx := 0) (v := nI (k + 1)) (lv' := [(3, .int (nI (k + 1))), (0, .ref (q 0)), (1, .int i), (2, .int bit)]) rfl (nn_add (a := k) (b := 1) rfl rfl rfl) (by decide) rfl dX9_goesOn_49 ?_
          refine aw_goto X (pc := 52) (tgt := 2) (by decide) dX9_goesOn_52 ?_
          have e7 : b_X9_goesOn_2 w i bit k iv = (upd iv k 1) := by simp only [b_X9_goesOn_2, if_neg c3, if_pos c5]
          exact aw_sub (lv' := [(3, .int (nI (k + 1))), (0, .ref (q 0)), (1, .int i), (2, .int bit)]) [0, 1, 2, 3] rfl (ih1 (k + 1) (upd iv k 1) (by omega)  (by rw [← e7]; exact hf1))
  exact aw_sub (lv' := [(3, .int 0), (0, .ref (q 0)), (1, .int i), (2, .int bit)]) [0, 1, 2, 3] rfl (L1 n 0 inn (by omega)  rfl)

def b_X9_oneIn_4 (inn : Nat → Int32) (k : Nat) (σ : Int32) : Int32 := if inn k = 0 then σ else (nI k)
abbrev rm_X9_oneIn : Room := { frames := 0, cells := 0, slots := 0, locals := 0 }
set_option maxHeartbeats 400000 in
set_option maxRecDepth 100000 in
theorem c_X9_oneIn (l : Launch) (D : va_G) (q : Nat → Nat) (kc : Nat → ClassId) (a : Nat → Int32) (w : Nat → Int64) (hs : Nat → Int32) (inn : Nat → Int32) (sp : Nat → Int32) (lone : Int32) (lt : Nat → Int64) (lz : Nat → Int32) (dr : Nat → Int32) (n : Nat) (ha0 : a 0 = nI n) (hn : n ≤ 40) : MW l D yX9_oneIn (Cond.code yX9_oneIn cX9_oneIn 3 (some .int) :: TT) rm_X9_oneIn [.ref (q 0)] [(kc 1, .int), (kc 2, .long), (kc 3, .boolean), (kc 4, .boolean), (kc 5, .boolean), (kc 6, .long), (kc 7, .int), (kc 8, .int)] (mW q kc a w hs inn sp lone lt lz dr) (some (.int (lpF (b_X9_oneIn_4 inn) n 0 (-1)))) (mW q kc a w hs inn sp lone lt lz dr) := by
  refine MW.of (cc := cX9_oneIn) (nL := 3) (ret := (some .int)) (lv := [(0, .ref (q 0))]) (by decide) rfl rfl (Nat.le_of_ble_eq_true rfl) ?_
  intro p e s m args below meth c A Q hQ X
  refine aw_iconst X (pc := 0) (v := (-1)) dX9_oneIn_0 (by decide) ?_
  refine aw_istore_n X (pc := 1) (lv' := [(1, .int (-1)), (0, .ref (q 0))]) rfl (by decide) rfl dX9_oneIn_1 ?_
  refine aw_iconst X (pc := 2) (v := 0) dX9_oneIn_2 (by decide) ?_
  refine aw_istore_n X (pc := 3) (lv' := [(2, .int 0), (1, .int (-1)), (0, .ref (q 0))]) rfl (by decide) rfl dX9_oneIn_3 ?_
  have L1 : ∀ (n1 k : Nat) (who : Int32), k + n1 = n → lpF (b_X9_oneIn_4 inn) n1 k who = lpF (b_X9_oneIn_4 inn) n 0 (-1) → AW p l e rm_X9_oneIn s m args below meth c D A 3 0 0 Q 4 [(2, .int (nI k)), (1, .int who), (0, .ref (q 0))] [] (mW q kc a w hs inn sp lone lt lz dr) := by
    intro n1; induction n1 with
    | zero =>
      intro k who hk1  hf1
      have hf1 : who = lpF (b_X9_oneIn_4 inn) n 0 (-1) := hf1
      refine aw_iload_n X (pc := 4) 0 rfl rfl dX9_oneIn_4 ?_
      refine aw_aload_n X (pc := 5) 2 rfl rfl dX9_oneIn_5 ?_
      refine aw_get X (pc := 6) iX9 0 0 rfl rfl (by decide) fl_X9_7 rfl dX9_oneIn_6 ?_
      refine aw_iconst X (pc := 9) (v := 0) dX9_oneIn_9 (by decide) ?_
      refine aw_iald X (pc := 10) 1 0 0 rfl rfl rfl (by decide) (by omega) dX9_oneIn_10 ?_
      refine aw_icmp_ge X (pc := 11) (tgt := 31) (by decide) dX9_oneIn_11 (fun c6 => ?_) (fun c6 => absurd (nn_le (a := n) (b := k) ha0 rfl (by omega) (by omega)) c6)
      refine aw_iload_n X (pc := 31) 1 rfl rfl dX9_oneIn_31 ?_
      exact aw_iret X (v := who) hQ (by simp only [← hf1]; try rfl) rfl dX9_oneIn_32
    | succ n1 ih1 =>
      intro k who hk1  hf1
      have hf1 : lpF (b_X9_oneIn_4 inn) n1 (k + 1) (b_X9_oneIn_4 inn k who) = lpF (b_X9_oneIn_4 inn) n 0 (-1) := hf1
      refine aw_iload_n X (pc := 4) 0 rfl rfl dX9_oneIn_4 ?_
      refine aw_aload_n X (pc := 5) 2 rfl rfl dX9_oneIn_5 ?_
      refine aw_get X (pc := 6) iX9 0 0 rfl rfl (by decide) fl_X9_7 rfl dX9_oneIn_6 ?_
      refine aw_iconst X (pc := 9) (v := 0) dX9_oneIn_9 (by decide) ?_
      refine aw_iald X (pc := 10) 1 0 0 rfl rfl rfl (by decide) (by omega) dX9_oneIn_10 ?_
      refine aw_icmp_ge X (pc := 11) (tgt := 31) (by decide) dX9_oneIn_11 (fun c2 => absurd c2 (nn_nle (a := n) (b := k) ha0 rfl (by omega) (by omega))) (fun c2 => ?_)
      refine aw_aload_n X (pc := 14) 2 rfl rfl dX9_oneIn_14 ?_
      refine aw_get X (pc := 15) iX9 0 3 rfl rfl (by decide) fl_X9_21 rfl dX9_oneIn_15 ?_
      refine aw_iload_n X (pc := 18) 0 rfl rfl dX9_oneIn_18 ?_
      refine aw_zald X (pc := 19) 4 3 k rfl rfl rfl (by decide) (by omega) dX9_oneIn_19 ?_
      refine aw_if_eq X (pc := 20) (tgt := 25) (by decide) dX9_oneIn_20 (fun c3 => ?_) (fun c3 => ?_)
      · refine aw_iinc X (pc := 25) (kx := 0) (v := nI (k + 1)) (lv' := [(2, .int (nI (k + 1))), (1, .int who), (0, .ref (q 0))]) rfl (nn_add (a := k) (b := 1) rfl rfl rfl) (by decide) rfl dX9_oneIn_25 ?_
        refine aw_goto X (pc := 28) (tgt := 4) (by decide) dX9_oneIn_28 ?_
        have e4 : b_X9_oneIn_4 inn k who = who := by simp only [b_X9_oneIn_4, if_pos c3]
        exact aw_sub (lv' := [(2, .int (nI (k + 1))), (1, .int who), (0, .ref (q 0))]) [0, 1, 2] rfl (ih1 (k + 1) who (by omega)  (by rw [← e4]; exact hf1))
      · refine aw_iload_n X (pc := 23) 0 rfl rfl dX9_oneIn_23 ?_
        refine aw_istore_n X (pc := 24) (lv' := [(1, .int (nI k)), (2, .int (nI k)), (0, .ref (q 0))]) rfl (by decide) rfl dX9_oneIn_24 ?_
        refine aw_iinc X (pc := 25) (kx := 1) (v := nI (k + 1)) (lv' := [(2, .int (nI (k + 1))), (1, .int (nI k)), (0, .ref (q 0))]) rfl (nn_add (a := k) (b := 1) rfl rfl rfl) (by decide) rfl dX9_oneIn_25 ?_
        refine aw_goto X (pc := 28) (tgt := 4) (by decide) dX9_oneIn_28 ?_
        have e5 : b_X9_oneIn_4 inn k who = (nI k) := by simp only [b_X9_oneIn_4, if_neg c3]
        exact aw_sub (lv' := [(2, .int (nI (k + 1))), (1, .int (nI k)), (0, .ref (q 0))]) [0, 1, 2] rfl (ih1 (k + 1) (nI k) (by omega)  (by rw [← e5]; exact hf1))
  exact aw_sub (lv' := [(2, .int 0), (1, .int (-1)), (0, .ref (q 0))]) [0, 1, 2] rfl (L1 n 0 (-1) (by omega)  rfl)

def r_X9_fork (a : Nat → Int32) (what : Int32) : Int32 := if what = 0 then (a 2) else (if what = 1 then (a 3) else (-1))
abbrev rm_X9_fork : Room := { frames := 0, cells := 0, slots := 0, locals := 0 }
set_option maxHeartbeats 400000 in
set_option maxRecDepth 100000 in
theorem c_X9_fork (l : Launch) (D : va_G) (q : Nat → Nat) (kc : Nat → ClassId) (a : Nat → Int32) (w : Nat → Int64) (hs : Nat → Int32) (inn : Nat → Int32) (sp : Nat → Int32) (lone : Int32) (lt : Nat → Int64) (lz : Nat → Int32) (dr : Nat → Int32) (what : Int32)  : MW l D yX9_fork (Cond.code yX9_fork cX9_fork 2 (some .int) :: TT) rm_X9_fork [.ref (q 0), .int what] [(kc 1, .int), (kc 2, .long), (kc 3, .boolean), (kc 4, .boolean), (kc 5, .boolean), (kc 6, .long), (kc 7, .int), (kc 8, .int)] (mW q kc a w hs inn sp lone lt lz dr) (some (.int (r_X9_fork a what))) (mW q kc a w hs inn sp lone lt lz dr) := by
  refine MW.of (cc := cX9_fork) (nL := 2) (ret := (some .int)) (lv := [(0, .ref (q 0)), (1, .int what)]) (by decide) rfl rfl (Nat.le_of_ble_eq_true rfl) ?_
  intro p e s m args below meth c A Q hQ X
  refine aw_iload_n X (pc := 0) 1 rfl rfl dX9_fork_0 ?_
  refine aw_if_ne X (pc := 1) (tgt := 13) (by decide) dX9_fork_1 (fun c1 => ?_) (fun c1 => ?_)
  · refine aw_iload_n X (pc := 13) 1 rfl rfl dX9_fork_13 ?_
    refine aw_iconst X (pc := 14) (v := 1) dX9_fork_14 (by decide) ?_
    refine aw_icmp_ne X (pc := 15) (tgt := 27) (by decide) dX9_fork_15 (fun c2 => ?_) (fun c2 => ?_)
    · refine aw_iconst X (pc := 27) (v := (-1)) dX9_fork_27 (by decide) ?_
      exact aw_iret X (v := (-1)) hQ (by simp only [r_X9_fork, if_neg c1, if_neg c2]; try rfl) rfl dX9_fork_28
    · refine aw_aload_n X (pc := 18) 0 rfl rfl dX9_fork_18 ?_
      refine aw_get X (pc := 19) iX9 0 0 rfl rfl (by decide) fl_X9_7 rfl dX9_fork_19 ?_
      refine aw_iconst X (pc := 22) (v := 3) dX9_fork_22 (by decide) ?_
      refine aw_iald X (pc := 23) 1 0 3 rfl rfl rfl (by decide) (by omega) dX9_fork_23 ?_
      refine aw_goto X (pc := 24) (tgt := 28) (by decide) dX9_fork_24 ?_
      exact aw_iret X (v := a 3) hQ (by simp only [r_X9_fork, if_neg c1, if_pos c2]; try rfl) rfl dX9_fork_28
  · refine aw_aload_n X (pc := 4) 0 rfl rfl dX9_fork_4 ?_
    refine aw_get X (pc := 5) iX9 0 0 rfl rfl (by decide) fl_X9_7 rfl dX9_fork_5 ?_
    refine aw_iconst X (pc := 8) (v := 2) dX9_fork_8 (by decide) ?_
    refine aw_iald X (pc := 9) 1 0 2 rfl rfl rfl (by decide) (by omega) dX9_fork_9 ?_
    refine aw_goto X (pc := 10) (tgt := 28) (by decide) dX9_fork_10 ?_
    exact aw_iret X (v := a 2) hQ (by simp only [r_X9_fork, if_pos c1]; try rfl) rfl dX9_fork_28

def r_X9_splits (a : Nat → Int32) (w : Nat → Int64) (k : Nat) : Int32 := if a (300 + 6 * k + 0) = 3 then (if r_X9_listens a w k = 0 then 0 else 1) else (if a (300 + 6 * k + 0) = 4 then (if r_X9_listens a w k = 0 then 0 else 1) else 0)
theorem z_X9_splits (a : Nat → Int32) (w : Nat → Int64) (k : Nat) : r_X9_splits a w k = 0 ∨ r_X9_splits a w k = 1 := by
  unfold r_X9_splits
  by_cases h0 : a (300 + 6 * k + 0) = 3
  · try rw [if_pos h0]
    by_cases h1 : r_X9_listens a w k = 0
    · try rw [if_pos h1]
      exact Or.inl rfl
    · try rw [if_neg h1]
      exact Or.inr rfl
  · try rw [if_neg h0]
    by_cases h1 : a (300 + 6 * k + 0) = 4
    · try rw [if_pos h1]
      by_cases h2 : r_X9_listens a w k = 0
      · try rw [if_pos h2]
        exact Or.inl rfl
      · try rw [if_neg h2]
        exact Or.inr rfl
    · try rw [if_neg h1]
      exact Or.inl rfl
abbrev rm_X9_splits : Room := { frames := 2, cells := 0, slots := 0, locals := 43 }
set_option maxHeartbeats 400000 in
set_option maxRecDepth 100000 in
theorem c_X9_splits (l : Launch) (D : va_G) (q : Nat → Nat) (kc : Nat → ClassId) (a : Nat → Int32) (w : Nat → Int64) (hs : Nat → Int32) (inn : Nat → Int32) (sp : Nat → Int32) (lone : Int32) (lt : Nat → Int64) (lz : Nat → Int32) (dr : Nat → Int32) (t : Int32) (k : Nat) (ht : t = nI k) (hk : k < 40) : MW l D yX9_splits (Cond.code yX9_splits cX9_splits 2 (some .boolean) :: TT) rm_X9_splits [.ref (q 0), .int t] [(kc 1, .int), (kc 2, .long), (kc 3, .boolean), (kc 4, .boolean), (kc 5, .boolean), (kc 6, .long), (kc 7, .int), (kc 8, .int)] (mW q kc a w hs inn sp lone lt lz dr) (some (.int (r_X9_splits a w k))) (mW q kc a w hs inn sp lone lt lz dr) := by
  refine MW.of (cc := cX9_splits) (nL := 2) (ret := (some .boolean)) (lv := [(0, .ref (q 0)), (1, .int t)]) (by decide) rfl rfl (Nat.le_of_ble_eq_true rfl) ?_
  intro p e s m args below meth c A Q hQ X
  refine aw_aload_n X (pc := 0) 0 rfl rfl dX9_splits_0 ?_
  refine aw_iload_n X (pc := 1) 1 rfl rfl dX9_splits_1 ?_
  refine aw_iconst X (pc := 2) (v := 0) dX9_splits_2 (by decide) ?_
  refine aw_callVF X (pc := 3) (q1 := 0) (rest := []) (st' := [.int (a (300 + 6 * k + 0))]) (c_X9_of l D q kc a w hs inn sp lone lt lz dr t 0 k 0 ht rfl (by omega)) rfl rfl ⟨_, _, rfl⟩ rfl cf_X9_44 cd_X9_of dd_X9_of (by decide) (by decide) (by decide) rfl (Nat.le_of_ble_eq_true rfl) dX9_splits_3 rfl ?_
  refine aw_iconst X (pc := 6) (v := 3) dX9_splits_6 (by decide) ?_
  refine aw_icmp_eq X (pc := 7) (tgt := 20) (by decide) dX9_splits_7 (fun c1 => ?_) (fun c1 => ?_)
  · refine aw_aload_n X (pc := 20) 0 rfl rfl dX9_splits_20 ?_
    refine aw_iload_n X (pc := 21) 1 rfl rfl dX9_splits_21 ?_
    refine aw_callVF X (pc := 22) (q1 := 0) (rest := []) (st' := [.int (r_X9_listens a w k)]) (c_X9_listens l D q kc a w hs inn sp lone lt lz dr t k ht (by omega)) rfl rfl ⟨_, _, rfl⟩ rfl cf_X9_62 cd_X9_listens dd_X9_listens (by decide) (by decide) (by decide) rfl (Nat.le_of_ble_eq_true rfl) dX9_splits_22 rfl ?_
    refine aw_if_eq X (pc := 25) (tgt := 32) (by decide) dX9_splits_25 (fun c2 => ?_) (fun c2 => ?_)
    · refine aw_iconst X (pc := 32) (v := 0) dX9_splits_32 (by decide) ?_
      exact aw_zret X (v := 0) rfl hQ (by simp only [r_X9_splits, if_pos c1, if_pos c2]; try rfl) rfl dX9_splits_33
    · refine aw_iconst X (pc := 28) (v := 1) dX9_splits_28 (by decide) ?_
      refine aw_goto X (pc := 29) (tgt := 33) (by decide) dX9_splits_29 ?_
      exact aw_zret X (v := 1) rfl hQ (by simp only [r_X9_splits, if_pos c1, if_neg c2]; try rfl) rfl dX9_splits_33
  · refine aw_aload_n X (pc := 10) 0 rfl rfl dX9_splits_10 ?_
    refine aw_iload_n X (pc := 11) 1 rfl rfl dX9_splits_11 ?_
    refine aw_iconst X (pc := 12) (v := 0) dX9_splits_12 (by decide) ?_
    refine aw_callVF X (pc := 13) (q1 := 0) (rest := []) (st' := [.int (a (300 + 6 * k + 0))]) (c_X9_of l D q kc a w hs inn sp lone lt lz dr t 0 k 0 ht rfl (by omega)) rfl rfl ⟨_, _, rfl⟩ rfl cf_X9_44 cd_X9_of dd_X9_of (by decide) (by decide) (by decide) rfl (Nat.le_of_ble_eq_true rfl) dX9_splits_13 rfl ?_
    refine aw_iconst X (pc := 16) (v := 4) dX9_splits_16 (by decide) ?_
    refine aw_icmp_ne X (pc := 17) (tgt := 32) (by decide) dX9_splits_17 (fun c3 => ?_) (fun c3 => ?_)
    · refine aw_iconst X (pc := 32) (v := 0) dX9_splits_32 (by decide) ?_
      exact aw_zret X (v := 0) rfl hQ (by simp only [r_X9_splits, if_neg c1, if_neg c3]; try rfl) rfl dX9_splits_33
    · refine aw_aload_n X (pc := 20) 0 rfl rfl dX9_splits_20 ?_
      refine aw_iload_n X (pc := 21) 1 rfl rfl dX9_splits_21 ?_
      refine aw_callVF X (pc := 22) (q1 := 0) (rest := []) (st' := [.int (r_X9_listens a w k)]) (c_X9_listens l D q kc a w hs inn sp lone lt lz dr t k ht (by omega)) rfl rfl ⟨_, _, rfl⟩ rfl cf_X9_62 cd_X9_listens dd_X9_listens (by decide) (by decide) (by decide) rfl (Nat.le_of_ble_eq_true rfl) dX9_splits_22 rfl ?_
      refine aw_if_eq X (pc := 25) (tgt := 32) (by decide) dX9_splits_25 (fun c4 => ?_) (fun c4 => ?_)
      · refine aw_iconst X (pc := 32) (v := 0) dX9_splits_32 (by decide) ?_
        exact aw_zret X (v := 0) rfl hQ (by simp only [r_X9_splits, if_neg c1, if_pos c3, if_pos c4]; try rfl) rfl dX9_splits_33
      · refine aw_iconst X (pc := 28) (v := 1) dX9_splits_28 (by decide) ?_
        refine aw_goto X (pc := 29) (tgt := 33) (by decide) dX9_splits_29 ?_
        exact aw_zret X (v := 1) rfl hQ (by simp only [r_X9_splits, if_neg c1, if_pos c3, if_neg c4]; try rfl) rfl dX9_splits_33

def r_X9_draw (a : Nat → Int32) (k : Nat) (nn : Int32) : Int32 := (((((a (300 + 6 * k + 4)) * 1103515245) + 12345).toUInt32 >>> (Int32.toUInt32 16 &&& Int32.toUInt32 31)).toInt32) - (((((a (300 + 6 * k + 4)) * 1103515245) + 12345).toUInt32 >>> (Int32.toUInt32 16 &&& Int32.toUInt32 31)).toInt32) / nn * nn
def u_X9_draw_a (a : Nat → Int32) (k : Nat) : Nat → Int32 := upd a (300 + 6 * k + 4) (((a (300 + 6 * k + 4)) * 1103515245) + 12345)
abbrev rm_X9_draw : Room := { frames := 1, cells := 0, slots := 0, locals := 23 }
set_option maxHeartbeats 400000 in
set_option maxRecDepth 100000 in
theorem c_X9_draw (l : Launch) (D : va_G) (q : Nat → Nat) (kc : Nat → ClassId) (a : Nat → Int32) (w : Nat → Int64) (hs : Nat → Int32) (inn : Nat → Int32) (sp : Nat → Int32) (lone : Int32) (lt : Nat → Int64) (lz : Nat → Int32) (dr : Nat → Int32) (t : Int32) (k : Nat) (nn : Int32) (ht : t = nI k) (hk : k < 40) (hnn : ¬ nn = 0) : MW l D yX9_draw (Cond.code yX9_draw cX9_draw 4 (some .int) :: TT) rm_X9_draw [.ref (q 0), .int t, .int nn] [(kc 1, .int), (kc 2, .long), (kc 3, .boolean), (kc 4, .boolean), (kc 5, .boolean), (kc 6, .long), (kc 7, .int), (kc 8, .int)] (mW q kc a w hs inn sp lone lt lz dr) (some (.int (r_X9_draw a k nn))) (mW q kc (u_X9_draw_a a k) w hs inn sp lone lt lz dr) := by
  refine MW.of (cc := cX9_draw) (nL := 4) (ret := (some .int)) (lv := [(0, .ref (q 0)), (1, .int t), (2, .int nn)]) (by decide) ((mW_ad ..).trans (mW_ad ..).symm) rfl (Nat.le_of_ble_eq_true rfl) ?_
  intro p e s m args below meth c A Q hQ X
  refine aw_aload_n X (pc := 0) 0 rfl rfl dX9_draw_0 ?_
  refine aw_iload_n X (pc := 1) 1 rfl rfl dX9_draw_1 ?_
  refine aw_iconst X (pc := 2) (v := 4) dX9_draw_2 (by decide) ?_
  refine aw_callVF X (pc := 3) (q1 := 0) (rest := []) (st' := [.int (a (300 + 6 * k + 4))]) (c_X9_of l D q kc a w hs inn sp lone lt lz dr t 4 k 4 ht rfl (by omega)) rfl rfl ⟨_, _, rfl⟩ rfl cf_X9_44 cd_X9_of dd_X9_of (by decide) (by decide) (by decide) rfl (Nat.le_of_ble_eq_true rfl) dX9_draw_3 rfl ?_
  refine aw_ldc X (pc := 6) ld_X9_110 dX9_draw_6 ?_
  refine aw_imul X (pc := 8) (z := (a (300 + 6 * k + 4)) * 1103515245) rfl  dX9_draw_8 ?_
  refine aw_sipush X (pc := 9) (v := 12345) dX9_draw_9 (by decide) ?_
  refine aw_iadd X (pc := 12) (z := ((a (300 + 6 * k + 4)) * 1103515245) + 12345) rfl  dX9_draw_12 ?_
  refine aw_istore_n X (pc := 13) (lv' := [(3, .int (((a (300 + 6 * k + 4)) * 1103515245) + 12345)), (0, .ref (q 0)), (1, .int t), (2, .int nn)]) rfl (by decide) rfl dX9_draw_13 ?_
  refine aw_aload_n X (pc := 14) 1 rfl rfl dX9_draw_14 ?_
  refine aw_iload_n X (pc := 15) 2 rfl rfl dX9_draw_15 ?_
  refine aw_iconst X (pc := 16) (v := 4) dX9_draw_16 (by decide) ?_
  refine aw_iload_n X (pc := 17) 0 rfl rfl dX9_draw_17 ?_
  refine aw_callVF X (pc := 18) (q1 := 0) (rest := []) (st' := []) (c_X9_sets l D q kc a w hs inn sp lone lt lz dr t 4 k 4 (((a (300 + 6 * k + 4)) * 1103515245) + 12345) ht rfl (by omega)) rfl rfl ⟨_, _, rfl⟩ rfl cf_X9_52 cd_X9_sets dd_X9_sets (by decide) (by decide) (by decide) rfl (Nat.le_of_ble_eq_true rfl) dX9_draw_18 rfl ?_
  refine aw_iload_n X (pc := 21) 0 rfl rfl dX9_draw_21 ?_
  refine aw_bipush X (pc := 22) (v := 16) dX9_draw_22 (by decide) ?_
  refine aw_iushr X (pc := 24) (z := ((((a (300 + 6 * k + 4)) * 1103515245) + 12345).toUInt32 >>> (Int32.toUInt32 16 &&& Int32.toUInt32 31)).toInt32) rfl  dX9_draw_24 ?_
  refine aw_iload_n X (pc := 25) 3 rfl rfl dX9_draw_25 ?_
  refine aw_irem X (pc := 26) (z := (((((a (300 + 6 * k + 4)) * 1103515245) + 12345).toUInt32 >>> (Int32.toUInt32 16 &&& Int32.toUInt32 31)).toInt32) - (((((a (300 + 6 * k + 4)) * 1103515245) + 12345).toUInt32 >>> (Int32.toUInt32 16 &&& Int32.toUInt32 31)).toInt32) / nn * nn) rfl hnn dX9_draw_26 ?_
  exact aw_iret X (v := (((((a (300 + 6 * k + 4)) * 1103515245) + 12345).toUInt32 >>> (Int32.toUInt32 16 &&& Int32.toUInt32 31)).toInt32) - (((((a (300 + 6 * k + 4)) * 1103515245) + 12345).toUInt32 >>> (Int32.toUInt32 16 &&& Int32.toUInt32 31)).toInt32) / nn * nn) hQ rfl rfl dX9_draw_27

def u_X9_sleeps_a (a : Nat → Int32) (k : Nat) : Nat → Int32 := if a (300 + 6 * k + 0) = 4 then (upd a (300 + 6 * k + 2) 0) else a
abbrev rm_X9_sleeps : Room := { frames := 1, cells := 0, slots := 0, locals := 23 }
set_option maxHeartbeats 400000 in
set_option maxRecDepth 100000 in
theorem c_X9_sleeps (l : Launch) (D : va_G) (q : Nat → Nat) (kc : Nat → ClassId) (a : Nat → Int32) (w : Nat → Int64) (hs : Nat → Int32) (inn : Nat → Int32) (sp : Nat → Int32) (lone : Int32) (lt : Nat → Int64) (lz : Nat → Int32) (dr : Nat → Int32) (t : Int32) (k : Nat) (ht : t = nI k) (hk : k < 40) : MW l D yX9_sleeps (Cond.code yX9_sleeps cX9_sleeps 2 none :: TT) rm_X9_sleeps [.ref (q 0), .int t] [(kc 1, .int), (kc 2, .long), (kc 3, .boolean), (kc 4, .boolean), (kc 5, .boolean), (kc 6, .long), (kc 7, .int), (kc 8, .int)] (mW q kc a w hs inn sp lone lt lz dr) none (mW q kc (u_X9_sleeps_a a k) w hs inn sp lone lt lz dr) := by
  refine MW.of (cc := cX9_sleeps) (nL := 2) (ret := none) (lv := [(0, .ref (q 0)), (1, .int t)]) (by decide) ((mW_ad ..).trans (mW_ad ..).symm) rfl (Nat.le_of_ble_eq_true rfl) ?_
  intro p e s m args below meth c A Q hQ X
  refine aw_aload_n X (pc := 0) 0 rfl rfl dX9_sleeps_0 ?_
  refine aw_iload_n X (pc := 1) 1 rfl rfl dX9_sleeps_1 ?_
  refine aw_iconst X (pc := 2) (v := 0) dX9_sleeps_2 (by decide) ?_
  refine aw_callVF X (pc := 3) (q1 := 0) (rest := []) (st' := [.int (a (300 + 6 * k + 0))]) (c_X9_of l D q kc a w hs inn sp lone lt lz dr t 0 k 0 ht rfl (by omega)) rfl rfl ⟨_, _, rfl⟩ rfl cf_X9_44 cd_X9_of dd_X9_of (by decide) (by decide) (by decide) rfl (Nat.le_of_ble_eq_true rfl) dX9_sleeps_3 rfl ?_
  refine aw_iconst X (pc := 6) (v := 4) dX9_sleeps_6 (by decide) ?_
  refine aw_icmp_ne X (pc := 7) (tgt := 17) (by decide) dX9_sleeps_7 (fun c1 => ?_) (fun c1 => ?_)
  · exact aw_vret X hQ rfl (by simp only [u_X9_sleeps_a, if_neg c1]) dX9_sleeps_17
  · refine aw_aload_n X (pc := 10) 0 rfl rfl dX9_sleeps_10 ?_
    refine aw_iload_n X (pc := 11) 1 rfl rfl dX9_sleeps_11 ?_
    refine aw_iconst X (pc := 12) (v := 2) dX9_sleeps_12 (by decide) ?_
    refine aw_iconst X (pc := 13) (v := 0) dX9_sleeps_13 (by decide) ?_
    refine aw_callVF X (pc := 14) (q1 := 0) (rest := []) (st' := []) (c_X9_sets l D q kc a w hs inn sp lone lt lz dr t 2 k 2 0 ht rfl (by omega)) rfl rfl ⟨_, _, rfl⟩ rfl cf_X9_52 cd_X9_sets dd_X9_sets (by decide) (by decide) (by decide) rfl (Nat.le_of_ble_eq_true rfl) dX9_sleeps_14 rfl ?_
    exact aw_vret X hQ rfl (by simp only [u_X9_sleeps_a, if_pos c1]) dX9_sleeps_17

def r_X9_heard (a : Nat → Int32) (what : Int32) : Int32 := if r_X9_isIn what 4 = 0 then (-1) else (a (7 + what.toNatClampNeg))
abbrev rm_X9_heard : Room := { frames := 1, cells := 0, slots := 0, locals := 21 }
set_option maxHeartbeats 400000 in
set_option maxRecDepth 100000 in
theorem c_X9_heard (l : Launch) (D : va_G) (q : Nat → Nat) (kc : Nat → ClassId) (a : Nat → Int32) (w : Nat → Int64) (hs : Nat → Int32) (inn : Nat → Int32) (sp : Nat → Int32) (lone : Int32) (lt : Nat → Int64) (lz : Nat → Int32) (dr : Nat → Int32) (what : Int32)  : MW l D yX9_heard (Cond.code yX9_heard cX9_heard 2 (some .int) :: TT) rm_X9_heard [.ref (q 0), .int what] [(kc 1, .int), (kc 2, .long), (kc 3, .boolean), (kc 4, .boolean), (kc 5, .boolean), (kc 6, .long), (kc 7, .int), (kc 8, .int)] (mW q kc a w hs inn sp lone lt lz dr) (some (.int (r_X9_heard a what))) (mW q kc a w hs inn sp lone lt lz dr) := by
  refine MW.of (cc := cX9_heard) (nL := 2) (ret := (some .int)) (lv := [(0, .ref (q 0)), (1, .int what)]) (by decide) rfl rfl (Nat.le_of_ble_eq_true rfl) ?_
  intro p e s m args below meth c A Q hQ X
  refine aw_iload_n X (pc := 0) 1 rfl rfl dX9_heard_0 ?_
  refine aw_iconst X (pc := 1) (v := 4) dX9_heard_1 (by decide) ?_
  refine aw_callS X (pc := 2) (rest := []) (st' := [.int (r_X9_isIn what 4)]) (ws' := (mW q kc a w hs inn sp lone lt lz dr)) (c_X9_isIn l D what 4) rfl [] [] rfl (by decide +kernel) rfl rfl cf_X9_36 cd_X9_isIn dd_X9_isIn (by decide) (by decide) (by decide) rfl (Nat.le_of_ble_eq_true rfl) dX9_heard_2 rfl ?_
  refine aw_if_eq X (pc := 5) (tgt := 20) (by decide) dX9_heard_5 (fun c1 => ?_) (fun c1 => ?_)
  · refine aw_iconst X (pc := 20) (v := (-1)) dX9_heard_20 (by decide) ?_
    exact aw_iret X (v := (-1)) hQ (by simp only [r_X9_heard, if_pos c1]; try rfl) rfl dX9_heard_21
  · obtain ⟨ht2, hu3⟩ := isIn_nat (n := 4) rfl (by decide) c1
    refine aw_aload_n X (pc := 8) 0 rfl rfl dX9_heard_8 ?_
    refine aw_get X (pc := 9) iX9 0 0 rfl rfl (by decide) fl_X9_7 rfl dX9_heard_9 ?_
    refine aw_bipush X (pc := 12) (v := 7) dX9_heard_12 (by decide) ?_
    refine aw_iload_n X (pc := 14) 1 rfl rfl dX9_heard_14 ?_
    refine aw_iadd X (pc := 15) (z := nI (7 + what.toNatClampNeg)) (nn_add (a := 7) (b := what.toNatClampNeg) rfl ht2 (by first | rfl | omega))  dX9_heard_15 ?_
    refine aw_iald X (pc := 16) 1 0 (7 + what.toNatClampNeg) rfl rfl rfl (by decide) (by omega) dX9_heard_16 ?_
    refine aw_goto X (pc := 17) (tgt := 21) (by decide) dX9_heard_17 ?_
    exact aw_iret X (v := a (7 + what.toNatClampNeg)) hQ (by simp only [r_X9_heard, if_neg c1]; try rfl) rfl dX9_heard_21

def r_X9_found (a : Nat → Int32) (kk : Int32) : Int32 := if r_X9_isIn kk (a 15) = 0 then (-1) else (a (100 + kk.toNatClampNeg))
abbrev rm_X9_found : Room := { frames := 1, cells := 0, slots := 0, locals := 21 }
set_option maxHeartbeats 400000 in
set_option maxRecDepth 100000 in
theorem c_X9_found (l : Launch) (D : va_G) (q : Nat → Nat) (kc : Nat → ClassId) (a : Nat → Int32) (w : Nat → Int64) (hs : Nat → Int32) (inn : Nat → Int32) (sp : Nat → Int32) (lone : Int32) (lt : Nat → Int64) (lz : Nat → Int32) (dr : Nat → Int32) (f : Nat) (kk : Int32) (ha15 : a 15 = nI f) (hf : f ≤ 200) : MW l D yX9_found (Cond.code yX9_found cX9_found 2 (some .int) :: TT) rm_X9_found [.ref (q 0), .int kk] [(kc 1, .int), (kc 2, .long), (kc 3, .boolean), (kc 4, .boolean), (kc 5, .boolean), (kc 6, .long), (kc 7, .int), (kc 8, .int)] (mW q kc a w hs inn sp lone lt lz dr) (some (.int (r_X9_found a kk))) (mW q kc a w hs inn sp lone lt lz dr) := by
  refine MW.of (cc := cX9_found) (nL := 2) (ret := (some .int)) (lv := [(0, .ref (q 0)), (1, .int kk)]) (by decide) rfl rfl (Nat.le_of_ble_eq_true rfl) ?_
  intro p e s m args below meth c A Q hQ X
  refine aw_iload_n X (pc := 0) 1 rfl rfl dX9_found_0 ?_
  refine aw_aload_n X (pc := 1) 0 rfl rfl dX9_found_1 ?_
  refine aw_get X (pc := 2) iX9 0 0 rfl rfl (by decide) fl_X9_7 rfl dX9_found_2 ?_
  refine aw_bipush X (pc := 5) (v := 15) dX9_found_5 (by decide) ?_
  refine aw_iald X (pc := 7) 1 0 15 rfl rfl rfl (by decide) (by omega) dX9_found_7 ?_
  refine aw_callS X (pc := 8) (rest := []) (st' := [.int (r_X9_isIn kk (a 15))]) (ws' := (mW q kc a w hs inn sp lone lt lz dr)) (c_X9_isIn l D kk (a 15)) rfl [] [] rfl (by decide +kernel) rfl rfl cf_X9_36 cd_X9_isIn dd_X9_isIn (by decide) (by decide) (by decide) rfl (Nat.le_of_ble_eq_true rfl) dX9_found_8 rfl ?_
  refine aw_if_eq X (pc := 11) (tgt := 26) (by decide) dX9_found_11 (fun c1 => ?_) (fun c1 => ?_)
  · refine aw_iconst X (pc := 26) (v := (-1)) dX9_found_26 (by decide) ?_
    exact aw_iret X (v := (-1)) hQ (by simp only [r_X9_found, if_pos c1]; try rfl) rfl dX9_found_27
  · obtain ⟨ht2, hu3⟩ := isIn_nat (n := f) ha15 (by omega) c1
    refine aw_aload_n X (pc := 14) 0 rfl rfl dX9_found_14 ?_
    refine aw_get X (pc := 15) iX9 0 0 rfl rfl (by decide) fl_X9_7 rfl dX9_found_15 ?_
    refine aw_bipush X (pc := 18) (v := 100) dX9_found_18 (by decide) ?_
    refine aw_iload_n X (pc := 20) 1 rfl rfl dX9_found_20 ?_
    refine aw_iadd X (pc := 21) (z := nI (100 + kk.toNatClampNeg)) (nn_add (a := 100) (b := kk.toNatClampNeg) rfl ht2 (by first | rfl | omega))  dX9_found_21 ?_
    refine aw_iald X (pc := 22) 1 0 (100 + kk.toNatClampNeg) rfl rfl rfl (by decide) (by omega) dX9_found_22 ?_
    refine aw_goto X (pc := 23) (tgt := 27) (by decide) dX9_found_23 ?_
    exact aw_iret X (v := a (100 + kk.toNatClampNeg)) hQ (by simp only [r_X9_found, if_neg c1]; try rfl) rfl dX9_found_27

def r_X9_cost (a : Nat → Int32) (what : Int32) : Int32 := if what = 4 then ((((a 11) + (a 12)) + (a 13)) + (a 14)) else (if r_X9_isIn what 4 = 0 then (-1) else (a (11 + what.toNatClampNeg)))
abbrev rm_X9_cost : Room := { frames := 1, cells := 0, slots := 0, locals := 21 }
set_option maxHeartbeats 400000 in
set_option maxRecDepth 100000 in
theorem c_X9_cost (l : Launch) (D : va_G) (q : Nat → Nat) (kc : Nat → ClassId) (a : Nat → Int32) (w : Nat → Int64) (hs : Nat → Int32) (inn : Nat → Int32) (sp : Nat → Int32) (lone : Int32) (lt : Nat → Int64) (lz : Nat → Int32) (dr : Nat → Int32) (what : Int32)  : MW l D yX9_cost (Cond.code yX9_cost cX9_cost 2 (some .int) :: TT) rm_X9_cost [.ref (q 0), .int what] [(kc 1, .int), (kc 2, .long), (kc 3, .boolean), (kc 4, .boolean), (kc 5, .boolean), (kc 6, .long), (kc 7, .int), (kc 8, .int)] (mW q kc a w hs inn sp lone lt lz dr) (some (.int (r_X9_cost a what))) (mW q kc a w hs inn sp lone lt lz dr) := by
  refine MW.of (cc := cX9_cost) (nL := 2) (ret := (some .int)) (lv := [(0, .ref (q 0)), (1, .int what)]) (by decide) rfl rfl (Nat.le_of_ble_eq_true rfl) ?_
  intro p e s m args below meth c A Q hQ X
  refine aw_iload_n X (pc := 0) 1 rfl rfl dX9_cost_0 ?_
  refine aw_iconst X (pc := 1) (v := 4) dX9_cost_1 (by decide) ?_
  refine aw_icmp_ne X (pc := 2) (tgt := 37) (by decide) dX9_cost_2 (fun c1 => ?_) (fun c1 => ?_)
  · refine aw_iload_n X (pc := 37) 1 rfl rfl dX9_cost_37 ?_
    refine aw_iconst X (pc := 38) (v := 4) dX9_cost_38 (by decide) ?_
    refine aw_callS X (pc := 39) (rest := []) (st' := [.int (r_X9_isIn what 4)]) (ws' := (mW q kc a w hs inn sp lone lt lz dr)) (c_X9_isIn l D what 4) rfl [] [] rfl (by decide +kernel) rfl rfl cf_X9_36 cd_X9_isIn dd_X9_isIn (by decide) (by decide) (by decide) rfl (Nat.le_of_ble_eq_true rfl) dX9_cost_39 rfl ?_
    refine aw_if_eq X (pc := 42) (tgt := 57) (by decide) dX9_cost_42 (fun c2 => ?_) (fun c2 => ?_)
    · refine aw_iconst X (pc := 57) (v := (-1)) dX9_cost_57 (by decide) ?_
      exact aw_iret X (v := (-1)) hQ (by simp only [r_X9_cost, if_neg c1, if_pos c2]; try rfl) rfl dX9_cost_58
    · obtain ⟨ht3, hu4⟩ := isIn_nat (n := 4) rfl (by decide) c2
      refine aw_aload_n X (pc := 45) 0 rfl rfl dX9_cost_45 ?_
      refine aw_get X (pc := 46) iX9 0 0 rfl rfl (by decide) fl_X9_7 rfl dX9_cost_46 ?_
      refine aw_bipush X (pc := 49) (v := 11) dX9_cost_49 (by decide) ?_
      refine aw_iload_n X (pc := 51) 1 rfl rfl dX9_cost_51 ?_
      refine aw_iadd X (pc := 52) (z := nI (11 + what.toNatClampNeg)) (nn_add (a := 11) (b := what.toNatClampNeg) rfl ht3 (by first | rfl | omega))  dX9_cost_52 ?_
      refine aw_iald X (pc := 53) 1 0 (11 + what.toNatClampNeg) rfl rfl rfl (by decide) (by omega) dX9_cost_53 ?_
      refine aw_goto X (pc := 54) (tgt := 58) (by decide) dX9_cost_54 ?_
      exact aw_iret X (v := a (11 + what.toNatClampNeg)) hQ (by simp only [r_X9_cost, if_neg c1, if_neg c2]; try rfl) rfl dX9_cost_58
  · refine aw_aload_n X (pc := 5) 0 rfl rfl dX9_cost_5 ?_
    refine aw_get X (pc := 6) iX9 0 0 rfl rfl (by decide) fl_X9_7 rfl dX9_cost_6 ?_
    refine aw_bipush X (pc := 9) (v := 11) dX9_cost_9 (by decide) ?_
    refine aw_iald X (pc := 11) 1 0 11 rfl rfl rfl (by decide) (by omega) dX9_cost_11 ?_
    refine aw_aload_n X (pc := 12) 0 rfl rfl dX9_cost_12 ?_
    refine aw_get X (pc := 13) iX9 0 0 rfl rfl (by decide) fl_X9_7 rfl dX9_cost_13 ?_
    refine aw_bipush X (pc := 16) (v := 12) dX9_cost_16 (by decide) ?_
    refine aw_iald X (pc := 18) 1 0 12 rfl rfl rfl (by decide) (by omega) dX9_cost_18 ?_
    refine aw_iadd X (pc := 19) (z := (a 11) + (a 12)) rfl  dX9_cost_19 ?_
    refine aw_aload_n X (pc := 20) 0 rfl rfl dX9_cost_20 ?_
    refine aw_get X (pc := 21) iX9 0 0 rfl rfl (by decide) fl_X9_7 rfl dX9_cost_21 ?_
    refine aw_bipush X (pc := 24) (v := 13) dX9_cost_24 (by decide) ?_
    refine aw_iald X (pc := 26) 1 0 13 rfl rfl rfl (by decide) (by omega) dX9_cost_26 ?_
    refine aw_iadd X (pc := 27) (z := ((a 11) + (a 12)) + (a 13)) rfl  dX9_cost_27 ?_
    refine aw_aload_n X (pc := 28) 0 rfl rfl dX9_cost_28 ?_
    refine aw_get X (pc := 29) iX9 0 0 rfl rfl (by decide) fl_X9_7 rfl dX9_cost_29 ?_
    refine aw_bipush X (pc := 32) (v := 14) dX9_cost_32 (by decide) ?_
    refine aw_iald X (pc := 34) 1 0 14 rfl rfl rfl (by decide) (by omega) dX9_cost_34 ?_
    refine aw_iadd X (pc := 35) (z := (((a 11) + (a 12)) + (a 13)) + (a 14)) rfl  dX9_cost_35 ?_
    exact aw_iret X (v := (((a 11) + (a 12)) + (a 13)) + (a 14)) hQ (by simp only [r_X9_cost, if_pos c1]; try rfl) rfl dX9_cost_36

def r_X9_count (a : Nat → Int32) (w : Nat → Int64) (n : Nat) (what : Int32) : Int32 := if what = 0 then (a 0) else (if what = 1 then (lpF (b_X9_listening_4 a w) n 0 0) else (if what = 2 then (a 15) else (if what = 3 then (a 4) else (if what = 4 then (a 5) else (-1)))))
abbrev rm_X9_count : Room := { frames := 3, cells := 0, slots := 0, locals := 65 }
set_option maxHeartbeats 400000 in
set_option maxRecDepth 100000 in
theorem c_X9_count (l : Launch) (D : va_G) (q : Nat → Nat) (kc : Nat → ClassId) (a : Nat → Int32) (w : Nat → Int64) (hs : Nat → Int32) (inn : Nat → Int32) (sp : Nat → Int32) (lone : Int32) (lt : Nat → Int64) (lz : Nat → Int32) (dr : Nat → Int32) (n : Nat) (what : Int32) (ha0 : a 0 = nI n) (hn : n ≤ 40) : MW l D yX9_count (Cond.code yX9_count cX9_count 2 (some .int) :: TT) rm_X9_count [.ref (q 0), .int what] [(kc 1, .int), (kc 2, .long), (kc 3, .boolean), (kc 4, .boolean), (kc 5, .boolean), (kc 6, .long), (kc 7, .int), (kc 8, .int)] (mW q kc a w hs inn sp lone lt lz dr) (some (.int (r_X9_count a w n what))) (mW q kc a w hs inn sp lone lt lz dr) := by
  refine MW.of (cc := cX9_count) (nL := 2) (ret := (some .int)) (lv := [(0, .ref (q 0)), (1, .int what)]) (by decide) rfl rfl (Nat.le_of_ble_eq_true rfl) ?_
  intro p e s m args below meth c A Q hQ X
  refine aw_iload_n X (pc := 0) 1 rfl rfl dX9_count_0 ?_
  by_cases c1 : what = 0
  · refine aw_tableIn X (pc := 1) (tgt := 36) (by rw [c1]; decide) (by rw [c1]; decide) (by rw [c1]; rfl) (by decide) dX9_count_1 ?_
    refine aw_aload_n X (pc := 36) 0 rfl rfl dX9_count_36 ?_
    refine aw_get X (pc := 37) iX9 0 0 rfl rfl (by decide) fl_X9_7 rfl dX9_count_37 ?_
    refine aw_iconst X (pc := 40) (v := 0) dX9_count_40 (by decide) ?_
    refine aw_iald X (pc := 41) 1 0 0 rfl rfl rfl (by decide) (by omega) dX9_count_41 ?_
    exact aw_iret X (v := a 0) hQ (by simp only [r_X9_count, if_pos c1]; try rfl) rfl dX9_count_42
  · by_cases c2 : what = 1
    · refine aw_tableIn X (pc := 1) (tgt := 43) (by rw [c2]; decide) (by rw [c2]; decide) (by rw [c2]; rfl) (by decide) dX9_count_1 ?_
      refine aw_aload_n X (pc := 43) 0 rfl rfl dX9_count_43 ?_
      refine aw_callVF X (pc := 44) (q1 := 0) (rest := []) (st' := [.int (lpF (b_X9_listening_4 a w) n 0 0)]) (c_X9_listening l D q kc a w hs inn sp lone lt lz dr n ha0 (by omega)) rfl rfl ⟨_, _, rfl⟩ rfl cf_X9_65 cd_X9_listening dd_X9_listening (by decide) (by decide) (by decide) rfl (Nat.le_of_ble_eq_true rfl) dX9_count_44 rfl ?_
      exact aw_iret X (v := (lpF (b_X9_listening_4 a w) n 0 0)) hQ (by simp only [r_X9_count, if_neg c1, if_pos c2]; try rfl) rfl dX9_count_47
    · by_cases c3 : what = 2
      · refine aw_tableIn X (pc := 1) (tgt := 48) (by rw [c3]; decide) (by rw [c3]; decide) (by rw [c3]; rfl) (by decide) dX9_count_1 ?_
        refine aw_aload_n X (pc := 48) 0 rfl rfl dX9_count_48 ?_
        refine aw_get X (pc := 49) iX9 0 0 rfl rfl (by decide) fl_X9_7 rfl dX9_count_49 ?_
        refine aw_bipush X (pc := 52) (v := 15) dX9_count_52 (by decide) ?_
        refine aw_iald X (pc := 54) 1 0 15 rfl rfl rfl (by decide) (by omega) dX9_count_54 ?_
        exact aw_iret X (v := a 15) hQ (by simp only [r_X9_count, if_neg c1, if_neg c2, if_pos c3]; try rfl) rfl dX9_count_55
      · by_cases c4 : what = 3
        · refine aw_tableIn X (pc := 1) (tgt := 56) (by rw [c4]; decide) (by rw [c4]; decide) (by rw [c4]; rfl) (by decide) dX9_count_1 ?_
          refine aw_aload_n X (pc := 56) 0 rfl rfl dX9_count_56 ?_
          refine aw_get X (pc := 57) iX9 0 0 rfl rfl (by decide) fl_X9_7 rfl dX9_count_57 ?_
          refine aw_iconst X (pc := 60) (v := 4) dX9_count_60 (by decide) ?_
          refine aw_iald X (pc := 61) 1 0 4 rfl rfl rfl (by decide) (by omega) dX9_count_61 ?_
          exact aw_iret X (v := a 4) hQ (by simp only [r_X9_count, if_neg c1, if_neg c2, if_neg c3, if_pos c4]; try rfl) rfl dX9_count_62
        · by_cases c5 : what = 4
          · refine aw_tableIn X (pc := 1) (tgt := 63) (by rw [c5]; decide) (by rw [c5]; decide) (by rw [c5]; rfl) (by decide) dX9_count_1 ?_
            refine aw_aload_n X (pc := 63) 0 rfl rfl dX9_count_63 ?_
            refine aw_get X (pc := 64) iX9 0 0 rfl rfl (by decide) fl_X9_7 rfl dX9_count_64 ?_
            refine aw_iconst X (pc := 67) (v := 5) dX9_count_67 (by decide) ?_
            refine aw_iald X (pc := 68) 1 0 5 rfl rfl rfl (by decide) (by omega) dX9_count_68 ?_
            exact aw_iret X (v := a 5) hQ (by simp only [r_X9_count, if_neg c1, if_neg c2, if_neg c3, if_neg c4, if_pos c5]; try rfl) rfl dX9_count_69
          · refine aw_tableOut X (pc := 1) (tgt := 70) (tb_out4 c1 c2 c3 c4 c5) (by decide) dX9_count_1 ?_
            refine aw_iconst X (pc := 70) (v := (-1)) dX9_count_70 (by decide) ?_
            exact aw_iret X (v := (-1)) hQ (by simp only [r_X9_count, if_neg c1, if_neg c2, if_neg c3, if_neg c4, if_neg c5]; try rfl) rfl dX9_count_71

abbrev rm_X9_alone : Room := { frames := 0, cells := 0, slots := 0, locals := 0 }
set_option maxHeartbeats 400000 in
set_option maxRecDepth 100000 in
theorem c_X9_alone (l : Launch) (D : va_G) (q : Nat → Nat) (kc : Nat → ClassId) (a : Nat → Int32) (w : Nat → Int64) (hs : Nat → Int32) (inn : Nat → Int32) (sp : Nat → Int32) (lone : Int32) (lt : Nat → Int64) (lz : Nat → Int32) (dr : Nat → Int32)  : MW l D yX9_alone (Cond.code yX9_alone cX9_alone 1 (some .int) :: TT) rm_X9_alone [.ref (q 0)] [(kc 1, .int), (kc 2, .long), (kc 3, .boolean), (kc 4, .boolean), (kc 5, .boolean), (kc 6, .long), (kc 7, .int), (kc 8, .int)] (mW q kc a w hs inn sp lone lt lz dr) (some (.int (a 6))) (mW q kc a w hs inn sp lone lt lz dr) := by
  refine MW.of (cc := cX9_alone) (nL := 1) (ret := (some .int)) (lv := [(0, .ref (q 0))]) (by decide) rfl rfl (Nat.le_of_ble_eq_true rfl) ?_
  intro p e s m args below meth c A Q hQ X
  refine aw_aload_n X (pc := 0) 0 rfl rfl dX9_alone_0 ?_
  refine aw_get X (pc := 1) iX9 0 0 rfl rfl (by decide) fl_X9_7 rfl dX9_alone_1 ?_
  refine aw_bipush X (pc := 4) (v := 6) dX9_alone_4 (by decide) ?_
  refine aw_iald X (pc := 6) 1 0 6 rfl rfl rfl (by decide) (by omega) dX9_alone_6 ?_
  exact aw_iret X (v := a 6) hQ rfl rfl dX9_alone_7
