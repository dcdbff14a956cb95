def b_X8_drawCounters_2 (sz : Int32) (spk : Int64) (k : Nat) (σ : (Nat → Int32) × (Nat → Int32)) : (Nat → Int32) × (Nat → Int32) := if r_X8_isIn spk (nI k) = 0 then (σ.1, σ.2) else (u_X6_draw_seeds σ.1 sz (nI k) 2, u_X0_put_vals σ.2 (nI k) (r_X6_draw σ.1 sz (nI k) 2))
abbrev rm_X8_drawCounters : Room := { frames := 2, cells := 0, slots := 0, locals := 43 }
set_option maxHeartbeats 400000 in
set_option maxRecDepth 100000 in
theorem c_X8_drawCounters (l : Launch) (D : va_G) (r0 : Nat) (ri : Nat) (rs : Nat) (kS : ClassId) (sl : Nat → Int64) (qC : Nat → Nat) (kC : Nat → ClassId) (pr : Nat → Int64) (nx : Nat → Int64) (ns : Int32) (csz : Int32) (s0 : Nat) (qT : Nat → Nat) (kT : Nat → ClassId) (kinds : Nat → Int32) (names : Nat → Int64) (seeds : Nat → Int32) (ones : Nat → Int64) (ofk : Nat → Int64) (sz : Int32) (there : Int64) (awake : Int64) (grp : Int64) (gm : Int64) (gb : Int64) (p0 : Nat) (lf : Int32) (ir : Int32) (ln : Int64) (qL : Nat → Nat) (kL : Nat → ClassId) (rows : Nat → Int64) (lens : Nat → Int32) (psz : Int32) (qK : Nat → Nat) (kK : Nat → ClassId) (vals : Nat → Int32) (hold : Int64) (call : Int32) (f0 : Nat) (fio : Int64) (fqu : Int32) (fal : Int32) (fco : Int32) (fgu : Int32) (qY : Nat → Nat) (kY : Nat → ClassId) (ft : Nat → Int32) (fs : Int32) (qs : Int32) (als : Int32) (cs : Int32) (ps : Int32) (wire : Int32) (alo : Int32) (n : Nat) (spk : Int64) (hsz : sz = nI n) (hn : n ≤ 40) : MW l D yX8_drawCounters (Cond.code yX8_drawCounters cX8_drawCounters 4 none :: TT) rm_X8_drawCounters [.ref r0, .long spk] [(kS, .long), (kC 1, .long), (kC 2, .long), (kT 1, .int), (kT 2, .long), (kT 3, .int), (kT 4, .long), (kT 5, .long), (kL 1, .long), (kL 2, .int), (kK 1, .int), (kY 1, .int)] (rolW r0 ri rs kS sl qC kC pr nx ns csz s0 qT kT kinds names seeds ones ofk sz there awake grp gm gb p0 lf ir ln qL kL rows lens psz qK kK vals hold call f0 fio fqu fal fco fgu qY kY ft fs qs als cs ps wire alo) none (rolW r0 ri rs kS sl qC kC pr nx ns csz s0 qT kT kinds names ((lpF (b_X8_drawCounters_2 sz spk) n 0 (seeds, vals)).1) ones ofk sz there awake grp gm gb p0 lf ir ln qL kL rows lens psz qK kK ((lpF (b_X8_drawCounters_2 sz spk) n 0 (seeds, vals)).2) hold call f0 fio fqu fal fco fgu qY kY ft fs qs als cs ps wire alo) := by
  refine MW.of (cc := cX8_drawCounters) (nL := 4) (ret := none) (lv := [(0, .ref r0), (1, .long spk)]) (by decide) ((rolW_ad ..).trans (rolW_ad ..).symm) rfl (Nat.le_of_ble_eq_true rfl) ?_
  intro p e s m args below meth c A Q hQ X
  refine aw_iconst X (pc := 0) (v := 0) dX8_drawCounters_0 (by decide) ?_
  refine aw_istore_n X (pc := 1) (lv' := [(3, .int 0), (0, .ref r0), (1, .long spk)]) rfl (by decide) rfl dX8_drawCounters_1 ?_
  have L1 : ∀ (n1 k : Nat) (sv : Nat → Int32) (vv : Nat → Int32), k + n1 = n → lpF (b_X8_drawCounters_2 sz spk) n1 k (sv, vv) = lpF (b_X8_drawCounters_2 sz spk) n 0 (seeds, vals) → AW p l e rm_X8_drawCounters s m args below meth c D A 4 0 0 Q 2 [(3, .int (nI k)), (0, .ref r0), (1, .long spk)] [] (rolW r0 ri rs kS sl qC kC pr nx ns csz s0 qT kT kinds names sv ones ofk sz there awake grp gm gb p0 lf ir ln qL kL rows lens psz qK kK vv hold call f0 fio fqu fal fco fgu qY kY ft fs qs als cs ps wire alo) := by
    intro n1; induction n1 with
    | zero =>
      intro k sv vv hk1  hf1
      have hf1 : (sv, vv) = lpF (b_X8_drawCounters_2 sz spk) n 0 (seeds, vals) := hf1
      refine aw_iload_n X (pc := 2) 0 rfl rfl dX8_drawCounters_2 ?_
      refine aw_aload_n X (pc := 3) 1 rfl rfl dX8_drawCounters_3 ?_
      refine aw_get X (pc := 4) iX8 0 0 rfl rfl (by decide) fl_X8_12 rfl dX8_drawCounters_4 ?_
      refine aw_get X (pc := 7) iX5 5 0 rfl rfl (by decide) fl_X8_39 rfl dX8_drawCounters_7 ?_
      refine aw_get X (pc := 10) iX6 6 5 rfl rfl (by decide) fl_X8_296 rfl dX8_drawCounters_10 ?_
      refine aw_icmp_ge X (pc := 13) (tgt := 53) (by decide) dX8_drawCounters_13 (fun c6 => ?_) (fun c6 => absurd (nn_le (a := n) (b := k) hsz rfl (by omega) (by omega)) c6)
      exact aw_vret X hQ rfl (by simp only [← hf1]) dX8_drawCounters_53
    | succ n1 ih1 =>
      intro k sv vv hk1  hf1
      have hf1 : lpF (b_X8_drawCounters_2 sz spk) n1 (k + 1) (b_X8_drawCounters_2 sz spk k (sv, vv)) = lpF (b_X8_drawCounters_2 sz spk) n 0 (seeds, vals) := hf1
      refine aw_iload_n X (pc := 2) 0 rfl rfl dX8_drawCounters_2 ?_
      refine aw_aload_n X (pc := 3) 1 rfl rfl dX8_drawCounters_3 ?_
      refine aw_get X (pc := 4) iX8 0 0 rfl rfl (by decide) fl_X8_12 rfl dX8_drawCounters_4 ?_
      refine aw_get X (pc := 7) iX5 5 0 rfl rfl (by decide) fl_X8_39 rfl dX8_drawCounters_7 ?_
      refine aw_get X (pc := 10) iX6 6 5 rfl rfl (by decide) fl_X8_296 rfl dX8_drawCounters_10 ?_
      refine aw_icmp_ge X (pc := 13) (tgt := 53) (by decide) dX8_drawCounters_13 (fun c2 => absurd c2 (nn_nle (a := n) (b := k) hsz rfl (by omega) (by omega))) (fun c2 => ?_)
      refine aw_lload_n X (pc := 16) 2 rfl rfl dX8_drawCounters_16 ?_
      refine aw_iload_n X (pc := 17) 0 rfl rfl dX8_drawCounters_17 ?_
      refine aw_callS X (pc := 18) (rest := []) (st' := [.int (r_X8_isIn spk (nI k))]) (ws' := (rolW r0 ri rs kS sl qC kC pr nx ns csz s0 qT kT kinds names sv ones ofk sz there awake grp gm gb p0 lf ir ln qL kL rows lens psz qK kK vv hold call f0 fio fqu fal fco fgu qY kY ft fs qs als cs ps wire alo)) (c_X8_isIn l D spk (nI k)) rfl [] [] rfl (by decide +kernel) rfl rfl cf_X8_66 cd_X8_isIn dd_X8_isIn (by decide) (by decide) (by decide) rfl (Nat.le_of_ble_eq_true rfl) dX8_drawCounters_18 rfl ?_
      refine aw_if_eq X (pc := 21) (tgt := 47) (by decide) dX8_drawCounters_21 (fun c3 => ?_) (fun c3 => ?_)
      · refine aw_iinc X (pc := 47) (kx := 0) (v := nI (k + 1)) (lv' := [(3, .int (nI (k + 1))), (0, .ref r0), (1, .long spk)]) rfl (nn_add (a := k) (b := 1) rfl rfl rfl) (by decide) rfl dX8_drawCounters_47 ?_
        refine aw_goto X (pc := 50) (tgt := 2) (by decide) dX8_drawCounters_50 ?_
        have e4 : b_X8_drawCounters_2 sz spk k (sv, vv) = (sv, vv) := by simp only [b_X8_drawCounters_2, if_pos c3]
        exact aw_sub (lv' := [(3, .int (nI (k + 1))), (0, .ref r0), (1, .long spk)]) [0, 1, 2] rfl (ih1 (k + 1) sv vv (by omega)  (by rw [← e4]; exact hf1))
      · refine aw_aload_n X (pc := 24) 1 rfl rfl dX8_drawCounters_24 ?_
        refine aw_get X (pc := 25) iX8 0 0 rfl rfl (by decide) fl_X8_12 rfl dX8_drawCounters_25 ?_
        refine aw_get X (pc := 28) iX5 5 3 rfl rfl (by decide) fl_X8_81 rfl dX8_drawCounters_28 ?_
        refine aw_iload_n X (pc := 31) 0 rfl rfl dX8_drawCounters_31 ?_
        refine aw_aload_n X (pc := 32) 1 rfl rfl dX8_drawCounters_32 ?_
        refine aw_get X (pc := 33) iX8 0 0 rfl rfl (by decide) fl_X8_12 rfl dX8_drawCounters_33 ?_
        refine aw_get X (pc := 36) iX5 5 0 rfl rfl (by decide) fl_X8_39 rfl dX8_drawCounters_36 ?_
        refine aw_iload_n X (pc := 39) 0 rfl rfl dX8_drawCounters_39 ?_
        refine aw_iconst X (pc := 40) (v := 2) dX8_drawCounters_40 (by decide) ?_
        refine aw_callV X (pc := 41) (q1 := 6) (rest := [.int (nI k), .ref (qK 0)]) (st' := [.int (r_X6_draw sv sz (nI k) 2), .int (nI k), .ref (qK 0)]) (ws' := (rolW r0 ri rs kS sl qC kC pr nx ns csz s0 qT kT kinds names (u_X6_draw_seeds sv sz (nI k) 2) ones ofk sz there awake grp gm gb p0 lf ir ln qL kL rows lens psz qK kK vv hold call f0 fio fqu fal fco fgu qY kY ft fs qs als cs ps wire alo)) (c_X6_draw l D qT kT kinds names sv ones ofk sz there awake grp gm gb n (nI k) 2 hsz (by omega)) rfl rfl [6, 7, 8, 9, 10, 11] [3, 4, 5, 6, 7] rfl (by decide +kernel) rfl rfl ⟨_, _, rfl⟩ rfl cf_X8_316 cd_X6_draw dd_X6_draw (by decide) (by decide) (by decide) rfl (Nat.le_of_ble_eq_true rfl) dX8_drawCounters_41 rfl ?_
        refine aw_callV X (pc := 44) (q1 := 16) (rest := []) (st' := []) (ws' := (rolW r0 ri rs kS sl qC kC pr nx ns csz s0 qT kT kinds names (u_X6_draw_seeds sv sz (nI k) 2) ones ofk sz there awake grp gm gb p0 lf ir ln qL kL rows lens psz qK kK (u_X0_put_vals vv (nI k) (r_X6_draw sv sz (nI k) 2)) hold call f0 fio fqu fal fco fgu qY kY ft fs qs als cs ps wire alo)) (c_X0_put l D qK kK vv hold call (nI k) (r_X6_draw sv sz (nI k) 2)) rfl rfl [16, 17] [10] rfl (by decide +kernel) rfl rfl ⟨_, _, rfl⟩ rfl cf_X8_320 cd_X0_put dd_X0_put (by decide) (by decide) (by decide) rfl (Nat.le_of_ble_eq_true rfl) dX8_drawCounters_44 rfl ?_
        refine aw_iinc X (pc := 47) (kx := 0) (v := nI (k + 1)) (lv' := [(3, .int (nI (k + 1))), (0, .ref r0), (1, .long spk)]) rfl (nn_add (a := k) (b := 1) rfl rfl rfl) (by decide) rfl dX8_drawCounters_47 ?_
        refine aw_goto X (pc := 50) (tgt := 2) (by decide) dX8_drawCounters_50 ?_
        have e5 : b_X8_drawCounters_2 sz spk k (sv, vv) = (u_X6_draw_seeds sv sz (nI k) 2, u_X0_put_vals vv (nI k) (r_X6_draw sv sz (nI k) 2)) := by simp only [b_X8_drawCounters_2, if_neg c3]
        exact aw_sub (lv' := [(3, .int (nI (k + 1))), (0, .ref r0), (1, .long spk)]) [0, 1, 2] rfl (ih1 (k + 1) (u_X6_draw_seeds sv sz (nI k) 2) (u_X0_put_vals vv (nI k) (r_X6_draw sv sz (nI k) 2)) (by omega)  (by rw [← e5]; exact hf1))
  exact aw_sub (lv' := [(3, .int 0), (0, .ref r0), (1, .long spk)]) [0, 1, 2] rfl (L1 n 0 seeds vals (by omega)  rfl)

def b_X8_drawSlots_37 (ofk : Nat → Int64) (sz : Int32) (there : Int64) (awake : Int64) (grp : Int64) (fio : Int64) (len : Int32) (k : Nat) (σ : (Nat → Int32) × (Nat → Int64)) : (Nat → Int32) × (Nat → Int64) := if r_X8_isIn ((r_X6_slotted ofk there awake grp) &&& (fio ^^^ (-1))) (nI k) = 0 then (σ.1, σ.2) else (if r_X6_draw σ.1 sz (nI k) len < 0 then (u_X6_draw_seeds σ.1 sz (nI k) len, σ.2) else (if 64 ≤ r_X6_draw σ.1 sz (nI k) len then (u_X6_draw_seeds σ.1 sz (nI k) len, σ.2) else (u_X6_draw_seeds σ.1 sz (nI k) len, vp_updL σ.2 ((r_X6_draw σ.1 sz (nI k) len).toNatClampNeg) ((σ.2 ((r_X6_draw σ.1 sz (nI k) len).toNatClampNeg)) ||| ((1 : Int64) <<< ((nI k).toInt64 &&& 63))))))
def u_X8_drawSlots_sl (sl : Nat → Int64) (seeds : Nat → Int32) (ofk : Nat → Int64) (sz : Int32) (there : Int64) (awake : Int64) (grp : Int64) (fio : Int64) (n : Nat) (len : Int32) : Nat → Int64 := ((lpF (b_X8_drawSlots_37 ofk sz there awake grp fio len) n 0 (seeds, (lpF (b_J7_fill_d0a16_6 0) 64 0 sl))).2)
def u_X8_drawSlots_seeds (sl : Nat → Int64) (seeds : Nat → Int32) (ofk : Nat → Int64) (sz : Int32) (there : Int64) (awake : Int64) (grp : Int64) (fio : Int64) (n : Nat) (len : Int32) : Nat → Int32 := ((lpF (b_X8_drawSlots_37 ofk sz there awake grp fio len) n 0 (seeds, (lpF (b_J7_fill_d0a16_6 0) 64 0 sl))).1)
abbrev rm_X8_drawSlots : Room := { frames := 2, cells := 0, slots := 0, locals := 43 }
set_option maxHeartbeats 400000 in
set_option maxRecDepth 100000 in
theorem c_X8_drawSlots (l : Launch) (D : va_G) (r0 : Nat) (ri : Nat) (rs : Nat) (kS : ClassId) (sl : Nat → Int64) (qC : Nat → Nat) (kC : Nat → ClassId) (pr : Nat → Int64) (nx : Nat → Int64) (ns : Int32) (csz : Int32) (s0 : Nat) (qT : Nat → Nat) (kT : Nat → ClassId) (kinds : Nat → Int32) (names : Nat → Int64) (seeds : Nat → Int32) (ones : Nat → Int64) (ofk : Nat → Int64) (sz : Int32) (there : Int64) (awake : Int64) (grp : Int64) (gm : Int64) (gb : Int64) (p0 : Nat) (lf : Int32) (ir : Int32) (ln : Int64) (qL : Nat → Nat) (kL : Nat → ClassId) (rows : Nat → Int64) (lens : Nat → Int32) (psz : Int32) (qK : Nat → Nat) (kK : Nat → ClassId) (vals : Nat → Int32) (hold : Int64) (call : Int32) (f0 : Nat) (fio : Int64) (fqu : Int32) (fal : Int32) (fco : Int32) (fgu : Int32) (qY : Nat → Nat) (kY : Nat → ClassId) (ft : Nat → Int32) (fs : Int32) (qs : Int32) (als : Int32) (cs : Int32) (ps : Int32) (wire : Int32) (alo : Int32) (n : Nat) (len : Int32) (hsz : sz = nI n) (hn : n ≤ 40) : MW l D yX8_drawSlots (Cond.code yX8_drawSlots cX8_drawSlots 6 none :: TT) rm_X8_drawSlots [.ref r0, .int len] [(kS, .long), (kC 1, .long), (kC 2, .long), (kT 1, .int), (kT 2, .long), (kT 3, .int), (kT 4, .long), (kT 5, .long), (kL 1, .long), (kL 2, .int), (kK 1, .int), (kY 1, .int)] (rolW r0 ri rs kS sl qC kC pr nx ns csz s0 qT kT kinds names seeds ones ofk sz there awake grp gm gb p0 lf ir ln qL kL rows lens psz qK kK vals hold call f0 fio fqu fal fco fgu qY kY ft fs qs als cs ps wire alo) none (rolW r0 ri rs kS (u_X8_drawSlots_sl sl seeds ofk sz there awake grp fio n len) qC kC pr nx ns csz s0 qT kT kinds names (u_X8_drawSlots_seeds sl seeds ofk sz there awake grp fio n len) ones ofk sz there awake grp gm gb p0 lf ir ln qL kL rows lens psz qK kK vals hold call f0 fio fqu fal fco fgu qY kY ft fs qs als cs ps wire alo) := by
  refine MW.of (cc := cX8_drawSlots) (nL := 6) (ret := none) (lv := [(0, .ref r0), (1, .int len)]) (by decide) ((rolW_ad ..).trans (rolW_ad ..).symm) rfl (Nat.le_of_ble_eq_true rfl) ?_
  intro p e s m args below meth c A Q hQ X
  refine aw_aload_n X (pc := 0) 0 rfl rfl dX8_drawSlots_0 ?_
  refine aw_get X (pc := 1) iX8 0 2 rfl rfl (by decide) fl_X8_20 rfl dX8_drawSlots_1 ?_
  refine aw_lconst X (pc := 4) (v := 0) dX8_drawSlots_4 (by decide) ?_
  refine aw_callS X (pc := 5) (rest := []) (st' := []) (ws' := (rolW r0 ri rs kS (lpF (b_J7_fill_d0a16_6 0) 64 0 sl) qC kC pr nx ns csz s0 qT kT kinds names seeds ones ofk sz there awake grp gm gb p0 lf ir ln qL kL rows lens psz qK kK vals hold call f0 fio fqu fal fco fgu qY kY ft fs qs als cs ps wire alo)) (c_J7_fill_d0a16 l D rs kS 64 sl 0 (by decide)) rfl [1] [0] rfl (by decide +kernel) rfl rfl cf_X8_324 cd_J7_fill_d0a16 dd_J7_fill_d0a16 (by decide) (by decide) (by decide) rfl (Nat.le_of_ble_eq_true rfl) dX8_drawSlots_5 rfl ?_
  refine aw_aload_n X (pc := 8) 0 rfl rfl dX8_drawSlots_8 ?_
  refine aw_get X (pc := 9) iX8 0 0 rfl rfl (by decide) fl_X8_12 rfl dX8_drawSlots_9 ?_
  refine aw_get X (pc := 12) iX5 5 0 rfl rfl (by decide) fl_X8_39 rfl dX8_drawSlots_12 ?_
  refine aw_callV X (pc := 15) (q1 := 6) (rest := []) (st' := [.long (r_X6_slotted ofk there awake grp)]) (ws' := (rolW r0 ri rs kS (lpF (b_J7_fill_d0a16_6 0) 64 0 sl) qC kC pr nx ns csz s0 qT kT kinds names seeds ones ofk sz there awake grp gm gb p0 lf ir ln qL kL rows lens psz qK kK vals hold call f0 fio fqu fal fco fgu qY kY ft fs qs als cs ps wire alo)) (c_X6_slotted l D qT kT kinds names seeds ones ofk sz there awake grp gm gb) rfl rfl [6, 7, 8, 9, 10, 11] [3, 4, 5, 6, 7] rfl (by decide +kernel) rfl rfl ⟨_, _, rfl⟩ rfl cf_X8_330 cd_X6_slotted dd_X6_slotted (by decide) (by decide) (by decide) rfl (Nat.le_of_ble_eq_true rfl) dX8_drawSlots_15 rfl ?_
  refine aw_aload_n X (pc := 18) 0 rfl rfl dX8_drawSlots_18 ?_
  refine aw_get X (pc := 19) iX8 0 0 rfl rfl (by decide) fl_X8_12 rfl dX8_drawSlots_19 ?_
  refine aw_get X (pc := 22) iX5 5 4 rfl rfl (by decide) fl_X8_236 rfl dX8_drawSlots_22 ?_
  refine aw_get X (pc := 25) iX2 18 0 rfl rfl (by decide) fl_X8_240 rfl dX8_drawSlots_25 ?_
  refine aw_ldc2 X (pc := 28) ld_X8_123 dX8_drawSlots_28 ?_
  refine aw_lxor X (pc := 31) (z := fio ^^^ (-1)) rfl dX8_drawSlots_31 ?_
  refine aw_land X (pc := 32) (z := (r_X6_slotted ofk there awake grp) &&& (fio ^^^ (-1))) rfl dX8_drawSlots_32 ?_
  refine aw_lstore_n X (pc := 33) (lv' := [(2, .long ((r_X6_slotted ofk there awake grp) &&& (fio ^^^ (-1)))), (0, .ref r0), (1, .int len)]) rfl (by decide) rfl dX8_drawSlots_33 ?_
  refine aw_iconst X (pc := 34) (v := 0) dX8_drawSlots_34 (by decide) ?_
  refine aw_istore X (pc := 35) (lv' := [(4, .int 0), (2, .long ((r_X6_slotted ofk there awake grp) &&& (fio ^^^ (-1)))), (0, .ref r0), (1, .int len)]) (by decide) rfl dX8_drawSlots_35 ?_
  have L1 : ∀ (n1 k : Nat) (sv : Nat → Int32) (slv : Nat → Int64), k + n1 = n → lpF (b_X8_drawSlots_37 ofk sz there awake grp fio len) n1 k (sv, slv) = lpF (b_X8_drawSlots_37 ofk sz there awake grp fio len) n 0 (seeds, (lpF (b_J7_fill_d0a16_6 0) 64 0 sl)) → AW p l e rm_X8_drawSlots s m args below meth c D A 6 0 0 Q 37 [(4, .int (nI k)), (2, .long ((r_X6_slotted ofk there awake grp) &&& (fio ^^^ (-1)))), (0, .ref r0), (1, .int len)] [] (rolW r0 ri rs kS slv qC kC pr nx ns csz s0 qT kT kinds names sv ones ofk sz there awake grp gm gb p0 lf ir ln qL kL rows lens psz qK kK vals hold call f0 fio fqu fal fco fgu qY kY ft fs qs als cs ps wire alo) := by
    intro n1; induction n1 with
    | zero =>
      intro k sv slv hk1  hf1
      have hf1 : (sv, slv) = lpF (b_X8_drawSlots_37 ofk sz there awake grp fio len) n 0 (seeds, (lpF (b_J7_fill_d0a16_6 0) 64 0 sl)) := hf1
      refine aw_iload X (pc := 37) 0 rfl dX8_drawSlots_37 ?_
      refine aw_aload_n X (pc := 39) 2 rfl rfl dX8_drawSlots_39 ?_
      refine aw_get X (pc := 40) iX8 0 0 rfl rfl (by decide) fl_X8_12 rfl dX8_drawSlots_40 ?_
      refine aw_get X (pc := 43) iX5 5 0 rfl rfl (by decide) fl_X8_39 rfl dX8_drawSlots_43 ?_
      refine aw_get X (pc := 46) iX6 6 5 rfl rfl (by decide) fl_X8_296 rfl dX8_drawSlots_46 ?_
      refine aw_icmp_ge X (pc := 49) (tgt := 109) (by decide) dX8_drawSlots_49 (fun c12 => ?_) (fun c12 => absurd (nn_le (a := n) (b := k) hsz rfl (by omega) (by omega)) c12)
      exact aw_vret X hQ rfl (by simp only [u_X8_drawSlots_sl, u_X8_drawSlots_seeds, ← hf1]) dX8_drawSlots_109
    | succ n1 ih1 =>
      intro k sv slv hk1  hf1
      have hf1 : lpF (b_X8_drawSlots_37 ofk sz there awake grp fio len) n1 (k + 1) (b_X8_drawSlots_37 ofk sz there awake grp fio len k (sv, slv)) = lpF (b_X8_drawSlots_37 ofk sz there awake grp fio len) n 0 (seeds, (lpF (b_J7_fill_d0a16_6 0) 64 0 sl)) := hf1
      refine aw_iload X (pc := 37) 0 rfl dX8_drawSlots_37 ?_
      refine aw_aload_n X (pc := 39) 2 rfl rfl dX8_drawSlots_39 ?_
      refine aw_get X (pc := 40) iX8 0 0 rfl rfl (by decide) fl_X8_12 rfl dX8_drawSlots_40 ?_
      refine aw_get X (pc := 43) iX5 5 0 rfl rfl (by decide) fl_X8_39 rfl dX8_drawSlots_43 ?_
      refine aw_get X (pc := 46) iX6 6 5 rfl rfl (by decide) fl_X8_296 rfl dX8_drawSlots_46 ?_
      refine aw_icmp_ge X (pc := 49) (tgt := 109) (by decide) dX8_drawSlots_49 (fun c2 => absurd c2 (nn_nle (a := n) (b := k) hsz rfl (by omega) (by omega))) (fun c2 => ?_)
      refine aw_lload_n X (pc := 52) 1 rfl rfl dX8_drawSlots_52 ?_
      refine aw_iload X (pc := 53) 0 rfl dX8_drawSlots_53 ?_
      refine aw_callS X (pc := 55) (rest := []) (st' := [.int (r_X8_isIn ((r_X6_slotted ofk there awake grp) &&& (fio ^^^ (-1))) (nI k))]) (ws' := (rolW r0 ri rs kS slv qC kC pr nx ns csz s0 qT kT kinds names sv ones ofk sz there awake grp gm gb p0 lf ir ln qL kL rows lens psz qK kK vals hold call f0 fio fqu fal fco fgu qY kY ft fs qs als cs ps wire alo)) (c_X8_isIn l D ((r_X6_slotted ofk there awake grp) &&& (fio ^^^ (-1))) (nI k)) rfl [] [] rfl (by decide +kernel) rfl rfl cf_X8_66 cd_X8_isIn dd_X8_isIn (by decide) (by decide) (by decide) rfl (Nat.le_of_ble_eq_true rfl) dX8_drawSlots_55 rfl ?_
      refine aw_if_eq X (pc := 58) (tgt := 103) (by decide) dX8_drawSlots_58 (fun c3 => ?_) (fun c3 => ?_)
      · refine aw_iinc X (pc := 103) (kx := 0) (v := nI (k + 1)) (lv' := [(4, .int (nI (k + 1))), (2, .long ((r_X6_slotted ofk there awake grp) &&& (fio ^^^ (-1)))), (0, .ref r0), (1, .int len)]) rfl (nn_add (a := k) (b := 1) rfl rfl rfl) (by decide) rfl dX8_drawSlots_103 ?_
        refine aw_goto X (pc := 106) (tgt := 37) (by decide) dX8_drawSlots_106 ?_
        have e4 : b_X8_drawSlots_37 ofk sz there awake grp fio len k (sv, slv) = (sv, slv) := by simp only [b_X8_drawSlots_37, if_pos c3]
        exact aw_sub (lv' := [(4, .int (nI (k + 1))), (2, .long ((r_X6_slotted ofk there awake grp) &&& (fio ^^^ (-1)))), (0, .ref r0), (1, .int len)]) [0, 1, 2, 3] rfl (ih1 (k + 1) sv slv (by omega)  (by rw [← e4]; exact hf1))
      · refine aw_aload_n X (pc := 61) 2 rfl rfl dX8_drawSlots_61 ?_
        refine aw_get X (pc := 62) iX8 0 0 rfl rfl (by decide) fl_X8_12 rfl dX8_drawSlots_62 ?_
        refine aw_get X (pc := 65) iX5 5 0 rfl rfl (by decide) fl_X8_39 rfl dX8_drawSlots_65 ?_
        refine aw_iload X (pc := 68) 0 rfl dX8_drawSlots_68 ?_
        refine aw_iload_n X (pc := 70) 3 rfl rfl dX8_drawSlots_70 ?_
        refine aw_callV X (pc := 71) (q1 := 6) (rest := []) (st' := [.int (r_X6_draw sv sz (nI k) len)]) (ws' := (rolW r0 ri rs kS slv qC kC pr nx ns csz s0 qT kT kinds names (u_X6_draw_seeds sv sz (nI k) len) ones ofk sz there awake grp gm gb p0 lf ir ln qL kL rows lens psz qK kK vals hold call f0 fio fqu fal fco fgu qY kY ft fs qs als cs ps wire alo)) (c_X6_draw l D qT kT kinds names sv ones ofk sz there awake grp gm gb n (nI k) len hsz (by omega)) rfl rfl [6, 7, 8, 9, 10, 11] [3, 4, 5, 6, 7] rfl (by decide +kernel) rfl rfl ⟨_, _, rfl⟩ rfl cf_X8_316 cd_X6_draw dd_X6_draw (by decide) (by decide) (by decide) rfl (Nat.le_of_ble_eq_true rfl) dX8_drawSlots_71 rfl ?_
        refine aw_istore X (pc := 74) (lv' := [(5, .int (r_X6_draw sv sz (nI k) len)), (4, .int (nI k)), (2, .long ((r_X6_slotted ofk there awake grp) &&& (fio ^^^ (-1)))), (0, .ref r0), (1, .int len)]) (by decide) rfl dX8_drawSlots_74 ?_
        refine aw_iload X (pc := 76) 0 rfl dX8_drawSlots_76 ?_
        refine aw_if_lt X (pc := 78) (tgt := 103) (by decide) dX8_drawSlots_78 (fun c5 => ?_) (fun c5 => ?_)
        · refine aw_iinc X (pc := 103) (kx := 1) (v := nI (k + 1)) (lv' := [(4, .int (nI (k + 1))), (5, .int (r_X6_draw sv sz (nI k) len)), (2, .long ((r_X6_slotted ofk there awake grp) &&& (fio ^^^ (-1)))), (0, .ref r0), (1, .int len)]) rfl (nn_add (a := k) (b := 1) rfl rfl rfl) (by decide) rfl dX8_drawSlots_103 ?_
          refine aw_goto X (pc := 106) (tgt := 37) (by decide) dX8_drawSlots_106 ?_
          have e6 : b_X8_drawSlots_37 ofk sz there awake grp fio len k (sv, slv) = (u_X6_draw_seeds sv sz (nI k) len, slv) := by simp only [b_X8_drawSlots_37, if_neg c3, if_pos c5]
          exact aw_sub (lv' := [(4, .int (nI (k + 1))), (2, .long ((r_X6_slotted ofk there awake grp) &&& (fio ^^^ (-1)))), (0, .ref r0), (1, .int len)]) [0, 2, 3, 4] rfl (ih1 (k + 1) (u_X6_draw_seeds sv sz (nI k) len) slv (by omega)  (by rw [← e6]; exact hf1))
        · refine aw_iload X (pc := 81) 0 rfl dX8_drawSlots_81 ?_
          refine aw_bipush X (pc := 83) (v := 64) dX8_drawSlots_83 (by decide) ?_
          refine aw_icmp_ge X (pc := 85) (tgt := 103) (by decide) dX8_drawSlots_85 (fun c7 => ?_) (fun c7 => ?_)
          · refine aw_iinc X (pc := 103) (kx := 1) (v := nI (k + 1)) (lv' := [(4, .int (nI (k + 1))), (5, .int (r_X6_draw sv sz (nI k) len)), (2, .long ((r_X6_slotted ofk there awake grp) &&& (fio ^^^ (-1)))), (0, .ref r0), (1, .int len)]) rfl (nn_add (a := k) (b := 1) rfl rfl rfl) (by decide) rfl dX8_drawSlots_103 ?_
            refine aw_goto X (pc := 106) (tgt := 37) (by decide) dX8_drawSlots_106 ?_
            have e8 : b_X8_drawSlots_37 ofk sz there awake grp fio len k (sv, slv) = (u_X6_draw_seeds sv sz (nI k) len, slv) := by simp only [b_X8_drawSlots_37, if_neg c3, if_neg c5, if_pos c7]
            exact aw_sub (lv' := [(4, .int (nI (k + 1))), (2, .long ((r_X6_slotted ofk there awake grp) &&& (fio ^^^ (-1)))), (0, .ref r0), (1, .int len)]) [0, 2, 3, 4] rfl (ih1 (k + 1) (u_X6_draw_seeds sv sz (nI k) len) slv (by omega)  (by rw [← e8]; exact hf1))
          · obtain ⟨ht9, hu10⟩ := rng_nat (N := 64) rfl (by decide) c5 c7
            refine aw_aload_n X (pc := 88) 3 rfl rfl dX8_drawSlots_88 ?_
            refine aw_get X (pc := 89) iX8 0 2 rfl rfl (by decide) fl_X8_20 rfl dX8_drawSlots_89 ?_
            refine aw_iload X (pc := 92) 0 rfl dX8_drawSlots_92 ?_
            refine aw_dup2_11 X (pc := 94) dX8_drawSlots_94 rfl rfl ?_
            refine aw_lald X (pc := 95) 1 0 ((r_X6_draw sv sz (nI k) len).toNatClampNeg) ht9 rfl rfl (by decide) (by omega) dX8_drawSlots_95 ?_
            refine aw_iload X (pc := 96) 1 rfl dX8_drawSlots_96 ?_
            refine aw_callS X (pc := 98) (rest := [.long (slv ((r_X6_draw sv sz (nI k) len).toNatClampNeg)), .int (r_X6_draw sv sz (nI k) len), .ref rs]) (st' := [.long ((1 : Int64) <<< ((nI k).toInt64 &&& 63)), .long (slv ((r_X6_draw sv sz (nI k) len).toNatClampNeg)), .int (r_X6_draw sv sz (nI k) len), .ref rs]) (ws' := (rolW r0 ri rs kS slv qC kC pr nx ns csz s0 qT kT kinds names (u_X6_draw_seeds sv sz (nI k) len) ones ofk sz there awake grp gm gb p0 lf ir ln qL kL rows lens psz qK kK vals hold call f0 fio fqu fal fco fgu qY kY ft fs qs als cs ps wire alo)) (c_X8_setOf l D (nI k)) rfl [] [] rfl (by decide +kernel) rfl rfl cf_X8_333 cd_X8_setOf dd_X8_setOf (by decide) (by decide) (by decide) rfl (Nat.le_of_ble_eq_true rfl) dX8_drawSlots_98 rfl ?_
            refine aw_lor X (pc := 101) (z := (slv ((r_X6_draw sv sz (nI k) len).toNatClampNeg)) ||| ((1 : Int64) <<< ((nI k).toInt64 &&& 63))) rfl dX8_drawSlots_101 ?_
            refine aw_last X (pc := 102) 1 0 (ws' := (rolW r0 ri rs kS (vp_updL slv ((r_X6_draw sv sz (nI k) len).toNatClampNeg) ((slv ((r_X6_draw sv sz (nI k) len).toNatClampNeg)) ||| ((1 : Int64) <<< ((nI k).toInt64 &&& 63)))) qC kC pr nx ns csz s0 qT kT kinds names (u_X6_draw_seeds sv sz (nI k) len) ones ofk sz there awake grp gm gb p0 lf ir ln qL kL rows lens psz qK kK vals hold call f0 fio fqu fal fco fgu qY kY ft fs qs als cs ps wire alo)) ((r_X6_draw sv sz (nI k) len).toNatClampNeg) ht9  rfl rfl (by decide) (by omega) rfl dX8_drawSlots_102 ?_
            refine aw_iinc X (pc := 103) (kx := 1) (v := nI (k + 1)) (lv' := [(4, .int (nI (k + 1))), (5, .int (r_X6_draw sv sz (nI k) len)), (2, .long ((r_X6_slotted ofk there awake grp) &&& (fio ^^^ (-1)))), (0, .ref r0), (1, .int len)]) rfl (nn_add (a := k) (b := 1) rfl rfl rfl) (by decide) rfl dX8_drawSlots_103 ?_
            refine aw_goto X (pc := 106) (tgt := 37) (by decide) dX8_drawSlots_106 ?_
            have e11 : b_X8_drawSlots_37 ofk sz there awake grp fio len k (sv, slv) = (u_X6_draw_seeds sv sz (nI k) len, vp_updL slv ((r_X6_draw sv sz (nI k) len).toNatClampNeg) ((slv ((r_X6_draw sv sz (nI k) len).toNatClampNeg)) ||| ((1 : Int64) <<< ((nI k).toInt64 &&& 63)))) := by simp only [b_X8_drawSlots_37, if_neg c3, if_neg c5, if_neg c7]
            exact aw_sub (lv' := [(4, .int (nI (k + 1))), (2, .long ((r_X6_slotted ofk there awake grp) &&& (fio ^^^ (-1)))), (0, .ref r0), (1, .int len)]) [0, 2, 3, 4] rfl (ih1 (k + 1) (u_X6_draw_seeds sv sz (nI k) len) (vp_updL slv ((r_X6_draw sv sz (nI k) len).toNatClampNeg) ((slv ((r_X6_draw sv sz (nI k) len).toNatClampNeg)) ||| ((1 : Int64) <<< ((nI k).toInt64 &&& 63)))) (by omega)  (by rw [← e11]; exact hf1))
  exact aw_sub (lv' := [(4, .int 0), (2, .long ((r_X6_slotted ofk there awake grp) &&& (fio ^^^ (-1)))), (0, .ref r0), (1, .int len)]) [0, 1, 2, 3] rfl (L1 n 0 seeds (lpF (b_J7_fill_d0a16_6 0) 64 0 sl) (by omega)  rfl)
