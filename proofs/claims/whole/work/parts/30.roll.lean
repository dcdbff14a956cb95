theorem drop_psz {psz : Int32} {z : Nat} (h : psz = nI z) (hz : z ≤ 65) : u_X4_dropTop_psz psz z = nI (z - 1) := by
  unfold u_X4_dropTop_psz
  subst h
  by_cases h2 : z = 0
  · subst h2; rw [if_pos (by decide)]
  · rw [if_neg (nI_nle (by omega) (by omega))]
theorem le_kind (x : Int64) : r_X8_kindOfSlot x ≤ 2 := by
  unfold r_X8_kindOfSlot
  repeat' split
  all_goals decide
def nN (h : Int32) (c : Nat) : Nat := if h = 0 then c else if h = 1 then c else c + 1
theorem nN_le (h : Int32) (c : Nat) : nN h c ≤ c + 1 := by 
  unfold nN
  split
  · omega
  · split <;> omega
theorem note_co {co h : Int32} {c : Nat} (hc : co = nI c) : u_X2_note_fco co h = nI (nN h c) := by
  unfold u_X2_note_fco nN
  subst hc
  by_cases h1 : h = 0
  · rw [if_pos h1, if_pos h1]
  · rw [if_neg h1, if_neg h1]
    by_cases h2 : h = 1
    · rw [if_pos h2, if_pos h2]
    · rw [if_neg h2, if_neg h2]; exact nI_1 c

def r_X8_wire (kind : Int32) : Int32 := if kind = 0 then 1 else (if kind = 1 then 1 else 0)
def u_X8_wire_wire (wire : Int32) (kind : Int32) : Int32 := if kind = 0 then kind else (if kind = 1 then kind else wire)
theorem z_X8_wire (kind : Int32) : r_X8_wire kind = 0 ∨ r_X8_wire kind = 1 := by
  unfold r_X8_wire
  by_cases h0 : kind = 0
  · try rw [if_pos h0]
    exact Or.inr rfl
  · try rw [if_neg h0]
    by_cases h1 : kind = 1
    · try rw [if_pos h1]
      exact Or.inr rfl
    · try rw [if_neg h1]
      exact Or.inl rfl
abbrev rm_X8_wire : Room := { frames := 0, cells := 0, slots := 0, locals := 0 }
set_option maxHeartbeats 400000 in
set_option maxRecDepth 100000 in
theorem c_X8_wire (l : Launch) (D : va_G) (r0 : Nat) (ri : Nat) (rs : Nat) (kS : ClassId) (sl : Nat → Int64) (qC : Nat → Nat) (kC : Nat → ClassId) (pr : Nat → Int64) (nx : Nat → Int64) (ns : Int32) (csz : Int32) (s0 : Nat) (qT : Nat → Nat) (kT : Nat → ClassId) (kinds : Nat → Int32) (names : Nat → Int64) (seeds : Nat → Int32) (ones : Nat → Int64) (ofk : Nat → Int64) (sz : Int32) (there : Int64) (awake : Int64) (grp : Int64) (gm : Int64) (gb : Int64) (p0 : Nat) (lf : Int32) (ir : Int32) (ln : Int64) (qL : Nat → Nat) (kL : Nat → ClassId) (rows : Nat → Int64) (lens : Nat → Int32) (psz : Int32) (qK : Nat → Nat) (kK : Nat → ClassId) (vals : Nat → Int32) (hold : Int64) (call : Int32) (f0 : Nat) (fio : Int64) (fqu : Int32) (fal : Int32) (fco : Int32) (fgu : Int32) (qY : Nat → Nat) (kY : Nat → ClassId) (ft : Nat → Int32) (fs : Int32) (qs : Int32) (als : Int32) (cs : Int32) (ps : Int32) (wire : Int32) (alo : Int32) (kind : Int32)  : MW l D yX8_wire (Cond.code yX8_wire cX8_wire 2 (some .boolean) :: TT) rm_X8_wire [.ref r0, .int kind] [(kS, .long), (kC 1, .long), (kC 2, .long), (kT 1, .int), (kT 2, .long), (kT 3, .int), (kT 4, .long), (kT 5, .long), (kL 1, .long), (kL 2, .int), (kK 1, .int), (kY 1, .int)] (rolW r0 ri rs kS sl qC kC pr nx ns csz s0 qT kT kinds names seeds ones ofk sz there awake grp gm gb p0 lf ir ln qL kL rows lens psz qK kK vals hold call f0 fio fqu fal fco fgu qY kY ft fs qs als cs ps wire alo) (some (.int (r_X8_wire kind))) (rolW r0 ri rs kS sl qC kC pr nx ns csz s0 qT kT kinds names seeds ones ofk sz there awake grp gm gb p0 lf ir ln qL kL rows lens psz qK kK vals hold call f0 fio fqu fal fco fgu qY kY ft fs qs als cs ps (u_X8_wire_wire wire kind) alo) := by
  refine MW.of (cc := cX8_wire) (nL := 2) (ret := (some .boolean)) (lv := [(0, .ref r0), (1, .int kind)]) (by decide) ((rolW_ad ..).trans (rolW_ad ..).symm) rfl (Nat.le_of_ble_eq_true rfl) ?_
  intro p e s m args below meth c A Q hQ X
  refine aw_iload_n X (pc := 0) 1 rfl rfl dX8_wire_0 ?_
  refine aw_if_eq X (pc := 1) (tgt := 11) (by decide) dX8_wire_1 (fun c1 => ?_) (fun c1 => ?_)
  · refine aw_aload_n X (pc := 11) 0 rfl rfl dX8_wire_11 ?_
    refine aw_get X (pc := 12) iX8 0 0 rfl rfl (by decide) fl_X8_12 rfl dX8_wire_12 ?_
    refine aw_iload_n X (pc := 15) 1 rfl rfl dX8_wire_15 ?_
    refine aw_put X (pc := 16) (ws' := (rolW r0 ri rs kS sl qC kC pr nx ns csz s0 qT kT kinds names seeds ones ofk sz there awake grp gm gb p0 lf ir ln qL kL rows lens psz qK kK vals hold call f0 fio fqu fal fco fgu qY kY ft fs qs als cs ps kind alo)) tyX5 tyX5_ok nmX5 iX5 5 6 rfl rfl (by decide) fl_X8_31 rfl (tyX5_ok 6 (by decide)) rfl rfl (Nat.le_of_ble_eq_true rfl) rfl dX8_wire_16 ?_
    refine aw_iconst X (pc := 19) (v := 1) dX8_wire_19 (by decide) ?_
    exact aw_zret X (v := 1) rfl hQ (by simp only [r_X8_wire, if_pos c1]; try rfl) (by simp only [u_X8_wire_wire, if_pos c1]) dX8_wire_20
  · refine aw_iload_n X (pc := 4) 1 rfl rfl dX8_wire_4 ?_
    refine aw_iconst X (pc := 5) (v := 1) dX8_wire_5 (by decide) ?_
    refine aw_icmp_eq X (pc := 6) (tgt := 11) (by decide) dX8_wire_6 (fun c2 => ?_) (fun c2 => ?_)
    · refine aw_aload_n X (pc := 11) 0 rfl rfl dX8_wire_11 ?_
      refine aw_get X (pc := 12) iX8 0 0 rfl rfl (by decide) fl_X8_12 rfl dX8_wire_12 ?_
      refine aw_iload_n X (pc := 15) 1 rfl rfl dX8_wire_15 ?_
      refine aw_put X (pc := 16) (ws' := (rolW r0 ri rs kS sl qC kC pr nx ns csz s0 qT kT kinds names seeds ones ofk sz there awake grp gm gb p0 lf ir ln qL kL rows lens psz qK kK vals hold call f0 fio fqu fal fco fgu qY kY ft fs qs als cs ps kind alo)) tyX5 tyX5_ok nmX5 iX5 5 6 rfl rfl (by decide) fl_X8_31 rfl (tyX5_ok 6 (by decide)) rfl rfl (Nat.le_of_ble_eq_true rfl) rfl dX8_wire_16 ?_
      refine aw_iconst X (pc := 19) (v := 1) dX8_wire_19 (by decide) ?_
      exact aw_zret X (v := 1) rfl hQ (by simp only [r_X8_wire, if_neg c1, if_pos c2]; try rfl) (by simp only [u_X8_wire_wire, if_neg c1, if_pos c2]) dX8_wire_20
    · refine aw_iconst X (pc := 9) (v := 0) dX8_wire_9 (by decide) ?_
      exact aw_zret X (v := 0) rfl hQ (by simp only [r_X8_wire, if_neg c1, if_neg c2]; try rfl) (by simp only [u_X8_wire_wire, if_neg c1, if_neg c2]) dX8_wire_10

def r_X8_tag (names : Nat → Int64) (sz : Int32) (n : Nat) (kind : Int32) (name : Int64) : Int32 := r_X6_add names sz n kind ((name <<< (Int32.toInt64 8 &&& 63)) ||| ((lpF (b_X8_sumOf_4 (name <<< (Int32.toInt64 8 &&& 63))) 56 0 0).toInt64))
def u_X8_tag_kinds (kinds : Nat → Int32) (names : Nat → Int64) (sz : Int32) (n : Nat) (kind : Int32) (name : Int64) : Nat → Int32 := u_X6_add_kinds kinds names sz n kind ((name <<< (Int32.toInt64 8 &&& 63)) ||| ((lpF (b_X8_sumOf_4 (name <<< (Int32.toInt64 8 &&& 63))) 56 0 0).toInt64))
def u_X8_tag_names (names : Nat → Int64) (sz : Int32) (n : Nat) (kind : Int32) (name : Int64) : Nat → Int64 := u_X6_add_names names sz n kind ((name <<< (Int32.toInt64 8 &&& 63)) ||| ((lpF (b_X8_sumOf_4 (name <<< (Int32.toInt64 8 &&& 63))) 56 0 0).toInt64))
def u_X8_tag_seeds (names : Nat → Int64) (seeds : Nat → Int32) (sz : Int32) (n : Nat) (kind : Int32) (name : Int64) (seed : Int32) : Nat → Int32 := u_X6_add_seeds names seeds sz n kind ((name <<< (Int32.toInt64 8 &&& 63)) ||| ((lpF (b_X8_sumOf_4 (name <<< (Int32.toInt64 8 &&& 63))) 56 0 0).toInt64)) seed
def u_X8_tag_ones (names : Nat → Int64) (ones : Nat → Int64) (sz : Int32) (n : Nat) (kind : Int32) (name : Int64) : Nat → Int64 := u_X6_add_ones names ones sz n kind ((name <<< (Int32.toInt64 8 &&& 63)) ||| ((lpF (b_X8_sumOf_4 (name <<< (Int32.toInt64 8 &&& 63))) 56 0 0).toInt64))
def u_X8_tag_ofk (names : Nat → Int64) (ofk : Nat → Int64) (sz : Int32) (n : Nat) (kind : Int32) (name : Int64) : Nat → Int64 := u_X6_add_ofk names ofk sz n kind ((name <<< (Int32.toInt64 8 &&& 63)) ||| ((lpF (b_X8_sumOf_4 (name <<< (Int32.toInt64 8 &&& 63))) 56 0 0).toInt64))
def u_X8_tag_sz (names : Nat → Int64) (sz : Int32) (n : Nat) (kind : Int32) (name : Int64) : Int32 := u_X6_add_sz names sz n kind ((name <<< (Int32.toInt64 8 &&& 63)) ||| ((lpF (b_X8_sumOf_4 (name <<< (Int32.toInt64 8 &&& 63))) 56 0 0).toInt64))
def u_X8_tag_there (names : Nat → Int64) (sz : Int32) (there : Int64) (n : Nat) (kind : Int32) (name : Int64) : Int64 := u_X6_add_there names sz there n kind ((name <<< (Int32.toInt64 8 &&& 63)) ||| ((lpF (b_X8_sumOf_4 (name <<< (Int32.toInt64 8 &&& 63))) 56 0 0).toInt64))
def u_X8_tag_awake (names : Nat → Int64) (sz : Int32) (awake : Int64) (n : Nat) (kind : Int32) (name : Int64) : Int64 := u_X6_add_awake names sz awake n kind ((name <<< (Int32.toInt64 8 &&& 63)) ||| ((lpF (b_X8_sumOf_4 (name <<< (Int32.toInt64 8 &&& 63))) 56 0 0).toInt64))
def u_X8_tag_grp (names : Nat → Int64) (sz : Int32) (grp : Int64) (gm : Int64) (gb : Int64) (n : Nat) (kind : Int32) (name : Int64) : Int64 := u_X6_add_grp names sz grp gm gb n kind ((name <<< (Int32.toInt64 8 &&& 63)) ||| ((lpF (b_X8_sumOf_4 (name <<< (Int32.toInt64 8 &&& 63))) 56 0 0).toInt64))
abbrev rm_X8_tag : Room := { frames := 3, cells := 0, slots := 0, locals := 71 }
set_option maxHeartbeats 400000 in
set_option maxRecDepth 100000 in
theorem c_X8_tag (l : Launch) (D : va_G) (r0 : Nat) (ri : Nat) (rs : Nat) (kS : ClassId) (sl : Nat → Int64) (qC : Nat → Nat) (kC : Nat → ClassId) (pr : Nat → Int64) (nx : Nat → Int64) (ns : Int32) (csz : Int32) (s0 : Nat) (qT : Nat → Nat) (kT : Nat → ClassId) (kinds : Nat → Int32) (names : Nat → Int64) (seeds : Nat → Int32) (ones : Nat → Int64) (ofk : Nat → Int64) (sz : Int32) (there : Int64) (awake : Int64) (grp : Int64) (gm : Int64) (gb : Int64) (p0 : Nat) (lf : Int32) (ir : Int32) (ln : Int64) (qL : Nat → Nat) (kL : Nat → ClassId) (rows : Nat → Int64) (lens : Nat → Int32) (psz : Int32) (qK : Nat → Nat) (kK : Nat → ClassId) (vals : Nat → Int32) (hold : Int64) (call : Int32) (f0 : Nat) (fio : Int64) (fqu : Int32) (fal : Int32) (fco : Int32) (fgu : Int32) (qY : Nat → Nat) (kY : Nat → ClassId) (ft : Nat → Int32) (fs : Int32) (qs : Int32) (als : Int32) (cs : Int32) (ps : Int32) (wire : Int32) (alo : Int32) (n : Nat) (kind : Int32) (name : Int64) (seed : Int32) (hsz : sz = nI n) (hn : n ≤ 40) : MW l D yX8_tag (Cond.code yX8_tag cX8_tag 7 (some .int) :: TT) rm_X8_tag [.ref r0, .int kind, .long name, .int seed] [(kS, .long), (kC 1, .long), (kC 2, .long), (kT 1, .int), (kT 2, .long), (kT 3, .int), (kT 4, .long), (kT 5, .long), (kL 1, .long), (kL 2, .int), (kK 1, .int), (kY 1, .int)] (rolW r0 ri rs kS sl qC kC pr nx ns csz s0 qT kT kinds names seeds ones ofk sz there awake grp gm gb p0 lf ir ln qL kL rows lens psz qK kK vals hold call f0 fio fqu fal fco fgu qY kY ft fs qs als cs ps wire alo) (some (.int (r_X8_tag names sz n kind name))) (rolW r0 ri rs kS sl qC kC pr nx ns csz s0 qT kT (u_X8_tag_kinds kinds names sz n kind name) (u_X8_tag_names names sz n kind name) (u_X8_tag_seeds names seeds sz n kind name seed) (u_X8_tag_ones names ones sz n kind name) (u_X8_tag_ofk names ofk sz n kind name) (u_X8_tag_sz names sz n kind name) (u_X8_tag_there names sz there n kind name) (u_X8_tag_awake names sz awake n kind name) (u_X8_tag_grp names sz grp gm gb n kind name) gm gb p0 lf ir ln qL kL rows lens psz qK kK vals hold call f0 fio fqu fal fco fgu qY kY ft fs qs als cs ps wire alo) := by
  refine MW.of (cc := cX8_tag) (nL := 7) (ret := (some .int)) (lv := [(0, .ref r0), (1, .int kind), (2, .long name), (4, .int seed)]) (by decide) ((rolW_ad ..).trans (rolW_ad ..).symm) rfl (Nat.le_of_ble_eq_true rfl) ?_
  intro p e s m args below meth c A Q hQ X
  refine aw_lload_n X (pc := 0) 2 rfl rfl dX8_tag_0 ?_
  refine aw_bipush X (pc := 1) (v := 8) dX8_tag_1 (by decide) ?_
  refine aw_lshl X (pc := 3) (z := name <<< (Int32.toInt64 8 &&& 63)) rfl dX8_tag_3 ?_
  refine aw_lload_n X (pc := 4) 2 rfl rfl dX8_tag_4 ?_
  refine aw_bipush X (pc := 5) (v := 8) dX8_tag_5 (by decide) ?_
  refine aw_lshl X (pc := 7) (z := name <<< (Int32.toInt64 8 &&& 63)) rfl dX8_tag_7 ?_
  refine aw_callS X (pc := 8) (rest := [.long (name <<< (Int32.toInt64 8 &&& 63))]) (st' := [.int (lpF (b_X8_sumOf_4 (name <<< (Int32.toInt64 8 &&& 63))) 56 0 0), .long (name <<< (Int32.toInt64 8 &&& 63))]) (ws' := (rolW r0 ri rs kS sl qC kC pr nx ns csz s0 qT kT kinds names seeds ones ofk sz there awake grp gm gb p0 lf ir ln qL kL rows lens psz qK kK vals hold call f0 fio fqu fal fco fgu qY kY ft fs qs als cs ps wire alo)) (c_X8_sumOf l D (name <<< (Int32.toInt64 8 &&& 63))) rfl [] [] rfl (by decide +kernel) rfl rfl cf_X8_35 cd_X8_sumOf dd_X8_sumOf (by decide) (by decide) (by decide) rfl (Nat.le_of_ble_eq_true rfl) dX8_tag_8 rfl ?_
  refine aw_i2l X (pc := 11) (z := (lpF (b_X8_sumOf_4 (name <<< (Int32.toInt64 8 &&& 63))) 56 0 0).toInt64) rfl dX8_tag_11 ?_
  refine aw_lor X (pc := 12) (z := (name <<< (Int32.toInt64 8 &&& 63)) ||| ((lpF (b_X8_sumOf_4 (name <<< (Int32.toInt64 8 &&& 63))) 56 0 0).toInt64)) rfl dX8_tag_12 ?_
  refine aw_lstore X (pc := 13) (lv' := [(5, .long ((name <<< (Int32.toInt64 8 &&& 63)) ||| ((lpF (b_X8_sumOf_4 (name <<< (Int32.toInt64 8 &&& 63))) 56 0 0).toInt64))), (0, .ref r0), (1, .int kind), (2, .long name), (4, .int seed)]) (by decide) rfl dX8_tag_13 ?_
  refine aw_aload_n X (pc := 15) 1 rfl rfl dX8_tag_15 ?_
  refine aw_get X (pc := 16) iX8 0 0 rfl rfl (by decide) fl_X8_12 rfl dX8_tag_16 ?_
  refine aw_get X (pc := 19) iX5 5 0 rfl rfl (by decide) fl_X8_39 rfl dX8_tag_19 ?_
  refine aw_iload_n X (pc := 22) 2 rfl rfl dX8_tag_22 ?_
  refine aw_lload X (pc := 23) 0 rfl dX8_tag_23 ?_
  refine aw_iload X (pc := 25) 4 rfl dX8_tag_25 ?_
  refine aw_callV X (pc := 27) (q1 := 6) (rest := []) (st' := [.int (r_X6_add names sz n kind ((name <<< (Int32.toInt64 8 &&& 63)) ||| ((lpF (b_X8_sumOf_4 (name <<< (Int32.toInt64 8 &&& 63))) 56 0 0).toInt64)))]) (ws' := (rolW r0 ri rs kS sl qC kC pr nx ns csz s0 qT kT (u_X6_add_kinds kinds names sz n kind ((name <<< (Int32.toInt64 8 &&& 63)) ||| ((lpF (b_X8_sumOf_4 (name <<< (Int32.toInt64 8 &&& 63))) 56 0 0).toInt64))) (u_X6_add_names names sz n kind ((name <<< (Int32.toInt64 8 &&& 63)) ||| ((lpF (b_X8_sumOf_4 (name <<< (Int32.toInt64 8 &&& 63))) 56 0 0).toInt64))) (u_X6_add_seeds names seeds sz n kind ((name <<< (Int32.toInt64 8 &&& 63)) ||| ((lpF (b_X8_sumOf_4 (name <<< (Int32.toInt64 8 &&& 63))) 56 0 0).toInt64)) seed) (u_X6_add_ones names ones sz n kind ((name <<< (Int32.toInt64 8 &&& 63)) ||| ((lpF (b_X8_sumOf_4 (name <<< (Int32.toInt64 8 &&& 63))) 56 0 0).toInt64))) (u_X6_add_ofk names ofk sz n kind ((name <<< (Int32.toInt64 8 &&& 63)) ||| ((lpF (b_X8_sumOf_4 (name <<< (Int32.toInt64 8 &&& 63))) 56 0 0).toInt64))) (u_X6_add_sz names sz n kind ((name <<< (Int32.toInt64 8 &&& 63)) ||| ((lpF (b_X8_sumOf_4 (name <<< (Int32.toInt64 8 &&& 63))) 56 0 0).toInt64))) (u_X6_add_there names sz there n kind ((name <<< (Int32.toInt64 8 &&& 63)) ||| ((lpF (b_X8_sumOf_4 (name <<< (Int32.toInt64 8 &&& 63))) 56 0 0).toInt64))) (u_X6_add_awake names sz awake n kind ((name <<< (Int32.toInt64 8 &&& 63)) ||| ((lpF (b_X8_sumOf_4 (name <<< (Int32.toInt64 8 &&& 63))) 56 0 0).toInt64))) (u_X6_add_grp names sz grp gm gb n kind ((name <<< (Int32.toInt64 8 &&& 63)) ||| ((lpF (b_X8_sumOf_4 (name <<< (Int32.toInt64 8 &&& 63))) 56 0 0).toInt64))) gm gb p0 lf ir ln qL kL rows lens psz qK kK vals hold call f0 fio fqu fal fco fgu qY kY ft fs qs als cs ps wire alo)) (c_X6_add l D qT kT kinds names seeds ones ofk sz there awake grp gm gb n kind ((name <<< (Int32.toInt64 8 &&& 63)) ||| ((lpF (b_X8_sumOf_4 (name <<< (Int32.toInt64 8 &&& 63))) 56 0 0).toInt64)) seed hsz (by omega)) rfl rfl [6, 7, 8, 9, 10, 11] [3, 4, 5, 6, 7] rfl (by decide +kernel) rfl rfl ⟨_, _, rfl⟩ rfl cf_X8_43 cd_X6_add dd_X6_add (by decide) (by decide) (by decide) rfl (Nat.le_of_ble_eq_true rfl) dX8_tag_27 rfl ?_
  exact aw_iret X (v := r_X6_add names sz n kind ((name <<< (Int32.toInt64 8 &&& 63)) ||| ((lpF (b_X8_sumOf_4 (name <<< (Int32.toInt64 8 &&& 63))) 56 0 0).toInt64))) hQ rfl rfl dX8_tag_30

def r_X8_name (names : Nat → Int64) (sz : Int32) (tag : Int32) : Int64 := if r_X6_has sz tag = 0 then 0 else (names tag.toNatClampNeg)
abbrev rm_X8_name : Room := { frames := 1, cells := 0, slots := 0, locals := 21 }
set_option maxHeartbeats 400000 in
set_option maxRecDepth 100000 in
theorem c_X8_name (l : Launch) (D : va_G) (r0 : Nat) (ri : Nat) (rs : Nat) (kS : ClassId) (sl : Nat → Int64) (qC : Nat → Nat) (kC : Nat → ClassId) (pr : Nat → Int64) (nx : Nat → Int64) (ns : Int32) (csz : Int32) (s0 : Nat) (qT : Nat → Nat) (kT : Nat → ClassId) (kinds : Nat → Int32) (names : Nat → Int64) (seeds : Nat → Int32) (ones : Nat → Int64) (ofk : Nat → Int64) (sz : Int32) (there : Int64) (awake : Int64) (grp : Int64) (gm : Int64) (gb : Int64) (p0 : Nat) (lf : Int32) (ir : Int32) (ln : Int64) (qL : Nat → Nat) (kL : Nat → ClassId) (rows : Nat → Int64) (lens : Nat → Int32) (psz : Int32) (qK : Nat → Nat) (kK : Nat → ClassId) (vals : Nat → Int32) (hold : Int64) (call : Int32) (f0 : Nat) (fio : Int64) (fqu : Int32) (fal : Int32) (fco : Int32) (fgu : Int32) (qY : Nat → Nat) (kY : Nat → ClassId) (ft : Nat → Int32) (fs : Int32) (qs : Int32) (als : Int32) (cs : Int32) (ps : Int32) (wire : Int32) (alo : Int32) (n : Nat) (tag : Int32) (hsz : sz = nI n) (hn : n ≤ 40) : MW l D yX8_name (Cond.code yX8_name cX8_name 2 (some .long) :: TT) rm_X8_name [.ref r0, .int tag] [(kS, .long), (kC 1, .long), (kC 2, .long), (kT 1, .int), (kT 2, .long), (kT 3, .int), (kT 4, .long), (kT 5, .long), (kL 1, .long), (kL 2, .int), (kK 1, .int), (kY 1, .int)] (rolW r0 ri rs kS sl qC kC pr nx ns csz s0 qT kT kinds names seeds ones ofk sz there awake grp gm gb p0 lf ir ln qL kL rows lens psz qK kK vals hold call f0 fio fqu fal fco fgu qY kY ft fs qs als cs ps wire alo) (some (.long (r_X8_name names sz tag))) (rolW r0 ri rs kS sl qC kC pr nx ns csz s0 qT kT kinds names seeds ones ofk sz there awake grp gm gb p0 lf ir ln qL kL rows lens psz qK kK vals hold call f0 fio fqu fal fco fgu qY kY ft fs qs als cs ps wire alo) := by
  refine MW.of (cc := cX8_name) (nL := 2) (ret := (some .long)) (lv := [(0, .ref r0), (1, .int tag)]) (by decide) rfl rfl (Nat.le_of_ble_eq_true rfl) ?_
  intro p e s m args below meth c A Q hQ X
  refine aw_aload_n X (pc := 0) 0 rfl rfl dX8_name_0 ?_
  refine aw_get X (pc := 1) iX8 0 0 rfl rfl (by decide) fl_X8_12 rfl dX8_name_1 ?_
  refine aw_get X (pc := 4) iX5 5 0 rfl rfl (by decide) fl_X8_39 rfl dX8_name_4 ?_
  refine aw_iload_n X (pc := 7) 1 rfl rfl dX8_name_7 ?_
  refine aw_callV X (pc := 8) (q1 := 6) (rest := []) (st' := [.int (r_X6_has sz tag)]) (ws' := (rolW r0 ri rs kS sl qC kC pr nx ns csz s0 qT kT kinds names seeds ones ofk sz there awake grp gm gb p0 lf ir ln qL kL rows lens psz qK kK vals hold call f0 fio fqu fal fco fgu qY kY ft fs qs als cs ps wire alo)) (c_X6_has l D qT kT kinds names seeds ones ofk sz there awake grp gm gb tag) rfl rfl [6, 7, 8, 9, 10, 11] [3, 4, 5, 6, 7] rfl (by decide +kernel) rfl rfl ⟨_, _, rfl⟩ rfl cf_X8_49 cd_X6_has dd_X6_has (by decide) (by decide) (by decide) rfl (Nat.le_of_ble_eq_true rfl) dX8_name_8 rfl ?_
  refine aw_if_eq X (pc := 11) (tgt := 29) (by decide) dX8_name_11 (fun c1 => ?_) (fun c1 => ?_)
  · refine aw_lconst X (pc := 29) (v := 0) dX8_name_29 (by decide) ?_
    exact aw_lret X (v := 0) hQ (by simp only [r_X8_name, if_pos c1]; try rfl) rfl dX8_name_30
  · obtain ⟨ht2, hu3⟩ := has_nat (n := n) hsz (by omega) c1
    refine aw_aload_n X (pc := 14) 0 rfl rfl dX8_name_14 ?_
    refine aw_get X (pc := 15) iX8 0 0 rfl rfl (by decide) fl_X8_12 rfl dX8_name_15 ?_
    refine aw_get X (pc := 18) iX5 5 0 rfl rfl (by decide) fl_X8_39 rfl dX8_name_18 ?_
    refine aw_get X (pc := 21) iX6 6 1 rfl rfl (by decide) fl_X8_53 rfl dX8_name_21 ?_
    refine aw_iload_n X (pc := 24) 1 rfl rfl dX8_name_24 ?_
    refine aw_lald X (pc := 25) 8 4 tag.toNatClampNeg ht2 rfl rfl (by decide) (by omega) dX8_name_25 ?_
    refine aw_goto X (pc := 26) (tgt := 30) (by decide) dX8_name_26 ?_
    exact aw_lret X (v := names tag.toNatClampNeg) hQ (by simp only [r_X8_name, if_neg c1]; try rfl) rfl dX8_name_30

def r_X8_isName (name : Int64) : Int32 := if lg_cmp (name &&& 255) ((lpF (b_X8_sumOf_4 name) 56 0 0).toInt64) = 0 then 1 else 0
theorem z_X8_isName (name : Int64) : r_X8_isName name = 0 ∨ r_X8_isName name = 1 := by
  unfold r_X8_isName
  by_cases h0 : lg_cmp (name &&& 255) ((lpF (b_X8_sumOf_4 name) 56 0 0).toInt64) = 0
  · try rw [if_pos h0]
    exact Or.inr rfl
  · try rw [if_neg h0]
    exact Or.inl rfl
abbrev rm_X8_isName : Room := { frames := 2, cells := 0, slots := 0, locals := 46 }
set_option maxHeartbeats 400000 in
set_option maxRecDepth 100000 in
theorem c_X8_isName (l : Launch) (D : va_G) (r0 : Nat) (ri : Nat) (rs : Nat) (kS : ClassId) (sl : Nat → Int64) (qC : Nat → Nat) (kC : Nat → ClassId) (pr : Nat → Int64) (nx : Nat → Int64) (ns : Int32) (csz : Int32) (s0 : Nat) (qT : Nat → Nat) (kT : Nat → ClassId) (kinds : Nat → Int32) (names : Nat → Int64) (seeds : Nat → Int32) (ones : Nat → Int64) (ofk : Nat → Int64) (sz : Int32) (there : Int64) (awake : Int64) (grp : Int64) (gm : Int64) (gb : Int64) (p0 : Nat) (lf : Int32) (ir : Int32) (ln : Int64) (qL : Nat → Nat) (kL : Nat → ClassId) (rows : Nat → Int64) (lens : Nat → Int32) (psz : Int32) (qK : Nat → Nat) (kK : Nat → ClassId) (vals : Nat → Int32) (hold : Int64) (call : Int32) (f0 : Nat) (fio : Int64) (fqu : Int32) (fal : Int32) (fco : Int32) (fgu : Int32) (qY : Nat → Nat) (kY : Nat → ClassId) (ft : Nat → Int32) (fs : Int32) (qs : Int32) (als : Int32) (cs : Int32) (ps : Int32) (wire : Int32) (alo : Int32) (name : Int64)  : MW l D yX8_isName (Cond.code yX8_isName cX8_isName 3 (some .boolean) :: TT) rm_X8_isName [.ref r0, .long name] [(kS, .long), (kC 1, .long), (kC 2, .long), (kT 1, .int), (kT 2, .long), (kT 3, .int), (kT 4, .long), (kT 5, .long), (kL 1, .long), (kL 2, .int), (kK 1, .int), (kY 1, .int)] (rolW r0 ri rs kS sl qC kC pr nx ns csz s0 qT kT kinds names seeds ones ofk sz there awake grp gm gb p0 lf ir ln qL kL rows lens psz qK kK vals hold call f0 fio fqu fal fco fgu qY kY ft fs qs als cs ps wire alo) (some (.int (r_X8_isName name))) (rolW r0 ri rs kS sl qC kC pr nx ns csz s0 qT kT kinds names seeds ones ofk sz there awake grp gm gb p0 lf ir ln qL kL rows lens psz qK kK vals hold call f0 fio fqu fal fco fgu qY kY ft fs qs als cs ps wire alo) := by
  refine MW.of (cc := cX8_isName) (nL := 3) (ret := (some .boolean)) (lv := [(0, .ref r0), (1, .long name)]) (by decide) rfl rfl (Nat.le_of_ble_eq_true rfl) ?_
  intro p e s m args below meth c A Q hQ X
  refine aw_lload_n X (pc := 0) 1 rfl rfl dX8_isName_0 ?_
  refine aw_ldc2 X (pc := 1) ld_X8_56 dX8_isName_1 ?_
  refine aw_land X (pc := 4) (z := name &&& 255) rfl dX8_isName_4 ?_
  refine aw_lload_n X (pc := 5) 1 rfl rfl dX8_isName_5 ?_
  refine aw_callS X (pc := 6) (rest := [.long (name &&& 255)]) (st' := [.int (lpF (b_X8_sumOf_4 name) 56 0 0), .long (name &&& 255)]) (ws' := (rolW r0 ri rs kS sl qC kC pr nx ns csz s0 qT kT kinds names seeds ones ofk sz there awake grp gm gb p0 lf ir ln qL kL rows lens psz qK kK vals hold call f0 fio fqu fal fco fgu qY kY ft fs qs als cs ps wire alo)) (c_X8_sumOf l D name) rfl [] [] rfl (by decide +kernel) rfl rfl cf_X8_35 cd_X8_sumOf dd_X8_sumOf (by decide) (by decide) (by decide) rfl (Nat.le_of_ble_eq_true rfl) dX8_isName_6 rfl ?_
  refine aw_i2l X (pc := 9) (z := (lpF (b_X8_sumOf_4 name) 56 0 0).toInt64) rfl dX8_isName_9 ?_
  refine aw_lcmp X (pc := 10) dX8_isName_10 ?_
  refine aw_if_ne X (pc := 11) (tgt := 18) (by decide) dX8_isName_11 (fun c1 => ?_) (fun c1 => ?_)
  · refine aw_iconst X (pc := 18) (v := 0) dX8_isName_18 (by decide) ?_
    exact aw_zret X (v := 0) rfl hQ (by simp only [r_X8_isName, if_neg c1]; try rfl) rfl dX8_isName_19
  · refine aw_iconst X (pc := 14) (v := 1) dX8_isName_14 (by decide) ?_
    refine aw_goto X (pc := 15) (tgt := 19) (by decide) dX8_isName_15 ?_
    exact aw_zret X (v := 1) rfl hQ (by simp only [r_X8_isName, if_pos c1]; try rfl) rfl dX8_isName_19

def r_X8_tell (kinds : Nat → Int32) (seeds : Nat → Int32) (sz : Int32) (there : Int64) (awake : Int64) (grp : Int64) (vals : Nat → Int32) (hold : Int64) (ft : Nat → Int32) (f : Nat) (tag : Int32) (what : Int32) : Int32 := if r_X6_has sz tag = 0 then (-1) else (if what = 0 then (kinds tag.toNatClampNeg) else (if what = 1 then (r_X8_oneIf (r_X8_isIn there tag)) else (if what = 2 then (r_X8_oneIf (r_X8_isIn awake tag)) else (if what = 3 then (r_X8_oneIf (r_X8_isIn ((there &&& awake) &&& grp) tag)) else (if what = 4 then (r_X0_of vals hold tag) else (if what = 5 then (seeds tag.toNatClampNeg) else (if what = 6 then (lpF (b_X7_timesFound_4 ft tag) f 0 0) else (-1))))))))
abbrev rm_X8_tell : Room := { frames := 3, cells := 0, slots := 0, locals := 63 }
set_option maxHeartbeats 400000 in
set_option maxRecDepth 100000 in
theorem c_X8_tell (l : Launch) (D : va_G) (r0 : Nat) (ri : Nat) (rs : Nat) (kS : ClassId) (sl : Nat → Int64) (qC : Nat → Nat) (kC : Nat → ClassId) (pr : Nat → Int64) (nx : Nat → Int64) (ns : Int32) (csz : Int32) (s0 : Nat) (qT : Nat → Nat) (kT : Nat → ClassId) (kinds : Nat → Int32) (names : Nat → Int64) (seeds : Nat → Int32) (ones : Nat → Int64) (ofk : Nat → Int64) (sz : Int32) (there : Int64) (awake : Int64) (grp : Int64) (gm : Int64) (gb : Int64) (p0 : Nat) (lf : Int32) (ir : Int32) (ln : Int64) (qL : Nat → Nat) (kL : Nat → ClassId) (rows : Nat → Int64) (lens : Nat → Int32) (psz : Int32) (qK : Nat → Nat) (kK : Nat → ClassId) (vals : Nat → Int32) (hold : Int64) (call : Int32) (f0 : Nat) (fio : Int64) (fqu : Int32) (fal : Int32) (fco : Int32) (fgu : Int32) (qY : Nat → Nat) (kY : Nat → ClassId) (ft : Nat → Int32) (fs : Int32) (qs : Int32) (als : Int32) (cs : Int32) (ps : Int32) (wire : Int32) (alo : Int32) (n : Nat) (f : Nat) (tag : Int32) (what : Int32) (hsz : sz = nI n) (hn : n ≤ 40) (hfs : fs = nI f) (hf : f ≤ 200) : MW l D yX8_tell (Cond.code yX8_tell cX8_tell 3 (some .int) :: TT) rm_X8_tell [.ref r0, .int tag, .int what] [(kS, .long), (kC 1, .long), (kC 2, .long), (kT 1, .int), (kT 2, .long), (kT 3, .int), (kT 4, .long), (kT 5, .long), (kL 1, .long), (kL 2, .int), (kK 1, .int), (kY 1, .int)] (rolW r0 ri rs kS sl qC kC pr nx ns csz s0 qT kT kinds names seeds ones ofk sz there awake grp gm gb p0 lf ir ln qL kL rows lens psz qK kK vals hold call f0 fio fqu fal fco fgu qY kY ft fs qs als cs ps wire alo) (some (.int (r_X8_tell kinds seeds sz there awake grp vals hold ft f tag what))) (rolW r0 ri rs kS sl qC kC pr nx ns csz s0 qT kT kinds names seeds ones ofk sz there awake grp gm gb p0 lf ir ln qL kL rows lens psz qK kK vals hold call f0 fio fqu fal fco fgu qY kY ft fs qs als cs ps wire alo) := by
  refine MW.of (cc := cX8_tell) (nL := 3) (ret := (some .int)) (lv := [(0, .ref r0), (1, .int tag), (2, .int what)]) (by decide) rfl rfl (Nat.le_of_ble_eq_true rfl) ?_
  intro p e s m args below meth c A Q hQ X
  refine aw_aload_n X (pc := 0) 0 rfl rfl dX8_tell_0 ?_
  refine aw_get X (pc := 1) iX8 0 0 rfl rfl (by decide) fl_X8_12 rfl dX8_tell_1 ?_
  refine aw_get X (pc := 4) iX5 5 0 rfl rfl (by decide) fl_X8_39 rfl dX8_tell_4 ?_
  refine aw_iload_n X (pc := 7) 1 rfl rfl dX8_tell_7 ?_
  refine aw_callV X (pc := 8) (q1 := 6) (rest := []) (st' := [.int (r_X6_has sz tag)]) (ws' := (rolW r0 ri rs kS sl qC kC pr nx ns csz s0 qT kT kinds names seeds ones ofk sz there awake grp gm gb p0 lf ir ln qL kL rows lens psz qK kK vals hold call f0 fio fqu fal fco fgu qY kY ft fs qs als cs ps wire alo)) (c_X6_has l D qT kT kinds names seeds ones ofk sz there awake grp gm gb tag) rfl rfl [6, 7, 8, 9, 10, 11] [3, 4, 5, 6, 7] rfl (by decide +kernel) rfl rfl ⟨_, _, rfl⟩ rfl cf_X8_49 cd_X6_has dd_X6_has (by decide) (by decide) (by decide) rfl (Nat.le_of_ble_eq_true rfl) dX8_tell_8 rfl ?_
  refine aw_if_ne X (pc := 11) (tgt := 16) (by decide) dX8_tell_11 (fun c1 => ?_) (fun c1 => ?_)
  · obtain ⟨ht2, hu3⟩ := has_nat (n := n) hsz (by omega) c1
    refine aw_iload_n X (pc := 16) 2 rfl rfl dX8_tell_16 ?_
    by_cases c4 : what = 0
    · refine aw_tableIn X (pc := 17) (tgt := 60) (by rw [c4]; decide) (by rw [c4]; decide) (by rw [c4]; rfl) (by decide) dX8_tell_17 ?_
      refine aw_aload_n X (pc := 60) 0 rfl rfl dX8_tell_60 ?_
      refine aw_get X (pc := 61) iX8 0 0 rfl rfl (by decide) fl_X8_12 rfl dX8_tell_61 ?_
      refine aw_get X (pc := 64) iX5 5 0 rfl rfl (by decide) fl_X8_39 rfl dX8_tell_64 ?_
      refine aw_get X (pc := 67) iX6 6 0 rfl rfl (by decide) fl_X8_58 rfl dX8_tell_67 ?_
      refine aw_iload_n X (pc := 70) 1 rfl rfl dX8_tell_70 ?_
      refine aw_iald X (pc := 71) 7 3 tag.toNatClampNeg ht2 rfl rfl (by decide) (by omega) dX8_tell_71 ?_
      exact aw_iret X (v := kinds tag.toNatClampNeg) hQ (by simp only [r_X8_tell, if_neg c1, if_pos c4]; try rfl) rfl dX8_tell_72
    · by_cases c5 : what = 1
      · refine aw_tableIn X (pc := 17) (tgt := 73) (by rw [c5]; decide) (by rw [c5]; decide) (by rw [c5]; rfl) (by decide) dX8_tell_17 ?_
        refine aw_aload_n X (pc := 73) 0 rfl rfl dX8_tell_73 ?_
        refine aw_get X (pc := 74) iX8 0 0 rfl rfl (by decide) fl_X8_12 rfl dX8_tell_74 ?_
        refine aw_get X (pc := 77) iX5 5 0 rfl rfl (by decide) fl_X8_39 rfl dX8_tell_77 ?_
        refine aw_get X (pc := 80) iX6 6 6 rfl rfl (by decide) fl_X8_62 rfl dX8_tell_80 ?_
        refine aw_iload_n X (pc := 83) 1 rfl rfl dX8_tell_83 ?_
        refine aw_callS X (pc := 84) (rest := []) (st' := [.int (r_X8_isIn there tag)]) (ws' := (rolW r0 ri rs kS sl qC kC pr nx ns csz s0 qT kT kinds names seeds ones ofk sz there awake grp gm gb p0 lf ir ln qL kL rows lens psz qK kK vals hold call f0 fio fqu fal fco fgu qY kY ft fs qs als cs ps wire alo)) (c_X8_isIn l D there tag) rfl [] [] rfl (by decide +kernel) rfl rfl cf_X8_66 cd_X8_isIn dd_X8_isIn (by decide) (by decide) (by decide) rfl (Nat.le_of_ble_eq_true rfl) dX8_tell_84 rfl ?_
        refine aw_callS X (pc := 87) (rest := []) (st' := [.int (r_X8_oneIf (r_X8_isIn there tag))]) (ws' := (rolW r0 ri rs kS sl qC kC pr nx ns csz s0 qT kT kinds names seeds ones ofk sz there awake grp gm gb p0 lf ir ln qL kL rows lens psz qK kK vals hold call f0 fio fqu fal fco fgu qY kY ft fs qs als cs ps wire alo)) (c_X8_oneIf l D (r_X8_isIn there tag)) rfl [] [] rfl (by decide +kernel) rfl rfl cf_X8_70 cd_X8_oneIf dd_X8_oneIf (by decide) (by decide) (by decide) rfl (Nat.le_of_ble_eq_true rfl) dX8_tell_87 rfl ?_
        exact aw_iret X (v := r_X8_oneIf (r_X8_isIn there tag)) hQ (by simp only [r_X8_tell, if_neg c1, if_neg c4, if_pos c5]; try rfl) rfl dX8_tell_90
      · by_cases c6 : what = 2
        · refine aw_tableIn X (pc := 17) (tgt := 91) (by rw [c6]; decide) (by rw [c6]; decide) (by rw [c6]; rfl) (by decide) dX8_tell_17 ?_
          refine aw_aload_n X (pc := 91) 0 rfl rfl dX8_tell_91 ?_
          refine aw_get X (pc := 92) iX8 0 0 rfl rfl (by decide) fl_X8_12 rfl dX8_tell_92 ?_
          refine aw_get X (pc := 95) iX5 5 0 rfl rfl (by decide) fl_X8_39 rfl dX8_tell_95 ?_
          refine aw_get X (pc := 98) iX6 6 7 rfl rfl (by decide) fl_X8_74 rfl dX8_tell_98 ?_
          refine aw_iload_n X (pc := 101) 1 rfl rfl dX8_tell_101 ?_
          refine aw_callS X (pc := 102) (rest := []) (st' := [.int (r_X8_isIn awake tag)]) (ws' := (rolW r0 ri rs kS sl qC kC pr nx ns csz s0 qT kT kinds names seeds ones ofk sz there awake grp gm gb p0 lf ir ln qL kL rows lens psz qK kK vals hold call f0 fio fqu fal fco fgu qY kY ft fs qs als cs ps wire alo)) (c_X8_isIn l D awake tag) rfl [] [] rfl (by decide +kernel) rfl rfl cf_X8_66 cd_X8_isIn dd_X8_isIn (by decide) (by decide) (by decide) rfl (Nat.le_of_ble_eq_true rfl) dX8_tell_102 rfl ?_
          refine aw_callS X (pc := 105) (rest := []) (st' := [.int (r_X8_oneIf (r_X8_isIn awake tag))]) (ws' := (rolW r0 ri rs kS sl qC kC pr nx ns csz s0 qT kT kinds names seeds ones ofk sz there awake grp gm gb p0 lf ir ln qL kL rows lens psz qK kK vals hold call f0 fio fqu fal fco fgu qY kY ft fs qs als cs ps wire alo)) (c_X8_oneIf l D (r_X8_isIn awake tag)) rfl [] [] rfl (by decide +kernel) rfl rfl cf_X8_70 cd_X8_oneIf dd_X8_oneIf (by decide) (by decide) (by decide) rfl (Nat.le_of_ble_eq_true rfl) dX8_tell_105 rfl ?_
          exact aw_iret X (v := r_X8_oneIf (r_X8_isIn awake tag)) hQ (by simp only [r_X8_tell, if_neg c1, if_neg c4, if_neg c5, if_pos c6]; try rfl) rfl dX8_tell_108
        · by_cases c7 : what = 3
          · refine aw_tableIn X (pc := 17) (tgt := 109) (by rw [c7]; decide) (by rw [c7]; decide) (by rw [c7]; rfl) (by decide) dX8_tell_17 ?_
            refine aw_aload_n X (pc := 109) 0 rfl rfl dX8_tell_109 ?_
            refine aw_get X (pc := 110) iX8 0 0 rfl rfl (by decide) fl_X8_12 rfl dX8_tell_110 ?_
            refine aw_get X (pc := 113) iX5 5 0 rfl rfl (by decide) fl_X8_39 rfl dX8_tell_113 ?_
            refine aw_callV X (pc := 116) (q1 := 6) (rest := []) (st' := [.long ((there &&& awake) &&& grp)]) (ws' := (rolW r0 ri rs kS sl qC kC pr nx ns csz s0 qT kT kinds names seeds ones ofk sz there awake grp gm gb p0 lf ir ln qL kL rows lens psz qK kK vals hold call f0 fio fqu fal fco fgu qY kY ft fs qs als cs ps wire alo)) (c_X6_listening l D qT kT kinds names seeds ones ofk sz there awake grp gm gb) rfl rfl [6, 7, 8, 9, 10, 11] [3, 4, 5, 6, 7] rfl (by decide +kernel) rfl rfl ⟨_, _, rfl⟩ rfl cf_X8_77 cd_X6_listening dd_X6_listening (by decide) (by decide) (by decide) rfl (Nat.le_of_ble_eq_true rfl) dX8_tell_116 rfl ?_
            refine aw_iload_n X (pc := 119) 1 rfl rfl dX8_tell_119 ?_
            refine aw_callS X (pc := 120) (rest := []) (st' := [.int (r_X8_isIn ((there &&& awake) &&& grp) tag)]) (ws' := (rolW r0 ri rs kS sl qC kC pr nx ns csz s0 qT kT kinds names seeds ones ofk sz there awake grp gm gb p0 lf ir ln qL kL rows lens psz qK kK vals hold call f0 fio fqu fal fco fgu qY kY ft fs qs als cs ps wire alo)) (c_X8_isIn l D ((there &&& awake) &&& grp) tag) rfl [] [] rfl (by decide +kernel) rfl rfl cf_X8_66 cd_X8_isIn dd_X8_isIn (by decide) (by decide) (by decide) rfl (Nat.le_of_ble_eq_true rfl) dX8_tell_120 rfl ?_
            refine aw_callS X (pc := 123) (rest := []) (st' := [.int (r_X8_oneIf (r_X8_isIn ((there &&& awake) &&& grp) tag))]) (ws' := (rolW r0 ri rs kS sl qC kC pr nx ns csz s0 qT kT kinds names seeds ones ofk sz there awake grp gm gb p0 lf ir ln qL kL rows lens psz qK kK vals hold call f0 fio fqu fal fco fgu qY kY ft fs qs als cs ps wire alo)) (c_X8_oneIf l D (r_X8_isIn ((there &&& awake) &&& grp) tag)) rfl [] [] rfl (by decide +kernel) rfl rfl cf_X8_70 cd_X8_oneIf dd_X8_oneIf (by decide) (by decide) (by decide) rfl (Nat.le_of_ble_eq_true rfl) dX8_tell_123 rfl ?_
            exact aw_iret X (v := r_X8_oneIf (r_X8_isIn ((there &&& awake) &&& grp) tag)) hQ (by simp only [r_X8_tell, if_neg c1, if_neg c4, if_neg c5, if_neg c6, if_pos c7]; try rfl) rfl dX8_tell_126
          · by_cases c8 : what = 4
            · refine aw_tableIn X (pc := 17) (tgt := 127) (by rw [c8]; decide) (by rw [c8]; decide) (by rw [c8]; rfl) (by decide) dX8_tell_17 ?_
              refine aw_aload_n X (pc := 127) 0 rfl rfl dX8_tell_127 ?_
              refine aw_get X (pc := 128) iX8 0 0 rfl rfl (by decide) fl_X8_12 rfl dX8_tell_128 ?_
              refine aw_get X (pc := 131) iX5 5 3 rfl rfl (by decide) fl_X8_81 rfl dX8_tell_131 ?_
              refine aw_iload_n X (pc := 134) 1 rfl rfl dX8_tell_134 ?_
              refine aw_callV X (pc := 135) (q1 := 16) (rest := []) (st' := [.int (r_X0_of vals hold tag)]) (ws' := (rolW r0 ri rs kS sl qC kC pr nx ns csz s0 qT kT kinds names seeds ones ofk sz there awake grp gm gb p0 lf ir ln qL kL rows lens psz qK kK vals hold call f0 fio fqu fal fco fgu qY kY ft fs qs als cs ps wire alo)) (c_X0_of l D qK kK vals hold call tag) rfl rfl [16, 17] [10] rfl (by decide +kernel) rfl rfl ⟨_, _, rfl⟩ rfl cf_X8_85 cd_X0_of dd_X0_of (by decide) (by decide) (by decide) rfl (Nat.le_of_ble_eq_true rfl) dX8_tell_135 rfl ?_
              exact aw_iret X (v := r_X0_of vals hold tag) hQ (by simp only [r_X8_tell, if_neg c1, if_neg c4, if_neg c5, if_neg c6, if_neg c7, if_pos c8]; try rfl) rfl dX8_tell_138
            · by_cases c9 : what = 5
              · refine aw_tableIn X (pc := 17) (tgt := 139) (by rw [c9]; decide) (by rw [c9]; decide) (by rw [c9]; rfl) (by decide) dX8_tell_17 ?_
                refine aw_aload_n X (pc := 139) 0 rfl rfl dX8_tell_139 ?_
                refine aw_get X (pc := 140) iX8 0 0 rfl rfl (by decide) fl_X8_12 rfl dX8_tell_140 ?_
                refine aw_get X (pc := 143) iX5 5 0 rfl rfl (by decide) fl_X8_39 rfl dX8_tell_143 ?_
                refine aw_get X (pc := 146) iX6 6 2 rfl rfl (by decide) fl_X8_91 rfl dX8_tell_146 ?_
                refine aw_iload_n X (pc := 149) 1 rfl rfl dX8_tell_149 ?_
                refine aw_iald X (pc := 150) 9 5 tag.toNatClampNeg ht2 rfl rfl (by decide) (by omega) dX8_tell_150 ?_
                exact aw_iret X (v := seeds tag.toNatClampNeg) hQ (by simp only [r_X8_tell, if_neg c1, if_neg c4, if_neg c5, if_neg c6, if_neg c7, if_neg c8, if_pos c9]; try rfl) rfl dX8_tell_151
              · by_cases c10 : what = 6
                · refine aw_tableIn X (pc := 17) (tgt := 152) (by rw [c10]; decide) (by rw [c10]; decide) (by rw [c10]; rfl) (by decide) dX8_tell_17 ?_
                  refine aw_aload_n X (pc := 152) 0 rfl rfl dX8_tell_152 ?_
                  refine aw_get X (pc := 153) iX8 0 0 rfl rfl (by decide) fl_X8_12 rfl dX8_tell_153 ?_
                  refine aw_get X (pc := 156) iX5 5 5 rfl rfl (by decide) fl_X8_94 rfl dX8_tell_156 ?_
                  refine aw_iload_n X (pc := 159) 1 rfl rfl dX8_tell_159 ?_
                  refine aw_callV X (pc := 160) (q1 := 19) (rest := []) (st' := [.int (lpF (b_X7_timesFound_4 ft tag) f 0 0)]) (ws' := (rolW r0 ri rs kS sl qC kC pr nx ns csz s0 qT kT kinds names seeds ones ofk sz there awake grp gm gb p0 lf ir ln qL kL rows lens psz qK kK vals hold call f0 fio fqu fal fco fgu qY kY ft fs qs als cs ps wire alo)) (c_X7_timesFound l D qY kY ft fs qs als cs ps f tag hfs (by omega)) rfl rfl [19, 20] [11] rfl (by decide +kernel) rfl rfl ⟨_, _, rfl⟩ rfl cf_X8_98 cd_X7_timesFound dd_X7_timesFound (by decide) (by decide) (by decide) rfl (Nat.le_of_ble_eq_true rfl) dX8_tell_160 rfl ?_
                  exact aw_iret X (v := (lpF (b_X7_timesFound_4 ft tag) f 0 0)) hQ (by simp only [r_X8_tell, if_neg c1, if_neg c4, if_neg c5, if_neg c6, if_neg c7, if_neg c8, if_neg c9, if_pos c10]; try rfl) rfl dX8_tell_163
                · refine aw_tableOut X (pc := 17) (tgt := 164) (tb_out6 c4 c5 c6 c7 c8 c9 c10) (by decide) dX8_tell_17 ?_
                  refine aw_iconst X (pc := 164) (v := (-1)) dX8_tell_164 (by decide) ?_
                  exact aw_iret X (v := (-1)) hQ (by simp only [r_X8_tell, if_neg c1, if_neg c4, if_neg c5, if_neg c6, if_neg c7, if_neg c8, if_neg c9, if_neg c10]; try rfl) rfl dX8_tell_165
  · refine aw_iconst X (pc := 14) (v := (-1)) dX8_tell_14 (by decide) ?_
    exact aw_iret X (v := (-1)) hQ (by simp only [r_X8_tell, if_pos c1]; try rfl) rfl dX8_tell_15

def r_X8_act (kinds : Nat → Int32) (sz : Int32) (there : Int64) (awake : Int64) (tag : Int32) (what : Int32) : Int32 := if r_X6_has sz tag = 0 then 0 else (if what = 0 then (r_X6_setThere there tag 0) else (if what = 1 then (r_X6_setThere there tag 1) else (if what = 2 then (r_X6_setAwake awake tag 1) else (if what = 3 then (if kinds tag.toNatClampNeg = 4 then (if r_X6_setAwake awake tag 0 = 0 then 0 else 1) else 0) else 0))))
def u_X8_act_there (sz : Int32) (there : Int64) (tag : Int32) (what : Int32) : Int64 := if r_X6_has sz tag = 0 then there else (if what = 0 then (u_X6_setThere_there there tag 0) else (if what = 1 then (u_X6_setThere_there there tag 1) else there))
def u_X8_act_awake (kinds : Nat → Int32) (sz : Int32) (awake : Int64) (tag : Int32) (what : Int32) : Int64 := if r_X6_has sz tag = 0 then awake else (if what = 0 then awake else (if what = 1 then awake else (if what = 2 then (u_X6_setAwake_awake awake tag 1) else (if what = 3 then (if kinds tag.toNatClampNeg = 4 then (u_X6_setAwake_awake awake tag 0) else awake) else awake))))
theorem z_X8_act (kinds : Nat → Int32) (sz : Int32) (there : Int64) (awake : Int64) (tag : Int32) (what : Int32) : r_X8_act kinds sz there awake tag what = 0 ∨ r_X8_act kinds sz there awake tag what = 1 := by
  unfold r_X8_act
  by_cases h0 : r_X6_has sz tag = 0
  · try rw [if_pos h0]
    exact Or.inl rfl
  · try rw [if_neg h0]
    by_cases h1 : what = 0
    · try rw [if_pos h1]
      exact z_X6_setThere ..
    · try rw [if_neg h1]
      by_cases h2 : what = 1
      · try rw [if_pos h2]
        exact z_X6_setThere ..
      · try rw [if_neg h2]
        by_cases h3 : what = 2
        · try rw [if_pos h3]
          exact z_X6_setAwake ..
        · try rw [if_neg h3]
          by_cases h4 : what = 3
          · try rw [if_pos h4]
            by_cases h5 : kinds tag.toNatClampNeg = 4
            · try rw [if_pos h5]
              by_cases h6 : r_X6_setAwake awake tag 0 = 0
              · try rw [if_pos h6]
                exact Or.inl rfl
              · try rw [if_neg h6]
                exact Or.inr rfl
            · try rw [if_neg h5]
              exact Or.inl rfl
          · try rw [if_neg h4]
            exact Or.inl rfl
abbrev rm_X8_act : Room := { frames := 3, cells := 0, slots := 0, locals := 64 }
set_option maxHeartbeats 400000 in
set_option maxRecDepth 100000 in
theorem c_X8_act (l : Launch) (D : va_G) (r0 : Nat) (ri : Nat) (rs : Nat) (kS : ClassId) (sl : Nat → Int64) (qC : Nat → Nat) (kC : Nat → ClassId) (pr : Nat → Int64) (nx : Nat → Int64) (ns : Int32) (csz : Int32) (s0 : Nat) (qT : Nat → Nat) (kT : Nat → ClassId) (kinds : Nat → Int32) (names : Nat → Int64) (seeds : Nat → Int32) (ones : Nat → Int64) (ofk : Nat → Int64) (sz : Int32) (there : Int64) (awake : Int64) (grp : Int64) (gm : Int64) (gb : Int64) (p0 : Nat) (lf : Int32) (ir : Int32) (ln : Int64) (qL : Nat → Nat) (kL : Nat → ClassId) (rows : Nat → Int64) (lens : Nat → Int32) (psz : Int32) (qK : Nat → Nat) (kK : Nat → ClassId) (vals : Nat → Int32) (hold : Int64) (call : Int32) (f0 : Nat) (fio : Int64) (fqu : Int32) (fal : Int32) (fco : Int32) (fgu : Int32) (qY : Nat → Nat) (kY : Nat → ClassId) (ft : Nat → Int32) (fs : Int32) (qs : Int32) (als : Int32) (cs : Int32) (ps : Int32) (wire : Int32) (alo : Int32) (n : Nat) (tag : Int32) (what : Int32) (hsz : sz = nI n) (hn : n ≤ 40) : MW l D yX8_act (Cond.code yX8_act cX8_act 3 (some .boolean) :: TT) rm_X8_act [.ref r0, .int tag, .int what] [(kS, .long), (kC 1, .long), (kC 2, .long), (kT 1, .int), (kT 2, .long), (kT 3, .int), (kT 4, .long), (kT 5, .long), (kL 1, .long), (kL 2, .int), (kK 1, .int), (kY 1, .int)] (rolW r0 ri rs kS sl qC kC pr nx ns csz s0 qT kT kinds names seeds ones ofk sz there awake grp gm gb p0 lf ir ln qL kL rows lens psz qK kK vals hold call f0 fio fqu fal fco fgu qY kY ft fs qs als cs ps wire alo) (some (.int (r_X8_act kinds sz there awake tag what))) (rolW r0 ri rs kS sl qC kC pr nx ns csz s0 qT kT kinds names seeds ones ofk sz (u_X8_act_there sz there tag what) (u_X8_act_awake kinds sz awake tag what) grp gm gb p0 lf ir ln qL kL rows lens psz qK kK vals hold call f0 fio fqu fal fco fgu qY kY ft fs qs als cs ps wire alo) := by
  refine MW.of (cc := cX8_act) (nL := 3) (ret := (some .boolean)) (lv := [(0, .ref r0), (1, .int tag), (2, .int what)]) (by decide) ((rolW_ad ..).trans (rolW_ad ..).symm) rfl (Nat.le_of_ble_eq_true rfl) ?_
  intro p e s m args below meth c A Q hQ X
  refine aw_aload_n X (pc := 0) 0 rfl rfl dX8_act_0 ?_
  refine aw_get X (pc := 1) iX8 0 0 rfl rfl (by decide) fl_X8_12 rfl dX8_act_1 ?_
  refine aw_get X (pc := 4) iX5 5 0 rfl rfl (by decide) fl_X8_39 rfl dX8_act_4 ?_
  refine aw_iload_n X (pc := 7) 1 rfl rfl dX8_act_7 ?_
  refine aw_callV X (pc := 8) (q1 := 6) (rest := []) (st' := [.int (r_X6_has sz tag)]) (ws' := (rolW r0 ri rs kS sl qC kC pr nx ns csz s0 qT kT kinds names seeds ones ofk sz there awake grp gm gb p0 lf ir ln qL kL rows lens psz qK kK vals hold call f0 fio fqu fal fco fgu qY kY ft fs qs als cs ps wire alo)) (c_X6_has l D qT kT kinds names seeds ones ofk sz there awake grp gm gb tag) rfl rfl [6, 7, 8, 9, 10, 11] [3, 4, 5, 6, 7] rfl (by decide +kernel) rfl rfl ⟨_, _, rfl⟩ rfl cf_X8_49 cd_X6_has dd_X6_has (by decide) (by decide) (by decide) rfl (Nat.le_of_ble_eq_true rfl) dX8_act_8 rfl ?_
  refine aw_if_ne X (pc := 11) (tgt := 16) (by decide) dX8_act_11 (fun c1 => ?_) (fun c1 => ?_)
  · obtain ⟨ht2, hu3⟩ := has_nat (n := n) hsz (by omega) c1
    refine aw_iload_n X (pc := 16) 2 rfl rfl dX8_act_16 ?_
    by_cases c4 : what = 0
    · refine aw_tableIn X (pc := 17) (tgt := 48) (by rw [c4]; decide) (by rw [c4]; decide) (by rw [c4]; rfl) (by decide) dX8_act_17 ?_
      refine aw_aload_n X (pc := 48) 0 rfl rfl dX8_act_48 ?_
      refine aw_get X (pc := 49) iX8 0 0 rfl rfl (by decide) fl_X8_12 rfl dX8_act_49 ?_
      refine aw_get X (pc := 52) iX5 5 0 rfl rfl (by decide) fl_X8_39 rfl dX8_act_52 ?_
      refine aw_iload_n X (pc := 55) 1 rfl rfl dX8_act_55 ?_
      refine aw_iconst X (pc := 56) (v := 0) dX8_act_56 (by decide) ?_
      refine aw_callV X (pc := 57) (q1 := 6) (rest := []) (st' := [.int (r_X6_setThere there tag 0)]) (ws' := (rolW r0 ri rs kS sl qC kC pr nx ns csz s0 qT kT kinds names seeds ones ofk sz (u_X6_setThere_there there tag 0) awake grp gm gb p0 lf ir ln qL kL rows lens psz qK kK vals hold call f0 fio fqu fal fco fgu qY kY ft fs qs als cs ps wire alo)) (c_X6_setThere l D qT kT kinds names seeds ones ofk sz there awake grp gm gb tag 0) rfl rfl [6, 7, 8, 9, 10, 11] [3, 4, 5, 6, 7] rfl (by decide +kernel) rfl rfl ⟨_, _, rfl⟩ rfl cf_X8_103 cd_X6_setThere dd_X6_setThere (by decide) (by decide) (by decide) rfl (Nat.le_of_ble_eq_true rfl) dX8_act_57 rfl ?_
      exact aw_zret X (v := r_X6_setThere there tag 0) (nrw_01 (z_X6_setThere ..)) hQ (by simp only [r_X8_act, if_neg c1, if_pos c4]; try rfl) (by simp only [u_X8_act_there, u_X8_act_awake, if_neg c1, if_pos c4]) dX8_act_60
    · by_cases c5 : what = 1
      · refine aw_tableIn X (pc := 17) (tgt := 61) (by rw [c5]; decide) (by rw [c5]; decide) (by rw [c5]; rfl) (by decide) dX8_act_17 ?_
        refine aw_aload_n X (pc := 61) 0 rfl rfl dX8_act_61 ?_
        refine aw_get X (pc := 62) iX8 0 0 rfl rfl (by decide) fl_X8_12 rfl dX8_act_62 ?_
        refine aw_get X (pc := 65) iX5 5 0 rfl rfl (by decide) fl_X8_39 rfl dX8_act_65 ?_
        refine aw_iload_n X (pc := 68) 1 rfl rfl dX8_act_68 ?_
        refine aw_iconst X (pc := 69) (v := 1) dX8_act_69 (by decide) ?_
        refine aw_callV X (pc := 70) (q1 := 6) (rest := []) (st' := [.int (r_X6_setThere there tag 1)]) (ws' := (rolW r0 ri rs kS sl qC kC pr nx ns csz s0 qT kT kinds names seeds ones ofk sz (u_X6_setThere_there there tag 1) awake grp gm gb p0 lf ir ln qL kL rows lens psz qK kK vals hold call f0 fio fqu fal fco fgu qY kY ft fs qs als cs ps wire alo)) (c_X6_setThere l D qT kT kinds names seeds ones ofk sz there awake grp gm gb tag 1) rfl rfl [6, 7, 8, 9, 10, 11] [3, 4, 5, 6, 7] rfl (by decide +kernel) rfl rfl ⟨_, _, rfl⟩ rfl cf_X8_103 cd_X6_setThere dd_X6_setThere (by decide) (by decide) (by decide) rfl (Nat.le_of_ble_eq_true rfl) dX8_act_70 rfl ?_
        exact aw_zret X (v := r_X6_setThere there tag 1) (nrw_01 (z_X6_setThere ..)) hQ (by simp only [r_X8_act, if_neg c1, if_neg c4, if_pos c5]; try rfl) (by simp only [u_X8_act_there, u_X8_act_awake, if_neg c1, if_neg c4, if_pos c5]) dX8_act_73
      · by_cases c6 : what = 2
        · refine aw_tableIn X (pc := 17) (tgt := 74) (by rw [c6]; decide) (by rw [c6]; decide) (by rw [c6]; rfl) (by decide) dX8_act_17 ?_
          refine aw_aload_n X (pc := 74) 0 rfl rfl dX8_act_74 ?_
          refine aw_get X (pc := 75) iX8 0 0 rfl rfl (by decide) fl_X8_12 rfl dX8_act_75 ?_
          refine aw_get X (pc := 78) iX5 5 0 rfl rfl (by decide) fl_X8_39 rfl dX8_act_78 ?_
          refine aw_iload_n X (pc := 81) 1 rfl rfl dX8_act_81 ?_
          refine aw_iconst X (pc := 82) (v := 1) dX8_act_82 (by decide) ?_
          refine aw_callV X (pc := 83) (q1 := 6) (rest := []) (st' := [.int (r_X6_setAwake awake tag 1)]) (ws' := (rolW r0 ri rs kS sl qC kC pr nx ns csz s0 qT kT kinds names seeds ones ofk sz there (u_X6_setAwake_awake awake tag 1) grp gm gb p0 lf ir ln qL kL rows lens psz qK kK vals hold call f0 fio fqu fal fco fgu qY kY ft fs qs als cs ps wire alo)) (c_X6_setAwake l D qT kT kinds names seeds ones ofk sz there awake grp gm gb tag 1) rfl rfl [6, 7, 8, 9, 10, 11] [3, 4, 5, 6, 7] rfl (by decide +kernel) rfl rfl ⟨_, _, rfl⟩ rfl cf_X8_107 cd_X6_setAwake dd_X6_setAwake (by decide) (by decide) (by decide) rfl (Nat.le_of_ble_eq_true rfl) dX8_act_83 rfl ?_
          exact aw_zret X (v := r_X6_setAwake awake tag 1) (nrw_01 (z_X6_setAwake ..)) hQ (by simp only [r_X8_act, if_neg c1, if_neg c4, if_neg c5, if_pos c6]; try rfl) (by simp only [u_X8_act_there, u_X8_act_awake, if_neg c1, if_neg c4, if_neg c5, if_pos c6]) dX8_act_86
        · by_cases c7 : what = 3
          · refine aw_tableIn X (pc := 17) (tgt := 87) (by rw [c7]; decide) (by rw [c7]; decide) (by rw [c7]; rfl) (by decide) dX8_act_17 ?_
            refine aw_aload_n X (pc := 87) 0 rfl rfl dX8_act_87 ?_
            refine aw_get X (pc := 88) iX8 0 0 rfl rfl (by decide) fl_X8_12 rfl dX8_act_88 ?_
            refine aw_get X (pc := 91) iX5 5 0 rfl rfl (by decide) fl_X8_39 rfl dX8_act_91 ?_
            refine aw_get X (pc := 94) iX6 6 0 rfl rfl (by decide) fl_X8_58 rfl dX8_act_94 ?_
            refine aw_iload_n X (pc := 97) 1 rfl rfl dX8_act_97 ?_
            refine aw_iald X (pc := 98) 7 3 tag.toNatClampNeg ht2 rfl rfl (by decide) (by omega) dX8_act_98 ?_
            refine aw_iconst X (pc := 99) (v := 4) dX8_act_99 (by decide) ?_
            refine aw_icmp_ne X (pc := 100) (tgt := 122) (by decide) dX8_act_100 (fun c8 => ?_) (fun c8 => ?_)
            · refine aw_iconst X (pc := 122) (v := 0) dX8_act_122 (by decide) ?_
              exact aw_zret X (v := 0) rfl hQ (by simp only [r_X8_act, if_neg c1, if_neg c4, if_neg c5, if_neg c6, if_pos c7, if_neg c8]; try rfl) (by simp only [u_X8_act_there, u_X8_act_awake, if_neg c1, if_neg c4, if_neg c5, if_neg c6, if_pos c7, if_neg c8]) dX8_act_123
            · refine aw_aload_n X (pc := 103) 0 rfl rfl dX8_act_103 ?_
              refine aw_get X (pc := 104) iX8 0 0 rfl rfl (by decide) fl_X8_12 rfl dX8_act_104 ?_
              refine aw_get X (pc := 107) iX5 5 0 rfl rfl (by decide) fl_X8_39 rfl dX8_act_107 ?_
              refine aw_iload_n X (pc := 110) 1 rfl rfl dX8_act_110 ?_
              refine aw_iconst X (pc := 111) (v := 0) dX8_act_111 (by decide) ?_
              refine aw_callV X (pc := 112) (q1 := 6) (rest := []) (st' := [.int (r_X6_setAwake awake tag 0)]) (ws' := (rolW r0 ri rs kS sl qC kC pr nx ns csz s0 qT kT kinds names seeds ones ofk sz there (u_X6_setAwake_awake awake tag 0) grp gm gb p0 lf ir ln qL kL rows lens psz qK kK vals hold call f0 fio fqu fal fco fgu qY kY ft fs qs als cs ps wire alo)) (c_X6_setAwake l D qT kT kinds names seeds ones ofk sz there awake grp gm gb tag 0) rfl rfl [6, 7, 8, 9, 10, 11] [3, 4, 5, 6, 7] rfl (by decide +kernel) rfl rfl ⟨_, _, rfl⟩ rfl cf_X8_107 cd_X6_setAwake dd_X6_setAwake (by decide) (by decide) (by decide) rfl (Nat.le_of_ble_eq_true rfl) dX8_act_112 rfl ?_
              refine aw_if_eq X (pc := 115) (tgt := 122) (by decide) dX8_act_115 (fun c9 => ?_) (fun c9 => ?_)
              · refine aw_iconst X (pc := 122) (v := 0) dX8_act_122 (by decide) ?_
                exact aw_zret X (v := 0) rfl hQ (by simp only [r_X8_act, if_neg c1, if_neg c4, if_neg c5, if_neg c6, if_pos c7, if_pos c8, if_pos c9]; try rfl) (by simp only [u_X8_act_there, u_X8_act_awake, if_neg c1, if_neg c4, if_neg c5, if_neg c6, if_pos c7, if_pos c8, if_pos c9]) dX8_act_123
              · refine aw_iconst X (pc := 118) (v := 1) dX8_act_118 (by decide) ?_
                refine aw_goto X (pc := 119) (tgt := 123) (by decide) dX8_act_119 ?_
                exact aw_zret X (v := 1) rfl hQ (by simp only [r_X8_act, if_neg c1, if_neg c4, if_neg c5, if_neg c6, if_pos c7, if_pos c8, if_neg c9]; try rfl) (by simp only [u_X8_act_there, u_X8_act_awake, if_neg c1, if_neg c4, if_neg c5, if_neg c6, if_pos c7, if_pos c8, if_neg c9]) dX8_act_123
          · refine aw_tableOut X (pc := 17) (tgt := 124) (tb_out3 c4 c5 c6 c7) (by decide) dX8_act_17 ?_
            refine aw_iconst X (pc := 124) (v := 0) dX8_act_124 (by decide) ?_
            exact aw_zret X (v := 0) rfl hQ (by simp only [r_X8_act, if_neg c1, if_neg c4, if_neg c5, if_neg c6, if_neg c7]; try rfl) (by simp only [u_X8_act_there, u_X8_act_awake, if_neg c1, if_neg c4, if_neg c5, if_neg c6, if_neg c7]) dX8_act_125
  · refine aw_iconst X (pc := 14) (v := 0) dX8_act_14 (by decide) ?_
    exact aw_zret X (v := 0) rfl hQ (by simp only [r_X8_act, if_pos c1]; try rfl) (by simp only [u_X8_act_there, u_X8_act_awake, if_pos c1]) dX8_act_15

def r_X8_group (names : Nat → Int64) (there : Int64) (awake : Int64) (n : Nat) (mask : Int64) (bits : Int64) : Int32 := r_J13_bitCount_95d88 ((there &&& awake) &&& (lpF (b_X6_regroup_20 names mask bits) n 0 0))
abbrev rm_X8_group : Room := { frames := 2, cells := 0, slots := 0, locals := 47 }
set_option maxHeartbeats 400000 in
set_option maxRecDepth 100000 in
theorem c_X8_group (l : Launch) (D : va_G) (r0 : Nat) (ri : Nat) (rs : Nat) (kS : ClassId) (sl : Nat → Int64) (qC : Nat → Nat) (kC : Nat → ClassId) (pr : Nat → Int64) (nx : Nat → Int64) (ns : Int32) (csz : Int32) (s0 : Nat) (qT : Nat → Nat) (kT : Nat → ClassId) (kinds : Nat → Int32) (names : Nat → Int64) (seeds : Nat → Int32) (ones : Nat → Int64) (ofk : Nat → Int64) (sz : Int32) (there : Int64) (awake : Int64) (grp : Int64) (gm : Int64) (gb : Int64) (p0 : Nat) (lf : Int32) (ir : Int32) (ln : Int64) (qL : Nat → Nat) (kL : Nat → ClassId) (rows : Nat → Int64) (lens : Nat → Int32) (psz : Int32) (qK : Nat → Nat) (kK : Nat → ClassId) (vals : Nat → Int32) (hold : Int64) (call : Int32) (f0 : Nat) (fio : Int64) (fqu : Int32) (fal : Int32) (fco : Int32) (fgu : Int32) (qY : Nat → Nat) (kY : Nat → ClassId) (ft : Nat → Int32) (fs : Int32) (qs : Int32) (als : Int32) (cs : Int32) (ps : Int32) (wire : Int32) (alo : Int32) (n : Nat) (mask : Int64) (bits : Int64) (hsz : sz = nI n) (hn : n ≤ 40) : MW l D yX8_group (Cond.code yX8_group cX8_group 5 (some .int) :: TT) rm_X8_group [.ref r0, .long mask, .long bits] [(kS, .long), (kC 1, .long), (kC 2, .long), (kT 1, .int), (kT 2, .long), (kT 3, .int), (kT 4, .long), (kT 5, .long), (kL 1, .long), (kL 2, .int), (kK 1, .int), (kY 1, .int)] (rolW r0 ri rs kS sl qC kC pr nx ns csz s0 qT kT kinds names seeds ones ofk sz there awake grp gm gb p0 lf ir ln qL kL rows lens psz qK kK vals hold call f0 fio fqu fal fco fgu qY kY ft fs qs als cs ps wire alo) (some (.int (r_X8_group names there awake n mask bits))) (rolW r0 ri rs kS sl qC kC pr nx ns csz s0 qT kT kinds names seeds ones ofk sz there awake (lpF (b_X6_regroup_20 names mask bits) n 0 0) mask (bits &&& mask) p0 lf ir ln qL kL rows lens psz qK kK vals hold call f0 fio fqu fal fco fgu qY kY ft fs qs als cs ps wire alo) := by
  refine MW.of (cc := cX8_group) (nL := 5) (ret := (some .int)) (lv := [(0, .ref r0), (1, .long mask), (3, .long bits)]) (by decide) ((rolW_ad ..).trans (rolW_ad ..).symm) rfl (Nat.le_of_ble_eq_true rfl) ?_
  intro p e s m args below meth c A Q hQ X
  refine aw_aload_n X (pc := 0) 0 rfl rfl dX8_group_0 ?_
  refine aw_get X (pc := 1) iX8 0 0 rfl rfl (by decide) fl_X8_12 rfl dX8_group_1 ?_
  refine aw_get X (pc := 4) iX5 5 0 rfl rfl (by decide) fl_X8_39 rfl dX8_group_4 ?_
  refine aw_lload_n X (pc := 7) 1 rfl rfl dX8_group_7 ?_
  refine aw_lload_n X (pc := 8) 2 rfl rfl dX8_group_8 ?_
  refine aw_callV X (pc := 9) (q1 := 6) (rest := []) (st' := []) (ws' := (rolW r0 ri rs kS sl qC kC pr nx ns csz s0 qT kT kinds names seeds ones ofk sz there awake (lpF (b_X6_regroup_20 names mask bits) n 0 0) mask (bits &&& mask) p0 lf ir ln qL kL rows lens psz qK kK vals hold call f0 fio fqu fal fco fgu qY kY ft fs qs als cs ps wire alo)) (c_X6_regroup l D qT kT kinds names seeds ones ofk sz there awake grp gm gb n mask bits hsz (by omega)) rfl rfl [6, 7, 8, 9, 10, 11] [3, 4, 5, 6, 7] rfl (by decide +kernel) rfl rfl ⟨_, _, rfl⟩ rfl cf_X8_110 cd_X6_regroup dd_X6_regroup (by decide) (by decide) (by decide) rfl (Nat.le_of_ble_eq_true rfl) dX8_group_9 rfl ?_
  refine aw_aload_n X (pc := 12) 0 rfl rfl dX8_group_12 ?_
  refine aw_get X (pc := 13) iX8 0 0 rfl rfl (by decide) fl_X8_12 rfl dX8_group_13 ?_
  refine aw_get X (pc := 16) iX5 5 0 rfl rfl (by decide) fl_X8_39 rfl dX8_group_16 ?_
  refine aw_callV X (pc := 19) (q1 := 6) (rest := []) (st' := [.long ((there &&& awake) &&& (lpF (b_X6_regroup_20 names mask bits) n 0 0))]) (ws' := (rolW r0 ri rs kS sl qC kC pr nx ns csz s0 qT kT kinds names seeds ones ofk sz there awake (lpF (b_X6_regroup_20 names mask bits) n 0 0) mask (bits &&& mask) p0 lf ir ln qL kL rows lens psz qK kK vals hold call f0 fio fqu fal fco fgu qY kY ft fs qs als cs ps wire alo)) (c_X6_listening l D qT kT kinds names seeds ones ofk sz there awake (lpF (b_X6_regroup_20 names mask bits) n 0 0) mask (bits &&& mask)) rfl rfl [6, 7, 8, 9, 10, 11] [3, 4, 5, 6, 7] rfl (by decide +kernel) rfl rfl ⟨_, _, rfl⟩ rfl cf_X8_77 cd_X6_listening dd_X6_listening (by decide) (by decide) (by decide) rfl (Nat.le_of_ble_eq_true rfl) dX8_group_19 rfl ?_
  refine aw_callS X (pc := 22) (rest := []) (st' := [.int (r_J13_bitCount_95d88 ((there &&& awake) &&& (lpF (b_X6_regroup_20 names mask bits) n 0 0)))]) (ws' := (rolW r0 ri rs kS sl qC kC pr nx ns csz s0 qT kT kinds names seeds ones ofk sz there awake (lpF (b_X6_regroup_20 names mask bits) n 0 0) mask (bits &&& mask) p0 lf ir ln qL kL rows lens psz qK kK vals hold call f0 fio fqu fal fco fgu qY kY ft fs qs als cs ps wire alo)) (c_J13_bitCount_95d88 l D ((there &&& awake) &&& (lpF (b_X6_regroup_20 names mask bits) n 0 0))) rfl [] [] rfl (by decide +kernel) rfl rfl cf_X8_114 cd_J13_bitCount_95d88 dd_J13_bitCount_95d88 (by decide) (by decide) (by decide) rfl (Nat.le_of_ble_eq_true rfl) dX8_group_22 rfl ?_
  exact aw_iret X (v := r_J13_bitCount_95d88 ((there &&& awake) &&& (lpF (b_X6_regroup_20 names mask bits) n 0 0))) hQ rfl rfl dX8_group_25

def r_X8_fork (lf : Int32) (ir : Int32) (what : Int32) : Int32 := if what = 0 then lf else (if what = 1 then ir else (-1))
abbrev rm_X8_fork : Room := { frames := 0, cells := 0, slots := 0, locals := 0 }
set_option maxHeartbeats 400000 in
set_option maxRecDepth 100000 in
theorem c_X8_fork (l : Launch) (D : va_G) (r0 : Nat) (ri : Nat) (rs : Nat) (kS : ClassId) (sl : Nat → Int64) (qC : Nat → Nat) (kC : Nat → ClassId) (pr : Nat → Int64) (nx : Nat → Int64) (ns : Int32) (csz : Int32) (s0 : Nat) (qT : Nat → Nat) (kT : Nat → ClassId) (kinds : Nat → Int32) (names : Nat → Int64) (seeds : Nat → Int32) (ones : Nat → Int64) (ofk : Nat → Int64) (sz : Int32) (there : Int64) (awake : Int64) (grp : Int64) (gm : Int64) (gb : Int64) (p0 : Nat) (lf : Int32) (ir : Int32) (ln : Int64) (qL : Nat → Nat) (kL : Nat → ClassId) (rows : Nat → Int64) (lens : Nat → Int32) (psz : Int32) (qK : Nat → Nat) (kK : Nat → ClassId) (vals : Nat → Int32) (hold : Int64) (call : Int32) (f0 : Nat) (fio : Int64) (fqu : Int32) (fal : Int32) (fco : Int32) (fgu : Int32) (qY : Nat → Nat) (kY : Nat → ClassId) (ft : Nat → Int32) (fs : Int32) (qs : Int32) (als : Int32) (cs : Int32) (ps : Int32) (wire : Int32) (alo : Int32) (what : Int32)  : MW l D yX8_fork (Cond.code yX8_fork cX8_fork 2 (some .int) :: TT) rm_X8_fork [.ref r0, .int what] [(kS, .long), (kC 1, .long), (kC 2, .long), (kT 1, .int), (kT 2, .long), (kT 3, .int), (kT 4, .long), (kT 5, .long), (kL 1, .long), (kL 2, .int), (kK 1, .int), (kY 1, .int)] (rolW r0 ri rs kS sl qC kC pr nx ns csz s0 qT kT kinds names seeds ones ofk sz there awake grp gm gb p0 lf ir ln qL kL rows lens psz qK kK vals hold call f0 fio fqu fal fco fgu qY kY ft fs qs als cs ps wire alo) (some (.int (r_X8_fork lf ir what))) (rolW r0 ri rs kS sl qC kC pr nx ns csz s0 qT kT kinds names seeds ones ofk sz there awake grp gm gb p0 lf ir ln qL kL rows lens psz qK kK vals hold call f0 fio fqu fal fco fgu qY kY ft fs qs als cs ps wire alo) := by
  refine MW.of (cc := cX8_fork) (nL := 2) (ret := (some .int)) (lv := [(0, .ref r0), (1, .int what)]) (by decide) rfl rfl (Nat.le_of_ble_eq_true rfl) ?_
  intro p e s m args below meth c A Q hQ X
  refine aw_iload_n X (pc := 0) 1 rfl rfl dX8_fork_0 ?_
  by_cases c1 : what = 0
  · refine aw_lookup X (pc := 1) (tgt := 28) (off := 27) (by decide) (by rw [c1]; decide) (by decide) dX8_fork_1 ?_
    refine aw_aload_n X (pc := 28) 0 rfl rfl dX8_fork_28 ?_
    refine aw_get X (pc := 29) iX8 0 0 rfl rfl (by decide) fl_X8_12 rfl dX8_fork_29 ?_
    refine aw_get X (pc := 32) iX5 5 1 rfl rfl (by decide) fl_X8_125 rfl dX8_fork_32 ?_
    refine aw_get X (pc := 35) iX3 12 0 rfl rfl (by decide) fl_X8_151 rfl dX8_fork_35 ?_
    exact aw_iret X (v := lf) hQ (by simp only [r_X8_fork, if_pos c1]; try rfl) rfl dX8_fork_38
  · by_cases c2 : what = 1
    · refine aw_lookup X (pc := 1) (tgt := 39) (off := 38) (by decide) (by rw [c2]; decide) (by decide) dX8_fork_1 ?_
      refine aw_aload_n X (pc := 39) 0 rfl rfl dX8_fork_39 ?_
      refine aw_get X (pc := 40) iX8 0 0 rfl rfl (by decide) fl_X8_12 rfl dX8_fork_40 ?_
      refine aw_get X (pc := 43) iX5 5 1 rfl rfl (by decide) fl_X8_125 rfl dX8_fork_43 ?_
      refine aw_get X (pc := 46) iX3 12 1 rfl rfl (by decide) fl_X8_154 rfl dX8_fork_46 ?_
      exact aw_iret X (v := ir) hQ (by simp only [r_X8_fork, if_neg c1, if_pos c2]; try rfl) rfl dX8_fork_49
    · refine aw_lookup X (pc := 1) (tgt := 50) (off := 49) (by decide) (by show Op.lookupswitch.offset [(0, 27), (1, 38)] 49 what.toInt = 49; rw [lv_osw (k := 0) (a := 0) c1 rfl] ; rw [lv_osw (k := 1) (a := 1) c2 rfl]; rfl) (by decide) dX8_fork_1 ?_
      refine aw_iconst X (pc := 50) (v := (-1)) dX8_fork_50 (by decide) ?_
      exact aw_iret X (v := (-1)) hQ (by simp only [r_X8_fork, if_neg c1, if_neg c2]; try rfl) rfl dX8_fork_51

abbrev rm_X8_alone : Room := { frames := 0, cells := 0, slots := 0, locals := 0 }
set_option maxHeartbeats 400000 in
set_option maxRecDepth 100000 in
theorem c_X8_alone (l : Launch) (D : va_G) (r0 : Nat) (ri : Nat) (rs : Nat) (kS : ClassId) (sl : Nat → Int64) (qC : Nat → Nat) (kC : Nat → ClassId) (pr : Nat → Int64) (nx : Nat → Int64) (ns : Int32) (csz : Int32) (s0 : Nat) (qT : Nat → Nat) (kT : Nat → ClassId) (kinds : Nat → Int32) (names : Nat → Int64) (seeds : Nat → Int32) (ones : Nat → Int64) (ofk : Nat → Int64) (sz : Int32) (there : Int64) (awake : Int64) (grp : Int64) (gm : Int64) (gb : Int64) (p0 : Nat) (lf : Int32) (ir : Int32) (ln : Int64) (qL : Nat → Nat) (kL : Nat → ClassId) (rows : Nat → Int64) (lens : Nat → Int32) (psz : Int32) (qK : Nat → Nat) (kK : Nat → ClassId) (vals : Nat → Int32) (hold : Int64) (call : Int32) (f0 : Nat) (fio : Int64) (fqu : Int32) (fal : Int32) (fco : Int32) (fgu : Int32) (qY : Nat → Nat) (kY : Nat → ClassId) (ft : Nat → Int32) (fs : Int32) (qs : Int32) (als : Int32) (cs : Int32) (ps : Int32) (wire : Int32) (alo : Int32)  : MW l D yX8_alone (Cond.code yX8_alone cX8_alone 1 (some .int) :: TT) rm_X8_alone [.ref r0] [(kS, .long), (kC 1, .long), (kC 2, .long), (kT 1, .int), (kT 2, .long), (kT 3, .int), (kT 4, .long), (kT 5, .long), (kL 1, .long), (kL 2, .int), (kK 1, .int), (kY 1, .int)] (rolW r0 ri rs kS sl qC kC pr nx ns csz s0 qT kT kinds names seeds ones ofk sz there awake grp gm gb p0 lf ir ln qL kL rows lens psz qK kK vals hold call f0 fio fqu fal fco fgu qY kY ft fs qs als cs ps wire alo) (some (.int alo)) (rolW r0 ri rs kS sl qC kC pr nx ns csz s0 qT kT kinds names seeds ones ofk sz there awake grp gm gb p0 lf ir ln qL kL rows lens psz qK kK vals hold call f0 fio fqu fal fco fgu qY kY ft fs qs als cs ps wire alo) := by
  refine MW.of (cc := cX8_alone) (nL := 1) (ret := (some .int)) (lv := [(0, .ref r0)]) (by decide) rfl rfl (Nat.le_of_ble_eq_true rfl) ?_
  intro p e s m args below meth c A Q hQ X
  refine aw_aload_n X (pc := 0) 0 rfl rfl dX8_alone_0 ?_
  refine aw_get X (pc := 1) iX8 0 0 rfl rfl (by decide) fl_X8_12 rfl dX8_alone_1 ?_
  refine aw_get X (pc := 4) iX5 5 7 rfl rfl (by decide) fl_X8_166 rfl dX8_alone_4 ?_
  exact aw_iret X (v := alo) hQ rfl rfl dX8_alone_7

abbrev rm_X8_descend : Room := { frames := 2, cells := 0, slots := 0, locals := 43 }
set_option maxHeartbeats 400000 in
set_option maxRecDepth 100000 in
theorem c_X8_descend (l : Launch) (D : va_G) (r0 : Nat) (ri : Nat) (rs : Nat) (kS : ClassId) (sl : Nat → Int64) (qC : Nat → Nat) (kC : Nat → ClassId) (pr : Nat → Int64) (nx : Nat → Int64) (ns : Int32) (csz : Int32) (s0 : Nat) (qT : Nat → Nat) (kT : Nat → ClassId) (kinds : Nat → Int32) (names : Nat → Int64) (seeds : Nat → Int32) (ones : Nat → Int64) (ofk : Nat → Int64) (sz : Int32) (there : Int64) (awake : Int64) (grp : Int64) (gm : Int64) (gb : Int64) (p0 : Nat) (lf : Int32) (ir : Int32) (ln : Int64) (qL : Nat → Nat) (kL : Nat → ClassId) (rows : Nat → Int64) (lens : Nat → Int32) (psz : Int32) (qK : Nat → Nat) (kK : Nat → ClassId) (vals : Nat → Int32) (hold : Int64) (call : Int32) (f0 : Nat) (fio : Int64) (fqu : Int32) (fal : Int32) (fco : Int32) (fgu : Int32) (qY : Nat → Nat) (kY : Nat → ClassId) (ft : Nat → Int32) (fs : Int32) (qs : Int32) (als : Int32) (cs : Int32) (ps : Int32) (wire : Int32) (alo : Int32)  : MW l D yX8_descend (Cond.code yX8_descend cX8_descend 1 none :: TT) rm_X8_descend [.ref r0] [(kS, .long), (kC 1, .long), (kC 2, .long), (kT 1, .int), (kT 2, .long), (kT 3, .int), (kT 4, .long), (kT 5, .long), (kL 1, .long), (kL 2, .int), (kK 1, .int), (kY 1, .int)] (rolW r0 ri rs kS sl qC kC pr nx ns csz s0 qT kT kinds names seeds ones ofk sz there awake grp gm gb p0 lf ir ln qL kL rows lens psz qK kK vals hold call f0 fio fqu fal fco fgu qY kY ft fs qs als cs ps wire alo) none (rolW r0 ri rs kS sl qC kC pr nx ns csz s0 qT kT kinds names seeds ones ofk sz there awake grp gm gb p0 lf ir ln qL kL (u_X4_add_rows rows 0 0 0) (u_X4_add_lens lens 0 0 0) (u_X4_add_psz 0 0) qK kK vals hold call f0 fio fqu fal fco fgu qY kY ft fs qs als cs ps wire alo) := by
  refine MW.of (cc := cX8_descend) (nL := 1) (ret := none) (lv := [(0, .ref r0)]) (by decide) ((rolW_ad ..).trans (rolW_ad ..).symm) rfl (Nat.le_of_ble_eq_true rfl) ?_
  intro p e s m args below meth c A Q hQ X
  refine aw_aload_n X (pc := 0) 0 rfl rfl dX8_descend_0 ?_
  refine aw_get X (pc := 1) iX8 0 0 rfl rfl (by decide) fl_X8_12 rfl dX8_descend_1 ?_
  refine aw_get X (pc := 4) iX5 5 2 rfl rfl (by decide) fl_X8_169 rfl dX8_descend_4 ?_
  refine aw_callV X (pc := 7) (q1 := 13) (rest := []) (st' := []) (ws' := (rolW r0 ri rs kS sl qC kC pr nx ns csz s0 qT kT kinds names seeds ones ofk sz there awake grp gm gb p0 lf ir ln qL kL (u_X4_add_rows rows 0 0 0) (u_X4_add_lens lens 0 0 0) (u_X4_add_psz 0 0) qK kK vals hold call f0 fio fqu fal fco fgu qY kY ft fs qs als cs ps wire alo)) (c_X4_startAnew l D qL kL rows lens psz) rfl rfl [13, 14, 15] [8, 9] rfl (by decide +kernel) rfl rfl ⟨_, _, rfl⟩ rfl cf_X8_173 cd_X4_startAnew dd_X4_startAnew (by decide) (by decide) (by decide) rfl (Nat.le_of_ble_eq_true rfl) dX8_descend_7 rfl ?_
  exact aw_vret X hQ rfl rfl dX8_descend_10

def r_X8_begin (ofk : Nat → Int64) (there : Int64) (awake : Int64) (grp : Int64) : Int32 := r_J13_bitCount_95d88 (r_X6_splitting ofk there awake grp)
abbrev rm_X8_begin : Room := { frames := 2, cells := 0, slots := 0, locals := 45 }
set_option maxHeartbeats 400000 in
set_option maxRecDepth 100000 in
theorem c_X8_begin (l : Launch) (D : va_G) (r0 : Nat) (ri : Nat) (rs : Nat) (kS : ClassId) (sl : Nat → Int64) (qC : Nat → Nat) (kC : Nat → ClassId) (pr : Nat → Int64) (nx : Nat → Int64) (ns : Int32) (csz : Int32) (s0 : Nat) (qT : Nat → Nat) (kT : Nat → ClassId) (kinds : Nat → Int32) (names : Nat → Int64) (seeds : Nat → Int32) (ones : Nat → Int64) (ofk : Nat → Int64) (sz : Int32) (there : Int64) (awake : Int64) (grp : Int64) (gm : Int64) (gb : Int64) (p0 : Nat) (lf : Int32) (ir : Int32) (ln : Int64) (qL : Nat → Nat) (kL : Nat → ClassId) (rows : Nat → Int64) (lens : Nat → Int32) (psz : Int32) (qK : Nat → Nat) (kK : Nat → ClassId) (vals : Nat → Int32) (hold : Int64) (call : Int32) (f0 : Nat) (fio : Int64) (fqu : Int32) (fal : Int32) (fco : Int32) (fgu : Int32) (qY : Nat → Nat) (kY : Nat → ClassId) (ft : Nat → Int32) (fs : Int32) (qs : Int32) (als : Int32) (cs : Int32) (ps : Int32) (wire : Int32) (alo : Int32)  : MW l D yX8_begin (Cond.code yX8_begin cX8_begin 3 (some .int) :: TT) rm_X8_begin [.ref r0] [(kS, .long), (kC 1, .long), (kC 2, .long), (kT 1, .int), (kT 2, .long), (kT 3, .int), (kT 4, .long), (kT 5, .long), (kL 1, .long), (kL 2, .int), (kK 1, .int), (kY 1, .int)] (rolW r0 ri rs kS sl qC kC pr nx ns csz s0 qT kT kinds names seeds ones ofk sz there awake grp gm gb p0 lf ir ln qL kL rows lens psz qK kK vals hold call f0 fio fqu fal fco fgu qY kY ft fs qs als cs ps wire alo) (some (.int (r_X8_begin ofk there awake grp))) (rolW r0 ri rs kS sl qC kC pr nx ns csz s0 qT kT kinds names seeds ones ofk sz there awake grp gm gb p0 lf ir ln qL kL rows lens psz qK kK (lpF (b_J7_fill_53178_5 0) 40 0 vals) (r_X6_splitting ofk there awake grp) 0 f0 fio fqu fal fco fgu qY kY ft fs qs als cs ps wire alo) := by
  refine MW.of (cc := cX8_begin) (nL := 3) (ret := (some .int)) (lv := [(0, .ref r0)]) (by decide) ((rolW_ad ..).trans (rolW_ad ..).symm) rfl (Nat.le_of_ble_eq_true rfl) ?_
  intro p e s m args below meth c A Q hQ X
  refine aw_aload_n X (pc := 0) 0 rfl rfl dX8_begin_0 ?_
  refine aw_get X (pc := 1) iX8 0 0 rfl rfl (by decide) fl_X8_12 rfl dX8_begin_1 ?_
  refine aw_get X (pc := 4) iX5 5 0 rfl rfl (by decide) fl_X8_39 rfl dX8_begin_4 ?_
  refine aw_callV X (pc := 7) (q1 := 6) (rest := []) (st' := [.long (r_X6_splitting ofk there awake grp)]) (ws' := (rolW r0 ri rs kS sl qC kC pr nx ns csz s0 qT kT kinds names seeds ones ofk sz there awake grp gm gb p0 lf ir ln qL kL rows lens psz qK kK vals hold call f0 fio fqu fal fco fgu qY kY ft fs qs als cs ps wire alo)) (c_X6_splitting l D qT kT kinds names seeds ones ofk sz there awake grp gm gb) rfl rfl [6, 7, 8, 9, 10, 11] [3, 4, 5, 6, 7] rfl (by decide +kernel) rfl rfl ⟨_, _, rfl⟩ rfl cf_X8_210 cd_X6_splitting dd_X6_splitting (by decide) (by decide) (by decide) rfl (Nat.le_of_ble_eq_true rfl) dX8_begin_7 rfl ?_
  refine aw_lstore_n X (pc := 10) (lv' := [(1, .long (r_X6_splitting ofk there awake grp)), (0, .ref r0)]) rfl (by decide) rfl dX8_begin_10 ?_
  refine aw_aload_n X (pc := 11) 1 rfl rfl dX8_begin_11 ?_
  refine aw_get X (pc := 12) iX8 0 0 rfl rfl (by decide) fl_X8_12 rfl dX8_begin_12 ?_
  refine aw_get X (pc := 15) iX5 5 3 rfl rfl (by decide) fl_X8_81 rfl dX8_begin_15 ?_
  refine aw_lload_n X (pc := 18) 0 rfl rfl dX8_begin_18 ?_
  refine aw_callV X (pc := 19) (q1 := 16) (rest := []) (st' := []) (ws' := (rolW r0 ri rs kS sl qC kC pr nx ns csz s0 qT kT kinds names seeds ones ofk sz there awake grp gm gb p0 lf ir ln qL kL rows lens psz qK kK (lpF (b_J7_fill_53178_5 0) 40 0 vals) (r_X6_splitting ofk there awake grp) 0 f0 fio fqu fal fco fgu qY kY ft fs qs als cs ps wire alo)) (c_X0_start l D qK kK vals hold call (r_X6_splitting ofk there awake grp)) rfl rfl [16, 17] [10] rfl (by decide +kernel) rfl rfl ⟨_, _, rfl⟩ rfl cf_X8_213 cd_X0_start dd_X0_start (by decide) (by decide) (by decide) rfl (Nat.le_of_ble_eq_true rfl) dX8_begin_19 rfl ?_
  refine aw_lload_n X (pc := 22) 0 rfl rfl dX8_begin_22 ?_
  refine aw_callS X (pc := 23) (rest := []) (st' := [.int (r_J13_bitCount_95d88 (r_X6_splitting ofk there awake grp))]) (ws' := (rolW r0 ri rs kS sl qC kC pr nx ns csz s0 qT kT kinds names seeds ones ofk sz there awake grp gm gb p0 lf ir ln qL kL rows lens psz qK kK (lpF (b_J7_fill_53178_5 0) 40 0 vals) (r_X6_splitting ofk there awake grp) 0 f0 fio fqu fal fco fgu qY kY ft fs qs als cs ps wire alo)) (c_J13_bitCount_95d88 l D (r_X6_splitting ofk there awake grp)) rfl [] [] rfl (by decide +kernel) rfl rfl cf_X8_114 cd_J13_bitCount_95d88 dd_J13_bitCount_95d88 (by decide) (by decide) (by decide) rfl (Nat.le_of_ble_eq_true rfl) dX8_begin_23 rfl ?_
  exact aw_iret X (v := r_J13_bitCount_95d88 (r_X6_splitting ofk there awake grp)) hQ rfl rfl dX8_begin_26

abbrev rm_X8_frames : Room := { frames := 0, cells := 0, slots := 0, locals := 0 }
set_option maxHeartbeats 400000 in
set_option maxRecDepth 100000 in
theorem c_X8_frames (l : Launch) (D : va_G) (r0 : Nat) (ri : Nat) (rs : Nat) (kS : ClassId) (sl : Nat → Int64) (qC : Nat → Nat) (kC : Nat → ClassId) (pr : Nat → Int64) (nx : Nat → Int64) (ns : Int32) (csz : Int32) (s0 : Nat) (qT : Nat → Nat) (kT : Nat → ClassId) (kinds : Nat → Int32) (names : Nat → Int64) (seeds : Nat → Int32) (ones : Nat → Int64) (ofk : Nat → Int64) (sz : Int32) (there : Int64) (awake : Int64) (grp : Int64) (gm : Int64) (gb : Int64) (p0 : Nat) (lf : Int32) (ir : Int32) (ln : Int64) (qL : Nat → Nat) (kL : Nat → ClassId) (rows : Nat → Int64) (lens : Nat → Int32) (psz : Int32) (qK : Nat → Nat) (kK : Nat → ClassId) (vals : Nat → Int32) (hold : Int64) (call : Int32) (f0 : Nat) (fio : Int64) (fqu : Int32) (fal : Int32) (fco : Int32) (fgu : Int32) (qY : Nat → Nat) (kY : Nat → ClassId) (ft : Nat → Int32) (fs : Int32) (qs : Int32) (als : Int32) (cs : Int32) (ps : Int32) (wire : Int32) (alo : Int32)  : MW l D yX8_frames (Cond.code yX8_frames cX8_frames 1 none :: TT) rm_X8_frames [.ref r0] [(kS, .long), (kC 1, .long), (kC 2, .long), (kT 1, .int), (kT 2, .long), (kT 3, .int), (kT 4, .long), (kT 5, .long), (kL 1, .long), (kL 2, .int), (kK 1, .int), (kY 1, .int)] (rolW r0 ri rs kS sl qC kC pr nx ns csz s0 qT kT kinds names seeds ones ofk sz there awake grp gm gb p0 lf ir ln qL kL rows lens psz qK kK vals hold call f0 fio fqu fal fco fgu qY kY ft fs qs als cs ps wire alo) none (rolW r0 ri rs kS sl qC kC pr nx ns csz s0 qT kT kinds names seeds ones ofk sz there awake grp gm gb p0 lf ir ln qL kL rows lens psz qK kK vals hold call f0 0 fqu fal fco fgu qY kY ft fs qs als cs ps wire alo) := by
  refine MW.of (cc := cX8_frames) (nL := 1) (ret := none) (lv := [(0, .ref r0)]) (by decide) ((rolW_ad ..).trans (rolW_ad ..).symm) rfl (Nat.le_of_ble_eq_true rfl) ?_
  intro p e s m args below meth c A Q hQ X
  refine aw_aload_n X (pc := 0) 0 rfl rfl dX8_frames_0 ?_
  refine aw_get X (pc := 1) iX8 0 0 rfl rfl (by decide) fl_X8_12 rfl dX8_frames_1 ?_
  refine aw_get X (pc := 4) iX5 5 4 rfl rfl (by decide) fl_X8_236 rfl dX8_frames_4 ?_
  refine aw_lconst X (pc := 7) (v := 0) dX8_frames_7 (by decide) ?_
  refine aw_put X (pc := 8) (ws' := (rolW r0 ri rs kS sl qC kC pr nx ns csz s0 qT kT kinds names seeds ones ofk sz there awake grp gm gb p0 lf ir ln qL kL rows lens psz qK kK vals hold call f0 0 fqu fal fco fgu qY kY ft fs qs als cs ps wire alo)) tyX2 tyX2_ok nmX2 iX2 18 0 rfl rfl (by decide) fl_X8_240 rfl (tyX2_ok 0 (by decide)) rfl rfl (Nat.le_of_ble_eq_true rfl) rfl dX8_frames_8 ?_
  exact aw_vret X hQ rfl rfl dX8_frames_11

def r_X8_heard (fqu : Int32) (fal : Int32) (fco : Int32) (fgu : Int32) (what : Int32) : Int32 := if what = 0 then fqu else (if what = 1 then fal else (if what = 2 then fco else (if what = 3 then fgu else (-1))))
abbrev rm_X8_heard : Room := { frames := 0, cells := 0, slots := 0, locals := 0 }
set_option maxHeartbeats 400000 in
set_option maxRecDepth 100000 in
theorem c_X8_heard (l : Launch) (D : va_G) (r0 : Nat) (ri : Nat) (rs : Nat) (kS : ClassId) (sl : Nat → Int64) (qC : Nat → Nat) (kC : Nat → ClassId) (pr : Nat → Int64) (nx : Nat → Int64) (ns : Int32) (csz : Int32) (s0 : Nat) (qT : Nat → Nat) (kT : Nat → ClassId) (kinds : Nat → Int32) (names : Nat → Int64) (seeds : Nat → Int32) (ones : Nat → Int64) (ofk : Nat → Int64) (sz : Int32) (there : Int64) (awake : Int64) (grp : Int64) (gm : Int64) (gb : Int64) (p0 : Nat) (lf : Int32) (ir : Int32) (ln : Int64) (qL : Nat → Nat) (kL : Nat → ClassId) (rows : Nat → Int64) (lens : Nat → Int32) (psz : Int32) (qK : Nat → Nat) (kK : Nat → ClassId) (vals : Nat → Int32) (hold : Int64) (call : Int32) (f0 : Nat) (fio : Int64) (fqu : Int32) (fal : Int32) (fco : Int32) (fgu : Int32) (qY : Nat → Nat) (kY : Nat → ClassId) (ft : Nat → Int32) (fs : Int32) (qs : Int32) (als : Int32) (cs : Int32) (ps : Int32) (wire : Int32) (alo : Int32) (what : Int32)  : MW l D yX8_heard (Cond.code yX8_heard cX8_heard 2 (some .int) :: TT) rm_X8_heard [.ref r0, .int what] [(kS, .long), (kC 1, .long), (kC 2, .long), (kT 1, .int), (kT 2, .long), (kT 3, .int), (kT 4, .long), (kT 5, .long), (kL 1, .long), (kL 2, .int), (kK 1, .int), (kY 1, .int)] (rolW r0 ri rs kS sl qC kC pr nx ns csz s0 qT kT kinds names seeds ones ofk sz there awake grp gm gb p0 lf ir ln qL kL rows lens psz qK kK vals hold call f0 fio fqu fal fco fgu qY kY ft fs qs als cs ps wire alo) (some (.int (r_X8_heard fqu fal fco fgu what))) (rolW r0 ri rs kS sl qC kC pr nx ns csz s0 qT kT kinds names seeds ones ofk sz there awake grp gm gb p0 lf ir ln qL kL rows lens psz qK kK vals hold call f0 fio fqu fal fco fgu qY kY ft fs qs als cs ps wire alo) := by
  refine MW.of (cc := cX8_heard) (nL := 2) (ret := (some .int)) (lv := [(0, .ref r0), (1, .int what)]) (by decide) rfl rfl (Nat.le_of_ble_eq_true rfl) ?_
  intro p e s m args below meth c A Q hQ X
  refine aw_iload_n X (pc := 0) 1 rfl rfl dX8_heard_0 ?_
  by_cases c1 : what = 0
  · refine aw_tableIn X (pc := 1) (tgt := 32) (by rw [c1]; decide) (by rw [c1]; decide) (by rw [c1]; rfl) (by decide) dX8_heard_1 ?_
    refine aw_aload_n X (pc := 32) 0 rfl rfl dX8_heard_32 ?_
    refine aw_get X (pc := 33) iX8 0 0 rfl rfl (by decide) fl_X8_12 rfl dX8_heard_33 ?_
    refine aw_get X (pc := 36) iX5 5 4 rfl rfl (by decide) fl_X8_236 rfl dX8_heard_36 ?_
    refine aw_get X (pc := 39) iX2 18 1 rfl rfl (by decide) fl_X8_269 rfl dX8_heard_39 ?_
    exact aw_iret X (v := fqu) hQ (by simp only [r_X8_heard, if_pos c1]; try rfl) rfl dX8_heard_42
  · by_cases c2 : what = 1
    · refine aw_tableIn X (pc := 1) (tgt := 43) (by rw [c2]; decide) (by rw [c2]; decide) (by rw [c2]; rfl) (by decide) dX8_heard_1 ?_
      refine aw_aload_n X (pc := 43) 0 rfl rfl dX8_heard_43 ?_
      refine aw_get X (pc := 44) iX8 0 0 rfl rfl (by decide) fl_X8_12 rfl dX8_heard_44 ?_
      refine aw_get X (pc := 47) iX5 5 4 rfl rfl (by decide) fl_X8_236 rfl dX8_heard_47 ?_
      refine aw_get X (pc := 50) iX2 18 2 rfl rfl (by decide) fl_X8_266 rfl dX8_heard_50 ?_
      exact aw_iret X (v := fal) hQ (by simp only [r_X8_heard, if_neg c1, if_pos c2]; try rfl) rfl dX8_heard_53
    · by_cases c3 : what = 2
      · refine aw_tableIn X (pc := 1) (tgt := 54) (by rw [c3]; decide) (by rw [c3]; decide) (by rw [c3]; rfl) (by decide) dX8_heard_1 ?_
        refine aw_aload_n X (pc := 54) 0 rfl rfl dX8_heard_54 ?_
        refine aw_get X (pc := 55) iX8 0 0 rfl rfl (by decide) fl_X8_12 rfl dX8_heard_55 ?_
        refine aw_get X (pc := 58) iX5 5 4 rfl rfl (by decide) fl_X8_236 rfl dX8_heard_58 ?_
        refine aw_get X (pc := 61) iX2 18 3 rfl rfl (by decide) fl_X8_272 rfl dX8_heard_61 ?_
        exact aw_iret X (v := fco) hQ (by simp only [r_X8_heard, if_neg c1, if_neg c2, if_pos c3]; try rfl) rfl dX8_heard_64
      · by_cases c4 : what = 3
        · refine aw_tableIn X (pc := 1) (tgt := 65) (by rw [c4]; decide) (by rw [c4]; decide) (by rw [c4]; rfl) (by decide) dX8_heard_1 ?_
          refine aw_aload_n X (pc := 65) 0 rfl rfl dX8_heard_65 ?_
          refine aw_get X (pc := 66) iX8 0 0 rfl rfl (by decide) fl_X8_12 rfl dX8_heard_66 ?_
          refine aw_get X (pc := 69) iX5 5 4 rfl rfl (by decide) fl_X8_236 rfl dX8_heard_69 ?_
          refine aw_get X (pc := 72) iX2 18 4 rfl rfl (by decide) fl_X8_275 rfl dX8_heard_72 ?_
          exact aw_iret X (v := fgu) hQ (by simp only [r_X8_heard, if_neg c1, if_neg c2, if_neg c3, if_pos c4]; try rfl) rfl dX8_heard_75
        · refine aw_tableOut X (pc := 1) (tgt := 76) (tb_out3 c1 c2 c3 c4) (by decide) dX8_heard_1 ?_
          refine aw_iconst X (pc := 76) (v := (-1)) dX8_heard_76 (by decide) ?_
          exact aw_iret X (v := (-1)) hQ (by simp only [r_X8_heard, if_neg c1, if_neg c2, if_neg c3, if_neg c4]; try rfl) rfl dX8_heard_77

abbrev rm_X8_found : Room := { frames := 1, cells := 0, slots := 0, locals := 21 }
set_option maxHeartbeats 400000 in
set_option maxRecDepth 100000 in
theorem c_X8_found (l : Launch) (D : va_G) (r0 : Nat) (ri : Nat) (rs : Nat) (kS : ClassId) (sl : Nat → Int64) (qC : Nat → Nat) (kC : Nat → ClassId) (pr : Nat → Int64) (nx : Nat → Int64) (ns : Int32) (csz : Int32) (s0 : Nat) (qT : Nat → Nat) (kT : Nat → ClassId) (kinds : Nat → Int32) (names : Nat → Int64) (seeds : Nat → Int32) (ones : Nat → Int64) (ofk : Nat → Int64) (sz : Int32) (there : Int64) (awake : Int64) (grp : Int64) (gm : Int64) (gb : Int64) (p0 : Nat) (lf : Int32) (ir : Int32) (ln : Int64) (qL : Nat → Nat) (kL : Nat → ClassId) (rows : Nat → Int64) (lens : Nat → Int32) (psz : Int32) (qK : Nat → Nat) (kK : Nat → ClassId) (vals : Nat → Int32) (hold : Int64) (call : Int32) (f0 : Nat) (fio : Int64) (fqu : Int32) (fal : Int32) (fco : Int32) (fgu : Int32) (qY : Nat → Nat) (kY : Nat → ClassId) (ft : Nat → Int32) (fs : Int32) (qs : Int32) (als : Int32) (cs : Int32) (ps : Int32) (wire : Int32) (alo : Int32) (f : Nat) (kk : Int32) (hfs : fs = nI f) (hf : f ≤ 200) : MW l D yX8_found (Cond.code yX8_found cX8_found 2 (some .int) :: TT) rm_X8_found [.ref r0, .int kk] [(kS, .long), (kC 1, .long), (kC 2, .long), (kT 1, .int), (kT 2, .long), (kT 3, .int), (kT 4, .long), (kT 5, .long), (kL 1, .long), (kL 2, .int), (kK 1, .int), (kY 1, .int)] (rolW r0 ri rs kS sl qC kC pr nx ns csz s0 qT kT kinds names seeds ones ofk sz there awake grp gm gb p0 lf ir ln qL kL rows lens psz qK kK vals hold call f0 fio fqu fal fco fgu qY kY ft fs qs als cs ps wire alo) (some (.int (r_X7_foundAt ft fs kk))) (rolW r0 ri rs kS sl qC kC pr nx ns csz s0 qT kT kinds names seeds ones ofk sz there awake grp gm gb p0 lf ir ln qL kL rows lens psz qK kK vals hold call f0 fio fqu fal fco fgu qY kY ft fs qs als cs ps wire alo) := by
  refine MW.of (cc := cX8_found) (nL := 2) (ret := (some .int)) (lv := [(0, .ref r0), (1, .int kk)]) (by decide) rfl rfl (Nat.le_of_ble_eq_true rfl) ?_
  intro p e s m args below meth c A Q hQ X
  refine aw_aload_n X (pc := 0) 0 rfl rfl dX8_found_0 ?_
  refine aw_get X (pc := 1) iX8 0 0 rfl rfl (by decide) fl_X8_12 rfl dX8_found_1 ?_
  refine aw_get X (pc := 4) iX5 5 5 rfl rfl (by decide) fl_X8_94 rfl dX8_found_4 ?_
  refine aw_iload_n X (pc := 7) 1 rfl rfl dX8_found_7 ?_
  refine aw_callV X (pc := 8) (q1 := 19) (rest := []) (st' := [.int (r_X7_foundAt ft fs kk)]) (ws' := (rolW r0 ri rs kS sl qC kC pr nx ns csz s0 qT kT kinds names seeds ones ofk sz there awake grp gm gb p0 lf ir ln qL kL rows lens psz qK kK vals hold call f0 fio fqu fal fco fgu qY kY ft fs qs als cs ps wire alo)) (c_X7_foundAt l D qY kY ft fs qs als cs ps f kk hfs (by omega)) rfl rfl [19, 20] [11] rfl (by decide +kernel) rfl rfl ⟨_, _, rfl⟩ rfl cf_X8_278 cd_X7_foundAt dd_X7_foundAt (by decide) (by decide) (by decide) rfl (Nat.le_of_ble_eq_true rfl) dX8_found_8 rfl ?_
  exact aw_iret X (v := r_X7_foundAt ft fs kk) hQ rfl rfl dX8_found_11

def r_X8_cost (qs : Int32) (als : Int32) (cs : Int32) (ps : Int32) (what : Int32) : Int32 := if what = 0 then qs else (if what = 1 then als else (if what = 2 then cs else (if what = 3 then ps else (if what = 4 then (((qs + als) + cs) + ps) else (-1)))))
abbrev rm_X8_cost : Room := { frames := 1, cells := 0, slots := 0, locals := 20 }
set_option maxHeartbeats 400000 in
set_option maxRecDepth 100000 in
theorem c_X8_cost (l : Launch) (D : va_G) (r0 : Nat) (ri : Nat) (rs : Nat) (kS : ClassId) (sl : Nat → Int64) (qC : Nat → Nat) (kC : Nat → ClassId) (pr : Nat → Int64) (nx : Nat → Int64) (ns : Int32) (csz : Int32) (s0 : Nat) (qT : Nat → Nat) (kT : Nat → ClassId) (kinds : Nat → Int32) (names : Nat → Int64) (seeds : Nat → Int32) (ones : Nat → Int64) (ofk : Nat → Int64) (sz : Int32) (there : Int64) (awake : Int64) (grp : Int64) (gm : Int64) (gb : Int64) (p0 : Nat) (lf : Int32) (ir : Int32) (ln : Int64) (qL : Nat → Nat) (kL : Nat → ClassId) (rows : Nat → Int64) (lens : Nat → Int32) (psz : Int32) (qK : Nat → Nat) (kK : Nat → ClassId) (vals : Nat → Int32) (hold : Int64) (call : Int32) (f0 : Nat) (fio : Int64) (fqu : Int32) (fal : Int32) (fco : Int32) (fgu : Int32) (qY : Nat → Nat) (kY : Nat → ClassId) (ft : Nat → Int32) (fs : Int32) (qs : Int32) (als : Int32) (cs : Int32) (ps : Int32) (wire : Int32) (alo : Int32) (what : Int32)  : MW l D yX8_cost (Cond.code yX8_cost cX8_cost 2 (some .int) :: TT) rm_X8_cost [.ref r0, .int what] [(kS, .long), (kC 1, .long), (kC 2, .long), (kT 1, .int), (kT 2, .long), (kT 3, .int), (kT 4, .long), (kT 5, .long), (kL 1, .long), (kL 2, .int), (kK 1, .int), (kY 1, .int)] (rolW r0 ri rs kS sl qC kC pr nx ns csz s0 qT kT kinds names seeds ones ofk sz there awake grp gm gb p0 lf ir ln qL kL rows lens psz qK kK vals hold call f0 fio fqu fal fco fgu qY kY ft fs qs als cs ps wire alo) (some (.int (r_X8_cost qs als cs ps what))) (rolW r0 ri rs kS sl qC kC pr nx ns csz s0 qT kT kinds names seeds ones ofk sz there awake grp gm gb p0 lf ir ln qL kL rows lens psz qK kK vals hold call f0 fio fqu fal fco fgu qY kY ft fs qs als cs ps wire alo) := by
  refine MW.of (cc := cX8_cost) (nL := 2) (ret := (some .int)) (lv := [(0, .ref r0), (1, .int what)]) (by decide) rfl rfl (Nat.le_of_ble_eq_true rfl) ?_
  intro p e s m args below meth c A Q hQ X
  refine aw_iload_n X (pc := 0) 1 rfl rfl dX8_cost_0 ?_
  by_cases c1 : what = 0
  · refine aw_tableIn X (pc := 1) (tgt := 36) (by rw [c1]; decide) (by rw [c1]; decide) (by rw [c1]; rfl) (by decide) dX8_cost_1 ?_
    refine aw_aload_n X (pc := 36) 0 rfl rfl dX8_cost_36 ?_
    refine aw_get X (pc := 37) iX8 0 0 rfl rfl (by decide) fl_X8_12 rfl dX8_cost_37 ?_
    refine aw_get X (pc := 40) iX5 5 5 rfl rfl (by decide) fl_X8_94 rfl dX8_cost_40 ?_
    refine aw_get X (pc := 43) iX7 19 2 rfl rfl (by decide) fl_X8_281 rfl dX8_cost_43 ?_
    exact aw_iret X (v := qs) hQ (by simp only [r_X8_cost, if_pos c1]; try rfl) rfl dX8_cost_46
  · by_cases c2 : what = 1
    · refine aw_tableIn X (pc := 1) (tgt := 47) (by rw [c2]; decide) (by rw [c2]; decide) (by rw [c2]; rfl) (by decide) dX8_cost_1 ?_
      refine aw_aload_n X (pc := 47) 0 rfl rfl dX8_cost_47 ?_
      refine aw_get X (pc := 48) iX8 0 0 rfl rfl (by decide) fl_X8_12 rfl dX8_cost_48 ?_
      refine aw_get X (pc := 51) iX5 5 5 rfl rfl (by decide) fl_X8_94 rfl dX8_cost_51 ?_
      refine aw_get X (pc := 54) iX7 19 3 rfl rfl (by decide) fl_X8_284 rfl dX8_cost_54 ?_
      exact aw_iret X (v := als) hQ (by simp only [r_X8_cost, if_neg c1, if_pos c2]; try rfl) rfl dX8_cost_57
    · by_cases c3 : what = 2
      · refine aw_tableIn X (pc := 1) (tgt := 58) (by rw [c3]; decide) (by rw [c3]; decide) (by rw [c3]; rfl) (by decide) dX8_cost_1 ?_
        refine aw_aload_n X (pc := 58) 0 rfl rfl dX8_cost_58 ?_
        refine aw_get X (pc := 59) iX8 0 0 rfl rfl (by decide) fl_X8_12 rfl dX8_cost_59 ?_
        refine aw_get X (pc := 62) iX5 5 5 rfl rfl (by decide) fl_X8_94 rfl dX8_cost_62 ?_
        refine aw_get X (pc := 65) iX7 19 4 rfl rfl (by decide) fl_X8_287 rfl dX8_cost_65 ?_
        exact aw_iret X (v := cs) hQ (by simp only [r_X8_cost, if_neg c1, if_neg c2, if_pos c3]; try rfl) rfl dX8_cost_68
      · by_cases c4 : what = 3
        · refine aw_tableIn X (pc := 1) (tgt := 69) (by rw [c4]; decide) (by rw [c4]; decide) (by rw [c4]; rfl) (by decide) dX8_cost_1 ?_
          refine aw_aload_n X (pc := 69) 0 rfl rfl dX8_cost_69 ?_
          refine aw_get X (pc := 70) iX8 0 0 rfl rfl (by decide) fl_X8_12 rfl dX8_cost_70 ?_
          refine aw_get X (pc := 73) iX5 5 5 rfl rfl (by decide) fl_X8_94 rfl dX8_cost_73 ?_
          refine aw_get X (pc := 76) iX7 19 5 rfl rfl (by decide) fl_X8_290 rfl dX8_cost_76 ?_
          exact aw_iret X (v := ps) hQ (by simp only [r_X8_cost, if_neg c1, if_neg c2, if_neg c3, if_pos c4]; try rfl) rfl dX8_cost_79
        · by_cases c5 : what = 4
          · refine aw_tableIn X (pc := 1) (tgt := 80) (by rw [c5]; decide) (by rw [c5]; decide) (by rw [c5]; rfl) (by decide) dX8_cost_1 ?_
            refine aw_aload_n X (pc := 80) 0 rfl rfl dX8_cost_80 ?_
            refine aw_get X (pc := 81) iX8 0 0 rfl rfl (by decide) fl_X8_12 rfl dX8_cost_81 ?_
            refine aw_get X (pc := 84) iX5 5 5 rfl rfl (by decide) fl_X8_94 rfl dX8_cost_84 ?_
            refine aw_callV X (pc := 87) (q1 := 19) (rest := []) (st' := [.int (((qs + als) + cs) + ps)]) (ws' := (rolW r0 ri rs kS sl qC kC pr nx ns csz s0 qT kT kinds names seeds ones ofk sz there awake grp gm gb p0 lf ir ln qL kL rows lens psz qK kK vals hold call f0 fio fqu fal fco fgu qY kY ft fs qs als cs ps wire alo)) (c_X7_allSlots l D qY kY ft fs qs als cs ps) rfl rfl [19, 20] [11] rfl (by decide +kernel) rfl rfl ⟨_, _, rfl⟩ rfl cf_X8_293 cd_X7_allSlots dd_X7_allSlots (by decide) (by decide) (by decide) rfl (Nat.le_of_ble_eq_true rfl) dX8_cost_87 rfl ?_
            exact aw_iret X (v := ((qs + als) + cs) + ps) hQ (by simp only [r_X8_cost, if_neg c1, if_neg c2, if_neg c3, if_neg c4, if_pos c5]; try rfl) rfl dX8_cost_90
          · refine aw_tableOut X (pc := 1) (tgt := 91) (tb_out4 c1 c2 c3 c4 c5) (by decide) dX8_cost_1 ?_
            refine aw_iconst X (pc := 91) (v := (-1)) dX8_cost_91 (by decide) ?_
            exact aw_iret X (v := (-1)) hQ (by simp only [r_X8_cost, if_neg c1, if_neg c2, if_neg c3, if_neg c4, if_neg c5]; try rfl) rfl dX8_cost_92

def r_X8_count (sz : Int32) (there : Int64) (awake : Int64) (grp : Int64) (psz : Int32) (call : Int32) (fs : Int32) (what : Int32) : Int32 := if what = 0 then sz else (if what = 1 then (r_J13_bitCount_95d88 ((there &&& awake) &&& grp)) else (if what = 2 then fs else (if what = 3 then psz else (if what = 4 then (if r_X0_isUnderWay call = 0 then (-1) else call) else (-1)))))
abbrev rm_X8_count : Room := { frames := 1, cells := 0, slots := 0, locals := 21 }
set_option maxHeartbeats 400000 in
set_option maxRecDepth 100000 in
theorem c_X8_count (l : Launch) (D : va_G) (r0 : Nat) (ri : Nat) (rs : Nat) (kS : ClassId) (sl : Nat → Int64) (qC : Nat → Nat) (kC : Nat → ClassId) (pr : Nat → Int64) (nx : Nat → Int64) (ns : Int32) (csz : Int32) (s0 : Nat) (qT : Nat → Nat) (kT : Nat → ClassId) (kinds : Nat → Int32) (names : Nat → Int64) (seeds : Nat → Int32) (ones : Nat → Int64) (ofk : Nat → Int64) (sz : Int32) (there : Int64) (awake : Int64) (grp : Int64) (gm : Int64) (gb : Int64) (p0 : Nat) (lf : Int32) (ir : Int32) (ln : Int64) (qL : Nat → Nat) (kL : Nat → ClassId) (rows : Nat → Int64) (lens : Nat → Int32) (psz : Int32) (qK : Nat → Nat) (kK : Nat → ClassId) (vals : Nat → Int32) (hold : Int64) (call : Int32) (f0 : Nat) (fio : Int64) (fqu : Int32) (fal : Int32) (fco : Int32) (fgu : Int32) (qY : Nat → Nat) (kY : Nat → ClassId) (ft : Nat → Int32) (fs : Int32) (qs : Int32) (als : Int32) (cs : Int32) (ps : Int32) (wire : Int32) (alo : Int32) (what : Int32)  : MW l D yX8_count (Cond.code yX8_count cX8_count 2 (some .int) :: TT) rm_X8_count [.ref r0, .int what] [(kS, .long), (kC 1, .long), (kC 2, .long), (kT 1, .int), (kT 2, .long), (kT 3, .int), (kT 4, .long), (kT 5, .long), (kL 1, .long), (kL 2, .int), (kK 1, .int), (kY 1, .int)] (rolW r0 ri rs kS sl qC kC pr nx ns csz s0 qT kT kinds names seeds ones ofk sz there awake grp gm gb p0 lf ir ln qL kL rows lens psz qK kK vals hold call f0 fio fqu fal fco fgu qY kY ft fs qs als cs ps wire alo) (some (.int (r_X8_count sz there awake grp psz call fs what))) (rolW r0 ri rs kS sl qC kC pr nx ns csz s0 qT kT kinds names seeds ones ofk sz there awake grp gm gb p0 lf ir ln qL kL rows lens psz qK kK vals hold call f0 fio fqu fal fco fgu qY kY ft fs qs als cs ps wire alo) := by
  refine MW.of (cc := cX8_count) (nL := 2) (ret := (some .int)) (lv := [(0, .ref r0), (1, .int what)]) (by decide) rfl rfl (Nat.le_of_ble_eq_true rfl) ?_
  intro p e s m args below meth c A Q hQ X
  refine aw_iload_n X (pc := 0) 1 rfl rfl dX8_count_0 ?_
  by_cases c1 : what = 0
  · refine aw_tableIn X (pc := 1) (tgt := 36) (by rw [c1]; decide) (by rw [c1]; decide) (by rw [c1]; rfl) (by decide) dX8_count_1 ?_
    refine aw_aload_n X (pc := 36) 0 rfl rfl dX8_count_36 ?_
    refine aw_get X (pc := 37) iX8 0 0 rfl rfl (by decide) fl_X8_12 rfl dX8_count_37 ?_
    refine aw_get X (pc := 40) iX5 5 0 rfl rfl (by decide) fl_X8_39 rfl dX8_count_40 ?_
    refine aw_get X (pc := 43) iX6 6 5 rfl rfl (by decide) fl_X8_296 rfl dX8_count_43 ?_
    exact aw_iret X (v := sz) hQ (by simp only [r_X8_count, if_pos c1]; try rfl) rfl dX8_count_46
  · by_cases c2 : what = 1
    · refine aw_tableIn X (pc := 1) (tgt := 47) (by rw [c2]; decide) (by rw [c2]; decide) (by rw [c2]; rfl) (by decide) dX8_count_1 ?_
      refine aw_aload_n X (pc := 47) 0 rfl rfl dX8_count_47 ?_
      refine aw_get X (pc := 48) iX8 0 0 rfl rfl (by decide) fl_X8_12 rfl dX8_count_48 ?_
      refine aw_get X (pc := 51) iX5 5 0 rfl rfl (by decide) fl_X8_39 rfl dX8_count_51 ?_
      refine aw_callV X (pc := 54) (q1 := 6) (rest := []) (st' := [.long ((there &&& awake) &&& grp)]) (ws' := (rolW r0 ri rs kS sl qC kC pr nx ns csz s0 qT kT kinds names seeds ones ofk sz there awake grp gm gb p0 lf ir ln qL kL rows lens psz qK kK vals hold call f0 fio fqu fal fco fgu qY kY ft fs qs als cs ps wire alo)) (c_X6_listening l D qT kT kinds names seeds ones ofk sz there awake grp gm gb) rfl rfl [6, 7, 8, 9, 10, 11] [3, 4, 5, 6, 7] rfl (by decide +kernel) rfl rfl ⟨_, _, rfl⟩ rfl cf_X8_77 cd_X6_listening dd_X6_listening (by decide) (by decide) (by decide) rfl (Nat.le_of_ble_eq_true rfl) dX8_count_54 rfl ?_
      refine aw_callS X (pc := 57) (rest := []) (st' := [.int (r_J13_bitCount_95d88 ((there &&& awake) &&& grp))]) (ws' := (rolW r0 ri rs kS sl qC kC pr nx ns csz s0 qT kT kinds names seeds ones ofk sz there awake grp gm gb p0 lf ir ln qL kL rows lens psz qK kK vals hold call f0 fio fqu fal fco fgu qY kY ft fs qs als cs ps wire alo)) (c_J13_bitCount_95d88 l D ((there &&& awake) &&& grp)) rfl [] [] rfl (by decide +kernel) rfl rfl cf_X8_114 cd_J13_bitCount_95d88 dd_J13_bitCount_95d88 (by decide) (by decide) (by decide) rfl (Nat.le_of_ble_eq_true rfl) dX8_count_57 rfl ?_
      exact aw_iret X (v := r_J13_bitCount_95d88 ((there &&& awake) &&& grp)) hQ (by simp only [r_X8_count, if_neg c1, if_pos c2]; try rfl) rfl dX8_count_60
    · by_cases c3 : what = 2
      · refine aw_tableIn X (pc := 1) (tgt := 61) (by rw [c3]; decide) (by rw [c3]; decide) (by rw [c3]; rfl) (by decide) dX8_count_1 ?_
        refine aw_aload_n X (pc := 61) 0 rfl rfl dX8_count_61 ?_
        refine aw_get X (pc := 62) iX8 0 0 rfl rfl (by decide) fl_X8_12 rfl dX8_count_62 ?_
        refine aw_get X (pc := 65) iX5 5 5 rfl rfl (by decide) fl_X8_94 rfl dX8_count_65 ?_
        refine aw_get X (pc := 68) iX7 19 1 rfl rfl (by decide) fl_X8_297 rfl dX8_count_68 ?_
        exact aw_iret X (v := fs) hQ (by simp only [r_X8_count, if_neg c1, if_neg c2, if_pos c3]; try rfl) rfl dX8_count_71
      · by_cases c4 : what = 3
        · refine aw_tableIn X (pc := 1) (tgt := 72) (by rw [c4]; decide) (by rw [c4]; decide) (by rw [c4]; rfl) (by decide) dX8_count_1 ?_
          refine aw_aload_n X (pc := 72) 0 rfl rfl dX8_count_72 ?_
          refine aw_get X (pc := 73) iX8 0 0 rfl rfl (by decide) fl_X8_12 rfl dX8_count_73 ?_
          refine aw_get X (pc := 76) iX5 5 2 rfl rfl (by decide) fl_X8_169 rfl dX8_count_76 ?_
          refine aw_get X (pc := 79) iX4 13 2 rfl rfl (by decide) fl_X8_178 rfl dX8_count_79 ?_
          exact aw_iret X (v := psz) hQ (by simp only [r_X8_count, if_neg c1, if_neg c2, if_neg c3, if_pos c4]; try rfl) rfl dX8_count_82
        · by_cases c5 : what = 4
          · refine aw_tableIn X (pc := 1) (tgt := 83) (by rw [c5]; decide) (by rw [c5]; decide) (by rw [c5]; rfl) (by decide) dX8_count_1 ?_
            refine aw_aload_n X (pc := 83) 0 rfl rfl dX8_count_83 ?_
            refine aw_get X (pc := 84) iX8 0 0 rfl rfl (by decide) fl_X8_12 rfl dX8_count_84 ?_
            refine aw_get X (pc := 87) iX5 5 3 rfl rfl (by decide) fl_X8_81 rfl dX8_count_87 ?_
            refine aw_callV X (pc := 90) (q1 := 16) (rest := []) (st' := [.int (r_X0_isUnderWay call)]) (ws' := (rolW r0 ri rs kS sl qC kC pr nx ns csz s0 qT kT kinds names seeds ones ofk sz there awake grp gm gb p0 lf ir ln qL kL rows lens psz qK kK vals hold call f0 fio fqu fal fco fgu qY kY ft fs qs als cs ps wire alo)) (c_X0_isUnderWay l D qK kK vals hold call) rfl rfl [16, 17] [10] rfl (by decide +kernel) rfl rfl ⟨_, _, rfl⟩ rfl cf_X8_216 cd_X0_isUnderWay dd_X0_isUnderWay (by decide) (by decide) (by decide) rfl (Nat.le_of_ble_eq_true rfl) dX8_count_90 rfl ?_
            refine aw_if_eq X (pc := 93) (tgt := 109) (by decide) dX8_count_93 (fun c6 => ?_) (fun c6 => ?_)
            · refine aw_iconst X (pc := 109) (v := (-1)) dX8_count_109 (by decide) ?_
              exact aw_iret X (v := (-1)) hQ (by simp only [r_X8_count, if_neg c1, if_neg c2, if_neg c3, if_neg c4, if_pos c5, if_pos c6]; try rfl) rfl dX8_count_110
            · refine aw_aload_n X (pc := 96) 0 rfl rfl dX8_count_96 ?_
              refine aw_get X (pc := 97) iX8 0 0 rfl rfl (by decide) fl_X8_12 rfl dX8_count_97 ?_
              refine aw_get X (pc := 100) iX5 5 3 rfl rfl (by decide) fl_X8_81 rfl dX8_count_100 ?_
              refine aw_get X (pc := 103) iX0 16 2 rfl rfl (by decide) fl_X8_300 rfl dX8_count_103 ?_
              refine aw_goto X (pc := 106) (tgt := 110) (by decide) dX8_count_106 ?_
              exact aw_iret X (v := call) hQ (by simp only [r_X8_count, if_neg c1, if_neg c2, if_neg c3, if_neg c4, if_pos c5, if_neg c6]; try rfl) rfl dX8_count_110
          · refine aw_tableOut X (pc := 1) (tgt := 111) (tb_out4 c1 c2 c3 c4 c5) (by decide) dX8_count_1 ?_
            refine aw_iconst X (pc := 111) (v := (-1)) dX8_count_111 (by decide) ?_
            exact aw_iret X (v := (-1)) hQ (by simp only [r_X8_count, if_neg c1, if_neg c2, if_neg c3, if_neg c4, if_neg c5]; try rfl) rfl dX8_count_112
