def b_X8_verify_17 (ones : Nat → Int64) (name : Int64) (k : Nat) (σ : Int64) : Int64 := if r_X8_isOneAt name (nI k) = 0 then (σ &&& ((r_X6_tellingOne ones σ (nI k)) ^^^ (-1))) else (r_X6_tellingOne ones σ (nI k))
def g_X8_verify_17  (k : Nat) (σ : Int64) : Bool := !decide (lg_cmp σ 0 = 0)
def r_X8_verify (ones : Nat → Int64) (there : Int64) (awake : Int64) (grp : Int64) (name : Int64) : Int32 := if lg_cmp ((lpW (g_X8_verify_17) (b_X8_verify_17 ones name) 64 0 ((there &&& awake) &&& grp)).2) 0 = 0 then 0 else 1
def u_X8_verify_ps (ones : Nat → Int64) (there : Int64) (awake : Int64) (grp : Int64) (ps : Int32) (name : Int64) : Int32 := ps + (1 + (3 * (nI ((lpW (g_X8_verify_17) (b_X8_verify_17 ones name) 64 0 ((there &&& awake) &&& grp)).1))))
theorem z_X8_verify (ones : Nat → Int64) (there : Int64) (awake : Int64) (grp : Int64) (name : Int64) : r_X8_verify ones there awake grp name = 0 ∨ r_X8_verify ones there awake grp name = 1 := by
  unfold r_X8_verify
  by_cases h0 : lg_cmp ((lpW (g_X8_verify_17) (b_X8_verify_17 ones name) 64 0 ((there &&& awake) &&& grp)).2) 0 = 0
  · try rw [if_pos h0]
    exact Or.inl rfl
  · try rw [if_neg h0]
    exact Or.inr rfl
abbrev rm_X8_verify : Room := { frames := 1, cells := 0, slots := 0, locals := 23 }
set_option maxHeartbeats 400000 in
set_option maxRecDepth 100000 in
theorem c_X8_verify (l : Launch) (D : va_G) (r0 : Nat) (ri : Nat) (rs : Nat) (kS : ClassId) (sl : Nat → Int64) (qC : Nat → Nat) (kC : Nat → ClassId) (pr : Nat → Int64) (nx : Nat → Int64) (ns : Int32) (csz : Int32) (s0 : Nat) (qT : Nat → Nat) (kT : Nat → ClassId) (kinds : Nat → Int32) (names : Nat → Int64) (seeds : Nat → Int32) (ones : Nat → Int64) (ofk : Nat → Int64) (sz : Int32) (there : Int64) (awake : Int64) (grp : Int64) (gm : Int64) (gb : Int64) (p0 : Nat) (lf : Int32) (ir : Int32) (ln : Int64) (qL : Nat → Nat) (kL : Nat → ClassId) (rows : Nat → Int64) (lens : Nat → Int32) (psz : Int32) (qK : Nat → Nat) (kK : Nat → ClassId) (vals : Nat → Int32) (hold : Int64) (call : Int32) (f0 : Nat) (fio : Int64) (fqu : Int32) (fal : Int32) (fco : Int32) (fgu : Int32) (qY : Nat → Nat) (kY : Nat → ClassId) (ft : Nat → Int32) (fs : Int32) (qs : Int32) (als : Int32) (cs : Int32) (ps : Int32) (wire : Int32) (alo : Int32) (name : Int64)  : MW l D yX8_verify (Cond.code yX8_verify cX8_verify 9 (some .boolean) :: TT) rm_X8_verify [.ref r0, .long name] [(kS, .long), (kC 1, .long), (kC 2, .long), (kT 1, .int), (kT 2, .long), (kT 3, .int), (kT 4, .long), (kT 5, .long), (kL 1, .long), (kL 2, .int), (kK 1, .int), (kY 1, .int)] (rolW r0 ri rs kS sl qC kC pr nx ns csz s0 qT kT kinds names seeds ones ofk sz there awake grp gm gb p0 lf ir ln qL kL rows lens psz qK kK vals hold call f0 fio fqu fal fco fgu qY kY ft fs qs als cs ps wire alo) (some (.int (r_X8_verify ones there awake grp name))) (rolW r0 ri rs kS sl qC kC pr nx ns csz s0 qT kT kinds names seeds ones ofk sz there awake grp gm gb p0 lf ir ln qL kL rows lens psz qK kK vals hold call f0 fio fqu fal fco fgu qY kY ft fs qs als cs (u_X8_verify_ps ones there awake grp ps name) wire alo) := by
  refine MW.of (cc := cX8_verify) (nL := 9) (ret := (some .boolean)) (lv := [(0, .ref r0), (1, .long name)]) (by decide) ((rolW_ad ..).trans (rolW_ad ..).symm) rfl (Nat.le_of_ble_eq_true rfl) ?_
  intro p e s m args below meth c A Q hQ X
  refine aw_aload_n X (pc := 0) 0 rfl rfl dX8_verify_0 ?_
  refine aw_get X (pc := 1) iX8 0 0 rfl rfl (by decide) fl_X8_12 rfl dX8_verify_1 ?_
  refine aw_get X (pc := 4) iX5 5 0 rfl rfl (by decide) fl_X8_39 rfl dX8_verify_4 ?_
  refine aw_callV X (pc := 7) (q1 := 6) (rest := []) (st' := [.long ((there &&& awake) &&& grp)]) (ws' := (rolW r0 ri rs kS sl qC kC pr nx ns csz s0 qT kT kinds names seeds ones ofk sz there awake grp gm gb p0 lf ir ln qL kL rows lens psz qK kK vals hold call f0 fio fqu fal fco fgu qY kY ft fs qs als cs ps wire alo)) (c_X6_listening l D qT kT kinds names seeds ones ofk sz there awake grp gm gb) rfl rfl [6, 7, 8, 9, 10, 11] [3, 4, 5, 6, 7] rfl (by decide +kernel) rfl rfl ⟨_, _, rfl⟩ rfl cf_X8_77 cd_X6_listening dd_X6_listening (by decide) (by decide) (by decide) rfl (Nat.le_of_ble_eq_true rfl) dX8_verify_7 rfl ?_
  refine aw_lstore_n X (pc := 10) (lv' := [(3, .long ((there &&& awake) &&& grp)), (0, .ref r0), (1, .long name)]) rfl (by decide) rfl dX8_verify_10 ?_
  refine aw_iconst X (pc := 11) (v := 0) dX8_verify_11 (by decide) ?_
  refine aw_istore X (pc := 12) (lv' := [(5, .int 0), (3, .long ((there &&& awake) &&& grp)), (0, .ref r0), (1, .long name)]) (by decide) rfl dX8_verify_12 ?_
  refine aw_iconst X (pc := 14) (v := 0) dX8_verify_14 (by decide) ?_
  refine aw_istore X (pc := 15) (lv' := [(6, .int 0), (5, .int 0), (3, .long ((there &&& awake) &&& grp)), (0, .ref r0), (1, .long name)]) (by decide) rfl dX8_verify_15 ?_
  have hx1 : ∀ (k : Nat) (iw : Int64), k ≤ 64 → (k, iw) = lpW (g_X8_verify_17) (b_X8_verify_17 ones name) 64 0 ((there &&& awake) &&& grp) → AW p l e rm_X8_verify s m args below meth c D A 9 0 0 Q 77 [(6, .int (nI k)), (5, .int (nI k)), (3, .long iw), (0, .ref r0), (1, .long name)] [] (rolW r0 ri rs kS sl qC kC pr nx ns csz s0 qT kT kinds names seeds ones ofk sz there awake grp gm gb p0 lf ir ln qL kL rows lens psz qK kK vals hold call f0 fio fqu fal fco fgu qY kY ft fs qs als cs ps wire alo) := by
    intro k iw hk1  hf1
    refine aw_aload_n X (pc := 77) 3 rfl rfl dX8_verify_77 ?_
    refine aw_get X (pc := 78) iX8 0 0 rfl rfl (by decide) fl_X8_12 rfl dX8_verify_78 ?_
    refine aw_get X (pc := 81) iX5 5 5 rfl rfl (by decide) fl_X8_94 rfl dX8_verify_81 ?_
    refine aw_iload X (pc := 84) 1 rfl dX8_verify_84 ?_
    refine aw_callV X (pc := 86) (q1 := 19) (rest := []) (st' := []) (ws' := (rolW r0 ri rs kS sl qC kC pr nx ns csz s0 qT kT kinds names seeds ones ofk sz there awake grp gm gb p0 lf ir ln qL kL rows lens psz qK kK vals hold call f0 fio fqu fal fco fgu qY kY ft fs qs als cs (ps + (1 + (3 * (nI k)))) wire alo)) (c_X7_addPassSlots l D qY kY ft fs qs als cs ps (nI k)) rfl rfl [19, 20] [11] rfl (by decide +kernel) rfl rfl ⟨_, _, rfl⟩ rfl cf_X8_134 cd_X7_addPassSlots dd_X7_addPassSlots (by decide) (by decide) (by decide) rfl (Nat.le_of_ble_eq_true rfl) dX8_verify_86 rfl ?_
    refine aw_lload_n X (pc := 89) 2 rfl rfl dX8_verify_89 ?_
    refine aw_lconst X (pc := 90) (v := 0) dX8_verify_90 (by decide) ?_
    refine aw_lcmp X (pc := 91) dX8_verify_91 ?_
    refine aw_if_eq X (pc := 92) (tgt := 99) (by decide) dX8_verify_92 (fun c7 => ?_) (fun c7 => ?_)
    · refine aw_iconst X (pc := 99) (v := 0) dX8_verify_99 (by decide) ?_
      exact aw_zret X (v := 0) rfl hQ (by simp only [r_X8_verify, if_pos c7, ← hf1]; try rfl) (by simp only [u_X8_verify_ps, if_pos c7, ← hf1]) dX8_verify_100
    · refine aw_iconst X (pc := 95) (v := 1) dX8_verify_95 (by decide) ?_
      refine aw_goto X (pc := 96) (tgt := 100) (by decide) dX8_verify_96 ?_
      exact aw_zret X (v := 1) rfl hQ (by simp only [r_X8_verify, if_neg c7, ← hf1]; try rfl) (by simp only [u_X8_verify_ps, if_neg c7, ← hf1]) dX8_verify_100
  have L1 : ∀ (n1 k : Nat) (iw : Int64), k + n1 = 64 → lpW (g_X8_verify_17) (b_X8_verify_17 ones name) n1 k iw = lpW (g_X8_verify_17) (b_X8_verify_17 ones name) 64 0 ((there &&& awake) &&& grp) → AW p l e rm_X8_verify s m args below meth c D A 9 0 0 Q 17 [(6, .int (nI k)), (5, .int (nI k)), (3, .long iw), (0, .ref r0), (1, .long name)] [] (rolW r0 ri rs kS sl qC kC pr nx ns csz s0 qT kT kinds names seeds ones ofk sz there awake grp gm gb p0 lf ir ln qL kL rows lens psz qK kK vals hold call f0 fio fqu fal fco fgu qY kY ft fs qs als cs ps wire alo) := by
    intro n1; induction n1 with
    | zero =>
      intro k iw hk1  hf1
      refine aw_iload X (pc := 17) 0 rfl dX8_verify_17 ?_
      refine aw_bipush X (pc := 19) (v := 64) dX8_verify_19 (by decide) ?_
      refine aw_icmp_ge X (pc := 21) (tgt := 77) (by decide) dX8_verify_21 (fun c8 => ?_) (fun c8 => absurd (nn_le (a := 64) (b := k) rfl rfl (by omega) (by omega)) c8)
      exact aw_sub (lv' := [(6, .int (nI k)), (5, .int (nI k)), (3, .long iw), (0, .ref r0), (1, .long name)]) [0, 1, 2, 3, 4] rfl (hx1 k iw (by omega)  hf1)
    | succ n1 ih1 =>
      intro k iw hk1  hf1
      refine aw_iload X (pc := 17) 0 rfl dX8_verify_17 ?_
      refine aw_bipush X (pc := 19) (v := 64) dX8_verify_19 (by decide) ?_
      refine aw_icmp_ge X (pc := 21) (tgt := 77) (by decide) dX8_verify_21 (fun c2 => absurd c2 (nn_nle (a := 64) (b := k) rfl rfl (by omega) (by omega))) (fun c2 => ?_)
      refine aw_lload_n X (pc := 24) 2 rfl rfl dX8_verify_24 ?_
      refine aw_lconst X (pc := 25) (v := 0) dX8_verify_25 (by decide) ?_
      refine aw_lcmp X (pc := 26) dX8_verify_26 ?_
      refine aw_if_eq X (pc := 27) (tgt := 77) (by decide) dX8_verify_27 (fun c3 => ?_) (fun c3 => ?_)
      · exact aw_sub (lv' := [(6, .int (nI k)), (5, .int (nI k)), (3, .long iw), (0, .ref r0), (1, .long name)]) [0, 1, 2, 3, 4] rfl (hx1 k iw (by omega)  (by rw [← lpW_stop (go := g_X8_verify_17) (body := b_X8_verify_17 ones name) (n := n1) (k := k) (s := iw) (by simp [g_X8_verify_17, c3])]; exact hf1))
      · refine aw_iinc X (pc := 30) (kx := 1) (v := nI (k + 1)) (lv' := [(5, .int (nI (k + 1))), (6, .int (nI k)), (3, .long iw), (0, .ref r0), (1, .long name)]) rfl (nn_add (a := k) (b := 1) rfl rfl rfl) (by decide) rfl dX8_verify_30 ?_
        refine aw_aload_n X (pc := 33) 3 rfl rfl dX8_verify_33 ?_
        refine aw_get X (pc := 34) iX8 0 0 rfl rfl (by decide) fl_X8_12 rfl dX8_verify_34 ?_
        refine aw_get X (pc := 37) iX5 5 0 rfl rfl (by decide) fl_X8_39 rfl dX8_verify_37 ?_
        refine aw_lload_n X (pc := 40) 2 rfl rfl dX8_verify_40 ?_
        refine aw_iload X (pc := 41) 1 rfl dX8_verify_41 ?_
        refine aw_callV X (pc := 43) (q1 := 6) (rest := []) (st' := [.long (r_X6_tellingOne ones iw (nI k))]) (ws' := (rolW r0 ri rs kS sl qC kC pr nx ns csz s0 qT kT kinds names seeds ones ofk sz there awake grp gm gb p0 lf ir ln qL kL rows lens psz qK kK vals hold call f0 fio fqu fal fco fgu qY kY ft fs qs als cs ps wire alo)) (c_X6_tellingOne l D qT kT kinds names seeds ones ofk sz there awake grp gm gb iw (nI k)) rfl rfl [6, 7, 8, 9, 10, 11] [3, 4, 5, 6, 7] rfl (by decide +kernel) rfl rfl ⟨_, _, rfl⟩ rfl cf_X8_119 cd_X6_tellingOne dd_X6_tellingOne (by decide) (by decide) (by decide) rfl (Nat.le_of_ble_eq_true rfl) dX8_verify_43 rfl ?_
        refine aw_lstore X (pc := 46) (lv' := [(7, .long (r_X6_tellingOne ones iw (nI k))), (5, .int (nI (k + 1))), (6, .int (nI k)), (3, .long iw), (0, .ref r0), (1, .long name)]) (by decide) rfl dX8_verify_46 ?_
        refine aw_lload_n X (pc := 48) 5 rfl rfl dX8_verify_48 ?_
        refine aw_iload X (pc := 49) 2 rfl dX8_verify_49 ?_
        refine aw_callS X (pc := 51) (rest := []) (st' := [.int (r_X8_isOneAt name (nI k))]) (ws' := (rolW r0 ri rs kS sl qC kC pr nx ns csz s0 qT kT kinds names seeds ones ofk sz there awake grp gm gb p0 lf ir ln qL kL rows lens psz qK kK vals hold call f0 fio fqu fal fco fgu qY kY ft fs qs als cs ps wire alo)) (c_X8_isOneAt l D name (nI k)) rfl [] [] rfl (by decide +kernel) rfl rfl cf_X8_157 cd_X8_isOneAt dd_X8_isOneAt (by decide) (by decide) (by decide) rfl (Nat.le_of_ble_eq_true rfl) dX8_verify_51 rfl ?_
        refine aw_if_eq X (pc := 54) (tgt := 62) (by decide) dX8_verify_54 (fun c4 => ?_) (fun c4 => ?_)
        · refine aw_lload_n X (pc := 62) 3 rfl rfl dX8_verify_62 ?_
          refine aw_lload X (pc := 63) 0 rfl dX8_verify_63 ?_
          refine aw_ldc2 X (pc := 65) ld_X8_123 dX8_verify_65 ?_
          refine aw_lxor X (pc := 68) (z := (r_X6_tellingOne ones iw (nI k)) ^^^ (-1)) rfl dX8_verify_68 ?_
          refine aw_land X (pc := 69) (z := iw &&& ((r_X6_tellingOne ones iw (nI k)) ^^^ (-1))) rfl dX8_verify_69 ?_
          refine aw_lstore_n X (pc := 70) (lv' := [(3, .long (iw &&& ((r_X6_tellingOne ones iw (nI k)) ^^^ (-1)))), (7, .long (r_X6_tellingOne ones iw (nI k))), (5, .int (nI (k + 1))), (6, .int (nI k)), (0, .ref r0), (1, .long name)]) rfl (by decide) rfl dX8_verify_70 ?_
          refine aw_iinc X (pc := 71) (kx := 3) (v := nI (k + 1)) (lv' := [(6, .int (nI (k + 1))), (3, .long (iw &&& ((r_X6_tellingOne ones iw (nI k)) ^^^ (-1)))), (7, .long (r_X6_tellingOne ones iw (nI k))), (5, .int (nI (k + 1))), (0, .ref r0), (1, .long name)]) rfl (nn_add (a := k) (b := 1) rfl rfl rfl) (by decide) rfl dX8_verify_71 ?_
          refine aw_goto X (pc := 74) (tgt := 17) (by decide) dX8_verify_74 ?_
          have e5 : b_X8_verify_17 ones name k iw = (iw &&& ((r_X6_tellingOne ones iw (nI k)) ^^^ (-1))) := by simp only [b_X8_verify_17, if_pos c4]
          exact aw_sub (lv' := [(6, .int (nI (k + 1))), (5, .int (nI (k + 1))), (3, .long (iw &&& ((r_X6_tellingOne ones iw (nI k)) ^^^ (-1)))), (0, .ref r0), (1, .long name)]) [0, 3, 1, 4, 5] rfl (ih1 (k + 1) (iw &&& ((r_X6_tellingOne ones iw (nI k)) ^^^ (-1))) (by omega)  (by rw [← e5, ← lpW_go (go := g_X8_verify_17) (body := b_X8_verify_17 ones name) (n := n1) (k := k) (s := iw) (by simp [g_X8_verify_17, c3])]; exact hf1))
        · refine aw_lload X (pc := 57) 0 rfl dX8_verify_57 ?_
          refine aw_goto X (pc := 59) (tgt := 70) (by decide) dX8_verify_59 ?_
          refine aw_lstore_n X (pc := 70) (lv' := [(3, .long (r_X6_tellingOne ones iw (nI k))), (7, .long (r_X6_tellingOne ones iw (nI k))), (5, .int (nI (k + 1))), (6, .int (nI k)), (0, .ref r0), (1, .long name)]) rfl (by decide) rfl dX8_verify_70 ?_
          refine aw_iinc X (pc := 71) (kx := 3) (v := nI (k + 1)) (lv' := [(6, .int (nI (k + 1))), (3, .long (r_X6_tellingOne ones iw (nI k))), (7, .long (r_X6_tellingOne ones iw (nI k))), (5, .int (nI (k + 1))), (0, .ref r0), (1, .long name)]) rfl (nn_add (a := k) (b := 1) rfl rfl rfl) (by decide) rfl dX8_verify_71 ?_
          refine aw_goto X (pc := 74) (tgt := 17) (by decide) dX8_verify_74 ?_
          have e6 : b_X8_verify_17 ones name k iw = (r_X6_tellingOne ones iw (nI k)) := by simp only [b_X8_verify_17, if_neg c4]
          exact aw_sub (lv' := [(6, .int (nI (k + 1))), (5, .int (nI (k + 1))), (3, .long (r_X6_tellingOne ones iw (nI k))), (0, .ref r0), (1, .long name)]) [0, 3, 1, 4, 5] rfl (ih1 (k + 1) (r_X6_tellingOne ones iw (nI k)) (by omega)  (by rw [← e6, ← lpW_go (go := g_X8_verify_17) (body := b_X8_verify_17 ones name) (n := n1) (k := k) (s := iw) (by simp [g_X8_verify_17, c3])]; exact hf1))
  exact aw_sub (lv' := [(6, .int 0), (5, .int 0), (3, .long ((there &&& awake) &&& grp)), (0, .ref r0), (1, .long name)]) [0, 1, 2, 3, 4] rfl (L1 64 0 ((there &&& awake) &&& grp) (by omega)  rfl)
