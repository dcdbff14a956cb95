def b_X8_pass_19 (ones : Nat → Int64) (lf : Int32) (ln : Int64) (k : Nat) (σ : Int64 × Int32) : Int64 × Int32 := if lg_cmp (r_X6_tellingOne ones σ.1 (nI k)) 0 = 0 then (σ.1 &&& ((r_X6_tellingOne ones σ.1 (nI k)) ^^^ (-1)), σ.2) else (if lg_cmp (σ.1 &&& ((r_X6_tellingOne ones σ.1 (nI k)) ^^^ (-1))) 0 = 0 then (r_X6_tellingOne ones σ.1 (nI k), σ.2) else (if r_X3_wayIsOneAt lf ln (nI k) = 0 then (σ.1 &&& ((r_X6_tellingOne ones σ.1 (nI k)) ^^^ (-1)), nI k) else (r_X6_tellingOne ones σ.1 (nI k), σ.2)))
def g_X8_pass_19  (k : Nat) (σ : Int64 × Int32) : Bool := !decide (lg_cmp σ.1 0 = 0)
def r_X8_pass (ones : Nat → Int64) (sz : Int32) (there : Int64) (awake : Int64) (grp : Int64) (lf : Int32) (ln : Int64) : Int32 := if r_X6_has sz (r_X8_firstOf ((lpW (g_X8_pass_19) (b_X8_pass_19 ones lf ln) 64 0 ((there &&& awake) &&& grp, (-1))).2.1)) = 0 then (-1) else (r_X8_firstOf ((lpW (g_X8_pass_19) (b_X8_pass_19 ones lf ln) 64 0 ((there &&& awake) &&& grp, (-1))).2.1))
def u_X8_pass_lf (ones : Nat → Int64) (sz : Int32) (there : Int64) (awake : Int64) (grp : Int64) (lf : Int32) (ln : Int64) : Int32 := if r_X6_has sz (r_X8_firstOf ((lpW (g_X8_pass_19) (b_X8_pass_19 ones lf ln) 64 0 ((there &&& awake) &&& grp, (-1))).2.1)) = 0 then (-1) else (u_X3_goOnFrom_lf ((lpW (g_X8_pass_19) (b_X8_pass_19 ones lf ln) 64 0 ((there &&& awake) &&& grp, (-1))).2.2))
def u_X8_pass_ir (ones : Nat → Int64) (sz : Int32) (there : Int64) (awake : Int64) (grp : Int64) (lf : Int32) (ir : Int32) (ln : Int64) : Int32 := if r_X6_has sz (r_X8_firstOf ((lpW (g_X8_pass_19) (b_X8_pass_19 ones lf ln) 64 0 ((there &&& awake) &&& grp, (-1))).2.1)) = 0 then 0 else (u_X3_goOnFrom_ir ir ((lpW (g_X8_pass_19) (b_X8_pass_19 ones lf ln) 64 0 ((there &&& awake) &&& grp, (-1))).2.2))
def u_X8_pass_ln (names : Nat → Int64) (ones : Nat → Int64) (sz : Int32) (there : Int64) (awake : Int64) (grp : Int64) (lf : Int32) (ln : Int64) : Int64 := if r_X6_has sz (r_X8_firstOf ((lpW (g_X8_pass_19) (b_X8_pass_19 ones lf ln) 64 0 ((there &&& awake) &&& grp, (-1))).2.1)) = 0 then ln else (u_X3_goOnFrom_ln ln ((lpW (g_X8_pass_19) (b_X8_pass_19 ones lf ln) 64 0 ((there &&& awake) &&& grp, (-1))).2.2) (names ((r_X8_firstOf ((lpW (g_X8_pass_19) (b_X8_pass_19 ones lf ln) 64 0 ((there &&& awake) &&& grp, (-1))).2.1)).toNatClampNeg)))
def u_X8_pass_ft (ones : Nat → Int64) (sz : Int32) (there : Int64) (awake : Int64) (grp : Int64) (lf : Int32) (ln : Int64) (ft : Nat → Int32) (fs : Int32) (f : Nat) : Nat → Int32 := if r_X6_has sz (r_X8_firstOf ((lpW (g_X8_pass_19) (b_X8_pass_19 ones lf ln) 64 0 ((there &&& awake) &&& grp, (-1))).2.1)) = 0 then ft else (u_X7_addFound_ft ft fs f (r_X8_firstOf ((lpW (g_X8_pass_19) (b_X8_pass_19 ones lf ln) 64 0 ((there &&& awake) &&& grp, (-1))).2.1)))
def u_X8_pass_fs (ones : Nat → Int64) (sz : Int32) (there : Int64) (awake : Int64) (grp : Int64) (lf : Int32) (ln : Int64) (fs : Int32) (f : Nat) : Int32 := if r_X6_has sz (r_X8_firstOf ((lpW (g_X8_pass_19) (b_X8_pass_19 ones lf ln) 64 0 ((there &&& awake) &&& grp, (-1))).2.1)) = 0 then fs else (u_X7_addFound_fs fs f)
def u_X8_pass_ps (ones : Nat → Int64) (there : Int64) (awake : Int64) (grp : Int64) (lf : Int32) (ln : Int64) (ps : Int32) : Int32 := ps + (1 + (3 * (nI ((lpW (g_X8_pass_19) (b_X8_pass_19 ones lf ln) 64 0 ((there &&& awake) &&& grp, (-1))).1))))
abbrev rm_X8_pass : Room := { frames := 2, cells := 0, slots := 0, locals := 43 }
set_option maxHeartbeats 400000 in
set_option maxRecDepth 100000 in
theorem c_X8_pass (l : Launch) (D : va_G) (r0 : Nat) (ri : Nat) (rs : Nat) (kS : ClassId) (sl : Nat → Int64) (qC : Nat → Nat) (kC : Nat → ClassId) (pr : Nat → Int64) (nx : Nat → Int64) (ns : Int32) (csz : Int32) (s0 : Nat) (qT : Nat → Nat) (kT : Nat → ClassId) (kinds : Nat → Int32) (names : Nat → Int64) (seeds : Nat → Int32) (ones : Nat → Int64) (ofk : Nat → Int64) (sz : Int32) (there : Int64) (awake : Int64) (grp : Int64) (gm : Int64) (gb : Int64) (p0 : Nat) (lf : Int32) (ir : Int32) (ln : Int64) (qL : Nat → Nat) (kL : Nat → ClassId) (rows : Nat → Int64) (lens : Nat → Int32) (psz : Int32) (qK : Nat → Nat) (kK : Nat → ClassId) (vals : Nat → Int32) (hold : Int64) (call : Int32) (f0 : Nat) (fio : Int64) (fqu : Int32) (fal : Int32) (fco : Int32) (fgu : Int32) (qY : Nat → Nat) (kY : Nat → ClassId) (ft : Nat → Int32) (fs : Int32) (qs : Int32) (als : Int32) (cs : Int32) (ps : Int32) (wire : Int32) (alo : Int32) (n : Nat) (f : Nat) (hsz : sz = nI n) (hn : n ≤ 40) (hfs : fs = nI f) (hf : f ≤ 200) : MW l D yX8_pass (Cond.code yX8_pass cX8_pass 12 (some .int) :: TT) rm_X8_pass [.ref r0] [(kS, .long), (kC 1, .long), (kC 2, .long), (kT 1, .int), (kT 2, .long), (kT 3, .int), (kT 4, .long), (kT 5, .long), (kL 1, .long), (kL 2, .int), (kK 1, .int), (kY 1, .int)] (rolW r0 ri rs kS sl qC kC pr nx ns csz s0 qT kT kinds names seeds ones ofk sz there awake grp gm gb p0 lf ir ln qL kL rows lens psz qK kK vals hold call f0 fio fqu fal fco fgu qY kY ft fs qs als cs ps wire alo) (some (.int (r_X8_pass ones sz there awake grp lf ln))) (rolW r0 ri rs kS sl qC kC pr nx ns csz s0 qT kT kinds names seeds ones ofk sz there awake grp gm gb p0 (u_X8_pass_lf ones sz there awake grp lf ln) (u_X8_pass_ir ones sz there awake grp lf ir ln) (u_X8_pass_ln names ones sz there awake grp lf ln) qL kL rows lens psz qK kK vals hold call f0 fio fqu fal fco fgu qY kY (u_X8_pass_ft ones sz there awake grp lf ln ft fs f) (u_X8_pass_fs ones sz there awake grp lf ln fs f) qs als cs (u_X8_pass_ps ones there awake grp lf ln ps) wire alo) := by
  refine MW.of (cc := cX8_pass) (nL := 12) (ret := (some .int)) (lv := [(0, .ref r0)]) (by decide) ((rolW_ad ..).trans (rolW_ad ..).symm) rfl (Nat.le_of_ble_eq_true rfl) ?_
  intro p e s m args below meth c A Q hQ X
  refine aw_aload_n X (pc := 0) 0 rfl rfl dX8_pass_0 ?_
  refine aw_get X (pc := 1) iX8 0 0 rfl rfl (by decide) fl_X8_12 rfl dX8_pass_1 ?_
  refine aw_get X (pc := 4) iX5 5 0 rfl rfl (by decide) fl_X8_39 rfl dX8_pass_4 ?_
  refine aw_callV X (pc := 7) (q1 := 6) (rest := []) (st' := [.long ((there &&& awake) &&& grp)]) (ws' := (rolW r0 ri rs kS sl qC kC pr nx ns csz s0 qT kT kinds names seeds ones ofk sz there awake grp gm gb p0 lf ir ln qL kL rows lens psz qK kK vals hold call f0 fio fqu fal fco fgu qY kY ft fs qs als cs ps wire alo)) (c_X6_listening l D qT kT kinds names seeds ones ofk sz there awake grp gm gb) rfl rfl [6, 7, 8, 9, 10, 11] [3, 4, 5, 6, 7] rfl (by decide +kernel) rfl rfl ⟨_, _, rfl⟩ rfl cf_X8_77 cd_X6_listening dd_X6_listening (by decide) (by decide) (by decide) rfl (Nat.le_of_ble_eq_true rfl) dX8_pass_7 rfl ?_
  refine aw_lstore_n X (pc := 10) (lv' := [(1, .long ((there &&& awake) &&& grp)), (0, .ref r0)]) rfl (by decide) rfl dX8_pass_10 ?_
  refine aw_iconst X (pc := 11) (v := 0) dX8_pass_11 (by decide) ?_
  refine aw_istore_n X (pc := 12) (lv' := [(3, .int 0), (1, .long ((there &&& awake) &&& grp)), (0, .ref r0)]) rfl (by decide) rfl dX8_pass_12 ?_
  refine aw_iconst X (pc := 13) (v := (-1)) dX8_pass_13 (by decide) ?_
  refine aw_istore X (pc := 14) (lv' := [(4, .int (-1)), (3, .int 0), (1, .long ((there &&& awake) &&& grp)), (0, .ref r0)]) (by decide) rfl dX8_pass_14 ?_
  refine aw_iconst X (pc := 16) (v := 0) dX8_pass_16 (by decide) ?_
  refine aw_istore X (pc := 17) (lv' := [(5, .int 0), (4, .int (-1)), (3, .int 0), (1, .long ((there &&& awake) &&& grp)), (0, .ref r0)]) (by decide) rfl dX8_pass_17 ?_
  have hx1 : ∀ (k : Nat) (iw : Int64) (lz_ : Int32), k ≤ 64 → (k, (iw, lz_)) = lpW (g_X8_pass_19) (b_X8_pass_19 ones lf ln) 64 0 ((there &&& awake) &&& grp, (-1)) → AW p l e rm_X8_pass s m args below meth c D A 12 0 0 Q 148 [(5, .int (nI k)), (4, .int lz_), (3, .int (nI k)), (1, .long iw), (0, .ref r0)] [] (rolW r0 ri rs kS sl qC kC pr nx ns csz s0 qT kT kinds names seeds ones ofk sz there awake grp gm gb p0 lf ir ln qL kL rows lens psz qK kK vals hold call f0 fio fqu fal fco fgu qY kY ft fs qs als cs ps wire alo) := by
    intro k iw lz_ hk1  hf1
    refine aw_aload_n X (pc := 148) 4 rfl rfl dX8_pass_148 ?_
    refine aw_get X (pc := 149) iX8 0 0 rfl rfl (by decide) fl_X8_12 rfl dX8_pass_149 ?_
    refine aw_get X (pc := 152) iX5 5 5 rfl rfl (by decide) fl_X8_94 rfl dX8_pass_152 ?_
    refine aw_iload_n X (pc := 155) 2 rfl rfl dX8_pass_155 ?_
    refine aw_callV X (pc := 156) (q1 := 19) (rest := []) (st' := []) (ws' := (rolW r0 ri rs kS sl qC kC pr nx ns csz s0 qT kT kinds names seeds ones ofk sz there awake grp gm gb p0 lf ir ln qL kL rows lens psz qK kK vals hold call f0 fio fqu fal fco fgu qY kY ft fs qs als cs (ps + (1 + (3 * (nI k)))) wire alo)) (c_X7_addPassSlots l D qY kY ft fs qs als cs ps (nI k)) rfl rfl [19, 20] [11] rfl (by decide +kernel) rfl rfl ⟨_, _, rfl⟩ rfl cf_X8_134 cd_X7_addPassSlots dd_X7_addPassSlots (by decide) (by decide) (by decide) rfl (Nat.le_of_ble_eq_true rfl) dX8_pass_156 rfl ?_
    refine aw_lload_n X (pc := 159) 3 rfl rfl dX8_pass_159 ?_
    refine aw_callS X (pc := 160) (rest := []) (st' := [.int (r_X8_firstOf iw)]) (ws' := (rolW r0 ri rs kS sl qC kC pr nx ns csz s0 qT kT kinds names seeds ones ofk sz there awake grp gm gb p0 lf ir ln qL kL rows lens psz qK kK vals hold call f0 fio fqu fal fco fgu qY kY ft fs qs als cs (ps + (1 + (3 * (nI k)))) wire alo)) (c_X8_firstOf l D iw) rfl [] [] rfl (by decide +kernel) rfl rfl cf_X8_138 cd_X8_firstOf dd_X8_firstOf (by decide) (by decide) (by decide) rfl (Nat.le_of_ble_eq_true rfl) dX8_pass_160 rfl ?_
    refine aw_istore X (pc := 163) (lv' := [(5, .int (r_X8_firstOf iw)), (4, .int lz_), (3, .int (nI k)), (1, .long iw), (0, .ref r0)]) (by decide) rfl dX8_pass_163 ?_
    refine aw_aload_n X (pc := 165) 4 rfl rfl dX8_pass_165 ?_
    refine aw_get X (pc := 166) iX8 0 0 rfl rfl (by decide) fl_X8_12 rfl dX8_pass_166 ?_
    refine aw_get X (pc := 169) iX5 5 0 rfl rfl (by decide) fl_X8_39 rfl dX8_pass_169 ?_
    refine aw_iload X (pc := 172) 0 rfl dX8_pass_172 ?_
    refine aw_callV X (pc := 174) (q1 := 6) (rest := []) (st' := [.int (r_X6_has sz (r_X8_firstOf iw))]) (ws' := (rolW r0 ri rs kS sl qC kC pr nx ns csz s0 qT kT kinds names seeds ones ofk sz there awake grp gm gb p0 lf ir ln qL kL rows lens psz qK kK vals hold call f0 fio fqu fal fco fgu qY kY ft fs qs als cs (ps + (1 + (3 * (nI k)))) wire alo)) (c_X6_has l D qT kT kinds names seeds ones ofk sz there awake grp gm gb (r_X8_firstOf iw)) rfl rfl [6, 7, 8, 9, 10, 11] [3, 4, 5, 6, 7] rfl (by decide +kernel) rfl rfl ⟨_, _, rfl⟩ rfl cf_X8_49 cd_X6_has dd_X6_has (by decide) (by decide) (by decide) rfl (Nat.le_of_ble_eq_true rfl) dX8_pass_174 rfl ?_
    refine aw_if_ne X (pc := 177) (tgt := 192) (by decide) dX8_pass_177 (fun c23 => ?_) (fun c23 => ?_)
    · obtain ⟨ht24, hu25⟩ := has_nat (n := n) hsz (by omega) c23
      refine aw_aload_n X (pc := 192) 4 rfl rfl dX8_pass_192 ?_
      refine aw_get X (pc := 193) iX8 0 0 rfl rfl (by decide) fl_X8_12 rfl dX8_pass_193 ?_
      refine aw_get X (pc := 196) iX5 5 1 rfl rfl (by decide) fl_X8_125 rfl dX8_pass_196 ?_
      refine aw_iload X (pc := 199) 1 rfl dX8_pass_199 ?_
      refine aw_aload_n X (pc := 201) 4 rfl rfl dX8_pass_201 ?_
      refine aw_get X (pc := 202) iX8 0 0 rfl rfl (by decide) fl_X8_12 rfl dX8_pass_202 ?_
      refine aw_get X (pc := 205) iX5 5 0 rfl rfl (by decide) fl_X8_39 rfl dX8_pass_205 ?_
      refine aw_get X (pc := 208) iX6 6 1 rfl rfl (by decide) fl_X8_53 rfl dX8_pass_208 ?_
      refine aw_iload X (pc := 211) 0 rfl dX8_pass_211 ?_
      refine aw_lald X (pc := 213) 8 4 ((r_X8_firstOf iw).toNatClampNeg) ht24 rfl rfl (by decide) (by omega) dX8_pass_213 ?_
      refine aw_callV X (pc := 214) (q1 := 12) (rest := []) (st' := []) (ws' := (rolW r0 ri rs kS sl qC kC pr nx ns csz s0 qT kT kinds names seeds ones ofk sz there awake grp gm gb p0 (u_X3_goOnFrom_lf lz_) (u_X3_goOnFrom_ir ir lz_) (u_X3_goOnFrom_ln ln lz_ (names ((r_X8_firstOf iw).toNatClampNeg))) qL kL rows lens psz qK kK vals hold call f0 fio fqu fal fco fgu qY kY ft fs qs als cs (ps + (1 + (3 * (nI k)))) wire alo)) (c_X3_goOnFrom l D p0 lf ir ln lz_ (names ((r_X8_firstOf iw).toNatClampNeg))) rfl rfl [12] [] rfl (by decide +kernel) rfl rfl ⟨_, _, rfl⟩ rfl cf_X8_144 cd_X3_goOnFrom dd_X3_goOnFrom (by decide) (by decide) (by decide) rfl (Nat.le_of_ble_eq_true rfl) dX8_pass_214 rfl ?_
      refine aw_aload_n X (pc := 217) 4 rfl rfl dX8_pass_217 ?_
      refine aw_get X (pc := 218) iX8 0 0 rfl rfl (by decide) fl_X8_12 rfl dX8_pass_218 ?_
      refine aw_get X (pc := 221) iX5 5 5 rfl rfl (by decide) fl_X8_94 rfl dX8_pass_221 ?_
      refine aw_iload X (pc := 224) 0 rfl dX8_pass_224 ?_
      refine aw_callV X (pc := 226) (q1 := 19) (rest := []) (st' := []) (ws' := (rolW r0 ri rs kS sl qC kC pr nx ns csz s0 qT kT kinds names seeds ones ofk sz there awake grp gm gb p0 (u_X3_goOnFrom_lf lz_) (u_X3_goOnFrom_ir ir lz_) (u_X3_goOnFrom_ln ln lz_ (names ((r_X8_firstOf iw).toNatClampNeg))) qL kL rows lens psz qK kK vals hold call f0 fio fqu fal fco fgu qY kY (u_X7_addFound_ft ft fs f (r_X8_firstOf iw)) (u_X7_addFound_fs fs f) qs als cs (ps + (1 + (3 * (nI k)))) wire alo)) (c_X7_addFound l D qY kY ft fs qs als cs (ps + (1 + (3 * (nI k)))) f (r_X8_firstOf iw) hfs (by omega)) rfl rfl [19, 20] [11] rfl (by decide +kernel) rfl rfl ⟨_, _, rfl⟩ rfl cf_X8_148 cd_X7_addFound dd_X7_addFound (by decide) (by decide) (by decide) rfl (Nat.le_of_ble_eq_true rfl) dX8_pass_226 rfl ?_
      have hg26 : u_X7_addFound_fs fs f = nI (fN f) := add_fs hfs (by omega)
      have hg26b : fN f ≤ 200 := fN_le (by omega)
      refine aw_iload X (pc := 229) 0 rfl dX8_pass_229 ?_
      exact aw_iret X (v := r_X8_firstOf iw) hQ (by simp only [r_X8_pass, if_neg c23, ← hf1]; try rfl) (by simp only [u_X8_pass_lf, u_X8_pass_ir, u_X8_pass_ln, u_X8_pass_ft, u_X8_pass_fs, u_X8_pass_ps, if_neg c23, ← hf1]) dX8_pass_231
    · refine aw_aload_n X (pc := 180) 4 rfl rfl dX8_pass_180 ?_
      refine aw_get X (pc := 181) iX8 0 0 rfl rfl (by decide) fl_X8_12 rfl dX8_pass_181 ?_
      refine aw_get X (pc := 184) iX5 5 1 rfl rfl (by decide) fl_X8_125 rfl dX8_pass_184 ?_
      refine aw_callV X (pc := 187) (q1 := 12) (rest := []) (st' := []) (ws' := (rolW r0 ri rs kS sl qC kC pr nx ns csz s0 qT kT kinds names seeds ones ofk sz there awake grp gm gb p0 (-1) 0 ln qL kL rows lens psz qK kK vals hold call f0 fio fqu fal fco fgu qY kY ft fs qs als cs (ps + (1 + (3 * (nI k)))) wire alo)) (c_X3_endRow l D p0 lf ir ln) rfl rfl [12] [] rfl (by decide +kernel) rfl rfl ⟨_, _, rfl⟩ rfl cf_X8_141 cd_X3_endRow dd_X3_endRow (by decide) (by decide) (by decide) rfl (Nat.le_of_ble_eq_true rfl) dX8_pass_187 rfl ?_
      refine aw_iconst X (pc := 190) (v := (-1)) dX8_pass_190 (by decide) ?_
      exact aw_iret X (v := (-1)) hQ (by simp only [r_X8_pass, if_pos c23, ← hf1]; try rfl) (by simp only [u_X8_pass_lf, u_X8_pass_ir, u_X8_pass_ln, u_X8_pass_ft, u_X8_pass_fs, u_X8_pass_ps, if_pos c23, ← hf1]) dX8_pass_191
  have L1 : ∀ (n1 k : Nat) (iw : Int64) (lz_ : Int32), k + n1 = 64 → lpW (g_X8_pass_19) (b_X8_pass_19 ones lf ln) n1 k (iw, lz_) = lpW (g_X8_pass_19) (b_X8_pass_19 ones lf ln) 64 0 ((there &&& awake) &&& grp, (-1)) → AW p l e rm_X8_pass s m args below meth c D A 12 0 0 Q 19 [(5, .int (nI k)), (4, .int lz_), (3, .int (nI k)), (1, .long iw), (0, .ref r0)] [] (rolW r0 ri rs kS sl qC kC pr nx ns csz s0 qT kT kinds names seeds ones ofk sz there awake grp gm gb p0 lf ir ln qL kL rows lens psz qK kK vals hold call f0 fio fqu fal fco fgu qY kY ft fs qs als cs ps wire alo) := by
    intro n1; induction n1 with
    | zero =>
      intro k iw lz_ hk1  hf1
      refine aw_iload X (pc := 19) 0 rfl dX8_pass_19 ?_
      refine aw_bipush X (pc := 21) (v := 64) dX8_pass_21 (by decide) ?_
      refine aw_icmp_ge X (pc := 23) (tgt := 148) (by decide) dX8_pass_23 (fun c27 => ?_) (fun c27 => absurd (nn_le (a := 64) (b := k) rfl rfl (by omega) (by omega)) c27)
      exact aw_sub (lv' := [(5, .int (nI k)), (4, .int lz_), (3, .int (nI k)), (1, .long iw), (0, .ref r0)]) [0, 1, 2, 3, 4] rfl (hx1 k iw lz_ (by omega)  hf1)
    | succ n1 ih1 =>
      intro k iw lz_ hk1  hf1
      refine aw_iload X (pc := 19) 0 rfl dX8_pass_19 ?_
      refine aw_bipush X (pc := 21) (v := 64) dX8_pass_21 (by decide) ?_
      refine aw_icmp_ge X (pc := 23) (tgt := 148) (by decide) dX8_pass_23 (fun c2 => absurd c2 (nn_nle (a := 64) (b := k) rfl rfl (by omega) (by omega))) (fun c2 => ?_)
      refine aw_lload_n X (pc := 26) 3 rfl rfl dX8_pass_26 ?_
      refine aw_lconst X (pc := 27) (v := 0) dX8_pass_27 (by decide) ?_
      refine aw_lcmp X (pc := 28) dX8_pass_28 ?_
      refine aw_if_eq X (pc := 29) (tgt := 148) (by decide) dX8_pass_29 (fun c3 => ?_) (fun c3 => ?_)
      · exact aw_sub (lv' := [(5, .int (nI k)), (4, .int lz_), (3, .int (nI k)), (1, .long iw), (0, .ref r0)]) [0, 1, 2, 3, 4] rfl (hx1 k iw lz_ (by omega)  (by rw [← lpW_stop (go := g_X8_pass_19) (body := b_X8_pass_19 ones lf ln) (n := n1) (k := k) (s := (iw, lz_)) (by simp [g_X8_pass_19, c3])]; exact hf1))
      · refine aw_iinc X (pc := 32) (kx := 2) (v := nI (k + 1)) (lv' := [(3, .int (nI (k + 1))), (5, .int (nI k)), (4, .int lz_), (1, .long iw), (0, .ref r0)]) rfl (nn_add (a := k) (b := 1) rfl rfl rfl) (by decide) rfl dX8_pass_32 ?_
        refine aw_aload_n X (pc := 35) 4 rfl rfl dX8_pass_35 ?_
        refine aw_get X (pc := 36) iX8 0 0 rfl rfl (by decide) fl_X8_12 rfl dX8_pass_36 ?_
        refine aw_get X (pc := 39) iX5 5 0 rfl rfl (by decide) fl_X8_39 rfl dX8_pass_39 ?_
        refine aw_lload_n X (pc := 42) 3 rfl rfl dX8_pass_42 ?_
        refine aw_iload X (pc := 43) 1 rfl dX8_pass_43 ?_
        refine aw_callV X (pc := 45) (q1 := 6) (rest := []) (st' := [.long (r_X6_tellingOne ones iw (nI k))]) (ws' := (rolW r0 ri rs kS sl qC kC pr nx ns csz s0 qT kT kinds names seeds ones ofk sz there awake grp gm gb p0 lf ir ln qL kL rows lens psz qK kK vals hold call f0 fio fqu fal fco fgu qY kY ft fs qs als cs ps wire alo)) (c_X6_tellingOne l D qT kT kinds names seeds ones ofk sz there awake grp gm gb iw (nI k)) rfl rfl [6, 7, 8, 9, 10, 11] [3, 4, 5, 6, 7] rfl (by decide +kernel) rfl rfl ⟨_, _, rfl⟩ rfl cf_X8_119 cd_X6_tellingOne dd_X6_tellingOne (by decide) (by decide) (by decide) rfl (Nat.le_of_ble_eq_true rfl) dX8_pass_45 rfl ?_
        refine aw_lstore X (pc := 48) (lv' := [(6, .long (r_X6_tellingOne ones iw (nI k))), (3, .int (nI (k + 1))), (5, .int (nI k)), (4, .int lz_), (1, .long iw), (0, .ref r0)]) (by decide) rfl dX8_pass_48 ?_
        refine aw_lload_n X (pc := 50) 4 rfl rfl dX8_pass_50 ?_
        refine aw_lload X (pc := 51) 0 rfl dX8_pass_51 ?_
        refine aw_ldc2 X (pc := 53) ld_X8_123 dX8_pass_53 ?_
        refine aw_lxor X (pc := 56) (z := (r_X6_tellingOne ones iw (nI k)) ^^^ (-1)) rfl dX8_pass_56 ?_
        refine aw_land X (pc := 57) (z := iw &&& ((r_X6_tellingOne ones iw (nI k)) ^^^ (-1))) rfl dX8_pass_57 ?_
        refine aw_lstore X (pc := 58) (lv' := [(8, .long (iw &&& ((r_X6_tellingOne ones iw (nI k)) ^^^ (-1)))), (6, .long (r_X6_tellingOne ones iw (nI k))), (3, .int (nI (k + 1))), (5, .int (nI k)), (4, .int lz_), (1, .long iw), (0, .ref r0)]) (by decide) rfl dX8_pass_58 ?_
        refine aw_lload X (pc := 60) 1 rfl dX8_pass_60 ?_
        refine aw_lconst X (pc := 62) (v := 0) dX8_pass_62 (by decide) ?_
        refine aw_lcmp X (pc := 63) dX8_pass_63 ?_
        refine aw_if_eq X (pc := 64) (tgt := 78) (by decide) dX8_pass_64 (fun c4 => ?_) (fun c4 => ?_)
        · refine aw_iconst X (pc := 78) (v := 0) dX8_pass_78 (by decide) ?_
          refine aw_istore X (pc := 79) (lv' := [(10, .int 0), (8, .long (iw &&& ((r_X6_tellingOne ones iw (nI k)) ^^^ (-1)))), (6, .long (r_X6_tellingOne ones iw (nI k))), (3, .int (nI (k + 1))), (5, .int (nI k)), (4, .int lz_), (1, .long iw), (0, .ref r0)]) (by decide) rfl dX8_pass_79 ?_
          refine aw_iload X (pc := 81) 0 rfl dX8_pass_81 ?_
          refine aw_if_eq X (pc := 83) (tgt := 101) (by decide) dX8_pass_83 (fun c5 => ?_) (fun c5 => absurd (by decide) c5)
          refine aw_lload X (pc := 101) 2 rfl dX8_pass_101 ?_
          refine aw_lconst X (pc := 103) (v := 0) dX8_pass_103 (by decide) ?_
          refine aw_lcmp X (pc := 104) dX8_pass_104 ?_
          refine aw_if_eq X (pc := 105) (tgt := 112) (by decide) dX8_pass_105 (fun c6 => ?_) (fun c6 => absurd c4 c6)
          refine aw_iconst X (pc := 112) (v := 0) dX8_pass_112 (by decide) ?_
          refine aw_istore X (pc := 113) (lv' := [(11, .int 0), (10, .int 0), (8, .long (iw &&& ((r_X6_tellingOne ones iw (nI k)) ^^^ (-1)))), (6, .long (r_X6_tellingOne ones iw (nI k))), (3, .int (nI (k + 1))), (5, .int (nI k)), (4, .int lz_), (1, .long iw), (0, .ref r0)]) (by decide) rfl dX8_pass_113 ?_
          refine aw_iload X (pc := 115) 1 rfl dX8_pass_115 ?_
          refine aw_if_eq X (pc := 117) (tgt := 129) (by decide) dX8_pass_117 (fun c7 => ?_) (fun c7 => absurd (by decide) c7)
          refine aw_iload X (pc := 129) 0 rfl dX8_pass_129 ?_
          refine aw_if_eq X (pc := 131) (tgt := 139) (by decide) dX8_pass_131 (fun c8 => ?_) (fun c8 => absurd (by decide) c8)
          refine aw_lload X (pc := 139) 2 rfl dX8_pass_139 ?_
          refine aw_lstore_n X (pc := 141) (lv' := [(1, .long (iw &&& ((r_X6_tellingOne ones iw (nI k)) ^^^ (-1)))), (11, .int 0), (10, .int 0), (8, .long (iw &&& ((r_X6_tellingOne ones iw (nI k)) ^^^ (-1)))), (6, .long (r_X6_tellingOne ones iw (nI k))), (3, .int (nI (k + 1))), (5, .int (nI k)), (4, .int lz_), (0, .ref r0)]) rfl (by decide) rfl dX8_pass_141 ?_
          refine aw_iinc X (pc := 142) (kx := 6) (v := nI (k + 1)) (lv' := [(5, .int (nI (k + 1))), (1, .long (iw &&& ((r_X6_tellingOne ones iw (nI k)) ^^^ (-1)))), (11, .int 0), (10, .int 0), (8, .long (iw &&& ((r_X6_tellingOne ones iw (nI k)) ^^^ (-1)))), (6, .long (r_X6_tellingOne ones iw (nI k))), (3, .int (nI (k + 1))), (4, .int lz_), (0, .ref r0)]) rfl (nn_add (a := k) (b := 1) rfl rfl rfl) (by decide) rfl dX8_pass_142 ?_
          refine aw_goto X (pc := 145) (tgt := 19) (by decide) dX8_pass_145 ?_
          have e9 : b_X8_pass_19 ones lf ln k (iw, lz_) = (iw &&& ((r_X6_tellingOne ones iw (nI k)) ^^^ (-1)), lz_) := by simp only [b_X8_pass_19, if_pos c4]
          exact aw_sub (lv' := [(5, .int (nI (k + 1))), (4, .int lz_), (3, .int (nI (k + 1))), (1, .long (iw &&& ((r_X6_tellingOne ones iw (nI k)) ^^^ (-1)))), (0, .ref r0)]) [0, 7, 6, 1, 8] rfl (ih1 (k + 1) (iw &&& ((r_X6_tellingOne ones iw (nI k)) ^^^ (-1))) lz_ (by omega)  (by rw [← e9, ← lpW_go (go := g_X8_pass_19) (body := b_X8_pass_19 ones lf ln) (n := n1) (k := k) (s := (iw, lz_)) (by simp [g_X8_pass_19, c3])]; exact hf1))
        · refine aw_lload X (pc := 67) 0 rfl dX8_pass_67 ?_
          refine aw_lconst X (pc := 69) (v := 0) dX8_pass_69 (by decide) ?_
          refine aw_lcmp X (pc := 70) dX8_pass_70 ?_
          refine aw_if_eq X (pc := 71) (tgt := 78) (by decide) dX8_pass_71 (fun c10 => ?_) (fun c10 => ?_)
          · refine aw_iconst X (pc := 78) (v := 0) dX8_pass_78 (by decide) ?_
            refine aw_istore X (pc := 79) (lv' := [(10, .int 0), (8, .long (iw &&& ((r_X6_tellingOne ones iw (nI k)) ^^^ (-1)))), (6, .long (r_X6_tellingOne ones iw (nI k))), (3, .int (nI (k + 1))), (5, .int (nI k)), (4, .int lz_), (1, .long iw), (0, .ref r0)]) (by decide) rfl dX8_pass_79 ?_
            refine aw_iload X (pc := 81) 0 rfl dX8_pass_81 ?_
            refine aw_if_eq X (pc := 83) (tgt := 101) (by decide) dX8_pass_83 (fun c11 => ?_) (fun c11 => absurd (by decide) c11)
            refine aw_lload X (pc := 101) 2 rfl dX8_pass_101 ?_
            refine aw_lconst X (pc := 103) (v := 0) dX8_pass_103 (by decide) ?_
            refine aw_lcmp X (pc := 104) dX8_pass_104 ?_
            refine aw_if_eq X (pc := 105) (tgt := 112) (by decide) dX8_pass_105 (fun c12 => absurd c12 c4) (fun c12 => ?_)
            refine aw_iconst X (pc := 108) (v := 1) dX8_pass_108 (by decide) ?_
            refine aw_goto X (pc := 109) (tgt := 113) (by decide) dX8_pass_109 ?_
            refine aw_istore X (pc := 113) (lv' := [(11, .int 1), (10, .int 0), (8, .long (iw &&& ((r_X6_tellingOne ones iw (nI k)) ^^^ (-1)))), (6, .long (r_X6_tellingOne ones iw (nI k))), (3, .int (nI (k + 1))), (5, .int (nI k)), (4, .int lz_), (1, .long iw), (0, .ref r0)]) (by decide) rfl dX8_pass_113 ?_
            refine aw_iload X (pc := 115) 1 rfl dX8_pass_115 ?_
            refine aw_if_eq X (pc := 117) (tgt := 129) (by decide) dX8_pass_117 (fun c13 => ?_) (fun c13 => absurd (by decide) c13)
            refine aw_iload X (pc := 129) 0 rfl dX8_pass_129 ?_
            refine aw_if_eq X (pc := 131) (tgt := 139) (by decide) dX8_pass_131 (fun c14 => absurd c14 (by decide)) (fun c14 => ?_)
            refine aw_lload X (pc := 134) 3 rfl dX8_pass_134 ?_
            refine aw_goto X (pc := 136) (tgt := 141) (by decide) dX8_pass_136 ?_
            refine aw_lstore_n X (pc := 141) (lv' := [(1, .long (r_X6_tellingOne ones iw (nI k))), (11, .int 1), (10, .int 0), (8, .long (iw &&& ((r_X6_tellingOne ones iw (nI k)) ^^^ (-1)))), (6, .long (r_X6_tellingOne ones iw (nI k))), (3, .int (nI (k + 1))), (5, .int (nI k)), (4, .int lz_), (0, .ref r0)]) rfl (by decide) rfl dX8_pass_141 ?_
            refine aw_iinc X (pc := 142) (kx := 6) (v := nI (k + 1)) (lv' := [(5, .int (nI (k + 1))), (1, .long (r_X6_tellingOne ones iw (nI k))), (11, .int 1), (10, .int 0), (8, .long (iw &&& ((r_X6_tellingOne ones iw (nI k)) ^^^ (-1)))), (6, .long (r_X6_tellingOne ones iw (nI k))), (3, .int (nI (k + 1))), (4, .int lz_), (0, .ref r0)]) rfl (nn_add (a := k) (b := 1) rfl rfl rfl) (by decide) rfl dX8_pass_142 ?_
            refine aw_goto X (pc := 145) (tgt := 19) (by decide) dX8_pass_145 ?_
            have e15 : b_X8_pass_19 ones lf ln k (iw, lz_) = (r_X6_tellingOne ones iw (nI k), lz_) := by simp only [b_X8_pass_19, if_neg c4, if_pos c10]
            exact aw_sub (lv' := [(5, .int (nI (k + 1))), (4, .int lz_), (3, .int (nI (k + 1))), (1, .long (r_X6_tellingOne ones iw (nI k))), (0, .ref r0)]) [0, 7, 6, 1, 8] rfl (ih1 (k + 1) (r_X6_tellingOne ones iw (nI k)) lz_ (by omega)  (by rw [← e15, ← lpW_go (go := g_X8_pass_19) (body := b_X8_pass_19 ones lf ln) (n := n1) (k := k) (s := (iw, lz_)) (by simp [g_X8_pass_19, c3])]; exact hf1))
          · refine aw_iconst X (pc := 74) (v := 1) dX8_pass_74 (by decide) ?_
            refine aw_goto X (pc := 75) (tgt := 79) (by decide) dX8_pass_75 ?_
            refine aw_istore X (pc := 79) (lv' := [(10, .int 1), (8, .long (iw &&& ((r_X6_tellingOne ones iw (nI k)) ^^^ (-1)))), (6, .long (r_X6_tellingOne ones iw (nI k))), (3, .int (nI (k + 1))), (5, .int (nI k)), (4, .int lz_), (1, .long iw), (0, .ref r0)]) (by decide) rfl dX8_pass_79 ?_
            refine aw_iload X (pc := 81) 0 rfl dX8_pass_81 ?_
            refine aw_if_eq X (pc := 83) (tgt := 101) (by decide) dX8_pass_83 (fun c16 => absurd c16 (by decide)) (fun c16 => ?_)
            refine aw_aload_n X (pc := 86) 7 rfl rfl dX8_pass_86 ?_
            refine aw_get X (pc := 87) iX8 0 0 rfl rfl (by decide) fl_X8_12 rfl dX8_pass_87 ?_
            refine aw_get X (pc := 90) iX5 5 1 rfl rfl (by decide) fl_X8_125 rfl dX8_pass_90 ?_
            refine aw_iload X (pc := 93) 4 rfl dX8_pass_93 ?_
            refine aw_callV X (pc := 95) (q1 := 12) (rest := []) (st' := [.int (r_X3_wayIsOneAt lf ln (nI k))]) (ws' := (rolW r0 ri rs kS sl qC kC pr nx ns csz s0 qT kT kinds names seeds ones ofk sz there awake grp gm gb p0 lf ir ln qL kL rows lens psz qK kK vals hold call f0 fio fqu fal fco fgu qY kY ft fs qs als cs ps wire alo)) (c_X3_wayIsOneAt l D p0 lf ir ln (nI k)) rfl rfl [12] [] rfl (by decide +kernel) rfl rfl ⟨_, _, rfl⟩ rfl cf_X8_129 cd_X3_wayIsOneAt dd_X3_wayIsOneAt (by decide) (by decide) (by decide) rfl (Nat.le_of_ble_eq_true rfl) dX8_pass_95 rfl ?_
            refine aw_goto X (pc := 98) (tgt := 113) (by decide) dX8_pass_98 ?_
            refine aw_istore X (pc := 113) (lv' := [(11, .int (r_X3_wayIsOneAt lf ln (nI k))), (10, .int 1), (8, .long (iw &&& ((r_X6_tellingOne ones iw (nI k)) ^^^ (-1)))), (6, .long (r_X6_tellingOne ones iw (nI k))), (3, .int (nI (k + 1))), (5, .int (nI k)), (4, .int lz_), (1, .long iw), (0, .ref r0)]) (by decide) rfl dX8_pass_113 ?_
            refine aw_iload X (pc := 115) 1 rfl dX8_pass_115 ?_
            refine aw_if_eq X (pc := 117) (tgt := 129) (by decide) dX8_pass_117 (fun c17 => absurd c17 (by decide)) (fun c17 => ?_)
            refine aw_iload X (pc := 120) 0 rfl dX8_pass_120 ?_
            refine aw_if_ne X (pc := 122) (tgt := 129) (by decide) dX8_pass_122 (fun c18 => ?_) (fun c18 => ?_)
            · refine aw_iload X (pc := 129) 0 rfl dX8_pass_129 ?_
              refine aw_if_eq X (pc := 131) (tgt := 139) (by decide) dX8_pass_131 (fun c19 => absurd c19 c18) (fun c19 => ?_)
              refine aw_lload X (pc := 134) 3 rfl dX8_pass_134 ?_
              refine aw_goto X (pc := 136) (tgt := 141) (by decide) dX8_pass_136 ?_
              refine aw_lstore_n X (pc := 141) (lv' := [(1, .long (r_X6_tellingOne ones iw (nI k))), (11, .int (r_X3_wayIsOneAt lf ln (nI k))), (10, .int 1), (8, .long (iw &&& ((r_X6_tellingOne ones iw (nI k)) ^^^ (-1)))), (6, .long (r_X6_tellingOne ones iw (nI k))), (3, .int (nI (k + 1))), (5, .int (nI k)), (4, .int lz_), (0, .ref r0)]) rfl (by decide) rfl dX8_pass_141 ?_
              refine aw_iinc X (pc := 142) (kx := 6) (v := nI (k + 1)) (lv' := [(5, .int (nI (k + 1))), (1, .long (r_X6_tellingOne ones iw (nI k))), (11, .int (r_X3_wayIsOneAt lf ln (nI k))), (10, .int 1), (8, .long (iw &&& ((r_X6_tellingOne ones iw (nI k)) ^^^ (-1)))), (6, .long (r_X6_tellingOne ones iw (nI k))), (3, .int (nI (k + 1))), (4, .int lz_), (0, .ref r0)]) rfl (nn_add (a := k) (b := 1) rfl rfl rfl) (by decide) rfl dX8_pass_142 ?_
              refine aw_goto X (pc := 145) (tgt := 19) (by decide) dX8_pass_145 ?_
              have e20 : b_X8_pass_19 ones lf ln k (iw, lz_) = (r_X6_tellingOne ones iw (nI k), lz_) := by simp only [b_X8_pass_19, if_neg c4, if_neg c10, if_neg c18]
              exact aw_sub (lv' := [(5, .int (nI (k + 1))), (4, .int lz_), (3, .int (nI (k + 1))), (1, .long (r_X6_tellingOne ones iw (nI k))), (0, .ref r0)]) [0, 7, 6, 1, 8] rfl (ih1 (k + 1) (r_X6_tellingOne ones iw (nI k)) lz_ (by omega)  (by rw [← e20, ← lpW_go (go := g_X8_pass_19) (body := b_X8_pass_19 ones lf ln) (n := n1) (k := k) (s := (iw, lz_)) (by simp [g_X8_pass_19, c3])]; exact hf1))
            · refine aw_iload X (pc := 125) 5 rfl dX8_pass_125 ?_
              refine aw_istore X (pc := 127) (lv' := [(4, .int (nI k)), (11, .int (r_X3_wayIsOneAt lf ln (nI k))), (10, .int 1), (8, .long (iw &&& ((r_X6_tellingOne ones iw (nI k)) ^^^ (-1)))), (6, .long (r_X6_tellingOne ones iw (nI k))), (3, .int (nI (k + 1))), (5, .int (nI k)), (1, .long iw), (0, .ref r0)]) (by decide) rfl dX8_pass_127 ?_
              refine aw_iload X (pc := 129) 1 rfl dX8_pass_129 ?_
              refine aw_if_eq X (pc := 131) (tgt := 139) (by decide) dX8_pass_131 (fun c21 => ?_) (fun c21 => absurd c18 c21)
              refine aw_lload X (pc := 139) 3 rfl dX8_pass_139 ?_
              refine aw_lstore_n X (pc := 141) (lv' := [(1, .long (iw &&& ((r_X6_tellingOne ones iw (nI k)) ^^^ (-1)))), (4, .int (nI k)), (11, .int (r_X3_wayIsOneAt lf ln (nI k))), (10, .int 1), (8, .long (iw &&& ((r_X6_tellingOne ones iw (nI k)) ^^^ (-1)))), (6, .long (r_X6_tellingOne ones iw (nI k))), (3, .int (nI (k + 1))), (5, .int (nI k)), (0, .ref r0)]) rfl (by decide) rfl dX8_pass_141 ?_
              refine aw_iinc X (pc := 142) (kx := 7) (v := nI (k + 1)) (lv' := [(5, .int (nI (k + 1))), (1, .long (iw &&& ((r_X6_tellingOne ones iw (nI k)) ^^^ (-1)))), (4, .int (nI k)), (11, .int (r_X3_wayIsOneAt lf ln (nI k))), (10, .int 1), (8, .long (iw &&& ((r_X6_tellingOne ones iw (nI k)) ^^^ (-1)))), (6, .long (r_X6_tellingOne ones iw (nI k))), (3, .int (nI (k + 1))), (0, .ref r0)]) rfl (nn_add (a := k) (b := 1) rfl rfl rfl) (by decide) rfl dX8_pass_142 ?_
              refine aw_goto X (pc := 145) (tgt := 19) (by decide) dX8_pass_145 ?_
              have e22 : b_X8_pass_19 ones lf ln k (iw, lz_) = (iw &&& ((r_X6_tellingOne ones iw (nI k)) ^^^ (-1)), nI k) := by simp only [b_X8_pass_19, if_neg c4, if_neg c10, if_pos c18]
              exact aw_sub (lv' := [(5, .int (nI (k + 1))), (4, .int (nI k)), (3, .int (nI (k + 1))), (1, .long (iw &&& ((r_X6_tellingOne ones iw (nI k)) ^^^ (-1)))), (0, .ref r0)]) [0, 2, 7, 1, 8] rfl (ih1 (k + 1) (iw &&& ((r_X6_tellingOne ones iw (nI k)) ^^^ (-1))) (nI k) (by omega)  (by rw [← e22, ← lpW_go (go := g_X8_pass_19) (body := b_X8_pass_19 ones lf ln) (n := n1) (k := k) (s := (iw, lz_)) (by simp [g_X8_pass_19, c3])]; exact hf1))
  exact aw_sub (lv' := [(5, .int 0), (4, .int (-1)), (3, .int 0), (1, .long ((there &&& awake) &&& grp)), (0, .ref r0)]) [0, 1, 2, 3, 4] rfl (L1 64 0 ((there &&& awake) &&& grp) (-1) (by omega)  rfl)
