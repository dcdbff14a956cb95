def r_X9_step (a : Nat → Int32) (w : Nat → Int64) (sp : Nat → Int32) (n : Nat) (z : Nat) : Int32 := if a 4 = 0 then (-1) else (nI (r_X9_counted (upd a 4 (nI (z - 1))) (lpF (b_X9_called_3 (upd a 4 (nI (z - 1))) w (w (4 + z - 1)) ((upd a 4 (nI (z - 1))) (20 + z - 1))) n 0 sp) n))
def u_X9_step_a (a : Nat → Int32) (w : Nat → Int64) (sp : Nat → Int32) (n : Nat) (f : Nat) (z : Nat) : Nat → Int32 := if a 4 = 0 then a else (if nI (r_X9_counted (upd a 4 (nI (z - 1))) (lpF (b_X9_called_3 (upd a 4 (nI (z - 1))) w (w (4 + z - 1)) ((upd a 4 (nI (z - 1))) (20 + z - 1))) n 0 sp) n) = 1 then (if nI (r_X9_counted (upd a 4 (nI (z - 1))) (lpF (b_X9_called_3 (upd a 4 (nI (z - 1))) w (w (4 + z - 1)) ((upd a 4 (nI (z - 1))) (20 + z - 1))) n 0 sp) n) = 2 then (if 64 ≤ (upd a 4 (nI (z - 1))) (20 + z - 1) then (u_X9_finds_a (upd (u_X9_counted_a (upd a 4 (nI (z - 1))) (lpF (b_X9_called_3 (upd a 4 (nI (z - 1))) w (w (4 + z - 1)) ((upd a 4 (nI (z - 1))) (20 + z - 1))) n 0 sp) n) 6 (u_X9_slot_lone (upd a 4 (nI (z - 1))) (lpF (b_X9_called_3 (upd a 4 (nI (z - 1))) w (w (4 + z - 1)) ((upd a 4 (nI (z - 1))) (20 + z - 1))) n 0 sp) n)) f (u_X9_slot_lone (upd a 4 (nI (z - 1))) (lpF (b_X9_called_3 (upd a 4 (nI (z - 1))) w (w (4 + z - 1)) ((upd a 4 (nI (z - 1))) (20 + z - 1))) n 0 sp) n)) else (upd (upd (upd (upd (u_X9_finds_a (upd (u_X9_counted_a (upd a 4 (nI (z - 1))) (lpF (b_X9_called_3 (upd a 4 (nI (z - 1))) w (w (4 + z - 1)) ((upd a 4 (nI (z - 1))) (20 + z - 1))) n 0 sp) n) 6 (u_X9_slot_lone (upd a 4 (nI (z - 1))) (lpF (b_X9_called_3 (upd a 4 (nI (z - 1))) w (w (4 + z - 1)) ((upd a 4 (nI (z - 1))) (20 + z - 1))) n 0 sp) n)) f (u_X9_slot_lone (upd a 4 (nI (z - 1))) (lpF (b_X9_called_3 (upd a 4 (nI (z - 1))) w (w (4 + z - 1)) ((upd a 4 (nI (z - 1))) (20 + z - 1))) n 0 sp) n)) (20 + (z - 1)) (((upd a 4 (nI (z - 1))) (20 + z - 1)) + 1)) 4 (nI ((z - 1) + 1))) (20 + (z - 1 + 1)) (((upd a 4 (nI (z - 1))) (20 + z - 1)) + 1)) 4 (nI ((z - 1 + 1) + 1)))) else (u_X9_finds_a (upd (u_X9_counted_a (upd a 4 (nI (z - 1))) (lpF (b_X9_called_3 (upd a 4 (nI (z - 1))) w (w (4 + z - 1)) ((upd a 4 (nI (z - 1))) (20 + z - 1))) n 0 sp) n) 6 (u_X9_slot_lone (upd a 4 (nI (z - 1))) (lpF (b_X9_called_3 (upd a 4 (nI (z - 1))) w (w (4 + z - 1)) ((upd a 4 (nI (z - 1))) (20 + z - 1))) n 0 sp) n)) f (u_X9_slot_lone (upd a 4 (nI (z - 1))) (lpF (b_X9_called_3 (upd a 4 (nI (z - 1))) w (w (4 + z - 1)) ((upd a 4 (nI (z - 1))) (20 + z - 1))) n 0 sp) n))) else (if nI (r_X9_counted (upd a 4 (nI (z - 1))) (lpF (b_X9_called_3 (upd a 4 (nI (z - 1))) w (w (4 + z - 1)) ((upd a 4 (nI (z - 1))) (20 + z - 1))) n 0 sp) n) = 2 then (if 64 ≤ (upd a 4 (nI (z - 1))) (20 + z - 1) then (upd (u_X9_counted_a (upd a 4 (nI (z - 1))) (lpF (b_X9_called_3 (upd a 4 (nI (z - 1))) w (w (4 + z - 1)) ((upd a 4 (nI (z - 1))) (20 + z - 1))) n 0 sp) n) 6 (u_X9_slot_lone (upd a 4 (nI (z - 1))) (lpF (b_X9_called_3 (upd a 4 (nI (z - 1))) w (w (4 + z - 1)) ((upd a 4 (nI (z - 1))) (20 + z - 1))) n 0 sp) n)) else (upd (upd (upd (upd (upd (u_X9_counted_a (upd a 4 (nI (z - 1))) (lpF (b_X9_called_3 (upd a 4 (nI (z - 1))) w (w (4 + z - 1)) ((upd a 4 (nI (z - 1))) (20 + z - 1))) n 0 sp) n) 6 (u_X9_slot_lone (upd a 4 (nI (z - 1))) (lpF (b_X9_called_3 (upd a 4 (nI (z - 1))) w (w (4 + z - 1)) ((upd a 4 (nI (z - 1))) (20 + z - 1))) n 0 sp) n)) (20 + (z - 1)) (((upd a 4 (nI (z - 1))) (20 + z - 1)) + 1)) 4 (nI ((z - 1) + 1))) (20 + (z - 1 + 1)) (((upd a 4 (nI (z - 1))) (20 + z - 1)) + 1)) 4 (nI ((z - 1 + 1) + 1)))) else (upd (u_X9_counted_a (upd a 4 (nI (z - 1))) (lpF (b_X9_called_3 (upd a 4 (nI (z - 1))) w (w (4 + z - 1)) ((upd a 4 (nI (z - 1))) (20 + z - 1))) n 0 sp) n) 6 (u_X9_slot_lone (upd a 4 (nI (z - 1))) (lpF (b_X9_called_3 (upd a 4 (nI (z - 1))) w (w (4 + z - 1)) ((upd a 4 (nI (z - 1))) (20 + z - 1))) n 0 sp) n))))
def u_X9_step_w (a : Nat → Int32) (w : Nat → Int64) (sp : Nat → Int32) (n : Nat) (z : Nat) : Nat → Int64 := if a 4 = 0 then w else (if nI (r_X9_counted (upd a 4 (nI (z - 1))) (lpF (b_X9_called_3 (upd a 4 (nI (z - 1))) w (w (4 + z - 1)) ((upd a 4 (nI (z - 1))) (20 + z - 1))) n 0 sp) n) = 2 then (if 64 ≤ (upd a 4 (nI (z - 1))) (20 + z - 1) then w else (vp_updL (vp_updL w (4 + (z - 1)) ((w (4 + z - 1)) ||| ((1 : Int64) <<< ((63 - ((upd a 4 (nI (z - 1))) (20 + z - 1))).toInt64 &&& 63)))) (4 + (z - 1 + 1)) (w (4 + z - 1)))) else w)
def u_X9_step_sp (a : Nat → Int32) (w : Nat → Int64) (sp : Nat → Int32) (n : Nat) (z : Nat) : Nat → Int32 := if a 4 = 0 then sp else (lpF (b_X9_called_3 (upd a 4 (nI (z - 1))) w (w (4 + z - 1)) ((upd a 4 (nI (z - 1))) (20 + z - 1))) n 0 sp)
def u_X9_step_lone (a : Nat → Int32) (w : Nat → Int64) (sp : Nat → Int32) (lone : Int32) (n : Nat) (z : Nat) : Int32 := if a 4 = 0 then lone else (u_X9_slot_lone (upd a 4 (nI (z - 1))) (lpF (b_X9_called_3 (upd a 4 (nI (z - 1))) w (w (4 + z - 1)) ((upd a 4 (nI (z - 1))) (20 + z - 1))) n 0 sp) n)
abbrev rm_X9_step : Room := { frames := 3, cells := 0, slots := 0, locals := 67 }
set_option maxHeartbeats 400000 in
set_option maxRecDepth 100000 in
theorem c_X9_step (l : Launch) (D : va_G) (q : Nat → Nat) (kc : Nat → ClassId) (a : Nat → Int32) (w : Nat → Int64) (hs : Nat → Int32) (inn : Nat → Int32) (sp : Nat → Int32) (lone : Int32) (lt : Nat → Int64) (lz : Nat → Int32) (dr : Nat → Int32) (n : Nat) (f : Nat) (z : Nat) (ha0 : a 0 = nI n) (hn : n ≤ 40) (ha15 : a 15 = nI f) (hf : f ≤ 200) (ha4 : a 4 = nI z) (hz : z ≤ 70) : MW l D yX9_step (Cond.code yX9_step cX9_step 5 (some .int) :: TT) rm_X9_step [.ref (q 0)] [(kc 1, .int), (kc 2, .long), (kc 3, .boolean), (kc 4, .boolean), (kc 5, .boolean), (kc 6, .long), (kc 7, .int), (kc 8, .int)] (mW q kc a w hs inn sp lone lt lz dr) (some (.int (r_X9_step a w sp n z))) (mW q kc (u_X9_step_a a w sp n f z) (u_X9_step_w a w sp n z) hs inn (u_X9_step_sp a w sp n z) (u_X9_step_lone a w sp lone n z) lt lz dr) := by
  refine MW.of (cc := cX9_step) (nL := 5) (ret := (some .int)) (lv := [(0, .ref (q 0))]) (by decide) ((mW_ad ..).trans (mW_ad ..).symm) rfl (Nat.le_of_ble_eq_true rfl) ?_
  intro p e s m args below meth c A Q hQ X
  refine aw_aload_n X (pc := 0) 0 rfl rfl dX9_step_0 ?_
  refine aw_get X (pc := 1) iX9 0 0 rfl rfl (by decide) fl_X9_7 rfl dX9_step_1 ?_
  refine aw_iconst X (pc := 4) (v := 4) dX9_step_4 (by decide) ?_
  refine aw_iald X (pc := 5) 1 0 4 rfl rfl rfl (by decide) (by omega) dX9_step_5 ?_
  refine aw_if_ne X (pc := 6) (tgt := 11) (by decide) dX9_step_6 (fun c1 => ?_) (fun c1 => ?_)
  · have hz0 : z ≠ 0 := fun q_ => c1 (by rw [ha4, q_]; rfl)
    refine aw_aload_n X (pc := 11) 0 rfl rfl dX9_step_11 ?_
    refine aw_get X (pc := 12) iX9 0 0 rfl rfl (by decide) fl_X9_7 rfl dX9_step_12 ?_
    refine aw_iconst X (pc := 15) (v := 4) dX9_step_15 (by decide) ?_
    refine aw_dup2_11 X (pc := 16) dX9_step_16 rfl rfl ?_
    refine aw_iald X (pc := 17) 1 0 4 rfl rfl rfl (by decide) (by omega) dX9_step_17 ?_
    refine aw_iconst X (pc := 18) (v := 1) dX9_step_18 (by decide) ?_
    refine aw_isub X (pc := 19) (z := nI (z - 1)) (nn_sub (a := z) (b := 1) ha4 rfl (by omega) rfl)  dX9_step_19 ?_
    refine aw_iast X (pc := 20) 1 0 (ws' := (mW q kc (upd a 4 (nI (z - 1))) w hs inn sp lone lt lz dr)) 4 rfl  rfl rfl (by decide) (by omega) rfl dX9_step_20 ?_
    have ha2 : (upd a 4 (nI (z - 1))) 0 = nI n := by rw [pk_un (by omega)]; exact ha0
    have ha3 : (upd a 4 (nI (z - 1))) 15 = nI f := by rw [pk_un (by omega)]; exact ha15
    have ha4 : (upd a 4 (nI (z - 1))) 4 = nI (z - 1) := pk_us.trans rfl
    refine aw_aload_n X (pc := 21) 0 rfl rfl dX9_step_21 ?_
    refine aw_get X (pc := 22) iX9 0 1 rfl rfl (by decide) fl_X9_13 rfl dX9_step_22 ?_
    refine aw_iconst X (pc := 25) (v := 4) dX9_step_25 (by decide) ?_
    refine aw_aload_n X (pc := 26) 0 rfl rfl dX9_step_26 ?_
    refine aw_get X (pc := 27) iX9 0 0 rfl rfl (by decide) fl_X9_7 rfl dX9_step_27 ?_
    refine aw_iconst X (pc := 30) (v := 4) dX9_step_30 (by decide) ?_
    refine aw_iald X (pc := 31) 1 0 4 rfl rfl rfl (by decide) (by omega) dX9_step_31 ?_
    refine aw_iadd X (pc := 32) (z := nI (4 + z - 1)) (nn_add (a := 4) (b := z - 1) rfl ha4 (by first | rfl | omega))  dX9_step_32 ?_
    refine aw_lald X (pc := 33) 2 1 (4 + z - 1) rfl rfl rfl (by decide) (by omega) dX9_step_33 ?_
    refine aw_lstore_n X (pc := 34) (lv' := [(1, .long (w (4 + z - 1))), (0, .ref (q 0))]) rfl (by decide) rfl dX9_step_34 ?_
    refine aw_aload_n X (pc := 35) 1 rfl rfl dX9_step_35 ?_
    refine aw_get X (pc := 36) iX9 0 0 rfl rfl (by decide) fl_X9_7 rfl dX9_step_36 ?_
    refine aw_bipush X (pc := 39) (v := 20) dX9_step_39 (by decide) ?_
    refine aw_aload_n X (pc := 41) 1 rfl rfl dX9_step_41 ?_
    refine aw_get X (pc := 42) iX9 0 0 rfl rfl (by decide) fl_X9_7 rfl dX9_step_42 ?_
    refine aw_iconst X (pc := 45) (v := 4) dX9_step_45 (by decide) ?_
    refine aw_iald X (pc := 46) 1 0 4 rfl rfl rfl (by decide) (by omega) dX9_step_46 ?_
    refine aw_iadd X (pc := 47) (z := nI (20 + z - 1)) (nn_add (a := 20) (b := z - 1) rfl ha4 (by first | rfl | omega))  dX9_step_47 ?_
    refine aw_iald X (pc := 48) 1 0 (20 + z - 1) rfl rfl rfl (by decide) (by omega) dX9_step_48 ?_
    refine aw_istore_n X (pc := 49) (lv' := [(3, .int ((upd a 4 (nI (z - 1))) (20 + z - 1))), (1, .long (w (4 + z - 1))), (0, .ref (q 0))]) rfl (by decide) rfl dX9_step_49 ?_
    refine aw_aload_n X (pc := 50) 2 rfl rfl dX9_step_50 ?_
    refine aw_lload_n X (pc := 51) 1 rfl rfl dX9_step_51 ?_
    refine aw_iload_n X (pc := 52) 0 rfl rfl dX9_step_52 ?_
    refine aw_callVF X (pc := 53) (q1 := 0) (rest := []) (st' := []) (c_X9_called l D q kc (upd a 4 (nI (z - 1))) w hs inn sp lone lt lz dr n (w (4 + z - 1)) ((upd a 4 (nI (z - 1))) (20 + z - 1)) ha2 (by omega)) rfl rfl ⟨_, _, rfl⟩ rfl cf_X9_97 cd_X9_called dd_X9_called (by decide) (by decide) (by decide) rfl (Nat.le_of_ble_eq_true rfl) dX9_step_53 rfl ?_
    refine aw_aload_n X (pc := 56) 2 rfl rfl dX9_step_56 ?_
    refine aw_callVF X (pc := 57) (q1 := 0) (rest := []) (st' := [.int (nI (r_X9_counted (upd a 4 (nI (z - 1))) (lpF (b_X9_called_3 (upd a 4 (nI (z - 1))) w (w (4 + z - 1)) ((upd a 4 (nI (z - 1))) (20 + z - 1))) n 0 sp) n))]) (c_X9_counted l D q kc (upd a 4 (nI (z - 1))) w hs inn (lpF (b_X9_called_3 (upd a 4 (nI (z - 1))) w (w (4 + z - 1)) ((upd a 4 (nI (z - 1))) (20 + z - 1))) n 0 sp) lone lt lz dr n ha2 (by omega)) rfl rfl ⟨_, _, rfl⟩ rfl cf_X9_101 cd_X9_counted dd_X9_counted (by decide) (by decide) (by decide) rfl (Nat.le_of_ble_eq_true rfl) dX9_step_57 rfl ?_
    have hs5 : r_X9_counted (upd a 4 (nI (z - 1))) (lpF (b_X9_called_3 (upd a 4 (nI (z - 1))) w (w (4 + z - 1)) ((upd a 4 (nI (z - 1))) (20 + z - 1))) n 0 sp) n ≤ 2 := le_X9_slot ..
    have ha6 : (u_X9_counted_a (upd a 4 (nI (z - 1))) (lpF (b_X9_called_3 (upd a 4 (nI (z - 1))) w (w (4 + z - 1)) ((upd a 4 (nI (z - 1))) (20 + z - 1))) n 0 sp) n) 0 = nI n := (fr_X9_counted (by omega)).trans ha2
    have ha7 : (u_X9_counted_a (upd a 4 (nI (z - 1))) (lpF (b_X9_called_3 (upd a 4 (nI (z - 1))) w (w (4 + z - 1)) ((upd a 4 (nI (z - 1))) (20 + z - 1))) n 0 sp) n) 15 = nI f := (fr_X9_counted (by omega)).trans ha3
    have ha8 : (u_X9_counted_a (upd a 4 (nI (z - 1))) (lpF (b_X9_called_3 (upd a 4 (nI (z - 1))) w (w (4 + z - 1)) ((upd a 4 (nI (z - 1))) (20 + z - 1))) n 0 sp) n) 4 = nI (z - 1) := (fr_X9_counted (by omega)).trans ha4
    refine aw_istore X (pc := 60) (lv' := [(4, .int (nI (r_X9_counted (upd a 4 (nI (z - 1))) (lpF (b_X9_called_3 (upd a 4 (nI (z - 1))) w (w (4 + z - 1)) ((upd a 4 (nI (z - 1))) (20 + z - 1))) n 0 sp) n))), (3, .int ((upd a 4 (nI (z - 1))) (20 + z - 1))), (1, .long (w (4 + z - 1))), (0, .ref (q 0))]) (by decide) rfl dX9_step_60 ?_
    refine aw_aload_n X (pc := 62) 3 rfl rfl dX9_step_62 ?_
    refine aw_get X (pc := 63) iX9 0 0 rfl rfl (by decide) fl_X9_7 rfl dX9_step_63 ?_
    refine aw_bipush X (pc := 66) (v := 6) dX9_step_66 (by decide) ?_
    refine aw_aload_n X (pc := 68) 3 rfl rfl dX9_step_68 ?_
    refine aw_get X (pc := 69) iX9 0 5 rfl rfl (by decide) fl_X9_86 rfl dX9_step_69 ?_
    refine aw_iast X (pc := 72) 1 0 (ws' := (mW q kc (upd (u_X9_counted_a (upd a 4 (nI (z - 1))) (lpF (b_X9_called_3 (upd a 4 (nI (z - 1))) w (w (4 + z - 1)) ((upd a 4 (nI (z - 1))) (20 + z - 1))) n 0 sp) n) 6 (u_X9_slot_lone (upd a 4 (nI (z - 1))) (lpF (b_X9_called_3 (upd a 4 (nI (z - 1))) w (w (4 + z - 1)) ((upd a 4 (nI (z - 1))) (20 + z - 1))) n 0 sp) n)) w hs inn (lpF (b_X9_called_3 (upd a 4 (nI (z - 1))) w (w (4 + z - 1)) ((upd a 4 (nI (z - 1))) (20 + z - 1))) n 0 sp) (u_X9_slot_lone (upd a 4 (nI (z - 1))) (lpF (b_X9_called_3 (upd a 4 (nI (z - 1))) w (w (4 + z - 1)) ((upd a 4 (nI (z - 1))) (20 + z - 1))) n 0 sp) n) lt lz dr)) 6 rfl  rfl rfl (by decide) (by omega) rfl dX9_step_72 ?_
    have ha9 : (upd (u_X9_counted_a (upd a 4 (nI (z - 1))) (lpF (b_X9_called_3 (upd a 4 (nI (z - 1))) w (w (4 + z - 1)) ((upd a 4 (nI (z - 1))) (20 + z - 1))) n 0 sp) n) 6 (u_X9_slot_lone (upd a 4 (nI (z - 1))) (lpF (b_X9_called_3 (upd a 4 (nI (z - 1))) w (w (4 + z - 1)) ((upd a 4 (nI (z - 1))) (20 + z - 1))) n 0 sp) n)) 0 = nI n := by rw [pk_un (by omega)]; exact ha6
    have ha10 : (upd (u_X9_counted_a (upd a 4 (nI (z - 1))) (lpF (b_X9_called_3 (upd a 4 (nI (z - 1))) w (w (4 + z - 1)) ((upd a 4 (nI (z - 1))) (20 + z - 1))) n 0 sp) n) 6 (u_X9_slot_lone (upd a 4 (nI (z - 1))) (lpF (b_X9_called_3 (upd a 4 (nI (z - 1))) w (w (4 + z - 1)) ((upd a 4 (nI (z - 1))) (20 + z - 1))) n 0 sp) n)) 15 = nI f := by rw [pk_un (by omega)]; exact ha7
    have ha11 : (upd (u_X9_counted_a (upd a 4 (nI (z - 1))) (lpF (b_X9_called_3 (upd a 4 (nI (z - 1))) w (w (4 + z - 1)) ((upd a 4 (nI (z - 1))) (20 + z - 1))) n 0 sp) n) 6 (u_X9_slot_lone (upd a 4 (nI (z - 1))) (lpF (b_X9_called_3 (upd a 4 (nI (z - 1))) w (w (4 + z - 1)) ((upd a 4 (nI (z - 1))) (20 + z - 1))) n 0 sp) n)) 4 = nI (z - 1) := by rw [pk_un (by omega)]; exact ha8
    refine aw_iload X (pc := 73) 0 rfl dX9_step_73 ?_
    refine aw_iconst X (pc := 75) (v := 1) dX9_step_75 (by decide) ?_
    refine aw_icmp_ne X (pc := 76) (tgt := 87) (by decide) dX9_step_76 (fun c12 => ?_) (fun c12 => ?_)
    · refine aw_iload X (pc := 87) 0 rfl dX9_step_87 ?_
      refine aw_iconst X (pc := 89) (v := 2) dX9_step_89 (by decide) ?_
      refine aw_icmp_ne X (pc := 90) (tgt := 122) (by decide) dX9_step_90 (fun c13 => ?_) (fun c13 => ?_)
      · refine aw_iload X (pc := 122) 0 rfl dX9_step_122 ?_
        exact aw_iret X (v := nI (r_X9_counted (upd a 4 (nI (z - 1))) (lpF (b_X9_called_3 (upd a 4 (nI (z - 1))) w (w (4 + z - 1)) ((upd a 4 (nI (z - 1))) (20 + z - 1))) n 0 sp) n)) hQ (by simp only [r_X9_step, if_neg c1, if_neg c12, if_neg c13]; try rfl) (by simp only [u_X9_step_a, u_X9_step_w, u_X9_step_sp, u_X9_step_lone, if_neg c1, if_neg c12, if_neg c13]) dX9_step_124
      · refine aw_iload_n X (pc := 93) 1 rfl rfl dX9_step_93 ?_
        refine aw_bipush X (pc := 94) (v := 64) dX9_step_94 (by decide) ?_
        refine aw_icmp_ge X (pc := 96) (tgt := 122) (by decide) dX9_step_96 (fun c14 => ?_) (fun c14 => ?_)
        · refine aw_iload X (pc := 122) 0 rfl dX9_step_122 ?_
          exact aw_iret X (v := nI (r_X9_counted (upd a 4 (nI (z - 1))) (lpF (b_X9_called_3 (upd a 4 (nI (z - 1))) w (w (4 + z - 1)) ((upd a 4 (nI (z - 1))) (20 + z - 1))) n 0 sp) n)) hQ (by simp only [r_X9_step, if_neg c1, if_neg c12, if_pos c13, if_pos c14]; try rfl) (by simp only [u_X9_step_a, u_X9_step_w, u_X9_step_sp, u_X9_step_lone, if_neg c1, if_neg c12, if_pos c13, if_pos c14]) dX9_step_124
        · refine aw_aload_n X (pc := 99) 3 rfl rfl dX9_step_99 ?_
          refine aw_lload_n X (pc := 100) 2 rfl rfl dX9_step_100 ?_
          refine aw_lconst X (pc := 101) (v := 1) dX9_step_101 (by decide) ?_
          refine aw_bipush X (pc := 102) (v := 63) dX9_step_102 (by decide) ?_
          refine aw_iload_n X (pc := 104) 1 rfl rfl dX9_step_104 ?_
          refine aw_isub X (pc := 105) (z := 63 - ((upd a 4 (nI (z - 1))) (20 + z - 1))) rfl  dX9_step_105 ?_
          refine aw_lshl X (pc := 106) (z := ((1 : Int64) <<< ((63 - ((upd a 4 (nI (z - 1))) (20 + z - 1))).toInt64 &&& 63))) rfl dX9_step_106 ?_
          refine aw_lor X (pc := 107) (z := (w (4 + z - 1)) ||| ((1 : Int64) <<< ((63 - ((upd a 4 (nI (z - 1))) (20 + z - 1))).toInt64 &&& 63))) rfl dX9_step_107 ?_
          refine aw_iload_n X (pc := 108) 1 rfl rfl dX9_step_108 ?_
          refine aw_iconst X (pc := 109) (v := 1) dX9_step_109 (by decide) ?_
          refine aw_iadd X (pc := 110) (z := ((upd a 4 (nI (z - 1))) (20 + z - 1)) + 1) rfl  dX9_step_110 ?_
          refine aw_callVF X (pc := 111) (q1 := 0) (rest := []) (st' := []) (c_X9_piles l D q kc (upd (u_X9_counted_a (upd a 4 (nI (z - 1))) (lpF (b_X9_called_3 (upd a 4 (nI (z - 1))) w (w (4 + z - 1)) ((upd a 4 (nI (z - 1))) (20 + z - 1))) n 0 sp) n) 6 (u_X9_slot_lone (upd a 4 (nI (z - 1))) (lpF (b_X9_called_3 (upd a 4 (nI (z - 1))) w (w (4 + z - 1)) ((upd a 4 (nI (z - 1))) (20 + z - 1))) n 0 sp) n)) w hs inn (lpF (b_X9_called_3 (upd a 4 (nI (z - 1))) w (w (4 + z - 1)) ((upd a 4 (nI (z - 1))) (20 + z - 1))) n 0 sp) (u_X9_slot_lone (upd a 4 (nI (z - 1))) (lpF (b_X9_called_3 (upd a 4 (nI (z - 1))) w (w (4 + z - 1)) ((upd a 4 (nI (z - 1))) (20 + z - 1))) n 0 sp) n) lt lz dr (z - 1) ((w (4 + z - 1)) ||| ((1 : Int64) <<< ((63 - ((upd a 4 (nI (z - 1))) (20 + z - 1))).toInt64 &&& 63))) (((upd a 4 (nI (z - 1))) (20 + z - 1)) + 1) ha11 (by omega)) rfl rfl ⟨_, _, rfl⟩ rfl cf_X9_104 cd_X9_piles dd_X9_piles (by decide) (by decide) (by decide) rfl (Nat.le_of_ble_eq_true rfl) dX9_step_111 rfl ?_
          have ha15 : (upd (upd (upd (u_X9_counted_a (upd a 4 (nI (z - 1))) (lpF (b_X9_called_3 (upd a 4 (nI (z - 1))) w (w (4 + z - 1)) ((upd a 4 (nI (z - 1))) (20 + z - 1))) n 0 sp) n) 6 (u_X9_slot_lone (upd a 4 (nI (z - 1))) (lpF (b_X9_called_3 (upd a 4 (nI (z - 1))) w (w (4 + z - 1)) ((upd a 4 (nI (z - 1))) (20 + z - 1))) n 0 sp) n)) (20 + (z - 1)) (((upd a 4 (nI (z - 1))) (20 + z - 1)) + 1)) 4 (nI ((z - 1) + 1))) 0 = nI n := (fr_X9_piles (by omega)).trans ha9
          have ha16 : (upd (upd (upd (u_X9_counted_a (upd a 4 (nI (z - 1))) (lpF (b_X9_called_3 (upd a 4 (nI (z - 1))) w (w (4 + z - 1)) ((upd a 4 (nI (z - 1))) (20 + z - 1))) n 0 sp) n) 6 (u_X9_slot_lone (upd a 4 (nI (z - 1))) (lpF (b_X9_called_3 (upd a 4 (nI (z - 1))) w (w (4 + z - 1)) ((upd a 4 (nI (z - 1))) (20 + z - 1))) n 0 sp) n)) (20 + (z - 1)) (((upd a 4 (nI (z - 1))) (20 + z - 1)) + 1)) 4 (nI ((z - 1) + 1))) 15 = nI f := (fr_X9_piles (by omega)).trans ha10
          have ha17 : (upd (upd (upd (u_X9_counted_a (upd a 4 (nI (z - 1))) (lpF (b_X9_called_3 (upd a 4 (nI (z - 1))) w (w (4 + z - 1)) ((upd a 4 (nI (z - 1))) (20 + z - 1))) n 0 sp) n) 6 (u_X9_slot_lone (upd a 4 (nI (z - 1))) (lpF (b_X9_called_3 (upd a 4 (nI (z - 1))) w (w (4 + z - 1)) ((upd a 4 (nI (z - 1))) (20 + z - 1))) n 0 sp) n)) (20 + (z - 1)) (((upd a 4 (nI (z - 1))) (20 + z - 1)) + 1)) 4 (nI ((z - 1) + 1))) 4 = nI (z - 1 + 1) := pk_us
          refine aw_aload_n X (pc := 114) 3 rfl rfl dX9_step_114 ?_
          refine aw_lload_n X (pc := 115) 2 rfl rfl dX9_step_115 ?_
          refine aw_iload_n X (pc := 116) 1 rfl rfl dX9_step_116 ?_
          refine aw_iconst X (pc := 117) (v := 1) dX9_step_117 (by decide) ?_
          refine aw_iadd X (pc := 118) (z := ((upd a 4 (nI (z - 1))) (20 + z - 1)) + 1) rfl  dX9_step_118 ?_
          refine aw_callVF X (pc := 119) (q1 := 0) (rest := []) (st' := []) (c_X9_piles l D q kc (upd (upd (upd (u_X9_counted_a (upd a 4 (nI (z - 1))) (lpF (b_X9_called_3 (upd a 4 (nI (z - 1))) w (w (4 + z - 1)) ((upd a 4 (nI (z - 1))) (20 + z - 1))) n 0 sp) n) 6 (u_X9_slot_lone (upd a 4 (nI (z - 1))) (lpF (b_X9_called_3 (upd a 4 (nI (z - 1))) w (w (4 + z - 1)) ((upd a 4 (nI (z - 1))) (20 + z - 1))) n 0 sp) n)) (20 + (z - 1)) (((upd a 4 (nI (z - 1))) (20 + z - 1)) + 1)) 4 (nI ((z - 1) + 1))) (vp_updL w (4 + (z - 1)) ((w (4 + z - 1)) ||| ((1 : Int64) <<< ((63 - ((upd a 4 (nI (z - 1))) (20 + z - 1))).toInt64 &&& 63)))) hs inn (lpF (b_X9_called_3 (upd a 4 (nI (z - 1))) w (w (4 + z - 1)) ((upd a 4 (nI (z - 1))) (20 + z - 1))) n 0 sp) (u_X9_slot_lone (upd a 4 (nI (z - 1))) (lpF (b_X9_called_3 (upd a 4 (nI (z - 1))) w (w (4 + z - 1)) ((upd a 4 (nI (z - 1))) (20 + z - 1))) n 0 sp) n) lt lz dr (z - 1 + 1) (w (4 + z - 1)) (((upd a 4 (nI (z - 1))) (20 + z - 1)) + 1) ha17 (by omega)) rfl rfl ⟨_, _, rfl⟩ rfl cf_X9_104 cd_X9_piles dd_X9_piles (by decide) (by decide) (by decide) rfl (Nat.le_of_ble_eq_true rfl) dX9_step_119 rfl ?_
          have ha18 : (upd (upd (upd (upd (upd (u_X9_counted_a (upd a 4 (nI (z - 1))) (lpF (b_X9_called_3 (upd a 4 (nI (z - 1))) w (w (4 + z - 1)) ((upd a 4 (nI (z - 1))) (20 + z - 1))) n 0 sp) n) 6 (u_X9_slot_lone (upd a 4 (nI (z - 1))) (lpF (b_X9_called_3 (upd a 4 (nI (z - 1))) w (w (4 + z - 1)) ((upd a 4 (nI (z - 1))) (20 + z - 1))) n 0 sp) n)) (20 + (z - 1)) (((upd a 4 (nI (z - 1))) (20 + z - 1)) + 1)) 4 (nI ((z - 1) + 1))) (20 + (z - 1 + 1)) (((upd a 4 (nI (z - 1))) (20 + z - 1)) + 1)) 4 (nI ((z - 1 + 1) + 1))) 0 = nI n := (fr_X9_piles (by omega)).trans ha15
          have ha19 : (upd (upd (upd (upd (upd (u_X9_counted_a (upd a 4 (nI (z - 1))) (lpF (b_X9_called_3 (upd a 4 (nI (z - 1))) w (w (4 + z - 1)) ((upd a 4 (nI (z - 1))) (20 + z - 1))) n 0 sp) n) 6 (u_X9_slot_lone (upd a 4 (nI (z - 1))) (lpF (b_X9_called_3 (upd a 4 (nI (z - 1))) w (w (4 + z - 1)) ((upd a 4 (nI (z - 1))) (20 + z - 1))) n 0 sp) n)) (20 + (z - 1)) (((upd a 4 (nI (z - 1))) (20 + z - 1)) + 1)) 4 (nI ((z - 1) + 1))) (20 + (z - 1 + 1)) (((upd a 4 (nI (z - 1))) (20 + z - 1)) + 1)) 4 (nI ((z - 1 + 1) + 1))) 15 = nI f := (fr_X9_piles (by omega)).trans ha16
          have ha20 : (upd (upd (upd (upd (upd (u_X9_counted_a (upd a 4 (nI (z - 1))) (lpF (b_X9_called_3 (upd a 4 (nI (z - 1))) w (w (4 + z - 1)) ((upd a 4 (nI (z - 1))) (20 + z - 1))) n 0 sp) n) 6 (u_X9_slot_lone (upd a 4 (nI (z - 1))) (lpF (b_X9_called_3 (upd a 4 (nI (z - 1))) w (w (4 + z - 1)) ((upd a 4 (nI (z - 1))) (20 + z - 1))) n 0 sp) n)) (20 + (z - 1)) (((upd a 4 (nI (z - 1))) (20 + z - 1)) + 1)) 4 (nI ((z - 1) + 1))) (20 + (z - 1 + 1)) (((upd a 4 (nI (z - 1))) (20 + z - 1)) + 1)) 4 (nI ((z - 1 + 1) + 1))) 4 = nI (z - 1 + 1 + 1) := pk_us
          refine aw_iload X (pc := 122) 0 rfl dX9_step_122 ?_
          exact aw_iret X (v := nI (r_X9_counted (upd a 4 (nI (z - 1))) (lpF (b_X9_called_3 (upd a 4 (nI (z - 1))) w (w (4 + z - 1)) ((upd a 4 (nI (z - 1))) (20 + z - 1))) n 0 sp) n)) hQ (by simp only [r_X9_step, if_neg c1, if_neg c12, if_pos c13, if_neg c14]; try rfl) (by simp only [u_X9_step_a, u_X9_step_w, u_X9_step_sp, u_X9_step_lone, if_neg c1, if_neg c12, if_pos c13, if_neg c14]) dX9_step_124
    · refine aw_aload_n X (pc := 79) 3 rfl rfl dX9_step_79 ?_
      refine aw_aload_n X (pc := 80) 3 rfl rfl dX9_step_80 ?_
      refine aw_get X (pc := 81) iX9 0 5 rfl rfl (by decide) fl_X9_86 rfl dX9_step_81 ?_
      refine aw_callVF X (pc := 84) (q1 := 0) (rest := []) (st' := []) (c_X9_finds l D q kc (upd (u_X9_counted_a (upd a 4 (nI (z - 1))) (lpF (b_X9_called_3 (upd a 4 (nI (z - 1))) w (w (4 + z - 1)) ((upd a 4 (nI (z - 1))) (20 + z - 1))) n 0 sp) n) 6 (u_X9_slot_lone (upd a 4 (nI (z - 1))) (lpF (b_X9_called_3 (upd a 4 (nI (z - 1))) w (w (4 + z - 1)) ((upd a 4 (nI (z - 1))) (20 + z - 1))) n 0 sp) n)) w hs inn (lpF (b_X9_called_3 (upd a 4 (nI (z - 1))) w (w (4 + z - 1)) ((upd a 4 (nI (z - 1))) (20 + z - 1))) n 0 sp) (u_X9_slot_lone (upd a 4 (nI (z - 1))) (lpF (b_X9_called_3 (upd a 4 (nI (z - 1))) w (w (4 + z - 1)) ((upd a 4 (nI (z - 1))) (20 + z - 1))) n 0 sp) n) lt lz dr f (u_X9_slot_lone (upd a 4 (nI (z - 1))) (lpF (b_X9_called_3 (upd a 4 (nI (z - 1))) w (w (4 + z - 1)) ((upd a 4 (nI (z - 1))) (20 + z - 1))) n 0 sp) n) ha10 (by omega)) rfl rfl ⟨_, _, rfl⟩ rfl cf_X9_82 cd_X9_finds dd_X9_finds (by decide) (by decide) (by decide) rfl (Nat.le_of_ble_eq_true rfl) dX9_step_84 rfl ?_
      have ha21 : (u_X9_finds_a (upd (u_X9_counted_a (upd a 4 (nI (z - 1))) (lpF (b_X9_called_3 (upd a 4 (nI (z - 1))) w (w (4 + z - 1)) ((upd a 4 (nI (z - 1))) (20 + z - 1))) n 0 sp) n) 6 (u_X9_slot_lone (upd a 4 (nI (z - 1))) (lpF (b_X9_called_3 (upd a 4 (nI (z - 1))) w (w (4 + z - 1)) ((upd a 4 (nI (z - 1))) (20 + z - 1))) n 0 sp) n)) f (u_X9_slot_lone (upd a 4 (nI (z - 1))) (lpF (b_X9_called_3 (upd a 4 (nI (z - 1))) w (w (4 + z - 1)) ((upd a 4 (nI (z - 1))) (20 + z - 1))) n 0 sp) n)) 0 = nI n := (fr_X9_finds (by omega)).trans ha9
      have ha22 : (u_X9_finds_a (upd (u_X9_counted_a (upd a 4 (nI (z - 1))) (lpF (b_X9_called_3 (upd a 4 (nI (z - 1))) w (w (4 + z - 1)) ((upd a 4 (nI (z - 1))) (20 + z - 1))) n 0 sp) n) 6 (u_X9_slot_lone (upd a 4 (nI (z - 1))) (lpF (b_X9_called_3 (upd a 4 (nI (z - 1))) w (w (4 + z - 1)) ((upd a 4 (nI (z - 1))) (20 + z - 1))) n 0 sp) n)) f (u_X9_slot_lone (upd a 4 (nI (z - 1))) (lpF (b_X9_called_3 (upd a 4 (nI (z - 1))) w (w (4 + z - 1)) ((upd a 4 (nI (z - 1))) (20 + z - 1))) n 0 sp) n)) 15 = nI (fN f) := fin_15 ha10 (by omega)
      have ha22b : fN f ≤ 200 := fN_le (by omega)
      have ha23 : (u_X9_finds_a (upd (u_X9_counted_a (upd a 4 (nI (z - 1))) (lpF (b_X9_called_3 (upd a 4 (nI (z - 1))) w (w (4 + z - 1)) ((upd a 4 (nI (z - 1))) (20 + z - 1))) n 0 sp) n) 6 (u_X9_slot_lone (upd a 4 (nI (z - 1))) (lpF (b_X9_called_3 (upd a 4 (nI (z - 1))) w (w (4 + z - 1)) ((upd a 4 (nI (z - 1))) (20 + z - 1))) n 0 sp) n)) f (u_X9_slot_lone (upd a 4 (nI (z - 1))) (lpF (b_X9_called_3 (upd a 4 (nI (z - 1))) w (w (4 + z - 1)) ((upd a 4 (nI (z - 1))) (20 + z - 1))) n 0 sp) n)) 4 = nI (z - 1) := (fr_X9_finds (by omega)).trans ha11
      refine aw_iload X (pc := 87) 0 rfl dX9_step_87 ?_
      refine aw_iconst X (pc := 89) (v := 2) dX9_step_89 (by decide) ?_
      refine aw_icmp_ne X (pc := 90) (tgt := 122) (by decide) dX9_step_90 (fun c24 => ?_) (fun c24 => ?_)
      · refine aw_iload X (pc := 122) 0 rfl dX9_step_122 ?_
        exact aw_iret X (v := nI (r_X9_counted (upd a 4 (nI (z - 1))) (lpF (b_X9_called_3 (upd a 4 (nI (z - 1))) w (w (4 + z - 1)) ((upd a 4 (nI (z - 1))) (20 + z - 1))) n 0 sp) n)) hQ (by simp only [r_X9_step, if_neg c1, if_pos c12, if_neg c24]; try rfl) (by simp only [u_X9_step_a, u_X9_step_w, u_X9_step_sp, u_X9_step_lone, if_neg c1, if_pos c12, if_neg c24]) dX9_step_124
      · refine aw_iload_n X (pc := 93) 1 rfl rfl dX9_step_93 ?_
        refine aw_bipush X (pc := 94) (v := 64) dX9_step_94 (by decide) ?_
        refine aw_icmp_ge X (pc := 96) (tgt := 122) (by decide) dX9_step_96 (fun c25 => ?_) (fun c25 => ?_)
        · refine aw_iload X (pc := 122) 0 rfl dX9_step_122 ?_
          exact aw_iret X (v := nI (r_X9_counted (upd a 4 (nI (z - 1))) (lpF (b_X9_called_3 (upd a 4 (nI (z - 1))) w (w (4 + z - 1)) ((upd a 4 (nI (z - 1))) (20 + z - 1))) n 0 sp) n)) hQ (by simp only [r_X9_step, if_neg c1, if_pos c12, if_pos c24, if_pos c25]; try rfl) (by simp only [u_X9_step_a, u_X9_step_w, u_X9_step_sp, u_X9_step_lone, if_neg c1, if_pos c12, if_pos c24, if_pos c25]) dX9_step_124
        · refine aw_aload_n X (pc := 99) 3 rfl rfl dX9_step_99 ?_
          refine aw_lload_n X (pc := 100) 2 rfl rfl dX9_step_100 ?_
          refine aw_lconst X (pc := 101) (v := 1) dX9_step_101 (by decide) ?_
          refine aw_bipush X (pc := 102) (v := 63) dX9_step_102 (by decide) ?_
          refine aw_iload_n X (pc := 104) 1 rfl rfl dX9_step_104 ?_
          refine aw_isub X (pc := 105) (z := 63 - ((upd a 4 (nI (z - 1))) (20 + z - 1))) rfl  dX9_step_105 ?_
          refine aw_lshl X (pc := 106) (z := ((1 : Int64) <<< ((63 - ((upd a 4 (nI (z - 1))) (20 + z - 1))).toInt64 &&& 63))) rfl dX9_step_106 ?_
          refine aw_lor X (pc := 107) (z := (w (4 + z - 1)) ||| ((1 : Int64) <<< ((63 - ((upd a 4 (nI (z - 1))) (20 + z - 1))).toInt64 &&& 63))) rfl dX9_step_107 ?_
          refine aw_iload_n X (pc := 108) 1 rfl rfl dX9_step_108 ?_
          refine aw_iconst X (pc := 109) (v := 1) dX9_step_109 (by decide) ?_
          refine aw_iadd X (pc := 110) (z := ((upd a 4 (nI (z - 1))) (20 + z - 1)) + 1) rfl  dX9_step_110 ?_
          refine aw_callVF X (pc := 111) (q1 := 0) (rest := []) (st' := []) (c_X9_piles l D q kc (u_X9_finds_a (upd (u_X9_counted_a (upd a 4 (nI (z - 1))) (lpF (b_X9_called_3 (upd a 4 (nI (z - 1))) w (w (4 + z - 1)) ((upd a 4 (nI (z - 1))) (20 + z - 1))) n 0 sp) n) 6 (u_X9_slot_lone (upd a 4 (nI (z - 1))) (lpF (b_X9_called_3 (upd a 4 (nI (z - 1))) w (w (4 + z - 1)) ((upd a 4 (nI (z - 1))) (20 + z - 1))) n 0 sp) n)) f (u_X9_slot_lone (upd a 4 (nI (z - 1))) (lpF (b_X9_called_3 (upd a 4 (nI (z - 1))) w (w (4 + z - 1)) ((upd a 4 (nI (z - 1))) (20 + z - 1))) n 0 sp) n)) w hs inn (lpF (b_X9_called_3 (upd a 4 (nI (z - 1))) w (w (4 + z - 1)) ((upd a 4 (nI (z - 1))) (20 + z - 1))) n 0 sp) (u_X9_slot_lone (upd a 4 (nI (z - 1))) (lpF (b_X9_called_3 (upd a 4 (nI (z - 1))) w (w (4 + z - 1)) ((upd a 4 (nI (z - 1))) (20 + z - 1))) n 0 sp) n) lt lz dr (z - 1) ((w (4 + z - 1)) ||| ((1 : Int64) <<< ((63 - ((upd a 4 (nI (z - 1))) (20 + z - 1))).toInt64 &&& 63))) (((upd a 4 (nI (z - 1))) (20 + z - 1)) + 1) ha23 (by omega)) rfl rfl ⟨_, _, rfl⟩ rfl cf_X9_104 cd_X9_piles dd_X9_piles (by decide) (by decide) (by decide) rfl (Nat.le_of_ble_eq_true rfl) dX9_step_111 rfl ?_
          have ha26 : (upd (upd (u_X9_finds_a (upd (u_X9_counted_a (upd a 4 (nI (z - 1))) (lpF (b_X9_called_3 (upd a 4 (nI (z - 1))) w (w (4 + z - 1)) ((upd a 4 (nI (z - 1))) (20 + z - 1))) n 0 sp) n) 6 (u_X9_slot_lone (upd a 4 (nI (z - 1))) (lpF (b_X9_called_3 (upd a 4 (nI (z - 1))) w (w (4 + z - 1)) ((upd a 4 (nI (z - 1))) (20 + z - 1))) n 0 sp) n)) f (u_X9_slot_lone (upd a 4 (nI (z - 1))) (lpF (b_X9_called_3 (upd a 4 (nI (z - 1))) w (w (4 + z - 1)) ((upd a 4 (nI (z - 1))) (20 + z - 1))) n 0 sp) n)) (20 + (z - 1)) (((upd a 4 (nI (z - 1))) (20 + z - 1)) + 1)) 4 (nI ((z - 1) + 1))) 0 = nI n := (fr_X9_piles (by omega)).trans ha21
          have ha27 : (upd (upd (u_X9_finds_a (upd (u_X9_counted_a (upd a 4 (nI (z - 1))) (lpF (b_X9_called_3 (upd a 4 (nI (z - 1))) w (w (4 + z - 1)) ((upd a 4 (nI (z - 1))) (20 + z - 1))) n 0 sp) n) 6 (u_X9_slot_lone (upd a 4 (nI (z - 1))) (lpF (b_X9_called_3 (upd a 4 (nI (z - 1))) w (w (4 + z - 1)) ((upd a 4 (nI (z - 1))) (20 + z - 1))) n 0 sp) n)) f (u_X9_slot_lone (upd a 4 (nI (z - 1))) (lpF (b_X9_called_3 (upd a 4 (nI (z - 1))) w (w (4 + z - 1)) ((upd a 4 (nI (z - 1))) (20 + z - 1))) n 0 sp) n)) (20 + (z - 1)) (((upd a 4 (nI (z - 1))) (20 + z - 1)) + 1)) 4 (nI ((z - 1) + 1))) 15 = nI (fN f) := (fr_X9_piles (by omega)).trans ha22
          have ha28 : (upd (upd (u_X9_finds_a (upd (u_X9_counted_a (upd a 4 (nI (z - 1))) (lpF (b_X9_called_3 (upd a 4 (nI (z - 1))) w (w (4 + z - 1)) ((upd a 4 (nI (z - 1))) (20 + z - 1))) n 0 sp) n) 6 (u_X9_slot_lone (upd a 4 (nI (z - 1))) (lpF (b_X9_called_3 (upd a 4 (nI (z - 1))) w (w (4 + z - 1)) ((upd a 4 (nI (z - 1))) (20 + z - 1))) n 0 sp) n)) f (u_X9_slot_lone (upd a 4 (nI (z - 1))) (lpF (b_X9_called_3 (upd a 4 (nI (z - 1))) w (w (4 + z - 1)) ((upd a 4 (nI (z - 1))) (20 + z - 1))) n 0 sp) n)) (20 + (z - 1)) (((upd a 4 (nI (z - 1))) (20 + z - 1)) + 1)) 4 (nI ((z - 1) + 1))) 4 = nI (z - 1 + 1) := pk_us
          refine aw_aload_n X (pc := 114) 3 rfl rfl dX9_step_114 ?_
          refine aw_lload_n X (pc := 115) 2 rfl rfl dX9_step_115 ?_
          refine aw_iload_n X (pc := 116) 1 rfl rfl dX9_step_116 ?_
          refine aw_iconst X (pc := 117) (v := 1) dX9_step_117 (by decide) ?_
          refine aw_iadd X (pc := 118) (z := ((upd a 4 (nI (z - 1))) (20 + z - 1)) + 1) rfl  dX9_step_118 ?_
          refine aw_callVF X (pc := 119) (q1 := 0) (rest := []) (st' := []) (c_X9_piles l D q kc (upd (upd (u_X9_finds_a (upd (u_X9_counted_a (upd a 4 (nI (z - 1))) (lpF (b_X9_called_3 (upd a 4 (nI (z - 1))) w (w (4 + z - 1)) ((upd a 4 (nI (z - 1))) (20 + z - 1))) n 0 sp) n) 6 (u_X9_slot_lone (upd a 4 (nI (z - 1))) (lpF (b_X9_called_3 (upd a 4 (nI (z - 1))) w (w (4 + z - 1)) ((upd a 4 (nI (z - 1))) (20 + z - 1))) n 0 sp) n)) f (u_X9_slot_lone (upd a 4 (nI (z - 1))) (lpF (b_X9_called_3 (upd a 4 (nI (z - 1))) w (w (4 + z - 1)) ((upd a 4 (nI (z - 1))) (20 + z - 1))) n 0 sp) n)) (20 + (z - 1)) (((upd a 4 (nI (z - 1))) (20 + z - 1)) + 1)) 4 (nI ((z - 1) + 1))) (vp_updL w (4 + (z - 1)) ((w (4 + z - 1)) ||| ((1 : Int64) <<< ((63 - ((upd a 4 (nI (z - 1))) (20 + z - 1))).toInt64 &&& 63)))) hs inn (lpF (b_X9_called_3 (upd a 4 (nI (z - 1))) w (w (4 + z - 1)) ((upd a 4 (nI (z - 1))) (20 + z - 1))) n 0 sp) (u_X9_slot_lone (upd a 4 (nI (z - 1))) (lpF (b_X9_called_3 (upd a 4 (nI (z - 1))) w (w (4 + z - 1)) ((upd a 4 (nI (z - 1))) (20 + z - 1))) n 0 sp) n) lt lz dr (z - 1 + 1) (w (4 + z - 1)) (((upd a 4 (nI (z - 1))) (20 + z - 1)) + 1) ha28 (by omega)) rfl rfl ⟨_, _, rfl⟩ rfl cf_X9_104 cd_X9_piles dd_X9_piles (by decide) (by decide) (by decide) rfl (Nat.le_of_ble_eq_true rfl) dX9_step_119 rfl ?_
          have ha29 : (upd (upd (upd (upd (u_X9_finds_a (upd (u_X9_counted_a (upd a 4 (nI (z - 1))) (lpF (b_X9_called_3 (upd a 4 (nI (z - 1))) w (w (4 + z - 1)) ((upd a 4 (nI (z - 1))) (20 + z - 1))) n 0 sp) n) 6 (u_X9_slot_lone (upd a 4 (nI (z - 1))) (lpF (b_X9_called_3 (upd a 4 (nI (z - 1))) w (w (4 + z - 1)) ((upd a 4 (nI (z - 1))) (20 + z - 1))) n 0 sp) n)) f (u_X9_slot_lone (upd a 4 (nI (z - 1))) (lpF (b_X9_called_3 (upd a 4 (nI (z - 1))) w (w (4 + z - 1)) ((upd a 4 (nI (z - 1))) (20 + z - 1))) n 0 sp) n)) (20 + (z - 1)) (((upd a 4 (nI (z - 1))) (20 + z - 1)) + 1)) 4 (nI ((z - 1) + 1))) (20 + (z - 1 + 1)) (((upd a 4 (nI (z - 1))) (20 + z - 1)) + 1)) 4 (nI ((z - 1 + 1) + 1))) 0 = nI n := (fr_X9_piles (by omega)).trans ha26
          have ha30 : (upd (upd (upd (upd (u_X9_finds_a (upd (u_X9_counted_a (upd a 4 (nI (z - 1))) (lpF (b_X9_called_3 (upd a 4 (nI (z - 1))) w (w (4 + z - 1)) ((upd a 4 (nI (z - 1))) (20 + z - 1))) n 0 sp) n) 6 (u_X9_slot_lone (upd a 4 (nI (z - 1))) (lpF (b_X9_called_3 (upd a 4 (nI (z - 1))) w (w (4 + z - 1)) ((upd a 4 (nI (z - 1))) (20 + z - 1))) n 0 sp) n)) f (u_X9_slot_lone (upd a 4 (nI (z - 1))) (lpF (b_X9_called_3 (upd a 4 (nI (z - 1))) w (w (4 + z - 1)) ((upd a 4 (nI (z - 1))) (20 + z - 1))) n 0 sp) n)) (20 + (z - 1)) (((upd a 4 (nI (z - 1))) (20 + z - 1)) + 1)) 4 (nI ((z - 1) + 1))) (20 + (z - 1 + 1)) (((upd a 4 (nI (z - 1))) (20 + z - 1)) + 1)) 4 (nI ((z - 1 + 1) + 1))) 15 = nI (fN f) := (fr_X9_piles (by omega)).trans ha27
          have ha31 : (upd (upd (upd (upd (u_X9_finds_a (upd (u_X9_counted_a (upd a 4 (nI (z - 1))) (lpF (b_X9_called_3 (upd a 4 (nI (z - 1))) w (w (4 + z - 1)) ((upd a 4 (nI (z - 1))) (20 + z - 1))) n 0 sp) n) 6 (u_X9_slot_lone (upd a 4 (nI (z - 1))) (lpF (b_X9_called_3 (upd a 4 (nI (z - 1))) w (w (4 + z - 1)) ((upd a 4 (nI (z - 1))) (20 + z - 1))) n 0 sp) n)) f (u_X9_slot_lone (upd a 4 (nI (z - 1))) (lpF (b_X9_called_3 (upd a 4 (nI (z - 1))) w (w (4 + z - 1)) ((upd a 4 (nI (z - 1))) (20 + z - 1))) n 0 sp) n)) (20 + (z - 1)) (((upd a 4 (nI (z - 1))) (20 + z - 1)) + 1)) 4 (nI ((z - 1) + 1))) (20 + (z - 1 + 1)) (((upd a 4 (nI (z - 1))) (20 + z - 1)) + 1)) 4 (nI ((z - 1 + 1) + 1))) 4 = nI (z - 1 + 1 + 1) := pk_us
          refine aw_iload X (pc := 122) 0 rfl dX9_step_122 ?_
          exact aw_iret X (v := nI (r_X9_counted (upd a 4 (nI (z - 1))) (lpF (b_X9_called_3 (upd a 4 (nI (z - 1))) w (w (4 + z - 1)) ((upd a 4 (nI (z - 1))) (20 + z - 1))) n 0 sp) n)) hQ (by simp only [r_X9_step, if_neg c1, if_pos c12, if_pos c24, if_neg c25]; try rfl) (by simp only [u_X9_step_a, u_X9_step_w, u_X9_step_sp, u_X9_step_lone, if_neg c1, if_pos c12, if_pos c24, if_neg c25]) dX9_step_124
  · refine aw_iconst X (pc := 9) (v := (-1)) dX9_step_9 (by decide) ?_
    exact aw_iret X (v := (-1)) hQ (by simp only [r_X9_step, if_pos c1]; try rfl) (by simp only [u_X9_step_a, u_X9_step_w, u_X9_step_sp, u_X9_step_lone, if_pos c1]) dX9_step_10

def b_X9_begin_11 (w : Nat → Int64) (k : Nat) (σ : Int32 × (Nat → Int32)) : Int32 × (Nat → Int32) := if r_X9_splits σ.2 w k = 0 then (if r_X9_splits (upd σ.2 (300 + 6 * k + 3) (-1)) w k = 0 then (σ.1 + 0, upd σ.2 (300 + 6 * k + 3) (-1)) else (σ.1 + 1, upd σ.2 (300 + 6 * k + 3) (-1))) else (if r_X9_splits (upd σ.2 (300 + 6 * k + 3) 0) w k = 0 then (σ.1 + 0, upd σ.2 (300 + 6 * k + 3) 0) else (σ.1 + 1, upd σ.2 (300 + 6 * k + 3) 0))
def r_X9_begin (a : Nat → Int32) (w : Nat → Int64) (n : Nat) : Int32 := ((lpF (b_X9_begin_11 w) n 0 (0, upd a 5 0)).1)
abbrev rm_X9_begin : Room := { frames := 3, cells := 0, slots := 0, locals := 64 }
set_option maxHeartbeats 400000 in
set_option maxRecDepth 100000 in
theorem c_X9_begin (l : Launch) (D : va_G) (q : Nat → Nat) (kc : Nat → ClassId) (a : Nat → Int32) (w : Nat → Int64) (hs : Nat → Int32) (inn : Nat → Int32) (sp : Nat → Int32) (lone : Int32) (lt : Nat → Int64) (lz : Nat → Int32) (dr : Nat → Int32) (n : Nat) (ha0 : a 0 = nI n) (hn : n ≤ 40) : MW l D yX9_begin (Cond.code yX9_begin cX9_begin 3 (some .int) :: TT) rm_X9_begin [.ref (q 0)] [(kc 1, .int), (kc 2, .long), (kc 3, .boolean), (kc 4, .boolean), (kc 5, .boolean), (kc 6, .long), (kc 7, .int), (kc 8, .int)] (mW q kc a w hs inn sp lone lt lz dr) (some (.int (r_X9_begin a w n))) (mW q kc ((lpF (b_X9_begin_11 w) n 0 (0, upd a 5 0)).2) w hs inn sp lone lt lz dr) := by
  refine MW.of (cc := cX9_begin) (nL := 3) (ret := (some .int)) (lv := [(0, .ref (q 0))]) (by decide) ((mW_ad ..).trans (mW_ad ..).symm) rfl (Nat.le_of_ble_eq_true rfl) ?_
  intro p e s m args below meth c A Q hQ X
  refine aw_aload_n X (pc := 0) 0 rfl rfl dX9_begin_0 ?_
  refine aw_get X (pc := 1) iX9 0 0 rfl rfl (by decide) fl_X9_7 rfl dX9_begin_1 ?_
  refine aw_iconst X (pc := 4) (v := 5) dX9_begin_4 (by decide) ?_
  refine aw_iconst X (pc := 5) (v := 0) dX9_begin_5 (by decide) ?_
  refine aw_iast X (pc := 6) 1 0 (ws' := (mW q kc (upd a 5 0) w hs inn sp lone lt lz dr)) 5 rfl  rfl rfl (by decide) (by omega) rfl dX9_begin_6 ?_
  have ha1 : (upd a 5 0) 0 = nI n := by rw [pk_un (by omega)]; exact ha0
  refine aw_iconst X (pc := 7) (v := 0) dX9_begin_7 (by decide) ?_
  refine aw_istore_n X (pc := 8) (lv' := [(1, .int 0), (0, .ref (q 0))]) rfl (by decide) rfl dX9_begin_8 ?_
  refine aw_iconst X (pc := 9) (v := 0) dX9_begin_9 (by decide) ?_
  refine aw_istore_n X (pc := 10) (lv' := [(2, .int 0), (1, .int 0), (0, .ref (q 0))]) rfl (by decide) rfl dX9_begin_10 ?_
  have L2 : ∀ (n2 k : Nat) (ct : Int32) (av : Nat → Int32), k + n2 = n → av 0 = nI n → lpF (b_X9_begin_11 w) n2 k (ct, av) = lpF (b_X9_begin_11 w) n 0 (0, upd a 5 0) → AW p l e rm_X9_begin s m args below meth c D A 3 0 0 Q 11 [(2, .int (nI k)), (1, .int ct), (0, .ref (q 0))] [] (mW q kc av w hs inn sp lone lt lz dr) := by
    intro n2; induction n2 with
    | zero =>
      intro k ct av hk2 h_a0 hf2
      have hf2 : (ct, av) = lpF (b_X9_begin_11 w) n 0 (0, upd a 5 0) := hf2
      refine aw_iload_n X (pc := 11) 0 rfl rfl dX9_begin_11 ?_
      refine aw_aload_n X (pc := 12) 2 rfl rfl dX9_begin_12 ?_
      refine aw_get X (pc := 13) iX9 0 0 rfl rfl (by decide) fl_X9_7 rfl dX9_begin_13 ?_
      refine aw_iconst X (pc := 16) (v := 0) dX9_begin_16 (by decide) ?_
      refine aw_iald X (pc := 17) 1 0 0 rfl rfl rfl (by decide) (by omega) dX9_begin_17 ?_
      refine aw_icmp_ge X (pc := 18) (tgt := 62) (by decide) dX9_begin_18 (fun c13 => ?_) (fun c13 => absurd (nn_le (a := n) (b := k) h_a0 rfl (by omega) (by omega)) c13)
      refine aw_iload_n X (pc := 62) 1 rfl rfl dX9_begin_62 ?_
      exact aw_iret X (v := ct) hQ (by simp only [r_X9_begin, ← hf2]; try rfl) (by simp only [← hf2]) dX9_begin_63
    | succ n2 ih2 =>
      intro k ct av hk2 h_a0 hf2
      have hf2 : lpF (b_X9_begin_11 w) n2 (k + 1) (b_X9_begin_11 w k (ct, av)) = lpF (b_X9_begin_11 w) n 0 (0, upd a 5 0) := hf2
      refine aw_iload_n X (pc := 11) 0 rfl rfl dX9_begin_11 ?_
      refine aw_aload_n X (pc := 12) 2 rfl rfl dX9_begin_12 ?_
      refine aw_get X (pc := 13) iX9 0 0 rfl rfl (by decide) fl_X9_7 rfl dX9_begin_13 ?_
      refine aw_iconst X (pc := 16) (v := 0) dX9_begin_16 (by decide) ?_
      refine aw_iald X (pc := 17) 1 0 0 rfl rfl rfl (by decide) (by omega) dX9_begin_17 ?_
      refine aw_icmp_ge X (pc := 18) (tgt := 62) (by decide) dX9_begin_18 (fun c3 => absurd c3 (nn_nle (a := n) (b := k) h_a0 rfl (by omega) (by omega))) (fun c3 => ?_)
      refine aw_aload_n X (pc := 21) 2 rfl rfl dX9_begin_21 ?_
      refine aw_iload_n X (pc := 22) 0 rfl rfl dX9_begin_22 ?_
      refine aw_iconst X (pc := 23) (v := 3) dX9_begin_23 (by decide) ?_
      refine aw_aload_n X (pc := 24) 2 rfl rfl dX9_begin_24 ?_
      refine aw_iload_n X (pc := 25) 0 rfl rfl dX9_begin_25 ?_
      refine aw_callVF X (pc := 26) (q1 := 0) (rest := [.int 3, .int (nI k), .ref (q 0)]) (st' := [.int (r_X9_splits av w k), .int 3, .int (nI k), .ref (q 0)]) (c_X9_splits l D q kc av w hs inn sp lone lt lz dr (nI k) k rfl (by omega)) rfl rfl ⟨_, _, rfl⟩ rfl cf_X9_107 cd_X9_splits dd_X9_splits (by decide) (by decide) (by decide) rfl (Nat.le_of_ble_eq_true rfl) dX9_begin_26 rfl ?_
      refine aw_if_eq X (pc := 29) (tgt := 36) (by decide) dX9_begin_29 (fun c4 => ?_) (fun c4 => ?_)
      · refine aw_iconst X (pc := 36) (v := (-1)) dX9_begin_36 (by decide) ?_
        refine aw_callVF X (pc := 37) (q1 := 0) (rest := []) (st' := []) (c_X9_sets l D q kc av w hs inn sp lone lt lz dr (nI k) 3 k 3 (-1) rfl rfl (by omega)) rfl rfl ⟨_, _, rfl⟩ rfl cf_X9_52 cd_X9_sets dd_X9_sets (by decide) (by decide) (by decide) rfl (Nat.le_of_ble_eq_true rfl) dX9_begin_37 rfl ?_
        have ha5 : (upd av (300 + 6 * k + 3) (-1)) 0 = nI n := by rw [pk_un (by omega)]; exact h_a0
        refine aw_iload_n X (pc := 40) 1 rfl rfl dX9_begin_40 ?_
        refine aw_aload_n X (pc := 41) 2 rfl rfl dX9_begin_41 ?_
        refine aw_iload_n X (pc := 42) 0 rfl rfl dX9_begin_42 ?_
        refine aw_callVF X (pc := 43) (q1 := 0) (rest := [.int ct]) (st' := [.int (r_X9_splits (upd av (300 + 6 * k + 3) (-1)) w k), .int ct]) (c_X9_splits l D q kc (upd av (300 + 6 * k + 3) (-1)) w hs inn sp lone lt lz dr (nI k) k rfl (by omega)) rfl rfl ⟨_, _, rfl⟩ rfl cf_X9_107 cd_X9_splits dd_X9_splits (by decide) (by decide) (by decide) rfl (Nat.le_of_ble_eq_true rfl) dX9_begin_43 rfl ?_
        refine aw_if_eq X (pc := 46) (tgt := 53) (by decide) dX9_begin_46 (fun c6 => ?_) (fun c6 => ?_)
        · refine aw_iconst X (pc := 53) (v := 0) dX9_begin_53 (by decide) ?_
          refine aw_iadd X (pc := 54) (z := ct + 0) rfl  dX9_begin_54 ?_
          refine aw_istore_n X (pc := 55) (lv' := [(1, .int (ct + 0)), (2, .int (nI k)), (0, .ref (q 0))]) rfl (by decide) rfl dX9_begin_55 ?_
          refine aw_iinc X (pc := 56) (kx := 1) (v := nI (k + 1)) (lv' := [(2, .int (nI (k + 1))), (1, .int (ct + 0)), (0, .ref (q 0))]) rfl (nn_add (a := k) (b := 1) rfl rfl rfl) (by decide) rfl dX9_begin_56 ?_
          refine aw_goto X (pc := 59) (tgt := 11) (by decide) dX9_begin_59 ?_
          have e7 : b_X9_begin_11 w k (ct, av) = (ct + 0, upd av (300 + 6 * k + 3) (-1)) := by simp only [b_X9_begin_11, if_pos c4, if_pos c6]
          exact aw_sub (lv' := [(2, .int (nI (k + 1))), (1, .int (ct + 0)), (0, .ref (q 0))]) [0, 1, 2] rfl (ih2 (k + 1) (ct + 0) (upd av (300 + 6 * k + 3) (-1)) (by omega) (ha5) (by rw [← e7]; exact hf2))
        · refine aw_iconst X (pc := 49) (v := 1) dX9_begin_49 (by decide) ?_
          refine aw_goto X (pc := 50) (tgt := 54) (by decide) dX9_begin_50 ?_
          refine aw_iadd X (pc := 54) (z := ct + 1) rfl  dX9_begin_54 ?_
          refine aw_istore_n X (pc := 55) (lv' := [(1, .int (ct + 1)), (2, .int (nI k)), (0, .ref (q 0))]) rfl (by decide) rfl dX9_begin_55 ?_
          refine aw_iinc X (pc := 56) (kx := 1) (v := nI (k + 1)) (lv' := [(2, .int (nI (k + 1))), (1, .int (ct + 1)), (0, .ref (q 0))]) rfl (nn_add (a := k) (b := 1) rfl rfl rfl) (by decide) rfl dX9_begin_56 ?_
          refine aw_goto X (pc := 59) (tgt := 11) (by decide) dX9_begin_59 ?_
          have e8 : b_X9_begin_11 w k (ct, av) = (ct + 1, upd av (300 + 6 * k + 3) (-1)) := by simp only [b_X9_begin_11, if_pos c4, if_neg c6]
          exact aw_sub (lv' := [(2, .int (nI (k + 1))), (1, .int (ct + 1)), (0, .ref (q 0))]) [0, 1, 2] rfl (ih2 (k + 1) (ct + 1) (upd av (300 + 6 * k + 3) (-1)) (by omega) (ha5) (by rw [← e8]; exact hf2))
      · refine aw_iconst X (pc := 32) (v := 0) dX9_begin_32 (by decide) ?_
        refine aw_goto X (pc := 33) (tgt := 37) (by decide) dX9_begin_33 ?_
        refine aw_callVF X (pc := 37) (q1 := 0) (rest := []) (st' := []) (c_X9_sets l D q kc av w hs inn sp lone lt lz dr (nI k) 3 k 3 0 rfl rfl (by omega)) rfl rfl ⟨_, _, rfl⟩ rfl cf_X9_52 cd_X9_sets dd_X9_sets (by decide) (by decide) (by decide) rfl (Nat.le_of_ble_eq_true rfl) dX9_begin_37 rfl ?_
        have ha9 : (upd av (300 + 6 * k + 3) 0) 0 = nI n := by rw [pk_un (by omega)]; exact h_a0
        refine aw_iload_n X (pc := 40) 1 rfl rfl dX9_begin_40 ?_
        refine aw_aload_n X (pc := 41) 2 rfl rfl dX9_begin_41 ?_
        refine aw_iload_n X (pc := 42) 0 rfl rfl dX9_begin_42 ?_
        refine aw_callVF X (pc := 43) (q1 := 0) (rest := [.int ct]) (st' := [.int (r_X9_splits (upd av (300 + 6 * k + 3) 0) w k), .int ct]) (c_X9_splits l D q kc (upd av (300 + 6 * k + 3) 0) w hs inn sp lone lt lz dr (nI k) k rfl (by omega)) rfl rfl ⟨_, _, rfl⟩ rfl cf_X9_107 cd_X9_splits dd_X9_splits (by decide) (by decide) (by decide) rfl (Nat.le_of_ble_eq_true rfl) dX9_begin_43 rfl ?_
        refine aw_if_eq X (pc := 46) (tgt := 53) (by decide) dX9_begin_46 (fun c10 => ?_) (fun c10 => ?_)
        · refine aw_iconst X (pc := 53) (v := 0) dX9_begin_53 (by decide) ?_
          refine aw_iadd X (pc := 54) (z := ct + 0) rfl  dX9_begin_54 ?_
          refine aw_istore_n X (pc := 55) (lv' := [(1, .int (ct + 0)), (2, .int (nI k)), (0, .ref (q 0))]) rfl (by decide) rfl dX9_begin_55 ?_
          refine aw_iinc X (pc := 56) (kx := 1) (v := nI (k + 1)) (lv' := [(2, .int (nI (k + 1))), (1, .int (ct + 0)), (0, .ref (q 0))]) rfl (nn_add (a := k) (b := 1) rfl rfl rfl) (by decide) rfl dX9_begin_56 ?_
          refine aw_goto X (pc := 59) (tgt := 11) (by decide) dX9_begin_59 ?_
          have e11 : b_X9_begin_11 w k (ct, av) = (ct + 0, upd av (300 + 6 * k + 3) 0) := by simp only [b_X9_begin_11, if_neg c4, if_pos c10]
          exact aw_sub (lv' := [(2, .int (nI (k + 1))), (1, .int (ct + 0)), (0, .ref (q 0))]) [0, 1, 2] rfl (ih2 (k + 1) (ct + 0) (upd av (300 + 6 * k + 3) 0) (by omega) (ha9) (by rw [← e11]; exact hf2))
        · refine aw_iconst X (pc := 49) (v := 1) dX9_begin_49 (by decide) ?_
          refine aw_goto X (pc := 50) (tgt := 54) (by decide) dX9_begin_50 ?_
          refine aw_iadd X (pc := 54) (z := ct + 1) rfl  dX9_begin_54 ?_
          refine aw_istore_n X (pc := 55) (lv' := [(1, .int (ct + 1)), (2, .int (nI k)), (0, .ref (q 0))]) rfl (by decide) rfl dX9_begin_55 ?_
          refine aw_iinc X (pc := 56) (kx := 1) (v := nI (k + 1)) (lv' := [(2, .int (nI (k + 1))), (1, .int (ct + 1)), (0, .ref (q 0))]) rfl (nn_add (a := k) (b := 1) rfl rfl rfl) (by decide) rfl dX9_begin_56 ?_
          refine aw_goto X (pc := 59) (tgt := 11) (by decide) dX9_begin_59 ?_
          have e12 : b_X9_begin_11 w k (ct, av) = (ct + 1, upd av (300 + 6 * k + 3) 0) := by simp only [b_X9_begin_11, if_neg c4, if_neg c10]
          exact aw_sub (lv' := [(2, .int (nI (k + 1))), (1, .int (ct + 1)), (0, .ref (q 0))]) [0, 1, 2] rfl (ih2 (k + 1) (ct + 1) (upd av (300 + 6 * k + 3) 0) (by omega) (ha9) (by rw [← e12]; exact hf2))
  exact aw_sub (lv' := [(2, .int 0), (1, .int 0), (0, .ref (q 0))]) [0, 1, 2] rfl (L2 n 0 0 (upd a 5 0) (by omega) (ha1) rfl)

def b_X9_frames_2  (k : Nat) (σ : (Nat → Int32)) : (Nat → Int32) := (upd σ (300 + 6 * k + 5) 0)
abbrev rm_X9_frames : Room := { frames := 1, cells := 0, slots := 0, locals := 23 }
set_option maxHeartbeats 400000 in
set_option maxRecDepth 100000 in
theorem c_X9_frames (l : Launch) (D : va_G) (q : Nat → Nat) (kc : Nat → ClassId) (a : Nat → Int32) (w : Nat → Int64) (hs : Nat → Int32) (inn : Nat → Int32) (sp : Nat → Int32) (lone : Int32) (lt : Nat → Int64) (lz : Nat → Int32) (dr : Nat → Int32) (n : Nat) (ha0 : a 0 = nI n) (hn : n ≤ 40) : MW l D yX9_frames (Cond.code yX9_frames cX9_frames 2 none :: TT) rm_X9_frames [.ref (q 0)] [(kc 1, .int), (kc 2, .long), (kc 3, .boolean), (kc 4, .boolean), (kc 5, .boolean), (kc 6, .long), (kc 7, .int), (kc 8, .int)] (mW q kc a w hs inn sp lone lt lz dr) none (mW q kc (lpF b_X9_frames_2 n 0 a) w hs inn sp lone lt lz dr) := by
  refine MW.of (cc := cX9_frames) (nL := 2) (ret := none) (lv := [(0, .ref (q 0))]) (by decide) ((mW_ad ..).trans (mW_ad ..).symm) rfl (Nat.le_of_ble_eq_true rfl) ?_
  intro p e s m args below meth c A Q hQ X
  refine aw_iconst X (pc := 0) (v := 0) dX9_frames_0 (by decide) ?_
  refine aw_istore_n X (pc := 1) (lv' := [(1, .int 0), (0, .ref (q 0))]) rfl (by decide) rfl dX9_frames_1 ?_
  have L1 : ∀ (n1 k : Nat) (av : Nat → Int32), k + n1 = n → av 0 = nI n → lpF (b_X9_frames_2) n1 k av = lpF b_X9_frames_2 n 0 a → AW p l e rm_X9_frames s m args below meth c D A 2 0 0 Q 2 [(1, .int (nI k)), (0, .ref (q 0))] [] (mW q kc av w hs inn sp lone lt lz dr) := by
    intro n1; induction n1 with
    | zero =>
      intro k av hk1 h_a0 hf1
      have hf1 : av = lpF b_X9_frames_2 n 0 a := hf1
      refine aw_iload_n X (pc := 2) 0 rfl rfl dX9_frames_2 ?_
      refine aw_aload_n X (pc := 3) 1 rfl rfl dX9_frames_3 ?_
      refine aw_get X (pc := 4) iX9 0 0 rfl rfl (by decide) fl_X9_7 rfl dX9_frames_4 ?_
      refine aw_iconst X (pc := 7) (v := 0) dX9_frames_7 (by decide) ?_
      refine aw_iald X (pc := 8) 1 0 0 rfl rfl rfl (by decide) (by omega) dX9_frames_8 ?_
      refine aw_icmp_ge X (pc := 9) (tgt := 25) (by decide) dX9_frames_9 (fun c5 => ?_) (fun c5 => absurd (nn_le (a := n) (b := k) h_a0 rfl (by omega) (by omega)) c5)
      exact aw_vret X hQ rfl (by simp only [← hf1]) dX9_frames_25
    | succ n1 ih1 =>
      intro k av hk1 h_a0 hf1
      have hf1 : lpF (b_X9_frames_2) n1 (k + 1) (b_X9_frames_2 k av) = lpF b_X9_frames_2 n 0 a := hf1
      refine aw_iload_n X (pc := 2) 0 rfl rfl dX9_frames_2 ?_
      refine aw_aload_n X (pc := 3) 1 rfl rfl dX9_frames_3 ?_
      refine aw_get X (pc := 4) iX9 0 0 rfl rfl (by decide) fl_X9_7 rfl dX9_frames_4 ?_
      refine aw_iconst X (pc := 7) (v := 0) dX9_frames_7 (by decide) ?_
      refine aw_iald X (pc := 8) 1 0 0 rfl rfl rfl (by decide) (by omega) dX9_frames_8 ?_
      refine aw_icmp_ge X (pc := 9) (tgt := 25) (by decide) dX9_frames_9 (fun c2 => absurd c2 (nn_nle (a := n) (b := k) h_a0 rfl (by omega) (by omega))) (fun c2 => ?_)
      refine aw_aload_n X (pc := 12) 1 rfl rfl dX9_frames_12 ?_
      refine aw_iload_n X (pc := 13) 0 rfl rfl dX9_frames_13 ?_
      refine aw_iconst X (pc := 14) (v := 5) dX9_frames_14 (by decide) ?_
      refine aw_iconst X (pc := 15) (v := 0) dX9_frames_15 (by decide) ?_
      refine aw_callVF X (pc := 16) (q1 := 0) (rest := []) (st' := []) (c_X9_sets l D q kc av w hs inn sp lone lt lz dr (nI k) 5 k 5 0 rfl rfl (by omega)) rfl rfl ⟨_, _, rfl⟩ rfl cf_X9_52 cd_X9_sets dd_X9_sets (by decide) (by decide) (by decide) rfl (Nat.le_of_ble_eq_true rfl) dX9_frames_16 rfl ?_
      have ha3 : (upd av (300 + 6 * k + 5) 0) 0 = nI n := by rw [pk_un (by omega)]; exact h_a0
      refine aw_iinc X (pc := 19) (kx := 0) (v := nI (k + 1)) (lv' := [(1, .int (nI (k + 1))), (0, .ref (q 0))]) rfl (nn_add (a := k) (b := 1) rfl rfl rfl) (by decide) rfl dX9_frames_19 ?_
      refine aw_goto X (pc := 22) (tgt := 2) (by decide) dX9_frames_22 ?_
      have e4 : b_X9_frames_2 k av = (upd av (300 + 6 * k + 5) 0) := by first | rfl | simp only [b_X9_frames_2]
      exact aw_sub (lv' := [(1, .int (nI (k + 1))), (0, .ref (q 0))]) [0, 1] rfl (ih1 (k + 1) (upd av (300 + 6 * k + 5) 0) (by omega) (ha3) (by rw [← e4]; exact hf1))
  exact aw_sub (lv' := [(1, .int 0), (0, .ref (q 0))]) [0, 1] rfl (L1 n 0 a (by omega) (ha0) rfl)

theorem fr_X9_draw {a : Nat → Int32} {k j : Nat} (h : j ≠ 300 + 6 * k + 4) : u_X9_draw_a a k j = a j := by
  unfold u_X9_draw_a
  rw [pk_un h]
theorem oneIn_or (inn : Nat → Int32) (n : Nat) : lpF (b_X9_oneIn_4 inn) n 0 (-1) = -1 ∨ ∃ j : Nat, j < n ∧ lpF (b_X9_oneIn_4 inn) n 0 (-1) = nI j := by
  have h := lpF_inv (body := b_X9_oneIn_4 inn) (fun k σ => σ = -1 ∨ ∃ j : Nat, j < k ∧ σ = nI j) n 0 (-1) (Or.inl rfl) (fun j t _ _ h => by
    unfold b_X9_oneIn_4
    split
    · rcases h with h | ⟨i, h1, h2⟩
      · exact Or.inl h
      · exact Or.inr ⟨i, by omega, h2⟩
    · exact Or.inr ⟨j, by omega, rfl⟩)
  rw [Nat.zero_add] at h
  exact h
theorem oneIn_ix {inn : Nat → Int32} {n : Nat} (hn : n ≤ 40) : (84 + lpF (b_X9_oneIn_4 inn) n 0 (-1)) = nI (84 + lpF (b_X9_oneIn_4 inn) n 0 (-1)).toNatClampNeg ∧ (84 + lpF (b_X9_oneIn_4 inn) n 0 (-1)).toNatClampNeg < 620 := by
  rcases oneIn_or inn n with h | ⟨j, h1, h2⟩
  · rw [h]; decide
  · have e : (84 : Int32) + nI j = nI (84 + j) := nI_add 84 j
    rw [h2, e, nI_clamp (by omega)]
    exact ⟨rfl, by omega⟩
theorem len_nat {x : Int32} (h1 : ¬ x < 1) (h2 : x ≤ 64) : x = nI x.toNatClampNeg ∧ 1 ≤ x.toNatClampNeg ∧ x.toNatClampNeg ≤ 64 := by
  have h0 : ¬ x < 0 := fun q => h1 (by rw [Int32.lt_iff_toInt_lt] at q ⊢; have e0 : (0 : Int32).toInt = 0 := rfl; have e1 : (1 : Int32).toInt = 1 := rfl; omega)
  obtain ⟨j, hj, rfl⟩ := nI_of h0
  rw [nI_clamp hj]
  have e1 : (1 : Int32) = nI 1 := rfl
  have e2 : (64 : Int32) = nI 64 := rfl
  rw [e1, nI_ltI hj (by decide)] at h1
  rw [e2, nI_leI hj (by decide)] at h2
  exact ⟨rfl, by omega, h2⟩
theorem cl_of {x : Int32} {t b : Nat} (h : x = nI t) (ht : t ≤ b) (hb : b < 2 ^ 31) : x = nI x.toNatClampNeg ∧ x.toNatClampNeg ≤ b := by
  subst h; rw [nI_clamp (by omega)]; exact ⟨rfl, ht⟩

theorem fr_X9_sleeps {a : Nat → Int32} {k j : Nat} (h : j ≠ 300 + 6 * k + 2) : u_X9_sleeps_a a k j = a j := by
  unfold u_X9_sleeps_a
  split
  · rw [pk_un h]
  · rfl

def b_X9_split_13 (a : Nat → Int32) (w : Nat → Int64) (k : Nat) (σ : (Nat → Int32)) : (Nat → Int32) := if r_X9_splits a w k = 0 then (upd σ k 0) else (if a (300 + 6 * k + 3) = 0 then (upd σ k 1) else (upd σ k 0))
def b_X9_split_75 (a : Nat → Int32) (w : Nat → Int64) (n : Nat) (sv : Nat → Int32) (k : Nat) (σ : (Nat → Int32)) : (Nat → Int32) := if r_X9_splits σ w k = 0 then σ else (if σ (300 + 6 * k + 3) < 0 then σ else (if nI k = (u_X9_slot_lone a sv n) then σ else (if nI (r_X9_counted a sv n) = 2 then (if sv k = 0 then (upd σ (300 + 6 * k + 3) ((σ (300 + 6 * k + 3)) + 1)) else (upd (u_X9_draw_a σ k) (300 + 6 * k + 3) (r_X9_draw σ k 2))) else (if σ (300 + 6 * k + 3) ≤ 0 then (upd σ (300 + 6 * k + 3) 0) else (upd σ (300 + 6 * k + 3) ((σ (300 + 6 * k + 3)) - 1))))))
def r_X9_split (a : Nat → Int32) (w : Nat → Int64) (sp : Nat → Int32) (n : Nat) : Int32 := if 0 ≤ a 5 then (nI (r_X9_counted a (lpF (b_X9_split_13 a w) n 0 sp) n)) else (-1)
def u_X9_split_a (a : Nat → Int32) (w : Nat → Int64) (sp : Nat → Int32) (n : Nat) (f : Nat) : Nat → Int32 := if 0 ≤ a 5 then (if nI (r_X9_counted a (lpF (b_X9_split_13 a w) n 0 sp) n) = 2 then (if nI (r_X9_counted a (lpF (b_X9_split_13 a w) n 0 sp) n) = 1 then (u_X9_sleeps_a (u_X9_finds_a (upd (upd (lpF (b_X9_split_75 a w n (lpF (b_X9_split_13 a w) n 0 sp)) n 0 (upd (u_X9_counted_a a (lpF (b_X9_split_13 a w) n 0 sp) n) 6 (u_X9_slot_lone a (lpF (b_X9_split_13 a w) n 0 sp) n))) 5 (((lpF (b_X9_split_75 a w n (lpF (b_X9_split_13 a w) n 0 sp)) n 0 (upd (u_X9_counted_a a (lpF (b_X9_split_13 a w) n 0 sp) n) 6 (u_X9_slot_lone a (lpF (b_X9_split_13 a w) n 0 sp) n))) 5) + 1)) (300 + 6 * ((u_X9_slot_lone a (lpF (b_X9_split_13 a w) n 0 sp) n).toNatClampNeg) + 3) (-1)) f (u_X9_slot_lone a (lpF (b_X9_split_13 a w) n 0 sp) n)) ((u_X9_slot_lone a (lpF (b_X9_split_13 a w) n 0 sp) n).toNatClampNeg)) else (upd (lpF (b_X9_split_75 a w n (lpF (b_X9_split_13 a w) n 0 sp)) n 0 (upd (u_X9_counted_a a (lpF (b_X9_split_13 a w) n 0 sp) n) 6 (u_X9_slot_lone a (lpF (b_X9_split_13 a w) n 0 sp) n))) 5 (((lpF (b_X9_split_75 a w n (lpF (b_X9_split_13 a w) n 0 sp)) n 0 (upd (u_X9_counted_a a (lpF (b_X9_split_13 a w) n 0 sp) n) 6 (u_X9_slot_lone a (lpF (b_X9_split_13 a w) n 0 sp) n))) 5) + 1))) else (if nI (r_X9_counted a (lpF (b_X9_split_13 a w) n 0 sp) n) = 1 then (u_X9_sleeps_a (u_X9_finds_a (upd (upd (lpF (b_X9_split_75 a w n (lpF (b_X9_split_13 a w) n 0 sp)) n 0 (upd (u_X9_counted_a a (lpF (b_X9_split_13 a w) n 0 sp) n) 6 (u_X9_slot_lone a (lpF (b_X9_split_13 a w) n 0 sp) n))) 5 (((lpF (b_X9_split_75 a w n (lpF (b_X9_split_13 a w) n 0 sp)) n 0 (upd (u_X9_counted_a a (lpF (b_X9_split_13 a w) n 0 sp) n) 6 (u_X9_slot_lone a (lpF (b_X9_split_13 a w) n 0 sp) n))) 5) + (-1))) (300 + 6 * ((u_X9_slot_lone a (lpF (b_X9_split_13 a w) n 0 sp) n).toNatClampNeg) + 3) (-1)) f (u_X9_slot_lone a (lpF (b_X9_split_13 a w) n 0 sp) n)) ((u_X9_slot_lone a (lpF (b_X9_split_13 a w) n 0 sp) n).toNatClampNeg)) else (upd (lpF (b_X9_split_75 a w n (lpF (b_X9_split_13 a w) n 0 sp)) n 0 (upd (u_X9_counted_a a (lpF (b_X9_split_13 a w) n 0 sp) n) 6 (u_X9_slot_lone a (lpF (b_X9_split_13 a w) n 0 sp) n))) 5 (((lpF (b_X9_split_75 a w n (lpF (b_X9_split_13 a w) n 0 sp)) n 0 (upd (u_X9_counted_a a (lpF (b_X9_split_13 a w) n 0 sp) n) 6 (u_X9_slot_lone a (lpF (b_X9_split_13 a w) n 0 sp) n))) 5) + (-1))))) else a
def u_X9_split_sp (a : Nat → Int32) (w : Nat → Int64) (sp : Nat → Int32) (n : Nat) : Nat → Int32 := if 0 ≤ a 5 then (lpF (b_X9_split_13 a w) n 0 sp) else sp
def u_X9_split_lone (a : Nat → Int32) (w : Nat → Int64) (sp : Nat → Int32) (lone : Int32) (n : Nat) : Int32 := if 0 ≤ a 5 then (u_X9_slot_lone a (lpF (b_X9_split_13 a w) n 0 sp) n) else lone
abbrev rm_X9_split : Room := { frames := 3, cells := 0, slots := 0, locals := 67 }
set_option maxHeartbeats 400000 in
set_option maxRecDepth 100000 in
theorem c_X9_split (l : Launch) (D : va_G) (q : Nat → Nat) (kc : Nat → ClassId) (a : Nat → Int32) (w : Nat → Int64) (hs : Nat → Int32) (inn : Nat → Int32) (sp : Nat → Int32) (lone : Int32) (lt : Nat → Int64) (lz : Nat → Int32) (dr : Nat → Int32) (n : Nat) (f : Nat) (ha0 : a 0 = nI n) (hn : n ≤ 40) (ha15 : a 15 = nI f) (hf : f ≤ 200) : MW l D yX9_split (Cond.code yX9_split cX9_split 4 (some .int) :: TT) rm_X9_split [.ref (q 0)] [(kc 1, .int), (kc 2, .long), (kc 3, .boolean), (kc 4, .boolean), (kc 5, .boolean), (kc 6, .long), (kc 7, .int), (kc 8, .int)] (mW q kc a w hs inn sp lone lt lz dr) (some (.int (r_X9_split a w sp n))) (mW q kc (u_X9_split_a a w sp n f) w hs inn (u_X9_split_sp a w sp n) (u_X9_split_lone a w sp lone n) lt lz dr) := by
  refine MW.of (cc := cX9_split) (nL := 4) (ret := (some .int)) (lv := [(0, .ref (q 0))]) (by decide) ((mW_ad ..).trans (mW_ad ..).symm) rfl (Nat.le_of_ble_eq_true rfl) ?_
  intro p e s m args below meth c A Q hQ X
  refine aw_aload_n X (pc := 0) 0 rfl rfl dX9_split_0 ?_
  refine aw_get X (pc := 1) iX9 0 0 rfl rfl (by decide) fl_X9_7 rfl dX9_split_1 ?_
  refine aw_iconst X (pc := 4) (v := 5) dX9_split_4 (by decide) ?_
  refine aw_iald X (pc := 5) 1 0 5 rfl rfl rfl (by decide) (by omega) dX9_split_5 ?_
  refine aw_if_ge X (pc := 6) (tgt := 11) (by decide) dX9_split_6 (fun c1 => ?_) (fun c1 => ?_)
  · refine aw_iconst X (pc := 11) (v := 0) dX9_split_11 (by decide) ?_
    refine aw_istore_n X (pc := 12) (lv' := [(1, .int 0), (0, .ref (q 0))]) rfl (by decide) rfl dX9_split_12 ?_
    have L2 : ∀ (n2 k : Nat) (sv : Nat → Int32), k + n2 = n → lpF (b_X9_split_13 a w) n2 k sv = lpF (b_X9_split_13 a w) n 0 sp → AW p l e rm_X9_split s m args below meth c D A 4 0 0 Q 13 [(1, .int (nI k)), (0, .ref (q 0))] [] (mW q kc a w hs inn sv lone lt lz dr) := by
      intro n2; induction n2 with
      | zero =>
        intro k sv hk2  hf2
        have hf2 : sv = lpF (b_X9_split_13 a w) n 0 sp := hf2
        refine aw_iload_n X (pc := 13) 0 rfl rfl dX9_split_13 ?_
        refine aw_aload_n X (pc := 14) 1 rfl rfl dX9_split_14 ?_
        refine aw_get X (pc := 15) iX9 0 0 rfl rfl (by decide) fl_X9_7 rfl dX9_split_15 ?_
        refine aw_iconst X (pc := 18) (v := 0) dX9_split_18 (by decide) ?_
        refine aw_iald X (pc := 19) 1 0 0 rfl rfl rfl (by decide) (by omega) dX9_split_19 ?_
        refine aw_icmp_ge X (pc := 20) (tgt := 57) (by decide) dX9_split_20 (fun c9 => ?_) (fun c9 => absurd (nn_le (a := n) (b := k) ha0 rfl (by omega) (by omega)) c9)
        refine aw_aload_n X (pc := 57) 1 rfl rfl dX9_split_57 ?_
        refine aw_callVF X (pc := 58) (q1 := 0) (rest := []) (st' := [.int (nI (r_X9_counted a sv n))]) (c_X9_counted l D q kc a w hs inn sv lone lt lz dr n ha0 (by omega)) rfl rfl ⟨_, _, rfl⟩ rfl cf_X9_101 cd_X9_counted dd_X9_counted (by decide) (by decide) (by decide) rfl (Nat.le_of_ble_eq_true rfl) dX9_split_58 rfl ?_
        have hs10 : r_X9_counted a sv n ≤ 2 := le_X9_slot ..
        have ha11 : (u_X9_counted_a a sv n) 0 = nI n := (fr_X9_counted (by omega)).trans ha0
        have ha12 : (u_X9_counted_a a sv n) 15 = nI f := (fr_X9_counted (by omega)).trans ha15
        refine aw_istore_n X (pc := 61) (lv' := [(1, .int (nI (r_X9_counted a sv n))), (0, .ref (q 0))]) rfl (by decide) rfl dX9_split_61 ?_
        refine aw_aload_n X (pc := 62) 1 rfl rfl dX9_split_62 ?_
        refine aw_get X (pc := 63) iX9 0 0 rfl rfl (by decide) fl_X9_7 rfl dX9_split_63 ?_
        refine aw_bipush X (pc := 66) (v := 6) dX9_split_66 (by decide) ?_
        refine aw_aload_n X (pc := 68) 1 rfl rfl dX9_split_68 ?_
        refine aw_get X (pc := 69) iX9 0 5 rfl rfl (by decide) fl_X9_86 rfl dX9_split_69 ?_
        refine aw_iast X (pc := 72) 1 0 (ws' := (mW q kc (upd (u_X9_counted_a a sv n) 6 (u_X9_slot_lone a sv n)) w hs inn sv (u_X9_slot_lone a sv n) lt lz dr)) 6 rfl  rfl rfl (by decide) (by omega) rfl dX9_split_72 ?_
        have ha13 : (upd (u_X9_counted_a a sv n) 6 (u_X9_slot_lone a sv n)) 0 = nI n := by rw [pk_un (by omega)]; exact ha11
        have ha14 : (upd (u_X9_counted_a a sv n) 6 (u_X9_slot_lone a sv n)) 15 = nI f := by rw [pk_un (by omega)]; exact ha12
        refine aw_iconst X (pc := 73) (v := 0) dX9_split_73 (by decide) ?_
        refine aw_istore_n X (pc := 74) (lv' := [(2, .int 0), (1, .int (nI (r_X9_counted a sv n))), (0, .ref (q 0))]) rfl (by decide) rfl dX9_split_74 ?_
        have L15 : ∀ (n15 k : Nat) (av : Nat → Int32), k + n15 = n → av 0 = nI n → av 15 = nI f → lpF (b_X9_split_75 a w n sv) n15 k av = lpF (b_X9_split_75 a w n sv) n 0 (upd (u_X9_counted_a a sv n) 6 (u_X9_slot_lone a sv n)) → AW p l e rm_X9_split s m args below meth c D A 4 0 0 Q 75 [(2, .int (nI k)), (1, .int (nI (r_X9_counted a sv n))), (0, .ref (q 0))] [] (mW q kc av w hs inn sv (u_X9_slot_lone a sv n) lt lz dr) := by
          intro n15; induction n15 with
          | zero =>
            intro k av hk15 h_a0 h_a15 hf15
            have hf15 : av = lpF (b_X9_split_75 a w n sv) n 0 (upd (u_X9_counted_a a sv n) 6 (u_X9_slot_lone a sv n)) := hf15
            refine aw_iload_n X (pc := 75) 0 rfl rfl dX9_split_75 ?_
            refine aw_aload_n X (pc := 76) 2 rfl rfl dX9_split_76 ?_
            refine aw_get X (pc := 77) iX9 0 0 rfl rfl (by decide) fl_X9_7 rfl dX9_split_77 ?_
            refine aw_iconst X (pc := 80) (v := 0) dX9_split_80 (by decide) ?_
            refine aw_iald X (pc := 81) 1 0 0 rfl rfl rfl (by decide) (by omega) dX9_split_81 ?_
            refine aw_icmp_ge X (pc := 82) (tgt := 178) (by decide) dX9_split_82 (fun c40 => ?_) (fun c40 => absurd (nn_le (a := n) (b := k) h_a0 rfl (by omega) (by omega)) c40)
            refine aw_aload_n X (pc := 178) 2 rfl rfl dX9_split_178 ?_
            refine aw_get X (pc := 179) iX9 0 0 rfl rfl (by decide) fl_X9_7 rfl dX9_split_179 ?_
            refine aw_iconst X (pc := 182) (v := 5) dX9_split_182 (by decide) ?_
            refine aw_dup2_11 X (pc := 183) dX9_split_183 rfl rfl ?_
            refine aw_iald X (pc := 184) 1 0 5 rfl rfl rfl (by decide) (by omega) dX9_split_184 ?_
            refine aw_iload_n X (pc := 185) 1 rfl rfl dX9_split_185 ?_
            refine aw_iconst X (pc := 186) (v := 2) dX9_split_186 (by decide) ?_
            refine aw_icmp_ne X (pc := 187) (tgt := 194) (by decide) dX9_split_187 (fun c41 => ?_) (fun c41 => ?_)
            · refine aw_iconst X (pc := 194) (v := (-1)) dX9_split_194 (by decide) ?_
              refine aw_iadd X (pc := 195) (z := (av 5) + (-1)) rfl  dX9_split_195 ?_
              refine aw_iast X (pc := 196) 1 0 (ws' := (mW q kc (upd av 5 ((av 5) + (-1))) w hs inn sv (u_X9_slot_lone a sv n) lt lz dr)) 5 rfl  rfl rfl (by decide) (by omega) rfl dX9_split_196 ?_
              have ha42 : (upd av 5 ((av 5) + (-1))) 0 = nI n := by rw [pk_un (by omega)]; exact h_a0
              have ha43 : (upd av 5 ((av 5) + (-1))) 15 = nI f := by rw [pk_un (by omega)]; exact h_a15
              refine aw_iload_n X (pc := 197) 1 rfl rfl dX9_split_197 ?_
              refine aw_iconst X (pc := 198) (v := 1) dX9_split_198 (by decide) ?_
              refine aw_icmp_ne X (pc := 199) (tgt := 228) (by decide) dX9_split_199 (fun c44 => ?_) (fun c44 => ?_)
              · refine aw_iload_n X (pc := 228) 1 rfl rfl dX9_split_228 ?_
                exact aw_iret X (v := nI (r_X9_counted a sv n)) hQ (by simp only [r_X9_split, if_pos c1, if_neg c41, if_neg c44, ← hf2, ← hf15]; try rfl) (by simp only [u_X9_split_a, u_X9_split_sp, u_X9_split_lone, if_pos c1, if_neg c41, if_neg c44, ← hf2, ← hf15]) dX9_split_229
              · obtain ⟨hl45, hm46⟩ := slot_lone_nat (n := n) (by omega) (show nI (r_X9_slot _ _ n) = 1 from c44)
                have hl45 : u_X9_slot_lone a sv n = nI (u_X9_slot_lone a sv n).toNatClampNeg := hl45
                have hm46 : (u_X9_slot_lone a sv n).toNatClampNeg < n := hm46
                refine aw_aload_n X (pc := 202) 2 rfl rfl dX9_split_202 ?_
                refine aw_aload_n X (pc := 203) 2 rfl rfl dX9_split_203 ?_
                refine aw_get X (pc := 204) iX9 0 5 rfl rfl (by decide) fl_X9_86 rfl dX9_split_204 ?_
                refine aw_iconst X (pc := 207) (v := 3) dX9_split_207 (by decide) ?_
                refine aw_iconst X (pc := 208) (v := (-1)) dX9_split_208 (by decide) ?_
                refine aw_callVF X (pc := 209) (q1 := 0) (rest := []) (st' := []) (c_X9_sets l D q kc (upd av 5 ((av 5) + (-1))) w hs inn sv (u_X9_slot_lone a sv n) lt lz dr (u_X9_slot_lone a sv n) 3 ((u_X9_slot_lone a sv n).toNatClampNeg) 3 (-1) hl45 rfl (by omega)) rfl rfl ⟨_, _, rfl⟩ rfl cf_X9_52 cd_X9_sets dd_X9_sets (by decide) (by decide) (by decide) rfl (Nat.le_of_ble_eq_true rfl) dX9_split_209 rfl ?_
                have ha47 : (upd (upd av 5 ((av 5) + (-1))) (300 + 6 * ((u_X9_slot_lone a sv n).toNatClampNeg) + 3) (-1)) 0 = nI n := by rw [pk_un (by omega)]; exact ha42
                have ha48 : (upd (upd av 5 ((av 5) + (-1))) (300 + 6 * ((u_X9_slot_lone a sv n).toNatClampNeg) + 3) (-1)) 15 = nI f := by rw [pk_un (by omega)]; exact ha43
                refine aw_aload_n X (pc := 212) 2 rfl rfl dX9_split_212 ?_
                refine aw_aload_n X (pc := 213) 2 rfl rfl dX9_split_213 ?_
                refine aw_get X (pc := 214) iX9 0 5 rfl rfl (by decide) fl_X9_86 rfl dX9_split_214 ?_
                refine aw_callVF X (pc := 217) (q1 := 0) (rest := []) (st' := []) (c_X9_finds l D q kc (upd (upd av 5 ((av 5) + (-1))) (300 + 6 * ((u_X9_slot_lone a sv n).toNatClampNeg) + 3) (-1)) w hs inn sv (u_X9_slot_lone a sv n) lt lz dr f (u_X9_slot_lone a sv n) ha48 (by omega)) rfl rfl ⟨_, _, rfl⟩ rfl cf_X9_82 cd_X9_finds dd_X9_finds (by decide) (by decide) (by decide) rfl (Nat.le_of_ble_eq_true rfl) dX9_split_217 rfl ?_
                have ha49 : (u_X9_finds_a (upd (upd av 5 ((av 5) + (-1))) (300 + 6 * ((u_X9_slot_lone a sv n).toNatClampNeg) + 3) (-1)) f (u_X9_slot_lone a sv n)) 0 = nI n := (fr_X9_finds (by omega)).trans ha47
                have ha50 : (u_X9_finds_a (upd (upd av 5 ((av 5) + (-1))) (300 + 6 * ((u_X9_slot_lone a sv n).toNatClampNeg) + 3) (-1)) f (u_X9_slot_lone a sv n)) 15 = nI (fN f) := fin_15 ha48 (by omega)
                have ha50b : fN f ≤ 200 := fN_le (by omega)
                refine aw_aload_n X (pc := 220) 2 rfl rfl dX9_split_220 ?_
                refine aw_aload_n X (pc := 221) 2 rfl rfl dX9_split_221 ?_
                refine aw_get X (pc := 222) iX9 0 5 rfl rfl (by decide) fl_X9_86 rfl dX9_split_222 ?_
                refine aw_callVF X (pc := 225) (q1 := 0) (rest := []) (st' := []) (c_X9_sleeps l D q kc (u_X9_finds_a (upd (upd av 5 ((av 5) + (-1))) (300 + 6 * ((u_X9_slot_lone a sv n).toNatClampNeg) + 3) (-1)) f (u_X9_slot_lone a sv n)) w hs inn sv (u_X9_slot_lone a sv n) lt lz dr (u_X9_slot_lone a sv n) ((u_X9_slot_lone a sv n).toNatClampNeg) hl45 (by omega)) rfl rfl ⟨_, _, rfl⟩ rfl cf_X9_114 cd_X9_sleeps dd_X9_sleeps (by decide) (by decide) (by decide) rfl (Nat.le_of_ble_eq_true rfl) dX9_split_225 rfl ?_
                have ha51 : (u_X9_sleeps_a (u_X9_finds_a (upd (upd av 5 ((av 5) + (-1))) (300 + 6 * ((u_X9_slot_lone a sv n).toNatClampNeg) + 3) (-1)) f (u_X9_slot_lone a sv n)) ((u_X9_slot_lone a sv n).toNatClampNeg)) 0 = nI n := (fr_X9_sleeps (by omega)).trans ha49
                have ha52 : (u_X9_sleeps_a (u_X9_finds_a (upd (upd av 5 ((av 5) + (-1))) (300 + 6 * ((u_X9_slot_lone a sv n).toNatClampNeg) + 3) (-1)) f (u_X9_slot_lone a sv n)) ((u_X9_slot_lone a sv n).toNatClampNeg)) 15 = nI (fN f) := (fr_X9_sleeps (by omega)).trans ha50
                refine aw_iload_n X (pc := 228) 1 rfl rfl dX9_split_228 ?_
                exact aw_iret X (v := nI (r_X9_counted a sv n)) hQ (by simp only [r_X9_split, if_pos c1, if_neg c41, if_pos c44, ← hf2, ← hf15]; try rfl) (by simp only [u_X9_split_a, u_X9_split_sp, u_X9_split_lone, if_pos c1, if_neg c41, if_pos c44, ← hf2, ← hf15]) dX9_split_229
            · refine aw_iconst X (pc := 190) (v := 1) dX9_split_190 (by decide) ?_
              refine aw_goto X (pc := 191) (tgt := 195) (by decide) dX9_split_191 ?_
              refine aw_iadd X (pc := 195) (z := (av 5) + 1) rfl  dX9_split_195 ?_
              refine aw_iast X (pc := 196) 1 0 (ws' := (mW q kc (upd av 5 ((av 5) + 1)) w hs inn sv (u_X9_slot_lone a sv n) lt lz dr)) 5 rfl  rfl rfl (by decide) (by omega) rfl dX9_split_196 ?_
              have ha53 : (upd av 5 ((av 5) + 1)) 0 = nI n := by rw [pk_un (by omega)]; exact h_a0
              have ha54 : (upd av 5 ((av 5) + 1)) 15 = nI f := by rw [pk_un (by omega)]; exact h_a15
              refine aw_iload_n X (pc := 197) 1 rfl rfl dX9_split_197 ?_
              refine aw_iconst X (pc := 198) (v := 1) dX9_split_198 (by decide) ?_
              refine aw_icmp_ne X (pc := 199) (tgt := 228) (by decide) dX9_split_199 (fun c55 => ?_) (fun c55 => ?_)
              · refine aw_iload_n X (pc := 228) 1 rfl rfl dX9_split_228 ?_
                exact aw_iret X (v := nI (r_X9_counted a sv n)) hQ (by simp only [r_X9_split, if_pos c1, if_pos c41, if_neg c55, ← hf2, ← hf15]; try rfl) (by simp only [u_X9_split_a, u_X9_split_sp, u_X9_split_lone, if_pos c1, if_pos c41, if_neg c55, ← hf2, ← hf15]) dX9_split_229
              · obtain ⟨hl56, hm57⟩ := slot_lone_nat (n := n) (by omega) (show nI (r_X9_slot _ _ n) = 1 from c55)
                have hl56 : u_X9_slot_lone a sv n = nI (u_X9_slot_lone a sv n).toNatClampNeg := hl56
                have hm57 : (u_X9_slot_lone a sv n).toNatClampNeg < n := hm57
                refine aw_aload_n X (pc := 202) 2 rfl rfl dX9_split_202 ?_
                refine aw_aload_n X (pc := 203) 2 rfl rfl dX9_split_203 ?_
                refine aw_get X (pc := 204) iX9 0 5 rfl rfl (by decide) fl_X9_86 rfl dX9_split_204 ?_
                refine aw_iconst X (pc := 207) (v := 3) dX9_split_207 (by decide) ?_
                refine aw_iconst X (pc := 208) (v := (-1)) dX9_split_208 (by decide) ?_
                refine aw_callVF X (pc := 209) (q1 := 0) (rest := []) (st' := []) (c_X9_sets l D q kc (upd av 5 ((av 5) + 1)) w hs inn sv (u_X9_slot_lone a sv n) lt lz dr (u_X9_slot_lone a sv n) 3 ((u_X9_slot_lone a sv n).toNatClampNeg) 3 (-1) hl56 rfl (by omega)) rfl rfl ⟨_, _, rfl⟩ rfl cf_X9_52 cd_X9_sets dd_X9_sets (by decide) (by decide) (by decide) rfl (Nat.le_of_ble_eq_true rfl) dX9_split_209 rfl ?_
                have ha58 : (upd (upd av 5 ((av 5) + 1)) (300 + 6 * ((u_X9_slot_lone a sv n).toNatClampNeg) + 3) (-1)) 0 = nI n := by rw [pk_un (by omega)]; exact ha53
                have ha59 : (upd (upd av 5 ((av 5) + 1)) (300 + 6 * ((u_X9_slot_lone a sv n).toNatClampNeg) + 3) (-1)) 15 = nI f := by rw [pk_un (by omega)]; exact ha54
                refine aw_aload_n X (pc := 212) 2 rfl rfl dX9_split_212 ?_
                refine aw_aload_n X (pc := 213) 2 rfl rfl dX9_split_213 ?_
                refine aw_get X (pc := 214) iX9 0 5 rfl rfl (by decide) fl_X9_86 rfl dX9_split_214 ?_
                refine aw_callVF X (pc := 217) (q1 := 0) (rest := []) (st' := []) (c_X9_finds l D q kc (upd (upd av 5 ((av 5) + 1)) (300 + 6 * ((u_X9_slot_lone a sv n).toNatClampNeg) + 3) (-1)) w hs inn sv (u_X9_slot_lone a sv n) lt lz dr f (u_X9_slot_lone a sv n) ha59 (by omega)) rfl rfl ⟨_, _, rfl⟩ rfl cf_X9_82 cd_X9_finds dd_X9_finds (by decide) (by decide) (by decide) rfl (Nat.le_of_ble_eq_true rfl) dX9_split_217 rfl ?_
                have ha60 : (u_X9_finds_a (upd (upd av 5 ((av 5) + 1)) (300 + 6 * ((u_X9_slot_lone a sv n).toNatClampNeg) + 3) (-1)) f (u_X9_slot_lone a sv n)) 0 = nI n := (fr_X9_finds (by omega)).trans ha58
                have ha61 : (u_X9_finds_a (upd (upd av 5 ((av 5) + 1)) (300 + 6 * ((u_X9_slot_lone a sv n).toNatClampNeg) + 3) (-1)) f (u_X9_slot_lone a sv n)) 15 = nI (fN f) := fin_15 ha59 (by omega)
                have ha61b : fN f ≤ 200 := fN_le (by omega)
                refine aw_aload_n X (pc := 220) 2 rfl rfl dX9_split_220 ?_
                refine aw_aload_n X (pc := 221) 2 rfl rfl dX9_split_221 ?_
                refine aw_get X (pc := 222) iX9 0 5 rfl rfl (by decide) fl_X9_86 rfl dX9_split_222 ?_
                refine aw_callVF X (pc := 225) (q1 := 0) (rest := []) (st' := []) (c_X9_sleeps l D q kc (u_X9_finds_a (upd (upd av 5 ((av 5) + 1)) (300 + 6 * ((u_X9_slot_lone a sv n).toNatClampNeg) + 3) (-1)) f (u_X9_slot_lone a sv n)) w hs inn sv (u_X9_slot_lone a sv n) lt lz dr (u_X9_slot_lone a sv n) ((u_X9_slot_lone a sv n).toNatClampNeg) hl56 (by omega)) rfl rfl ⟨_, _, rfl⟩ rfl cf_X9_114 cd_X9_sleeps dd_X9_sleeps (by decide) (by decide) (by decide) rfl (Nat.le_of_ble_eq_true rfl) dX9_split_225 rfl ?_
                have ha62 : (u_X9_sleeps_a (u_X9_finds_a (upd (upd av 5 ((av 5) + 1)) (300 + 6 * ((u_X9_slot_lone a sv n).toNatClampNeg) + 3) (-1)) f (u_X9_slot_lone a sv n)) ((u_X9_slot_lone a sv n).toNatClampNeg)) 0 = nI n := (fr_X9_sleeps (by omega)).trans ha60
                have ha63 : (u_X9_sleeps_a (u_X9_finds_a (upd (upd av 5 ((av 5) + 1)) (300 + 6 * ((u_X9_slot_lone a sv n).toNatClampNeg) + 3) (-1)) f (u_X9_slot_lone a sv n)) ((u_X9_slot_lone a sv n).toNatClampNeg)) 15 = nI (fN f) := (fr_X9_sleeps (by omega)).trans ha61
                refine aw_iload_n X (pc := 228) 1 rfl rfl dX9_split_228 ?_
                exact aw_iret X (v := nI (r_X9_counted a sv n)) hQ (by simp only [r_X9_split, if_pos c1, if_pos c41, if_pos c55, ← hf2, ← hf15]; try rfl) (by simp only [u_X9_split_a, u_X9_split_sp, u_X9_split_lone, if_pos c1, if_pos c41, if_pos c55, ← hf2, ← hf15]) dX9_split_229
          | succ n15 ih15 =>
            intro k av hk15 h_a0 h_a15 hf15
            have hf15 : lpF (b_X9_split_75 a w n sv) n15 (k + 1) (b_X9_split_75 a w n sv k av) = lpF (b_X9_split_75 a w n sv) n 0 (upd (u_X9_counted_a a sv n) 6 (u_X9_slot_lone a sv n)) := hf15
            refine aw_iload_n X (pc := 75) 0 rfl rfl dX9_split_75 ?_
            refine aw_aload_n X (pc := 76) 2 rfl rfl dX9_split_76 ?_
            refine aw_get X (pc := 77) iX9 0 0 rfl rfl (by decide) fl_X9_7 rfl dX9_split_77 ?_
            refine aw_iconst X (pc := 80) (v := 0) dX9_split_80 (by decide) ?_
            refine aw_iald X (pc := 81) 1 0 0 rfl rfl rfl (by decide) (by omega) dX9_split_81 ?_
            refine aw_icmp_ge X (pc := 82) (tgt := 178) (by decide) dX9_split_82 (fun c16 => absurd c16 (nn_nle (a := n) (b := k) h_a0 rfl (by omega) (by omega))) (fun c16 => ?_)
            refine aw_aload_n X (pc := 85) 2 rfl rfl dX9_split_85 ?_
            refine aw_iload_n X (pc := 86) 0 rfl rfl dX9_split_86 ?_
            refine aw_callVF X (pc := 87) (q1 := 0) (rest := []) (st' := [.int (r_X9_splits av w k)]) (c_X9_splits l D q kc av w hs inn sv (u_X9_slot_lone a sv n) lt lz dr (nI k) k rfl (by omega)) rfl rfl ⟨_, _, rfl⟩ rfl cf_X9_107 cd_X9_splits dd_X9_splits (by decide) (by decide) (by decide) rfl (Nat.le_of_ble_eq_true rfl) dX9_split_87 rfl ?_
            refine aw_if_eq X (pc := 90) (tgt := 172) (by decide) dX9_split_90 (fun c17 => ?_) (fun c17 => ?_)
            · refine aw_iinc X (pc := 172) (kx := 0) (v := nI (k + 1)) (lv' := [(2, .int (nI (k + 1))), (1, .int (nI (r_X9_counted a sv n))), (0, .ref (q 0))]) rfl (nn_add (a := k) (b := 1) rfl rfl rfl) (by decide) rfl dX9_split_172 ?_
              refine aw_goto X (pc := 175) (tgt := 75) (by decide) dX9_split_175 ?_
              have e18 : b_X9_split_75 a w n sv k av = av := by simp only [b_X9_split_75, if_pos c17]
              exact aw_sub (lv' := [(2, .int (nI (k + 1))), (1, .int (nI (r_X9_counted a sv n))), (0, .ref (q 0))]) [0, 1, 2] rfl (ih15 (k + 1) av (by omega) (h_a0) (h_a15) (by rw [← e18]; exact hf15))
            · refine aw_aload_n X (pc := 93) 2 rfl rfl dX9_split_93 ?_
              refine aw_iload_n X (pc := 94) 0 rfl rfl dX9_split_94 ?_
              refine aw_iconst X (pc := 95) (v := 3) dX9_split_95 (by decide) ?_
              refine aw_callVF X (pc := 96) (q1 := 0) (rest := []) (st' := [.int (av (300 + 6 * k + 3))]) (c_X9_of l D q kc av w hs inn sv (u_X9_slot_lone a sv n) lt lz dr (nI k) 3 k 3 rfl rfl (by omega)) rfl rfl ⟨_, _, rfl⟩ rfl cf_X9_44 cd_X9_of dd_X9_of (by decide) (by decide) (by decide) rfl (Nat.le_of_ble_eq_true rfl) dX9_split_96 rfl ?_
              refine aw_if_lt X (pc := 99) (tgt := 172) (by decide) dX9_split_99 (fun c19 => ?_) (fun c19 => ?_)
              · refine aw_iinc X (pc := 172) (kx := 0) (v := nI (k + 1)) (lv' := [(2, .int (nI (k + 1))), (1, .int (nI (r_X9_counted a sv n))), (0, .ref (q 0))]) rfl (nn_add (a := k) (b := 1) rfl rfl rfl) (by decide) rfl dX9_split_172 ?_
                refine aw_goto X (pc := 175) (tgt := 75) (by decide) dX9_split_175 ?_
                have e20 : b_X9_split_75 a w n sv k av = av := by simp only [b_X9_split_75, if_neg c17, if_pos c19]
                exact aw_sub (lv' := [(2, .int (nI (k + 1))), (1, .int (nI (r_X9_counted a sv n))), (0, .ref (q 0))]) [0, 1, 2] rfl (ih15 (k + 1) av (by omega) (h_a0) (h_a15) (by rw [← e20]; exact hf15))
              · refine aw_iload_n X (pc := 102) 0 rfl rfl dX9_split_102 ?_
                refine aw_aload_n X (pc := 103) 2 rfl rfl dX9_split_103 ?_
                refine aw_get X (pc := 104) iX9 0 5 rfl rfl (by decide) fl_X9_86 rfl dX9_split_104 ?_
                refine aw_icmp_ne X (pc := 107) (tgt := 113) (by decide) dX9_split_107 (fun c21 => ?_) (fun c21 => ?_)
                · refine aw_aload_n X (pc := 113) 2 rfl rfl dX9_split_113 ?_
                  refine aw_iload_n X (pc := 114) 0 rfl rfl dX9_split_114 ?_
                  refine aw_iconst X (pc := 115) (v := 3) dX9_split_115 (by decide) ?_
                  refine aw_callVF X (pc := 116) (q1 := 0) (rest := []) (st' := [.int (av (300 + 6 * k + 3))]) (c_X9_of l D q kc av w hs inn sv (u_X9_slot_lone a sv n) lt lz dr (nI k) 3 k 3 rfl rfl (by omega)) rfl rfl ⟨_, _, rfl⟩ rfl cf_X9_44 cd_X9_of dd_X9_of (by decide) (by decide) (by decide) rfl (Nat.le_of_ble_eq_true rfl) dX9_split_116 rfl ?_
                  refine aw_istore_n X (pc := 119) (lv' := [(3, .int (av (300 + 6 * k + 3))), (2, .int (nI k)), (1, .int (nI (r_X9_counted a sv n))), (0, .ref (q 0))]) rfl (by decide) rfl dX9_split_119 ?_
                  refine aw_iload_n X (pc := 120) 2 rfl rfl dX9_split_120 ?_
                  refine aw_iconst X (pc := 121) (v := 2) dX9_split_121 (by decide) ?_
                  refine aw_icmp_eq X (pc := 122) (tgt := 145) (by decide) dX9_split_122 (fun c22 => ?_) (fun c22 => ?_)
                  · refine aw_aload_n X (pc := 145) 3 rfl rfl dX9_split_145 ?_
                    refine aw_iload_n X (pc := 146) 1 rfl rfl dX9_split_146 ?_
                    refine aw_iconst X (pc := 147) (v := 3) dX9_split_147 (by decide) ?_
                    refine aw_aload_n X (pc := 148) 3 rfl rfl dX9_split_148 ?_
                    refine aw_get X (pc := 149) iX9 0 4 rfl rfl (by decide) fl_X9_24 rfl dX9_split_149 ?_
                    refine aw_iload_n X (pc := 152) 1 rfl rfl dX9_split_152 ?_
                    refine aw_zald X (pc := 153) 5 4 k rfl rfl rfl (by decide) (by omega) dX9_split_153 ?_
                    refine aw_if_eq X (pc := 154) (tgt := 166) (by decide) dX9_split_154 (fun c23 => ?_) (fun c23 => ?_)
                    · refine aw_iload_n X (pc := 166) 0 rfl rfl dX9_split_166 ?_
                      refine aw_iconst X (pc := 167) (v := 1) dX9_split_167 (by decide) ?_
                      refine aw_iadd X (pc := 168) (z := (av (300 + 6 * k + 3)) + 1) rfl  dX9_split_168 ?_
                      refine aw_callVF X (pc := 169) (q1 := 0) (rest := []) (st' := []) (c_X9_sets l D q kc av w hs inn sv (u_X9_slot_lone a sv n) lt lz dr (nI k) 3 k 3 ((av (300 + 6 * k + 3)) + 1) rfl rfl (by omega)) rfl rfl ⟨_, _, rfl⟩ rfl cf_X9_52 cd_X9_sets dd_X9_sets (by decide) (by decide) (by decide) rfl (Nat.le_of_ble_eq_true rfl) dX9_split_169 rfl ?_
                      have ha24 : (upd av (300 + 6 * k + 3) ((av (300 + 6 * k + 3)) + 1)) 0 = nI n := by rw [pk_un (by omega)]; exact h_a0
                      have ha25 : (upd av (300 + 6 * k + 3) ((av (300 + 6 * k + 3)) + 1)) 15 = nI f := by rw [pk_un (by omega)]; exact h_a15
                      refine aw_iinc X (pc := 172) (kx := 1) (v := nI (k + 1)) (lv' := [(2, .int (nI (k + 1))), (3, .int (av (300 + 6 * k + 3))), (1, .int (nI (r_X9_counted a sv n))), (0, .ref (q 0))]) rfl (nn_add (a := k) (b := 1) rfl rfl rfl) (by decide) rfl dX9_split_172 ?_
                      refine aw_goto X (pc := 175) (tgt := 75) (by decide) dX9_split_175 ?_
                      have e26 : b_X9_split_75 a w n sv k av = (upd av (300 + 6 * k + 3) ((av (300 + 6 * k + 3)) + 1)) := by simp only [b_X9_split_75, if_neg c17, if_neg c19, if_neg c21, if_pos c22, if_pos c23]
                      exact aw_sub (lv' := [(2, .int (nI (k + 1))), (1, .int (nI (r_X9_counted a sv n))), (0, .ref (q 0))]) [0, 2, 3] rfl (ih15 (k + 1) (upd av (300 + 6 * k + 3) ((av (300 + 6 * k + 3)) + 1)) (by omega) (ha24) (ha25) (by rw [← e26]; exact hf15))
                    · refine aw_aload_n X (pc := 157) 3 rfl rfl dX9_split_157 ?_
                      refine aw_iload_n X (pc := 158) 1 rfl rfl dX9_split_158 ?_
                      refine aw_iconst X (pc := 159) (v := 2) dX9_split_159 (by decide) ?_
                      refine aw_callVF X (pc := 160) (q1 := 0) (rest := [.int 3, .int (nI k), .ref (q 0)]) (st' := [.int (r_X9_draw av k 2), .int 3, .int (nI k), .ref (q 0)]) (c_X9_draw l D q kc av w hs inn sv (u_X9_slot_lone a sv n) lt lz dr (nI k) k 2 rfl (by omega) (by decide)) rfl rfl ⟨_, _, rfl⟩ rfl cf_X9_111 cd_X9_draw dd_X9_draw (by decide) (by decide) (by decide) rfl (Nat.le_of_ble_eq_true rfl) dX9_split_160 rfl ?_
                      have ha27 : (u_X9_draw_a av k) 0 = nI n := (fr_X9_draw (by omega)).trans h_a0
                      have ha28 : (u_X9_draw_a av k) 15 = nI f := (fr_X9_draw (by omega)).trans h_a15
                      refine aw_goto X (pc := 163) (tgt := 169) (by decide) dX9_split_163 ?_
                      refine aw_callVF X (pc := 169) (q1 := 0) (rest := []) (st' := []) (c_X9_sets l D q kc (u_X9_draw_a av k) w hs inn sv (u_X9_slot_lone a sv n) lt lz dr (nI k) 3 k 3 (r_X9_draw av k 2) rfl rfl (by omega)) rfl rfl ⟨_, _, rfl⟩ rfl cf_X9_52 cd_X9_sets dd_X9_sets (by decide) (by decide) (by decide) rfl (Nat.le_of_ble_eq_true rfl) dX9_split_169 rfl ?_
                      have ha29 : (upd (u_X9_draw_a av k) (300 + 6 * k + 3) (r_X9_draw av k 2)) 0 = nI n := by rw [pk_un (by omega)]; exact ha27
                      have ha30 : (upd (u_X9_draw_a av k) (300 + 6 * k + 3) (r_X9_draw av k 2)) 15 = nI f := by rw [pk_un (by omega)]; exact ha28
                      refine aw_iinc X (pc := 172) (kx := 1) (v := nI (k + 1)) (lv' := [(2, .int (nI (k + 1))), (3, .int (av (300 + 6 * k + 3))), (1, .int (nI (r_X9_counted a sv n))), (0, .ref (q 0))]) rfl (nn_add (a := k) (b := 1) rfl rfl rfl) (by decide) rfl dX9_split_172 ?_
                      refine aw_goto X (pc := 175) (tgt := 75) (by decide) dX9_split_175 ?_
                      have e31 : b_X9_split_75 a w n sv k av = (upd (u_X9_draw_a av k) (300 + 6 * k + 3) (r_X9_draw av k 2)) := by simp only [b_X9_split_75, if_neg c17, if_neg c19, if_neg c21, if_pos c22, if_neg c23]
                      exact aw_sub (lv' := [(2, .int (nI (k + 1))), (1, .int (nI (r_X9_counted a sv n))), (0, .ref (q 0))]) [0, 2, 3] rfl (ih15 (k + 1) (upd (u_X9_draw_a av k) (300 + 6 * k + 3) (r_X9_draw av k 2)) (by omega) (ha29) (ha30) (by rw [← e31]; exact hf15))
                  · refine aw_aload_n X (pc := 125) 3 rfl rfl dX9_split_125 ?_
                    refine aw_iload_n X (pc := 126) 1 rfl rfl dX9_split_126 ?_
                    refine aw_iconst X (pc := 127) (v := 3) dX9_split_127 (by decide) ?_
                    refine aw_iload_n X (pc := 128) 0 rfl rfl dX9_split_128 ?_
                    refine aw_if_le X (pc := 129) (tgt := 138) (by decide) dX9_split_129 (fun c32 => ?_) (fun c32 => ?_)
                    · refine aw_iconst X (pc := 138) (v := 0) dX9_split_138 (by decide) ?_
                      refine aw_callVF X (pc := 139) (q1 := 0) (rest := []) (st' := []) (c_X9_sets l D q kc av w hs inn sv (u_X9_slot_lone a sv n) lt lz dr (nI k) 3 k 3 0 rfl rfl (by omega)) rfl rfl ⟨_, _, rfl⟩ rfl cf_X9_52 cd_X9_sets dd_X9_sets (by decide) (by decide) (by decide) rfl (Nat.le_of_ble_eq_true rfl) dX9_split_139 rfl ?_
                      have ha33 : (upd av (300 + 6 * k + 3) 0) 0 = nI n := by rw [pk_un (by omega)]; exact h_a0
                      have ha34 : (upd av (300 + 6 * k + 3) 0) 15 = nI f := by rw [pk_un (by omega)]; exact h_a15
                      refine aw_goto X (pc := 142) (tgt := 172) (by decide) dX9_split_142 ?_
                      refine aw_iinc X (pc := 172) (kx := 1) (v := nI (k + 1)) (lv' := [(2, .int (nI (k + 1))), (3, .int (av (300 + 6 * k + 3))), (1, .int (nI (r_X9_counted a sv n))), (0, .ref (q 0))]) rfl (nn_add (a := k) (b := 1) rfl rfl rfl) (by decide) rfl dX9_split_172 ?_
                      refine aw_goto X (pc := 175) (tgt := 75) (by decide) dX9_split_175 ?_
                      have e35 : b_X9_split_75 a w n sv k av = (upd av (300 + 6 * k + 3) 0) := by simp only [b_X9_split_75, if_neg c17, if_neg c19, if_neg c21, if_neg c22, if_pos c32]
                      exact aw_sub (lv' := [(2, .int (nI (k + 1))), (1, .int (nI (r_X9_counted a sv n))), (0, .ref (q 0))]) [0, 2, 3] rfl (ih15 (k + 1) (upd av (300 + 6 * k + 3) 0) (by omega) (ha33) (ha34) (by rw [← e35]; exact hf15))
                    · refine aw_iload_n X (pc := 132) 0 rfl rfl dX9_split_132 ?_
                      refine aw_iconst X (pc := 133) (v := 1) dX9_split_133 (by decide) ?_
                      refine aw_isub X (pc := 134) (z := (av (300 + 6 * k + 3)) - 1) rfl  dX9_split_134 ?_
                      refine aw_goto X (pc := 135) (tgt := 139) (by decide) dX9_split_135 ?_
                      refine aw_callVF X (pc := 139) (q1 := 0) (rest := []) (st' := []) (c_X9_sets l D q kc av w hs inn sv (u_X9_slot_lone a sv n) lt lz dr (nI k) 3 k 3 ((av (300 + 6 * k + 3)) - 1) rfl rfl (by omega)) rfl rfl ⟨_, _, rfl⟩ rfl cf_X9_52 cd_X9_sets dd_X9_sets (by decide) (by decide) (by decide) rfl (Nat.le_of_ble_eq_true rfl) dX9_split_139 rfl ?_
                      have ha36 : (upd av (300 + 6 * k + 3) ((av (300 + 6 * k + 3)) - 1)) 0 = nI n := by rw [pk_un (by omega)]; exact h_a0
                      have ha37 : (upd av (300 + 6 * k + 3) ((av (300 + 6 * k + 3)) - 1)) 15 = nI f := by rw [pk_un (by omega)]; exact h_a15
                      refine aw_goto X (pc := 142) (tgt := 172) (by decide) dX9_split_142 ?_
                      refine aw_iinc X (pc := 172) (kx := 1) (v := nI (k + 1)) (lv' := [(2, .int (nI (k + 1))), (3, .int (av (300 + 6 * k + 3))), (1, .int (nI (r_X9_counted a sv n))), (0, .ref (q 0))]) rfl (nn_add (a := k) (b := 1) rfl rfl rfl) (by decide) rfl dX9_split_172 ?_
                      refine aw_goto X (pc := 175) (tgt := 75) (by decide) dX9_split_175 ?_
                      have e38 : b_X9_split_75 a w n sv k av = (upd av (300 + 6 * k + 3) ((av (300 + 6 * k + 3)) - 1)) := by simp only [b_X9_split_75, if_neg c17, if_neg c19, if_neg c21, if_neg c22, if_neg c32]
                      exact aw_sub (lv' := [(2, .int (nI (k + 1))), (1, .int (nI (r_X9_counted a sv n))), (0, .ref (q 0))]) [0, 2, 3] rfl (ih15 (k + 1) (upd av (300 + 6 * k + 3) ((av (300 + 6 * k + 3)) - 1)) (by omega) (ha36) (ha37) (by rw [← e38]; exact hf15))
                · refine aw_goto X (pc := 110) (tgt := 172) (by decide) dX9_split_110 ?_
                  refine aw_iinc X (pc := 172) (kx := 0) (v := nI (k + 1)) (lv' := [(2, .int (nI (k + 1))), (1, .int (nI (r_X9_counted a sv n))), (0, .ref (q 0))]) rfl (nn_add (a := k) (b := 1) rfl rfl rfl) (by decide) rfl dX9_split_172 ?_
                  refine aw_goto X (pc := 175) (tgt := 75) (by decide) dX9_split_175 ?_
                  have e39 : b_X9_split_75 a w n sv k av = av := by simp only [b_X9_split_75, if_neg c17, if_neg c19, if_pos c21]
                  exact aw_sub (lv' := [(2, .int (nI (k + 1))), (1, .int (nI (r_X9_counted a sv n))), (0, .ref (q 0))]) [0, 1, 2] rfl (ih15 (k + 1) av (by omega) (h_a0) (h_a15) (by rw [← e39]; exact hf15))
        exact aw_sub (lv' := [(2, .int 0), (1, .int (nI (r_X9_counted a sv n))), (0, .ref (q 0))]) [0, 1, 2] rfl (L15 n 0 (upd (u_X9_counted_a a sv n) 6 (u_X9_slot_lone a sv n)) (by omega) (ha13) (ha14) rfl)
      | succ n2 ih2 =>
        intro k sv hk2  hf2
        have hf2 : lpF (b_X9_split_13 a w) n2 (k + 1) (b_X9_split_13 a w k sv) = lpF (b_X9_split_13 a w) n 0 sp := hf2
        refine aw_iload_n X (pc := 13) 0 rfl rfl dX9_split_13 ?_
        refine aw_aload_n X (pc := 14) 1 rfl rfl dX9_split_14 ?_
        refine aw_get X (pc := 15) iX9 0 0 rfl rfl (by decide) fl_X9_7 rfl dX9_split_15 ?_
        refine aw_iconst X (pc := 18) (v := 0) dX9_split_18 (by decide) ?_
        refine aw_iald X (pc := 19) 1 0 0 rfl rfl rfl (by decide) (by omega) dX9_split_19 ?_
        refine aw_icmp_ge X (pc := 20) (tgt := 57) (by decide) dX9_split_20 (fun c3 => absurd c3 (nn_nle (a := n) (b := k) ha0 rfl (by omega) (by omega))) (fun c3 => ?_)
        refine aw_aload_n X (pc := 23) 1 rfl rfl dX9_split_23 ?_
        refine aw_get X (pc := 24) iX9 0 4 rfl rfl (by decide) fl_X9_24 rfl dX9_split_24 ?_
        refine aw_iload_n X (pc := 27) 0 rfl rfl dX9_split_27 ?_
        refine aw_aload_n X (pc := 28) 1 rfl rfl dX9_split_28 ?_
        refine aw_iload_n X (pc := 29) 0 rfl rfl dX9_split_29 ?_
        refine aw_callVF X (pc := 30) (q1 := 0) (rest := [.int (nI k), .ref (q 5)]) (st' := [.int (r_X9_splits a w k), .int (nI k), .ref (q 5)]) (c_X9_splits l D q kc a w hs inn sv lone lt lz dr (nI k) k rfl (by omega)) rfl rfl ⟨_, _, rfl⟩ rfl cf_X9_107 cd_X9_splits dd_X9_splits (by decide) (by decide) (by decide) rfl (Nat.le_of_ble_eq_true rfl) dX9_split_30 rfl ?_
        refine aw_if_eq X (pc := 33) (tgt := 49) (by decide) dX9_split_33 (fun c4 => ?_) (fun c4 => ?_)
        · refine aw_iconst X (pc := 49) (v := 0) dX9_split_49 (by decide) ?_
          refine aw_zast X (pc := 50) 5 4 (ws' := (mW q kc a w hs inn (upd sv k 0) lone lt lz dr)) k rfl (by decide) rfl rfl (by decide) (by omega) rfl dX9_split_50 ?_
          refine aw_iinc X (pc := 51) (kx := 0) (v := nI (k + 1)) (lv' := [(1, .int (nI (k + 1))), (0, .ref (q 0))]) rfl (nn_add (a := k) (b := 1) rfl rfl rfl) (by decide) rfl dX9_split_51 ?_
          refine aw_goto X (pc := 54) (tgt := 13) (by decide) dX9_split_54 ?_
          have e5 : b_X9_split_13 a w k sv = (upd sv k 0) := by simp only [b_X9_split_13, if_pos c4]
          exact aw_sub (lv' := [(1, .int (nI (k + 1))), (0, .ref (q 0))]) [0, 1] rfl (ih2 (k + 1) (upd sv k 0) (by omega)  (by rw [← e5]; exact hf2))
        · refine aw_aload_n X (pc := 36) 1 rfl rfl dX9_split_36 ?_
          refine aw_iload_n X (pc := 37) 0 rfl rfl dX9_split_37 ?_
          refine aw_iconst X (pc := 38) (v := 3) dX9_split_38 (by decide) ?_
          refine aw_callVF X (pc := 39) (q1 := 0) (rest := [.int (nI k), .ref (q 5)]) (st' := [.int (a (300 + 6 * k + 3)), .int (nI k), .ref (q 5)]) (c_X9_of l D q kc a w hs inn sv lone lt lz dr (nI k) 3 k 3 rfl rfl (by omega)) rfl rfl ⟨_, _, rfl⟩ rfl cf_X9_44 cd_X9_of dd_X9_of (by decide) (by decide) (by decide) rfl (Nat.le_of_ble_eq_true rfl) dX9_split_39 rfl ?_
          refine aw_if_ne X (pc := 42) (tgt := 49) (by decide) dX9_split_42 (fun c6 => ?_) (fun c6 => ?_)
          · refine aw_iconst X (pc := 49) (v := 0) dX9_split_49 (by decide) ?_
            refine aw_zast X (pc := 50) 5 4 (ws' := (mW q kc a w hs inn (upd sv k 0) lone lt lz dr)) k rfl (by decide) rfl rfl (by decide) (by omega) rfl dX9_split_50 ?_
            refine aw_iinc X (pc := 51) (kx := 0) (v := nI (k + 1)) (lv' := [(1, .int (nI (k + 1))), (0, .ref (q 0))]) rfl (nn_add (a := k) (b := 1) rfl rfl rfl) (by decide) rfl dX9_split_51 ?_
            refine aw_goto X (pc := 54) (tgt := 13) (by decide) dX9_split_54 ?_
            have e7 : b_X9_split_13 a w k sv = (upd sv k 0) := by simp only [b_X9_split_13, if_neg c4, if_neg c6]
            exact aw_sub (lv' := [(1, .int (nI (k + 1))), (0, .ref (q 0))]) [0, 1] rfl (ih2 (k + 1) (upd sv k 0) (by omega)  (by rw [← e7]; exact hf2))
          · refine aw_iconst X (pc := 45) (v := 1) dX9_split_45 (by decide) ?_
            refine aw_goto X (pc := 46) (tgt := 50) (by decide) dX9_split_46 ?_
            refine aw_zast X (pc := 50) 5 4 (ws' := (mW q kc a w hs inn (upd sv k 1) lone lt lz dr)) k rfl (by decide) rfl rfl (by decide) (by omega) rfl dX9_split_50 ?_
            refine aw_iinc X (pc := 51) (kx := 0) (v := nI (k + 1)) (lv' := [(1, .int (nI (k + 1))), (0, .ref (q 0))]) rfl (nn_add (a := k) (b := 1) rfl rfl rfl) (by decide) rfl dX9_split_51 ?_
            refine aw_goto X (pc := 54) (tgt := 13) (by decide) dX9_split_54 ?_
            have e8 : b_X9_split_13 a w k sv = (upd sv k 1) := by simp only [b_X9_split_13, if_neg c4, if_pos c6]
            exact aw_sub (lv' := [(1, .int (nI (k + 1))), (0, .ref (q 0))]) [0, 1] rfl (ih2 (k + 1) (upd sv k 1) (by omega)  (by rw [← e8]; exact hf2))
    exact aw_sub (lv' := [(1, .int 0), (0, .ref (q 0))]) [0, 1] rfl (L2 n 0 sp (by omega)  rfl)
  · refine aw_iconst X (pc := 9) (v := (-1)) dX9_split_9 (by decide) ?_
    exact aw_iret X (v := (-1)) hQ (by simp only [r_X9_split, if_neg c1]; try rfl) (by simp only [u_X9_split_a, u_X9_split_sp, u_X9_split_lone, if_neg c1]) dX9_split_10

def b_X9_frame_15 (w : Nat → Int64) (len : Int32) (k : Nat) (σ : (Nat → Int32) × (Nat → Int32)) : (Nat → Int32) × (Nat → Int32) := if σ.1 (300 + 6 * k + 0) < 2 then (σ.1, upd σ.2 k (-1)) else (if σ.1 (300 + 6 * k + 5) = 0 then (if r_X9_listens σ.1 w k = 0 then (σ.1, upd σ.2 k (-1)) else (u_X9_draw_a σ.1 k, upd σ.2 k (r_X9_draw σ.1 k len))) else (σ.1, upd σ.2 k (-1)))
def b_X9_frame_76  (k3 : Nat) (σ : (Nat → Int32)) : (Nat → Int32) := (upd σ (7 + k3) 0)
def b_X9_frame_109 (dv : Nat → Int32) (s_ : Nat) (k4 : Nat) (σ : (Nat → Int32)) : (Nat → Int32) := if dv k4 = nI s_ then (upd σ k4 1) else (upd σ k4 0)
def b_X9_frame_101 (n : Nat) (dv : Nat → Int32) (s_ : Nat) (σ : Int32 × (Nat → Int32) × (Nat → Int32) × Int32) : Int32 × (Nat → Int32) × (Nat → Int32) × Int32 := if nI (r_X9_counted σ.2.1 (lpF (b_X9_frame_109 dv s_) n 0 σ.2.2.1) n) = 1 then (σ.1 + 1, u_X9_sleeps_a (upd (u_X9_finds_a (upd (u_X9_counted_a σ.2.1 (lpF (b_X9_frame_109 dv s_) n 0 σ.2.2.1) n) (7 + r_X9_counted σ.2.1 (lpF (b_X9_frame_109 dv s_) n 0 σ.2.2.1) n) (((u_X9_counted_a σ.2.1 (lpF (b_X9_frame_109 dv s_) n 0 σ.2.2.1) n) (7 + r_X9_counted σ.2.1 (lpF (b_X9_frame_109 dv s_) n 0 σ.2.2.1) n)) + 1)) ((σ.2.1 15).toNatClampNeg) (u_X9_slot_lone σ.2.1 (lpF (b_X9_frame_109 dv s_) n 0 σ.2.2.1) n)) (300 + 6 * ((u_X9_slot_lone σ.2.1 (lpF (b_X9_frame_109 dv s_) n 0 σ.2.2.1) n).toNatClampNeg) + 5) 1) ((u_X9_slot_lone σ.2.1 (lpF (b_X9_frame_109 dv s_) n 0 σ.2.2.1) n).toNatClampNeg), (lpF (b_X9_frame_109 dv s_) n 0 σ.2.2.1), u_X9_slot_lone σ.2.1 (lpF (b_X9_frame_109 dv s_) n 0 σ.2.2.1) n) else (σ.1, upd (u_X9_counted_a σ.2.1 (lpF (b_X9_frame_109 dv s_) n 0 σ.2.2.1) n) (7 + r_X9_counted σ.2.1 (lpF (b_X9_frame_109 dv s_) n 0 σ.2.2.1) n) (((u_X9_counted_a σ.2.1 (lpF (b_X9_frame_109 dv s_) n 0 σ.2.2.1) n) (7 + r_X9_counted σ.2.1 (lpF (b_X9_frame_109 dv s_) n 0 σ.2.2.1) n)) + 1), (lpF (b_X9_frame_109 dv s_) n 0 σ.2.2.1), u_X9_slot_lone σ.2.1 (lpF (b_X9_frame_109 dv s_) n 0 σ.2.2.1) n)
def r_X9_frame (a : Nat → Int32) (w : Nat → Int64) (sp : Nat → Int32) (lone : Int32) (dr : Nat → Int32) (n : Nat) (len : Int32) : Int32 := if len < 1 then (-1) else (if len ≤ 64 then ((lpF (b_X9_frame_101 n ((lpF (b_X9_frame_15 w len) n 0 (a, dr)).2)) len.toNatClampNeg 0 (0, (lpF b_X9_frame_76 3 0 ((lpF (b_X9_frame_15 w len) n 0 (a, dr)).1)), sp, lone)).1) else (-1))
def u_X9_frame_a (a : Nat → Int32) (w : Nat → Int64) (sp : Nat → Int32) (lone : Int32) (dr : Nat → Int32) (n : Nat) (len : Int32) : Nat → Int32 := if len < 1 then a else (if len ≤ 64 then (if 1 ≤ (239 * (((lpF (b_X9_frame_101 n ((lpF (b_X9_frame_15 w len) n 0 (a, dr)).2)) len.toNatClampNeg 0 (0, (lpF b_X9_frame_76 3 0 ((lpF (b_X9_frame_15 w len) n 0 (a, dr)).1)), sp, lone)).2.1) 9)) / 100 then (if (239 * (((lpF (b_X9_frame_101 n ((lpF (b_X9_frame_15 w len) n 0 (a, dr)).2)) len.toNatClampNeg 0 (0, (lpF b_X9_frame_76 3 0 ((lpF (b_X9_frame_15 w len) n 0 (a, dr)).1)), sp, lone)).2.1) 9)) / 100 ≤ 64 then (upd ((lpF (b_X9_frame_101 n ((lpF (b_X9_frame_15 w len) n 0 (a, dr)).2)) len.toNatClampNeg 0 (0, (lpF b_X9_frame_76 3 0 ((lpF (b_X9_frame_15 w len) n 0 (a, dr)).1)), sp, lone)).2.1) 10 ((239 * (((lpF (b_X9_frame_101 n ((lpF (b_X9_frame_15 w len) n 0 (a, dr)).2)) len.toNatClampNeg 0 (0, (lpF b_X9_frame_76 3 0 ((lpF (b_X9_frame_15 w len) n 0 (a, dr)).1)), sp, lone)).2.1) 9)) / 100)) else (upd ((lpF (b_X9_frame_101 n ((lpF (b_X9_frame_15 w len) n 0 (a, dr)).2)) len.toNatClampNeg 0 (0, (lpF b_X9_frame_76 3 0 ((lpF (b_X9_frame_15 w len) n 0 (a, dr)).1)), sp, lone)).2.1) 10 64)) else (upd ((lpF (b_X9_frame_101 n ((lpF (b_X9_frame_15 w len) n 0 (a, dr)).2)) len.toNatClampNeg 0 (0, (lpF b_X9_frame_76 3 0 ((lpF (b_X9_frame_15 w len) n 0 (a, dr)).1)), sp, lone)).2.1) 10 1)) else a)
def u_X9_frame_sp (a : Nat → Int32) (w : Nat → Int64) (sp : Nat → Int32) (lone : Int32) (dr : Nat → Int32) (n : Nat) (len : Int32) : Nat → Int32 := if len < 1 then sp else (if len ≤ 64 then ((lpF (b_X9_frame_101 n ((lpF (b_X9_frame_15 w len) n 0 (a, dr)).2)) len.toNatClampNeg 0 (0, (lpF b_X9_frame_76 3 0 ((lpF (b_X9_frame_15 w len) n 0 (a, dr)).1)), sp, lone)).2.2.1) else sp)
def u_X9_frame_lone (a : Nat → Int32) (w : Nat → Int64) (sp : Nat → Int32) (lone : Int32) (dr : Nat → Int32) (n : Nat) (len : Int32) : Int32 := if len < 1 then lone else (if len ≤ 64 then ((lpF (b_X9_frame_101 n ((lpF (b_X9_frame_15 w len) n 0 (a, dr)).2)) len.toNatClampNeg 0 (0, (lpF b_X9_frame_76 3 0 ((lpF (b_X9_frame_15 w len) n 0 (a, dr)).1)), sp, lone)).2.2.2) else lone)
def u_X9_frame_dr (a : Nat → Int32) (w : Nat → Int64) (dr : Nat → Int32) (n : Nat) (len : Int32) : Nat → Int32 := if len < 1 then dr else (if len ≤ 64 then ((lpF (b_X9_frame_15 w len) n 0 (a, dr)).2) else dr)
abbrev rm_X9_frame : Room := { frames := 3, cells := 0, slots := 0, locals := 67 }
set_option maxHeartbeats 400000 in
set_option maxRecDepth 100000 in
theorem c_X9_frame (l : Launch) (D : va_G) (q : Nat → Nat) (kc : Nat → ClassId) (a : Nat → Int32) (w : Nat → Int64) (hs : Nat → Int32) (inn : Nat → Int32) (sp : Nat → Int32) (lone : Int32) (lt : Nat → Int64) (lz : Nat → Int32) (dr : Nat → Int32) (n : Nat) (f : Nat) (len : Int32) (ha0 : a 0 = nI n) (hn : n ≤ 40) (ha15 : a 15 = nI f) (hf : f ≤ 200) : MW l D yX9_frame (Cond.code yX9_frame cX9_frame 5 (some .int) :: TT) rm_X9_frame [.ref (q 0), .int len] [(kc 1, .int), (kc 2, .long), (kc 3, .boolean), (kc 4, .boolean), (kc 5, .boolean), (kc 6, .long), (kc 7, .int), (kc 8, .int)] (mW q kc a w hs inn sp lone lt lz dr) (some (.int (r_X9_frame a w sp lone dr n len))) (mW q kc (u_X9_frame_a a w sp lone dr n len) w hs inn (u_X9_frame_sp a w sp lone dr n len) (u_X9_frame_lone a w sp lone dr n len) lt lz (u_X9_frame_dr a w dr n len)) := by
  refine MW.of (cc := cX9_frame) (nL := 5) (ret := (some .int)) (lv := [(0, .ref (q 0)), (1, .int len)]) (by decide) ((mW_ad ..).trans (mW_ad ..).symm) rfl (Nat.le_of_ble_eq_true rfl) ?_
  intro p e s m args below meth c A Q hQ X
  refine aw_iload_n X (pc := 0) 1 rfl rfl dX9_frame_0 ?_
  refine aw_iconst X (pc := 1) (v := 1) dX9_frame_1 (by decide) ?_
  refine aw_icmp_lt X (pc := 2) (tgt := 11) (by decide) dX9_frame_2 (fun c1 => ?_) (fun c1 => ?_)
  · refine aw_iconst X (pc := 11) (v := (-1)) dX9_frame_11 (by decide) ?_
    exact aw_iret X (v := (-1)) hQ (by simp only [r_X9_frame, if_pos c1]; try rfl) (by simp only [u_X9_frame_a, u_X9_frame_sp, u_X9_frame_lone, u_X9_frame_dr, if_pos c1]) dX9_frame_12
  · refine aw_iload_n X (pc := 5) 1 rfl rfl dX9_frame_5 ?_
    refine aw_bipush X (pc := 6) (v := 64) dX9_frame_6 (by decide) ?_
    refine aw_icmp_le X (pc := 8) (tgt := 13) (by decide) dX9_frame_8 (fun c2 => ?_) (fun c2 => ?_)
    · obtain ⟨hle1, hle2, hle3⟩ := len_nat c1 c2
      refine aw_iconst X (pc := 13) (v := 0) dX9_frame_13 (by decide) ?_
      refine aw_istore_n X (pc := 14) (lv' := [(2, .int 0), (0, .ref (q 0)), (1, .int len)]) rfl (by decide) rfl dX9_frame_14 ?_
      have L3 : ∀ (n3 k : Nat) (av1 : Nat → Int32) (dv : Nat → Int32), k + n3 = n → av1 0 = nI n → av1 15 = nI f → lpF (b_X9_frame_15 w len) n3 k (av1, dv) = lpF (b_X9_frame_15 w len) n 0 (a, dr) → AW p l e rm_X9_frame s m args below meth c D A 5 0 0 Q 15 [(2, .int (nI k)), (0, .ref (q 0)), (1, .int len)] [] (mW q kc av1 w hs inn sp lone lt lz dv) := by
        intro n3; induction n3 with
        | zero =>
          intro k av1 dv hk3 h_a0 h_a15 hf3
          have hf3 : (av1, dv) = lpF (b_X9_frame_15 w len) n 0 (a, dr) := hf3
          refine aw_iload_n X (pc := 15) 0 rfl rfl dX9_frame_15 ?_
          refine aw_aload_n X (pc := 16) 1 rfl rfl dX9_frame_16 ?_
          refine aw_get X (pc := 17) iX9 0 0 rfl rfl (by decide) fl_X9_7 rfl dX9_frame_17 ?_
          refine aw_iconst X (pc := 20) (v := 0) dX9_frame_20 (by decide) ?_
          refine aw_iald X (pc := 21) 1 0 0 rfl rfl rfl (by decide) (by omega) dX9_frame_21 ?_
          refine aw_icmp_ge X (pc := 22) (tgt := 74) (by decide) dX9_frame_22 (fun c14 => ?_) (fun c14 => absurd (nn_le (a := n) (b := k) h_a0 rfl (by omega) (by omega)) c14)
          refine aw_iconst X (pc := 74) (v := 0) dX9_frame_74 (by decide) ?_
          refine aw_istore_n X (pc := 75) (lv' := [(2, .int 0), (0, .ref (q 0)), (1, .int len)]) rfl (by decide) rfl dX9_frame_75 ?_
          have L15 : ∀ (n15 k3 : Nat) (av2 : Nat → Int32), k3 + n15 = 3 → av2 0 = nI n → av2 15 = nI f → lpF (b_X9_frame_76) n15 k3 av2 = lpF b_X9_frame_76 3 0 av1 → AW p l e rm_X9_frame s m args below meth c D A 5 0 0 Q 76 [(2, .int (nI k3)), (0, .ref (q 0)), (1, .int len)] [] (mW q kc av2 w hs inn sp lone lt lz dv) := by
            intro n15; induction n15 with
            | zero =>
              intro k3 av2 hk15 h_a0 h_a15 hf15
              have hf15 : av2 = lpF b_X9_frame_76 3 0 av1 := hf15
              refine aw_iload_n X (pc := 76) 0 rfl rfl dX9_frame_76 ?_
              refine aw_iconst X (pc := 77) (v := 3) dX9_frame_77 (by decide) ?_
              refine aw_icmp_ge X (pc := 78) (tgt := 97) (by decide) dX9_frame_78 (fun c20 => ?_) (fun c20 => absurd (nn_le (a := 3) (b := k3) rfl rfl (by omega) (by omega)) c20)
              refine aw_iconst X (pc := 97) (v := 0) dX9_frame_97 (by decide) ?_
              refine aw_istore_n X (pc := 98) (lv' := [(2, .int 0), (0, .ref (q 0)), (1, .int len)]) rfl (by decide) rfl dX9_frame_98 ?_
              refine aw_iconst X (pc := 99) (v := 0) dX9_frame_99 (by decide) ?_
              refine aw_istore_n X (pc := 100) (lv' := [(3, .int 0), (2, .int 0), (0, .ref (q 0)), (1, .int len)]) rfl (by decide) rfl dX9_frame_100 ?_
              have L21 : ∀ (n21 s_ : Nat) (nf : Int32) (av3 : Nat → Int32) (sv3 : Nat → Int32) (lo3 : Int32), s_ + n21 = len.toNatClampNeg → av3 0 = nI n → av3 15 = nI (av3 15).toNatClampNeg → (av3 15).toNatClampNeg ≤ 200 → lpF (b_X9_frame_101 n dv) n21 s_ (nf, av3, sv3, lo3) = lpF (b_X9_frame_101 n dv) len.toNatClampNeg 0 (0, av2, sp, lone) → AW p l e rm_X9_frame s m args below meth c D A 5 0 0 Q 101 [(3, .int (nI s_)), (2, .int nf), (0, .ref (q 0)), (1, .int len)] [] (mW q kc av3 w hs inn sv3 lo3 lt lz dv) := by
                intro n21; induction n21 with
                | zero =>
                  intro s_ nf av3 sv3 lo3 hk21 h_a0 h_a15 h_b15 hf21
                  have hf21 : (nf, av3, sv3, lo3) = lpF (b_X9_frame_101 n dv) len.toNatClampNeg 0 (0, av2, sp, lone) := hf21
                  refine aw_iload_n X (pc := 101) 0 rfl rfl dX9_frame_101 ?_
                  refine aw_iload_n X (pc := 102) 3 rfl rfl dX9_frame_102 ?_
                  refine aw_icmp_ge X (pc := 103) (tgt := 213) (by decide) dX9_frame_103 (fun c45 => ?_) (fun c45 => absurd (nn_le (a := len.toNatClampNeg) (b := s_) hle1 rfl (by omega) (by omega)) c45)
                  refine aw_sipush X (pc := 213) (v := 239) dX9_frame_213 (by decide) ?_
                  refine aw_aload_n X (pc := 216) 2 rfl rfl dX9_frame_216 ?_
                  refine aw_get X (pc := 217) iX9 0 0 rfl rfl (by decide) fl_X9_7 rfl dX9_frame_217 ?_
                  refine aw_bipush X (pc := 220) (v := 9) dX9_frame_220 (by decide) ?_
                  refine aw_iald X (pc := 222) 1 0 9 rfl rfl rfl (by decide) (by omega) dX9_frame_222 ?_
                  refine aw_imul X (pc := 223) (z := 239 * (av3 9)) rfl  dX9_frame_223 ?_
                  refine aw_bipush X (pc := 224) (v := 100) dX9_frame_224 (by decide) ?_
                  refine aw_idiv X (pc := 226) (z := (239 * (av3 9)) / 100) rfl (by decide) dX9_frame_226 ?_
                  refine aw_istore_n X (pc := 227) (lv' := [(3, .int ((239 * (av3 9)) / 100)), (2, .int nf), (0, .ref (q 0)), (1, .int len)]) rfl (by decide) rfl dX9_frame_227 ?_
                  refine aw_aload_n X (pc := 228) 2 rfl rfl dX9_frame_228 ?_
                  refine aw_get X (pc := 229) iX9 0 0 rfl rfl (by decide) fl_X9_7 rfl dX9_frame_229 ?_
                  refine aw_bipush X (pc := 232) (v := 10) dX9_frame_232 (by decide) ?_
                  refine aw_iload_n X (pc := 234) 0 rfl rfl dX9_frame_234 ?_
                  refine aw_iconst X (pc := 235) (v := 1) dX9_frame_235 (by decide) ?_
                  refine aw_icmp_ge X (pc := 236) (tgt := 243) (by decide) dX9_frame_236 (fun c46 => ?_) (fun c46 => ?_)
                  · refine aw_iload_n X (pc := 243) 0 rfl rfl dX9_frame_243 ?_
                    refine aw_bipush X (pc := 244) (v := 64) dX9_frame_244 (by decide) ?_
                    refine aw_icmp_le X (pc := 246) (tgt := 254) (by decide) dX9_frame_246 (fun c47 => ?_) (fun c47 => ?_)
                    · refine aw_iload_n X (pc := 254) 0 rfl rfl dX9_frame_254 ?_
                      refine aw_iast X (pc := 255) 1 0 (ws' := (mW q kc (upd av3 10 ((239 * (av3 9)) / 100)) w hs inn sv3 lo3 lt lz dv)) 10 rfl  rfl rfl (by decide) (by omega) rfl dX9_frame_255 ?_
                      have ha48 : (upd av3 10 ((239 * (av3 9)) / 100)) 0 = nI n := by rw [pk_un (by omega)]; exact h_a0
                      have ha49 : (upd av3 10 ((239 * (av3 9)) / 100)) 15 = nI ((av3 15).toNatClampNeg) := by rw [pk_un (by omega)]; exact h_a15
                      refine aw_iload_n X (pc := 256) 1 rfl rfl dX9_frame_256 ?_
                      exact aw_iret X (v := nf) hQ (by simp only [r_X9_frame, if_neg c1, if_pos c2, if_pos c46, if_pos c47, ← hf3, ← hf15, ← hf21]; try rfl) (by simp only [u_X9_frame_a, u_X9_frame_sp, u_X9_frame_lone, u_X9_frame_dr, if_neg c1, if_pos c2, if_pos c46, if_pos c47, ← hf3, ← hf15, ← hf21]) dX9_frame_257
                    · refine aw_bipush X (pc := 249) (v := 64) dX9_frame_249 (by decide) ?_
                      refine aw_goto X (pc := 251) (tgt := 255) (by decide) dX9_frame_251 ?_
                      refine aw_iast X (pc := 255) 1 0 (ws' := (mW q kc (upd av3 10 64) w hs inn sv3 lo3 lt lz dv)) 10 rfl  rfl rfl (by decide) (by omega) rfl dX9_frame_255 ?_
                      have ha50 : (upd av3 10 64) 0 = nI n := by rw [pk_un (by omega)]; exact h_a0
                      have ha51 : (upd av3 10 64) 15 = nI ((av3 15).toNatClampNeg) := by rw [pk_un (by omega)]; exact h_a15
                      refine aw_iload_n X (pc := 256) 1 rfl rfl dX9_frame_256 ?_
                      exact aw_iret X (v := nf) hQ (by simp only [r_X9_frame, if_neg c1, if_pos c2, if_pos c46, if_neg c47, ← hf3, ← hf15, ← hf21]; try rfl) (by simp only [u_X9_frame_a, u_X9_frame_sp, u_X9_frame_lone, u_X9_frame_dr, if_neg c1, if_pos c2, if_pos c46, if_neg c47, ← hf3, ← hf15, ← hf21]) dX9_frame_257
                  · refine aw_iconst X (pc := 239) (v := 1) dX9_frame_239 (by decide) ?_
                    refine aw_goto X (pc := 240) (tgt := 255) (by decide) dX9_frame_240 ?_
                    refine aw_iast X (pc := 255) 1 0 (ws' := (mW q kc (upd av3 10 1) w hs inn sv3 lo3 lt lz dv)) 10 rfl  rfl rfl (by decide) (by omega) rfl dX9_frame_255 ?_
                    have ha52 : (upd av3 10 1) 0 = nI n := by rw [pk_un (by omega)]; exact h_a0
                    have ha53 : (upd av3 10 1) 15 = nI ((av3 15).toNatClampNeg) := by rw [pk_un (by omega)]; exact h_a15
                    refine aw_iload_n X (pc := 256) 1 rfl rfl dX9_frame_256 ?_
                    exact aw_iret X (v := nf) hQ (by simp only [r_X9_frame, if_neg c1, if_pos c2, if_neg c46, ← hf3, ← hf15, ← hf21]; try rfl) (by simp only [u_X9_frame_a, u_X9_frame_sp, u_X9_frame_lone, u_X9_frame_dr, if_neg c1, if_pos c2, if_neg c46, ← hf3, ← hf15, ← hf21]) dX9_frame_257
                | succ n21 ih21 =>
                  intro s_ nf av3 sv3 lo3 hk21 h_a0 h_a15 h_b15 hf21
                  have hf21 : lpF (b_X9_frame_101 n dv) n21 (s_ + 1) (b_X9_frame_101 n dv s_ (nf, av3, sv3, lo3)) = lpF (b_X9_frame_101 n dv) len.toNatClampNeg 0 (0, av2, sp, lone) := hf21
                  refine aw_iload_n X (pc := 101) 0 rfl rfl dX9_frame_101 ?_
                  refine aw_iload_n X (pc := 102) 3 rfl rfl dX9_frame_102 ?_
                  refine aw_icmp_ge X (pc := 103) (tgt := 213) (by decide) dX9_frame_103 (fun c22 => absurd c22 (nn_nle (a := len.toNatClampNeg) (b := s_) hle1 rfl (by omega) (by omega))) (fun c22 => ?_)
                  refine aw_iconst X (pc := 106) (v := 0) dX9_frame_106 (by decide) ?_
                  refine aw_istore X (pc := 107) (lv' := [(4, .int 0), (3, .int (nI s_)), (2, .int nf), (0, .ref (q 0)), (1, .int len)]) (by decide) rfl dX9_frame_107 ?_
                  have L23 : ∀ (n23 k4 : Nat) (sv4 : Nat → Int32), k4 + n23 = n → lpF (b_X9_frame_109 dv s_) n23 k4 sv4 = lpF (b_X9_frame_109 dv s_) n 0 sv3 → AW p l e rm_X9_frame s m args below meth c D A 5 0 0 Q 109 [(4, .int (nI k4)), (3, .int (nI s_)), (2, .int nf), (0, .ref (q 0)), (1, .int len)] [] (mW q kc av3 w hs inn sv4 lo3 lt lz dv) := by
                    intro n23; induction n23 with
                    | zero =>
                      intro k4 sv4 hk23  hf23
                      have hf23 : sv4 = lpF (b_X9_frame_109 dv s_) n 0 sv3 := hf23
                      refine aw_iload X (pc := 109) 0 rfl dX9_frame_109 ?_
                      refine aw_aload_n X (pc := 111) 3 rfl rfl dX9_frame_111 ?_
                      refine aw_get X (pc := 112) iX9 0 0 rfl rfl (by decide) fl_X9_7 rfl dX9_frame_112 ?_
                      refine aw_iconst X (pc := 115) (v := 0) dX9_frame_115 (by decide) ?_
                      refine aw_iald X (pc := 116) 1 0 0 rfl rfl rfl (by decide) (by omega) dX9_frame_116 ?_
                      refine aw_icmp_ge X (pc := 117) (tgt := 149) (by decide) dX9_frame_117 (fun c28 => ?_) (fun c28 => absurd (nn_le (a := n) (b := k4) h_a0 rfl (by omega) (by omega)) c28)
                      refine aw_aload_n X (pc := 149) 3 rfl rfl dX9_frame_149 ?_
                      refine aw_callVF X (pc := 150) (q1 := 0) (rest := []) (st' := [.int (nI (r_X9_counted av3 sv4 n))]) (c_X9_counted l D q kc av3 w hs inn sv4 lo3 lt lz dv n h_a0 (by omega)) rfl rfl ⟨_, _, rfl⟩ rfl cf_X9_101 cd_X9_counted dd_X9_counted (by decide) (by decide) (by decide) rfl (Nat.le_of_ble_eq_true rfl) dX9_frame_150 rfl ?_
                      have hs29 : r_X9_counted av3 sv4 n ≤ 2 := le_X9_slot ..
                      have ha30 : (u_X9_counted_a av3 sv4 n) 0 = nI n := (fr_X9_counted (by omega)).trans h_a0
                      have ha31 : (u_X9_counted_a av3 sv4 n) 15 = nI ((av3 15).toNatClampNeg) := (fr_X9_counted (by omega)).trans h_a15
                      refine aw_istore X (pc := 153) (lv' := [(4, .int (nI (r_X9_counted av3 sv4 n))), (3, .int (nI s_)), (2, .int nf), (0, .ref (q 0)), (1, .int len)]) (by decide) rfl dX9_frame_153 ?_
                      refine aw_aload_n X (pc := 155) 3 rfl rfl dX9_frame_155 ?_
                      refine aw_get X (pc := 156) iX9 0 0 rfl rfl (by decide) fl_X9_7 rfl dX9_frame_156 ?_
                      refine aw_bipush X (pc := 159) (v := 7) dX9_frame_159 (by decide) ?_
                      refine aw_iload X (pc := 161) 0 rfl dX9_frame_161 ?_
                      refine aw_iadd X (pc := 163) (z := nI (7 + r_X9_counted av3 sv4 n)) (nn_add (a := 7) (b := r_X9_counted av3 sv4 n) rfl rfl (by first | rfl | omega))  dX9_frame_163 ?_
                      refine aw_dup2_11 X (pc := 164) dX9_frame_164 rfl rfl ?_
                      refine aw_iald X (pc := 165) 1 0 (7 + r_X9_counted av3 sv4 n) rfl rfl rfl (by decide) (by omega) dX9_frame_165 ?_
                      refine aw_iconst X (pc := 166) (v := 1) dX9_frame_166 (by decide) ?_
                      refine aw_iadd X (pc := 167) (z := ((u_X9_counted_a av3 sv4 n) (7 + r_X9_counted av3 sv4 n)) + 1) rfl  dX9_frame_167 ?_
                      refine aw_iast X (pc := 168) 1 0 (ws' := (mW q kc (upd (u_X9_counted_a av3 sv4 n) (7 + r_X9_counted av3 sv4 n) (((u_X9_counted_a av3 sv4 n) (7 + r_X9_counted av3 sv4 n)) + 1)) w hs inn sv4 (u_X9_slot_lone av3 sv4 n) lt lz dv)) (7 + r_X9_counted av3 sv4 n) rfl  rfl rfl (by decide) (by omega) rfl dX9_frame_168 ?_
                      have ha32 : (upd (u_X9_counted_a av3 sv4 n) (7 + r_X9_counted av3 sv4 n) (((u_X9_counted_a av3 sv4 n) (7 + r_X9_counted av3 sv4 n)) + 1)) 0 = nI n := by rw [pk_un (by omega)]; exact ha30
                      have ha33 : (upd (u_X9_counted_a av3 sv4 n) (7 + r_X9_counted av3 sv4 n) (((u_X9_counted_a av3 sv4 n) (7 + r_X9_counted av3 sv4 n)) + 1)) 15 = nI ((av3 15).toNatClampNeg) := by rw [pk_un (by omega)]; exact ha31
                      refine aw_iload X (pc := 169) 0 rfl dX9_frame_169 ?_
                      refine aw_iconst X (pc := 171) (v := 1) dX9_frame_171 (by decide) ?_
                      refine aw_icmp_eq X (pc := 172) (tgt := 178) (by decide) dX9_frame_172 (fun c34 => ?_) (fun c34 => ?_)
                      · obtain ⟨hl35, hm36⟩ := slot_lone_nat (n := n) (by omega) (show nI (r_X9_slot _ _ n) = 1 from c34)
                        have hl35 : u_X9_slot_lone av3 sv4 n = nI (u_X9_slot_lone av3 sv4 n).toNatClampNeg := hl35
                        have hm36 : (u_X9_slot_lone av3 sv4 n).toNatClampNeg < n := hm36
                        refine aw_aload_n X (pc := 178) 3 rfl rfl dX9_frame_178 ?_
                        refine aw_aload_n X (pc := 179) 3 rfl rfl dX9_frame_179 ?_
                        refine aw_get X (pc := 180) iX9 0 5 rfl rfl (by decide) fl_X9_86 rfl dX9_frame_180 ?_
                        refine aw_callVF X (pc := 183) (q1 := 0) (rest := []) (st' := []) (c_X9_finds l D q kc (upd (u_X9_counted_a av3 sv4 n) (7 + r_X9_counted av3 sv4 n) (((u_X9_counted_a av3 sv4 n) (7 + r_X9_counted av3 sv4 n)) + 1)) w hs inn sv4 (u_X9_slot_lone av3 sv4 n) lt lz dv ((av3 15).toNatClampNeg) (u_X9_slot_lone av3 sv4 n) ha33 (by omega)) rfl rfl ⟨_, _, rfl⟩ rfl cf_X9_82 cd_X9_finds dd_X9_finds (by decide) (by decide) (by decide) rfl (Nat.le_of_ble_eq_true rfl) dX9_frame_183 rfl ?_
                        have ha37 : (u_X9_finds_a (upd (u_X9_counted_a av3 sv4 n) (7 + r_X9_counted av3 sv4 n) (((u_X9_counted_a av3 sv4 n) (7 + r_X9_counted av3 sv4 n)) + 1)) ((av3 15).toNatClampNeg) (u_X9_slot_lone av3 sv4 n)) 0 = nI n := (fr_X9_finds (by omega)).trans ha32
                        have ha38 : (u_X9_finds_a (upd (u_X9_counted_a av3 sv4 n) (7 + r_X9_counted av3 sv4 n) (((u_X9_counted_a av3 sv4 n) (7 + r_X9_counted av3 sv4 n)) + 1)) ((av3 15).toNatClampNeg) (u_X9_slot_lone av3 sv4 n)) 15 = nI (fN ((av3 15).toNatClampNeg)) := fin_15 ha33 (by omega)
                        have ha38b : fN ((av3 15).toNatClampNeg) ≤ 200 := fN_le (by omega)
                        refine aw_aload_n X (pc := 186) 3 rfl rfl dX9_frame_186 ?_
                        refine aw_aload_n X (pc := 187) 3 rfl rfl dX9_frame_187 ?_
                        refine aw_get X (pc := 188) iX9 0 5 rfl rfl (by decide) fl_X9_86 rfl dX9_frame_188 ?_
                        refine aw_iconst X (pc := 191) (v := 5) dX9_frame_191 (by decide) ?_
                        refine aw_iconst X (pc := 192) (v := 1) dX9_frame_192 (by decide) ?_
                        refine aw_callVF X (pc := 193) (q1 := 0) (rest := []) (st' := []) (c_X9_sets l D q kc (u_X9_finds_a (upd (u_X9_counted_a av3 sv4 n) (7 + r_X9_counted av3 sv4 n) (((u_X9_counted_a av3 sv4 n) (7 + r_X9_counted av3 sv4 n)) + 1)) ((av3 15).toNatClampNeg) (u_X9_slot_lone av3 sv4 n)) w hs inn sv4 (u_X9_slot_lone av3 sv4 n) lt lz dv (u_X9_slot_lone av3 sv4 n) 5 ((u_X9_slot_lone av3 sv4 n).toNatClampNeg) 5 1 hl35 rfl (by omega)) rfl rfl ⟨_, _, rfl⟩ rfl cf_X9_52 cd_X9_sets dd_X9_sets (by decide) (by decide) (by decide) rfl (Nat.le_of_ble_eq_true rfl) dX9_frame_193 rfl ?_
                        have ha39 : (upd (u_X9_finds_a (upd (u_X9_counted_a av3 sv4 n) (7 + r_X9_counted av3 sv4 n) (((u_X9_counted_a av3 sv4 n) (7 + r_X9_counted av3 sv4 n)) + 1)) ((av3 15).toNatClampNeg) (u_X9_slot_lone av3 sv4 n)) (300 + 6 * ((u_X9_slot_lone av3 sv4 n).toNatClampNeg) + 5) 1) 0 = nI n := by rw [pk_un (by omega)]; exact ha37
                        have ha40 : (upd (u_X9_finds_a (upd (u_X9_counted_a av3 sv4 n) (7 + r_X9_counted av3 sv4 n) (((u_X9_counted_a av3 sv4 n) (7 + r_X9_counted av3 sv4 n)) + 1)) ((av3 15).toNatClampNeg) (u_X9_slot_lone av3 sv4 n)) (300 + 6 * ((u_X9_slot_lone av3 sv4 n).toNatClampNeg) + 5) 1) 15 = nI (fN ((av3 15).toNatClampNeg)) := by rw [pk_un (by omega)]; exact ha38
                        refine aw_aload_n X (pc := 196) 3 rfl rfl dX9_frame_196 ?_
                        refine aw_aload_n X (pc := 197) 3 rfl rfl dX9_frame_197 ?_
                        refine aw_get X (pc := 198) iX9 0 5 rfl rfl (by decide) fl_X9_86 rfl dX9_frame_198 ?_
                        refine aw_callVF X (pc := 201) (q1 := 0) (rest := []) (st' := []) (c_X9_sleeps l D q kc (upd (u_X9_finds_a (upd (u_X9_counted_a av3 sv4 n) (7 + r_X9_counted av3 sv4 n) (((u_X9_counted_a av3 sv4 n) (7 + r_X9_counted av3 sv4 n)) + 1)) ((av3 15).toNatClampNeg) (u_X9_slot_lone av3 sv4 n)) (300 + 6 * ((u_X9_slot_lone av3 sv4 n).toNatClampNeg) + 5) 1) w hs inn sv4 (u_X9_slot_lone av3 sv4 n) lt lz dv (u_X9_slot_lone av3 sv4 n) ((u_X9_slot_lone av3 sv4 n).toNatClampNeg) hl35 (by omega)) rfl rfl ⟨_, _, rfl⟩ rfl cf_X9_114 cd_X9_sleeps dd_X9_sleeps (by decide) (by decide) (by decide) rfl (Nat.le_of_ble_eq_true rfl) dX9_frame_201 rfl ?_
                        have ha41 : (u_X9_sleeps_a (upd (u_X9_finds_a (upd (u_X9_counted_a av3 sv4 n) (7 + r_X9_counted av3 sv4 n) (((u_X9_counted_a av3 sv4 n) (7 + r_X9_counted av3 sv4 n)) + 1)) ((av3 15).toNatClampNeg) (u_X9_slot_lone av3 sv4 n)) (300 + 6 * ((u_X9_slot_lone av3 sv4 n).toNatClampNeg) + 5) 1) ((u_X9_slot_lone av3 sv4 n).toNatClampNeg)) 0 = nI n := (fr_X9_sleeps (by omega)).trans ha39
                        have ha42 : (u_X9_sleeps_a (upd (u_X9_finds_a (upd (u_X9_counted_a av3 sv4 n) (7 + r_X9_counted av3 sv4 n) (((u_X9_counted_a av3 sv4 n) (7 + r_X9_counted av3 sv4 n)) + 1)) ((av3 15).toNatClampNeg) (u_X9_slot_lone av3 sv4 n)) (300 + 6 * ((u_X9_slot_lone av3 sv4 n).toNatClampNeg) + 5) 1) ((u_X9_slot_lone av3 sv4 n).toNatClampNeg)) 15 = nI (fN ((av3 15).toNatClampNeg)) := (fr_X9_sleeps (by omega)).trans ha40
                        refine aw_iinc X (pc := 204) (kx := 2) (v := nf + 1) (lv' := [(2, .int (nf + 1)), (4, .int (nI (r_X9_counted av3 sv4 n))), (3, .int (nI s_)), (0, .ref (q 0)), (1, .int len)]) rfl rfl (by decide) rfl dX9_frame_204 ?_
                        refine aw_iinc X (pc := 207) (kx := 2) (v := nI (s_ + 1)) (lv' := [(3, .int (nI (s_ + 1))), (2, .int (nf + 1)), (4, .int (nI (r_X9_counted av3 sv4 n))), (0, .ref (q 0)), (1, .int len)]) rfl (nn_add (a := s_) (b := 1) rfl rfl rfl) (by decide) rfl dX9_frame_207 ?_
                        refine aw_goto X (pc := 210) (tgt := 101) (by decide) dX9_frame_210 ?_
                        have e43 : b_X9_frame_101 n dv s_ (nf, av3, sv3, lo3) = (nf + 1, u_X9_sleeps_a (upd (u_X9_finds_a (upd (u_X9_counted_a av3 sv4 n) (7 + r_X9_counted av3 sv4 n) (((u_X9_counted_a av3 sv4 n) (7 + r_X9_counted av3 sv4 n)) + 1)) ((av3 15).toNatClampNeg) (u_X9_slot_lone av3 sv4 n)) (300 + 6 * ((u_X9_slot_lone av3 sv4 n).toNatClampNeg) + 5) 1) ((u_X9_slot_lone av3 sv4 n).toNatClampNeg), sv4, u_X9_slot_lone av3 sv4 n) := by simp only [b_X9_frame_101, if_pos c34, ← hf23]
                        exact aw_sub (lv' := [(3, .int (nI (s_ + 1))), (2, .int (nf + 1)), (0, .ref (q 0)), (1, .int len)]) [0, 1, 3, 4] rfl (ih21 (s_ + 1) (nf + 1) (u_X9_sleeps_a (upd (u_X9_finds_a (upd (u_X9_counted_a av3 sv4 n) (7 + r_X9_counted av3 sv4 n) (((u_X9_counted_a av3 sv4 n) (7 + r_X9_counted av3 sv4 n)) + 1)) ((av3 15).toNatClampNeg) (u_X9_slot_lone av3 sv4 n)) (300 + 6 * ((u_X9_slot_lone av3 sv4 n).toNatClampNeg) + 5) 1) ((u_X9_slot_lone av3 sv4 n).toNatClampNeg)) sv4 (u_X9_slot_lone av3 sv4 n) (by omega) (ha41) ((cl_of ha42 (b := 200) (by omega) (by decide)).1) ((cl_of ha42 (b := 200) (by omega) (by decide)).2) (by rw [← e43]; exact hf21))
                      · refine aw_goto X (pc := 175) (tgt := 207) (by decide) dX9_frame_175 ?_
                        refine aw_iinc X (pc := 207) (kx := 1) (v := nI (s_ + 1)) (lv' := [(3, .int (nI (s_ + 1))), (4, .int (nI (r_X9_counted av3 sv4 n))), (2, .int nf), (0, .ref (q 0)), (1, .int len)]) rfl (nn_add (a := s_) (b := 1) rfl rfl rfl) (by decide) rfl dX9_frame_207 ?_
                        refine aw_goto X (pc := 210) (tgt := 101) (by decide) dX9_frame_210 ?_
                        have e44 : b_X9_frame_101 n dv s_ (nf, av3, sv3, lo3) = (nf, upd (u_X9_counted_a av3 sv4 n) (7 + r_X9_counted av3 sv4 n) (((u_X9_counted_a av3 sv4 n) (7 + r_X9_counted av3 sv4 n)) + 1), sv4, u_X9_slot_lone av3 sv4 n) := by simp only [b_X9_frame_101, if_neg c34, ← hf23]
                        exact aw_sub (lv' := [(3, .int (nI (s_ + 1))), (2, .int nf), (0, .ref (q 0)), (1, .int len)]) [0, 2, 3, 4] rfl (ih21 (s_ + 1) nf (upd (u_X9_counted_a av3 sv4 n) (7 + r_X9_counted av3 sv4 n) (((u_X9_counted_a av3 sv4 n) (7 + r_X9_counted av3 sv4 n)) + 1)) sv4 (u_X9_slot_lone av3 sv4 n) (by omega) (ha32) ((cl_of ha33 (b := 200) (by omega) (by decide)).1) ((cl_of ha33 (b := 200) (by omega) (by decide)).2) (by rw [← e44]; exact hf21))
                    | succ n23 ih23 =>
                      intro k4 sv4 hk23  hf23
                      have hf23 : lpF (b_X9_frame_109 dv s_) n23 (k4 + 1) (b_X9_frame_109 dv s_ k4 sv4) = lpF (b_X9_frame_109 dv s_) n 0 sv3 := hf23
                      refine aw_iload X (pc := 109) 0 rfl dX9_frame_109 ?_
                      refine aw_aload_n X (pc := 111) 3 rfl rfl dX9_frame_111 ?_
                      refine aw_get X (pc := 112) iX9 0 0 rfl rfl (by decide) fl_X9_7 rfl dX9_frame_112 ?_
                      refine aw_iconst X (pc := 115) (v := 0) dX9_frame_115 (by decide) ?_
                      refine aw_iald X (pc := 116) 1 0 0 rfl rfl rfl (by decide) (by omega) dX9_frame_116 ?_
                      refine aw_icmp_ge X (pc := 117) (tgt := 149) (by decide) dX9_frame_117 (fun c24 => absurd c24 (nn_nle (a := n) (b := k4) h_a0 rfl (by omega) (by omega))) (fun c24 => ?_)
                      refine aw_aload_n X (pc := 120) 3 rfl rfl dX9_frame_120 ?_
                      refine aw_get X (pc := 121) iX9 0 4 rfl rfl (by decide) fl_X9_24 rfl dX9_frame_121 ?_
                      refine aw_iload X (pc := 124) 0 rfl dX9_frame_124 ?_
                      refine aw_aload_n X (pc := 126) 3 rfl rfl dX9_frame_126 ?_
                      refine aw_get X (pc := 127) iX9 0 8 rfl rfl (by decide) fl_X9_33 rfl dX9_frame_127 ?_
                      refine aw_iload X (pc := 130) 0 rfl dX9_frame_130 ?_
                      refine aw_iald X (pc := 132) 8 7 k4 rfl rfl rfl (by decide) (by omega) dX9_frame_132 ?_
                      refine aw_iload_n X (pc := 133) 1 rfl rfl dX9_frame_133 ?_
                      refine aw_icmp_ne X (pc := 134) (tgt := 141) (by decide) dX9_frame_134 (fun c25 => ?_) (fun c25 => ?_)
                      · refine aw_iconst X (pc := 141) (v := 0) dX9_frame_141 (by decide) ?_
                        refine aw_zast X (pc := 142) 5 4 (ws' := (mW q kc av3 w hs inn (upd sv4 k4 0) lo3 lt lz dv)) k4 rfl (by decide) rfl rfl (by decide) (by omega) rfl dX9_frame_142 ?_
                        refine aw_iinc X (pc := 143) (kx := 0) (v := nI (k4 + 1)) (lv' := [(4, .int (nI (k4 + 1))), (3, .int (nI s_)), (2, .int nf), (0, .ref (q 0)), (1, .int len)]) rfl (nn_add (a := k4) (b := 1) rfl rfl rfl) (by decide) rfl dX9_frame_143 ?_
                        refine aw_goto X (pc := 146) (tgt := 109) (by decide) dX9_frame_146 ?_
                        have e26 : b_X9_frame_109 dv s_ k4 sv4 = (upd sv4 k4 0) := by simp only [b_X9_frame_109, if_neg c25]
                        exact aw_sub (lv' := [(4, .int (nI (k4 + 1))), (3, .int (nI s_)), (2, .int nf), (0, .ref (q 0)), (1, .int len)]) [0, 1, 2, 3, 4] rfl (ih23 (k4 + 1) (upd sv4 k4 0) (by omega)  (by rw [← e26]; exact hf23))
                      · refine aw_iconst X (pc := 137) (v := 1) dX9_frame_137 (by decide) ?_
                        refine aw_goto X (pc := 138) (tgt := 142) (by decide) dX9_frame_138 ?_
                        refine aw_zast X (pc := 142) 5 4 (ws' := (mW q kc av3 w hs inn (upd sv4 k4 1) lo3 lt lz dv)) k4 rfl (by decide) rfl rfl (by decide) (by omega) rfl dX9_frame_142 ?_
                        refine aw_iinc X (pc := 143) (kx := 0) (v := nI (k4 + 1)) (lv' := [(4, .int (nI (k4 + 1))), (3, .int (nI s_)), (2, .int nf), (0, .ref (q 0)), (1, .int len)]) rfl (nn_add (a := k4) (b := 1) rfl rfl rfl) (by decide) rfl dX9_frame_143 ?_
                        refine aw_goto X (pc := 146) (tgt := 109) (by decide) dX9_frame_146 ?_
                        have e27 : b_X9_frame_109 dv s_ k4 sv4 = (upd sv4 k4 1) := by simp only [b_X9_frame_109, if_pos c25]
                        exact aw_sub (lv' := [(4, .int (nI (k4 + 1))), (3, .int (nI s_)), (2, .int nf), (0, .ref (q 0)), (1, .int len)]) [0, 1, 2, 3, 4] rfl (ih23 (k4 + 1) (upd sv4 k4 1) (by omega)  (by rw [← e27]; exact hf23))
                  exact aw_sub (lv' := [(4, .int 0), (3, .int (nI s_)), (2, .int nf), (0, .ref (q 0)), (1, .int len)]) [0, 1, 2, 3, 4] rfl (L23 n 0 sv3 (by omega)  rfl)
              exact aw_sub (lv' := [(3, .int 0), (2, .int 0), (0, .ref (q 0)), (1, .int len)]) [0, 1, 2, 3] rfl (L21 len.toNatClampNeg 0 0 av2 sp lone (by omega) (h_a0) ((cl_of h_a15 (b := 200) (by omega) (by decide)).1) ((cl_of h_a15 (b := 200) (by omega) (by decide)).2) rfl)
            | succ n15 ih15 =>
              intro k3 av2 hk15 h_a0 h_a15 hf15
              have hf15 : lpF (b_X9_frame_76) n15 (k3 + 1) (b_X9_frame_76 k3 av2) = lpF b_X9_frame_76 3 0 av1 := hf15
              refine aw_iload_n X (pc := 76) 0 rfl rfl dX9_frame_76 ?_
              refine aw_iconst X (pc := 77) (v := 3) dX9_frame_77 (by decide) ?_
              refine aw_icmp_ge X (pc := 78) (tgt := 97) (by decide) dX9_frame_78 (fun c16 => absurd c16 (nn_nle (a := 3) (b := k3) rfl rfl (by omega) (by omega))) (fun c16 => ?_)
              refine aw_aload_n X (pc := 81) 1 rfl rfl dX9_frame_81 ?_
              refine aw_get X (pc := 82) iX9 0 0 rfl rfl (by decide) fl_X9_7 rfl dX9_frame_82 ?_
              refine aw_bipush X (pc := 85) (v := 7) dX9_frame_85 (by decide) ?_
              refine aw_iload_n X (pc := 87) 0 rfl rfl dX9_frame_87 ?_
              refine aw_iadd X (pc := 88) (z := nI (7 + k3)) (nn_add (a := 7) (b := k3) rfl rfl (by first | rfl | omega))  dX9_frame_88 ?_
              refine aw_iconst X (pc := 89) (v := 0) dX9_frame_89 (by decide) ?_
              refine aw_iast X (pc := 90) 1 0 (ws' := (mW q kc (upd av2 (7 + k3) 0) w hs inn sp lone lt lz dv)) (7 + k3) rfl  rfl rfl (by decide) (by omega) rfl dX9_frame_90 ?_
              have ha17 : (upd av2 (7 + k3) 0) 0 = nI n := by rw [pk_un (by omega)]; exact h_a0
              have ha18 : (upd av2 (7 + k3) 0) 15 = nI f := by rw [pk_un (by omega)]; exact h_a15
              refine aw_iinc X (pc := 91) (kx := 0) (v := nI (k3 + 1)) (lv' := [(2, .int (nI (k3 + 1))), (0, .ref (q 0)), (1, .int len)]) rfl (nn_add (a := k3) (b := 1) rfl rfl rfl) (by decide) rfl dX9_frame_91 ?_
              refine aw_goto X (pc := 94) (tgt := 76) (by decide) dX9_frame_94 ?_
              have e19 : b_X9_frame_76 k3 av2 = (upd av2 (7 + k3) 0) := by first | rfl | simp only [b_X9_frame_76]
              exact aw_sub (lv' := [(2, .int (nI (k3 + 1))), (0, .ref (q 0)), (1, .int len)]) [0, 1, 2] rfl (ih15 (k3 + 1) (upd av2 (7 + k3) 0) (by omega) (ha17) (ha18) (by rw [← e19]; exact hf15))
          exact aw_sub (lv' := [(2, .int 0), (0, .ref (q 0)), (1, .int len)]) [0, 1, 2] rfl (L15 3 0 av1 (by omega) (h_a0) (h_a15) rfl)
        | succ n3 ih3 =>
          intro k av1 dv hk3 h_a0 h_a15 hf3
          have hf3 : lpF (b_X9_frame_15 w len) n3 (k + 1) (b_X9_frame_15 w len k (av1, dv)) = lpF (b_X9_frame_15 w len) n 0 (a, dr) := hf3
          refine aw_iload_n X (pc := 15) 0 rfl rfl dX9_frame_15 ?_
          refine aw_aload_n X (pc := 16) 1 rfl rfl dX9_frame_16 ?_
          refine aw_get X (pc := 17) iX9 0 0 rfl rfl (by decide) fl_X9_7 rfl dX9_frame_17 ?_
          refine aw_iconst X (pc := 20) (v := 0) dX9_frame_20 (by decide) ?_
          refine aw_iald X (pc := 21) 1 0 0 rfl rfl rfl (by decide) (by omega) dX9_frame_21 ?_
          refine aw_icmp_ge X (pc := 22) (tgt := 74) (by decide) dX9_frame_22 (fun c4 => absurd c4 (nn_nle (a := n) (b := k) h_a0 rfl (by omega) (by omega))) (fun c4 => ?_)
          refine aw_aload_n X (pc := 25) 1 rfl rfl dX9_frame_25 ?_
          refine aw_get X (pc := 26) iX9 0 8 rfl rfl (by decide) fl_X9_33 rfl dX9_frame_26 ?_
          refine aw_iload_n X (pc := 29) 0 rfl rfl dX9_frame_29 ?_
          refine aw_aload_n X (pc := 30) 1 rfl rfl dX9_frame_30 ?_
          refine aw_iload_n X (pc := 31) 0 rfl rfl dX9_frame_31 ?_
          refine aw_iconst X (pc := 32) (v := 0) dX9_frame_32 (by decide) ?_
          refine aw_callVF X (pc := 33) (q1 := 0) (rest := [.int (nI k), .ref (q 8)]) (st' := [.int (av1 (300 + 6 * k + 0)), .int (nI k), .ref (q 8)]) (c_X9_of l D q kc av1 w hs inn sp lone lt lz dv (nI k) 0 k 0 rfl rfl (by omega)) rfl rfl ⟨_, _, rfl⟩ rfl cf_X9_44 cd_X9_of dd_X9_of (by decide) (by decide) (by decide) rfl (Nat.le_of_ble_eq_true rfl) dX9_frame_33 rfl ?_
          refine aw_iconst X (pc := 36) (v := 2) dX9_frame_36 (by decide) ?_
          refine aw_icmp_lt X (pc := 37) (tgt := 66) (by decide) dX9_frame_37 (fun c5 => ?_) (fun c5 => ?_)
          · refine aw_iconst X (pc := 66) (v := (-1)) dX9_frame_66 (by decide) ?_
            refine aw_iast X (pc := 67) 8 7 (ws' := (mW q kc av1 w hs inn sp lone lt lz (upd dv k (-1)))) k rfl  rfl rfl (by decide) (by omega) rfl dX9_frame_67 ?_
            refine aw_iinc X (pc := 68) (kx := 0) (v := nI (k + 1)) (lv' := [(2, .int (nI (k + 1))), (0, .ref (q 0)), (1, .int len)]) rfl (nn_add (a := k) (b := 1) rfl rfl rfl) (by decide) rfl dX9_frame_68 ?_
            refine aw_goto X (pc := 71) (tgt := 15) (by decide) dX9_frame_71 ?_
            have e6 : b_X9_frame_15 w len k (av1, dv) = (av1, upd dv k (-1)) := by simp only [b_X9_frame_15, if_pos c5]
            exact aw_sub (lv' := [(2, .int (nI (k + 1))), (0, .ref (q 0)), (1, .int len)]) [0, 1, 2] rfl (ih3 (k + 1) av1 (upd dv k (-1)) (by omega) (h_a0) (h_a15) (by rw [← e6]; exact hf3))
          · refine aw_aload_n X (pc := 40) 1 rfl rfl dX9_frame_40 ?_
            refine aw_iload_n X (pc := 41) 0 rfl rfl dX9_frame_41 ?_
            refine aw_iconst X (pc := 42) (v := 5) dX9_frame_42 (by decide) ?_
            refine aw_callVF X (pc := 43) (q1 := 0) (rest := [.int (nI k), .ref (q 8)]) (st' := [.int (av1 (300 + 6 * k + 5)), .int (nI k), .ref (q 8)]) (c_X9_of l D q kc av1 w hs inn sp lone lt lz dv (nI k) 5 k 5 rfl rfl (by omega)) rfl rfl ⟨_, _, rfl⟩ rfl cf_X9_44 cd_X9_of dd_X9_of (by decide) (by decide) (by decide) rfl (Nat.le_of_ble_eq_true rfl) dX9_frame_43 rfl ?_
            refine aw_if_ne X (pc := 46) (tgt := 66) (by decide) dX9_frame_46 (fun c7 => ?_) (fun c7 => ?_)
            · refine aw_iconst X (pc := 66) (v := (-1)) dX9_frame_66 (by decide) ?_
              refine aw_iast X (pc := 67) 8 7 (ws' := (mW q kc av1 w hs inn sp lone lt lz (upd dv k (-1)))) k rfl  rfl rfl (by decide) (by omega) rfl dX9_frame_67 ?_
              refine aw_iinc X (pc := 68) (kx := 0) (v := nI (k + 1)) (lv' := [(2, .int (nI (k + 1))), (0, .ref (q 0)), (1, .int len)]) rfl (nn_add (a := k) (b := 1) rfl rfl rfl) (by decide) rfl dX9_frame_68 ?_
              refine aw_goto X (pc := 71) (tgt := 15) (by decide) dX9_frame_71 ?_
              have e8 : b_X9_frame_15 w len k (av1, dv) = (av1, upd dv k (-1)) := by simp only [b_X9_frame_15, if_neg c5, if_neg c7]
              exact aw_sub (lv' := [(2, .int (nI (k + 1))), (0, .ref (q 0)), (1, .int len)]) [0, 1, 2] rfl (ih3 (k + 1) av1 (upd dv k (-1)) (by omega) (h_a0) (h_a15) (by rw [← e8]; exact hf3))
            · refine aw_aload_n X (pc := 49) 1 rfl rfl dX9_frame_49 ?_
              refine aw_iload_n X (pc := 50) 0 rfl rfl dX9_frame_50 ?_
              refine aw_callVF X (pc := 51) (q1 := 0) (rest := [.int (nI k), .ref (q 8)]) (st' := [.int (r_X9_listens av1 w k), .int (nI k), .ref (q 8)]) (c_X9_listens l D q kc av1 w hs inn sp lone lt lz dv (nI k) k rfl (by omega)) rfl rfl ⟨_, _, rfl⟩ rfl cf_X9_62 cd_X9_listens dd_X9_listens (by decide) (by decide) (by decide) rfl (Nat.le_of_ble_eq_true rfl) dX9_frame_51 rfl ?_
              refine aw_if_eq X (pc := 54) (tgt := 66) (by decide) dX9_frame_54 (fun c9 => ?_) (fun c9 => ?_)
              · refine aw_iconst X (pc := 66) (v := (-1)) dX9_frame_66 (by decide) ?_
                refine aw_iast X (pc := 67) 8 7 (ws' := (mW q kc av1 w hs inn sp lone lt lz (upd dv k (-1)))) k rfl  rfl rfl (by decide) (by omega) rfl dX9_frame_67 ?_
                refine aw_iinc X (pc := 68) (kx := 0) (v := nI (k + 1)) (lv' := [(2, .int (nI (k + 1))), (0, .ref (q 0)), (1, .int len)]) rfl (nn_add (a := k) (b := 1) rfl rfl rfl) (by decide) rfl dX9_frame_68 ?_
                refine aw_goto X (pc := 71) (tgt := 15) (by decide) dX9_frame_71 ?_
                have e10 : b_X9_frame_15 w len k (av1, dv) = (av1, upd dv k (-1)) := by simp only [b_X9_frame_15, if_neg c5, if_pos c7, if_pos c9]
                exact aw_sub (lv' := [(2, .int (nI (k + 1))), (0, .ref (q 0)), (1, .int len)]) [0, 1, 2] rfl (ih3 (k + 1) av1 (upd dv k (-1)) (by omega) (h_a0) (h_a15) (by rw [← e10]; exact hf3))
              · refine aw_aload_n X (pc := 57) 1 rfl rfl dX9_frame_57 ?_
                refine aw_iload_n X (pc := 58) 0 rfl rfl dX9_frame_58 ?_
                refine aw_iload_n X (pc := 59) 2 rfl rfl dX9_frame_59 ?_
                refine aw_callVF X (pc := 60) (q1 := 0) (rest := [.int (nI k), .ref (q 8)]) (st' := [.int (r_X9_draw av1 k len), .int (nI k), .ref (q 8)]) (c_X9_draw l D q kc av1 w hs inn sp lone lt lz dv (nI k) k len rfl (by omega) (by rw [hle1]; exact nI_ne0 (by omega) (by omega))) rfl rfl ⟨_, _, rfl⟩ rfl cf_X9_111 cd_X9_draw dd_X9_draw (by decide) (by decide) (by decide) rfl (Nat.le_of_ble_eq_true rfl) dX9_frame_60 rfl ?_
                have ha11 : (u_X9_draw_a av1 k) 0 = nI n := (fr_X9_draw (by omega)).trans h_a0
                have ha12 : (u_X9_draw_a av1 k) 15 = nI f := (fr_X9_draw (by omega)).trans h_a15
                refine aw_goto X (pc := 63) (tgt := 67) (by decide) dX9_frame_63 ?_
                refine aw_iast X (pc := 67) 8 7 (ws' := (mW q kc (u_X9_draw_a av1 k) w hs inn sp lone lt lz (upd dv k (r_X9_draw av1 k len)))) k rfl  rfl rfl (by decide) (by omega) rfl dX9_frame_67 ?_
                refine aw_iinc X (pc := 68) (kx := 0) (v := nI (k + 1)) (lv' := [(2, .int (nI (k + 1))), (0, .ref (q 0)), (1, .int len)]) rfl (nn_add (a := k) (b := 1) rfl rfl rfl) (by decide) rfl dX9_frame_68 ?_
                refine aw_goto X (pc := 71) (tgt := 15) (by decide) dX9_frame_71 ?_
                have e13 : b_X9_frame_15 w len k (av1, dv) = (u_X9_draw_a av1 k, upd dv k (r_X9_draw av1 k len)) := by simp only [b_X9_frame_15, if_neg c5, if_pos c7, if_neg c9]
                exact aw_sub (lv' := [(2, .int (nI (k + 1))), (0, .ref (q 0)), (1, .int len)]) [0, 1, 2] rfl (ih3 (k + 1) (u_X9_draw_a av1 k) (upd dv k (r_X9_draw av1 k len)) (by omega) (ha11) (ha12) (by rw [← e13]; exact hf3))
      exact aw_sub (lv' := [(2, .int 0), (0, .ref (q 0)), (1, .int len)]) [0, 1, 2] rfl (L3 n 0 a dr (by omega) (ha0) (ha15) rfl)
    · refine aw_iconst X (pc := 11) (v := (-1)) dX9_frame_11 (by decide) ?_
      exact aw_iret X (v := (-1)) hQ (by simp only [r_X9_frame, if_neg c1, if_neg c2]; try rfl) (by simp only [u_X9_frame_a, u_X9_frame_sp, u_X9_frame_lone, u_X9_frame_dr, if_neg c1, if_neg c2]) dX9_frame_12

def b_X9_pass_42 (a : Nat → Int32) (w : Nat → Int64) (n : Nat) (k : Nat) (σ : Int32 × (Nat → Int32)) : Int32 × (Nat → Int32) := if r_X9_tellers w σ.2 n (nI k) 0 ≤ 0 then (σ.1, (lpF (b_X9_goesOn_2 w (nI k) 1) n 0 σ.2)) else (if r_X9_tellers w σ.2 n (nI k) 1 ≤ 0 then (σ.1, (lpF (b_X9_goesOn_2 w (nI k) 0) n 0 σ.2)) else (if a 2 ≤ nI k then (if nI k = a 2 then (σ.1, (lpF (b_X9_goesOn_2 w (nI k) 1) n 0 σ.2)) else (nI k, (lpF (b_X9_goesOn_2 w (nI k) 0) n 0 σ.2))) else (if nI k = a 2 then (σ.1, (lpF (b_X9_goesOn_2 w (nI k) 1) n 0 σ.2)) else (if r_X9_bitOf (w 2) (nI k) = 0 then (nI k, (lpF (b_X9_goesOn_2 w (nI k) (r_X9_bitOf (w 2) (nI k))) n 0 σ.2)) else (σ.1, (lpF (b_X9_goesOn_2 w (nI k) (r_X9_bitOf (w 2) (nI k))) n 0 σ.2))))))
def r_X9_pass (a : Nat → Int32) (w : Nat → Int64) (inn : Nat → Int32) (n : Nat) : Int32 := if 0 ≤ (lpF (b_X9_oneIn_4 (lpF (b_X9_allIn_2 a w) n 0 inn)) n 0 (-1)) then (lpF (b_X9_oneIn_4 ((lpF (b_X9_pass_42 a w n) 64 0 ((-1), (lpF (b_X9_allIn_2 a w) n 0 inn))).2)) n 0 (-1)) else (-1)
def u_X9_pass_a (a : Nat → Int32) (w : Nat → Int64) (inn : Nat → Int32) (n : Nat) (f : Nat) : Nat → Int32 := if 0 ≤ (lpF (b_X9_oneIn_4 (lpF (b_X9_allIn_2 a w) n 0 inn)) n 0 (-1)) then (if 0 ≤ ((lpF (b_X9_pass_42 a w n) 64 0 ((-1), (lpF (b_X9_allIn_2 a w) n 0 inn))).1) then (u_X9_finds_a (upd (upd (upd a 14 ((a 14) + 193)) 2 ((lpF (b_X9_pass_42 a w n) 64 0 ((-1), (lpF (b_X9_allIn_2 a w) n 0 inn))).1)) 3 (((upd (upd a 14 ((a 14) + 193)) 2 ((lpF (b_X9_pass_42 a w n) 64 0 ((-1), (lpF (b_X9_allIn_2 a w) n 0 inn))).1)) 3) + 1)) f (lpF (b_X9_oneIn_4 ((lpF (b_X9_pass_42 a w n) 64 0 ((-1), (lpF (b_X9_allIn_2 a w) n 0 inn))).2)) n 0 (-1))) else (u_X9_finds_a (upd (upd (upd a 14 ((a 14) + 193)) 2 ((lpF (b_X9_pass_42 a w n) 64 0 ((-1), (lpF (b_X9_allIn_2 a w) n 0 inn))).1)) 3 0) f (lpF (b_X9_oneIn_4 ((lpF (b_X9_pass_42 a w n) 64 0 ((-1), (lpF (b_X9_allIn_2 a w) n 0 inn))).2)) n 0 (-1)))) else (upd (upd (upd a 14 ((a 14) + 1)) 2 (-1)) 3 0)
def u_X9_pass_w (a : Nat → Int32) (w : Nat → Int64) (inn : Nat → Int32) (n : Nat) : Nat → Int64 := if 0 ≤ (lpF (b_X9_oneIn_4 (lpF (b_X9_allIn_2 a w) n 0 inn)) n 0 (-1)) then (vp_updL w 2 (w ((84 + (lpF (b_X9_oneIn_4 ((lpF (b_X9_pass_42 a w n) 64 0 ((-1), (lpF (b_X9_allIn_2 a w) n 0 inn))).2)) n 0 (-1))).toNatClampNeg))) else w
def u_X9_pass_inn (a : Nat → Int32) (w : Nat → Int64) (inn : Nat → Int32) (n : Nat) : Nat → Int32 := if 0 ≤ (lpF (b_X9_oneIn_4 (lpF (b_X9_allIn_2 a w) n 0 inn)) n 0 (-1)) then ((lpF (b_X9_pass_42 a w n) 64 0 ((-1), (lpF (b_X9_allIn_2 a w) n 0 inn))).2) else (lpF (b_X9_allIn_2 a w) n 0 inn)
abbrev rm_X9_pass : Room := { frames := 3, cells := 0, slots := 0, locals := 64 }
set_option maxHeartbeats 400000 in
set_option maxRecDepth 100000 in
theorem c_X9_pass (l : Launch) (D : va_G) (q : Nat → Nat) (kc : Nat → ClassId) (a : Nat → Int32) (w : Nat → Int64) (hs : Nat → Int32) (inn : Nat → Int32) (sp : Nat → Int32) (lone : Int32) (lt : Nat → Int64) (lz : Nat → Int32) (dr : Nat → Int32) (n : Nat) (f : Nat) (ha0 : a 0 = nI n) (hn : n ≤ 40) (ha15 : a 15 = nI f) (hf : f ≤ 200) : MW l D yX9_pass (Cond.code yX9_pass cX9_pass 5 (some .int) :: TT) rm_X9_pass [.ref (q 0)] [(kc 1, .int), (kc 2, .long), (kc 3, .boolean), (kc 4, .boolean), (kc 5, .boolean), (kc 6, .long), (kc 7, .int), (kc 8, .int)] (mW q kc a w hs inn sp lone lt lz dr) (some (.int (r_X9_pass a w inn n))) (mW q kc (u_X9_pass_a a w inn n f) (u_X9_pass_w a w inn n) hs (u_X9_pass_inn a w inn n) sp lone lt lz dr) := by
  refine MW.of (cc := cX9_pass) (nL := 5) (ret := (some .int)) (lv := [(0, .ref (q 0))]) (by decide) ((mW_ad ..).trans (mW_ad ..).symm) rfl (Nat.le_of_ble_eq_true rfl) ?_
  intro p e s m args below meth c A Q hQ X
  refine aw_aload_n X (pc := 0) 0 rfl rfl dX9_pass_0 ?_
  refine aw_callVF X (pc := 1) (q1 := 0) (rest := []) (st' := []) (c_X9_allIn l D q kc a w hs inn sp lone lt lz dr n ha0 (by omega)) rfl rfl ⟨_, _, rfl⟩ rfl cf_X9_69 cd_X9_allIn dd_X9_allIn (by decide) (by decide) (by decide) rfl (Nat.le_of_ble_eq_true rfl) dX9_pass_1 rfl ?_
  refine aw_aload_n X (pc := 4) 0 rfl rfl dX9_pass_4 ?_
  refine aw_callVF X (pc := 5) (q1 := 0) (rest := []) (st' := [.int (lpF (b_X9_oneIn_4 (lpF (b_X9_allIn_2 a w) n 0 inn)) n 0 (-1))]) (c_X9_oneIn l D q kc a w hs (lpF (b_X9_allIn_2 a w) n 0 inn) sp lone lt lz dr n ha0 (by omega)) rfl rfl ⟨_, _, rfl⟩ rfl cf_X9_72 cd_X9_oneIn dd_X9_oneIn (by decide) (by decide) (by decide) rfl (Nat.le_of_ble_eq_true rfl) dX9_pass_5 rfl ?_
  refine aw_if_ge X (pc := 8) (tgt := 38) (by decide) dX9_pass_8 (fun c1 => ?_) (fun c1 => ?_)
  · refine aw_iconst X (pc := 38) (v := (-1)) dX9_pass_38 (by decide) ?_
    refine aw_istore_n X (pc := 39) (lv' := [(1, .int (-1)), (0, .ref (q 0))]) rfl (by decide) rfl dX9_pass_39 ?_
    refine aw_iconst X (pc := 40) (v := 0) dX9_pass_40 (by decide) ?_
    refine aw_istore_n X (pc := 41) (lv' := [(2, .int 0), (1, .int (-1)), (0, .ref (q 0))]) rfl (by decide) rfl dX9_pass_41 ?_
    have L2 : ∀ (n2 k : Nat) (la : Int32) (iv : Nat → Int32), k + n2 = 64 → lpF (b_X9_pass_42 a w n) n2 k (la, iv) = lpF (b_X9_pass_42 a w n) 64 0 ((-1), (lpF (b_X9_allIn_2 a w) n 0 inn)) → AW p l e rm_X9_pass s m args below meth c D A 5 0 0 Q 42 [(2, .int (nI k)), (1, .int la), (0, .ref (q 0))] [] (mW q kc a w hs iv sp lone lt lz dr) := by
      intro n2; induction n2 with
      | zero =>
        intro k la iv hk2  hf2
        have hf2 : (la, iv) = lpF (b_X9_pass_42 a w n) 64 0 ((-1), (lpF (b_X9_allIn_2 a w) n 0 inn)) := hf2
        refine aw_iload_n X (pc := 42) 0 rfl rfl dX9_pass_42 ?_
        refine aw_bipush X (pc := 43) (v := 64) dX9_pass_43 (by decide) ?_
        refine aw_icmp_ge X (pc := 45) (tgt := 155) (by decide) dX9_pass_45 (fun c36 => ?_) (fun c36 => absurd (nn_le (a := 64) (b := k) rfl rfl (by omega) (by omega)) c36)
        refine aw_aload_n X (pc := 155) 2 rfl rfl dX9_pass_155 ?_
        refine aw_callVF X (pc := 156) (q1 := 0) (rest := []) (st' := [.int (lpF (b_X9_oneIn_4 iv) n 0 (-1))]) (c_X9_oneIn l D q kc a w hs iv sp lone lt lz dr n ha0 (by omega)) rfl rfl ⟨_, _, rfl⟩ rfl cf_X9_72 cd_X9_oneIn dd_X9_oneIn (by decide) (by decide) (by decide) rfl (Nat.le_of_ble_eq_true rfl) dX9_pass_156 rfl ?_
        refine aw_istore_n X (pc := 159) (lv' := [(2, .int (lpF (b_X9_oneIn_4 iv) n 0 (-1))), (1, .int la), (0, .ref (q 0))]) rfl (by decide) rfl dX9_pass_159 ?_
        refine aw_aload_n X (pc := 160) 2 rfl rfl dX9_pass_160 ?_
        refine aw_get X (pc := 161) iX9 0 0 rfl rfl (by decide) fl_X9_7 rfl dX9_pass_161 ?_
        refine aw_bipush X (pc := 164) (v := 14) dX9_pass_164 (by decide) ?_
        refine aw_dup2_11 X (pc := 166) dX9_pass_166 rfl rfl ?_
        refine aw_iald X (pc := 167) 1 0 14 rfl rfl rfl (by decide) (by omega) dX9_pass_167 ?_
        refine aw_sipush X (pc := 168) (v := 193) dX9_pass_168 (by decide) ?_
        refine aw_iadd X (pc := 171) (z := (a 14) + 193) rfl  dX9_pass_171 ?_
        refine aw_iast X (pc := 172) 1 0 (ws' := (mW q kc (upd a 14 ((a 14) + 193)) w hs iv sp lone lt lz dr)) 14 rfl  rfl rfl (by decide) (by omega) rfl dX9_pass_172 ?_
        have ha37 : (upd a 14 ((a 14) + 193)) 0 = nI n := by rw [pk_un (by omega)]; exact ha0
        have ha38 : (upd a 14 ((a 14) + 193)) 15 = nI f := by rw [pk_un (by omega)]; exact ha15
        refine aw_aload_n X (pc := 173) 2 rfl rfl dX9_pass_173 ?_
        refine aw_get X (pc := 174) iX9 0 1 rfl rfl (by decide) fl_X9_13 rfl dX9_pass_174 ?_
        refine aw_iconst X (pc := 177) (v := 2) dX9_pass_177 (by decide) ?_
        refine aw_aload_n X (pc := 178) 2 rfl rfl dX9_pass_178 ?_
        refine aw_get X (pc := 179) iX9 0 1 rfl rfl (by decide) fl_X9_13 rfl dX9_pass_179 ?_
        refine aw_bipush X (pc := 182) (v := 84) dX9_pass_182 (by decide) ?_
        refine aw_iload_n X (pc := 184) 0 rfl rfl dX9_pass_184 ?_
        refine aw_iadd X (pc := 185) (z := 84 + (lpF (b_X9_oneIn_4 iv) n 0 (-1))) rfl  dX9_pass_185 ?_
        refine aw_lald X (pc := 186) 2 1 ((84 + (lpF (b_X9_oneIn_4 iv) n 0 (-1))).toNatClampNeg) (oneIn_ix hn).1 rfl rfl (by decide) (oneIn_ix hn).2 dX9_pass_186 ?_
        refine aw_last X (pc := 187) 2 1 (ws' := (mW q kc (upd a 14 ((a 14) + 193)) (vp_updL w 2 (w ((84 + (lpF (b_X9_oneIn_4 iv) n 0 (-1))).toNatClampNeg))) hs iv sp lone lt lz dr)) 2 rfl  rfl rfl (by decide) (by omega) rfl dX9_pass_187 ?_
        refine aw_aload_n X (pc := 188) 2 rfl rfl dX9_pass_188 ?_
        refine aw_get X (pc := 189) iX9 0 0 rfl rfl (by decide) fl_X9_7 rfl dX9_pass_189 ?_
        refine aw_iconst X (pc := 192) (v := 2) dX9_pass_192 (by decide) ?_
        refine aw_iload_n X (pc := 193) 1 rfl rfl dX9_pass_193 ?_
        refine aw_iast X (pc := 194) 1 0 (ws' := (mW q kc (upd (upd a 14 ((a 14) + 193)) 2 la) (vp_updL w 2 (w ((84 + (lpF (b_X9_oneIn_4 iv) n 0 (-1))).toNatClampNeg))) hs iv sp lone lt lz dr)) 2 rfl  rfl rfl (by decide) (by omega) rfl dX9_pass_194 ?_
        have ha39 : (upd (upd a 14 ((a 14) + 193)) 2 la) 0 = nI n := by rw [pk_un (by omega)]; exact ha37
        have ha40 : (upd (upd a 14 ((a 14) + 193)) 2 la) 15 = nI f := by rw [pk_un (by omega)]; exact ha38
        refine aw_aload_n X (pc := 195) 2 rfl rfl dX9_pass_195 ?_
        refine aw_get X (pc := 196) iX9 0 0 rfl rfl (by decide) fl_X9_7 rfl dX9_pass_196 ?_
        refine aw_iconst X (pc := 199) (v := 3) dX9_pass_199 (by decide) ?_
        refine aw_iload_n X (pc := 200) 1 rfl rfl dX9_pass_200 ?_
        refine aw_if_ge X (pc := 201) (tgt := 208) (by decide) dX9_pass_201 (fun c41 => ?_) (fun c41 => ?_)
        · refine aw_aload_n X (pc := 208) 2 rfl rfl dX9_pass_208 ?_
          refine aw_get X (pc := 209) iX9 0 0 rfl rfl (by decide) fl_X9_7 rfl dX9_pass_209 ?_
          refine aw_iconst X (pc := 212) (v := 3) dX9_pass_212 (by decide) ?_
          refine aw_iald X (pc := 213) 1 0 3 rfl rfl rfl (by decide) (by omega) dX9_pass_213 ?_
          refine aw_iconst X (pc := 214) (v := 1) dX9_pass_214 (by decide) ?_
          refine aw_iadd X (pc := 215) (z := ((upd (upd a 14 ((a 14) + 193)) 2 la) 3) + 1) rfl  dX9_pass_215 ?_
          refine aw_iast X (pc := 216) 1 0 (ws' := (mW q kc (upd (upd (upd a 14 ((a 14) + 193)) 2 la) 3 (((upd (upd a 14 ((a 14) + 193)) 2 la) 3) + 1)) (vp_updL w 2 (w ((84 + (lpF (b_X9_oneIn_4 iv) n 0 (-1))).toNatClampNeg))) hs iv sp lone lt lz dr)) 3 rfl  rfl rfl (by decide) (by omega) rfl dX9_pass_216 ?_
          have ha42 : (upd (upd (upd a 14 ((a 14) + 193)) 2 la) 3 (((upd (upd a 14 ((a 14) + 193)) 2 la) 3) + 1)) 0 = nI n := by rw [pk_un (by omega)]; exact ha39
          have ha43 : (upd (upd (upd a 14 ((a 14) + 193)) 2 la) 3 (((upd (upd a 14 ((a 14) + 193)) 2 la) 3) + 1)) 15 = nI f := by rw [pk_un (by omega)]; exact ha40
          refine aw_aload_n X (pc := 217) 2 rfl rfl dX9_pass_217 ?_
          refine aw_iload_n X (pc := 218) 0 rfl rfl dX9_pass_218 ?_
          refine aw_callVF X (pc := 219) (q1 := 0) (rest := []) (st' := []) (c_X9_finds l D q kc (upd (upd (upd a 14 ((a 14) + 193)) 2 la) 3 (((upd (upd a 14 ((a 14) + 193)) 2 la) 3) + 1)) (vp_updL w 2 (w ((84 + (lpF (b_X9_oneIn_4 iv) n 0 (-1))).toNatClampNeg))) hs iv sp lone lt lz dr f (lpF (b_X9_oneIn_4 iv) n 0 (-1)) ha43 (by omega)) rfl rfl ⟨_, _, rfl⟩ rfl cf_X9_82 cd_X9_finds dd_X9_finds (by decide) (by decide) (by decide) rfl (Nat.le_of_ble_eq_true rfl) dX9_pass_219 rfl ?_
          have ha44 : (u_X9_finds_a (upd (upd (upd a 14 ((a 14) + 193)) 2 la) 3 (((upd (upd a 14 ((a 14) + 193)) 2 la) 3) + 1)) f (lpF (b_X9_oneIn_4 iv) n 0 (-1))) 0 = nI n := (fr_X9_finds (by omega)).trans ha42
          have ha45 : (u_X9_finds_a (upd (upd (upd a 14 ((a 14) + 193)) 2 la) 3 (((upd (upd a 14 ((a 14) + 193)) 2 la) 3) + 1)) f (lpF (b_X9_oneIn_4 iv) n 0 (-1))) 15 = nI (fN f) := fin_15 ha43 (by omega)
          have ha45b : fN f ≤ 200 := fN_le (by omega)
          refine aw_iload_n X (pc := 222) 0 rfl rfl dX9_pass_222 ?_
          exact aw_iret X (v := (lpF (b_X9_oneIn_4 iv) n 0 (-1))) hQ (by simp only [r_X9_pass, if_pos c1, if_pos c41, ← hf2]; try rfl) (by simp only [u_X9_pass_a, u_X9_pass_w, u_X9_pass_inn, if_pos c1, if_pos c41, ← hf2]) dX9_pass_223
        · refine aw_iconst X (pc := 204) (v := 0) dX9_pass_204 (by decide) ?_
          refine aw_goto X (pc := 205) (tgt := 216) (by decide) dX9_pass_205 ?_
          refine aw_iast X (pc := 216) 1 0 (ws' := (mW q kc (upd (upd (upd a 14 ((a 14) + 193)) 2 la) 3 0) (vp_updL w 2 (w ((84 + (lpF (b_X9_oneIn_4 iv) n 0 (-1))).toNatClampNeg))) hs iv sp lone lt lz dr)) 3 rfl  rfl rfl (by decide) (by omega) rfl dX9_pass_216 ?_
          have ha46 : (upd (upd (upd a 14 ((a 14) + 193)) 2 la) 3 0) 0 = nI n := by rw [pk_un (by omega)]; exact ha39
          have ha47 : (upd (upd (upd a 14 ((a 14) + 193)) 2 la) 3 0) 15 = nI f := by rw [pk_un (by omega)]; exact ha40
          refine aw_aload_n X (pc := 217) 2 rfl rfl dX9_pass_217 ?_
          refine aw_iload_n X (pc := 218) 0 rfl rfl dX9_pass_218 ?_
          refine aw_callVF X (pc := 219) (q1 := 0) (rest := []) (st' := []) (c_X9_finds l D q kc (upd (upd (upd a 14 ((a 14) + 193)) 2 la) 3 0) (vp_updL w 2 (w ((84 + (lpF (b_X9_oneIn_4 iv) n 0 (-1))).toNatClampNeg))) hs iv sp lone lt lz dr f (lpF (b_X9_oneIn_4 iv) n 0 (-1)) ha47 (by omega)) rfl rfl ⟨_, _, rfl⟩ rfl cf_X9_82 cd_X9_finds dd_X9_finds (by decide) (by decide) (by decide) rfl (Nat.le_of_ble_eq_true rfl) dX9_pass_219 rfl ?_
          have ha48 : (u_X9_finds_a (upd (upd (upd a 14 ((a 14) + 193)) 2 la) 3 0) f (lpF (b_X9_oneIn_4 iv) n 0 (-1))) 0 = nI n := (fr_X9_finds (by omega)).trans ha46
          have ha49 : (u_X9_finds_a (upd (upd (upd a 14 ((a 14) + 193)) 2 la) 3 0) f (lpF (b_X9_oneIn_4 iv) n 0 (-1))) 15 = nI (fN f) := fin_15 ha47 (by omega)
          have ha49b : fN f ≤ 200 := fN_le (by omega)
          refine aw_iload_n X (pc := 222) 0 rfl rfl dX9_pass_222 ?_
          exact aw_iret X (v := (lpF (b_X9_oneIn_4 iv) n 0 (-1))) hQ (by simp only [r_X9_pass, if_pos c1, if_neg c41, ← hf2]; try rfl) (by simp only [u_X9_pass_a, u_X9_pass_w, u_X9_pass_inn, if_pos c1, if_neg c41, ← hf2]) dX9_pass_223
      | succ n2 ih2 =>
        intro k la iv hk2  hf2
        have hf2 : lpF (b_X9_pass_42 a w n) n2 (k + 1) (b_X9_pass_42 a w n k (la, iv)) = lpF (b_X9_pass_42 a w n) 64 0 ((-1), (lpF (b_X9_allIn_2 a w) n 0 inn)) := hf2
        refine aw_iload_n X (pc := 42) 0 rfl rfl dX9_pass_42 ?_
        refine aw_bipush X (pc := 43) (v := 64) dX9_pass_43 (by decide) ?_
        refine aw_icmp_ge X (pc := 45) (tgt := 155) (by decide) dX9_pass_45 (fun c3 => absurd c3 (nn_nle (a := 64) (b := k) rfl rfl (by omega) (by omega))) (fun c3 => ?_)
        refine aw_aload_n X (pc := 48) 2 rfl rfl dX9_pass_48 ?_
        refine aw_iload_n X (pc := 49) 0 rfl rfl dX9_pass_49 ?_
        refine aw_iconst X (pc := 50) (v := 0) dX9_pass_50 (by decide) ?_
        refine aw_callVF X (pc := 51) (q1 := 0) (rest := []) (st' := [.int (r_X9_tellers w iv n (nI k) 0)]) (c_X9_tellers l D q kc a w hs iv sp lone lt lz dr n (nI k) 0 ha0 (by omega)) rfl rfl ⟨_, _, rfl⟩ rfl cf_X9_75 cd_X9_tellers dd_X9_tellers (by decide) (by decide) (by decide) rfl (Nat.le_of_ble_eq_true rfl) dX9_pass_51 rfl ?_
        refine aw_if_le X (pc := 54) (tgt := 70) (by decide) dX9_pass_54 (fun c4 => ?_) (fun c4 => ?_)
        · refine aw_iconst X (pc := 70) (v := 0) dX9_pass_70 (by decide) ?_
          refine aw_istore_n X (pc := 71) (lv' := [(3, .int 0), (2, .int (nI k)), (1, .int la), (0, .ref (q 0))]) rfl (by decide) rfl dX9_pass_71 ?_
          refine aw_aload_n X (pc := 72) 3 rfl rfl dX9_pass_72 ?_
          refine aw_iload_n X (pc := 73) 1 rfl rfl dX9_pass_73 ?_
          refine aw_iconst X (pc := 74) (v := 0) dX9_pass_74 (by decide) ?_
          refine aw_callVF X (pc := 75) (q1 := 0) (rest := []) (st' := [.int (r_X9_tellers w iv n (nI k) 0)]) (c_X9_tellers l D q kc a w hs iv sp lone lt lz dr n (nI k) 0 ha0 (by omega)) rfl rfl ⟨_, _, rfl⟩ rfl cf_X9_75 cd_X9_tellers dd_X9_tellers (by decide) (by decide) (by decide) rfl (Nat.le_of_ble_eq_true rfl) dX9_pass_75 rfl ?_
          refine aw_if_le X (pc := 78) (tgt := 85) (by decide) dX9_pass_78 (fun c5 => ?_) (fun c5 => absurd c4 c5)
          refine aw_iconst X (pc := 85) (v := 1) dX9_pass_85 (by decide) ?_
          refine aw_istore X (pc := 86) (lv' := [(4, .int 1), (3, .int 0), (2, .int (nI k)), (1, .int la), (0, .ref (q 0))]) (by decide) rfl dX9_pass_86 ?_
          refine aw_iload_n X (pc := 88) 1 rfl rfl dX9_pass_88 ?_
          refine aw_if_eq X (pc := 89) (tgt := 114) (by decide) dX9_pass_89 (fun c6 => ?_) (fun c6 => absurd (by decide) c6)
          refine aw_iload_n X (pc := 114) 1 rfl rfl dX9_pass_114 ?_
          refine aw_if_eq X (pc := 115) (tgt := 131) (by decide) dX9_pass_115 (fun c7 => ?_) (fun c7 => absurd (by decide) c7)
          refine aw_iload_n X (pc := 131) 1 rfl rfl dX9_pass_131 ?_
          refine aw_if_eq X (pc := 132) (tgt := 142) (by decide) dX9_pass_132 (fun c8 => ?_) (fun c8 => absurd (by decide) c8)
          refine aw_aload_n X (pc := 142) 4 rfl rfl dX9_pass_142 ?_
          refine aw_iload_n X (pc := 143) 2 rfl rfl dX9_pass_143 ?_
          refine aw_iload X (pc := 144) 0 rfl dX9_pass_144 ?_
          refine aw_callVF X (pc := 146) (q1 := 0) (rest := []) (st' := []) (c_X9_goesOn l D q kc a w hs iv sp lone lt lz dr n (nI k) 1 ha0 (by omega)) rfl rfl ⟨_, _, rfl⟩ rfl cf_X9_78 cd_X9_goesOn dd_X9_goesOn (by decide) (by decide) (by decide) rfl (Nat.le_of_ble_eq_true rfl) dX9_pass_146 rfl ?_
          refine aw_iinc X (pc := 149) (kx := 2) (v := nI (k + 1)) (lv' := [(2, .int (nI (k + 1))), (4, .int 1), (3, .int 0), (1, .int la), (0, .ref (q 0))]) rfl (nn_add (a := k) (b := 1) rfl rfl rfl) (by decide) rfl dX9_pass_149 ?_
          refine aw_goto X (pc := 152) (tgt := 42) (by decide) dX9_pass_152 ?_
          have e9 : b_X9_pass_42 a w n k (la, iv) = (la, (lpF (b_X9_goesOn_2 w (nI k) 1) n 0 iv)) := by simp only [b_X9_pass_42, if_pos c4]
          exact aw_sub (lv' := [(2, .int (nI (k + 1))), (1, .int la), (0, .ref (q 0))]) [0, 3, 4] rfl (ih2 (k + 1) la (lpF (b_X9_goesOn_2 w (nI k) 1) n 0 iv) (by omega)  (by rw [← e9]; exact hf2))
        · refine aw_aload_n X (pc := 57) 2 rfl rfl dX9_pass_57 ?_
          refine aw_iload_n X (pc := 58) 0 rfl rfl dX9_pass_58 ?_
          refine aw_iconst X (pc := 59) (v := 1) dX9_pass_59 (by decide) ?_
          refine aw_callVF X (pc := 60) (q1 := 0) (rest := []) (st' := [.int (r_X9_tellers w iv n (nI k) 1)]) (c_X9_tellers l D q kc a w hs iv sp lone lt lz dr n (nI k) 1 ha0 (by omega)) rfl rfl ⟨_, _, rfl⟩ rfl cf_X9_75 cd_X9_tellers dd_X9_tellers (by decide) (by decide) (by decide) rfl (Nat.le_of_ble_eq_true rfl) dX9_pass_60 rfl ?_
          refine aw_if_le X (pc := 63) (tgt := 70) (by decide) dX9_pass_63 (fun c10 => ?_) (fun c10 => ?_)
          · refine aw_iconst X (pc := 70) (v := 0) dX9_pass_70 (by decide) ?_
            refine aw_istore_n X (pc := 71) (lv' := [(3, .int 0), (2, .int (nI k)), (1, .int la), (0, .ref (q 0))]) rfl (by decide) rfl dX9_pass_71 ?_
            refine aw_aload_n X (pc := 72) 3 rfl rfl dX9_pass_72 ?_
            refine aw_iload_n X (pc := 73) 1 rfl rfl dX9_pass_73 ?_
            refine aw_iconst X (pc := 74) (v := 0) dX9_pass_74 (by decide) ?_
            refine aw_callVF X (pc := 75) (q1 := 0) (rest := []) (st' := [.int (r_X9_tellers w iv n (nI k) 0)]) (c_X9_tellers l D q kc a w hs iv sp lone lt lz dr n (nI k) 0 ha0 (by omega)) rfl rfl ⟨_, _, rfl⟩ rfl cf_X9_75 cd_X9_tellers dd_X9_tellers (by decide) (by decide) (by decide) rfl (Nat.le_of_ble_eq_true rfl) dX9_pass_75 rfl ?_
            refine aw_if_le X (pc := 78) (tgt := 85) (by decide) dX9_pass_78 (fun c11 => absurd c11 c4) (fun c11 => ?_)
            refine aw_iconst X (pc := 81) (v := 0) dX9_pass_81 (by decide) ?_
            refine aw_goto X (pc := 82) (tgt := 86) (by decide) dX9_pass_82 ?_
            refine aw_istore X (pc := 86) (lv' := [(4, .int 0), (3, .int 0), (2, .int (nI k)), (1, .int la), (0, .ref (q 0))]) (by decide) rfl dX9_pass_86 ?_
            refine aw_iload_n X (pc := 88) 1 rfl rfl dX9_pass_88 ?_
            refine aw_if_eq X (pc := 89) (tgt := 114) (by decide) dX9_pass_89 (fun c12 => ?_) (fun c12 => absurd (by decide) c12)
            refine aw_iload_n X (pc := 114) 1 rfl rfl dX9_pass_114 ?_
            refine aw_if_eq X (pc := 115) (tgt := 131) (by decide) dX9_pass_115 (fun c13 => ?_) (fun c13 => absurd (by decide) c13)
            refine aw_iload_n X (pc := 131) 1 rfl rfl dX9_pass_131 ?_
            refine aw_if_eq X (pc := 132) (tgt := 142) (by decide) dX9_pass_132 (fun c14 => ?_) (fun c14 => absurd (by decide) c14)
            refine aw_aload_n X (pc := 142) 4 rfl rfl dX9_pass_142 ?_
            refine aw_iload_n X (pc := 143) 2 rfl rfl dX9_pass_143 ?_
            refine aw_iload X (pc := 144) 0 rfl dX9_pass_144 ?_
            refine aw_callVF X (pc := 146) (q1 := 0) (rest := []) (st' := []) (c_X9_goesOn l D q kc a w hs iv sp lone lt lz dr n (nI k) 0 ha0 (by omega)) rfl rfl ⟨_, _, rfl⟩ rfl cf_X9_78 cd_X9_goesOn dd_X9_goesOn (by decide) (by decide) (by decide) rfl (Nat.le_of_ble_eq_true rfl) dX9_pass_146 rfl ?_
            refine aw_iinc X (pc := 149) (kx := 2) (v := nI (k + 1)) (lv' := [(2, .int (nI (k + 1))), (4, .int 0), (3, .int 0), (1, .int la), (0, .ref (q 0))]) rfl (nn_add (a := k) (b := 1) rfl rfl rfl) (by decide) rfl dX9_pass_149 ?_
            refine aw_goto X (pc := 152) (tgt := 42) (by decide) dX9_pass_152 ?_
            have e15 : b_X9_pass_42 a w n k (la, iv) = (la, (lpF (b_X9_goesOn_2 w (nI k) 0) n 0 iv)) := by simp only [b_X9_pass_42, if_neg c4, if_pos c10]
            exact aw_sub (lv' := [(2, .int (nI (k + 1))), (1, .int la), (0, .ref (q 0))]) [0, 3, 4] rfl (ih2 (k + 1) la (lpF (b_X9_goesOn_2 w (nI k) 0) n 0 iv) (by omega)  (by rw [← e15]; exact hf2))
          · refine aw_iconst X (pc := 66) (v := 1) dX9_pass_66 (by decide) ?_
            refine aw_goto X (pc := 67) (tgt := 71) (by decide) dX9_pass_67 ?_
            refine aw_istore_n X (pc := 71) (lv' := [(3, .int 1), (2, .int (nI k)), (1, .int la), (0, .ref (q 0))]) rfl (by decide) rfl dX9_pass_71 ?_
            refine aw_aload_n X (pc := 72) 3 rfl rfl dX9_pass_72 ?_
            refine aw_iload_n X (pc := 73) 1 rfl rfl dX9_pass_73 ?_
            refine aw_iconst X (pc := 74) (v := 0) dX9_pass_74 (by decide) ?_
            refine aw_callVF X (pc := 75) (q1 := 0) (rest := []) (st' := [.int (r_X9_tellers w iv n (nI k) 0)]) (c_X9_tellers l D q kc a w hs iv sp lone lt lz dr n (nI k) 0 ha0 (by omega)) rfl rfl ⟨_, _, rfl⟩ rfl cf_X9_75 cd_X9_tellers dd_X9_tellers (by decide) (by decide) (by decide) rfl (Nat.le_of_ble_eq_true rfl) dX9_pass_75 rfl ?_
            refine aw_if_le X (pc := 78) (tgt := 85) (by decide) dX9_pass_78 (fun c16 => absurd c16 c4) (fun c16 => ?_)
            refine aw_iconst X (pc := 81) (v := 0) dX9_pass_81 (by decide) ?_
            refine aw_goto X (pc := 82) (tgt := 86) (by decide) dX9_pass_82 ?_
            refine aw_istore X (pc := 86) (lv' := [(4, .int 0), (3, .int 1), (2, .int (nI k)), (1, .int la), (0, .ref (q 0))]) (by decide) rfl dX9_pass_86 ?_
            refine aw_iload_n X (pc := 88) 1 rfl rfl dX9_pass_88 ?_
            refine aw_if_eq X (pc := 89) (tgt := 114) (by decide) dX9_pass_89 (fun c17 => absurd c17 (by decide)) (fun c17 => ?_)
            refine aw_iload_n X (pc := 92) 2 rfl rfl dX9_pass_92 ?_
            refine aw_aload_n X (pc := 93) 4 rfl rfl dX9_pass_93 ?_
            refine aw_get X (pc := 94) iX9 0 0 rfl rfl (by decide) fl_X9_7 rfl dX9_pass_94 ?_
            refine aw_iconst X (pc := 97) (v := 2) dX9_pass_97 (by decide) ?_
            refine aw_iald X (pc := 98) 1 0 2 rfl rfl rfl (by decide) (by omega) dX9_pass_98 ?_
            refine aw_icmp_ge X (pc := 99) (tgt := 114) (by decide) dX9_pass_99 (fun c18 => ?_) (fun c18 => ?_)
            · refine aw_iload_n X (pc := 114) 1 rfl rfl dX9_pass_114 ?_
              refine aw_if_eq X (pc := 115) (tgt := 131) (by decide) dX9_pass_115 (fun c19 => absurd c19 (by decide)) (fun c19 => ?_)
              refine aw_iload_n X (pc := 118) 2 rfl rfl dX9_pass_118 ?_
              refine aw_aload_n X (pc := 119) 4 rfl rfl dX9_pass_119 ?_
              refine aw_get X (pc := 120) iX9 0 0 rfl rfl (by decide) fl_X9_7 rfl dX9_pass_120 ?_
              refine aw_iconst X (pc := 123) (v := 2) dX9_pass_123 (by decide) ?_
              refine aw_iald X (pc := 124) 1 0 2 rfl rfl rfl (by decide) (by omega) dX9_pass_124 ?_
              refine aw_icmp_ne X (pc := 125) (tgt := 131) (by decide) dX9_pass_125 (fun c20 => ?_) (fun c20 => ?_)
              · refine aw_iload_n X (pc := 131) 1 rfl rfl dX9_pass_131 ?_
                refine aw_if_eq X (pc := 132) (tgt := 142) (by decide) dX9_pass_132 (fun c21 => absurd c21 (by decide)) (fun c21 => ?_)
                refine aw_iload X (pc := 135) 0 rfl dX9_pass_135 ?_
                refine aw_if_ne X (pc := 137) (tgt := 142) (by decide) dX9_pass_137 (fun c22 => absurd (by decide) c22) (fun c22 => ?_)
                refine aw_iload_n X (pc := 140) 2 rfl rfl dX9_pass_140 ?_
                refine aw_istore_n X (pc := 141) (lv' := [(1, .int (nI k)), (4, .int 0), (3, .int 1), (2, .int (nI k)), (0, .ref (q 0))]) rfl (by decide) rfl dX9_pass_141 ?_
                refine aw_aload_n X (pc := 142) 4 rfl rfl dX9_pass_142 ?_
                refine aw_iload_n X (pc := 143) 3 rfl rfl dX9_pass_143 ?_
                refine aw_iload X (pc := 144) 1 rfl dX9_pass_144 ?_
                refine aw_callVF X (pc := 146) (q1 := 0) (rest := []) (st' := []) (c_X9_goesOn l D q kc a w hs iv sp lone lt lz dr n (nI k) 0 ha0 (by omega)) rfl rfl ⟨_, _, rfl⟩ rfl cf_X9_78 cd_X9_goesOn dd_X9_goesOn (by decide) (by decide) (by decide) rfl (Nat.le_of_ble_eq_true rfl) dX9_pass_146 rfl ?_
                refine aw_iinc X (pc := 149) (kx := 3) (v := nI (k + 1)) (lv' := [(2, .int (nI (k + 1))), (1, .int (nI k)), (4, .int 0), (3, .int 1), (0, .ref (q 0))]) rfl (nn_add (a := k) (b := 1) rfl rfl rfl) (by decide) rfl dX9_pass_149 ?_
                refine aw_goto X (pc := 152) (tgt := 42) (by decide) dX9_pass_152 ?_
                have e23 : b_X9_pass_42 a w n k (la, iv) = (nI k, (lpF (b_X9_goesOn_2 w (nI k) 0) n 0 iv)) := by simp only [b_X9_pass_42, if_neg c4, if_neg c10, if_pos c18, if_neg c20]
                exact aw_sub (lv' := [(2, .int (nI (k + 1))), (1, .int (nI k)), (0, .ref (q 0))]) [0, 1, 4] rfl (ih2 (k + 1) (nI k) (lpF (b_X9_goesOn_2 w (nI k) 0) n 0 iv) (by omega)  (by rw [← e23]; exact hf2))
              · refine aw_iconst X (pc := 128) (v := 1) dX9_pass_128 (by decide) ?_
                refine aw_istore X (pc := 129) (lv' := [(4, .int 1), (3, .int 1), (2, .int (nI k)), (1, .int la), (0, .ref (q 0))]) (by decide) rfl dX9_pass_129 ?_
                refine aw_iload_n X (pc := 131) 1 rfl rfl dX9_pass_131 ?_
                refine aw_if_eq X (pc := 132) (tgt := 142) (by decide) dX9_pass_132 (fun c24 => absurd c24 (by decide)) (fun c24 => ?_)
                refine aw_iload X (pc := 135) 0 rfl dX9_pass_135 ?_
                refine aw_if_ne X (pc := 137) (tgt := 142) (by decide) dX9_pass_137 (fun c25 => ?_) (fun c25 => absurd c25 (by decide))
                refine aw_aload_n X (pc := 142) 4 rfl rfl dX9_pass_142 ?_
                refine aw_iload_n X (pc := 143) 2 rfl rfl dX9_pass_143 ?_
                refine aw_iload X (pc := 144) 0 rfl dX9_pass_144 ?_
                refine aw_callVF X (pc := 146) (q1 := 0) (rest := []) (st' := []) (c_X9_goesOn l D q kc a w hs iv sp lone lt lz dr n (nI k) 1 ha0 (by omega)) rfl rfl ⟨_, _, rfl⟩ rfl cf_X9_78 cd_X9_goesOn dd_X9_goesOn (by decide) (by decide) (by decide) rfl (Nat.le_of_ble_eq_true rfl) dX9_pass_146 rfl ?_
                refine aw_iinc X (pc := 149) (kx := 2) (v := nI (k + 1)) (lv' := [(2, .int (nI (k + 1))), (4, .int 1), (3, .int 1), (1, .int la), (0, .ref (q 0))]) rfl (nn_add (a := k) (b := 1) rfl rfl rfl) (by decide) rfl dX9_pass_149 ?_
                refine aw_goto X (pc := 152) (tgt := 42) (by decide) dX9_pass_152 ?_
                have e26 : b_X9_pass_42 a w n k (la, iv) = (la, (lpF (b_X9_goesOn_2 w (nI k) 1) n 0 iv)) := by simp only [b_X9_pass_42, if_neg c4, if_neg c10, if_pos c18, if_pos c20]
                exact aw_sub (lv' := [(2, .int (nI (k + 1))), (1, .int la), (0, .ref (q 0))]) [0, 3, 4] rfl (ih2 (k + 1) la (lpF (b_X9_goesOn_2 w (nI k) 1) n 0 iv) (by omega)  (by rw [← e26]; exact hf2))
            · refine aw_aload_n X (pc := 102) 4 rfl rfl dX9_pass_102 ?_
              refine aw_get X (pc := 103) iX9 0 1 rfl rfl (by decide) fl_X9_13 rfl dX9_pass_103 ?_
              refine aw_iconst X (pc := 106) (v := 2) dX9_pass_106 (by decide) ?_
              refine aw_lald X (pc := 107) 2 1 2 rfl rfl rfl (by decide) (by omega) dX9_pass_107 ?_
              refine aw_iload_n X (pc := 108) 2 rfl rfl dX9_pass_108 ?_
              refine aw_callS X (pc := 109) (rest := []) (st' := [.int (r_X9_bitOf (w 2) (nI k))]) (ws' := (mW q kc a w hs iv sp lone lt lz dr)) (c_X9_bitOf l D (w 2) (nI k)) rfl [] [] rfl (by decide +kernel) rfl rfl cf_X9_40 cd_X9_bitOf dd_X9_bitOf (by decide) (by decide) (by decide) rfl (Nat.le_of_ble_eq_true rfl) dX9_pass_109 rfl ?_
              refine aw_istore X (pc := 112) (lv' := [(4, .int (r_X9_bitOf (w 2) (nI k))), (3, .int 1), (2, .int (nI k)), (1, .int la), (0, .ref (q 0))]) (by decide) rfl dX9_pass_112 ?_
              refine aw_iload_n X (pc := 114) 1 rfl rfl dX9_pass_114 ?_
              refine aw_if_eq X (pc := 115) (tgt := 131) (by decide) dX9_pass_115 (fun c27 => absurd c27 (by decide)) (fun c27 => ?_)
              refine aw_iload_n X (pc := 118) 2 rfl rfl dX9_pass_118 ?_
              refine aw_aload_n X (pc := 119) 4 rfl rfl dX9_pass_119 ?_
              refine aw_get X (pc := 120) iX9 0 0 rfl rfl (by decide) fl_X9_7 rfl dX9_pass_120 ?_
              refine aw_iconst X (pc := 123) (v := 2) dX9_pass_123 (by decide) ?_
              refine aw_iald X (pc := 124) 1 0 2 rfl rfl rfl (by decide) (by omega) dX9_pass_124 ?_
              refine aw_icmp_ne X (pc := 125) (tgt := 131) (by decide) dX9_pass_125 (fun c28 => ?_) (fun c28 => ?_)
              · refine aw_iload_n X (pc := 131) 1 rfl rfl dX9_pass_131 ?_
                refine aw_if_eq X (pc := 132) (tgt := 142) (by decide) dX9_pass_132 (fun c29 => absurd c29 (by decide)) (fun c29 => ?_)
                refine aw_iload X (pc := 135) 0 rfl dX9_pass_135 ?_
                refine aw_if_ne X (pc := 137) (tgt := 142) (by decide) dX9_pass_137 (fun c30 => ?_) (fun c30 => ?_)
                · refine aw_aload_n X (pc := 142) 4 rfl rfl dX9_pass_142 ?_
                  refine aw_iload_n X (pc := 143) 2 rfl rfl dX9_pass_143 ?_
                  refine aw_iload X (pc := 144) 0 rfl dX9_pass_144 ?_
                  refine aw_callVF X (pc := 146) (q1 := 0) (rest := []) (st' := []) (c_X9_goesOn l D q kc a w hs iv sp lone lt lz dr n (nI k) (r_X9_bitOf (w 2) (nI k)) ha0 (by omega)) rfl rfl ⟨_, _, rfl⟩ rfl cf_X9_78 cd_X9_goesOn dd_X9_goesOn (by decide) (by decide) (by decide) rfl (Nat.le_of_ble_eq_true rfl) dX9_pass_146 rfl ?_
                  refine aw_iinc X (pc := 149) (kx := 2) (v := nI (k + 1)) (lv' := [(2, .int (nI (k + 1))), (4, .int (r_X9_bitOf (w 2) (nI k))), (3, .int 1), (1, .int la), (0, .ref (q 0))]) rfl (nn_add (a := k) (b := 1) rfl rfl rfl) (by decide) rfl dX9_pass_149 ?_
                  refine aw_goto X (pc := 152) (tgt := 42) (by decide) dX9_pass_152 ?_
                  have e31 : b_X9_pass_42 a w n k (la, iv) = (la, (lpF (b_X9_goesOn_2 w (nI k) (r_X9_bitOf (w 2) (nI k))) n 0 iv)) := by simp only [b_X9_pass_42, if_neg c4, if_neg c10, if_neg c18, if_neg c28, if_neg c30]
                  exact aw_sub (lv' := [(2, .int (nI (k + 1))), (1, .int la), (0, .ref (q 0))]) [0, 3, 4] rfl (ih2 (k + 1) la (lpF (b_X9_goesOn_2 w (nI k) (r_X9_bitOf (w 2) (nI k))) n 0 iv) (by omega)  (by rw [← e31]; exact hf2))
                · refine aw_iload_n X (pc := 140) 2 rfl rfl dX9_pass_140 ?_
                  refine aw_istore_n X (pc := 141) (lv' := [(1, .int (nI k)), (4, .int (r_X9_bitOf (w 2) (nI k))), (3, .int 1), (2, .int (nI k)), (0, .ref (q 0))]) rfl (by decide) rfl dX9_pass_141 ?_
                  refine aw_aload_n X (pc := 142) 4 rfl rfl dX9_pass_142 ?_
                  refine aw_iload_n X (pc := 143) 3 rfl rfl dX9_pass_143 ?_
                  refine aw_iload X (pc := 144) 1 rfl dX9_pass_144 ?_
                  refine aw_callVF X (pc := 146) (q1 := 0) (rest := []) (st' := []) (c_X9_goesOn l D q kc a w hs iv sp lone lt lz dr n (nI k) (r_X9_bitOf (w 2) (nI k)) ha0 (by omega)) rfl rfl ⟨_, _, rfl⟩ rfl cf_X9_78 cd_X9_goesOn dd_X9_goesOn (by decide) (by decide) (by decide) rfl (Nat.le_of_ble_eq_true rfl) dX9_pass_146 rfl ?_
                  refine aw_iinc X (pc := 149) (kx := 3) (v := nI (k + 1)) (lv' := [(2, .int (nI (k + 1))), (1, .int (nI k)), (4, .int (r_X9_bitOf (w 2) (nI k))), (3, .int 1), (0, .ref (q 0))]) rfl (nn_add (a := k) (b := 1) rfl rfl rfl) (by decide) rfl dX9_pass_149 ?_
                  refine aw_goto X (pc := 152) (tgt := 42) (by decide) dX9_pass_152 ?_
                  have e32 : b_X9_pass_42 a w n k (la, iv) = (nI k, (lpF (b_X9_goesOn_2 w (nI k) (r_X9_bitOf (w 2) (nI k))) n 0 iv)) := by simp only [b_X9_pass_42, if_neg c4, if_neg c10, if_neg c18, if_neg c28, if_pos c30]
                  exact aw_sub (lv' := [(2, .int (nI (k + 1))), (1, .int (nI k)), (0, .ref (q 0))]) [0, 1, 4] rfl (ih2 (k + 1) (nI k) (lpF (b_X9_goesOn_2 w (nI k) (r_X9_bitOf (w 2) (nI k))) n 0 iv) (by omega)  (by rw [← e32]; exact hf2))
              · refine aw_iconst X (pc := 128) (v := 1) dX9_pass_128 (by decide) ?_
                refine aw_istore X (pc := 129) (lv' := [(4, .int 1), (3, .int 1), (2, .int (nI k)), (1, .int la), (0, .ref (q 0))]) (by decide) rfl dX9_pass_129 ?_
                refine aw_iload_n X (pc := 131) 1 rfl rfl dX9_pass_131 ?_
                refine aw_if_eq X (pc := 132) (tgt := 142) (by decide) dX9_pass_132 (fun c33 => absurd c33 (by decide)) (fun c33 => ?_)
                refine aw_iload X (pc := 135) 0 rfl dX9_pass_135 ?_
                refine aw_if_ne X (pc := 137) (tgt := 142) (by decide) dX9_pass_137 (fun c34 => ?_) (fun c34 => absurd c34 (by decide))
                refine aw_aload_n X (pc := 142) 4 rfl rfl dX9_pass_142 ?_
                refine aw_iload_n X (pc := 143) 2 rfl rfl dX9_pass_143 ?_
                refine aw_iload X (pc := 144) 0 rfl dX9_pass_144 ?_
                refine aw_callVF X (pc := 146) (q1 := 0) (rest := []) (st' := []) (c_X9_goesOn l D q kc a w hs iv sp lone lt lz dr n (nI k) 1 ha0 (by omega)) rfl rfl ⟨_, _, rfl⟩ rfl cf_X9_78 cd_X9_goesOn dd_X9_goesOn (by decide) (by decide) (by decide) rfl (Nat.le_of_ble_eq_true rfl) dX9_pass_146 rfl ?_
                refine aw_iinc X (pc := 149) (kx := 2) (v := nI (k + 1)) (lv' := [(2, .int (nI (k + 1))), (4, .int 1), (3, .int 1), (1, .int la), (0, .ref (q 0))]) rfl (nn_add (a := k) (b := 1) rfl rfl rfl) (by decide) rfl dX9_pass_149 ?_
                refine aw_goto X (pc := 152) (tgt := 42) (by decide) dX9_pass_152 ?_
                have e35 : b_X9_pass_42 a w n k (la, iv) = (la, (lpF (b_X9_goesOn_2 w (nI k) 1) n 0 iv)) := by simp only [b_X9_pass_42, if_neg c4, if_neg c10, if_neg c18, if_pos c28]
                exact aw_sub (lv' := [(2, .int (nI (k + 1))), (1, .int la), (0, .ref (q 0))]) [0, 3, 4] rfl (ih2 (k + 1) la (lpF (b_X9_goesOn_2 w (nI k) 1) n 0 iv) (by omega)  (by rw [← e35]; exact hf2))
    exact aw_sub (lv' := [(2, .int 0), (1, .int (-1)), (0, .ref (q 0))]) [0, 1, 2] rfl (L2 64 0 (-1) (lpF (b_X9_allIn_2 a w) n 0 inn) (by omega)  rfl)
  · refine aw_aload_n X (pc := 11) 0 rfl rfl dX9_pass_11 ?_
    refine aw_get X (pc := 12) iX9 0 0 rfl rfl (by decide) fl_X9_7 rfl dX9_pass_12 ?_
    refine aw_bipush X (pc := 15) (v := 14) dX9_pass_15 (by decide) ?_
    refine aw_dup2_11 X (pc := 17) dX9_pass_17 rfl rfl ?_
    refine aw_iald X (pc := 18) 1 0 14 rfl rfl rfl (by decide) (by omega) dX9_pass_18 ?_
    refine aw_iconst X (pc := 19) (v := 1) dX9_pass_19 (by decide) ?_
    refine aw_iadd X (pc := 20) (z := (a 14) + 1) rfl  dX9_pass_20 ?_
    refine aw_iast X (pc := 21) 1 0 (ws' := (mW q kc (upd a 14 ((a 14) + 1)) w hs (lpF (b_X9_allIn_2 a w) n 0 inn) sp lone lt lz dr)) 14 rfl  rfl rfl (by decide) (by omega) rfl dX9_pass_21 ?_
    have ha50 : (upd a 14 ((a 14) + 1)) 0 = nI n := by rw [pk_un (by omega)]; exact ha0
    have ha51 : (upd a 14 ((a 14) + 1)) 15 = nI f := by rw [pk_un (by omega)]; exact ha15
    refine aw_aload_n X (pc := 22) 0 rfl rfl dX9_pass_22 ?_
    refine aw_get X (pc := 23) iX9 0 0 rfl rfl (by decide) fl_X9_7 rfl dX9_pass_23 ?_
    refine aw_iconst X (pc := 26) (v := 2) dX9_pass_26 (by decide) ?_
    refine aw_iconst X (pc := 27) (v := (-1)) dX9_pass_27 (by decide) ?_
    refine aw_iast X (pc := 28) 1 0 (ws' := (mW q kc (upd (upd a 14 ((a 14) + 1)) 2 (-1)) w hs (lpF (b_X9_allIn_2 a w) n 0 inn) sp lone lt lz dr)) 2 rfl  rfl rfl (by decide) (by omega) rfl dX9_pass_28 ?_
    have ha52 : (upd (upd a 14 ((a 14) + 1)) 2 (-1)) 0 = nI n := by rw [pk_un (by omega)]; exact ha50
    have ha53 : (upd (upd a 14 ((a 14) + 1)) 2 (-1)) 15 = nI f := by rw [pk_un (by omega)]; exact ha51
    refine aw_aload_n X (pc := 29) 0 rfl rfl dX9_pass_29 ?_
    refine aw_get X (pc := 30) iX9 0 0 rfl rfl (by decide) fl_X9_7 rfl dX9_pass_30 ?_
    refine aw_iconst X (pc := 33) (v := 3) dX9_pass_33 (by decide) ?_
    refine aw_iconst X (pc := 34) (v := 0) dX9_pass_34 (by decide) ?_
    refine aw_iast X (pc := 35) 1 0 (ws' := (mW q kc (upd (upd (upd a 14 ((a 14) + 1)) 2 (-1)) 3 0) w hs (lpF (b_X9_allIn_2 a w) n 0 inn) sp lone lt lz dr)) 3 rfl  rfl rfl (by decide) (by omega) rfl dX9_pass_35 ?_
    have ha54 : (upd (upd (upd a 14 ((a 14) + 1)) 2 (-1)) 3 0) 0 = nI n := by rw [pk_un (by omega)]; exact ha52
    have ha55 : (upd (upd (upd a 14 ((a 14) + 1)) 2 (-1)) 3 0) 15 = nI f := by rw [pk_un (by omega)]; exact ha53
    refine aw_iconst X (pc := 36) (v := (-1)) dX9_pass_36 (by decide) ?_
    exact aw_iret X (v := (-1)) hQ (by simp only [r_X9_pass, if_neg c1]; try rfl) (by simp only [u_X9_pass_a, u_X9_pass_w, u_X9_pass_inn, if_neg c1]) dX9_pass_37

def b_X9_verify_6 (w : Nat → Int64) (n : Nat) (name : Int64) (k : Nat) (σ : (Nat → Int32)) : (Nat → Int32) := (lpF (b_X9_goesOn_2 w (nI k) (r_X9_bitOf name (nI k))) n 0 σ)
def g_X9_verify_6 (n : Nat) (k : Nat) (σ : (Nat → Int32)) : Bool := !decide ((lpF (b_X9_oneIn_4 σ) n 0 (-1)) < 0)
def r_X9_verify (a : Nat → Int32) (w : Nat → Int64) (inn : Nat → Int32) (n : Nat) (name : Int64) : Int32 := if (lpF (b_X9_oneIn_4 ((lpW (g_X9_verify_6 n) (b_X9_verify_6 w n name) 64 0 (lpF (b_X9_allIn_2 a w) n 0 inn)).2)) n 0 (-1)) < 0 then 0 else 1
def u_X9_verify_a (a : Nat → Int32) (w : Nat → Int64) (inn : Nat → Int32) (n : Nat) (name : Int64) : Nat → Int32 := upd a 14 ((a 14) + (nI (1 + 3 * ((lpW (g_X9_verify_6 n) (b_X9_verify_6 w n name) 64 0 (lpF (b_X9_allIn_2 a w) n 0 inn)).1))))
def u_X9_verify_inn (a : Nat → Int32) (w : Nat → Int64) (inn : Nat → Int32) (n : Nat) (name : Int64) : Nat → Int32 := ((lpW (g_X9_verify_6 n) (b_X9_verify_6 w n name) 64 0 (lpF (b_X9_allIn_2 a w) n 0 inn)).2)
theorem z_X9_verify (a : Nat → Int32) (w : Nat → Int64) (inn : Nat → Int32) (n : Nat) (name : Int64) : r_X9_verify a w inn n name = 0 ∨ r_X9_verify a w inn n name = 1 := by
  unfold r_X9_verify
  by_cases h0 : (lpF (b_X9_oneIn_4 ((lpW (g_X9_verify_6 n) (b_X9_verify_6 w n name) 64 0 (lpF (b_X9_allIn_2 a w) n 0 inn)).2)) n 0 (-1)) < 0
  · try rw [if_pos h0]
    exact Or.inl rfl
  · try rw [if_neg h0]
    exact Or.inr rfl
abbrev rm_X9_verify : Room := { frames := 3, cells := 0, slots := 0, locals := 64 }
set_option maxHeartbeats 400000 in
set_option maxRecDepth 100000 in
theorem c_X9_verify (l : Launch) (D : va_G) (q : Nat → Nat) (kc : Nat → ClassId) (a : Nat → Int32) (w : Nat → Int64) (hs : Nat → Int32) (inn : Nat → Int32) (sp : Nat → Int32) (lone : Int32) (lt : Nat → Int64) (lz : Nat → Int32) (dr : Nat → Int32) (n : Nat) (name : Int64) (ha0 : a 0 = nI n) (hn : n ≤ 40) : MW l D yX9_verify (Cond.code yX9_verify cX9_verify 4 (some .boolean) :: TT) rm_X9_verify [.ref (q 0), .long name] [(kc 1, .int), (kc 2, .long), (kc 3, .boolean), (kc 4, .boolean), (kc 5, .boolean), (kc 6, .long), (kc 7, .int), (kc 8, .int)] (mW q kc a w hs inn sp lone lt lz dr) (some (.int (r_X9_verify a w inn n name))) (mW q kc (u_X9_verify_a a w inn n name) w hs (u_X9_verify_inn a w inn n name) sp lone lt lz dr) := by
  refine MW.of (cc := cX9_verify) (nL := 4) (ret := (some .boolean)) (lv := [(0, .ref (q 0)), (1, .long name)]) (by decide) ((mW_ad ..).trans (mW_ad ..).symm) rfl (Nat.le_of_ble_eq_true rfl) ?_
  intro p e s m args below meth c A Q hQ X
  refine aw_aload_n X (pc := 0) 0 rfl rfl dX9_verify_0 ?_
  refine aw_callVF X (pc := 1) (q1 := 0) (rest := []) (st' := []) (c_X9_allIn l D q kc a w hs inn sp lone lt lz dr n ha0 (by omega)) rfl rfl ⟨_, _, rfl⟩ rfl cf_X9_69 cd_X9_allIn dd_X9_allIn (by decide) (by decide) (by decide) rfl (Nat.le_of_ble_eq_true rfl) dX9_verify_1 rfl ?_
  refine aw_iconst X (pc := 4) (v := 0) dX9_verify_4 (by decide) ?_
  refine aw_istore_n X (pc := 5) (lv' := [(3, .int 0), (0, .ref (q 0)), (1, .long name)]) rfl (by decide) rfl dX9_verify_5 ?_
  have hx1 : ∀ (k : Nat) (iv : Nat → Int32), k ≤ 64 → (k, iv) = lpW (g_X9_verify_6 n) (b_X9_verify_6 w n name) 64 0 (lpF (b_X9_allIn_2 a w) n 0 inn) → AW p l e rm_X9_verify s m args below meth c D A 4 0 0 Q 35 [(3, .int (nI k)), (0, .ref (q 0)), (1, .long name)] [] (mW q kc a w hs iv sp lone lt lz dr) := by
    intro k iv hk1  hf1
    refine aw_aload_n X (pc := 35) 1 rfl rfl dX9_verify_35 ?_
    refine aw_get X (pc := 36) iX9 0 0 rfl rfl (by decide) fl_X9_7 rfl dX9_verify_36 ?_
    refine aw_bipush X (pc := 39) (v := 14) dX9_verify_39 (by decide) ?_
    refine aw_dup2_11 X (pc := 41) dX9_verify_41 rfl rfl ?_
    refine aw_iald X (pc := 42) 1 0 14 rfl rfl rfl (by decide) (by omega) dX9_verify_42 ?_
    refine aw_iconst X (pc := 43) (v := 1) dX9_verify_43 (by decide) ?_
    refine aw_iconst X (pc := 44) (v := 3) dX9_verify_44 (by decide) ?_
    refine aw_iload_n X (pc := 45) 0 rfl rfl dX9_verify_45 ?_
    refine aw_imul X (pc := 46) (z := nI (3 * k)) (nn_mul (a := 3) (b := k) rfl rfl (by first | rfl | omega))  dX9_verify_46 ?_
    refine aw_iadd X (pc := 47) (z := nI (1 + 3 * k)) (nn_add (a := 1) (b := 3 * k) rfl rfl (by first | rfl | omega))  dX9_verify_47 ?_
    refine aw_iadd X (pc := 48) (z := (a 14) + (nI (1 + 3 * k))) rfl  dX9_verify_48 ?_
    refine aw_iast X (pc := 49) 1 0 (ws' := (mW q kc (upd a 14 ((a 14) + (nI (1 + 3 * k)))) w hs iv sp lone lt lz dr)) 14 rfl  rfl rfl (by decide) (by omega) rfl dX9_verify_49 ?_
    have ha5 : (upd a 14 ((a 14) + (nI (1 + 3 * k)))) 0 = nI n := by rw [pk_un (by omega)]; exact ha0
    refine aw_aload_n X (pc := 50) 1 rfl rfl dX9_verify_50 ?_
    refine aw_callVF X (pc := 51) (q1 := 0) (rest := []) (st' := [.int (lpF (b_X9_oneIn_4 iv) n 0 (-1))]) (c_X9_oneIn l D q kc (upd a 14 ((a 14) + (nI (1 + 3 * k)))) w hs iv sp lone lt lz dr n ha5 (by omega)) rfl rfl ⟨_, _, rfl⟩ rfl cf_X9_72 cd_X9_oneIn dd_X9_oneIn (by decide) (by decide) (by decide) rfl (Nat.le_of_ble_eq_true rfl) dX9_verify_51 rfl ?_
    refine aw_if_lt X (pc := 54) (tgt := 61) (by decide) dX9_verify_54 (fun c6 => ?_) (fun c6 => ?_)
    · refine aw_iconst X (pc := 61) (v := 0) dX9_verify_61 (by decide) ?_
      exact aw_zret X (v := 0) rfl hQ (by simp only [r_X9_verify, if_pos c6, ← hf1]; try rfl) (by simp only [u_X9_verify_a, u_X9_verify_inn, if_pos c6, ← hf1]) dX9_verify_62
    · refine aw_iconst X (pc := 57) (v := 1) dX9_verify_57 (by decide) ?_
      refine aw_goto X (pc := 58) (tgt := 62) (by decide) dX9_verify_58 ?_
      exact aw_zret X (v := 1) rfl hQ (by simp only [r_X9_verify, if_neg c6, ← hf1]; try rfl) (by simp only [u_X9_verify_a, u_X9_verify_inn, if_neg c6, ← hf1]) dX9_verify_62
  have L1 : ∀ (n1 k : Nat) (iv : Nat → Int32), k + n1 = 64 → lpW (g_X9_verify_6 n) (b_X9_verify_6 w n name) n1 k iv = lpW (g_X9_verify_6 n) (b_X9_verify_6 w n name) 64 0 (lpF (b_X9_allIn_2 a w) n 0 inn) → AW p l e rm_X9_verify s m args below meth c D A 4 0 0 Q 6 [(3, .int (nI k)), (0, .ref (q 0)), (1, .long name)] [] (mW q kc a w hs iv sp lone lt lz dr) := by
    intro n1; induction n1 with
    | zero =>
      intro k iv hk1  hf1
      refine aw_iload_n X (pc := 6) 0 rfl rfl dX9_verify_6 ?_
      refine aw_bipush X (pc := 7) (v := 64) dX9_verify_7 (by decide) ?_
      refine aw_icmp_ge X (pc := 9) (tgt := 35) (by decide) dX9_verify_9 (fun c7 => ?_) (fun c7 => absurd (nn_le (a := 64) (b := k) rfl rfl (by omega) (by omega)) c7)
      exact aw_sub (lv' := [(3, .int (nI k)), (0, .ref (q 0)), (1, .long name)]) [0, 1, 2] rfl (hx1 k iv (by omega)  hf1)
    | succ n1 ih1 =>
      intro k iv hk1  hf1
      refine aw_iload_n X (pc := 6) 0 rfl rfl dX9_verify_6 ?_
      refine aw_bipush X (pc := 7) (v := 64) dX9_verify_7 (by decide) ?_
      refine aw_icmp_ge X (pc := 9) (tgt := 35) (by decide) dX9_verify_9 (fun c2 => absurd c2 (nn_nle (a := 64) (b := k) rfl rfl (by omega) (by omega))) (fun c2 => ?_)
      refine aw_aload_n X (pc := 12) 1 rfl rfl dX9_verify_12 ?_
      refine aw_callVF X (pc := 13) (q1 := 0) (rest := []) (st' := [.int (lpF (b_X9_oneIn_4 iv) n 0 (-1))]) (c_X9_oneIn l D q kc a w hs iv sp lone lt lz dr n ha0 (by omega)) rfl rfl ⟨_, _, rfl⟩ rfl cf_X9_72 cd_X9_oneIn dd_X9_oneIn (by decide) (by decide) (by decide) rfl (Nat.le_of_ble_eq_true rfl) dX9_verify_13 rfl ?_
      refine aw_if_lt X (pc := 16) (tgt := 35) (by decide) dX9_verify_16 (fun c3 => ?_) (fun c3 => ?_)
      · exact aw_sub (lv' := [(3, .int (nI k)), (0, .ref (q 0)), (1, .long name)]) [0, 1, 2] rfl (hx1 k iv (by omega)  (by rw [← lpW_stop (go := g_X9_verify_6 n) (body := b_X9_verify_6 w n name) (n := n1) (k := k) (s := iv) (by simp [g_X9_verify_6, c3])]; exact hf1))
      · refine aw_aload_n X (pc := 19) 1 rfl rfl dX9_verify_19 ?_
        refine aw_iload_n X (pc := 20) 0 rfl rfl dX9_verify_20 ?_
        refine aw_lload_n X (pc := 21) 2 rfl rfl dX9_verify_21 ?_
        refine aw_iload_n X (pc := 22) 0 rfl rfl dX9_verify_22 ?_
        refine aw_callS X (pc := 23) (rest := [.int (nI k), .ref (q 0)]) (st' := [.int (r_X9_bitOf name (nI k)), .int (nI k), .ref (q 0)]) (ws' := (mW q kc a w hs iv sp lone lt lz dr)) (c_X9_bitOf l D name (nI k)) rfl [] [] rfl (by decide +kernel) rfl rfl cf_X9_40 cd_X9_bitOf dd_X9_bitOf (by decide) (by decide) (by decide) rfl (Nat.le_of_ble_eq_true rfl) dX9_verify_23 rfl ?_
        refine aw_callVF X (pc := 26) (q1 := 0) (rest := []) (st' := []) (c_X9_goesOn l D q kc a w hs iv sp lone lt lz dr n (nI k) (r_X9_bitOf name (nI k)) ha0 (by omega)) rfl rfl ⟨_, _, rfl⟩ rfl cf_X9_78 cd_X9_goesOn dd_X9_goesOn (by decide) (by decide) (by decide) rfl (Nat.le_of_ble_eq_true rfl) dX9_verify_26 rfl ?_
        refine aw_iinc X (pc := 29) (kx := 0) (v := nI (k + 1)) (lv' := [(3, .int (nI (k + 1))), (0, .ref (q 0)), (1, .long name)]) rfl (nn_add (a := k) (b := 1) rfl rfl rfl) (by decide) rfl dX9_verify_29 ?_
        refine aw_goto X (pc := 32) (tgt := 6) (by decide) dX9_verify_32 ?_
        have e4 : b_X9_verify_6 w n name k iv = (lpF (b_X9_goesOn_2 w (nI k) (r_X9_bitOf name (nI k))) n 0 iv) := by first | rfl | simp only [b_X9_verify_6]
        exact aw_sub (lv' := [(3, .int (nI (k + 1))), (0, .ref (q 0)), (1, .long name)]) [0, 1, 2] rfl (ih1 (k + 1) (lpF (b_X9_goesOn_2 w (nI k) (r_X9_bitOf name (nI k))) n 0 iv) (by omega)  (by rw [← e4, ← lpW_go (go := g_X9_verify_6 n) (body := b_X9_verify_6 w n name) (n := n1) (k := k) (s := iv) (by simp [g_X9_verify_6, c3])]; exact hf1))
  exact aw_sub (lv' := [(3, .int 0), (0, .ref (q 0)), (1, .long name)]) [0, 1, 2] rfl (L1 64 0 (lpF (b_X9_allIn_2 a w) n 0 inn) (by omega)  rfl)

def b_X9_image_19 (kk : Int32) (k : Nat) (σ : (Nat → Int32)) : (Nat → Int32) := (upd σ (540 * (kk.toNatClampNeg + 1) + k) (σ k))
def b_X9_image_54 (kk : Int32) (k : Nat) (σ : (Nat → Int64)) : (Nat → Int64) := (vp_updL σ (124 * (kk.toNatClampNeg + 1) + k) (σ k))
def r_X9_image (kk : Int32) : Int32 := if r_X9_isIn kk 4 = 0 then 0 else 1
def u_X9_image_a (a : Nat → Int32) (kk : Int32) : Nat → Int32 := if r_X9_isIn kk 4 = 0 then a else (lpF (b_X9_image_19 kk) 540 0 a)
def u_X9_image_w (w : Nat → Int64) (kk : Int32) : Nat → Int64 := if r_X9_isIn kk 4 = 0 then w else (lpF (b_X9_image_54 kk) 124 0 w)
def u_X9_image_hs (hs : Nat → Int32) (kk : Int32) : Nat → Int32 := if r_X9_isIn kk 4 = 0 then hs else (upd hs kk.toNatClampNeg 1)
theorem z_X9_image (kk : Int32) : r_X9_image kk = 0 ∨ r_X9_image kk = 1 := by
  unfold r_X9_image
  by_cases h0 : r_X9_isIn kk 4 = 0
  · try rw [if_pos h0]
    exact Or.inl rfl
  · try rw [if_neg h0]
    exact Or.inr rfl
abbrev rm_X9_image : Room := { frames := 1, cells := 0, slots := 0, locals := 21 }
set_option maxHeartbeats 400000 in
set_option maxRecDepth 100000 in
theorem c_X9_image (l : Launch) (D : va_G) (q : Nat → Nat) (kc : Nat → ClassId) (a : Nat → Int32) (w : Nat → Int64) (hs : Nat → Int32) (inn : Nat → Int32) (sp : Nat → Int32) (lone : Int32) (lt : Nat → Int64) (lz : Nat → Int32) (dr : Nat → Int32) (kk : Int32)  : MW l D yX9_image (Cond.code yX9_image cX9_image 3 (some .boolean) :: TT) rm_X9_image [.ref (q 0), .int kk] [(kc 1, .int), (kc 2, .long), (kc 3, .boolean), (kc 4, .boolean), (kc 5, .boolean), (kc 6, .long), (kc 7, .int), (kc 8, .int)] (mW q kc a w hs inn sp lone lt lz dr) (some (.int (r_X9_image kk))) (mW q kc (u_X9_image_a a kk) (u_X9_image_w w kk) (u_X9_image_hs hs kk) inn sp lone lt lz dr) := by
  refine MW.of (cc := cX9_image) (nL := 3) (ret := (some .boolean)) (lv := [(0, .ref (q 0)), (1, .int kk)]) (by decide) ((mW_ad ..).trans (mW_ad ..).symm) rfl (Nat.le_of_ble_eq_true rfl) ?_
  intro p e s m args below meth c A Q hQ X
  refine aw_iload_n X (pc := 0) 1 rfl rfl dX9_image_0 ?_
  refine aw_iconst X (pc := 1) (v := 4) dX9_image_1 (by decide) ?_
  refine aw_callS X (pc := 2) (rest := []) (st' := [.int (r_X9_isIn kk 4)]) (ws' := (mW q kc a w hs inn sp lone lt lz dr)) (c_X9_isIn l D kk 4) rfl [] [] rfl (by decide +kernel) rfl rfl cf_X9_36 cd_X9_isIn dd_X9_isIn (by decide) (by decide) (by decide) rfl (Nat.le_of_ble_eq_true rfl) dX9_image_2 rfl ?_
  refine aw_if_ne X (pc := 5) (tgt := 10) (by decide) dX9_image_5 (fun c1 => ?_) (fun c1 => ?_)
  · obtain ⟨ht2, hu3⟩ := isIn_nat (n := 4) rfl (by decide) c1
    refine aw_aload_n X (pc := 10) 0 rfl rfl dX9_image_10 ?_
    refine aw_get X (pc := 11) iX9 0 2 rfl rfl (by decide) fl_X9_17 rfl dX9_image_11 ?_
    refine aw_iload_n X (pc := 14) 1 rfl rfl dX9_image_14 ?_
    refine aw_iconst X (pc := 15) (v := 1) dX9_image_15 (by decide) ?_
    refine aw_zast X (pc := 16) 3 2 (ws' := (mW q kc a w (upd hs kk.toNatClampNeg 1) inn sp lone lt lz dr)) kk.toNatClampNeg ht2 (by decide) rfl rfl (by decide) (by omega) rfl dX9_image_16 ?_
    refine aw_iconst X (pc := 17) (v := 0) dX9_image_17 (by decide) ?_
    refine aw_istore_n X (pc := 18) (lv' := [(2, .int 0), (0, .ref (q 0)), (1, .int kk)]) rfl (by decide) rfl dX9_image_18 ?_
    have L4 : ∀ (n4 k : Nat) (av : Nat → Int32), k + n4 = 540 → lpF (b_X9_image_19 kk) n4 k av = lpF (b_X9_image_19 kk) 540 0 a → AW p l e rm_X9_image s m args below meth c D A 3 0 0 Q 19 [(2, .int (nI k)), (0, .ref (q 0)), (1, .int kk)] [] (mW q kc av w (upd hs kk.toNatClampNeg 1) inn sp lone lt lz dr) := by
      intro n4; induction n4 with
      | zero =>
        intro k av hk4  hf4
        have hf4 : av = lpF (b_X9_image_19 kk) 540 0 a := hf4
        refine aw_iload_n X (pc := 19) 0 rfl rfl dX9_image_19 ?_
        refine aw_sipush X (pc := 20) (v := 540) dX9_image_20 (by decide) ?_
        refine aw_icmp_ge X (pc := 23) (tgt := 52) (by decide) dX9_image_23 (fun c7 => ?_) (fun c7 => absurd (nn_le (a := 540) (b := k) rfl rfl (by omega) (by omega)) c7)
        refine aw_iconst X (pc := 52) (v := 0) dX9_image_52 (by decide) ?_
        refine aw_istore_n X (pc := 53) (lv' := [(2, .int 0), (0, .ref (q 0)), (1, .int kk)]) rfl (by decide) rfl dX9_image_53 ?_
        have L8 : ∀ (n8 k : Nat) (wv : Nat → Int64), k + n8 = 124 → lpF (b_X9_image_54 kk) n8 k wv = lpF (b_X9_image_54 kk) 124 0 w → AW p l e rm_X9_image s m args below meth c D A 3 0 0 Q 54 [(2, .int (nI k)), (0, .ref (q 0)), (1, .int kk)] [] (mW q kc av wv (upd hs kk.toNatClampNeg 1) inn sp lone lt lz dr) := by
          intro n8; induction n8 with
          | zero =>
            intro k wv hk8  hf8
            have hf8 : wv = lpF (b_X9_image_54 kk) 124 0 w := hf8
            refine aw_iload_n X (pc := 54) 0 rfl rfl dX9_image_54 ?_
            refine aw_bipush X (pc := 55) (v := 124) dX9_image_55 (by decide) ?_
            refine aw_icmp_ge X (pc := 57) (tgt := 85) (by decide) dX9_image_57 (fun c11 => ?_) (fun c11 => absurd (nn_le (a := 124) (b := k) rfl rfl (by omega) (by omega)) c11)
            refine aw_iconst X (pc := 85) (v := 1) dX9_image_85 (by decide) ?_
            exact aw_zret X (v := 1) rfl hQ (by simp only [r_X9_image, if_neg c1, ← hf4, ← hf8]; try rfl) (by simp only [u_X9_image_a, u_X9_image_w, u_X9_image_hs, if_neg c1, ← hf4, ← hf8]) dX9_image_86
          | succ n8 ih8 =>
            intro k wv hk8  hf8
            have hf8 : lpF (b_X9_image_54 kk) n8 (k + 1) (b_X9_image_54 kk k wv) = lpF (b_X9_image_54 kk) 124 0 w := hf8
            refine aw_iload_n X (pc := 54) 0 rfl rfl dX9_image_54 ?_
            refine aw_bipush X (pc := 55) (v := 124) dX9_image_55 (by decide) ?_
            refine aw_icmp_ge X (pc := 57) (tgt := 85) (by decide) dX9_image_57 (fun c9 => absurd c9 (nn_nle (a := 124) (b := k) rfl rfl (by omega) (by omega))) (fun c9 => ?_)
            refine aw_aload_n X (pc := 60) 1 rfl rfl dX9_image_60 ?_
            refine aw_get X (pc := 61) iX9 0 1 rfl rfl (by decide) fl_X9_13 rfl dX9_image_61 ?_
            refine aw_bipush X (pc := 64) (v := 124) dX9_image_64 (by decide) ?_
            refine aw_iload_n X (pc := 66) 2 rfl rfl dX9_image_66 ?_
            refine aw_iconst X (pc := 67) (v := 1) dX9_image_67 (by decide) ?_
            refine aw_iadd X (pc := 68) (z := nI (kk.toNatClampNeg + 1)) (nn_add (a := kk.toNatClampNeg) (b := 1) ht2 rfl (by first | rfl | omega))  dX9_image_68 ?_
            refine aw_imul X (pc := 69) (z := nI (124 * (kk.toNatClampNeg + 1))) (nn_mul (a := 124) (b := kk.toNatClampNeg + 1) rfl rfl (by first | rfl | omega))  dX9_image_69 ?_
            refine aw_iload_n X (pc := 70) 0 rfl rfl dX9_image_70 ?_
            refine aw_iadd X (pc := 71) (z := nI (124 * (kk.toNatClampNeg + 1) + k)) (nn_add (a := 124 * (kk.toNatClampNeg + 1)) (b := k) rfl rfl (by first | rfl | omega))  dX9_image_71 ?_
            refine aw_aload_n X (pc := 72) 1 rfl rfl dX9_image_72 ?_
            refine aw_get X (pc := 73) iX9 0 1 rfl rfl (by decide) fl_X9_13 rfl dX9_image_73 ?_
            refine aw_iload_n X (pc := 76) 0 rfl rfl dX9_image_76 ?_
            refine aw_lald X (pc := 77) 2 1 k rfl rfl rfl (by decide) (by omega) dX9_image_77 ?_
            refine aw_last X (pc := 78) 2 1 (ws' := (mW q kc av (vp_updL wv (124 * (kk.toNatClampNeg + 1) + k) (wv k)) (upd hs kk.toNatClampNeg 1) inn sp lone lt lz dr)) (124 * (kk.toNatClampNeg + 1) + k) rfl  rfl rfl (by decide) (by omega) rfl dX9_image_78 ?_
            refine aw_iinc X (pc := 79) (kx := 0) (v := nI (k + 1)) (lv' := [(2, .int (nI (k + 1))), (0, .ref (q 0)), (1, .int kk)]) rfl (nn_add (a := k) (b := 1) rfl rfl rfl) (by decide) rfl dX9_image_79 ?_
            refine aw_goto X (pc := 82) (tgt := 54) (by decide) dX9_image_82 ?_
            have e10 : b_X9_image_54 kk k wv = (vp_updL wv (124 * (kk.toNatClampNeg + 1) + k) (wv k)) := by first | rfl | simp only [b_X9_image_54]
            exact aw_sub (lv' := [(2, .int (nI (k + 1))), (0, .ref (q 0)), (1, .int kk)]) [0, 1, 2] rfl (ih8 (k + 1) (vp_updL wv (124 * (kk.toNatClampNeg + 1) + k) (wv k)) (by omega)  (by rw [← e10]; exact hf8))
        exact aw_sub (lv' := [(2, .int 0), (0, .ref (q 0)), (1, .int kk)]) [0, 1, 2] rfl (L8 124 0 w (by omega)  rfl)
      | succ n4 ih4 =>
        intro k av hk4  hf4
        have hf4 : lpF (b_X9_image_19 kk) n4 (k + 1) (b_X9_image_19 kk k av) = lpF (b_X9_image_19 kk) 540 0 a := hf4
        refine aw_iload_n X (pc := 19) 0 rfl rfl dX9_image_19 ?_
        refine aw_sipush X (pc := 20) (v := 540) dX9_image_20 (by decide) ?_
        refine aw_icmp_ge X (pc := 23) (tgt := 52) (by decide) dX9_image_23 (fun c5 => absurd c5 (nn_nle (a := 540) (b := k) rfl rfl (by omega) (by omega))) (fun c5 => ?_)
        refine aw_aload_n X (pc := 26) 1 rfl rfl dX9_image_26 ?_
        refine aw_get X (pc := 27) iX9 0 0 rfl rfl (by decide) fl_X9_7 rfl dX9_image_27 ?_
        refine aw_sipush X (pc := 30) (v := 540) dX9_image_30 (by decide) ?_
        refine aw_iload_n X (pc := 33) 2 rfl rfl dX9_image_33 ?_
        refine aw_iconst X (pc := 34) (v := 1) dX9_image_34 (by decide) ?_
        refine aw_iadd X (pc := 35) (z := nI (kk.toNatClampNeg + 1)) (nn_add (a := kk.toNatClampNeg) (b := 1) ht2 rfl (by first | rfl | omega))  dX9_image_35 ?_
        refine aw_imul X (pc := 36) (z := nI (540 * (kk.toNatClampNeg + 1))) (nn_mul (a := 540) (b := kk.toNatClampNeg + 1) rfl rfl (by first | rfl | omega))  dX9_image_36 ?_
        refine aw_iload_n X (pc := 37) 0 rfl rfl dX9_image_37 ?_
        refine aw_iadd X (pc := 38) (z := nI (540 * (kk.toNatClampNeg + 1) + k)) (nn_add (a := 540 * (kk.toNatClampNeg + 1)) (b := k) rfl rfl (by first | rfl | omega))  dX9_image_38 ?_
        refine aw_aload_n X (pc := 39) 1 rfl rfl dX9_image_39 ?_
        refine aw_get X (pc := 40) iX9 0 0 rfl rfl (by decide) fl_X9_7 rfl dX9_image_40 ?_
        refine aw_iload_n X (pc := 43) 0 rfl rfl dX9_image_43 ?_
        refine aw_iald X (pc := 44) 1 0 k rfl rfl rfl (by decide) (by omega) dX9_image_44 ?_
        refine aw_iast X (pc := 45) 1 0 (ws' := (mW q kc (upd av (540 * (kk.toNatClampNeg + 1) + k) (av k)) w (upd hs kk.toNatClampNeg 1) inn sp lone lt lz dr)) (540 * (kk.toNatClampNeg + 1) + k) rfl  rfl rfl (by decide) (by omega) rfl dX9_image_45 ?_
        refine aw_iinc X (pc := 46) (kx := 0) (v := nI (k + 1)) (lv' := [(2, .int (nI (k + 1))), (0, .ref (q 0)), (1, .int kk)]) rfl (nn_add (a := k) (b := 1) rfl rfl rfl) (by decide) rfl dX9_image_46 ?_
        refine aw_goto X (pc := 49) (tgt := 19) (by decide) dX9_image_49 ?_
        have e6 : b_X9_image_19 kk k av = (upd av (540 * (kk.toNatClampNeg + 1) + k) (av k)) := by first | rfl | simp only [b_X9_image_19]
        exact aw_sub (lv' := [(2, .int (nI (k + 1))), (0, .ref (q 0)), (1, .int kk)]) [0, 1, 2] rfl (ih4 (k + 1) (upd av (540 * (kk.toNatClampNeg + 1) + k) (av k)) (by omega)  (by rw [← e6]; exact hf4))
    exact aw_sub (lv' := [(2, .int 0), (0, .ref (q 0)), (1, .int kk)]) [0, 1, 2] rfl (L4 540 0 a (by omega)  rfl)
  · refine aw_iconst X (pc := 8) (v := 0) dX9_image_8 (by decide) ?_
    exact aw_zret X (v := 0) rfl hQ (by simp only [r_X9_image, if_pos c1]; try rfl) (by simp only [u_X9_image_a, u_X9_image_w, u_X9_image_hs, if_pos c1]) dX9_image_9

def b_X9_again_21 (kk : Int32) (k : Nat) (σ : (Nat → Int32)) : (Nat → Int32) := (upd σ k (σ (540 * (kk.toNatClampNeg + 1) + k)))
def b_X9_again_56 (kk : Int32) (k : Nat) (σ : (Nat → Int64)) : (Nat → Int64) := (vp_updL σ k (σ (124 * (kk.toNatClampNeg + 1) + k)))
def r_X9_again (hs : Nat → Int32) (kk : Int32) : Int32 := if r_X9_isIn kk 4 = 0 then 0 else (if hs kk.toNatClampNeg = 0 then 0 else 1)
def u_X9_again_a (a : Nat → Int32) (hs : Nat → Int32) (kk : Int32) : Nat → Int32 := if r_X9_isIn kk 4 = 0 then a else (if hs kk.toNatClampNeg = 0 then a else (lpF (b_X9_again_21 kk) 540 0 a))
def u_X9_again_w (w : Nat → Int64) (hs : Nat → Int32) (kk : Int32) : Nat → Int64 := if r_X9_isIn kk 4 = 0 then w else (if hs kk.toNatClampNeg = 0 then w else (lpF (b_X9_again_56 kk) 124 0 w))
theorem z_X9_again (hs : Nat → Int32) (kk : Int32) : r_X9_again hs kk = 0 ∨ r_X9_again hs kk = 1 := by
  unfold r_X9_again
  by_cases h0 : r_X9_isIn kk 4 = 0
  · try rw [if_pos h0]
    exact Or.inl rfl
  · try rw [if_neg h0]
    by_cases h1 : hs kk.toNatClampNeg = 0
    · try rw [if_pos h1]
      exact Or.inl rfl
    · try rw [if_neg h1]
      exact Or.inr rfl
abbrev rm_X9_again : Room := { frames := 1, cells := 0, slots := 0, locals := 21 }
set_option maxHeartbeats 400000 in
set_option maxRecDepth 100000 in
theorem c_X9_again (l : Launch) (D : va_G) (q : Nat → Nat) (kc : Nat → ClassId) (a : Nat → Int32) (w : Nat → Int64) (hs : Nat → Int32) (inn : Nat → Int32) (sp : Nat → Int32) (lone : Int32) (lt : Nat → Int64) (lz : Nat → Int32) (dr : Nat → Int32) (kk : Int32)  : MW l D yX9_again (Cond.code yX9_again cX9_again 3 (some .boolean) :: TT) rm_X9_again [.ref (q 0), .int kk] [(kc 1, .int), (kc 2, .long), (kc 3, .boolean), (kc 4, .boolean), (kc 5, .boolean), (kc 6, .long), (kc 7, .int), (kc 8, .int)] (mW q kc a w hs inn sp lone lt lz dr) (some (.int (r_X9_again hs kk))) (mW q kc (u_X9_again_a a hs kk) (u_X9_again_w w hs kk) hs inn sp lone lt lz dr) := by
  refine MW.of (cc := cX9_again) (nL := 3) (ret := (some .boolean)) (lv := [(0, .ref (q 0)), (1, .int kk)]) (by decide) ((mW_ad ..).trans (mW_ad ..).symm) rfl (Nat.le_of_ble_eq_true rfl) ?_
  intro p e s m args below meth c A Q hQ X
  refine aw_iload_n X (pc := 0) 1 rfl rfl dX9_again_0 ?_
  refine aw_iconst X (pc := 1) (v := 4) dX9_again_1 (by decide) ?_
  refine aw_callS X (pc := 2) (rest := []) (st' := [.int (r_X9_isIn kk 4)]) (ws' := (mW q kc a w hs inn sp lone lt lz dr)) (c_X9_isIn l D kk 4) rfl [] [] rfl (by decide +kernel) rfl rfl cf_X9_36 cd_X9_isIn dd_X9_isIn (by decide) (by decide) (by decide) rfl (Nat.le_of_ble_eq_true rfl) dX9_again_2 rfl ?_
  refine aw_if_eq X (pc := 5) (tgt := 17) (by decide) dX9_again_5 (fun c1 => ?_) (fun c1 => ?_)
  · refine aw_iconst X (pc := 17) (v := 0) dX9_again_17 (by decide) ?_
    exact aw_zret X (v := 0) rfl hQ (by simp only [r_X9_again, if_pos c1]; try rfl) (by simp only [u_X9_again_a, u_X9_again_w, if_pos c1]) dX9_again_18
  · obtain ⟨ht2, hu3⟩ := isIn_nat (n := 4) rfl (by decide) c1
    refine aw_aload_n X (pc := 8) 0 rfl rfl dX9_again_8 ?_
    refine aw_get X (pc := 9) iX9 0 2 rfl rfl (by decide) fl_X9_17 rfl dX9_again_9 ?_
    refine aw_iload_n X (pc := 12) 1 rfl rfl dX9_again_12 ?_
    refine aw_zald X (pc := 13) 3 2 kk.toNatClampNeg ht2 rfl rfl (by decide) (by omega) dX9_again_13 ?_
    refine aw_if_ne X (pc := 14) (tgt := 19) (by decide) dX9_again_14 (fun c4 => ?_) (fun c4 => ?_)
    · refine aw_iconst X (pc := 19) (v := 0) dX9_again_19 (by decide) ?_
      refine aw_istore_n X (pc := 20) (lv' := [(2, .int 0), (0, .ref (q 0)), (1, .int kk)]) rfl (by decide) rfl dX9_again_20 ?_
      have L5 : ∀ (n5 k : Nat) (av : Nat → Int32), k + n5 = 540 → lpF (b_X9_again_21 kk) n5 k av = lpF (b_X9_again_21 kk) 540 0 a → AW p l e rm_X9_again s m args below meth c D A 3 0 0 Q 21 [(2, .int (nI k)), (0, .ref (q 0)), (1, .int kk)] [] (mW q kc av w hs inn sp lone lt lz dr) := by
        intro n5; induction n5 with
        | zero =>
          intro k av hk5  hf5
          have hf5 : av = lpF (b_X9_again_21 kk) 540 0 a := hf5
          refine aw_iload_n X (pc := 21) 0 rfl rfl dX9_again_21 ?_
          refine aw_sipush X (pc := 22) (v := 540) dX9_again_22 (by decide) ?_
          refine aw_icmp_ge X (pc := 25) (tgt := 54) (by decide) dX9_again_25 (fun c8 => ?_) (fun c8 => absurd (nn_le (a := 540) (b := k) rfl rfl (by omega) (by omega)) c8)
          refine aw_iconst X (pc := 54) (v := 0) dX9_again_54 (by decide) ?_
          refine aw_istore_n X (pc := 55) (lv' := [(2, .int 0), (0, .ref (q 0)), (1, .int kk)]) rfl (by decide) rfl dX9_again_55 ?_
          have L9 : ∀ (n9 k : Nat) (wv : Nat → Int64), k + n9 = 124 → lpF (b_X9_again_56 kk) n9 k wv = lpF (b_X9_again_56 kk) 124 0 w → AW p l e rm_X9_again s m args below meth c D A 3 0 0 Q 56 [(2, .int (nI k)), (0, .ref (q 0)), (1, .int kk)] [] (mW q kc av wv hs inn sp lone lt lz dr) := by
            intro n9; induction n9 with
            | zero =>
              intro k wv hk9  hf9
              have hf9 : wv = lpF (b_X9_again_56 kk) 124 0 w := hf9
              refine aw_iload_n X (pc := 56) 0 rfl rfl dX9_again_56 ?_
              refine aw_bipush X (pc := 57) (v := 124) dX9_again_57 (by decide) ?_
              refine aw_icmp_ge X (pc := 59) (tgt := 87) (by decide) dX9_again_59 (fun c12 => ?_) (fun c12 => absurd (nn_le (a := 124) (b := k) rfl rfl (by omega) (by omega)) c12)
              refine aw_iconst X (pc := 87) (v := 1) dX9_again_87 (by decide) ?_
              exact aw_zret X (v := 1) rfl hQ (by simp only [r_X9_again, if_neg c1, if_neg c4, ← hf5, ← hf9]; try rfl) (by simp only [u_X9_again_a, u_X9_again_w, if_neg c1, if_neg c4, ← hf5, ← hf9]) dX9_again_88
            | succ n9 ih9 =>
              intro k wv hk9  hf9
              have hf9 : lpF (b_X9_again_56 kk) n9 (k + 1) (b_X9_again_56 kk k wv) = lpF (b_X9_again_56 kk) 124 0 w := hf9
              refine aw_iload_n X (pc := 56) 0 rfl rfl dX9_again_56 ?_
              refine aw_bipush X (pc := 57) (v := 124) dX9_again_57 (by decide) ?_
              refine aw_icmp_ge X (pc := 59) (tgt := 87) (by decide) dX9_again_59 (fun c10 => absurd c10 (nn_nle (a := 124) (b := k) rfl rfl (by omega) (by omega))) (fun c10 => ?_)
              refine aw_aload_n X (pc := 62) 1 rfl rfl dX9_again_62 ?_
              refine aw_get X (pc := 63) iX9 0 1 rfl rfl (by decide) fl_X9_13 rfl dX9_again_63 ?_
              refine aw_iload_n X (pc := 66) 0 rfl rfl dX9_again_66 ?_
              refine aw_aload_n X (pc := 67) 1 rfl rfl dX9_again_67 ?_
              refine aw_get X (pc := 68) iX9 0 1 rfl rfl (by decide) fl_X9_13 rfl dX9_again_68 ?_
              refine aw_bipush X (pc := 71) (v := 124) dX9_again_71 (by decide) ?_
              refine aw_iload_n X (pc := 73) 2 rfl rfl dX9_again_73 ?_
              refine aw_iconst X (pc := 74) (v := 1) dX9_again_74 (by decide) ?_
              refine aw_iadd X (pc := 75) (z := nI (kk.toNatClampNeg + 1)) (nn_add (a := kk.toNatClampNeg) (b := 1) ht2 rfl (by first | rfl | omega))  dX9_again_75 ?_
              refine aw_imul X (pc := 76) (z := nI (124 * (kk.toNatClampNeg + 1))) (nn_mul (a := 124) (b := kk.toNatClampNeg + 1) rfl rfl (by first | rfl | omega))  dX9_again_76 ?_
              refine aw_iload_n X (pc := 77) 0 rfl rfl dX9_again_77 ?_
              refine aw_iadd X (pc := 78) (z := nI (124 * (kk.toNatClampNeg + 1) + k)) (nn_add (a := 124 * (kk.toNatClampNeg + 1)) (b := k) rfl rfl (by first | rfl | omega))  dX9_again_78 ?_
              refine aw_lald X (pc := 79) 2 1 (124 * (kk.toNatClampNeg + 1) + k) rfl rfl rfl (by decide) (by omega) dX9_again_79 ?_
              refine aw_last X (pc := 80) 2 1 (ws' := (mW q kc av (vp_updL wv k (wv (124 * (kk.toNatClampNeg + 1) + k))) hs inn sp lone lt lz dr)) k rfl  rfl rfl (by decide) (by omega) rfl dX9_again_80 ?_
              refine aw_iinc X (pc := 81) (kx := 0) (v := nI (k + 1)) (lv' := [(2, .int (nI (k + 1))), (0, .ref (q 0)), (1, .int kk)]) rfl (nn_add (a := k) (b := 1) rfl rfl rfl) (by decide) rfl dX9_again_81 ?_
              refine aw_goto X (pc := 84) (tgt := 56) (by decide) dX9_again_84 ?_
              have e11 : b_X9_again_56 kk k wv = (vp_updL wv k (wv (124 * (kk.toNatClampNeg + 1) + k))) := by first | rfl | simp only [b_X9_again_56]
              exact aw_sub (lv' := [(2, .int (nI (k + 1))), (0, .ref (q 0)), (1, .int kk)]) [0, 1, 2] rfl (ih9 (k + 1) (vp_updL wv k (wv (124 * (kk.toNatClampNeg + 1) + k))) (by omega)  (by rw [← e11]; exact hf9))
          exact aw_sub (lv' := [(2, .int 0), (0, .ref (q 0)), (1, .int kk)]) [0, 1, 2] rfl (L9 124 0 w (by omega)  rfl)
        | succ n5 ih5 =>
          intro k av hk5  hf5
          have hf5 : lpF (b_X9_again_21 kk) n5 (k + 1) (b_X9_again_21 kk k av) = lpF (b_X9_again_21 kk) 540 0 a := hf5
          refine aw_iload_n X (pc := 21) 0 rfl rfl dX9_again_21 ?_
          refine aw_sipush X (pc := 22) (v := 540) dX9_again_22 (by decide) ?_
          refine aw_icmp_ge X (pc := 25) (tgt := 54) (by decide) dX9_again_25 (fun c6 => absurd c6 (nn_nle (a := 540) (b := k) rfl rfl (by omega) (by omega))) (fun c6 => ?_)
          refine aw_aload_n X (pc := 28) 1 rfl rfl dX9_again_28 ?_
          refine aw_get X (pc := 29) iX9 0 0 rfl rfl (by decide) fl_X9_7 rfl dX9_again_29 ?_
          refine aw_iload_n X (pc := 32) 0 rfl rfl dX9_again_32 ?_
          refine aw_aload_n X (pc := 33) 1 rfl rfl dX9_again_33 ?_
          refine aw_get X (pc := 34) iX9 0 0 rfl rfl (by decide) fl_X9_7 rfl dX9_again_34 ?_
          refine aw_sipush X (pc := 37) (v := 540) dX9_again_37 (by decide) ?_
          refine aw_iload_n X (pc := 40) 2 rfl rfl dX9_again_40 ?_
          refine aw_iconst X (pc := 41) (v := 1) dX9_again_41 (by decide) ?_
          refine aw_iadd X (pc := 42) (z := nI (kk.toNatClampNeg + 1)) (nn_add (a := kk.toNatClampNeg) (b := 1) ht2 rfl (by first | rfl | omega))  dX9_again_42 ?_
          refine aw_imul X (pc := 43) (z := nI (540 * (kk.toNatClampNeg + 1))) (nn_mul (a := 540) (b := kk.toNatClampNeg + 1) rfl rfl (by first | rfl | omega))  dX9_again_43 ?_
          refine aw_iload_n X (pc := 44) 0 rfl rfl dX9_again_44 ?_
          refine aw_iadd X (pc := 45) (z := nI (540 * (kk.toNatClampNeg + 1) + k)) (nn_add (a := 540 * (kk.toNatClampNeg + 1)) (b := k) rfl rfl (by first | rfl | omega))  dX9_again_45 ?_
          refine aw_iald X (pc := 46) 1 0 (540 * (kk.toNatClampNeg + 1) + k) rfl rfl rfl (by decide) (by omega) dX9_again_46 ?_
          refine aw_iast X (pc := 47) 1 0 (ws' := (mW q kc (upd av k (av (540 * (kk.toNatClampNeg + 1) + k))) w hs inn sp lone lt lz dr)) k rfl  rfl rfl (by decide) (by omega) rfl dX9_again_47 ?_
          refine aw_iinc X (pc := 48) (kx := 0) (v := nI (k + 1)) (lv' := [(2, .int (nI (k + 1))), (0, .ref (q 0)), (1, .int kk)]) rfl (nn_add (a := k) (b := 1) rfl rfl rfl) (by decide) rfl dX9_again_48 ?_
          refine aw_goto X (pc := 51) (tgt := 21) (by decide) dX9_again_51 ?_
          have e7 : b_X9_again_21 kk k av = (upd av k (av (540 * (kk.toNatClampNeg + 1) + k))) := by first | rfl | simp only [b_X9_again_21]
          exact aw_sub (lv' := [(2, .int (nI (k + 1))), (0, .ref (q 0)), (1, .int kk)]) [0, 1, 2] rfl (ih5 (k + 1) (upd av k (av (540 * (kk.toNatClampNeg + 1) + k))) (by omega)  (by rw [← e7]; exact hf5))
      exact aw_sub (lv' := [(2, .int 0), (0, .ref (q 0)), (1, .int kk)]) [0, 1, 2] rfl (L5 540 0 a (by omega)  rfl)
    · refine aw_iconst X (pc := 17) (v := 0) dX9_again_17 (by decide) ?_
      exact aw_zret X (v := 0) rfl hQ (by simp only [r_X9_again, if_neg c1, if_pos c4]; try rfl) (by simp only [u_X9_again_a, u_X9_again_w, if_neg c1, if_pos c4]) dX9_again_18
