abbrev rm_X6_init : Room := { frames := 1, cells := 5, slots := 190, locals := 12 }
set_option maxHeartbeats 1000000 in
set_option maxRecDepth 100000 in
theorem c_X6_init (l : Launch) (D : va_G) (h0 : Nat) : MI l D yX6_init (Cond.code yX6_init cX6_init 1 none :: TT) rm_X6_init 5 190 [.ref h0] [] [(h0, .inr (6, [.null, .null, .null, .null, .null, .int 0, .long 0, .long 0, .long 0, .long 0, .long 0]))] (fun w' tys' => ∃ (qT : Nat → Nat) (kT : Nat → ClassId), qT 0 = h0 ∧ w' = (tagW qT kT (fun _ => 0) (fun _ => 0) (fun _ => 0) (fun _ => 0) (fun _ => 0) 0 0 0 0 0 0) ∧ tys' = [(kT 1, .int), (kT 2, .long), (kT 3, .int), (kT 4, .long), (kT 5, .long)]) := by
  refine MI.of (cc := cX6_init) (nL := 1) (ret := none) (lv := [(0, .ref h0)]) (by decide) rfl rfl (Nat.le_of_ble_eq_true rfl) ?_
  intro p e s m args below meth c A Q hQ hin X
  refine aw_aload_n X (pc := 0) 0 rfl rfl dX6_init_0 ?_
  refine aw_objInit X (pc := 1) cf_X6_3 (by decide) rfl (by decide) dX6_init_1 ?_
  refine aw_aload_n X (pc := 4) 0 rfl rfl dX6_init_4 ?_
  refine aw_bipush X (pc := 5) (v := 40) dX6_init_5 (by decide) ?_
  refine aw_newa X (pc := 7) (atype := .int) (ty := .int) (a0 := (40, .inl (fun _ => 0))) ac_int rfl 40 rfl (by decide) (by decide) (za_int 40) (by decide) (by decide) dX6_init_7 (fun q1 k2 X => ?_)
  refine aw_putF X hin (pc := 9) (ws' := ([(h0, .inr (6, [.ref q1, .null, .null, .null, .null, .int 0, .long 0, .long 0, .long 0, .long 0, .long 0]))] ++ [(q1, .inl (k2, 40, .inl (fun _ => 0)))])) tyX6 tyX6_ok nmX6 iX6 0 0 rfl rfl (by decide) fl_X6_9 rfl rfl (tyX6_ok 0 (by decide)) rfl rfl (Nat.le_of_ble_eq_true rfl) rfl dX6_init_9 ?_
  refine aw_aload_n X (pc := 12) 0 rfl rfl dX6_init_12 ?_
  refine aw_bipush X (pc := 13) (v := 40) dX6_init_13 (by decide) ?_
  refine aw_newa X (pc := 15) (atype := .long) (ty := .long) (a0 := (40, .inr (.inl (fun _ => 0)))) ac_long rfl 40 rfl (by decide) (by decide) (za_long 40) (by decide) (by decide) dX6_init_15 (fun q3 k4 X => ?_)
  refine aw_putF X hin (pc := 17) (ws' := (([(h0, .inr (6, [.ref q1, .ref q3, .null, .null, .null, .int 0, .long 0, .long 0, .long 0, .long 0, .long 0]))] ++ [(q1, .inl (k2, 40, .inl (fun _ => 0)))]) ++ [(q3, .inl (k4, 40, .inr (.inl (fun _ => 0))))])) tyX6 tyX6_ok nmX6 iX6 0 1 rfl rfl (by decide) fl_X6_15 rfl rfl (tyX6_ok 1 (by decide)) rfl rfl (Nat.le_of_ble_eq_true rfl) rfl dX6_init_17 ?_
  refine aw_aload_n X (pc := 20) 0 rfl rfl dX6_init_20 ?_
  refine aw_bipush X (pc := 21) (v := 40) dX6_init_21 (by decide) ?_
  refine aw_newa X (pc := 23) (atype := .int) (ty := .int) (a0 := (40, .inl (fun _ => 0))) ac_int rfl 40 rfl (by decide) (by decide) (za_int 40) (by decide) (by decide) dX6_init_23 (fun q5 k6 X => ?_)
  refine aw_putF X hin (pc := 25) (ws' := ((([(h0, .inr (6, [.ref q1, .ref q3, .ref q5, .null, .null, .int 0, .long 0, .long 0, .long 0, .long 0, .long 0]))] ++ [(q1, .inl (k2, 40, .inl (fun _ => 0)))]) ++ [(q3, .inl (k4, 40, .inr (.inl (fun _ => 0))))]) ++ [(q5, .inl (k6, 40, .inl (fun _ => 0)))])) tyX6 tyX6_ok nmX6 iX6 0 2 rfl rfl (by decide) fl_X6_19 rfl rfl (tyX6_ok 2 (by decide)) rfl rfl (Nat.le_of_ble_eq_true rfl) rfl dX6_init_25 ?_
  refine aw_aload_n X (pc := 28) 0 rfl rfl dX6_init_28 ?_
  refine aw_bipush X (pc := 29) (v := 64) dX6_init_29 (by decide) ?_
  refine aw_newa X (pc := 31) (atype := .long) (ty := .long) (a0 := (64, .inr (.inl (fun _ => 0)))) ac_long rfl 64 rfl (by decide) (by decide) (za_long 64) (by decide) (by decide) dX6_init_31 (fun q7 k8 X => ?_)
  refine aw_putF X hin (pc := 33) (ws' := (((([(h0, .inr (6, [.ref q1, .ref q3, .ref q5, .ref q7, .null, .int 0, .long 0, .long 0, .long 0, .long 0, .long 0]))] ++ [(q1, .inl (k2, 40, .inl (fun _ => 0)))]) ++ [(q3, .inl (k4, 40, .inr (.inl (fun _ => 0))))]) ++ [(q5, .inl (k6, 40, .inl (fun _ => 0)))]) ++ [(q7, .inl (k8, 64, .inr (.inl (fun _ => 0))))])) tyX6 tyX6_ok nmX6 iX6 0 3 rfl rfl (by decide) fl_X6_22 rfl rfl (tyX6_ok 3 (by decide)) rfl rfl (Nat.le_of_ble_eq_true rfl) rfl dX6_init_33 ?_
  refine aw_aload_n X (pc := 36) 0 rfl rfl dX6_init_36 ?_
  refine aw_bipush X (pc := 37) (v := 6) dX6_init_37 (by decide) ?_
  refine aw_newa X (pc := 39) (atype := .long) (ty := .long) (a0 := (6, .inr (.inl (fun _ => 0)))) ac_long rfl 6 rfl (by decide) (by decide) (za_long 6) (by decide) (by decide) dX6_init_39 (fun q9 k10 X => ?_)
  refine aw_putF X hin (pc := 41) (ws' := ((((([(h0, .inr (6, [.ref q1, .ref q3, .ref q5, .ref q7, .ref q9, .int 0, .long 0, .long 0, .long 0, .long 0, .long 0]))] ++ [(q1, .inl (k2, 40, .inl (fun _ => 0)))]) ++ [(q3, .inl (k4, 40, .inr (.inl (fun _ => 0))))]) ++ [(q5, .inl (k6, 40, .inl (fun _ => 0)))]) ++ [(q7, .inl (k8, 64, .inr (.inl (fun _ => 0))))]) ++ [(q9, .inl (k10, 6, .inr (.inl (fun _ => 0))))])) tyX6 tyX6_ok nmX6 iX6 0 4 rfl rfl (by decide) fl_X6_25 rfl rfl (tyX6_ok 4 (by decide)) rfl rfl (Nat.le_of_ble_eq_true rfl) rfl dX6_init_41 ?_
  exact aw_cret X hQ ⟨(fun i => match i with | 0 => h0 | 1 => q1 | 2 => q3 | 3 => q5 | 4 => q7| _ => q9), (fun i => match i with | 1 => k2 | 2 => k4 | 3 => k6 | 4 => k8| _ => k10), rfl, rfl, rfl⟩ dX6_init_44

abbrev rm_X3_init : Room := { frames := 1, cells := 0, slots := 0, locals := 12 }
set_option maxHeartbeats 1000000 in
set_option maxRecDepth 100000 in
theorem c_X3_init (l : Launch) (D : va_G) (h0 : Nat) : MI l D yX3_init (Cond.code yX3_init cX3_init 1 none :: TT) rm_X3_init 0 0 [.ref h0] [] [(h0, .inr (3, [.int 0, .int 0, .long 0]))] (fun w' tys' => ∃ (p0 : Nat), p0 = h0 ∧ w' = (pasW p0 (-1) 0 0) ∧ tys' = []) := by
  refine MI.of (cc := cX3_init) (nL := 1) (ret := none) (lv := [(0, .ref h0)]) (by decide) rfl rfl (Nat.le_of_ble_eq_true rfl) ?_
  intro p e s m args below meth c A Q hQ hin X
  refine aw_aload_n X (pc := 0) 0 rfl rfl dX3_init_0 ?_
  refine aw_objInit X (pc := 1) cf_X3_3 (by decide) rfl (by decide) dX3_init_1 ?_
  refine aw_aload_n X (pc := 4) 0 rfl rfl dX3_init_4 ?_
  refine aw_iconst X (pc := 5) (v := (-1)) dX3_init_5 (by decide) ?_
  refine aw_put X (pc := 6) (ws' := [(h0, .inr (3, [.int (-1), .int 0, .long 0]))]) tyX3 tyX3_ok nmX3 iX3 0 0 rfl rfl (by decide) fl_X3_9 rfl (tyX3_ok 0 (by decide)) rfl rfl (Nat.le_of_ble_eq_true rfl) rfl dX3_init_6 ?_
  exact aw_cret X hQ ⟨h0, rfl, rfl, rfl⟩ dX3_init_9

abbrev rm_X4_init : Room := { frames := 1, cells := 2, slots := 130, locals := 12 }
set_option maxHeartbeats 1000000 in
set_option maxRecDepth 100000 in
theorem c_X4_init (l : Launch) (D : va_G) (h0 : Nat) : MI l D yX4_init (Cond.code yX4_init cX4_init 1 none :: TT) rm_X4_init 2 130 [.ref h0] [] [(h0, .inr (4, [.null, .null, .int 0]))] (fun w' tys' => ∃ (qL : Nat → Nat) (kL : Nat → ClassId), qL 0 = h0 ∧ w' = (pilW qL kL (fun _ => 0) (fun _ => 0) 0) ∧ tys' = [(kL 1, .long), (kL 2, .int)]) := by
  refine MI.of (cc := cX4_init) (nL := 1) (ret := none) (lv := [(0, .ref h0)]) (by decide) rfl rfl (Nat.le_of_ble_eq_true rfl) ?_
  intro p e s m args below meth c A Q hQ hin X
  refine aw_aload_n X (pc := 0) 0 rfl rfl dX4_init_0 ?_
  refine aw_objInit X (pc := 1) cf_X4_3 (by decide) rfl (by decide) dX4_init_1 ?_
  refine aw_aload_n X (pc := 4) 0 rfl rfl dX4_init_4 ?_
  refine aw_bipush X (pc := 5) (v := 65) dX4_init_5 (by decide) ?_
  refine aw_newa X (pc := 7) (atype := .long) (ty := .long) (a0 := (65, .inr (.inl (fun _ => 0)))) ac_long rfl 65 rfl (by decide) (by decide) (za_long 65) (by decide) (by decide) dX4_init_7 (fun q1 k2 X => ?_)
  refine aw_putF X hin (pc := 9) (ws' := ([(h0, .inr (4, [.ref q1, .null, .int 0]))] ++ [(q1, .inl (k2, 65, .inr (.inl (fun _ => 0))))])) tyX4 tyX4_ok nmX4 iX4 0 0 rfl rfl (by decide) fl_X4_11 rfl rfl (tyX4_ok 0 (by decide)) rfl rfl (Nat.le_of_ble_eq_true rfl) rfl dX4_init_9 ?_
  refine aw_aload_n X (pc := 12) 0 rfl rfl dX4_init_12 ?_
  refine aw_bipush X (pc := 13) (v := 65) dX4_init_13 (by decide) ?_
  refine aw_newa X (pc := 15) (atype := .int) (ty := .int) (a0 := (65, .inl (fun _ => 0))) ac_int rfl 65 rfl (by decide) (by decide) (za_int 65) (by decide) (by decide) dX4_init_15 (fun q3 k4 X => ?_)
  refine aw_putF X hin (pc := 17) (ws' := (([(h0, .inr (4, [.ref q1, .ref q3, .int 0]))] ++ [(q1, .inl (k2, 65, .inr (.inl (fun _ => 0))))]) ++ [(q3, .inl (k4, 65, .inl (fun _ => 0)))])) tyX4 tyX4_ok nmX4 iX4 0 1 rfl rfl (by decide) fl_X4_15 rfl rfl (tyX4_ok 1 (by decide)) rfl rfl (Nat.le_of_ble_eq_true rfl) rfl dX4_init_17 ?_
  exact aw_cret X hQ ⟨(fun i => match i with | 0 => h0 | 1 => q1| _ => q3), (fun i => match i with | 1 => k2| _ => k4), rfl, rfl, rfl⟩ dX4_init_20

abbrev rm_X0_init : Room := { frames := 1, cells := 1, slots := 40, locals := 12 }
set_option maxHeartbeats 1000000 in
set_option maxRecDepth 100000 in
theorem c_X0_init (l : Launch) (D : va_G) (h0 : Nat) : MI l D yX0_init (Cond.code yX0_init cX0_init 1 none :: TT) rm_X0_init 1 40 [.ref h0] [] [(h0, .inr (0, [.null, .long 0, .int 0]))] (fun w' tys' => ∃ (qK : Nat → Nat) (kK : Nat → ClassId), qK 0 = h0 ∧ w' = (cntW qK kK (fun _ => 0) 0 (-1)) ∧ tys' = [(kK 1, .int)]) := by
  refine MI.of (cc := cX0_init) (nL := 1) (ret := none) (lv := [(0, .ref h0)]) (by decide) rfl rfl (Nat.le_of_ble_eq_true rfl) ?_
  intro p e s m args below meth c A Q hQ hin X
  refine aw_aload_n X (pc := 0) 0 rfl rfl dX0_init_0 ?_
  refine aw_objInit X (pc := 1) cf_X0_3 (by decide) rfl (by decide) dX0_init_1 ?_
  refine aw_aload_n X (pc := 4) 0 rfl rfl dX0_init_4 ?_
  refine aw_bipush X (pc := 5) (v := 40) dX0_init_5 (by decide) ?_
  refine aw_newa X (pc := 7) (atype := .int) (ty := .int) (a0 := (40, .inl (fun _ => 0))) ac_int rfl 40 rfl (by decide) (by decide) (za_int 40) (by decide) (by decide) dX0_init_7 (fun q1 k2 X => ?_)
  refine aw_putF X hin (pc := 9) (ws' := ([(h0, .inr (0, [.ref q1, .long 0, .int 0]))] ++ [(q1, .inl (k2, 40, .inl (fun _ => 0)))])) tyX0 tyX0_ok nmX0 iX0 0 0 rfl rfl (by decide) fl_X0_9 rfl rfl (tyX0_ok 0 (by decide)) rfl rfl (Nat.le_of_ble_eq_true rfl) rfl dX0_init_9 ?_
  refine aw_aload_n X (pc := 12) 0 rfl rfl dX0_init_12 ?_
  refine aw_iconst X (pc := 13) (v := (-1)) dX0_init_13 (by decide) ?_
  refine aw_put X (pc := 14) (ws' := ([(h0, .inr (0, [.ref q1, .long 0, .int (-1)]))] ++ [(q1, .inl (k2, 40, .inl (fun _ => 0)))])) tyX0 tyX0_ok nmX0 iX0 0 2 rfl rfl (by decide) fl_X0_15 rfl (tyX0_ok 2 (by decide)) rfl rfl (Nat.le_of_ble_eq_true rfl) rfl dX0_init_14 ?_
  exact aw_cret X hQ ⟨(fun i => match i with | 0 => h0 | _ => q1), (fun i => match i with | _ => k2), rfl, rfl, rfl⟩ dX0_init_17

abbrev rm_X2_init : Room := { frames := 1, cells := 0, slots := 0, locals := 12 }
set_option maxHeartbeats 1000000 in
set_option maxRecDepth 100000 in
theorem c_X2_init (l : Launch) (D : va_G) (h0 : Nat) : MI l D yX2_init (Cond.code yX2_init cX2_init 1 none :: TT) rm_X2_init 0 0 [.ref h0] [] [(h0, .inr (2, [.long 0, .int 0, .int 0, .int 0, .int 0]))] (fun w' tys' => ∃ (f0 : Nat), f0 = h0 ∧ w' = (frmW f0 0 0 0 0 0) ∧ tys' = []) := by
  refine MI.of (cc := cX2_init) (nL := 1) (ret := none) (lv := [(0, .ref h0)]) (by decide) rfl rfl (Nat.le_of_ble_eq_true rfl) ?_
  intro p e s m args below meth c A Q hQ hin X
  refine aw_aload_n X (pc := 0) 0 rfl rfl dX2_init_0 ?_
  refine aw_objInit X (pc := 1) cf_X2_3 (by decide) rfl (by decide) dX2_init_1 ?_
  exact aw_cret X hQ ⟨h0, rfl, rfl, rfl⟩ dX2_init_4

abbrev rm_X7_init : Room := { frames := 1, cells := 1, slots := 200, locals := 12 }
set_option maxHeartbeats 1000000 in
set_option maxRecDepth 100000 in
theorem c_X7_init (l : Launch) (D : va_G) (h0 : Nat) : MI l D yX7_init (Cond.code yX7_init cX7_init 1 none :: TT) rm_X7_init 1 200 [.ref h0] [] [(h0, .inr (7, [.null, .int 0, .int 0, .int 0, .int 0, .int 0]))] (fun w' tys' => ∃ (qY : Nat → Nat) (kY : Nat → ClassId), qY 0 = h0 ∧ w' = (talW qY kY (fun _ => 0) 0 0 0 0 0) ∧ tys' = [(kY 1, .int)]) := by
  refine MI.of (cc := cX7_init) (nL := 1) (ret := none) (lv := [(0, .ref h0)]) (by decide) rfl rfl (Nat.le_of_ble_eq_true rfl) ?_
  intro p e s m args below meth c A Q hQ hin X
  refine aw_aload_n X (pc := 0) 0 rfl rfl dX7_init_0 ?_
  refine aw_objInit X (pc := 1) cf_X7_3 (by decide) rfl (by decide) dX7_init_1 ?_
  refine aw_aload_n X (pc := 4) 0 rfl rfl dX7_init_4 ?_
  refine aw_sipush X (pc := 5) (v := 200) dX7_init_5 (by decide) ?_
  refine aw_newa X (pc := 8) (atype := .int) (ty := .int) (a0 := (200, .inl (fun _ => 0))) ac_int rfl 200 rfl (by decide) (by decide) (za_int 200) (by decide) (by decide) dX7_init_8 (fun q1 k2 X => ?_)
  refine aw_putF X hin (pc := 10) (ws' := ([(h0, .inr (7, [.ref q1, .int 0, .int 0, .int 0, .int 0, .int 0]))] ++ [(q1, .inl (k2, 200, .inl (fun _ => 0)))])) tyX7 tyX7_ok nmX7 iX7 0 0 rfl rfl (by decide) fl_X7_9 rfl rfl (tyX7_ok 0 (by decide)) rfl rfl (Nat.le_of_ble_eq_true rfl) rfl dX7_init_10 ?_
  exact aw_cret X hQ ⟨(fun i => match i with | 0 => h0 | _ => q1), (fun i => match i with | _ => k2), rfl, rfl, rfl⟩ dX7_init_13

abbrev rm_X1_init : Room := { frames := 1, cells := 2, slots := 40, locals := 12 }
set_option maxHeartbeats 1000000 in
set_option maxRecDepth 100000 in
theorem c_X1_init (l : Launch) (D : va_G) (h0 : Nat) : MI l D yX1_init (Cond.code yX1_init cX1_init 1 none :: TT) rm_X1_init 2 40 [.ref h0] [] [(h0, .inr (1, [.null, .null, .int 0, .int 0]))] (fun w' tys' => ∃ (qC : Nat → Nat) (kC : Nat → ClassId), qC 0 = h0 ∧ w' = (crdW qC kC (fun _ => 0) (fun _ => 0) 0 0) ∧ tys' = [(kC 1, .long), (kC 2, .long)]) := by
  refine MI.of (cc := cX1_init) (nL := 1) (ret := none) (lv := [(0, .ref h0)]) (by decide) rfl rfl (Nat.le_of_ble_eq_true rfl) ?_
  intro p e s m args below meth c A Q hQ hin X
  refine aw_aload_n X (pc := 0) 0 rfl rfl dX1_init_0 ?_
  refine aw_objInit X (pc := 1) cf_X1_3 (by decide) rfl (by decide) dX1_init_1 ?_
  refine aw_aload_n X (pc := 4) 0 rfl rfl dX1_init_4 ?_
  refine aw_bipush X (pc := 5) (v := 20) dX1_init_5 (by decide) ?_
  refine aw_newa X (pc := 7) (atype := .long) (ty := .long) (a0 := (20, .inr (.inl (fun _ => 0)))) ac_long rfl 20 rfl (by decide) (by decide) (za_long 20) (by decide) (by decide) dX1_init_7 (fun q1 k2 X => ?_)
  refine aw_putF X hin (pc := 9) (ws' := ([(h0, .inr (1, [.ref q1, .null, .int 0, .int 0]))] ++ [(q1, .inl (k2, 20, .inr (.inl (fun _ => 0))))])) tyX1 tyX1_ok nmX1 iX1 0 0 rfl rfl (by decide) fl_X1_9 rfl rfl (tyX1_ok 0 (by decide)) rfl rfl (Nat.le_of_ble_eq_true rfl) rfl dX1_init_9 ?_
  refine aw_aload_n X (pc := 12) 0 rfl rfl dX1_init_12 ?_
  refine aw_bipush X (pc := 13) (v := 20) dX1_init_13 (by decide) ?_
  refine aw_newa X (pc := 15) (atype := .long) (ty := .long) (a0 := (20, .inr (.inl (fun _ => 0)))) ac_long rfl 20 rfl (by decide) (by decide) (za_long 20) (by decide) (by decide) dX1_init_15 (fun q3 k4 X => ?_)
  refine aw_putF X hin (pc := 17) (ws' := (([(h0, .inr (1, [.ref q1, .ref q3, .int 0, .int 0]))] ++ [(q1, .inl (k2, 20, .inr (.inl (fun _ => 0))))]) ++ [(q3, .inl (k4, 20, .inr (.inl (fun _ => 0))))])) tyX1 tyX1_ok nmX1 iX1 0 1 rfl rfl (by decide) fl_X1_15 rfl rfl (tyX1_ok 1 (by decide)) rfl rfl (Nat.le_of_ble_eq_true rfl) rfl dX1_init_17 ?_
  exact aw_cret X hQ ⟨(fun i => match i with | 0 => h0 | 1 => q1| _ => q3), (fun i => match i with | 1 => k2| _ => k4), rfl, rfl, rfl⟩ dX1_init_20

abbrev rm_X5_init : Room := { frames := 2, cells := 15, slots := 591, locals := 32 }
set_option maxHeartbeats 1000000 in
set_option maxRecDepth 100000 in
theorem c_X5_init (l : Launch) (D : va_G) (h0 : Nat) : MI l D yX5_init (Cond.code yX5_init cX5_init 1 none :: TT) rm_X5_init 15 591 [.ref h0] [] [(h0, .inr (5, [.null, .null, .null, .null, .null, .null, .int 0, .int 0]))] (fun w' tys' => ∃ (s0 : Nat) (qT : Nat → Nat) (kT : Nat → ClassId) (p0 : Nat) (qL : Nat → Nat) (kL : Nat → ClassId) (qK : Nat → Nat) (kK : Nat → ClassId) (f0 : Nat) (qY : Nat → Nat) (kY : Nat → ClassId), s0 = h0 ∧ w' = (staW s0 qT kT (fun _ => 0) (fun _ => 0) (fun _ => 0) (fun _ => 0) (fun _ => 0) 0 0 0 0 0 0 p0 (-1) 0 0 qL kL (fun _ => 0) (fun _ => 0) 0 qK kK (fun _ => 0) 0 (-1) f0 0 0 0 0 0 qY kY (fun _ => 0) 0 0 0 0 0 0 (-1)) ∧ tys' = [(kT 1, .int), (kT 2, .long), (kT 3, .int), (kT 4, .long), (kT 5, .long), (kL 1, .long), (kL 2, .int), (kK 1, .int), (kY 1, .int)]) := by
  refine MI.of (cc := cX5_init) (nL := 1) (ret := none) (lv := [(0, .ref h0)]) (by decide) rfl rfl (Nat.le_of_ble_eq_true rfl) ?_
  intro p e s m args below meth c A Q hQ hin X
  refine aw_aload_n X (pc := 0) 0 rfl rfl dX5_init_0 ?_
  refine aw_objInit X (pc := 1) cf_X5_3 (by decide) rfl (by decide) dX5_init_1 ?_
  refine aw_aload_n X (pc := 4) 0 rfl rfl dX5_init_4 ?_
  refine aw_new X (pc := 5) (ci := 6) (fs := [.null, .null, .null, .null, .null, .int 0, .long 0, .long 0, .long 0, .long 0, .long 0]) tyX6 tyX6_ok iX6 nw_X5_9 rfl (by decide) (by decide) (by decide) dX5_init_5 (fun q1 => ?_)
  refine aw_dup X (pc := 8) dX5_init_8 rfl ?_
  refine aw_callIN X (pc := 9) (c_X6_init l D q1) rfl (by decide) cf_X5_11 cd_X6_init dd_X6_init (by decide) (by decide) (by decide) (Nat.le_of_ble_eq_true rfl) dX5_init_9 (fun w2 t3 hB X => ?_)
  obtain ⟨qT_4, kT_5, hq, rfl, rfl⟩ := hB
  subst hq
  refine aw_putF X hin (pc := 12) (ws' := ([(h0, .inr (5, [.ref (qT_4 0), .null, .null, .null, .null, .null, .int 0, .int 0]))] ++ (tagW qT_4 kT_5 (fun _ => 0) (fun _ => 0) (fun _ => 0) (fun _ => 0) (fun _ => 0) 0 0 0 0 0 0))) tyX5 tyX5_ok nmX5 iX5 0 0 rfl rfl (by decide) fl_X5_12 rfl rfl (tyX5_ok 0 (by decide)) rfl rfl (Nat.le_of_ble_eq_true rfl) rfl dX5_init_12 ?_
  refine aw_aload_n X (pc := 15) 0 rfl rfl dX5_init_15 ?_
  refine aw_new X (pc := 16) (ci := 3) (fs := [.int 0, .int 0, .long 0]) tyX3 tyX3_ok iX3 nw_X5_18 rfl (by decide) (by decide) (by decide) dX5_init_16 (fun q6 => ?_)
  refine aw_dup X (pc := 19) dX5_init_19 rfl ?_
  refine aw_callIN X (pc := 20) (c_X3_init l D q6) rfl (by decide) cf_X5_20 cd_X3_init dd_X3_init (by decide) (by decide) (by decide) (Nat.le_of_ble_eq_true rfl) dX5_init_20 (fun w7 t8 hB X => ?_)
  obtain ⟨p0_9, hq, rfl, rfl⟩ := hB
  subst hq
  refine aw_putF X hin (pc := 23) (ws' := (([(h0, .inr (5, [.ref (qT_4 0), .ref p0_9, .null, .null, .null, .null, .int 0, .int 0]))] ++ (tagW qT_4 kT_5 (fun _ => 0) (fun _ => 0) (fun _ => 0) (fun _ => 0) (fun _ => 0) 0 0 0 0 0 0)) ++ (pasW p0_9 (-1) 0 0))) tyX5 tyX5_ok nmX5 iX5 0 1 rfl rfl (by decide) fl_X5_21 rfl rfl (tyX5_ok 1 (by decide)) rfl rfl (Nat.le_of_ble_eq_true rfl) rfl dX5_init_23 ?_
  refine aw_aload_n X (pc := 26) 0 rfl rfl dX5_init_26 ?_
  refine aw_new X (pc := 27) (ci := 4) (fs := [.null, .null, .int 0]) tyX4 tyX4_ok iX4 nw_X5_25 rfl (by decide) (by decide) (by decide) dX5_init_27 (fun q10 => ?_)
  refine aw_dup X (pc := 30) dX5_init_30 rfl ?_
  refine aw_callIN X (pc := 31) (c_X4_init l D q10) rfl (by decide) cf_X5_27 cd_X4_init dd_X4_init (by decide) (by decide) (by decide) (Nat.le_of_ble_eq_true rfl) dX5_init_31 (fun w11 t12 hB X => ?_)
  obtain ⟨qL_13, kL_14, hq, rfl, rfl⟩ := hB
  subst hq
  refine aw_putF X hin (pc := 34) (ws' := ((([(h0, .inr (5, [.ref (qT_4 0), .ref p0_9, .ref (qL_13 0), .null, .null, .null, .int 0, .int 0]))] ++ (tagW qT_4 kT_5 (fun _ => 0) (fun _ => 0) (fun _ => 0) (fun _ => 0) (fun _ => 0) 0 0 0 0 0 0)) ++ (pasW p0_9 (-1) 0 0)) ++ (pilW qL_13 kL_14 (fun _ => 0) (fun _ => 0) 0))) tyX5 tyX5_ok nmX5 iX5 0 2 rfl rfl (by decide) fl_X5_28 rfl rfl (tyX5_ok 2 (by decide)) rfl rfl (Nat.le_of_ble_eq_true rfl) rfl dX5_init_34 ?_
  refine aw_aload_n X (pc := 37) 0 rfl rfl dX5_init_37 ?_
  refine aw_new X (pc := 38) (ci := 0) (fs := [.null, .long 0, .int 0]) tyX0 tyX0_ok iX0 nw_X5_32 rfl (by decide) (by decide) (by decide) dX5_init_38 (fun q15 => ?_)
  refine aw_dup X (pc := 41) dX5_init_41 rfl ?_
  refine aw_callIN X (pc := 42) (c_X0_init l D q15) rfl (by decide) cf_X5_34 cd_X0_init dd_X0_init (by decide) (by decide) (by decide) (Nat.le_of_ble_eq_true rfl) dX5_init_42 (fun w16 t17 hB X => ?_)
  obtain ⟨qK_18, kK_19, hq, rfl, rfl⟩ := hB
  subst hq
  refine aw_putF X hin (pc := 45) (ws' := (((([(h0, .inr (5, [.ref (qT_4 0), .ref p0_9, .ref (qL_13 0), .ref (qK_18 0), .null, .null, .int 0, .int 0]))] ++ (tagW qT_4 kT_5 (fun _ => 0) (fun _ => 0) (fun _ => 0) (fun _ => 0) (fun _ => 0) 0 0 0 0 0 0)) ++ (pasW p0_9 (-1) 0 0)) ++ (pilW qL_13 kL_14 (fun _ => 0) (fun _ => 0) 0)) ++ (cntW qK_18 kK_19 (fun _ => 0) 0 (-1)))) tyX5 tyX5_ok nmX5 iX5 0 3 rfl rfl (by decide) fl_X5_35 rfl rfl (tyX5_ok 3 (by decide)) rfl rfl (Nat.le_of_ble_eq_true rfl) rfl dX5_init_45 ?_
  refine aw_aload_n X (pc := 48) 0 rfl rfl dX5_init_48 ?_
  refine aw_new X (pc := 49) (ci := 2) (fs := [.long 0, .int 0, .int 0, .int 0, .int 0]) tyX2 tyX2_ok iX2 nw_X5_39 rfl (by decide) (by decide) (by decide) dX5_init_49 (fun q20 => ?_)
  refine aw_dup X (pc := 52) dX5_init_52 rfl ?_
  refine aw_callIN X (pc := 53) (c_X2_init l D q20) rfl (by decide) cf_X5_41 cd_X2_init dd_X2_init (by decide) (by decide) (by decide) (Nat.le_of_ble_eq_true rfl) dX5_init_53 (fun w21 t22 hB X => ?_)
  obtain ⟨f0_23, hq, rfl, rfl⟩ := hB
  subst hq
  refine aw_putF X hin (pc := 56) (ws' := ((((([(h0, .inr (5, [.ref (qT_4 0), .ref p0_9, .ref (qL_13 0), .ref (qK_18 0), .ref f0_23, .null, .int 0, .int 0]))] ++ (tagW qT_4 kT_5 (fun _ => 0) (fun _ => 0) (fun _ => 0) (fun _ => 0) (fun _ => 0) 0 0 0 0 0 0)) ++ (pasW p0_9 (-1) 0 0)) ++ (pilW qL_13 kL_14 (fun _ => 0) (fun _ => 0) 0)) ++ (cntW qK_18 kK_19 (fun _ => 0) 0 (-1))) ++ (frmW f0_23 0 0 0 0 0))) tyX5 tyX5_ok nmX5 iX5 0 4 rfl rfl (by decide) fl_X5_42 rfl rfl (tyX5_ok 4 (by decide)) rfl rfl (Nat.le_of_ble_eq_true rfl) rfl dX5_init_56 ?_
  refine aw_aload_n X (pc := 59) 0 rfl rfl dX5_init_59 ?_
  refine aw_new X (pc := 60) (ci := 7) (fs := [.null, .int 0, .int 0, .int 0, .int 0, .int 0]) tyX7 tyX7_ok iX7 nw_X5_46 rfl (by decide) (by decide) (by decide) dX5_init_60 (fun q24 => ?_)
  refine aw_dup X (pc := 63) dX5_init_63 rfl ?_
  refine aw_callIN X (pc := 64) (c_X7_init l D q24) rfl (by decide) cf_X5_48 cd_X7_init dd_X7_init (by decide) (by decide) (by decide) (Nat.le_of_ble_eq_true rfl) dX5_init_64 (fun w25 t26 hB X => ?_)
  obtain ⟨qY_27, kY_28, hq, rfl, rfl⟩ := hB
  subst hq
  refine aw_putF X hin (pc := 67) (ws' := (((((([(h0, .inr (5, [.ref (qT_4 0), .ref p0_9, .ref (qL_13 0), .ref (qK_18 0), .ref f0_23, .ref (qY_27 0), .int 0, .int 0]))] ++ (tagW qT_4 kT_5 (fun _ => 0) (fun _ => 0) (fun _ => 0) (fun _ => 0) (fun _ => 0) 0 0 0 0 0 0)) ++ (pasW p0_9 (-1) 0 0)) ++ (pilW qL_13 kL_14 (fun _ => 0) (fun _ => 0) 0)) ++ (cntW qK_18 kK_19 (fun _ => 0) 0 (-1))) ++ (frmW f0_23 0 0 0 0 0)) ++ (talW qY_27 kY_28 (fun _ => 0) 0 0 0 0 0))) tyX5 tyX5_ok nmX5 iX5 0 5 rfl rfl (by decide) fl_X5_49 rfl rfl (tyX5_ok 5 (by decide)) rfl rfl (Nat.le_of_ble_eq_true rfl) rfl dX5_init_67 ?_
  refine aw_aload_n X (pc := 70) 0 rfl rfl dX5_init_70 ?_
  refine aw_iconst X (pc := 71) (v := 0) dX5_init_71 (by decide) ?_
  refine aw_put X (pc := 72) (ws' := (((((([(h0, .inr (5, [.ref (qT_4 0), .ref p0_9, .ref (qL_13 0), .ref (qK_18 0), .ref f0_23, .ref (qY_27 0), .int 0, .int 0]))] ++ (tagW qT_4 kT_5 (fun _ => 0) (fun _ => 0) (fun _ => 0) (fun _ => 0) (fun _ => 0) 0 0 0 0 0 0)) ++ (pasW p0_9 (-1) 0 0)) ++ (pilW qL_13 kL_14 (fun _ => 0) (fun _ => 0) 0)) ++ (cntW qK_18 kK_19 (fun _ => 0) 0 (-1))) ++ (frmW f0_23 0 0 0 0 0)) ++ (talW qY_27 kY_28 (fun _ => 0) 0 0 0 0 0))) tyX5 tyX5_ok nmX5 iX5 0 6 rfl rfl (by decide) fl_X5_53 rfl (tyX5_ok 6 (by decide)) rfl rfl (Nat.le_of_ble_eq_true rfl) rfl dX5_init_72 ?_
  refine aw_aload_n X (pc := 75) 0 rfl rfl dX5_init_75 ?_
  refine aw_iconst X (pc := 76) (v := (-1)) dX5_init_76 (by decide) ?_
  refine aw_put X (pc := 77) (ws' := (((((([(h0, .inr (5, [.ref (qT_4 0), .ref p0_9, .ref (qL_13 0), .ref (qK_18 0), .ref f0_23, .ref (qY_27 0), .int 0, .int (-1)]))] ++ (tagW qT_4 kT_5 (fun _ => 0) (fun _ => 0) (fun _ => 0) (fun _ => 0) (fun _ => 0) 0 0 0 0 0 0)) ++ (pasW p0_9 (-1) 0 0)) ++ (pilW qL_13 kL_14 (fun _ => 0) (fun _ => 0) 0)) ++ (cntW qK_18 kK_19 (fun _ => 0) 0 (-1))) ++ (frmW f0_23 0 0 0 0 0)) ++ (talW qY_27 kY_28 (fun _ => 0) 0 0 0 0 0))) tyX5 tyX5_ok nmX5 iX5 0 7 rfl rfl (by decide) fl_X5_57 rfl (tyX5_ok 7 (by decide)) rfl rfl (Nat.le_of_ble_eq_true rfl) rfl dX5_init_77 ?_
  exact aw_cret X hQ ⟨h0, qT_4, kT_5, p0_9, qL_13, kL_14, qK_18, kK_19, f0_23, qY_27, kY_28, rfl, rfl, rfl⟩ dX5_init_80

abbrev rm_X9_init : Room := { frames := 1, cells := 8, slots := 3604, locals := 12 }
set_option maxHeartbeats 1000000 in
set_option maxRecDepth 100000 in
theorem c_X9_init (l : Launch) (D : va_G) (h0 : Nat) : MI l D yX9_init (Cond.code yX9_init cX9_init 1 none :: TT) rm_X9_init 8 3604 [.ref h0] [] [(h0, .inr (9, [.null, .null, .null, .null, .null, .int 0, .null, .null, .null]))] (fun w' tys' => ∃ (q : Nat → Nat) (kc : Nat → ClassId), q 0 = h0 ∧ w' = (mW q kc (upd (upd (upd (fun _ => 0) 2 (-1)) 5 (-1)) 6 (-1)) (fun _ => 0) (fun _ => 0) (fun _ => 0) (fun _ => 0) 0 (fun _ => 0) (fun _ => 0) (fun _ => 0)) ∧ tys' = [(kc 1, .int), (kc 2, .long), (kc 3, .boolean), (kc 4, .boolean), (kc 5, .boolean), (kc 6, .long), (kc 7, .int), (kc 8, .int)]) := by
  refine MI.of (cc := cX9_init) (nL := 1) (ret := none) (lv := [(0, .ref h0)]) (by decide) rfl rfl (Nat.le_of_ble_eq_true rfl) ?_
  intro p e s m args below meth c A Q hQ hin X
  refine aw_aload_n X (pc := 0) 0 rfl rfl dX9_init_0 ?_
  refine aw_objInit X (pc := 1) cf_X9_1 (by decide) rfl (by decide) dX9_init_1 ?_
  refine aw_aload_n X (pc := 4) 0 rfl rfl dX9_init_4 ?_
  refine aw_sipush X (pc := 5) (v := 2700) dX9_init_5 (by decide) ?_
  refine aw_newa X (pc := 8) (atype := .int) (ty := .int) (a0 := (2700, .inl (fun _ => 0))) ac_int rfl 2700 rfl (by decide) (by decide) (za_int 2700) (by decide) (by decide) dX9_init_8 (fun q1 k2 X => ?_)
  refine aw_putF X hin (pc := 10) (ws' := ([(h0, .inr (9, [.ref q1, .null, .null, .null, .null, .int 0, .null, .null, .null]))] ++ [(q1, .inl (k2, 2700, .inl (fun _ => 0)))])) tyX9 tyX9_ok nmX9 iX9 0 0 rfl rfl (by decide) fl_X9_7 rfl rfl (tyX9_ok 0 (by decide)) rfl rfl (Nat.le_of_ble_eq_true rfl) rfl dX9_init_10 ?_
  refine aw_aload_n X (pc := 13) 0 rfl rfl dX9_init_13 ?_
  refine aw_sipush X (pc := 14) (v := 620) dX9_init_14 (by decide) ?_
  refine aw_newa X (pc := 17) (atype := .long) (ty := .long) (a0 := (620, .inr (.inl (fun _ => 0)))) ac_long rfl 620 rfl (by decide) (by decide) (za_long 620) (by decide) (by decide) dX9_init_17 (fun q3 k4 X => ?_)
  refine aw_putF X hin (pc := 19) (ws' := (([(h0, .inr (9, [.ref q1, .ref q3, .null, .null, .null, .int 0, .null, .null, .null]))] ++ [(q1, .inl (k2, 2700, .inl (fun _ => 0)))]) ++ [(q3, .inl (k4, 620, .inr (.inl (fun _ => 0))))])) tyX9 tyX9_ok nmX9 iX9 0 1 rfl rfl (by decide) fl_X9_13 rfl rfl (tyX9_ok 1 (by decide)) rfl rfl (Nat.le_of_ble_eq_true rfl) rfl dX9_init_19 ?_
  refine aw_aload_n X (pc := 22) 0 rfl rfl dX9_init_22 ?_
  refine aw_iconst X (pc := 23) (v := 4) dX9_init_23 (by decide) ?_
  refine aw_newa X (pc := 24) (atype := .boolean) (ty := .boolean) (a0 := (4, .inl (fun _ => 0))) ac_boolean rfl 4 rfl (by decide) (by decide) (za_boolean 4) (by decide) (by decide) dX9_init_24 (fun q5 k6 X => ?_)
  refine aw_putF X hin (pc := 26) (ws' := ((([(h0, .inr (9, [.ref q1, .ref q3, .ref q5, .null, .null, .int 0, .null, .null, .null]))] ++ [(q1, .inl (k2, 2700, .inl (fun _ => 0)))]) ++ [(q3, .inl (k4, 620, .inr (.inl (fun _ => 0))))]) ++ [(q5, .inl (k6, 4, .inl (fun _ => 0)))])) tyX9 tyX9_ok nmX9 iX9 0 2 rfl rfl (by decide) fl_X9_17 rfl rfl (tyX9_ok 2 (by decide)) rfl rfl (Nat.le_of_ble_eq_true rfl) rfl dX9_init_26 ?_
  refine aw_aload_n X (pc := 29) 0 rfl rfl dX9_init_29 ?_
  refine aw_bipush X (pc := 30) (v := 40) dX9_init_30 (by decide) ?_
  refine aw_newa X (pc := 32) (atype := .boolean) (ty := .boolean) (a0 := (40, .inl (fun _ => 0))) ac_boolean rfl 40 rfl (by decide) (by decide) (za_boolean 40) (by decide) (by decide) dX9_init_32 (fun q7 k8 X => ?_)
  refine aw_putF X hin (pc := 34) (ws' := (((([(h0, .inr (9, [.ref q1, .ref q3, .ref q5, .ref q7, .null, .int 0, .null, .null, .null]))] ++ [(q1, .inl (k2, 2700, .inl (fun _ => 0)))]) ++ [(q3, .inl (k4, 620, .inr (.inl (fun _ => 0))))]) ++ [(q5, .inl (k6, 4, .inl (fun _ => 0)))]) ++ [(q7, .inl (k8, 40, .inl (fun _ => 0)))])) tyX9 tyX9_ok nmX9 iX9 0 3 rfl rfl (by decide) fl_X9_21 rfl rfl (tyX9_ok 3 (by decide)) rfl rfl (Nat.le_of_ble_eq_true rfl) rfl dX9_init_34 ?_
  refine aw_aload_n X (pc := 37) 0 rfl rfl dX9_init_37 ?_
  refine aw_bipush X (pc := 38) (v := 40) dX9_init_38 (by decide) ?_
  refine aw_newa X (pc := 40) (atype := .boolean) (ty := .boolean) (a0 := (40, .inl (fun _ => 0))) ac_boolean rfl 40 rfl (by decide) (by decide) (za_boolean 40) (by decide) (by decide) dX9_init_40 (fun q9 k10 X => ?_)
  refine aw_putF X hin (pc := 42) (ws' := ((((([(h0, .inr (9, [.ref q1, .ref q3, .ref q5, .ref q7, .ref q9, .int 0, .null, .null, .null]))] ++ [(q1, .inl (k2, 2700, .inl (fun _ => 0)))]) ++ [(q3, .inl (k4, 620, .inr (.inl (fun _ => 0))))]) ++ [(q5, .inl (k6, 4, .inl (fun _ => 0)))]) ++ [(q7, .inl (k8, 40, .inl (fun _ => 0)))]) ++ [(q9, .inl (k10, 40, .inl (fun _ => 0)))])) tyX9 tyX9_ok nmX9 iX9 0 4 rfl rfl (by decide) fl_X9_24 rfl rfl (tyX9_ok 4 (by decide)) rfl rfl (Nat.le_of_ble_eq_true rfl) rfl dX9_init_42 ?_
  refine aw_aload_n X (pc := 45) 0 rfl rfl dX9_init_45 ?_
  refine aw_bipush X (pc := 46) (v := 80) dX9_init_46 (by decide) ?_
  refine aw_newa X (pc := 48) (atype := .long) (ty := .long) (a0 := (80, .inr (.inl (fun _ => 0)))) ac_long rfl 80 rfl (by decide) (by decide) (za_long 80) (by decide) (by decide) dX9_init_48 (fun q11 k12 X => ?_)
  refine aw_putF X hin (pc := 50) (ws' := (((((([(h0, .inr (9, [.ref q1, .ref q3, .ref q5, .ref q7, .ref q9, .int 0, .ref q11, .null, .null]))] ++ [(q1, .inl (k2, 2700, .inl (fun _ => 0)))]) ++ [(q3, .inl (k4, 620, .inr (.inl (fun _ => 0))))]) ++ [(q5, .inl (k6, 4, .inl (fun _ => 0)))]) ++ [(q7, .inl (k8, 40, .inl (fun _ => 0)))]) ++ [(q9, .inl (k10, 40, .inl (fun _ => 0)))]) ++ [(q11, .inl (k12, 80, .inr (.inl (fun _ => 0))))])) tyX9 tyX9_ok nmX9 iX9 0 6 rfl rfl (by decide) fl_X9_27 rfl rfl (tyX9_ok 6 (by decide)) rfl rfl (Nat.le_of_ble_eq_true rfl) rfl dX9_init_50 ?_
  refine aw_aload_n X (pc := 53) 0 rfl rfl dX9_init_53 ?_
  refine aw_bipush X (pc := 54) (v := 80) dX9_init_54 (by decide) ?_
  refine aw_newa X (pc := 56) (atype := .int) (ty := .int) (a0 := (80, .inl (fun _ => 0))) ac_int rfl 80 rfl (by decide) (by decide) (za_int 80) (by decide) (by decide) dX9_init_56 (fun q13 k14 X => ?_)
  refine aw_putF X hin (pc := 58) (ws' := ((((((([(h0, .inr (9, [.ref q1, .ref q3, .ref q5, .ref q7, .ref q9, .int 0, .ref q11, .ref q13, .null]))] ++ [(q1, .inl (k2, 2700, .inl (fun _ => 0)))]) ++ [(q3, .inl (k4, 620, .inr (.inl (fun _ => 0))))]) ++ [(q5, .inl (k6, 4, .inl (fun _ => 0)))]) ++ [(q7, .inl (k8, 40, .inl (fun _ => 0)))]) ++ [(q9, .inl (k10, 40, .inl (fun _ => 0)))]) ++ [(q11, .inl (k12, 80, .inr (.inl (fun _ => 0))))]) ++ [(q13, .inl (k14, 80, .inl (fun _ => 0)))])) tyX9 tyX9_ok nmX9 iX9 0 7 rfl rfl (by decide) fl_X9_30 rfl rfl (tyX9_ok 7 (by decide)) rfl rfl (Nat.le_of_ble_eq_true rfl) rfl dX9_init_58 ?_
  refine aw_aload_n X (pc := 61) 0 rfl rfl dX9_init_61 ?_
  refine aw_bipush X (pc := 62) (v := 40) dX9_init_62 (by decide) ?_
  refine aw_newa X (pc := 64) (atype := .int) (ty := .int) (a0 := (40, .inl (fun _ => 0))) ac_int rfl 40 rfl (by decide) (by decide) (za_int 40) (by decide) (by decide) dX9_init_64 (fun q15 k16 X => ?_)
  refine aw_putF X hin (pc := 66) (ws' := (((((((([(h0, .inr (9, [.ref q1, .ref q3, .ref q5, .ref q7, .ref q9, .int 0, .ref q11, .ref q13, .ref q15]))] ++ [(q1, .inl (k2, 2700, .inl (fun _ => 0)))]) ++ [(q3, .inl (k4, 620, .inr (.inl (fun _ => 0))))]) ++ [(q5, .inl (k6, 4, .inl (fun _ => 0)))]) ++ [(q7, .inl (k8, 40, .inl (fun _ => 0)))]) ++ [(q9, .inl (k10, 40, .inl (fun _ => 0)))]) ++ [(q11, .inl (k12, 80, .inr (.inl (fun _ => 0))))]) ++ [(q13, .inl (k14, 80, .inl (fun _ => 0)))]) ++ [(q15, .inl (k16, 40, .inl (fun _ => 0)))])) tyX9 tyX9_ok nmX9 iX9 0 8 rfl rfl (by decide) fl_X9_33 rfl rfl (tyX9_ok 8 (by decide)) rfl rfl (Nat.le_of_ble_eq_true rfl) rfl dX9_init_66 ?_
  refine aw_aload_n X (pc := 69) 0 rfl rfl dX9_init_69 ?_
  refine aw_get X (pc := 70) iX9 0 0 rfl rfl (by decide) fl_X9_7 rfl dX9_init_70 ?_
  refine aw_iconst X (pc := 73) (v := 2) dX9_init_73 (by decide) ?_
  refine aw_iconst X (pc := 74) (v := (-1)) dX9_init_74 (by decide) ?_
  refine aw_iast X (pc := 75) 1 0 (ws' := (((((((([(h0, .inr (9, [.ref q1, .ref q3, .ref q5, .ref q7, .ref q9, .int 0, .ref q11, .ref q13, .ref q15]))] ++ [(q1, .inl (k2, 2700, .inl (upd (fun _ => 0) 2 (-1))))]) ++ [(q3, .inl (k4, 620, .inr (.inl (fun _ => 0))))]) ++ [(q5, .inl (k6, 4, .inl (fun _ => 0)))]) ++ [(q7, .inl (k8, 40, .inl (fun _ => 0)))]) ++ [(q9, .inl (k10, 40, .inl (fun _ => 0)))]) ++ [(q11, .inl (k12, 80, .inr (.inl (fun _ => 0))))]) ++ [(q13, .inl (k14, 80, .inl (fun _ => 0)))]) ++ [(q15, .inl (k16, 40, .inl (fun _ => 0)))])) 2 rfl rfl rfl (by decide) (by decide) rfl dX9_init_75 ?_
  refine aw_aload_n X (pc := 76) 0 rfl rfl dX9_init_76 ?_
  refine aw_get X (pc := 77) iX9 0 0 rfl rfl (by decide) fl_X9_7 rfl dX9_init_77 ?_
  refine aw_iconst X (pc := 80) (v := 5) dX9_init_80 (by decide) ?_
  refine aw_iconst X (pc := 81) (v := (-1)) dX9_init_81 (by decide) ?_
  refine aw_iast X (pc := 82) 1 0 (ws' := (((((((([(h0, .inr (9, [.ref q1, .ref q3, .ref q5, .ref q7, .ref q9, .int 0, .ref q11, .ref q13, .ref q15]))] ++ [(q1, .inl (k2, 2700, .inl (upd (upd (fun _ => 0) 2 (-1)) 5 (-1))))]) ++ [(q3, .inl (k4, 620, .inr (.inl (fun _ => 0))))]) ++ [(q5, .inl (k6, 4, .inl (fun _ => 0)))]) ++ [(q7, .inl (k8, 40, .inl (fun _ => 0)))]) ++ [(q9, .inl (k10, 40, .inl (fun _ => 0)))]) ++ [(q11, .inl (k12, 80, .inr (.inl (fun _ => 0))))]) ++ [(q13, .inl (k14, 80, .inl (fun _ => 0)))]) ++ [(q15, .inl (k16, 40, .inl (fun _ => 0)))])) 5 rfl rfl rfl (by decide) (by decide) rfl dX9_init_82 ?_
  refine aw_aload_n X (pc := 83) 0 rfl rfl dX9_init_83 ?_
  refine aw_get X (pc := 84) iX9 0 0 rfl rfl (by decide) fl_X9_7 rfl dX9_init_84 ?_
  refine aw_bipush X (pc := 87) (v := 6) dX9_init_87 (by decide) ?_
  refine aw_iconst X (pc := 89) (v := (-1)) dX9_init_89 (by decide) ?_
  refine aw_iast X (pc := 90) 1 0 (ws' := (((((((([(h0, .inr (9, [.ref q1, .ref q3, .ref q5, .ref q7, .ref q9, .int 0, .ref q11, .ref q13, .ref q15]))] ++ [(q1, .inl (k2, 2700, .inl (upd (upd (upd (fun _ => 0) 2 (-1)) 5 (-1)) 6 (-1))))]) ++ [(q3, .inl (k4, 620, .inr (.inl (fun _ => 0))))]) ++ [(q5, .inl (k6, 4, .inl (fun _ => 0)))]) ++ [(q7, .inl (k8, 40, .inl (fun _ => 0)))]) ++ [(q9, .inl (k10, 40, .inl (fun _ => 0)))]) ++ [(q11, .inl (k12, 80, .inr (.inl (fun _ => 0))))]) ++ [(q13, .inl (k14, 80, .inl (fun _ => 0)))]) ++ [(q15, .inl (k16, 40, .inl (fun _ => 0)))])) 6 rfl rfl rfl (by decide) (by decide) rfl dX9_init_90 ?_
  exact aw_cret X hQ ⟨(fun i => match i with | 0 => h0 | 1 => q1 | 2 => q3 | 3 => q5 | 4 => q7 | 5 => q9 | 6 => q11 | 7 => q13| _ => q15), (fun i => match i with | 1 => k2 | 2 => k4 | 3 => k6 | 4 => k8 | 5 => k10 | 6 => k12 | 7 => k14| _ => k16), rfl, rfl, rfl⟩ dX9_init_91
