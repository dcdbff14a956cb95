abbrev rm_X8_init : Room := { frames := 3, cells := 21, slots := 711, locals := 52 }
set_option maxHeartbeats 1000000 in
set_option maxRecDepth 100000 in
theorem c_X8_init (l : Launch) (D : va_G) (h0 : Nat) : MI l D yX8_init (Cond.code yX8_init cX8_init 1 none :: TT) rm_X8_init 21 711 [.ref h0] [] [(h0, .inr (8, [.null, .null, .null, .null]))] (fun w' tys' => ∃ (r0 : Nat) (ri : Nat) (ki : ClassId) (rs : Nat) (kS : ClassId) (qC : Nat → Nat) (kC : Nat → ClassId) (s0 : Nat) (qT : Nat → Nat) (kT : Nat → ClassId) (p0 : Nat) (qL : Nat → Nat) (kL : Nat → ClassId) (qK : Nat → Nat) (kK : Nat → ClassId) (f0 : Nat) (qY : Nat → Nat) (kY : Nat → ClassId), r0 = h0 ∧ w' = (rolW r0 ri rs kS (fun _ => 0) qC kC (fun _ => 0) (fun _ => 0) 0 0 s0 qT kT (fun _ => 0) (fun _ => 0) (fun _ => 0) (fun _ => 0) (fun _ => 0) 0 0 0 0 0 0 p0 (-1) 0 0 qL kL (fun _ => 0) (fun _ => 0) 0 qK kK (fun _ => 0) 0 (-1) f0 0 0 0 0 0 qY kY (fun _ => 0) 0 0 0 0 0 0 (-1) ++ rimW ri ki (fun _ => none)) ∧ tys' = [(kS, .long), (kC 1, .long), (kC 2, .long), (kT 1, .int), (kT 2, .long), (kT 3, .int), (kT 4, .long), (kT 5, .long), (kL 1, .long), (kL 2, .int), (kK 1, .int), (kY 1, .int), (ki, .object RX5)]) := by
  refine MI.of (cc := cX8_init) (nL := 1) (ret := none) (lv := [(0, .ref h0)]) (by decide) rfl rfl (Nat.le_of_ble_eq_true rfl) ?_
  intro p e s m args below meth c A Q hQ hin X
  refine aw_aload_n X (pc := 0) 0 rfl rfl dX8_init_0 ?_
  refine aw_objInit X (pc := 1) cf_X8_3 (by decide) rfl (by decide) dX8_init_1 ?_
  refine aw_aload_n X (pc := 4) 0 rfl rfl dX8_init_4 ?_
  refine aw_new X (pc := 5) (ci := 5) (fs := [.null, .null, .null, .null, .null, .null, .int 0, .int 0]) tyX5 tyX5_ok iX5 nw_X8_9 rfl (by decide) (by decide) (by decide) dX8_init_5 (fun q1 => ?_)
  refine aw_dup X (pc := 8) dX8_init_8 rfl ?_
  refine aw_callIN X (pc := 9) (c_X5_init l D q1) rfl (by decide) cf_X8_11 cd_X5_init dd_X5_init (by decide) (by decide) (by decide) (Nat.le_of_ble_eq_true rfl) dX8_init_9 (fun w2 t3 hB X => ?_)
  obtain ⟨s0_4, qT_5, kT_6, p0_7, qL_8, kL_9, qK_10, kK_11, f0_12, qY_13, kY_14, hq, rfl, rfl⟩ := hB
  subst hq
  refine aw_putF X hin (pc := 12) (ws' := ([(h0, .inr (8, [.ref s0_4, .null, .null, .null]))] ++ (staW s0_4 qT_5 kT_6 (fun _ => 0) (fun _ => 0) (fun _ => 0) (fun _ => 0) (fun _ => 0) 0 0 0 0 0 0 p0_7 (-1) 0 0 qL_8 kL_9 (fun _ => 0) (fun _ => 0) 0 qK_10 kK_11 (fun _ => 0) 0 (-1) f0_12 0 0 0 0 0 qY_13 kY_14 (fun _ => 0) 0 0 0 0 0 0 (-1)))) tyX8 tyX8_ok nmX8 iX8 0 0 rfl rfl (by decide) fl_X8_12 rfl rfl (tyX8_ok 0 (by decide)) rfl rfl (Nat.le_of_ble_eq_true rfl) rfl dX8_init_12 ?_
  refine aw_aload_n X (pc := 15) 0 rfl rfl dX8_init_15 ?_
  refine aw_iconst X (pc := 16) (v := 4) dX8_init_16 (by decide) ?_
  refine aw_newq X (pc := 17) (nw_X8_9 _ List.mem_cons_self) 4 rfl (by decide) (by decide) (by decide) dX8_init_17 (fun q15 k16 X => ?_)
  refine aw_putF X hin (pc := 20) (ws' := (([(h0, .inr (8, [.ref s0_4, .ref q15, .null, .null]))] ++ (staW s0_4 qT_5 kT_6 (fun _ => 0) (fun _ => 0) (fun _ => 0) (fun _ => 0) (fun _ => 0) 0 0 0 0 0 0 p0_7 (-1) 0 0 qL_8 kL_9 (fun _ => 0) (fun _ => 0) 0 qK_10 kK_11 (fun _ => 0) 0 (-1) f0_12 0 0 0 0 0 qY_13 kY_14 (fun _ => 0) 0 0 0 0 0 0 (-1))) ++ [(q15, .inl (k16, 4, .inr (.inr (.inr (.inr (fun _ => none))))))])) tyX8 tyX8_ok nmX8 iX8 0 1 rfl rfl (by decide) fl_X8_16 rfl rfl (tyX8_ok 1 (by decide)) rfl rfl (Nat.le_of_ble_eq_true rfl) rfl dX8_init_20 ?_
  refine aw_aload_n X (pc := 23) 0 rfl rfl dX8_init_23 ?_
  refine aw_bipush X (pc := 24) (v := 64) dX8_init_24 (by decide) ?_
  refine aw_newa X (pc := 26) (atype := .long) (ty := .long) (a0 := (64, .inr (.inl (fun _ => 0)))) ac_long rfl 64 rfl (by decide) (by decide) (za_long 64) (by decide) (by decide) dX8_init_26 (fun q17 k18 X => ?_)
  refine aw_putF X hin (pc := 28) (ws' := ((([(h0, .inr (8, [.ref s0_4, .ref q15, .ref q17, .null]))] ++ (staW s0_4 qT_5 kT_6 (fun _ => 0) (fun _ => 0) (fun _ => 0) (fun _ => 0) (fun _ => 0) 0 0 0 0 0 0 p0_7 (-1) 0 0 qL_8 kL_9 (fun _ => 0) (fun _ => 0) 0 qK_10 kK_11 (fun _ => 0) 0 (-1) f0_12 0 0 0 0 0 qY_13 kY_14 (fun _ => 0) 0 0 0 0 0 0 (-1))) ++ [(q15, .inl (k16, 4, .inr (.inr (.inr (.inr (fun _ => none))))))]) ++ [(q17, .inl (k18, 64, .inr (.inl (fun _ => 0))))])) tyX8 tyX8_ok nmX8 iX8 0 2 rfl rfl (by decide) fl_X8_20 rfl rfl (tyX8_ok 2 (by decide)) rfl rfl (Nat.le_of_ble_eq_true rfl) rfl dX8_init_28 ?_
  refine aw_aload_n X (pc := 31) 0 rfl rfl dX8_init_31 ?_
  refine aw_new X (pc := 32) (ci := 1) (fs := [.null, .null, .int 0, .int 0]) tyX1 tyX1_ok iX1 nw_X8_24 rfl (by decide) (by decide) (by decide) dX8_init_32 (fun q19 => ?_)
  refine aw_dup X (pc := 35) dX8_init_35 rfl ?_
  refine aw_callIN X (pc := 36) (c_X1_init l D q19) rfl (by decide) cf_X8_26 cd_X1_init dd_X1_init (by decide) (by decide) (by decide) (Nat.le_of_ble_eq_true rfl) dX8_init_36 (fun w20 t21 hB X => ?_)
  obtain ⟨qC_22, kC_23, hq, rfl, rfl⟩ := hB
  subst hq
  refine aw_putF X hin (pc := 39) (ws' := (((([(h0, .inr (8, [.ref s0_4, .ref q15, .ref q17, .ref (qC_22 0)]))] ++ (staW s0_4 qT_5 kT_6 (fun _ => 0) (fun _ => 0) (fun _ => 0) (fun _ => 0) (fun _ => 0) 0 0 0 0 0 0 p0_7 (-1) 0 0 qL_8 kL_9 (fun _ => 0) (fun _ => 0) 0 qK_10 kK_11 (fun _ => 0) 0 (-1) f0_12 0 0 0 0 0 qY_13 kY_14 (fun _ => 0) 0 0 0 0 0 0 (-1))) ++ [(q15, .inl (k16, 4, .inr (.inr (.inr (.inr (fun _ => none))))))]) ++ [(q17, .inl (k18, 64, .inr (.inl (fun _ => 0))))]) ++ (crdW qC_22 kC_23 (fun _ => 0) (fun _ => 0) 0 0))) tyX8 tyX8_ok nmX8 iX8 0 3 rfl rfl (by decide) fl_X8_27 rfl rfl (tyX8_ok 3 (by decide)) rfl rfl (Nat.le_of_ble_eq_true rfl) rfl dX8_init_39 ?_
  refine aw_wsub (ws' := (rolW h0 q15 q17 k18 (fun _ => 0) qC_22 kC_23 (fun _ => 0) (fun _ => 0) 0 0 s0_4 qT_5 kT_6 (fun _ => 0) (fun _ => 0) (fun _ => 0) (fun _ => 0) (fun _ => 0) 0 0 0 0 0 0 p0_7 (-1) 0 0 qL_8 kL_9 (fun _ => 0) (fun _ => 0) 0 qK_10 kK_11 (fun _ => 0) 0 (-1) f0_12 0 0 0 0 0 qY_13 kY_14 (fun _ => 0) 0 0 0 0 0 0 (-1) ++ rimW q15 k16 (fun _ => none))) [0, 18, 19, 20, 21, 1, 2, 3, 4, 5, 6, 7, 8, 9, 10, 11, 12, 13, 14, 15, 16, 17] rfl (by decide +kernel) ?_
  have X := X.more (tys' := [(k18, .long), (kC_23 1, .long), (kC_23 2, .long), (kT_6 1, .int), (kT_6 2, .long), (kT_6 3, .int), (kT_6 4, .long), (kT_6 5, .long), (kL_9 1, .long), (kL_9 2, .int), (kK_11 1, .int), (kY_14 1, .int), (k16, .object RX5)]) (X.2.2.2.1.sub [10, 11, 12, 0, 1, 2, 3, 4, 5, 6, 7, 8, 9] rfl)
  exact aw_cret X hQ ⟨h0, q15, k16, q17, k18, qC_22, kC_23, s0_4, qT_5, kT_6, p0_7, qL_8, kL_9, qK_10, kK_11, f0_12, qY_13, kY_14, rfl, rfl, rfl⟩ dX8_init_42
