abbrev rm_X6_copyFrom : Room := { frames := 1, cells := 0, slots := 0, locals := 40 }
set_option maxHeartbeats 400000 in
set_option maxRecDepth 100000 in
theorem c_X6_copyFrom (l : Launch) (D : va_G) (qT : Nat → Nat) (kT : Nat → ClassId) (kinds : Nat → Int32) (names : Nat → Int64) (seeds : Nat → Int32) (ones : Nat → Int64) (ofk : Nat → Int64) (sz : Int32) (there : Int64) (awake : Int64) (grp : Int64) (gm : Int64) (gb : Int64) (qT2 : Nat → Nat) (kT2 : Nat → ClassId) (kinds2 : Nat → Int32) (names2 : Nat → Int64) (seeds2 : Nat → Int32) (ones2 : Nat → Int64) (ofk2 : Nat → Int64) (sz2 : Int32) (there2 : Int64) (awake2 : Int64) (grp2 : Int64) (gm2 : Int64) (gb2 : Int64)  : MW l D yX6_copyFrom (Cond.code yX6_copyFrom cX6_copyFrom 2 none :: TT) rm_X6_copyFrom [.ref (qT 0), .ref (qT2 0)] [(kT 1, .int), (kT 2, .long), (kT 3, .int), (kT 4, .long), (kT 5, .long), (kT2 1, .int), (kT2 2, .long), (kT2 3, .int), (kT2 4, .long), (kT2 5, .long)] (tag2W qT kT kinds names seeds ones ofk sz there awake grp gm gb qT2 kT2 kinds2 names2 seeds2 ones2 ofk2 sz2 there2 awake2 grp2 gm2 gb2) none (tag2W qT kT (va_cpy kinds2 kinds 0 0 40) (va_cpy names2 names 0 0 40) (va_cpy seeds2 seeds 0 0 40) (va_cpy ones2 ones 0 0 64) (va_cpy ofk2 ofk 0 0 6) sz2 there2 awake2 grp2 gm2 gb2 qT2 kT2 kinds2 names2 seeds2 ones2 ofk2 sz2 there2 awake2 grp2 gm2 gb2) := by
  refine MW.of (cc := cX6_copyFrom) (nL := 2) (ret := none) (lv := [(0, .ref (qT 0)), (1, .ref (qT2 0))]) (by decide) ((tag2W_ad ..).trans (tag2W_ad ..).symm) rfl (Nat.le_of_ble_eq_true rfl) ?_
  intro p e s m args below meth c A Q hQ X
  refine aw_aload_n X (pc := 0) 1 rfl rfl dX6_copyFrom_0 ?_
  refine aw_get X (pc := 1) iX6 6 0 rfl rfl (by decide) fl_X6_9 rfl dX6_copyFrom_1 ?_
  refine aw_iconst X (pc := 4) (v := 0) dX6_copyFrom_4 (by decide) ?_
  refine aw_aload_n X (pc := 5) 0 rfl rfl dX6_copyFrom_5 ?_
  refine aw_get X (pc := 6) iX6 0 0 rfl rfl (by decide) fl_X6_9 rfl dX6_copyFrom_6 ?_
  refine aw_iconst X (pc := 9) (v := 0) dX6_copyFrom_9 (by decide) ?_
  refine aw_bipush X (pc := 10) (v := 40) dX6_copyFrom_10 (by decide) ?_
  refine aw_copyi X (pc := 12) (ws' := (tag2W qT kT (va_cpy kinds2 kinds 0 0 40) names seeds ones ofk sz there awake grp gm gb qT2 kT2 kinds2 names2 seeds2 ones2 ofk2 sz2 there2 awake2 grp2 gm2 gb2)) 40 rfl 7 1 5 0 rfl rfl rfl rfl (by first | decide | omega) (by first | decide | omega) cf_X6_88 (by decide) (Nat.le_of_ble_eq_true (by first | rfl | decide)) rfl dX6_copyFrom_12 ?_
  refine aw_aload_n X (pc := 15) 1 rfl rfl dX6_copyFrom_15 ?_
  refine aw_get X (pc := 16) iX6 6 1 rfl rfl (by decide) fl_X6_15 rfl dX6_copyFrom_16 ?_
  refine aw_iconst X (pc := 19) (v := 0) dX6_copyFrom_19 (by decide) ?_
  refine aw_aload_n X (pc := 20) 0 rfl rfl dX6_copyFrom_20 ?_
  refine aw_get X (pc := 21) iX6 0 1 rfl rfl (by decide) fl_X6_15 rfl dX6_copyFrom_21 ?_
  refine aw_iconst X (pc := 24) (v := 0) dX6_copyFrom_24 (by decide) ?_
  refine aw_bipush X (pc := 25) (v := 40) dX6_copyFrom_25 (by decide) ?_
  refine aw_copyl X (pc := 27) (ws' := (tag2W qT kT (va_cpy kinds2 kinds 0 0 40) (va_cpy names2 names 0 0 40) seeds ones ofk sz there awake grp gm gb qT2 kT2 kinds2 names2 seeds2 ones2 ofk2 sz2 there2 awake2 grp2 gm2 gb2)) 40 rfl 8 2 6 1 rfl rfl rfl rfl (by first | decide | omega) (by first | decide | omega) cf_X6_88 (by decide) (Nat.le_of_ble_eq_true (by first | rfl | decide)) rfl dX6_copyFrom_27 ?_
  refine aw_aload_n X (pc := 30) 1 rfl rfl dX6_copyFrom_30 ?_
  refine aw_get X (pc := 31) iX6 6 2 rfl rfl (by decide) fl_X6_19 rfl dX6_copyFrom_31 ?_
  refine aw_iconst X (pc := 34) (v := 0) dX6_copyFrom_34 (by decide) ?_
  refine aw_aload_n X (pc := 35) 0 rfl rfl dX6_copyFrom_35 ?_
  refine aw_get X (pc := 36) iX6 0 2 rfl rfl (by decide) fl_X6_19 rfl dX6_copyFrom_36 ?_
  refine aw_iconst X (pc := 39) (v := 0) dX6_copyFrom_39 (by decide) ?_
  refine aw_bipush X (pc := 40) (v := 40) dX6_copyFrom_40 (by decide) ?_
  refine aw_copyi X (pc := 42) (ws' := (tag2W qT kT (va_cpy kinds2 kinds 0 0 40) (va_cpy names2 names 0 0 40) (va_cpy seeds2 seeds 0 0 40) ones ofk sz there awake grp gm gb qT2 kT2 kinds2 names2 seeds2 ones2 ofk2 sz2 there2 awake2 grp2 gm2 gb2)) 40 rfl 9 3 7 2 rfl rfl rfl rfl (by first | decide | omega) (by first | decide | omega) cf_X6_88 (by decide) (Nat.le_of_ble_eq_true (by first | rfl | decide)) rfl dX6_copyFrom_42 ?_
  refine aw_aload_n X (pc := 45) 1 rfl rfl dX6_copyFrom_45 ?_
  refine aw_get X (pc := 46) iX6 6 3 rfl rfl (by decide) fl_X6_22 rfl dX6_copyFrom_46 ?_
  refine aw_iconst X (pc := 49) (v := 0) dX6_copyFrom_49 (by decide) ?_
  refine aw_aload_n X (pc := 50) 0 rfl rfl dX6_copyFrom_50 ?_
  refine aw_get X (pc := 51) iX6 0 3 rfl rfl (by decide) fl_X6_22 rfl dX6_copyFrom_51 ?_
  refine aw_iconst X (pc := 54) (v := 0) dX6_copyFrom_54 (by decide) ?_
  refine aw_bipush X (pc := 55) (v := 64) dX6_copyFrom_55 (by decide) ?_
  refine aw_copyl X (pc := 57) (ws' := (tag2W qT kT (va_cpy kinds2 kinds 0 0 40) (va_cpy names2 names 0 0 40) (va_cpy seeds2 seeds 0 0 40) (va_cpy ones2 ones 0 0 64) ofk sz there awake grp gm gb qT2 kT2 kinds2 names2 seeds2 ones2 ofk2 sz2 there2 awake2 grp2 gm2 gb2)) 64 rfl 10 4 8 3 rfl rfl rfl rfl (by first | decide | omega) (by first | decide | omega) cf_X6_88 (by decide) (Nat.le_of_ble_eq_true (by first | rfl | decide)) rfl dX6_copyFrom_57 ?_
  refine aw_aload_n X (pc := 60) 1 rfl rfl dX6_copyFrom_60 ?_
  refine aw_get X (pc := 61) iX6 6 4 rfl rfl (by decide) fl_X6_25 rfl dX6_copyFrom_61 ?_
  refine aw_iconst X (pc := 64) (v := 0) dX6_copyFrom_64 (by decide) ?_
  refine aw_aload_n X (pc := 65) 0 rfl rfl dX6_copyFrom_65 ?_
  refine aw_get X (pc := 66) iX6 0 4 rfl rfl (by decide) fl_X6_25 rfl dX6_copyFrom_66 ?_
  refine aw_iconst X (pc := 69) (v := 0) dX6_copyFrom_69 (by decide) ?_
  refine aw_bipush X (pc := 70) (v := 6) dX6_copyFrom_70 (by decide) ?_
  refine aw_copyl X (pc := 72) (ws' := (tag2W qT kT (va_cpy kinds2 kinds 0 0 40) (va_cpy names2 names 0 0 40) (va_cpy seeds2 seeds 0 0 40) (va_cpy ones2 ones 0 0 64) (va_cpy ofk2 ofk 0 0 6) sz there awake grp gm gb qT2 kT2 kinds2 names2 seeds2 ones2 ofk2 sz2 there2 awake2 grp2 gm2 gb2)) 6 rfl 11 5 9 4 rfl rfl rfl rfl (by first | decide | omega) (by first | decide | omega) cf_X6_88 (by decide) (Nat.le_of_ble_eq_true (by first | rfl | decide)) rfl dX6_copyFrom_72 ?_
  refine aw_aload_n X (pc := 75) 0 rfl rfl dX6_copyFrom_75 ?_
  refine aw_aload_n X (pc := 76) 1 rfl rfl dX6_copyFrom_76 ?_
  refine aw_get X (pc := 77) iX6 6 5 rfl rfl (by decide) fl_X6_28 rfl dX6_copyFrom_77 ?_
  refine aw_put X (pc := 80) (ws' := (tag2W qT kT (va_cpy kinds2 kinds 0 0 40) (va_cpy names2 names 0 0 40) (va_cpy seeds2 seeds 0 0 40) (va_cpy ones2 ones 0 0 64) (va_cpy ofk2 ofk 0 0 6) sz2 there awake grp gm gb qT2 kT2 kinds2 names2 seeds2 ones2 ofk2 sz2 there2 awake2 grp2 gm2 gb2)) tyX6 tyX6_ok nmX6 iX6 0 5 rfl rfl (by decide) fl_X6_28 rfl (tyX6_ok 5 (by decide)) rfl rfl (Nat.le_of_ble_eq_true rfl) rfl dX6_copyFrom_80 ?_
  refine aw_aload_n X (pc := 83) 0 rfl rfl dX6_copyFrom_83 ?_
  refine aw_aload_n X (pc := 84) 1 rfl rfl dX6_copyFrom_84 ?_
  refine aw_get X (pc := 85) iX6 6 6 rfl rfl (by decide) fl_X6_40 rfl dX6_copyFrom_85 ?_
  refine aw_put X (pc := 88) (ws' := (tag2W qT kT (va_cpy kinds2 kinds 0 0 40) (va_cpy names2 names 0 0 40) (va_cpy seeds2 seeds 0 0 40) (va_cpy ones2 ones 0 0 64) (va_cpy ofk2 ofk 0 0 6) sz2 there2 awake grp gm gb qT2 kT2 kinds2 names2 seeds2 ones2 ofk2 sz2 there2 awake2 grp2 gm2 gb2)) tyX6 tyX6_ok nmX6 iX6 0 6 rfl rfl (by decide) fl_X6_40 rfl (tyX6_ok 6 (by decide)) rfl rfl (Nat.le_of_ble_eq_true rfl) rfl dX6_copyFrom_88 ?_
  refine aw_aload_n X (pc := 91) 0 rfl rfl dX6_copyFrom_91 ?_
  refine aw_aload_n X (pc := 92) 1 rfl rfl dX6_copyFrom_92 ?_
  refine aw_get X (pc := 93) iX6 6 7 rfl rfl (by decide) fl_X6_44 rfl dX6_copyFrom_93 ?_
  refine aw_put X (pc := 96) (ws' := (tag2W qT kT (va_cpy kinds2 kinds 0 0 40) (va_cpy names2 names 0 0 40) (va_cpy seeds2 seeds 0 0 40) (va_cpy ones2 ones 0 0 64) (va_cpy ofk2 ofk 0 0 6) sz2 there2 awake2 grp gm gb qT2 kT2 kinds2 names2 seeds2 ones2 ofk2 sz2 there2 awake2 grp2 gm2 gb2)) tyX6 tyX6_ok nmX6 iX6 0 7 rfl rfl (by decide) fl_X6_44 rfl (tyX6_ok 7 (by decide)) rfl rfl (Nat.le_of_ble_eq_true rfl) rfl dX6_copyFrom_96 ?_
  refine aw_aload_n X (pc := 99) 0 rfl rfl dX6_copyFrom_99 ?_
  refine aw_aload_n X (pc := 100) 1 rfl rfl dX6_copyFrom_100 ?_
  refine aw_get X (pc := 101) iX6 6 8 rfl rfl (by decide) fl_X6_50 rfl dX6_copyFrom_101 ?_
  refine aw_put X (pc := 104) (ws' := (tag2W qT kT (va_cpy kinds2 kinds 0 0 40) (va_cpy names2 names 0 0 40) (va_cpy seeds2 seeds 0 0 40) (va_cpy ones2 ones 0 0 64) (va_cpy ofk2 ofk 0 0 6) sz2 there2 awake2 grp2 gm gb qT2 kT2 kinds2 names2 seeds2 ones2 ofk2 sz2 there2 awake2 grp2 gm2 gb2)) tyX6 tyX6_ok nmX6 iX6 0 8 rfl rfl (by decide) fl_X6_50 rfl (tyX6_ok 8 (by decide)) rfl rfl (Nat.le_of_ble_eq_true rfl) rfl dX6_copyFrom_104 ?_
  refine aw_aload_n X (pc := 107) 0 rfl rfl dX6_copyFrom_107 ?_
  refine aw_aload_n X (pc := 108) 1 rfl rfl dX6_copyFrom_108 ?_
  refine aw_get X (pc := 109) iX6 6 9 rfl rfl (by decide) fl_X6_61 rfl dX6_copyFrom_109 ?_
  refine aw_put X (pc := 112) (ws' := (tag2W qT kT (va_cpy kinds2 kinds 0 0 40) (va_cpy names2 names 0 0 40) (va_cpy seeds2 seeds 0 0 40) (va_cpy ones2 ones 0 0 64) (va_cpy ofk2 ofk 0 0 6) sz2 there2 awake2 grp2 gm2 gb qT2 kT2 kinds2 names2 seeds2 ones2 ofk2 sz2 there2 awake2 grp2 gm2 gb2)) tyX6 tyX6_ok nmX6 iX6 0 9 rfl rfl (by decide) fl_X6_61 rfl (tyX6_ok 9 (by decide)) rfl rfl (Nat.le_of_ble_eq_true rfl) rfl dX6_copyFrom_112 ?_
  refine aw_aload_n X (pc := 115) 0 rfl rfl dX6_copyFrom_115 ?_
  refine aw_aload_n X (pc := 116) 1 rfl rfl dX6_copyFrom_116 ?_
  refine aw_get X (pc := 117) iX6 6 10 rfl rfl (by decide) fl_X6_64 rfl dX6_copyFrom_117 ?_
  refine aw_put X (pc := 120) (ws' := (tag2W qT kT (va_cpy kinds2 kinds 0 0 40) (va_cpy names2 names 0 0 40) (va_cpy seeds2 seeds 0 0 40) (va_cpy ones2 ones 0 0 64) (va_cpy ofk2 ofk 0 0 6) sz2 there2 awake2 grp2 gm2 gb2 qT2 kT2 kinds2 names2 seeds2 ones2 ofk2 sz2 there2 awake2 grp2 gm2 gb2)) tyX6 tyX6_ok nmX6 iX6 0 10 rfl rfl (by decide) fl_X6_64 rfl (tyX6_ok 10 (by decide)) rfl rfl (Nat.le_of_ble_eq_true rfl) rfl dX6_copyFrom_120 ?_
  exact aw_vret X hQ rfl rfl dX6_copyFrom_123

abbrev rm_X3_copyFrom : Room := { frames := 0, cells := 0, slots := 0, locals := 0 }
set_option maxHeartbeats 400000 in
set_option maxRecDepth 100000 in
theorem c_X3_copyFrom (l : Launch) (D : va_G) (p0 : Nat) (lf : Int32) (ir : Int32) (ln : Int64) (p02 : Nat) (lf2 : Int32) (ir2 : Int32) (ln2 : Int64)  : MW l D yX3_copyFrom (Cond.code yX3_copyFrom cX3_copyFrom 2 none :: TT) rm_X3_copyFrom [.ref p0, .ref p02] [] (pas2W p0 lf ir ln p02 lf2 ir2 ln2) none (pas2W p0 lf2 ir2 ln2 p02 lf2 ir2 ln2) := by
  refine MW.of (cc := cX3_copyFrom) (nL := 2) (ret := none) (lv := [(0, .ref p0), (1, .ref p02)]) (by decide) ((pas2W_ad ..).trans (pas2W_ad ..).symm) rfl (Nat.le_of_ble_eq_true rfl) ?_
  intro p e s m args below meth c A Q hQ X
  refine aw_aload_n X (pc := 0) 0 rfl rfl dX3_copyFrom_0 ?_
  refine aw_aload_n X (pc := 1) 1 rfl rfl dX3_copyFrom_1 ?_
  refine aw_get X (pc := 2) iX3 1 0 rfl rfl (by decide) fl_X3_9 rfl dX3_copyFrom_2 ?_
  refine aw_put X (pc := 5) (ws' := (pas2W p0 lf2 ir ln p02 lf2 ir2 ln2)) tyX3 tyX3_ok nmX3 iX3 0 0 rfl rfl (by decide) fl_X3_9 rfl (tyX3_ok 0 (by decide)) rfl rfl (Nat.le_of_ble_eq_true rfl) rfl dX3_copyFrom_5 ?_
  refine aw_aload_n X (pc := 8) 0 rfl rfl dX3_copyFrom_8 ?_
  refine aw_aload_n X (pc := 9) 1 rfl rfl dX3_copyFrom_9 ?_
  refine aw_get X (pc := 10) iX3 1 1 rfl rfl (by decide) fl_X3_26 rfl dX3_copyFrom_10 ?_
  refine aw_put X (pc := 13) (ws' := (pas2W p0 lf2 ir2 ln p02 lf2 ir2 ln2)) tyX3 tyX3_ok nmX3 iX3 0 1 rfl rfl (by decide) fl_X3_26 rfl (tyX3_ok 1 (by decide)) rfl rfl (Nat.le_of_ble_eq_true rfl) rfl dX3_copyFrom_13 ?_
  refine aw_aload_n X (pc := 16) 0 rfl rfl dX3_copyFrom_16 ?_
  refine aw_aload_n X (pc := 17) 1 rfl rfl dX3_copyFrom_17 ?_
  refine aw_get X (pc := 18) iX3 1 2 rfl rfl (by decide) fl_X3_15 rfl dX3_copyFrom_18 ?_
  refine aw_put X (pc := 21) (ws' := (pas2W p0 lf2 ir2 ln2 p02 lf2 ir2 ln2)) tyX3 tyX3_ok nmX3 iX3 0 2 rfl rfl (by decide) fl_X3_15 rfl (tyX3_ok 2 (by decide)) rfl rfl (Nat.le_of_ble_eq_true rfl) rfl dX3_copyFrom_21 ?_
  exact aw_vret X hQ rfl rfl dX3_copyFrom_24

abbrev rm_X4_copyFrom : Room := { frames := 1, cells := 0, slots := 0, locals := 40 }
set_option maxHeartbeats 400000 in
set_option maxRecDepth 100000 in
theorem c_X4_copyFrom (l : Launch) (D : va_G) (qL : Nat → Nat) (kL : Nat → ClassId) (rows : Nat → Int64) (lens : Nat → Int32) (psz : Int32) (qL2 : Nat → Nat) (kL2 : Nat → ClassId) (rows2 : Nat → Int64) (lens2 : Nat → Int32) (psz2 : Int32)  : MW l D yX4_copyFrom (Cond.code yX4_copyFrom cX4_copyFrom 2 none :: TT) rm_X4_copyFrom [.ref (qL 0), .ref (qL2 0)] [(kL 1, .long), (kL 2, .int), (kL2 1, .long), (kL2 2, .int)] (pil2W qL kL rows lens psz qL2 kL2 rows2 lens2 psz2) none (pil2W qL kL (va_cpy rows2 rows 0 0 65) (va_cpy lens2 lens 0 0 65) psz2 qL2 kL2 rows2 lens2 psz2) := by
  refine MW.of (cc := cX4_copyFrom) (nL := 2) (ret := none) (lv := [(0, .ref (qL 0)), (1, .ref (qL2 0))]) (by decide) ((pil2W_ad ..).trans (pil2W_ad ..).symm) rfl (Nat.le_of_ble_eq_true rfl) ?_
  intro p e s m args below meth c A Q hQ X
  refine aw_aload_n X (pc := 0) 1 rfl rfl dX4_copyFrom_0 ?_
  refine aw_get X (pc := 1) iX4 3 0 rfl rfl (by decide) fl_X4_11 rfl dX4_copyFrom_1 ?_
  refine aw_iconst X (pc := 4) (v := 0) dX4_copyFrom_4 (by decide) ?_
  refine aw_aload_n X (pc := 5) 0 rfl rfl dX4_copyFrom_5 ?_
  refine aw_get X (pc := 6) iX4 0 0 rfl rfl (by decide) fl_X4_11 rfl dX4_copyFrom_6 ?_
  refine aw_iconst X (pc := 9) (v := 0) dX4_copyFrom_9 (by decide) ?_
  refine aw_bipush X (pc := 10) (v := 65) dX4_copyFrom_10 (by decide) ?_
  refine aw_copyl X (pc := 12) (ws' := (pil2W qL kL (va_cpy rows2 rows 0 0 65) lens psz qL2 kL2 rows2 lens2 psz2)) 65 rfl 4 1 2 0 rfl rfl rfl rfl (by first | decide | omega) (by first | decide | omega) cf_X4_27 (by decide) (Nat.le_of_ble_eq_true (by first | rfl | decide)) rfl dX4_copyFrom_12 ?_
  refine aw_aload_n X (pc := 15) 1 rfl rfl dX4_copyFrom_15 ?_
  refine aw_get X (pc := 16) iX4 3 1 rfl rfl (by decide) fl_X4_15 rfl dX4_copyFrom_16 ?_
  refine aw_iconst X (pc := 19) (v := 0) dX4_copyFrom_19 (by decide) ?_
  refine aw_aload_n X (pc := 20) 0 rfl rfl dX4_copyFrom_20 ?_
  refine aw_get X (pc := 21) iX4 0 1 rfl rfl (by decide) fl_X4_15 rfl dX4_copyFrom_21 ?_
  refine aw_iconst X (pc := 24) (v := 0) dX4_copyFrom_24 (by decide) ?_
  refine aw_bipush X (pc := 25) (v := 65) dX4_copyFrom_25 (by decide) ?_
  refine aw_copyi X (pc := 27) (ws' := (pil2W qL kL (va_cpy rows2 rows 0 0 65) (va_cpy lens2 lens 0 0 65) psz qL2 kL2 rows2 lens2 psz2)) 65 rfl 5 2 3 1 rfl rfl rfl rfl (by first | decide | omega) (by first | decide | omega) cf_X4_27 (by decide) (Nat.le_of_ble_eq_true (by first | rfl | decide)) rfl dX4_copyFrom_27 ?_
  refine aw_aload_n X (pc := 30) 0 rfl rfl dX4_copyFrom_30 ?_
  refine aw_aload_n X (pc := 31) 1 rfl rfl dX4_copyFrom_31 ?_
  refine aw_get X (pc := 32) iX4 3 2 rfl rfl (by decide) fl_X4_19 rfl dX4_copyFrom_32 ?_
  refine aw_put X (pc := 35) (ws' := (pil2W qL kL (va_cpy rows2 rows 0 0 65) (va_cpy lens2 lens 0 0 65) psz2 qL2 kL2 rows2 lens2 psz2)) tyX4 tyX4_ok nmX4 iX4 0 2 rfl rfl (by decide) fl_X4_19 rfl (tyX4_ok 2 (by decide)) rfl rfl (Nat.le_of_ble_eq_true rfl) rfl dX4_copyFrom_35 ?_
  exact aw_vret X hQ rfl rfl dX4_copyFrom_38

abbrev rm_X0_copyFrom : Room := { frames := 1, cells := 0, slots := 0, locals := 40 }
set_option maxHeartbeats 400000 in
set_option maxRecDepth 100000 in
theorem c_X0_copyFrom (l : Launch) (D : va_G) (qK : Nat → Nat) (kK : Nat → ClassId) (vals : Nat → Int32) (hold : Int64) (call : Int32) (qK2 : Nat → Nat) (kK2 : Nat → ClassId) (vals2 : Nat → Int32) (hold2 : Int64) (call2 : Int32)  : MW l D yX0_copyFrom (Cond.code yX0_copyFrom cX0_copyFrom 2 none :: TT) rm_X0_copyFrom [.ref (qK 0), .ref (qK2 0)] [(kK 1, .int), (kK2 1, .int)] (cnt2W qK kK vals hold call qK2 kK2 vals2 hold2 call2) none (cnt2W qK kK (va_cpy vals2 vals 0 0 40) hold2 call2 qK2 kK2 vals2 hold2 call2) := by
  refine MW.of (cc := cX0_copyFrom) (nL := 2) (ret := none) (lv := [(0, .ref (qK 0)), (1, .ref (qK2 0))]) (by decide) ((cnt2W_ad ..).trans (cnt2W_ad ..).symm) rfl (Nat.le_of_ble_eq_true rfl) ?_
  intro p e s m args below meth c A Q hQ X
  refine aw_aload_n X (pc := 0) 1 rfl rfl dX0_copyFrom_0 ?_
  refine aw_get X (pc := 1) iX0 2 0 rfl rfl (by decide) fl_X0_9 rfl dX0_copyFrom_1 ?_
  refine aw_iconst X (pc := 4) (v := 0) dX0_copyFrom_4 (by decide) ?_
  refine aw_aload_n X (pc := 5) 0 rfl rfl dX0_copyFrom_5 ?_
  refine aw_get X (pc := 6) iX0 0 0 rfl rfl (by decide) fl_X0_9 rfl dX0_copyFrom_6 ?_
  refine aw_iconst X (pc := 9) (v := 0) dX0_copyFrom_9 (by decide) ?_
  refine aw_bipush X (pc := 10) (v := 40) dX0_copyFrom_10 (by decide) ?_
  refine aw_copyi X (pc := 12) (ws' := (cnt2W qK kK (va_cpy vals2 vals 0 0 40) hold call qK2 kK2 vals2 hold2 call2)) 40 rfl 3 1 1 0 rfl rfl rfl rfl (by first | decide | omega) (by first | decide | omega) cf_X0_45 (by decide) (Nat.le_of_ble_eq_true (by first | rfl | decide)) rfl dX0_copyFrom_12 ?_
  refine aw_aload_n X (pc := 15) 0 rfl rfl dX0_copyFrom_15 ?_
  refine aw_aload_n X (pc := 16) 1 rfl rfl dX0_copyFrom_16 ?_
  refine aw_get X (pc := 17) iX0 2 1 rfl rfl (by decide) fl_X0_25 rfl dX0_copyFrom_17 ?_
  refine aw_put X (pc := 20) (ws' := (cnt2W qK kK (va_cpy vals2 vals 0 0 40) hold2 call qK2 kK2 vals2 hold2 call2)) tyX0 tyX0_ok nmX0 iX0 0 1 rfl rfl (by decide) fl_X0_25 rfl (tyX0_ok 1 (by decide)) rfl rfl (Nat.le_of_ble_eq_true rfl) rfl dX0_copyFrom_20 ?_
  refine aw_aload_n X (pc := 23) 0 rfl rfl dX0_copyFrom_23 ?_
  refine aw_aload_n X (pc := 24) 1 rfl rfl dX0_copyFrom_24 ?_
  refine aw_get X (pc := 25) iX0 2 2 rfl rfl (by decide) fl_X0_15 rfl dX0_copyFrom_25 ?_
  refine aw_put X (pc := 28) (ws' := (cnt2W qK kK (va_cpy vals2 vals 0 0 40) hold2 call2 qK2 kK2 vals2 hold2 call2)) tyX0 tyX0_ok nmX0 iX0 0 2 rfl rfl (by decide) fl_X0_15 rfl (tyX0_ok 2 (by decide)) rfl rfl (Nat.le_of_ble_eq_true rfl) rfl dX0_copyFrom_28 ?_
  exact aw_vret X hQ rfl rfl dX0_copyFrom_31

abbrev rm_X2_copyFrom : Room := { frames := 0, cells := 0, slots := 0, locals := 0 }
set_option maxHeartbeats 400000 in
set_option maxRecDepth 100000 in
theorem c_X2_copyFrom (l : Launch) (D : va_G) (f0 : Nat) (fio : Int64) (fqu : Int32) (fal : Int32) (fco : Int32) (fgu : Int32) (f02 : Nat) (fio2 : Int64) (fqu2 : Int32) (fal2 : Int32) (fco2 : Int32) (fgu2 : Int32)  : MW l D yX2_copyFrom (Cond.code yX2_copyFrom cX2_copyFrom 2 none :: TT) rm_X2_copyFrom [.ref f0, .ref f02] [] (frm2W f0 fio fqu fal fco fgu f02 fio2 fqu2 fal2 fco2 fgu2) none (frm2W f0 fio2 fqu2 fal2 fco2 fgu2 f02 fio2 fqu2 fal2 fco2 fgu2) := by
  refine MW.of (cc := cX2_copyFrom) (nL := 2) (ret := none) (lv := [(0, .ref f0), (1, .ref f02)]) (by decide) ((frm2W_ad ..).trans (frm2W_ad ..).symm) rfl (Nat.le_of_ble_eq_true rfl) ?_
  intro p e s m args below meth c A Q hQ X
  refine aw_aload_n X (pc := 0) 0 rfl rfl dX2_copyFrom_0 ?_
  refine aw_aload_n X (pc := 1) 1 rfl rfl dX2_copyFrom_1 ?_
  refine aw_get X (pc := 2) iX2 1 0 rfl rfl (by decide) fl_X2_34 rfl dX2_copyFrom_2 ?_
  refine aw_put X (pc := 5) (ws' := (frm2W f0 fio2 fqu fal fco fgu f02 fio2 fqu2 fal2 fco2 fgu2)) tyX2 tyX2_ok nmX2 iX2 0 0 rfl rfl (by decide) fl_X2_34 rfl (tyX2_ok 0 (by decide)) rfl rfl (Nat.le_of_ble_eq_true rfl) rfl dX2_copyFrom_5 ?_
  refine aw_aload_n X (pc := 8) 0 rfl rfl dX2_copyFrom_8 ?_
  refine aw_aload_n X (pc := 9) 1 rfl rfl dX2_copyFrom_9 ?_
  refine aw_get X (pc := 10) iX2 1 1 rfl rfl (by decide) fl_X2_9 rfl dX2_copyFrom_10 ?_
  refine aw_put X (pc := 13) (ws' := (frm2W f0 fio2 fqu2 fal fco fgu f02 fio2 fqu2 fal2 fco2 fgu2)) tyX2 tyX2_ok nmX2 iX2 0 1 rfl rfl (by decide) fl_X2_9 rfl (tyX2_ok 1 (by decide)) rfl rfl (Nat.le_of_ble_eq_true rfl) rfl dX2_copyFrom_13 ?_
  refine aw_aload_n X (pc := 16) 0 rfl rfl dX2_copyFrom_16 ?_
  refine aw_aload_n X (pc := 17) 1 rfl rfl dX2_copyFrom_17 ?_
  refine aw_get X (pc := 18) iX2 1 2 rfl rfl (by decide) fl_X2_15 rfl dX2_copyFrom_18 ?_
  refine aw_put X (pc := 21) (ws' := (frm2W f0 fio2 fqu2 fal2 fco fgu f02 fio2 fqu2 fal2 fco2 fgu2)) tyX2 tyX2_ok nmX2 iX2 0 2 rfl rfl (by decide) fl_X2_15 rfl (tyX2_ok 2 (by decide)) rfl rfl (Nat.le_of_ble_eq_true rfl) rfl dX2_copyFrom_21 ?_
  refine aw_aload_n X (pc := 24) 0 rfl rfl dX2_copyFrom_24 ?_
  refine aw_aload_n X (pc := 25) 1 rfl rfl dX2_copyFrom_25 ?_
  refine aw_get X (pc := 26) iX2 1 3 rfl rfl (by decide) fl_X2_18 rfl dX2_copyFrom_26 ?_
  refine aw_put X (pc := 29) (ws' := (frm2W f0 fio2 fqu2 fal2 fco2 fgu f02 fio2 fqu2 fal2 fco2 fgu2)) tyX2 tyX2_ok nmX2 iX2 0 3 rfl rfl (by decide) fl_X2_18 rfl (tyX2_ok 3 (by decide)) rfl rfl (Nat.le_of_ble_eq_true rfl) rfl dX2_copyFrom_29 ?_
  refine aw_aload_n X (pc := 32) 0 rfl rfl dX2_copyFrom_32 ?_
  refine aw_aload_n X (pc := 33) 1 rfl rfl dX2_copyFrom_33 ?_
  refine aw_get X (pc := 34) iX2 1 4 rfl rfl (by decide) fl_X2_31 rfl dX2_copyFrom_34 ?_
  refine aw_put X (pc := 37) (ws' := (frm2W f0 fio2 fqu2 fal2 fco2 fgu2 f02 fio2 fqu2 fal2 fco2 fgu2)) tyX2 tyX2_ok nmX2 iX2 0 4 rfl rfl (by decide) fl_X2_31 rfl (tyX2_ok 4 (by decide)) rfl rfl (Nat.le_of_ble_eq_true rfl) rfl dX2_copyFrom_37 ?_
  exact aw_vret X hQ rfl rfl dX2_copyFrom_40

abbrev rm_X7_copyFrom : Room := { frames := 1, cells := 0, slots := 0, locals := 40 }
set_option maxHeartbeats 400000 in
set_option maxRecDepth 100000 in
theorem c_X7_copyFrom (l : Launch) (D : va_G) (qY : Nat → Nat) (kY : Nat → ClassId) (ft : Nat → Int32) (fs : Int32) (qs : Int32) (als : Int32) (cs : Int32) (ps : Int32) (qY2 : Nat → Nat) (kY2 : Nat → ClassId) (ft2 : Nat → Int32) (fs2 : Int32) (qs2 : Int32) (als2 : Int32) (cs2 : Int32) (ps2 : Int32)  : MW l D yX7_copyFrom (Cond.code yX7_copyFrom cX7_copyFrom 2 none :: TT) rm_X7_copyFrom [.ref (qY 0), .ref (qY2 0)] [(kY 1, .int), (kY2 1, .int)] (tal2W qY kY ft fs qs als cs ps qY2 kY2 ft2 fs2 qs2 als2 cs2 ps2) none (tal2W qY kY (va_cpy ft2 ft 0 0 200) fs2 qs2 als2 cs2 ps2 qY2 kY2 ft2 fs2 qs2 als2 cs2 ps2) := by
  refine MW.of (cc := cX7_copyFrom) (nL := 2) (ret := none) (lv := [(0, .ref (qY 0)), (1, .ref (qY2 0))]) (by decide) ((tal2W_ad ..).trans (tal2W_ad ..).symm) rfl (Nat.le_of_ble_eq_true rfl) ?_
  intro p e s m args below meth c A Q hQ X
  refine aw_aload_n X (pc := 0) 1 rfl rfl dX7_copyFrom_0 ?_
  refine aw_get X (pc := 1) iX7 2 0 rfl rfl (by decide) fl_X7_9 rfl dX7_copyFrom_1 ?_
  refine aw_iconst X (pc := 4) (v := 0) dX7_copyFrom_4 (by decide) ?_
  refine aw_aload_n X (pc := 5) 0 rfl rfl dX7_copyFrom_5 ?_
  refine aw_get X (pc := 6) iX7 0 0 rfl rfl (by decide) fl_X7_9 rfl dX7_copyFrom_6 ?_
  refine aw_iconst X (pc := 9) (v := 0) dX7_copyFrom_9 (by decide) ?_
  refine aw_sipush X (pc := 10) (v := 200) dX7_copyFrom_10 (by decide) ?_
  refine aw_copyi X (pc := 13) (ws' := (tal2W qY kY (va_cpy ft2 ft 0 0 200) fs qs als cs ps qY2 kY2 ft2 fs2 qs2 als2 cs2 ps2)) 200 rfl 3 1 1 0 rfl rfl rfl rfl (by first | decide | omega) (by first | decide | omega) cf_X7_31 (by decide) (Nat.le_of_ble_eq_true (by first | rfl | decide)) rfl dX7_copyFrom_13 ?_
  refine aw_aload_n X (pc := 16) 0 rfl rfl dX7_copyFrom_16 ?_
  refine aw_aload_n X (pc := 17) 1 rfl rfl dX7_copyFrom_17 ?_
  refine aw_get X (pc := 18) iX7 2 1 rfl rfl (by decide) fl_X7_15 rfl dX7_copyFrom_18 ?_
  refine aw_put X (pc := 21) (ws' := (tal2W qY kY (va_cpy ft2 ft 0 0 200) fs2 qs als cs ps qY2 kY2 ft2 fs2 qs2 als2 cs2 ps2)) tyX7 tyX7_ok nmX7 iX7 0 1 rfl rfl (by decide) fl_X7_15 rfl (tyX7_ok 1 (by decide)) rfl rfl (Nat.le_of_ble_eq_true rfl) rfl dX7_copyFrom_21 ?_
  refine aw_aload_n X (pc := 24) 0 rfl rfl dX7_copyFrom_24 ?_
  refine aw_aload_n X (pc := 25) 1 rfl rfl dX7_copyFrom_25 ?_
  refine aw_get X (pc := 26) iX7 2 2 rfl rfl (by decide) fl_X7_19 rfl dX7_copyFrom_26 ?_
  refine aw_put X (pc := 29) (ws' := (tal2W qY kY (va_cpy ft2 ft 0 0 200) fs2 qs2 als cs ps qY2 kY2 ft2 fs2 qs2 als2 cs2 ps2)) tyX7 tyX7_ok nmX7 iX7 0 2 rfl rfl (by decide) fl_X7_19 rfl (tyX7_ok 2 (by decide)) rfl rfl (Nat.le_of_ble_eq_true rfl) rfl dX7_copyFrom_29 ?_
  refine aw_aload_n X (pc := 32) 0 rfl rfl dX7_copyFrom_32 ?_
  refine aw_aload_n X (pc := 33) 1 rfl rfl dX7_copyFrom_33 ?_
  refine aw_get X (pc := 34) iX7 2 3 rfl rfl (by decide) fl_X7_22 rfl dX7_copyFrom_34 ?_
  refine aw_put X (pc := 37) (ws' := (tal2W qY kY (va_cpy ft2 ft 0 0 200) fs2 qs2 als2 cs ps qY2 kY2 ft2 fs2 qs2 als2 cs2 ps2)) tyX7 tyX7_ok nmX7 iX7 0 3 rfl rfl (by decide) fl_X7_22 rfl (tyX7_ok 3 (by decide)) rfl rfl (Nat.le_of_ble_eq_true rfl) rfl dX7_copyFrom_37 ?_
  refine aw_aload_n X (pc := 40) 0 rfl rfl dX7_copyFrom_40 ?_
  refine aw_aload_n X (pc := 41) 1 rfl rfl dX7_copyFrom_41 ?_
  refine aw_get X (pc := 42) iX7 2 4 rfl rfl (by decide) fl_X7_25 rfl dX7_copyFrom_42 ?_
  refine aw_put X (pc := 45) (ws' := (tal2W qY kY (va_cpy ft2 ft 0 0 200) fs2 qs2 als2 cs2 ps qY2 kY2 ft2 fs2 qs2 als2 cs2 ps2)) tyX7 tyX7_ok nmX7 iX7 0 4 rfl rfl (by decide) fl_X7_25 rfl (tyX7_ok 4 (by decide)) rfl rfl (Nat.le_of_ble_eq_true rfl) rfl dX7_copyFrom_45 ?_
  refine aw_aload_n X (pc := 48) 0 rfl rfl dX7_copyFrom_48 ?_
  refine aw_aload_n X (pc := 49) 1 rfl rfl dX7_copyFrom_49 ?_
  refine aw_get X (pc := 50) iX7 2 5 rfl rfl (by decide) fl_X7_28 rfl dX7_copyFrom_50 ?_
  refine aw_put X (pc := 53) (ws' := (tal2W qY kY (va_cpy ft2 ft 0 0 200) fs2 qs2 als2 cs2 ps2 qY2 kY2 ft2 fs2 qs2 als2 cs2 ps2)) tyX7 tyX7_ok nmX7 iX7 0 5 rfl rfl (by decide) fl_X7_28 rfl (tyX7_ok 5 (by decide)) rfl rfl (Nat.le_of_ble_eq_true rfl) rfl dX7_copyFrom_53 ?_
  exact aw_vret X hQ rfl rfl dX7_copyFrom_56
