section LAWC1
variable {p : Program} {l : Launch} {e : Env} {s : State} {m : MethodId} {below : List Frame} {meth : Method} {c : Code} {D : va_G} {tys : List (ClassId × FieldType)} {A : Nat → Prop} {Q : State → Prop} {b L T : Nat} {xs : Nat → Int32} {r0 : Nat} {ri : Nat} {rs : Nat} {kS : ClassId} {sl : Nat → Int64} {qC : Nat → Nat} {kC : Nat → ClassId} {pr : Nat → Int64} {nx : Nat → Int64} {csz : Int32} {s0 : Nat} {qT : Nat → Nat} {kT : Nat → ClassId} {kinds : Nat → Int32} {names : Nat → Int64} {seeds : Nat → Int32} {ones : Nat → Int64} {ofk : Nat → Int64} {sz : Int32} {there : Int64} {awake : Int64} {grp : Int64} {gm : Int64} {gb : Int64} {p0 : Nat} {lf : Int32} {ir : Int32} {ln : Int64} {qL : Nat → Nat} {kL : Nat → ClassId} {rows : Nat → Int64} {lens : Nat → Int32} {psz : Int32} {qK : Nat → Nat} {kK : Nat → ClassId} {vals : Nat → Int32} {hold : Int64} {call : Int32} {f0 : Nat} {fio : Int64} {fqu : Int32} {fal : Int32} {fco : Int32} {fgu : Int32} {qY : Nat → Nat} {kY : Nat → ClassId} {ft : Nat → Int32} {fs : Int32} {qs : Int32} {als : Int32} {cs : Int32} {ps : Int32} {wire : Int32} {alo : Int32} {ki : ClassId} {im : Nat → Option Nat} {iw : Nat → va_W} {q : Nat → Nat} {kc : Nat → ClassId} {a : Nat → Int32} {w : Nat → Int64} {hs : Nat → Int32} {inn : Nat → Int32} {sp : Nat → Int32} {lone : Int32} {lt : Nat → Int64} {lz : Nat → Int32} {dr : Nat → Int32} {n f z : Nat}
set_option maxHeartbeats 1000000 in
set_option maxRecDepth 100000 in
theorem law_tell (X : Cx p s m #[Value.ref b] meth c cL_law 4 (some .boolean) RL D tys A) (hX : va_X b L xs s s.heap) (hbl : b < s.heap.size) (hbA : ¬ A b) (hT : T < 512) (hi : 5 * T + 5 ≤ L) (hL : L ≤ 2560) (hR : Rel T a w n f z kinds names seeds ones ofk sz there awake grp gm gb lf ir ln rows lens psz vals hold call fio fqu fal fco fgu ft fs qs als cs ps wire alo) (hI : ∀ k, k < 4 → ImgOK T a w hs im tys k (iw k)) (ht1 : ∀ x ∈ ([(kS, .long), (kC 1, .long), (kC 2, .long), (kT 1, .int), (kT 2, .long), (kT 3, .int), (kT 4, .long), (kT 5, .long), (kL 1, .long), (kL 2, .int), (kK 1, .int), (kY 1, .int)] : List (ClassId × FieldType)), x ∈ tys) (htk : (ki, FieldType.object RX5) ∈ tys) (ht2 : ∀ x ∈ ([(kc 1, .int), (kc 2, .long), (kc 3, .boolean), (kc 4, .boolean), (kc 5, .boolean), (kc 6, .long), (kc 7, .int), (kc 8, .int)] : List (ClassId × FieldType)), x ∈ tys) (K : ∀ (ws' : va_W) (tys' : List (ClassId × FieldType)), LI (T + 1) r0 (q 0) ws' tys' → Cx p s m #[Value.ref b] meth c cL_law 4 (some .boolean) RL D tys' A → AW p l e room_1 s m #[Value.ref b] below meth c D A 4 (31 + 16 * (T + 1)) (4328 + 599 * (T + 1)) Q 880 [(3, .int (nI (5 * T))), (0, .ref b), (1, .ref r0), (2, .ref (q 0))] [] ws') : AW p l e room_1 s m #[Value.ref b] below meth c D A 4 (31 + 16 * T) (4328 + 599 * T) Q 321 [(3, .int (nI (5 * T))), (0, .ref b), (1, .ref r0), (2, .ref (q 0))] [] (rolW r0 ri rs kS sl qC kC pr nx 0 csz s0 qT kT kinds names seeds ones ofk sz there awake grp gm gb p0 lf ir ln qL kL rows lens psz qK kK vals hold call f0 fio fqu fal fco fgu qY kY ft fs qs als cs ps wire alo ++ (rimW ri ki im ++ (imsW iw ++ mW q kc a w hs inn sp lone lt lz dr))) := by
  have hc0 : 31 + 16 * T ≤ room_1.cells ∧ 4328 + 599 * T ≤ room_1.slots := ⟨by show _ ≤ 600000; omega, by show _ ≤ 7302250; omega⟩
  have h15 := hR.2.2.2.2.2.1.1
  have hf := hR.2.2.2.2.2.1.2.1
  have hz := pJ_wt hR.2.2.2.2.1.2.2.2
  refine aw_aload_n X (pc := 321) 2 rfl rfl dL_law_321 ?_
  refine aw_aload_n X (pc := 322) 1 rfl rfl dL_law_322 ?_
  refine aw_iload_n X (pc := 323) 0 rfl rfl dL_law_323 ?_
  refine aw_iconst X (pc := 324) (v := 1) dL_law_324 (by decide) ?_
  refine aw_iadd X (pc := 325) (z := nI (5 * T + 1)) (nn_add (a := 5 * T) (b := 1) rfl rfl rfl) dL_law_325 ?_
  refine aw_sld X (pc := 326) hX hbl hbA (5 * T + 1) rfl (by omega) (by omega) dL_law_326 ?_
  refine aw_aload_n X (pc := 327) 1 rfl rfl dL_law_327 ?_
  refine aw_iload_n X (pc := 328) 0 rfl rfl dL_law_328 ?_
  refine aw_iconst X (pc := 329) (v := 2) dL_law_329 (by decide) ?_
  refine aw_iadd X (pc := 330) (z := nI (5 * T + 2)) (nn_add (a := 5 * T) (b := 2) rfl rfl rfl) dL_law_330 ?_
  refine aw_sld X (pc := 331) hX hbl hbA (5 * T + 2) rfl (by omega) (by omega) dL_law_331 ?_
  have hE := eq_tell (xs (5 * T + 1)) (xs (5 * T + 2)) hR
  refine aw_callP X (pc := 332) (q1 := 0) (rest := []) (st' := [.int (r_X8_tell kinds seeds sz there awake grp vals hold ft f (xs (5 * T + 1)) (xs (5 * T + 2)))]) (wr := rimW ri ki im ++ (imsW iw ++ mW q kc a w hs inn sp lone lt lz dr)) (ws' := (rolW r0 ri rs kS sl qC kC pr nx 0 csz s0 qT kT kinds names seeds ones ofk sz there awake grp gm gb p0 lf ir ln qL kL rows lens psz qK kK vals hold call f0 fio fqu fal fco fgu qY kY ft fs qs als cs ps wire alo) ++ (rimW ri ki im ++ (imsW iw ++ mW q kc a w hs inn sp lone lt lz dr))) (c_X8_tell l D r0 ri rs kS sl qC kC pr nx 0 csz s0 qT kT kinds names seeds ones ofk sz there awake grp gm gb p0 lf ir ln qL kL rows lens psz qK kK vals hold call f0 fio fqu fal fco fgu qY kY ft fs qs als cs ps wire alo n f (xs (5 * T + 1)) (xs (5 * T + 2)) hR.1.2.2.1 hR.1.2.1 hR.2.2.2.2.2.1.2.2.1 hR.2.2.2.2.2.1.2.1) rfl rfl List.perm_append_comm List.perm_append_comm ht1 ⟨_, _, rfl⟩ rfl cf_L_35 cd_X8_tell dd_X8_tell ⟨Nat.le_of_ble_eq_true rfl, Nat.le_of_ble_eq_true rfl⟩ hc0 (by decide) rfl (Nat.le_of_ble_eq_true rfl) dL_law_332 rfl ?_
  refine aw_aload_n X (pc := 335) 3 rfl rfl dL_law_335 ?_
  refine aw_aload_n X (pc := 336) 1 rfl rfl dL_law_336 ?_
  refine aw_iload_n X (pc := 337) 0 rfl rfl dL_law_337 ?_
  refine aw_iconst X (pc := 338) (v := 1) dL_law_338 (by decide) ?_
  refine aw_iadd X (pc := 339) (z := nI (5 * T + 1)) (nn_add (a := 5 * T) (b := 1) rfl rfl rfl) dL_law_339 ?_
  refine aw_sld X (pc := 340) hX hbl hbA (5 * T + 1) rfl (by omega) (by omega) dL_law_340 ?_
  refine aw_aload_n X (pc := 341) 1 rfl rfl dL_law_341 ?_
  refine aw_iload_n X (pc := 342) 0 rfl rfl dL_law_342 ?_
  refine aw_iconst X (pc := 343) (v := 2) dL_law_343 (by decide) ?_
  refine aw_iadd X (pc := 344) (z := nI (5 * T + 2)) (nn_add (a := 5 * T) (b := 2) rfl rfl rfl) dL_law_344 ?_
  refine aw_sld X (pc := 345) hX hbl hbA (5 * T + 2) rfl (by omega) (by omega) dL_law_345 ?_
  refine aw_callP X (pc := 346) (q1 := 0) (rest := [.int (r_X8_tell kinds seeds sz there awake grp vals hold ft f (xs (5 * T + 1)) (xs (5 * T + 2)))]) (st' := [.int (r_X9_tell a w f (xs (5 * T + 1)) (xs (5 * T + 2))), .int (r_X8_tell kinds seeds sz there awake grp vals hold ft f (xs (5 * T + 1)) (xs (5 * T + 2)))]) (wr := (rolW r0 ri rs kS sl qC kC pr nx 0 csz s0 qT kT kinds names seeds ones ofk sz there awake grp gm gb p0 lf ir ln qL kL rows lens psz qK kK vals hold call f0 fio fqu fal fco fgu qY kY ft fs qs als cs ps wire alo) ++ (rimW ri ki im ++ imsW iw)) (ws' := (rolW r0 ri rs kS sl qC kC pr nx 0 csz s0 qT kT kinds names seeds ones ofk sz there awake grp gm gb p0 lf ir ln qL kL rows lens psz qK kK vals hold call f0 fio fqu fal fco fgu qY kY ft fs qs als cs ps wire alo) ++ (rimW ri ki im ++ (imsW iw ++ (mW q kc a w hs inn sp lone lt lz dr)))) (c_X9_tell l D q kc a w hs inn sp lone lt lz dr n f (xs (5 * T + 1)) (xs (5 * T + 2)) hR.1.1 hR.1.2.1 hR.2.2.2.2.2.1.1 hR.2.2.2.2.2.1.2.1) rfl rfl (pm_M _ _ _ _) (pm_M _ _ _ _).symm ht2 ⟨_, _, rfl⟩ rfl cf_L_39 cd_X9_tell dd_X9_tell ⟨Nat.le_of_ble_eq_true rfl, Nat.le_of_ble_eq_true rfl⟩ hc0 (by decide) rfl (Nat.le_of_ble_eq_true rfl) dL_law_346 rfl ?_
  refine aw_icmp_eq X (pc := 349) (tgt := 880) (by decide) dL_law_349 (fun _ => ?_) (fun c1 => absurd hE c1)
  refine aw_widen (k := 31 + 16 * (T + 1)) (n := 4328 + 599 * (T + 1)) (by omega) (by omega) ?_
  have hR2 := hR.move (Nat.le_succ T) (fun _ _ => rfl) (fun _ _ => rfl)
  exact K _ _ ⟨_, _, _, _, _, _, _, _, _, _, _, _, _, _, _, _, _, _, _, _, _, _, _, _, _, _, _, _, _, _, _, _, _, _, _, _, _, _, _, _, _, _, _, _, _, _, _, _, _, _, _, _, _, _, _, _, _, _, _, _, _, _, _, _, _, _, _, _, _, _, _, rfl, rfl, rfl, hR2, ImgOK.fr (FrA.refl a) (FrW.refl w) hI, ht1, htk, ht2⟩ X

set_option maxHeartbeats 1000000 in
set_option maxRecDepth 100000 in
theorem law_act (X : Cx p s m #[Value.ref b] meth c cL_law 4 (some .boolean) RL D tys A) (hX : va_X b L xs s s.heap) (hbl : b < s.heap.size) (hbA : ¬ A b) (hT : T < 512) (hi : 5 * T + 5 ≤ L) (hL : L ≤ 2560) (hR : Rel T a w n f z kinds names seeds ones ofk sz there awake grp gm gb lf ir ln rows lens psz vals hold call fio fqu fal fco fgu ft fs qs als cs ps wire alo) (hI : ∀ k, k < 4 → ImgOK T a w hs im tys k (iw k)) (ht1 : ∀ x ∈ ([(kS, .long), (kC 1, .long), (kC 2, .long), (kT 1, .int), (kT 2, .long), (kT 3, .int), (kT 4, .long), (kT 5, .long), (kL 1, .long), (kL 2, .int), (kK 1, .int), (kY 1, .int)] : List (ClassId × FieldType)), x ∈ tys) (htk : (ki, FieldType.object RX5) ∈ tys) (ht2 : ∀ x ∈ ([(kc 1, .int), (kc 2, .long), (kc 3, .boolean), (kc 4, .boolean), (kc 5, .boolean), (kc 6, .long), (kc 7, .int), (kc 8, .int)] : List (ClassId × FieldType)), x ∈ tys) (K : ∀ (ws' : va_W) (tys' : List (ClassId × FieldType)), LI (T + 1) r0 (q 0) ws' tys' → Cx p s m #[Value.ref b] meth c cL_law 4 (some .boolean) RL D tys' A → AW p l e room_1 s m #[Value.ref b] below meth c D A 4 (31 + 16 * (T + 1)) (4328 + 599 * (T + 1)) Q 880 [(3, .int (nI (5 * T))), (0, .ref b), (1, .ref r0), (2, .ref (q 0))] [] ws') : AW p l e room_1 s m #[Value.ref b] below meth c D A 4 (31 + 16 * T) (4328 + 599 * T) Q 354 [(3, .int (nI (5 * T))), (0, .ref b), (1, .ref r0), (2, .ref (q 0))] [] (rolW r0 ri rs kS sl qC kC pr nx 0 csz s0 qT kT kinds names seeds ones ofk sz there awake grp gm gb p0 lf ir ln qL kL rows lens psz qK kK vals hold call f0 fio fqu fal fco fgu qY kY ft fs qs als cs ps wire alo ++ (rimW ri ki im ++ (imsW iw ++ mW q kc a w hs inn sp lone lt lz dr))) := by
  have hc0 : 31 + 16 * T ≤ room_1.cells ∧ 4328 + 599 * T ≤ room_1.slots := ⟨by show _ ≤ 600000; omega, by show _ ≤ 7302250; omega⟩
  have h15 := hR.2.2.2.2.2.1.1
  have hf := hR.2.2.2.2.2.1.2.1
  have hz := pJ_wt hR.2.2.2.2.1.2.2.2
  refine aw_aload_n X (pc := 354) 2 rfl rfl dL_law_354 ?_
  refine aw_aload_n X (pc := 355) 1 rfl rfl dL_law_355 ?_
  refine aw_iload_n X (pc := 356) 0 rfl rfl dL_law_356 ?_
  refine aw_iconst X (pc := 357) (v := 1) dL_law_357 (by decide) ?_
  refine aw_iadd X (pc := 358) (z := nI (5 * T + 1)) (nn_add (a := 5 * T) (b := 1) rfl rfl rfl) dL_law_358 ?_
  refine aw_sld X (pc := 359) hX hbl hbA (5 * T + 1) rfl (by omega) (by omega) dL_law_359 ?_
  refine aw_aload_n X (pc := 360) 1 rfl rfl dL_law_360 ?_
  refine aw_iload_n X (pc := 361) 0 rfl rfl dL_law_361 ?_
  refine aw_iconst X (pc := 362) (v := 2) dL_law_362 (by decide) ?_
  refine aw_iadd X (pc := 363) (z := nI (5 * T + 2)) (nn_add (a := 5 * T) (b := 2) rfl rfl rfl) dL_law_363 ?_
  refine aw_sld X (pc := 364) hX hbl hbA (5 * T + 2) rfl (by omega) (by omega) dL_law_364 ?_
  have hE := eq_act (xs (5 * T + 1)) (xs (5 * T + 2)) hR
  refine aw_callP X (pc := 365) (q1 := 0) (rest := []) (st' := [.int (r_X8_act kinds sz there awake (xs (5 * T + 1)) (xs (5 * T + 2)))]) (wr := rimW ri ki im ++ (imsW iw ++ mW q kc a w hs inn sp lone lt lz dr)) (ws' := (rolW r0 ri rs kS sl qC kC pr nx 0 csz s0 qT kT kinds names seeds ones ofk sz (u_X8_act_there sz there (xs (5 * T + 1)) (xs (5 * T + 2))) (u_X8_act_awake kinds sz awake (xs (5 * T + 1)) (xs (5 * T + 2))) grp gm gb p0 lf ir ln qL kL rows lens psz qK kK vals hold call f0 fio fqu fal fco fgu qY kY ft fs qs als cs ps wire alo) ++ (rimW ri ki im ++ (imsW iw ++ mW q kc a w hs inn sp lone lt lz dr))) (c_X8_act l D r0 ri rs kS sl qC kC pr nx 0 csz s0 qT kT kinds names seeds ones ofk sz there awake grp gm gb p0 lf ir ln qL kL rows lens psz qK kK vals hold call f0 fio fqu fal fco fgu qY kY ft fs qs als cs ps wire alo n (xs (5 * T + 1)) (xs (5 * T + 2)) hR.1.2.2.1 hR.1.2.1) rfl rfl List.perm_append_comm List.perm_append_comm ht1 ⟨_, _, rfl⟩ rfl cf_L_40 cd_X8_act dd_X8_act ⟨Nat.le_of_ble_eq_true rfl, Nat.le_of_ble_eq_true rfl⟩ hc0 (by decide) rfl (Nat.le_of_ble_eq_true rfl) dL_law_365 rfl ?_
  refine aw_aload_n X (pc := 368) 3 rfl rfl dL_law_368 ?_
  refine aw_aload_n X (pc := 369) 1 rfl rfl dL_law_369 ?_
  refine aw_iload_n X (pc := 370) 0 rfl rfl dL_law_370 ?_
  refine aw_iconst X (pc := 371) (v := 1) dL_law_371 (by decide) ?_
  refine aw_iadd X (pc := 372) (z := nI (5 * T + 1)) (nn_add (a := 5 * T) (b := 1) rfl rfl rfl) dL_law_372 ?_
  refine aw_sld X (pc := 373) hX hbl hbA (5 * T + 1) rfl (by omega) (by omega) dL_law_373 ?_
  refine aw_aload_n X (pc := 374) 1 rfl rfl dL_law_374 ?_
  refine aw_iload_n X (pc := 375) 0 rfl rfl dL_law_375 ?_
  refine aw_iconst X (pc := 376) (v := 2) dL_law_376 (by decide) ?_
  refine aw_iadd X (pc := 377) (z := nI (5 * T + 2)) (nn_add (a := 5 * T) (b := 2) rfl rfl rfl) dL_law_377 ?_
  refine aw_sld X (pc := 378) hX hbl hbA (5 * T + 2) rfl (by omega) (by omega) dL_law_378 ?_
  refine aw_callP X (pc := 379) (q1 := 0) (rest := [.int (r_X8_act kinds sz there awake (xs (5 * T + 1)) (xs (5 * T + 2)))]) (st' := [.int (r_X9_act a (xs (5 * T + 1)) (xs (5 * T + 2))), .int (r_X8_act kinds sz there awake (xs (5 * T + 1)) (xs (5 * T + 2)))]) (wr := (rolW r0 ri rs kS sl qC kC pr nx 0 csz s0 qT kT kinds names seeds ones ofk sz (u_X8_act_there sz there (xs (5 * T + 1)) (xs (5 * T + 2))) (u_X8_act_awake kinds sz awake (xs (5 * T + 1)) (xs (5 * T + 2))) grp gm gb p0 lf ir ln qL kL rows lens psz qK kK vals hold call f0 fio fqu fal fco fgu qY kY ft fs qs als cs ps wire alo) ++ (rimW ri ki im ++ imsW iw)) (ws' := (rolW r0 ri rs kS sl qC kC pr nx 0 csz s0 qT kT kinds names seeds ones ofk sz (u_X8_act_there sz there (xs (5 * T + 1)) (xs (5 * T + 2))) (u_X8_act_awake kinds sz awake (xs (5 * T + 1)) (xs (5 * T + 2))) grp gm gb p0 lf ir ln qL kL rows lens psz qK kK vals hold call f0 fio fqu fal fco fgu qY kY ft fs qs als cs ps wire alo) ++ (rimW ri ki im ++ (imsW iw ++ (mW q kc (u_X9_act_a a (xs (5 * T + 1)) (xs (5 * T + 2))) w hs inn sp lone lt lz dr)))) (c_X9_act l D q kc a w hs inn sp lone lt lz dr n (xs (5 * T + 1)) (xs (5 * T + 2)) hR.1.1 hR.1.2.1) rfl rfl (pm_M _ _ _ _) (pm_M _ _ _ _).symm ht2 ⟨_, _, rfl⟩ rfl cf_L_44 cd_X9_act dd_X9_act ⟨Nat.le_of_ble_eq_true rfl, Nat.le_of_ble_eq_true rfl⟩ hc0 (by decide) rfl (Nat.le_of_ble_eq_true rfl) dL_law_379 rfl ?_
  refine aw_icmp_eq X (pc := 382) (tgt := 880) (by decide) dL_law_382 (fun _ => ?_) (fun c1 => absurd hE.1 c1)
  refine aw_widen (k := 31 + 16 * (T + 1)) (n := 4328 + 599 * (T + 1)) (by omega) (by omega) ?_
  have hR2 := hE.2
  exact K _ _ ⟨_, _, _, _, _, _, _, _, _, _, _, _, _, _, _, _, _, _, _, _, _, _, _, _, _, _, _, _, _, _, _, _, _, _, _, _, _, _, _, _, _, _, _, _, _, _, _, _, _, _, _, _, _, _, _, _, _, _, _, _, _, _, _, _, _, _, _, _, _, _, _, rfl, rfl, rfl, hR2, ImgOK.fr (fra_act hR.1.1 hR.1.2.1 (xs (5 * T + 1)) (xs (5 * T + 2))) (FrW.refl w) hI, ht1, htk, ht2⟩ X

set_option maxHeartbeats 1000000 in
set_option maxRecDepth 100000 in
theorem law_group (X : Cx p s m #[Value.ref b] meth c cL_law 4 (some .boolean) RL D tys A) (hX : va_X b L xs s s.heap) (hbl : b < s.heap.size) (hbA : ¬ A b) (hT : T < 512) (hi : 5 * T + 5 ≤ L) (hL : L ≤ 2560) (hR : Rel T a w n f z kinds names seeds ones ofk sz there awake grp gm gb lf ir ln rows lens psz vals hold call fio fqu fal fco fgu ft fs qs als cs ps wire alo) (hI : ∀ k, k < 4 → ImgOK T a w hs im tys k (iw k)) (ht1 : ∀ x ∈ ([(kS, .long), (kC 1, .long), (kC 2, .long), (kT 1, .int), (kT 2, .long), (kT 3, .int), (kT 4, .long), (kT 5, .long), (kL 1, .long), (kL 2, .int), (kK 1, .int), (kY 1, .int)] : List (ClassId × FieldType)), x ∈ tys) (htk : (ki, FieldType.object RX5) ∈ tys) (ht2 : ∀ x ∈ ([(kc 1, .int), (kc 2, .long), (kc 3, .boolean), (kc 4, .boolean), (kc 5, .boolean), (kc 6, .long), (kc 7, .int), (kc 8, .int)] : List (ClassId × FieldType)), x ∈ tys) (K : ∀ (ws' : va_W) (tys' : List (ClassId × FieldType)), LI (T + 1) r0 (q 0) ws' tys' → Cx p s m #[Value.ref b] meth c cL_law 4 (some .boolean) RL D tys' A → AW p l e room_1 s m #[Value.ref b] below meth c D A 4 (31 + 16 * (T + 1)) (4328 + 599 * (T + 1)) Q 880 [(3, .int (nI (5 * T))), (0, .ref b), (1, .ref r0), (2, .ref (q 0))] [] ws') : AW p l e room_1 s m #[Value.ref b] below meth c D A 4 (31 + 16 * T) (4328 + 599 * T) Q 387 [(3, .int (nI (5 * T))), (0, .ref b), (1, .ref r0), (2, .ref (q 0))] [] (rolW r0 ri rs kS sl qC kC pr nx 0 csz s0 qT kT kinds names seeds ones ofk sz there awake grp gm gb p0 lf ir ln qL kL rows lens psz qK kK vals hold call f0 fio fqu fal fco fgu qY kY ft fs qs als cs ps wire alo ++ (rimW ri ki im ++ (imsW iw ++ mW q kc a w hs inn sp lone lt lz dr))) := by
  have hc0 : 31 + 16 * T ≤ room_1.cells ∧ 4328 + 599 * T ≤ room_1.slots := ⟨by show _ ≤ 600000; omega, by show _ ≤ 7302250; omega⟩
  have h15 := hR.2.2.2.2.2.1.1
  have hf := hR.2.2.2.2.2.1.2.1
  have hz := pJ_wt hR.2.2.2.2.1.2.2.2
  refine aw_aload_n X (pc := 387) 2 rfl rfl dL_law_387 ?_
  refine aw_aload_n X (pc := 388) 1 rfl rfl dL_law_388 ?_
  refine aw_iload_n X (pc := 389) 0 rfl rfl dL_law_389 ?_
  refine aw_iconst X (pc := 390) (v := 1) dL_law_390 (by decide) ?_
  refine aw_iadd X (pc := 391) (z := nI (5 * T + 1)) (nn_add (a := 5 * T) (b := 1) rfl rfl rfl) dL_law_391 ?_
  refine aw_sld X (pc := 392) hX hbl hbA (5 * T + 1) rfl (by omega) (by omega) dL_law_392 ?_
  refine aw_i2l X (pc := 393) (z := (xs (5 * T + 1)).toInt64) rfl dL_law_393 ?_
  refine aw_bipush X (pc := 394) (v := 32) dL_law_394 (by decide) ?_
  refine aw_lshl X (pc := 396) (z := ((xs (5 * T + 1)).toInt64) <<< (Int32.toInt64 32 &&& 63)) rfl dL_law_396 ?_
  refine aw_aload_n X (pc := 397) 1 rfl rfl dL_law_397 ?_
  refine aw_iload_n X (pc := 398) 0 rfl rfl dL_law_398 ?_
  refine aw_iconst X (pc := 399) (v := 2) dL_law_399 (by decide) ?_
  refine aw_iadd X (pc := 400) (z := nI (5 * T + 2)) (nn_add (a := 5 * T) (b := 2) rfl rfl rfl) dL_law_400 ?_
  refine aw_sld X (pc := 401) hX hbl hbA (5 * T + 2) rfl (by omega) (by omega) dL_law_401 ?_
  refine aw_i2l X (pc := 402) (z := (xs (5 * T + 2)).toInt64) rfl dL_law_402 ?_
  refine aw_ldc2 X (pc := 403) ld_L_18 dL_law_403 ?_
  refine aw_land X (pc := 406) (z := ((xs (5 * T + 2)).toInt64) &&& 4294967295) rfl dL_law_406 ?_
  refine aw_lor X (pc := 407) (z := (((xs (5 * T + 1)).toInt64) <<< (Int32.toInt64 32 &&& 63)) ||| (((xs (5 * T + 2)).toInt64) &&& 4294967295)) rfl dL_law_407 ?_
  refine aw_aload_n X (pc := 408) 1 rfl rfl dL_law_408 ?_
  refine aw_iload_n X (pc := 409) 0 rfl rfl dL_law_409 ?_
  refine aw_iconst X (pc := 410) (v := 3) dL_law_410 (by decide) ?_
  refine aw_iadd X (pc := 411) (z := nI (5 * T + 3)) (nn_add (a := 5 * T) (b := 3) rfl rfl rfl) dL_law_411 ?_
  refine aw_sld X (pc := 412) hX hbl hbA (5 * T + 3) rfl (by omega) (by omega) dL_law_412 ?_
  refine aw_i2l X (pc := 413) (z := (xs (5 * T + 3)).toInt64) rfl dL_law_413 ?_
  refine aw_bipush X (pc := 414) (v := 32) dL_law_414 (by decide) ?_
  refine aw_lshl X (pc := 416) (z := ((xs (5 * T + 3)).toInt64) <<< (Int32.toInt64 32 &&& 63)) rfl dL_law_416 ?_
  refine aw_aload_n X (pc := 417) 1 rfl rfl dL_law_417 ?_
  refine aw_iload_n X (pc := 418) 0 rfl rfl dL_law_418 ?_
  refine aw_iconst X (pc := 419) (v := 4) dL_law_419 (by decide) ?_
  refine aw_iadd X (pc := 420) (z := nI (5 * T + 4)) (nn_add (a := 5 * T) (b := 4) rfl rfl rfl) dL_law_420 ?_
  refine aw_sld X (pc := 421) hX hbl hbA (5 * T + 4) rfl (by omega) (by omega) dL_law_421 ?_
  refine aw_i2l X (pc := 422) (z := (xs (5 * T + 4)).toInt64) rfl dL_law_422 ?_
  refine aw_ldc2 X (pc := 423) ld_L_18 dL_law_423 ?_
  refine aw_land X (pc := 426) (z := ((xs (5 * T + 4)).toInt64) &&& 4294967295) rfl dL_law_426 ?_
  refine aw_lor X (pc := 427) (z := (((xs (5 * T + 3)).toInt64) <<< (Int32.toInt64 32 &&& 63)) ||| (((xs (5 * T + 4)).toInt64) &&& 4294967295)) rfl dL_law_427 ?_
  have hE := eq_group ((((xs (5 * T + 1)).toInt64) <<< (Int32.toInt64 32 &&& 63)) ||| (((xs (5 * T + 2)).toInt64) &&& 4294967295)) ((((xs (5 * T + 3)).toInt64) <<< (Int32.toInt64 32 &&& 63)) ||| (((xs (5 * T + 4)).toInt64) &&& 4294967295)) hR
  refine aw_callP X (pc := 428) (q1 := 0) (rest := []) (st' := [.int (r_X8_group names there awake n ((((xs (5 * T + 1)).toInt64) <<< (Int32.toInt64 32 &&& 63)) ||| (((xs (5 * T + 2)).toInt64) &&& 4294967295)) ((((xs (5 * T + 3)).toInt64) <<< (Int32.toInt64 32 &&& 63)) ||| (((xs (5 * T + 4)).toInt64) &&& 4294967295)))]) (wr := rimW ri ki im ++ (imsW iw ++ mW q kc a w hs inn sp lone lt lz dr)) (ws' := (rolW r0 ri rs kS sl qC kC pr nx 0 csz s0 qT kT kinds names seeds ones ofk sz there awake (lpF (b_X6_regroup_20 names ((((xs (5 * T + 1)).toInt64) <<< (Int32.toInt64 32 &&& 63)) ||| (((xs (5 * T + 2)).toInt64) &&& 4294967295)) ((((xs (5 * T + 3)).toInt64) <<< (Int32.toInt64 32 &&& 63)) ||| (((xs (5 * T + 4)).toInt64) &&& 4294967295))) n 0 0) ((((xs (5 * T + 1)).toInt64) <<< (Int32.toInt64 32 &&& 63)) ||| (((xs (5 * T + 2)).toInt64) &&& 4294967295)) (((((xs (5 * T + 3)).toInt64) <<< (Int32.toInt64 32 &&& 63)) ||| (((xs (5 * T + 4)).toInt64) &&& 4294967295)) &&& ((((xs (5 * T + 1)).toInt64) <<< (Int32.toInt64 32 &&& 63)) ||| (((xs (5 * T + 2)).toInt64) &&& 4294967295))) p0 lf ir ln qL kL rows lens psz qK kK vals hold call f0 fio fqu fal fco fgu qY kY ft fs qs als cs ps wire alo) ++ (rimW ri ki im ++ (imsW iw ++ mW q kc a w hs inn sp lone lt lz dr))) (c_X8_group l D r0 ri rs kS sl qC kC pr nx 0 csz s0 qT kT kinds names seeds ones ofk sz there awake grp gm gb p0 lf ir ln qL kL rows lens psz qK kK vals hold call f0 fio fqu fal fco fgu qY kY ft fs qs als cs ps wire alo n ((((xs (5 * T + 1)).toInt64) <<< (Int32.toInt64 32 &&& 63)) ||| (((xs (5 * T + 2)).toInt64) &&& 4294967295)) ((((xs (5 * T + 3)).toInt64) <<< (Int32.toInt64 32 &&& 63)) ||| (((xs (5 * T + 4)).toInt64) &&& 4294967295)) hR.1.2.2.1 hR.1.2.1) rfl rfl List.perm_append_comm List.perm_append_comm ht1 ⟨_, _, rfl⟩ rfl cf_L_45 cd_X8_group dd_X8_group ⟨Nat.le_of_ble_eq_true rfl, Nat.le_of_ble_eq_true rfl⟩ hc0 (by decide) rfl (Nat.le_of_ble_eq_true rfl) dL_law_428 rfl ?_
  refine aw_aload_n X (pc := 431) 3 rfl rfl dL_law_431 ?_
  refine aw_aload_n X (pc := 432) 1 rfl rfl dL_law_432 ?_
  refine aw_iload_n X (pc := 433) 0 rfl rfl dL_law_433 ?_
  refine aw_iconst X (pc := 434) (v := 1) dL_law_434 (by decide) ?_
  refine aw_iadd X (pc := 435) (z := nI (5 * T + 1)) (nn_add (a := 5 * T) (b := 1) rfl rfl rfl) dL_law_435 ?_
  refine aw_sld X (pc := 436) hX hbl hbA (5 * T + 1) rfl (by omega) (by omega) dL_law_436 ?_
  refine aw_i2l X (pc := 437) (z := (xs (5 * T + 1)).toInt64) rfl dL_law_437 ?_
  refine aw_bipush X (pc := 438) (v := 32) dL_law_438 (by decide) ?_
  refine aw_lshl X (pc := 440) (z := ((xs (5 * T + 1)).toInt64) <<< (Int32.toInt64 32 &&& 63)) rfl dL_law_440 ?_
  refine aw_aload_n X (pc := 441) 1 rfl rfl dL_law_441 ?_
  refine aw_iload_n X (pc := 442) 0 rfl rfl dL_law_442 ?_
  refine aw_iconst X (pc := 443) (v := 2) dL_law_443 (by decide) ?_
  refine aw_iadd X (pc := 444) (z := nI (5 * T + 2)) (nn_add (a := 5 * T) (b := 2) rfl rfl rfl) dL_law_444 ?_
  refine aw_sld X (pc := 445) hX hbl hbA (5 * T + 2) rfl (by omega) (by omega) dL_law_445 ?_
  refine aw_i2l X (pc := 446) (z := (xs (5 * T + 2)).toInt64) rfl dL_law_446 ?_
  refine aw_ldc2 X (pc := 447) ld_L_18 dL_law_447 ?_
  refine aw_land X (pc := 450) (z := ((xs (5 * T + 2)).toInt64) &&& 4294967295) rfl dL_law_450 ?_
  refine aw_lor X (pc := 451) (z := (((xs (5 * T + 1)).toInt64) <<< (Int32.toInt64 32 &&& 63)) ||| (((xs (5 * T + 2)).toInt64) &&& 4294967295)) rfl dL_law_451 ?_
  refine aw_aload_n X (pc := 452) 1 rfl rfl dL_law_452 ?_
  refine aw_iload_n X (pc := 453) 0 rfl rfl dL_law_453 ?_
  refine aw_iconst X (pc := 454) (v := 3) dL_law_454 (by decide) ?_
  refine aw_iadd X (pc := 455) (z := nI (5 * T + 3)) (nn_add (a := 5 * T) (b := 3) rfl rfl rfl) dL_law_455 ?_
  refine aw_sld X (pc := 456) hX hbl hbA (5 * T + 3) rfl (by omega) (by omega) dL_law_456 ?_
  refine aw_i2l X (pc := 457) (z := (xs (5 * T + 3)).toInt64) rfl dL_law_457 ?_
  refine aw_bipush X (pc := 458) (v := 32) dL_law_458 (by decide) ?_
  refine aw_lshl X (pc := 460) (z := ((xs (5 * T + 3)).toInt64) <<< (Int32.toInt64 32 &&& 63)) rfl dL_law_460 ?_
  refine aw_aload_n X (pc := 461) 1 rfl rfl dL_law_461 ?_
  refine aw_iload_n X (pc := 462) 0 rfl rfl dL_law_462 ?_
  refine aw_iconst X (pc := 463) (v := 4) dL_law_463 (by decide) ?_
  refine aw_iadd X (pc := 464) (z := nI (5 * T + 4)) (nn_add (a := 5 * T) (b := 4) rfl rfl rfl) dL_law_464 ?_
  refine aw_sld X (pc := 465) hX hbl hbA (5 * T + 4) rfl (by omega) (by omega) dL_law_465 ?_
  refine aw_i2l X (pc := 466) (z := (xs (5 * T + 4)).toInt64) rfl dL_law_466 ?_
  refine aw_ldc2 X (pc := 467) ld_L_18 dL_law_467 ?_
  refine aw_land X (pc := 470) (z := ((xs (5 * T + 4)).toInt64) &&& 4294967295) rfl dL_law_470 ?_
  refine aw_lor X (pc := 471) (z := (((xs (5 * T + 3)).toInt64) <<< (Int32.toInt64 32 &&& 63)) ||| (((xs (5 * T + 4)).toInt64) &&& 4294967295)) rfl dL_law_471 ?_
  refine aw_callP X (pc := 472) (q1 := 0) (rest := [.int (r_X8_group names there awake n ((((xs (5 * T + 1)).toInt64) <<< (Int32.toInt64 32 &&& 63)) ||| (((xs (5 * T + 2)).toInt64) &&& 4294967295)) ((((xs (5 * T + 3)).toInt64) <<< (Int32.toInt64 32 &&& 63)) ||| (((xs (5 * T + 4)).toInt64) &&& 4294967295)))]) (st' := [.int (r_X9_group a w n ((((xs (5 * T + 1)).toInt64) <<< (Int32.toInt64 32 &&& 63)) ||| (((xs (5 * T + 2)).toInt64) &&& 4294967295)) ((((xs (5 * T + 3)).toInt64) <<< (Int32.toInt64 32 &&& 63)) ||| (((xs (5 * T + 4)).toInt64) &&& 4294967295))), .int (r_X8_group names there awake n ((((xs (5 * T + 1)).toInt64) <<< (Int32.toInt64 32 &&& 63)) ||| (((xs (5 * T + 2)).toInt64) &&& 4294967295)) ((((xs (5 * T + 3)).toInt64) <<< (Int32.toInt64 32 &&& 63)) ||| (((xs (5 * T + 4)).toInt64) &&& 4294967295)))]) (wr := (rolW r0 ri rs kS sl qC kC pr nx 0 csz s0 qT kT kinds names seeds ones ofk sz there awake (lpF (b_X6_regroup_20 names ((((xs (5 * T + 1)).toInt64) <<< (Int32.toInt64 32 &&& 63)) ||| (((xs (5 * T + 2)).toInt64) &&& 4294967295)) ((((xs (5 * T + 3)).toInt64) <<< (Int32.toInt64 32 &&& 63)) ||| (((xs (5 * T + 4)).toInt64) &&& 4294967295))) n 0 0) ((((xs (5 * T + 1)).toInt64) <<< (Int32.toInt64 32 &&& 63)) ||| (((xs (5 * T + 2)).toInt64) &&& 4294967295)) (((((xs (5 * T + 3)).toInt64) <<< (Int32.toInt64 32 &&& 63)) ||| (((xs (5 * T + 4)).toInt64) &&& 4294967295)) &&& ((((xs (5 * T + 1)).toInt64) <<< (Int32.toInt64 32 &&& 63)) ||| (((xs (5 * T + 2)).toInt64) &&& 4294967295))) p0 lf ir ln qL kL rows lens psz qK kK vals hold call f0 fio fqu fal fco fgu qY kY ft fs qs als cs ps wire alo) ++ (rimW ri ki im ++ imsW iw)) (ws' := (rolW r0 ri rs kS sl qC kC pr nx 0 csz s0 qT kT kinds names seeds ones ofk sz there awake (lpF (b_X6_regroup_20 names ((((xs (5 * T + 1)).toInt64) <<< (Int32.toInt64 32 &&& 63)) ||| (((xs (5 * T + 2)).toInt64) &&& 4294967295)) ((((xs (5 * T + 3)).toInt64) <<< (Int32.toInt64 32 &&& 63)) ||| (((xs (5 * T + 4)).toInt64) &&& 4294967295))) n 0 0) ((((xs (5 * T + 1)).toInt64) <<< (Int32.toInt64 32 &&& 63)) ||| (((xs (5 * T + 2)).toInt64) &&& 4294967295)) (((((xs (5 * T + 3)).toInt64) <<< (Int32.toInt64 32 &&& 63)) ||| (((xs (5 * T + 4)).toInt64) &&& 4294967295)) &&& ((((xs (5 * T + 1)).toInt64) <<< (Int32.toInt64 32 &&& 63)) ||| (((xs (5 * T + 2)).toInt64) &&& 4294967295))) p0 lf ir ln qL kL rows lens psz qK kK vals hold call f0 fio fqu fal fco fgu qY kY ft fs qs als cs ps wire alo) ++ (rimW ri ki im ++ (imsW iw ++ (mW q kc a (vp_updL (vp_updL w 0 ((((xs (5 * T + 1)).toInt64) <<< (Int32.toInt64 32 &&& 63)) ||| (((xs (5 * T + 2)).toInt64) &&& 4294967295))) 1 ((((xs (5 * T + 3)).toInt64) <<< (Int32.toInt64 32 &&& 63)) ||| (((xs (5 * T + 4)).toInt64) &&& 4294967295))) hs inn sp lone lt lz dr)))) (c_X9_group l D q kc a w hs inn sp lone lt lz dr n ((((xs (5 * T + 1)).toInt64) <<< (Int32.toInt64 32 &&& 63)) ||| (((xs (5 * T + 2)).toInt64) &&& 4294967295)) ((((xs (5 * T + 3)).toInt64) <<< (Int32.toInt64 32 &&& 63)) ||| (((xs (5 * T + 4)).toInt64) &&& 4294967295)) hR.1.1 hR.1.2.1) rfl rfl (pm_M _ _ _ _) (pm_M _ _ _ _).symm ht2 ⟨_, _, rfl⟩ rfl cf_L_49 cd_X9_group dd_X9_group ⟨Nat.le_of_ble_eq_true rfl, Nat.le_of_ble_eq_true rfl⟩ hc0 (by decide) rfl (Nat.le_of_ble_eq_true rfl) dL_law_472 rfl ?_
  refine aw_icmp_eq X (pc := 475) (tgt := 880) (by decide) dL_law_475 (fun _ => ?_) (fun c1 => absurd hE.1 c1)
  refine aw_widen (k := 31 + 16 * (T + 1)) (n := 4328 + 599 * (T + 1)) (by omega) (by omega) ?_
  have hR2 := hE.2
  exact K _ _ ⟨_, _, _, _, _, _, _, _, _, _, _, _, _, _, _, _, _, _, _, _, _, _, _, _, _, _, _, _, _, _, _, _, _, _, _, _, _, _, _, _, _, _, _, _, _, _, _, _, _, _, _, _, _, _, _, _, _, _, _, _, _, _, _, _, _, _, _, _, _, _, _, rfl, rfl, rfl, hR2, ImgOK.fr (FrA.refl a) (frw_group w ((((xs (5 * T + 1)).toInt64) <<< (Int32.toInt64 32 &&& 63)) ||| (((xs (5 * T + 2)).toInt64) &&& 4294967295)) ((((xs (5 * T + 3)).toInt64) <<< (Int32.toInt64 32 &&& 63)) ||| (((xs (5 * T + 4)).toInt64) &&& 4294967295))) hI, ht1, htk, ht2⟩ X

set_option maxHeartbeats 1000000 in
set_option maxRecDepth 100000 in
theorem law_pass (X : Cx p s m #[Value.ref b] meth c cL_law 4 (some .boolean) RL D tys A) (hX : va_X b L xs s s.heap) (hbl : b < s.heap.size) (hbA : ¬ A b) (hT : T < 512) (hi : 5 * T + 5 ≤ L) (hL : L ≤ 2560) (hR : Rel T a w n f z kinds names seeds ones ofk sz there awake grp gm gb lf ir ln rows lens psz vals hold call fio fqu fal fco fgu ft fs qs als cs ps wire alo) (hI : ∀ k, k < 4 → ImgOK T a w hs im tys k (iw k)) (ht1 : ∀ x ∈ ([(kS, .long), (kC 1, .long), (kC 2, .long), (kT 1, .int), (kT 2, .long), (kT 3, .int), (kT 4, .long), (kT 5, .long), (kL 1, .long), (kL 2, .int), (kK 1, .int), (kY 1, .int)] : List (ClassId × FieldType)), x ∈ tys) (htk : (ki, FieldType.object RX5) ∈ tys) (ht2 : ∀ x ∈ ([(kc 1, .int), (kc 2, .long), (kc 3, .boolean), (kc 4, .boolean), (kc 5, .boolean), (kc 6, .long), (kc 7, .int), (kc 8, .int)] : List (ClassId × FieldType)), x ∈ tys) (K : ∀ (ws' : va_W) (tys' : List (ClassId × FieldType)), LI (T + 1) r0 (q 0) ws' tys' → Cx p s m #[Value.ref b] meth c cL_law 4 (some .boolean) RL D tys' A → AW p l e room_1 s m #[Value.ref b] below meth c D A 4 (31 + 16 * (T + 1)) (4328 + 599 * (T + 1)) Q 880 [(3, .int (nI (5 * T))), (0, .ref b), (1, .ref r0), (2, .ref (q 0))] [] ws') : AW p l e room_1 s m #[Value.ref b] below meth c D A 4 (31 + 16 * T) (4328 + 599 * T) Q 480 [(3, .int (nI (5 * T))), (0, .ref b), (1, .ref r0), (2, .ref (q 0))] [] (rolW r0 ri rs kS sl qC kC pr nx 0 csz s0 qT kT kinds names seeds ones ofk sz there awake grp gm gb p0 lf ir ln qL kL rows lens psz qK kK vals hold call f0 fio fqu fal fco fgu qY kY ft fs qs als cs ps wire alo ++ (rimW ri ki im ++ (imsW iw ++ mW q kc a w hs inn sp lone lt lz dr))) := by
  have hc0 : 31 + 16 * T ≤ room_1.cells ∧ 4328 + 599 * T ≤ room_1.slots := ⟨by show _ ≤ 600000; omega, by show _ ≤ 7302250; omega⟩
  have h15 := hR.2.2.2.2.2.1.1
  have hf := hR.2.2.2.2.2.1.2.1
  have hz := pJ_wt hR.2.2.2.2.1.2.2.2
  refine aw_aload_n X (pc := 480) 2 rfl rfl dL_law_480 ?_
  have hE := eq_pass inn hR
  refine aw_callP X (pc := 481) (q1 := 0) (rest := []) (st' := [.int (r_X8_pass ones sz there awake grp lf ln)]) (wr := rimW ri ki im ++ (imsW iw ++ mW q kc a w hs inn sp lone lt lz dr)) (ws' := (rolW r0 ri rs kS sl qC kC pr nx 0 csz s0 qT kT kinds names seeds ones ofk sz there awake grp gm gb p0 (u_X8_pass_lf ones sz there awake grp lf ln) (u_X8_pass_ir ones sz there awake grp lf ir ln) (u_X8_pass_ln names ones sz there awake grp lf ln) qL kL rows lens psz qK kK vals hold call f0 fio fqu fal fco fgu qY kY (u_X8_pass_ft ones sz there awake grp lf ln ft fs f) (u_X8_pass_fs ones sz there awake grp lf ln fs f) qs als cs (u_X8_pass_ps ones there awake grp lf ln ps) wire alo) ++ (rimW ri ki im ++ (imsW iw ++ mW q kc a w hs inn sp lone lt lz dr))) (c_X8_pass l D r0 ri rs kS sl qC kC pr nx 0 csz s0 qT kT kinds names seeds ones ofk sz there awake grp gm gb p0 lf ir ln qL kL rows lens psz qK kK vals hold call f0 fio fqu fal fco fgu qY kY ft fs qs als cs ps wire alo n f hR.1.2.2.1 hR.1.2.1 hR.2.2.2.2.2.1.2.2.1 hR.2.2.2.2.2.1.2.1) rfl rfl List.perm_append_comm List.perm_append_comm ht1 ⟨_, _, rfl⟩ rfl cf_L_50 cd_X8_pass dd_X8_pass ⟨Nat.le_of_ble_eq_true rfl, Nat.le_of_ble_eq_true rfl⟩ hc0 (by decide) rfl (Nat.le_of_ble_eq_true rfl) dL_law_481 rfl ?_
  refine aw_aload_n X (pc := 484) 3 rfl rfl dL_law_484 ?_
  refine aw_callP X (pc := 485) (q1 := 0) (rest := [.int (r_X8_pass ones sz there awake grp lf ln)]) (st' := [.int (r_X9_pass a w inn n), .int (r_X8_pass ones sz there awake grp lf ln)]) (wr := (rolW r0 ri rs kS sl qC kC pr nx 0 csz s0 qT kT kinds names seeds ones ofk sz there awake grp gm gb p0 (u_X8_pass_lf ones sz there awake grp lf ln) (u_X8_pass_ir ones sz there awake grp lf ir ln) (u_X8_pass_ln names ones sz there awake grp lf ln) qL kL rows lens psz qK kK vals hold call f0 fio fqu fal fco fgu qY kY (u_X8_pass_ft ones sz there awake grp lf ln ft fs f) (u_X8_pass_fs ones sz there awake grp lf ln fs f) qs als cs (u_X8_pass_ps ones there awake grp lf ln ps) wire alo) ++ (rimW ri ki im ++ imsW iw)) (ws' := (rolW r0 ri rs kS sl qC kC pr nx 0 csz s0 qT kT kinds names seeds ones ofk sz there awake grp gm gb p0 (u_X8_pass_lf ones sz there awake grp lf ln) (u_X8_pass_ir ones sz there awake grp lf ir ln) (u_X8_pass_ln names ones sz there awake grp lf ln) qL kL rows lens psz qK kK vals hold call f0 fio fqu fal fco fgu qY kY (u_X8_pass_ft ones sz there awake grp lf ln ft fs f) (u_X8_pass_fs ones sz there awake grp lf ln fs f) qs als cs (u_X8_pass_ps ones there awake grp lf ln ps) wire alo) ++ (rimW ri ki im ++ (imsW iw ++ (mW q kc (u_X9_pass_a a w inn n f) (u_X9_pass_w a w inn n) hs (u_X9_pass_inn a w inn n) sp lone lt lz dr)))) (c_X9_pass l D q kc a w hs inn sp lone lt lz dr n f hR.1.1 hR.1.2.1 hR.2.2.2.2.2.1.1 hR.2.2.2.2.2.1.2.1) rfl rfl (pm_M _ _ _ _) (pm_M _ _ _ _).symm ht2 ⟨_, _, rfl⟩ rfl cf_L_54 cd_X9_pass dd_X9_pass ⟨Nat.le_of_ble_eq_true rfl, Nat.le_of_ble_eq_true rfl⟩ hc0 (by decide) rfl (Nat.le_of_ble_eq_true rfl) dL_law_485 rfl ?_
  refine aw_icmp_eq X (pc := 488) (tgt := 880) (by decide) dL_law_488 (fun _ => ?_) (fun c1 => absurd hE.1 c1)
  refine aw_widen (k := 31 + 16 * (T + 1)) (n := 4328 + 599 * (T + 1)) (by omega) (by omega) ?_
  obtain ⟨g0, hR2⟩ := hE.2
  exact K _ _ ⟨_, _, _, _, _, _, _, _, _, _, _, _, _, _, _, _, _, _, _, _, _, _, _, _, _, _, _, _, _, _, _, _, _, _, _, _, _, _, _, _, _, _, _, _, _, _, _, _, _, _, _, _, _, _, _, _, _, _, _, _, _, _, _, _, _, _, _, _, _, _, _, rfl, rfl, rfl, hR2, ImgOK.fr ((fra_pass h15 hf inn).1) ((fra_pass h15 hf inn).2) hI, ht1, htk, ht2⟩ X

end LAWC1
