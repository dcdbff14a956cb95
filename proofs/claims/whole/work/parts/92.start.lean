theorem nst_0 : Cond.methodLinkNest RX8 11 yX5_init RX8 ∈ lw_tbl := List.mem_of_getElem? (i := 52) (by decide +kernel)
theorem nst_1 : Cond.methodLinkNest RX8 26 yX1_init RX8 ∈ lw_tbl := List.mem_of_getElem? (i := 250) (by decide +kernel)
theorem nst_2 : Cond.methodLinkNest RX5 11 yX6_init RX8 ∈ lw_tbl := List.mem_of_getElem? (i := 58) (by decide +kernel)
theorem nst_3 : Cond.methodLinkNest RX5 20 yX3_init RX8 ∈ lw_tbl := List.mem_of_getElem? (i := 107) (by decide +kernel)
theorem nst_4 : Cond.methodLinkNest RX5 27 yX4_init RX8 ∈ lw_tbl := List.mem_of_getElem? (i := 125) (by decide +kernel)
theorem nst_5 : Cond.methodLinkNest RX5 34 yX0_init RX8 ∈ lw_tbl := List.mem_of_getElem? (i := 142) (by decide +kernel)
theorem nst_6 : Cond.methodLinkNest RX5 41 yX2_init RX8 ∈ lw_tbl := List.mem_of_getElem? (i := 159) (by decide +kernel)
theorem nst_7 : Cond.methodLinkNest RX5 48 yX7_init RX8 ∈ lw_tbl := List.mem_of_getElem? (i := 186) (by decide +kernel)
theorem nst_8 : Cond.methodLinkNest RX6 36 yX8_setOf RX8 ∈ lw_tbl := List.mem_of_getElem? (i := 303) (by decide +kernel)
theorem nst_9 : Cond.methodLinkNest RX6 57 yX8_isOneAt RX8 ∈ lw_tbl := List.mem_of_getElem? (i := 314) (by decide +kernel)
theorem nst_10 : Cond.methodLinkNest RX6 67 yX8_isIn RX8 ∈ lw_tbl := List.mem_of_getElem? (i := 360) (by decide +kernel)
theorem nst_11 : Cond.methodLinkNest RX0 29 yX8_isIn RX8 ∈ lw_tbl := List.mem_of_getElem? (i := 347) (by decide +kernel)
theorem nst_12 : Cond.methodLinkNest RX0 33 yX8_setOf RX8 ∈ lw_tbl := List.mem_of_getElem? (i := 538) (by decide +kernel)
theorem nst_13 : Cond.methodLinkNest RX3 19 yX8_isOneAt RX8 ∈ lw_tbl := List.mem_of_getElem? (i := 392) (by decide +kernel)
theorem nst_ao : Cond.arrayOver (.object RX5) ∈ lw_tbl := List.mem_of_getElem? (i := 247) (by decide +kernel)
theorem nst_all : ∀ q ∈ nst, Cond.methodLinkNest q.1 q.2.1 q.2.2 RX8 ∈ lw_tbl := List.forall_mem_cons.mpr ⟨nst_0, List.forall_mem_cons.mpr ⟨nst_1, List.forall_mem_cons.mpr ⟨nst_2, List.forall_mem_cons.mpr ⟨nst_3, List.forall_mem_cons.mpr ⟨nst_4, List.forall_mem_cons.mpr ⟨nst_5, List.forall_mem_cons.mpr ⟨nst_6, List.forall_mem_cons.mpr ⟨nst_7, List.forall_mem_cons.mpr ⟨nst_8, List.forall_mem_cons.mpr ⟨nst_9, List.forall_mem_cons.mpr ⟨nst_10, List.forall_mem_cons.mpr ⟨nst_11, List.forall_mem_cons.mpr ⟨nst_12, List.forall_mem_cons.mpr ⟨nst_13, fun _ h => absurd h List.not_mem_nil⟩⟩⟩⟩⟩⟩⟩⟩⟩⟩⟩⟩⟩⟩

set_option maxHeartbeats 1000000 in
set_option maxRecDepth 100000 in
theorem law_entry {p : Program} {l : Launch} {e : Env} {s : State} {m : MethodId} {below : List Frame} {meth : Method} {c : Code} {D : va_G} {b L : Nat} {xs : Nat → Int32} (hL : L ≤ 2560) (hX : va_X b L xs s s.heap) (hbl : b < s.heap.size) (hbA : ¬ (fun q : Nat => s.heap.size ≤ q) b) (hx : p.tables.exec = Jvm.exec) (hb : c.code = code) (hr : meth.sig.returnType = ret) (hlocks : meth.locks = false) (X : Cx p s m #[Value.ref b] meth c cL_law 4 (some .boolean) RL D [] (fun q : Nat => s.heap.size ≤ q)) : AW p l e room_1 s m #[Value.ref b] below meth c D (fun q : Nat => s.heap.size ≤ q) 4 0 0 (lw_Z below #[Value.ref b] s) 0 [(0, .ref b)] [] [] := by
  refine aw_new X (pc := 0) (ci := 8) (fs := [.null, .null, .null, .null]) tyX8 tyX8_ok iX8 nw_L_7 rfl (by decide) (Nat.le_of_ble_eq_true rfl) (Nat.le_of_ble_eq_true rfl) dL_law_0 (fun q1 => ?_)
  refine aw_dup X (pc := 3) dL_law_3 rfl ?_
  refine aw_callI X (pc := 4) (wr := []) (c_X8_init l D q1) rfl cf_L_9 cd_X8_init dd_X8_init ⟨Nat.le_of_ble_eq_true rfl, Nat.le_of_ble_eq_true rfl⟩ ⟨Nat.le_of_ble_eq_true rfl, Nat.le_of_ble_eq_true rfl⟩ (by decide) (Nat.le_of_ble_eq_true rfl) dL_law_4 (fun w2 t3 hB X => ?_)
  obtain ⟨r0, ri, ki, rs, kS, qC, kC, s0, qT, kT, p0, qL, kL, qK, kK, f0, qY, kY, hq, rfl, rfl⟩ := hB
  subst hq
  refine aw_astore_n X (pc := 7) (lv' := [(1, .ref r0), (0, .ref b)]) rfl (by decide) rfl dL_law_7 ?_
  refine aw_new X (pc := 8) (ci := 9) (fs := [.null, .null, .null, .null, .null, .int 0, .null, .null, .null]) tyX9 tyX9_ok iX9 nw_L_10 rfl (by decide) (Nat.le_of_ble_eq_true rfl) (Nat.le_of_ble_eq_true rfl) dL_law_8 (fun q2 => ?_)
  refine aw_dup X (pc := 11) dL_law_11 rfl ?_
  refine aw_callI X (pc := 12) (c_X9_init l D q2) rfl cf_L_12 cd_X9_init dd_X9_init ⟨Nat.le_of_ble_eq_true rfl, Nat.le_of_ble_eq_true rfl⟩ ⟨Nat.le_of_ble_eq_true rfl, Nat.le_of_ble_eq_true rfl⟩ (by decide) (Nat.le_of_ble_eq_true rfl) dL_law_12 (fun w4 t5 hB X => ?_)
  obtain ⟨q, kc, hq, rfl, rfl⟩ := hB
  subst hq
  refine aw_astore_n X (pc := 15) (lv' := [(2, .ref (q 0)), (1, .ref r0), (0, .ref b)]) rfl (by decide) rfl dL_law_15 ?_
  refine aw_iconst X (pc := 16) (v := 0) dL_law_16 (by decide) ?_
  refine aw_istore_n X (pc := 17) (lv' := [(3, .int 0), (2, .ref (q 0)), (1, .ref r0), (0, .ref b)]) rfl (by decide) rfl dL_law_17 ?_
  refine aw_perm (ws' := rolW r0 ri rs kS (fun _ => 0) qC kC (fun _ => 0) (fun _ => 0) 0 0 s0 qT kT (fun _ => 0) (fun _ => 0) (fun _ => 0) (fun _ => 0) (fun _ => 0) 0 0 0 0 0 0 p0 (-1) 0 0 qL kL (fun _ => 0) (fun _ => 0) 0 qK kK (fun _ => 0) 0 (-1) f0 0 0 0 0 0 qY kY (fun _ => 0) 0 0 0 0 0 0 (-1) ++ (rimW ri ki (fun _ => none) ++ (imsW (fun _ => []) ++ mW q kc (upd (upd (upd (fun _ => 0) 2 (-1)) 5 (-1)) 6 (-1)) (fun _ => 0) (fun _ => 0) (fun _ => 0) (fun _ => 0) 0 (fun _ => 0) (fun _ => 0) (fun _ => 0)))) (by simp [imsW]) ?_
  refine aw_sub (lv' := [(3, .int (nI (5 * 0))), (0, .ref b), (1, .ref r0), (2, .ref (q 0))]) [0, 3, 2, 1] rfl ?_
  refine law_loop hX hbl hbA hL (fun T lv ws tys hT X => ?_) 512 0 _ _ rfl ?_ X
  · refine aw_iconst X (pc := 886) (v := 1) dL_law_886 (by decide) ?_
    intro H locs ls h1 h2 h3 hl
    refine va_forget (fun q hq => h3.2.2 q hq) ?_
    refine W.widen (k := 600000) (n := 7302250) (by omega) (by omega) ?_
    exact W.base (lw_ret (Drawn.sameBut.refl s.drawn lw_cs) hx hb hr hlocks dL_law_887)
  · exact ⟨_, _, _, _, _, _, _, _, _, _, _, _, _, _, _, _, _, _, _, _, _, _, _, _, _, _, _, _, _, _, _, _, _, _, _, _, _, _, _, _, _, _, _, _, _, _, _, _, _, _, _, _, _, _, _, _, _, _, _, _, _, _, _, _, _, _, _, _, _, _, _, rfl, rfl, rfl, rel_0, fun k hk => Or.inl ⟨rfl, rfl, rfl⟩, fun x hx => List.mem_append_left _ (List.mem_append_right _ (List.mem_append_left ([(ki, .object RX5)] : List (ClassId × FieldType)) hx)), List.mem_append_left _ (List.mem_append_right _ (List.mem_append_right ([(kS, .long), (kC 1, .long), (kC 2, .long), (kT 1, .int), (kT 2, .long), (kT 3, .int), (kT 4, .long), (kT 5, .long), (kL 1, .long), (kL 2, .int), (kK 1, .int), (kY 1, .int)] : List (ClassId × FieldType)) List.mem_cons_self)), fun x hx => List.mem_append_right _ hx⟩

set_option maxHeartbeats 1000000 in
set_option maxRecDepth 100000 in
/-- the law, from its entry -/
theorem whole_start {p : Program} {e : Env} {s : State} {m : MethodId} {below : List Frame} {meth : Method} {c : Code} (l : Launch) {b L : Nat} {xs : Nat → Int32} (hL : L ≤ 2560) (C0 : lw_At p s m meth c b L xs) : W p l e room_1 s m #[Value.ref b] below meth c s.heap [] 0 0 (lw_Z below #[Value.ref b] s) (entryFrame m ([Value.ref b] : List Value).toArray 4) := by
  obtain ⟨hx, hb, hr, hml, hown, hts0, hX, hbl, hlocks, hgv⟩ := id C0
  have hts : ∀ w ∈ TT, w.before #[Value.ref b] s = true := fun w hw => hts0 w (List.mem_filter.mp hw).1
  have hA : ∀ q : Nat, s.heap.size ≤ q → (fun q : Nat => s.heap.size ≤ q) q := fun _ h => h
  have hbA : ¬ (fun q : Nat => s.heap.size ≤ q) b := Nat.not_le.mpr hbl
  obtain ⟨d0, i0, hKn0⟩ := u_known (C := RX0) (T := TX0) (N := 3) (n := 3) hts iX0 (hts _ (nw_X5_32 _ (List.mem_cons_of_mem _ List.mem_cons_self)))
  obtain ⟨d1, i1, hKn1⟩ := u_known (C := RX1) (T := TX1) (N := 4) (n := 4) hts iX1 (hts _ (nw_X8_24 _ (List.mem_cons_of_mem _ List.mem_cons_self)))
  obtain ⟨d2, i2, hKn2⟩ := u_known (C := RX2) (T := TX2) (N := 5) (n := 5) hts iX2 (hts _ (nw_X5_39 _ (List.mem_cons_of_mem _ List.mem_cons_self)))
  obtain ⟨d3, i3, hKn3⟩ := u_known (C := RX3) (T := TX3) (N := 3) (n := 3) hts iX3 (hts _ (nw_X5_18 _ (List.mem_cons_of_mem _ List.mem_cons_self)))
  obtain ⟨d4, i4, hKn4⟩ := u_known (C := RX4) (T := TX4) (N := 3) (n := 3) hts iX4 (hts _ (nw_X5_25 _ (List.mem_cons_of_mem _ List.mem_cons_self)))
  obtain ⟨d5, i5, hKn5⟩ := u_known (C := RX5) (T := TX5) (N := 8) (n := 8) hts iX5 (hts _ (nw_X8_9 _ (List.mem_cons_of_mem _ List.mem_cons_self)))
  obtain ⟨d6, i6, hKn6⟩ := u_known (C := RX6) (T := TX6) (N := 11) (n := 11) hts iX6 (hts _ (nw_X5_9 _ (List.mem_cons_of_mem _ List.mem_cons_self)))
  obtain ⟨d7, i7, hKn7⟩ := u_known (C := RX7) (T := TX7) (N := 6) (n := 6) hts iX7 (hts _ (nw_X5_46 _ (List.mem_cons_of_mem _ List.mem_cons_self)))
  obtain ⟨d8, i8, hKn8⟩ := u_known (C := RX8) (T := TX8) (N := 4) (n := 4) hts iX8 (hts _ (nw_L_7 _ (List.mem_cons_of_mem _ List.mem_cons_self)))
  obtain ⟨d9, i9, hKn9⟩ := u_known (C := RX9) (T := TX9) (N := 9) (n := 9) hts iX9 (hts _ (nw_L_10 _ (List.mem_cons_of_mem _ List.mem_cons_self)))
  obtain ⟨dC, dI, hKc⟩ : ∃ (dC : Nat → ClassId) (dI : Nat → Nat → Nat), ∀ (k : Nat) (q : vw_C), vwCl[k]? = some q → u_Kn s q.1 q.2.1 q.2.2 (dC k) (dI k) := by
    refine ⟨fun k => match k with | 0 => d0 | 1 => d1 | 2 => d2 | 3 => d3 | 4 => d4 | 5 => d5 | 6 => d6 | 7 => d7 | 8 => d8 | _ => d9, fun k => match k with | 0 => i0 | 1 => i1 | 2 => i2 | 3 => i3 | 4 => i4 | 5 => i5 | 6 => i6 | 7 => i7 | 8 => i8 | _ => i9, ?_⟩
    intro k q hq
    match k, hq with
    | 0, hq => cases hq; exact hKn0
    | 1, hq => cases hq; exact hKn1
    | 2, hq => cases hq; exact hKn2
    | 3, hq => cases hq; exact hKn3
    | 4, hq => cases hq; exact hKn4
    | 5, hq => cases hq; exact hKn5
    | 6, hq => cases hq; exact hKn6
    | 7, hq => cases hq; exact hKn7
    | 8, hq => cases hq; exact hKn8
    | 9, hq => cases hq; exact hKn9
    | k + 10, hq => simp [vwCl] at hq
  have hNK : NK s := ⟨fun q hq => va_Nw.of rfl (hts0 _ (nst_all q hq)), va_AO.of (hts0 _ nst_ao)⟩
  have hK : KK (dC, dI) [] s := ⟨⟨hKc, fun k q h => by simp at h⟩, hNK⟩
  have hP : va_P (dC, dI) vwCl [] s.heap := fun k q h => by simp at h
  have hD : va_D (fun q : Nat => s.heap.size ≤ q) [] := ⟨fun i j p q h => by simp at h, fun k q h => by simp at h⟩
  have hl := lv_entry ([.ref b]) (n := 4) (Nat.le_of_ble_eq_true rfl)
  rw [lg_entry_eq]
  have hl : lv_has _ 4 [(0, .ref b)] := hl
  have X : Cx p s m #[Value.ref b] meth c cL_law 4 (some .boolean) RL (dC, dI) [] (fun q : Nat => s.heap.size ≤ q) := ⟨⟨hx, hb, hml, hown, hts⟩, hr, hlocks, hK, hA⟩
  suffices H : AW p l e room_1 s m #[Value.ref b] below meth c (dC, dI) (fun q : Nat => s.heap.size ≤ q) 4 0 0 (lw_Z below #[Value.ref b] s) 0 [(0, .ref b)] [] [] from H s.heap [] _ hP hD va_S.rf hl
  exact law_entry hL hX hbl hbA hx hb hr hlocks X
