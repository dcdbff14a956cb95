section AWN
variable {p : Program} {l : Launch} {e : Env} {R : Room} {s : State} {m : MethodId} {args : Array Value} {below : List Frame} {meth : Method} {c : Code} {cc : ByteArray} {nL : Nat} {ret : Option FieldType} {own : String} {D : va_G} {tys : List (ClassId × FieldType)} {A : Nat → Prop} {cells slots : Nat} {Q : State → Prop} {pc : Nat} {lv : List (Nat × Value)} {st : List Value} {ws : va_W}
theorem aw_lookup (X : Cx p s m args meth c cc nL ret own D tys A) {dflt : Int} {ps : Array (Int × Int)} {len : Nat} {x : Int32} {off : Int} {tgt : Nat} (hp : (ps.toList.zip (ps.toList.drop 1)).all (fun (a, next) => a.1 < next.1) = true) (ho : Op.lookupswitch.offset ps.toList dflt x.toInt = off) (ht : (pc : Int) + off = (tgt : Int)) (hd : decode cc pc = .ok (.lookupswitch dflt ps, len)) (k : AW p l e R s m args below meth c D A nL cells slots Q tgt lv st ws) : AW p l e R s m args below meth c D A nL cells slots Q pc lv (.int x :: st) ws := fun H locs ls h1 h2 h3 hl => lv_lookup X.1.1 X.1.2.1 hd hp ho ht (k H locs ls h1 h2 h3 hl)
end AWN
theorem rng_nat {x y : Int32} {N : Nat} (hy : y = nI N) (hN : N < 2 ^ 31) (h1 : ¬ x < 0) (h2 : ¬ y ≤ x) : x = nI x.toNatClampNeg ∧ x.toNatClampNeg < N := by
  obtain ⟨j, hj, rfl⟩ := nI_of h1
  rw [nI_clamp hj]
  subst hy
  rw [nI_leI hN hj] at h2
  exact ⟨rfl, by omega⟩
theorem rng_nat' {x y : Int32} {N : Nat} (hy : y = nI N) (hN : N < 2 ^ 31) (h1 : ¬ x < 0) (h2 : x ≤ y) : x = nI x.toNatClampNeg ∧ x.toNatClampNeg ≤ N := by
  obtain ⟨j, hj, rfl⟩ := nI_of h1
  rw [nI_clamp hj]
  subst hy
  rw [nI_leI hj hN] at h2
  exact ⟨rfl, by omega⟩
theorem nlt_of {x y : Int32} {a b : Nat} (hx : x = nI a) (hy : y = nI b) (ha : a < 2 ^ 31) (hb : b < 2 ^ 31) (h : ¬ y ≤ x) : a < b := by
  subst hx; subst hy
  rw [nI_leI hb ha] at h
  omega
theorem nle_of {x y : Int32} {a b : Nat} (hx : x = nI a) (hy : y = nI b) (ha : a < 2 ^ 31) (hb : b < 2 ^ 31) (h : y ≤ x) : b ≤ a := by
  subst hx; subst hy
  rw [nI_leI hb ha] at h
  exact h
theorem npos_of {x : Int32} {a : Nat} (hx : x = nI a) (ha : a < 2 ^ 31) (h : ¬ x ≤ 0) : 0 < a := by
  have := nlt_of (x := 0) (y := x) (a := 0) rfl hx (by decide) ha h
  exact this
theorem one_le_ne {x : Int32} (h : 1 ≤ x) : ¬ x = 0 := fun z => by rw [z] at h; exact absurd h (by decide)

def b_J7_fill_53178_5 (x : Int32) (k : Nat) (σ : (Nat → Int32)) : (Nat → Int32) := (upd σ k x)
abbrev rm_J7_fill_53178 : Room := { frames := 0, cells := 0, slots := 0, locals := 0 }
set_option maxHeartbeats 400000 in
set_option maxRecDepth 100000 in
theorem c_J7_fill_53178 (l : Launch) (D : va_G) (qa : Nat) (ka : ClassId) (N : Nat) (fa : Nat → Int32) (x : Int32) (hN : N < 2 ^ 31) : MW l D yJ7_fill_53178 (Cond.code yJ7_fill_53178 cJ7_fill_53178 4 none :: TT) rm_J7_fill_53178 [.ref qa, .int x] [(ka, .int)] (aiW qa ka N fa) none (aiW qa ka N (lpF (b_J7_fill_53178_5 x) N 0 fa)) := by
  refine MW.of (cc := cJ7_fill_53178) (nL := 4) (ret := none) (lv := [(0, .ref qa), (1, .int x)]) (by decide) ((aiW_ad ..).trans (aiW_ad ..).symm) rfl (Nat.le_of_ble_eq_true rfl) ?_
  intro p e s m args below meth c A Q hQ X
  refine aw_iconst X (pc := 0) (v := 0) dJ7_fill_53178_0 (by decide) ?_
  refine aw_istore_n X (pc := 1) (lv' := [(2, .int 0), (0, .ref qa), (1, .int x)]) rfl (by decide) rfl dJ7_fill_53178_1 ?_
  refine aw_aload_n X (pc := 2) 1 rfl rfl dJ7_fill_53178_2 ?_
  refine aw_alen X (pc := 3) 0 0 (v := nI N) rfl rfl rfl dJ7_fill_53178_3 ?_
  refine aw_istore_n X (pc := 4) (lv' := [(3, .int (nI N)), (2, .int 0), (0, .ref qa), (1, .int x)]) rfl (by decide) rfl dJ7_fill_53178_4 ?_
  have L1 : ∀ (n1 k : Nat) (fv : Nat → Int32), k + n1 = N → lpF (b_J7_fill_53178_5 x) n1 k fv = lpF (b_J7_fill_53178_5 x) N 0 fa → AW p l e rm_J7_fill_53178 s m args below meth c D A 4 0 0 Q 5 [(3, .int (nI N)), (2, .int (nI k)), (0, .ref qa), (1, .int x)] [] (aiW qa ka N fv) := by
    intro n1; induction n1 with
    | zero =>
      intro k fv hk1  hf1
      have hf1 : fv = lpF (b_J7_fill_53178_5 x) N 0 fa := hf1
      refine aw_iload_n X (pc := 5) 1 rfl rfl dJ7_fill_53178_5 ?_
      refine aw_iload_n X (pc := 6) 0 rfl rfl dJ7_fill_53178_6 ?_
      refine aw_icmp_ge X (pc := 7) (tgt := 20) (by decide) dJ7_fill_53178_7 (fun c4 => ?_) (fun c4 => absurd (nn_le (a := N) (b := k) rfl rfl (by omega) (by omega)) c4)
      exact aw_vret X hQ rfl (by simp only [← hf1]) dJ7_fill_53178_20
    | succ n1 ih1 =>
      intro k fv hk1  hf1
      have hf1 : lpF (b_J7_fill_53178_5 x) n1 (k + 1) (b_J7_fill_53178_5 x k fv) = lpF (b_J7_fill_53178_5 x) N 0 fa := hf1
      refine aw_iload_n X (pc := 5) 1 rfl rfl dJ7_fill_53178_5 ?_
      refine aw_iload_n X (pc := 6) 0 rfl rfl dJ7_fill_53178_6 ?_
      refine aw_icmp_ge X (pc := 7) (tgt := 20) (by decide) dJ7_fill_53178_7 (fun c2 => absurd c2 (nn_nle (a := N) (b := k) rfl rfl (by omega) (by omega))) (fun c2 => ?_)
      refine aw_aload_n X (pc := 10) 2 rfl rfl dJ7_fill_53178_10 ?_
      refine aw_iload_n X (pc := 11) 1 rfl rfl dJ7_fill_53178_11 ?_
      refine aw_iload_n X (pc := 12) 3 rfl rfl dJ7_fill_53178_12 ?_
      refine aw_iast X (pc := 13) 0 0 (ws' := (aiW qa ka N (upd fv k x))) k rfl  rfl rfl (by omega) (by omega) rfl dJ7_fill_53178_13 ?_
      refine aw_iinc X (pc := 14) (kx := 1) (v := nI (k + 1)) (lv' := [(2, .int (nI (k + 1))), (3, .int (nI N)), (0, .ref qa), (1, .int x)]) rfl (nn_add (a := k) (b := 1) rfl rfl rfl) (by decide) rfl dJ7_fill_53178_14 ?_
      refine aw_goto X (pc := 17) (tgt := 5) (by decide) dJ7_fill_53178_17 ?_
      have e3 : b_J7_fill_53178_5 x k fv = (upd fv k x) := by first | rfl | simp only [b_J7_fill_53178_5]
      exact aw_sub (lv' := [(3, .int (nI N)), (2, .int (nI (k + 1))), (0, .ref qa), (1, .int x)]) [1, 0, 2, 3] rfl (ih1 (k + 1) (upd fv k x) (by omega)  (by rw [← e3]; exact hf1))
  exact aw_sub (lv' := [(3, .int (nI N)), (2, .int 0), (0, .ref qa), (1, .int x)]) [0, 1, 2, 3] rfl (L1 N 0 fa (by omega)  rfl)

def b_J7_fill_d0a16_6 (x : Int64) (k : Nat) (σ : (Nat → Int64)) : (Nat → Int64) := (vp_updL σ k x)
abbrev rm_J7_fill_d0a16 : Room := { frames := 0, cells := 0, slots := 0, locals := 0 }
set_option maxHeartbeats 400000 in
set_option maxRecDepth 100000 in
theorem c_J7_fill_d0a16 (l : Launch) (D : va_G) (qa : Nat) (ka : ClassId) (N : Nat) (fa : Nat → Int64) (x : Int64) (hN : N < 2 ^ 31) : MW l D yJ7_fill_d0a16 (Cond.code yJ7_fill_d0a16 cJ7_fill_d0a16 5 none :: TT) rm_J7_fill_d0a16 [.ref qa, .long x] [(ka, .long)] (ajW qa ka N fa) none (ajW qa ka N (lpF (b_J7_fill_d0a16_6 x) N 0 fa)) := by
  refine MW.of (cc := cJ7_fill_d0a16) (nL := 5) (ret := none) (lv := [(0, .ref qa), (1, .long x)]) (by decide) ((ajW_ad ..).trans (ajW_ad ..).symm) rfl (Nat.le_of_ble_eq_true rfl) ?_
  intro p e s m args below meth c A Q hQ X
  refine aw_iconst X (pc := 0) (v := 0) dJ7_fill_d0a16_0 (by decide) ?_
  refine aw_istore_n X (pc := 1) (lv' := [(3, .int 0), (0, .ref qa), (1, .long x)]) rfl (by decide) rfl dJ7_fill_d0a16_1 ?_
  refine aw_aload_n X (pc := 2) 1 rfl rfl dJ7_fill_d0a16_2 ?_
  refine aw_alen X (pc := 3) 0 0 (v := nI N) rfl rfl rfl dJ7_fill_d0a16_3 ?_
  refine aw_istore X (pc := 4) (lv' := [(4, .int (nI N)), (3, .int 0), (0, .ref qa), (1, .long x)]) (by decide) rfl dJ7_fill_d0a16_4 ?_
  have L1 : ∀ (n1 k : Nat) (fv : Nat → Int64), k + n1 = N → lpF (b_J7_fill_d0a16_6 x) n1 k fv = lpF (b_J7_fill_d0a16_6 x) N 0 fa → AW p l e rm_J7_fill_d0a16 s m args below meth c D A 5 0 0 Q 6 [(4, .int (nI N)), (3, .int (nI k)), (0, .ref qa), (1, .long x)] [] (ajW qa ka N fv) := by
    intro n1; induction n1 with
    | zero =>
      intro k fv hk1  hf1
      have hf1 : fv = lpF (b_J7_fill_d0a16_6 x) N 0 fa := hf1
      refine aw_iload_n X (pc := 6) 1 rfl rfl dJ7_fill_d0a16_6 ?_
      refine aw_iload X (pc := 7) 0 rfl dJ7_fill_d0a16_7 ?_
      refine aw_icmp_ge X (pc := 9) (tgt := 22) (by decide) dJ7_fill_d0a16_9 (fun c4 => ?_) (fun c4 => absurd (nn_le (a := N) (b := k) rfl rfl (by omega) (by omega)) c4)
      exact aw_vret X hQ rfl (by simp only [← hf1]) dJ7_fill_d0a16_22
    | succ n1 ih1 =>
      intro k fv hk1  hf1
      have hf1 : lpF (b_J7_fill_d0a16_6 x) n1 (k + 1) (b_J7_fill_d0a16_6 x k fv) = lpF (b_J7_fill_d0a16_6 x) N 0 fa := hf1
      refine aw_iload_n X (pc := 6) 1 rfl rfl dJ7_fill_d0a16_6 ?_
      refine aw_iload X (pc := 7) 0 rfl dJ7_fill_d0a16_7 ?_
      refine aw_icmp_ge X (pc := 9) (tgt := 22) (by decide) dJ7_fill_d0a16_9 (fun c2 => absurd c2 (nn_nle (a := N) (b := k) rfl rfl (by omega) (by omega))) (fun c2 => ?_)
      refine aw_aload_n X (pc := 12) 2 rfl rfl dJ7_fill_d0a16_12 ?_
      refine aw_iload_n X (pc := 13) 1 rfl rfl dJ7_fill_d0a16_13 ?_
      refine aw_lload_n X (pc := 14) 3 rfl rfl dJ7_fill_d0a16_14 ?_
      refine aw_last X (pc := 15) 0 0 (ws' := (ajW qa ka N (vp_updL fv k x))) k rfl  rfl rfl (by omega) (by omega) rfl dJ7_fill_d0a16_15 ?_
      refine aw_iinc X (pc := 16) (kx := 1) (v := nI (k + 1)) (lv' := [(3, .int (nI (k + 1))), (4, .int (nI N)), (0, .ref qa), (1, .long x)]) rfl (nn_add (a := k) (b := 1) rfl rfl rfl) (by decide) rfl dJ7_fill_d0a16_16 ?_
      refine aw_goto X (pc := 19) (tgt := 6) (by decide) dJ7_fill_d0a16_19 ?_
      have e3 : b_J7_fill_d0a16_6 x k fv = (vp_updL fv k x) := by first | rfl | simp only [b_J7_fill_d0a16_6]
      exact aw_sub (lv' := [(4, .int (nI N)), (3, .int (nI (k + 1))), (0, .ref qa), (1, .long x)]) [1, 0, 2, 3] rfl (ih1 (k + 1) (vp_updL fv k x) (by omega)  (by rw [← e3]; exact hf1))
  exact aw_sub (lv' := [(4, .int (nI N)), (3, .int 0), (0, .ref qa), (1, .long x)]) [0, 1, 2, 3] rfl (L1 N 0 fa (by omega)  rfl)

abbrev rm_X0_start : Room := { frames := 1, cells := 0, slots := 0, locals := 23 }
set_option maxHeartbeats 400000 in
set_option maxRecDepth 100000 in
theorem c_X0_start (l : Launch) (D : va_G) (qK : Nat → Nat) (kK : Nat → ClassId) (vals : Nat → Int32) (hold : Int64) (call : Int32) (al : Int64)  : MW l D yX0_start (Cond.code yX0_start cX0_start 3 none :: TT) rm_X0_start [.ref (qK 0), .long al] [(kK 1, .int)] (cntW qK kK vals hold call) none (cntW qK kK (lpF (b_J7_fill_53178_5 0) 40 0 vals) al 0) := by
  refine MW.of (cc := cX0_start) (nL := 3) (ret := none) (lv := [(0, .ref (qK 0)), (1, .long al)]) (by decide) ((cntW_ad ..).trans (cntW_ad ..).symm) rfl (Nat.le_of_ble_eq_true rfl) ?_
  intro p e s m args below meth c A Q hQ X
  refine aw_aload_n X (pc := 0) 0 rfl rfl dX0_start_0 ?_
  refine aw_get X (pc := 1) iX0 0 0 rfl rfl (by decide) fl_X0_9 rfl dX0_start_1 ?_
  refine aw_iconst X (pc := 4) (v := 0) dX0_start_4 (by decide) ?_
  refine aw_callS X (pc := 5) (rest := []) (st' := []) (ws' := (cntW qK kK (lpF (b_J7_fill_53178_5 0) 40 0 vals) hold call)) (c_J7_fill_53178 l D (qK 1) (kK 1) 40 vals 0 (by decide)) rfl [1] [0] rfl (by decide +kernel) rfl rfl cf_X0_19 cd_J7_fill_53178 dd_J7_fill_53178 (by decide) (by decide) (by decide) rfl (Nat.le_of_ble_eq_true rfl) dX0_start_5 rfl ?_
  refine aw_aload_n X (pc := 8) 0 rfl rfl dX0_start_8 ?_
  refine aw_lload_n X (pc := 9) 1 rfl rfl dX0_start_9 ?_
  refine aw_put X (pc := 10) (ws' := (cntW qK kK (lpF (b_J7_fill_53178_5 0) 40 0 vals) al call)) tyX0 tyX0_ok nmX0 iX0 0 1 rfl rfl (by decide) fl_X0_25 rfl (tyX0_ok 1 (by decide)) rfl rfl (Nat.le_of_ble_eq_true rfl) rfl dX0_start_10 ?_
  refine aw_aload_n X (pc := 13) 0 rfl rfl dX0_start_13 ?_
  refine aw_iconst X (pc := 14) (v := 0) dX0_start_14 (by decide) ?_
  refine aw_put X (pc := 15) (ws' := (cntW qK kK (lpF (b_J7_fill_53178_5 0) 40 0 vals) al 0)) tyX0 tyX0_ok nmX0 iX0 0 2 rfl rfl (by decide) fl_X0_15 rfl (tyX0_ok 2 (by decide)) rfl rfl (Nat.le_of_ble_eq_true rfl) rfl dX0_start_15 ?_
  exact aw_vret X hQ rfl rfl dX0_start_18

def r_X0_isUnderWay (call : Int32) : Int32 := if call < 0 then 0 else 1
theorem z_X0_isUnderWay (call : Int32) : r_X0_isUnderWay call = 0 ∨ r_X0_isUnderWay call = 1 := by
  unfold r_X0_isUnderWay
  by_cases h0 : call < 0
  · try rw [if_pos h0]
    exact Or.inl rfl
  · try rw [if_neg h0]
    exact Or.inr rfl
abbrev rm_X0_isUnderWay : Room := { frames := 0, cells := 0, slots := 0, locals := 0 }
set_option maxHeartbeats 400000 in
set_option maxRecDepth 100000 in
theorem c_X0_isUnderWay (l : Launch) (D : va_G) (qK : Nat → Nat) (kK : Nat → ClassId) (vals : Nat → Int32) (hold : Int64) (call : Int32)  : MW l D yX0_isUnderWay (Cond.code yX0_isUnderWay cX0_isUnderWay 1 (some .boolean) :: TT) rm_X0_isUnderWay [.ref (qK 0)] [(kK 1, .int)] (cntW qK kK vals hold call) (some (.int (r_X0_isUnderWay call))) (cntW qK kK vals hold call) := by
  refine MW.of (cc := cX0_isUnderWay) (nL := 1) (ret := (some .boolean)) (lv := [(0, .ref (qK 0))]) (by decide) rfl rfl (Nat.le_of_ble_eq_true rfl) ?_
  intro p e s m args below meth c A Q hQ X
  refine aw_aload_n X (pc := 0) 0 rfl rfl dX0_isUnderWay_0 ?_
  refine aw_get X (pc := 1) iX0 0 2 rfl rfl (by decide) fl_X0_15 rfl dX0_isUnderWay_1 ?_
  refine aw_if_lt X (pc := 4) (tgt := 11) (by decide) dX0_isUnderWay_4 (fun c1 => ?_) (fun c1 => ?_)
  · refine aw_iconst X (pc := 11) (v := 0) dX0_isUnderWay_11 (by decide) ?_
    exact aw_zret X (v := 0) rfl hQ (by simp only [r_X0_isUnderWay, if_pos c1]; try rfl) rfl dX0_isUnderWay_12
  · refine aw_iconst X (pc := 7) (v := 1) dX0_isUnderWay_7 (by decide) ?_
    refine aw_goto X (pc := 8) (tgt := 12) (by decide) dX0_isUnderWay_8 ?_
    exact aw_zret X (v := 1) rfl hQ (by simp only [r_X0_isUnderWay, if_neg c1]; try rfl) rfl dX0_isUnderWay_12

def r_X0_of (vals : Nat → Int32) (hold : Int64) (tag : Int32) : Int32 := if tag < 0 then (-1) else (if 40 ≤ tag then (-1) else (if r_X8_isIn hold tag = 0 then (-1) else (vals tag.toNatClampNeg)))
abbrev rm_X0_of : Room := { frames := 2, cells := 0, slots := 0, locals := 42 }
set_option maxHeartbeats 400000 in
set_option maxRecDepth 100000 in
theorem c_X0_of (l : Launch) (D : va_G) (qK : Nat → Nat) (kK : Nat → ClassId) (vals : Nat → Int32) (hold : Int64) (call : Int32) (tag : Int32)  : MW l D yX0_of (Cond.code yX0_of cX0_of 2 (some .int) :: TT) rm_X0_of [.ref (qK 0), .int tag] [(kK 1, .int)] (cntW qK kK vals hold call) (some (.int (r_X0_of vals hold tag))) (cntW qK kK vals hold call) := by
  refine MW.of (cc := cX0_of) (nL := 2) (ret := (some .int)) (lv := [(0, .ref (qK 0)), (1, .int tag)]) (by decide) rfl rfl (Nat.le_of_ble_eq_true rfl) ?_
  intro p e s m args below meth c A Q hQ X
  refine aw_iload_n X (pc := 0) 1 rfl rfl dX0_of_0 ?_
  refine aw_if_lt X (pc := 1) (tgt := 30) (by decide) dX0_of_1 (fun c1 => ?_) (fun c1 => ?_)
  · refine aw_iconst X (pc := 30) (v := (-1)) dX0_of_30 (by decide) ?_
    exact aw_iret X (v := (-1)) hQ (by simp only [r_X0_of, if_pos c1]; try rfl) rfl dX0_of_31
  · refine aw_iload_n X (pc := 4) 1 rfl rfl dX0_of_4 ?_
    refine aw_bipush X (pc := 5) (v := 40) dX0_of_5 (by decide) ?_
    refine aw_icmp_ge X (pc := 7) (tgt := 30) (by decide) dX0_of_7 (fun c2 => ?_) (fun c2 => ?_)
    · refine aw_iconst X (pc := 30) (v := (-1)) dX0_of_30 (by decide) ?_
      exact aw_iret X (v := (-1)) hQ (by simp only [r_X0_of, if_neg c1, if_pos c2]; try rfl) rfl dX0_of_31
    · obtain ⟨ht3, hu4⟩ := rng_nat (N := 40) rfl (by decide) c1 c2
      refine aw_aload_n X (pc := 10) 0 rfl rfl dX0_of_10 ?_
      refine aw_get X (pc := 11) iX0 0 1 rfl rfl (by decide) fl_X0_25 rfl dX0_of_11 ?_
      refine aw_iload_n X (pc := 14) 1 rfl rfl dX0_of_14 ?_
      refine aw_callSN X (pc := 15) (rest := []) (st' := [.int (r_X8_isIn hold tag)]) (ws' := (cntW qK kK vals hold call)) (c_X8_isIn l D hold tag) rfl [] [] rfl (by decide +kernel) rfl rfl (by decide) cf_X0_29 cd_X8_isIn dd_X8_isIn (by decide) (by decide) (by decide) rfl (Nat.le_of_ble_eq_true rfl) dX0_of_15 rfl ?_
      refine aw_if_eq X (pc := 18) (tgt := 30) (by decide) dX0_of_18 (fun c5 => ?_) (fun c5 => ?_)
      · refine aw_iconst X (pc := 30) (v := (-1)) dX0_of_30 (by decide) ?_
        exact aw_iret X (v := (-1)) hQ (by simp only [r_X0_of, if_neg c1, if_neg c2, if_pos c5]; try rfl) rfl dX0_of_31
      · refine aw_aload_n X (pc := 21) 0 rfl rfl dX0_of_21 ?_
        refine aw_get X (pc := 22) iX0 0 0 rfl rfl (by decide) fl_X0_9 rfl dX0_of_22 ?_
        refine aw_iload_n X (pc := 25) 1 rfl rfl dX0_of_25 ?_
        refine aw_iald X (pc := 26) 1 0 tag.toNatClampNeg ht3 rfl rfl (by decide) (by omega) dX0_of_26 ?_
        refine aw_goto X (pc := 27) (tgt := 31) (by decide) dX0_of_27 ?_
        exact aw_iret X (v := vals tag.toNatClampNeg) hQ (by simp only [r_X0_of, if_neg c1, if_neg c2, if_neg c5]; try rfl) rfl dX0_of_31

def u_X0_put_vals (vals : Nat → Int32) (tag : Int32) (v : Int32) : Nat → Int32 := if tag < 0 then vals else (if 40 ≤ tag then vals else (upd vals tag.toNatClampNeg v))
abbrev rm_X0_put : Room := { frames := 0, cells := 0, slots := 0, locals := 0 }
set_option maxHeartbeats 400000 in
set_option maxRecDepth 100000 in
theorem c_X0_put (l : Launch) (D : va_G) (qK : Nat → Nat) (kK : Nat → ClassId) (vals : Nat → Int32) (hold : Int64) (call : Int32) (tag : Int32) (v : Int32)  : MW l D yX0_put (Cond.code yX0_put cX0_put 3 none :: TT) rm_X0_put [.ref (qK 0), .int tag, .int v] [(kK 1, .int)] (cntW qK kK vals hold call) none (cntW qK kK (u_X0_put_vals vals tag v) hold call) := by
  refine MW.of (cc := cX0_put) (nL := 3) (ret := none) (lv := [(0, .ref (qK 0)), (1, .int tag), (2, .int v)]) (by decide) ((cntW_ad ..).trans (cntW_ad ..).symm) rfl (Nat.le_of_ble_eq_true rfl) ?_
  intro p e s m args below meth c A Q hQ X
  refine aw_iload_n X (pc := 0) 1 rfl rfl dX0_put_0 ?_
  refine aw_if_lt X (pc := 1) (tgt := 17) (by decide) dX0_put_1 (fun c1 => ?_) (fun c1 => ?_)
  · exact aw_vret X hQ rfl (by simp only [u_X0_put_vals, if_pos c1]) dX0_put_17
  · refine aw_iload_n X (pc := 4) 1 rfl rfl dX0_put_4 ?_
    refine aw_bipush X (pc := 5) (v := 40) dX0_put_5 (by decide) ?_
    refine aw_icmp_ge X (pc := 7) (tgt := 17) (by decide) dX0_put_7 (fun c2 => ?_) (fun c2 => ?_)
    · exact aw_vret X hQ rfl (by simp only [u_X0_put_vals, if_neg c1, if_pos c2]) dX0_put_17
    · obtain ⟨ht3, hu4⟩ := rng_nat (N := 40) rfl (by decide) c1 c2
      refine aw_aload_n X (pc := 10) 0 rfl rfl dX0_put_10 ?_
      refine aw_get X (pc := 11) iX0 0 0 rfl rfl (by decide) fl_X0_9 rfl dX0_put_11 ?_
      refine aw_iload_n X (pc := 14) 1 rfl rfl dX0_put_14 ?_
      refine aw_iload_n X (pc := 15) 2 rfl rfl dX0_put_15 ?_
      refine aw_iast X (pc := 16) 1 0 (ws' := (cntW qK kK (upd vals tag.toNatClampNeg v) hold call)) tag.toNatClampNeg ht3  rfl rfl (by decide) (by omega) rfl dX0_put_16 ?_
      exact aw_vret X hQ rfl (by simp only [u_X0_put_vals, if_neg c1, if_neg c2]) dX0_put_17

abbrev rm_X0_release : Room := { frames := 1, cells := 0, slots := 0, locals := 20 }
set_option maxHeartbeats 400000 in
set_option maxRecDepth 100000 in
theorem c_X0_release (l : Launch) (D : va_G) (qK : Nat → Nat) (kK : Nat → ClassId) (vals : Nat → Int32) (hold : Int64) (call : Int32) (tag : Int32)  : MW l D yX0_release (Cond.code yX0_release cX0_release 2 none :: TT) rm_X0_release [.ref (qK 0), .int tag] [(kK 1, .int)] (cntW qK kK vals hold call) none (cntW qK kK vals (hold &&& (((1 : Int64) <<< (tag.toInt64 &&& 63)) ^^^ (-1))) call) := by
  refine MW.of (cc := cX0_release) (nL := 2) (ret := none) (lv := [(0, .ref (qK 0)), (1, .int tag)]) (by decide) ((cntW_ad ..).trans (cntW_ad ..).symm) rfl (Nat.le_of_ble_eq_true rfl) ?_
  intro p e s m args below meth c A Q hQ X
  refine aw_aload_n X (pc := 0) 0 rfl rfl dX0_release_0 ?_
  refine aw_dup X (pc := 1) dX0_release_1 rfl ?_
  refine aw_get X (pc := 2) iX0 0 1 rfl rfl (by decide) fl_X0_25 rfl dX0_release_2 ?_
  refine aw_iload_n X (pc := 5) 1 rfl rfl dX0_release_5 ?_
  refine aw_callSN X (pc := 6) (rest := [.long hold, .ref (qK 0)]) (st' := [.long ((1 : Int64) <<< (tag.toInt64 &&& 63)), .long hold, .ref (qK 0)]) (ws' := (cntW qK kK vals hold call)) (c_X8_setOf l D tag) rfl [] [] rfl (by decide +kernel) rfl rfl (by decide) cf_X0_33 cd_X8_setOf dd_X8_setOf (by decide) (by decide) (by decide) rfl (Nat.le_of_ble_eq_true rfl) dX0_release_6 rfl ?_
  refine aw_ldc2 X (pc := 9) ld_X0_37 dX0_release_9 ?_
  refine aw_lxor X (pc := 12) (z := ((1 : Int64) <<< (tag.toInt64 &&& 63)) ^^^ (-1)) rfl dX0_release_12 ?_
  refine aw_land X (pc := 13) (z := hold &&& (((1 : Int64) <<< (tag.toInt64 &&& 63)) ^^^ (-1))) rfl dX0_release_13 ?_
  refine aw_put X (pc := 14) (ws' := (cntW qK kK vals (hold &&& (((1 : Int64) <<< (tag.toInt64 &&& 63)) ^^^ (-1))) call)) tyX0 tyX0_ok nmX0 iX0 0 1 rfl rfl (by decide) fl_X0_25 rfl (tyX0_ok 1 (by decide)) rfl rfl (Nat.le_of_ble_eq_true rfl) rfl dX0_release_14 ?_
  exact aw_vret X hQ rfl rfl dX0_release_17

def b_X0_atZero_5 (vals : Nat → Int32) (hold : Int64) (li : Int64) (k : Nat) (σ : Int64) : Int64 := if r_X8_isIn (li &&& hold) (nI k) = 0 then σ else (if vals k = 0 then (σ ||| ((1 : Int64) <<< ((nI k).toInt64 &&& 63))) else σ)
def r_X0_atZero (vals : Nat → Int32) (hold : Int64) (li : Int64) : Int64 := (lpF (b_X0_atZero_5 vals hold li) 40 0 0)
abbrev rm_X0_atZero : Room := { frames := 2, cells := 0, slots := 0, locals := 42 }
set_option maxHeartbeats 400000 in
set_option maxRecDepth 100000 in
theorem c_X0_atZero (l : Launch) (D : va_G) (qK : Nat → Nat) (kK : Nat → ClassId) (vals : Nat → Int32) (hold : Int64) (call : Int32) (li : Int64)  : MW l D yX0_atZero (Cond.code yX0_atZero cX0_atZero 6 (some .long) :: TT) rm_X0_atZero [.ref (qK 0), .long li] [(kK 1, .int)] (cntW qK kK vals hold call) (some (.long (r_X0_atZero vals hold li))) (cntW qK kK vals hold call) := by
  refine MW.of (cc := cX0_atZero) (nL := 6) (ret := (some .long)) (lv := [(0, .ref (qK 0)), (1, .long li)]) (by decide) rfl rfl (Nat.le_of_ble_eq_true rfl) ?_
  intro p e s m args below meth c A Q hQ X
  refine aw_lconst X (pc := 0) (v := 0) dX0_atZero_0 (by decide) ?_
  refine aw_lstore_n X (pc := 1) (lv' := [(3, .long 0), (0, .ref (qK 0)), (1, .long li)]) rfl (by decide) rfl dX0_atZero_1 ?_
  refine aw_iconst X (pc := 2) (v := 0) dX0_atZero_2 (by decide) ?_
  refine aw_istore X (pc := 3) (lv' := [(5, .int 0), (3, .long 0), (0, .ref (qK 0)), (1, .long li)]) (by decide) rfl dX0_atZero_3 ?_
  have L1 : ∀ (n1 k : Nat) (spk : Int64), k + n1 = 40 → lpF (b_X0_atZero_5 vals hold li) n1 k spk = lpF (b_X0_atZero_5 vals hold li) 40 0 0 → AW p l e rm_X0_atZero s m args below meth c D A 6 0 0 Q 5 [(5, .int (nI k)), (3, .long spk), (0, .ref (qK 0)), (1, .long li)] [] (cntW qK kK vals hold call) := by
    intro n1; induction n1 with
    | zero =>
      intro k spk hk1  hf1
      have hf1 : spk = lpF (b_X0_atZero_5 vals hold li) 40 0 0 := hf1
      refine aw_iload X (pc := 5) 0 rfl dX0_atZero_5 ?_
      refine aw_bipush X (pc := 7) (v := 40) dX0_atZero_7 (by decide) ?_
      refine aw_icmp_ge X (pc := 9) (tgt := 50) (by decide) dX0_atZero_9 (fun c8 => ?_) (fun c8 => absurd (nn_le (a := 40) (b := k) rfl rfl (by omega) (by omega)) c8)
      refine aw_lload_n X (pc := 50) 1 rfl rfl dX0_atZero_50 ?_
      exact aw_lret X (v := spk) hQ (by simp only [r_X0_atZero, ← hf1]; try rfl) rfl dX0_atZero_51
    | succ n1 ih1 =>
      intro k spk hk1  hf1
      have hf1 : lpF (b_X0_atZero_5 vals hold li) n1 (k + 1) (b_X0_atZero_5 vals hold li k spk) = lpF (b_X0_atZero_5 vals hold li) 40 0 0 := hf1
      refine aw_iload X (pc := 5) 0 rfl dX0_atZero_5 ?_
      refine aw_bipush X (pc := 7) (v := 40) dX0_atZero_7 (by decide) ?_
      refine aw_icmp_ge X (pc := 9) (tgt := 50) (by decide) dX0_atZero_9 (fun c2 => absurd c2 (nn_nle (a := 40) (b := k) rfl rfl (by omega) (by omega))) (fun c2 => ?_)
      refine aw_lload_n X (pc := 12) 3 rfl rfl dX0_atZero_12 ?_
      refine aw_aload_n X (pc := 13) 2 rfl rfl dX0_atZero_13 ?_
      refine aw_get X (pc := 14) iX0 0 1 rfl rfl (by decide) fl_X0_25 rfl dX0_atZero_14 ?_
      refine aw_land X (pc := 17) (z := li &&& hold) rfl dX0_atZero_17 ?_
      refine aw_iload X (pc := 18) 0 rfl dX0_atZero_18 ?_
      refine aw_callSN X (pc := 20) (rest := []) (st' := [.int (r_X8_isIn (li &&& hold) (nI k))]) (ws' := (cntW qK kK vals hold call)) (c_X8_isIn l D (li &&& hold) (nI k)) rfl [] [] rfl (by decide +kernel) rfl rfl (by decide) cf_X0_29 cd_X8_isIn dd_X8_isIn (by decide) (by decide) (by decide) rfl (Nat.le_of_ble_eq_true rfl) dX0_atZero_20 rfl ?_
      refine aw_if_eq X (pc := 23) (tgt := 44) (by decide) dX0_atZero_23 (fun c3 => ?_) (fun c3 => ?_)
      · refine aw_iinc X (pc := 44) (kx := 0) (v := nI (k + 1)) (lv' := [(5, .int (nI (k + 1))), (3, .long spk), (0, .ref (qK 0)), (1, .long li)]) rfl (nn_add (a := k) (b := 1) rfl rfl rfl) (by decide) rfl dX0_atZero_44 ?_
        refine aw_goto X (pc := 47) (tgt := 5) (by decide) dX0_atZero_47 ?_
        have e4 : b_X0_atZero_5 vals hold li k spk = spk := by simp only [b_X0_atZero_5, if_pos c3]
        exact aw_sub (lv' := [(5, .int (nI (k + 1))), (3, .long spk), (0, .ref (qK 0)), (1, .long li)]) [0, 1, 2, 3] rfl (ih1 (k + 1) spk (by omega)  (by rw [← e4]; exact hf1))
      · refine aw_aload_n X (pc := 26) 2 rfl rfl dX0_atZero_26 ?_
        refine aw_get X (pc := 27) iX0 0 0 rfl rfl (by decide) fl_X0_9 rfl dX0_atZero_27 ?_
        refine aw_iload X (pc := 30) 0 rfl dX0_atZero_30 ?_
        refine aw_iald X (pc := 32) 1 0 k rfl rfl rfl (by decide) (by omega) dX0_atZero_32 ?_
        refine aw_if_ne X (pc := 33) (tgt := 44) (by decide) dX0_atZero_33 (fun c5 => ?_) (fun c5 => ?_)
        · refine aw_iinc X (pc := 44) (kx := 0) (v := nI (k + 1)) (lv' := [(5, .int (nI (k + 1))), (3, .long spk), (0, .ref (qK 0)), (1, .long li)]) rfl (nn_add (a := k) (b := 1) rfl rfl rfl) (by decide) rfl dX0_atZero_44 ?_
          refine aw_goto X (pc := 47) (tgt := 5) (by decide) dX0_atZero_47 ?_
          have e6 : b_X0_atZero_5 vals hold li k spk = spk := by simp only [b_X0_atZero_5, if_neg c3, if_neg c5]
          exact aw_sub (lv' := [(5, .int (nI (k + 1))), (3, .long spk), (0, .ref (qK 0)), (1, .long li)]) [0, 1, 2, 3] rfl (ih1 (k + 1) spk (by omega)  (by rw [← e6]; exact hf1))
        · refine aw_lload_n X (pc := 36) 1 rfl rfl dX0_atZero_36 ?_
          refine aw_iload X (pc := 37) 0 rfl dX0_atZero_37 ?_
          refine aw_callSN X (pc := 39) (rest := [.long spk]) (st' := [.long ((1 : Int64) <<< ((nI k).toInt64 &&& 63)), .long spk]) (ws' := (cntW qK kK vals hold call)) (c_X8_setOf l D (nI k)) rfl [] [] rfl (by decide +kernel) rfl rfl (by decide) cf_X0_33 cd_X8_setOf dd_X8_setOf (by decide) (by decide) (by decide) rfl (Nat.le_of_ble_eq_true rfl) dX0_atZero_39 rfl ?_
          refine aw_lor X (pc := 42) (z := spk ||| ((1 : Int64) <<< ((nI k).toInt64 &&& 63))) rfl dX0_atZero_42 ?_
          refine aw_lstore_n X (pc := 43) (lv' := [(3, .long (spk ||| ((1 : Int64) <<< ((nI k).toInt64 &&& 63)))), (5, .int (nI k)), (0, .ref (qK 0)), (1, .long li)]) rfl (by decide) rfl dX0_atZero_43 ?_
          refine aw_iinc X (pc := 44) (kx := 1) (v := nI (k + 1)) (lv' := [(5, .int (nI (k + 1))), (3, .long (spk ||| ((1 : Int64) <<< ((nI k).toInt64 &&& 63)))), (0, .ref (qK 0)), (1, .long li)]) rfl (nn_add (a := k) (b := 1) rfl rfl rfl) (by decide) rfl dX0_atZero_44 ?_
          refine aw_goto X (pc := 47) (tgt := 5) (by decide) dX0_atZero_47 ?_
          have e7 : b_X0_atZero_5 vals hold li k spk = (spk ||| ((1 : Int64) <<< ((nI k).toInt64 &&& 63))) := by simp only [b_X0_atZero_5, if_neg c3, if_pos c5]
          exact aw_sub (lv' := [(5, .int (nI (k + 1))), (3, .long (spk ||| ((1 : Int64) <<< ((nI k).toInt64 &&& 63)))), (0, .ref (qK 0)), (1, .long li)]) [0, 1, 2, 3] rfl (ih1 (k + 1) (spk ||| ((1 : Int64) <<< ((nI k).toInt64 &&& 63))) (by omega)  (by rw [← e7]; exact hf1))
  exact aw_sub (lv' := [(5, .int 0), (3, .long 0), (0, .ref (qK 0)), (1, .long li)]) [0, 1, 2, 3] rfl (L1 40 0 0 (by omega)  rfl)

def b_X0_shift_3 (hold : Int64) (set : Int64) (by_ : Int32) (k : Nat) (σ : (Nat → Int32)) : (Nat → Int32) := if r_X8_isIn (set &&& hold) (nI k) = 0 then σ else (upd σ k (if 0 < ((σ k) + by_) then ((σ k) + by_) else 0))
abbrev rm_X0_shift : Room := { frames := 2, cells := 0, slots := 0, locals := 42 }
set_option maxHeartbeats 400000 in
set_option maxRecDepth 100000 in
theorem c_X0_shift (l : Launch) (D : va_G) (qK : Nat → Nat) (kK : Nat → ClassId) (vals : Nat → Int32) (hold : Int64) (call : Int32) (set : Int64) (by_ : Int32)  : MW l D yX0_shift (Cond.code yX0_shift cX0_shift 5 none :: TT) rm_X0_shift [.ref (qK 0), .long set, .int by_] [(kK 1, .int)] (cntW qK kK vals hold call) none (cntW qK kK (lpF (b_X0_shift_3 hold set by_) 40 0 vals) hold (call + by_)) := by
  refine MW.of (cc := cX0_shift) (nL := 5) (ret := none) (lv := [(0, .ref (qK 0)), (1, .long set), (3, .int by_)]) (by decide) ((cntW_ad ..).trans (cntW_ad ..).symm) rfl (Nat.le_of_ble_eq_true rfl) ?_
  intro p e s m args below meth c A Q hQ X
  refine aw_iconst X (pc := 0) (v := 0) dX0_shift_0 (by decide) ?_
  refine aw_istore X (pc := 1) (lv' := [(4, .int 0), (0, .ref (qK 0)), (1, .long set), (3, .int by_)]) (by decide) rfl dX0_shift_1 ?_
  have L1 : ∀ (n1 k : Nat) (vv : Nat → Int32), k + n1 = 40 → lpF (b_X0_shift_3 hold set by_) n1 k vv = lpF (b_X0_shift_3 hold set by_) 40 0 vals → AW p l e rm_X0_shift s m args below meth c D A 5 0 0 Q 3 [(4, .int (nI k)), (0, .ref (qK 0)), (1, .long set), (3, .int by_)] [] (cntW qK kK vv hold call) := by
    intro n1; induction n1 with
    | zero =>
      intro k vv hk1  hf1
      have hf1 : vv = lpF (b_X0_shift_3 hold set by_) 40 0 vals := hf1
      refine aw_iload X (pc := 3) 0 rfl dX0_shift_3 ?_
      refine aw_bipush X (pc := 5) (v := 40) dX0_shift_5 (by decide) ?_
      refine aw_icmp_ge X (pc := 7) (tgt := 50) (by decide) dX0_shift_7 (fun c6 => ?_) (fun c6 => absurd (nn_le (a := 40) (b := k) rfl rfl (by omega) (by omega)) c6)
      refine aw_aload_n X (pc := 50) 1 rfl rfl dX0_shift_50 ?_
      refine aw_dup X (pc := 51) dX0_shift_51 rfl ?_
      refine aw_get X (pc := 52) iX0 0 2 rfl rfl (by decide) fl_X0_15 rfl dX0_shift_52 ?_
      refine aw_iload_n X (pc := 55) 3 rfl rfl dX0_shift_55 ?_
      refine aw_iadd X (pc := 56) (z := call + by_) rfl  dX0_shift_56 ?_
      refine aw_put X (pc := 57) (ws' := (cntW qK kK vv hold (call + by_))) tyX0 tyX0_ok nmX0 iX0 0 2 rfl rfl (by decide) fl_X0_15 rfl (tyX0_ok 2 (by decide)) rfl rfl (Nat.le_of_ble_eq_true rfl) rfl dX0_shift_57 ?_
      exact aw_vret X hQ rfl (by simp only [← hf1]) dX0_shift_60
    | succ n1 ih1 =>
      intro k vv hk1  hf1
      have hf1 : lpF (b_X0_shift_3 hold set by_) n1 (k + 1) (b_X0_shift_3 hold set by_ k vv) = lpF (b_X0_shift_3 hold set by_) 40 0 vals := hf1
      refine aw_iload X (pc := 3) 0 rfl dX0_shift_3 ?_
      refine aw_bipush X (pc := 5) (v := 40) dX0_shift_5 (by decide) ?_
      refine aw_icmp_ge X (pc := 7) (tgt := 50) (by decide) dX0_shift_7 (fun c2 => absurd c2 (nn_nle (a := 40) (b := k) rfl rfl (by omega) (by omega))) (fun c2 => ?_)
      refine aw_lload_n X (pc := 10) 2 rfl rfl dX0_shift_10 ?_
      refine aw_aload_n X (pc := 11) 1 rfl rfl dX0_shift_11 ?_
      refine aw_get X (pc := 12) iX0 0 1 rfl rfl (by decide) fl_X0_25 rfl dX0_shift_12 ?_
      refine aw_land X (pc := 15) (z := set &&& hold) rfl dX0_shift_15 ?_
      refine aw_iload X (pc := 16) 0 rfl dX0_shift_16 ?_
      refine aw_callSN X (pc := 18) (rest := []) (st' := [.int (r_X8_isIn (set &&& hold) (nI k))]) (ws' := (cntW qK kK vv hold call)) (c_X8_isIn l D (set &&& hold) (nI k)) rfl [] [] rfl (by decide +kernel) rfl rfl (by decide) cf_X0_29 cd_X8_isIn dd_X8_isIn (by decide) (by decide) (by decide) rfl (Nat.le_of_ble_eq_true rfl) dX0_shift_18 rfl ?_
      refine aw_if_eq X (pc := 21) (tgt := 44) (by decide) dX0_shift_21 (fun c3 => ?_) (fun c3 => ?_)
      · refine aw_iinc X (pc := 44) (kx := 0) (v := nI (k + 1)) (lv' := [(4, .int (nI (k + 1))), (0, .ref (qK 0)), (1, .long set), (3, .int by_)]) rfl (nn_add (a := k) (b := 1) rfl rfl rfl) (by decide) rfl dX0_shift_44 ?_
        refine aw_goto X (pc := 47) (tgt := 3) (by decide) dX0_shift_47 ?_
        have e4 : b_X0_shift_3 hold set by_ k vv = vv := by simp only [b_X0_shift_3, if_pos c3]
        exact aw_sub (lv' := [(4, .int (nI (k + 1))), (0, .ref (qK 0)), (1, .long set), (3, .int by_)]) [0, 1, 2, 3] rfl (ih1 (k + 1) vv (by omega)  (by rw [← e4]; exact hf1))
      · refine aw_aload_n X (pc := 24) 1 rfl rfl dX0_shift_24 ?_
        refine aw_get X (pc := 25) iX0 0 0 rfl rfl (by decide) fl_X0_9 rfl dX0_shift_25 ?_
        refine aw_iload X (pc := 28) 0 rfl dX0_shift_28 ?_
        refine aw_iconst X (pc := 30) (v := 0) dX0_shift_30 (by decide) ?_
        refine aw_aload_n X (pc := 31) 1 rfl rfl dX0_shift_31 ?_
        refine aw_get X (pc := 32) iX0 0 0 rfl rfl (by decide) fl_X0_9 rfl dX0_shift_32 ?_
        refine aw_iload X (pc := 35) 0 rfl dX0_shift_35 ?_
        refine aw_iald X (pc := 37) 1 0 k rfl rfl rfl (by decide) (by omega) dX0_shift_37 ?_
        refine aw_iload_n X (pc := 38) 3 rfl rfl dX0_shift_38 ?_
        refine aw_iadd X (pc := 39) (z := (vv k) + by_) rfl  dX0_shift_39 ?_
        refine aw_mmax X (pc := 40) cf_X0_39 (by decide) (Nat.le_of_ble_eq_true rfl) (by decide) dX0_shift_40 ?_
        refine aw_iast X (pc := 43) 1 0 (ws' := (cntW qK kK (upd vv k (if 0 < ((vv k) + by_) then ((vv k) + by_) else 0)) hold call)) k rfl  rfl rfl (by decide) (by omega) rfl dX0_shift_43 ?_
        refine aw_iinc X (pc := 44) (kx := 0) (v := nI (k + 1)) (lv' := [(4, .int (nI (k + 1))), (0, .ref (qK 0)), (1, .long set), (3, .int by_)]) rfl (nn_add (a := k) (b := 1) rfl rfl rfl) (by decide) rfl dX0_shift_44 ?_
        refine aw_goto X (pc := 47) (tgt := 3) (by decide) dX0_shift_47 ?_
        have e5 : b_X0_shift_3 hold set by_ k vv = (upd vv k (if 0 < ((vv k) + by_) then ((vv k) + by_) else 0)) := by simp only [b_X0_shift_3, if_neg c3]
        exact aw_sub (lv' := [(4, .int (nI (k + 1))), (0, .ref (qK 0)), (1, .long set), (3, .int by_)]) [0, 1, 2, 3] rfl (ih1 (k + 1) (upd vv k (if 0 < ((vv k) + by_) then ((vv k) + by_) else 0)) (by omega)  (by rw [← e5]; exact hf1))
  exact aw_sub (lv' := [(4, .int 0), (0, .ref (qK 0)), (1, .long set), (3, .int by_)]) [0, 1, 2, 3] rfl (L1 40 0 vals (by omega)  rfl)

def u_X1_admit_nx (nx : Nat → Int64) (ns : Int32) (x : Nat) (crd : Int64) : Nat → Int64 := if 20 ≤ ns then nx else (vp_updL nx x crd)
def u_X1_admit_ns (ns : Int32) (x : Nat) : Int32 := if 20 ≤ ns then ns else (nI (x + 1))
abbrev rm_X1_admit : Room := { frames := 0, cells := 0, slots := 0, locals := 0 }
set_option maxHeartbeats 400000 in
set_option maxRecDepth 100000 in
theorem c_X1_admit (l : Launch) (D : va_G) (qC : Nat → Nat) (kC : Nat → ClassId) (pr : Nat → Int64) (nx : Nat → Int64) (ns : Int32) (csz : Int32) (x : Nat) (crd : Int64) (hns : ns = nI x) (hxx : x ≤ 20) : MW l D yX1_admit (Cond.code yX1_admit cX1_admit 3 none :: TT) rm_X1_admit [.ref (qC 0), .long crd] [(kC 1, .long), (kC 2, .long)] (crdW qC kC pr nx ns csz) none (crdW qC kC pr (u_X1_admit_nx nx ns x crd) (u_X1_admit_ns ns x) csz) := by
  refine MW.of (cc := cX1_admit) (nL := 3) (ret := none) (lv := [(0, .ref (qC 0)), (1, .long crd)]) (by decide) ((crdW_ad ..).trans (crdW_ad ..).symm) rfl (Nat.le_of_ble_eq_true rfl) ?_
  intro p e s m args below meth c A Q hQ X
  refine aw_aload_n X (pc := 0) 0 rfl rfl dX1_admit_0 ?_
  refine aw_get X (pc := 1) iX1 0 2 rfl rfl (by decide) fl_X1_18 rfl dX1_admit_1 ?_
  refine aw_bipush X (pc := 4) (v := 20) dX1_admit_4 (by decide) ?_
  refine aw_icmp_ge X (pc := 6) (tgt := 29) (by decide) dX1_admit_6 (fun c1 => ?_) (fun c1 => ?_)
  · exact aw_vret X hQ rfl (by simp only [u_X1_admit_nx, u_X1_admit_ns, if_pos c1]) dX1_admit_29
  · have hlt2 : x < 20 := nlt_of hns (b := 20) rfl (by omega) (by decide) c1
    refine aw_aload_n X (pc := 9) 0 rfl rfl dX1_admit_9 ?_
    refine aw_get X (pc := 10) iX1 0 1 rfl rfl (by decide) fl_X1_15 rfl dX1_admit_10 ?_
    refine aw_aload_n X (pc := 13) 0 rfl rfl dX1_admit_13 ?_
    refine aw_get X (pc := 14) iX1 0 2 rfl rfl (by decide) fl_X1_18 rfl dX1_admit_14 ?_
    refine aw_lload_n X (pc := 17) 1 rfl rfl dX1_admit_17 ?_
    refine aw_last X (pc := 18) 2 1 (ws' := (crdW qC kC pr (vp_updL nx x crd) ns csz)) x hns  rfl rfl (by decide) (by omega) rfl dX1_admit_18 ?_
    refine aw_aload_n X (pc := 19) 0 rfl rfl dX1_admit_19 ?_
    refine aw_dup X (pc := 20) dX1_admit_20 rfl ?_
    refine aw_get X (pc := 21) iX1 0 2 rfl rfl (by decide) fl_X1_18 rfl dX1_admit_21 ?_
    refine aw_iconst X (pc := 24) (v := 1) dX1_admit_24 (by decide) ?_
    refine aw_iadd X (pc := 25) (z := nI (x + 1)) (nn_add (a := x) (b := 1) hns rfl (by first | rfl | omega))  dX1_admit_25 ?_
    refine aw_put X (pc := 26) (ws' := (crdW qC kC pr (vp_updL nx x crd) (nI (x + 1)) csz)) tyX1 tyX1_ok nmX1 iX1 0 2 rfl rfl (by decide) fl_X1_18 rfl (tyX1_ok 2 (by decide)) rfl rfl (Nat.le_of_ble_eq_true rfl) rfl dX1_admit_26 ?_
    exact aw_vret X hQ rfl (by simp only [u_X1_admit_nx, u_X1_admit_ns, if_neg c1]) dX1_admit_29

def cN (x : Nat) : Nat := if 20 ≤ x then x else x + 1
theorem cN_le {x : Nat} (h : x ≤ 20) : cN x ≤ 20 := by unfold cN; split <;> omega
theorem adm_ns {ns : Int32} {x : Nat} (h : ns = nI x) (hx : x ≤ 20) : u_X1_admit_ns ns x = nI (cN x) := by
  unfold u_X1_admit_ns cN
  subst h
  by_cases h2 : 20 ≤ x
  · rw [if_pos (show (20 : Int32) ≤ nI x from nn_le (a := 20) rfl rfl h2 (by omega)), if_pos h2]
  · rw [if_neg (show ¬ (20 : Int32) ≤ nI x from nn_nle (a := 20) rfl rfl (by omega) (by decide)), if_neg h2]

def r_X1_at (pr : Nat → Int64) (csz : Int32) (i : Int32) : Int64 := if i < 0 then 0 else (if csz ≤ i then 0 else (pr i.toNatClampNeg))
abbrev rm_X1_at : Room := { frames := 0, cells := 0, slots := 0, locals := 0 }
set_option maxHeartbeats 400000 in
set_option maxRecDepth 100000 in
theorem c_X1_at (l : Launch) (D : va_G) (qC : Nat → Nat) (kC : Nat → ClassId) (pr : Nat → Int64) (nx : Nat → Int64) (ns : Int32) (csz : Int32) (y : Nat) (i : Int32) (hcsz : csz = nI y) (hyy : y ≤ 20) : MW l D yX1_at (Cond.code yX1_at cX1_at 2 (some .long) :: TT) rm_X1_at [.ref (qC 0), .int i] [(kC 1, .long), (kC 2, .long)] (crdW qC kC pr nx ns csz) (some (.long (r_X1_at pr csz i))) (crdW qC kC pr nx ns csz) := by
  refine MW.of (cc := cX1_at) (nL := 2) (ret := (some .long)) (lv := [(0, .ref (qC 0)), (1, .int i)]) (by decide) rfl rfl (Nat.le_of_ble_eq_true rfl) ?_
  intro p e s m args below meth c A Q hQ X
  refine aw_iload_n X (pc := 0) 1 rfl rfl dX1_at_0 ?_
  refine aw_if_lt X (pc := 1) (tgt := 21) (by decide) dX1_at_1 (fun c1 => ?_) (fun c1 => ?_)
  · refine aw_lconst X (pc := 21) (v := 0) dX1_at_21 (by decide) ?_
    exact aw_lret X (v := 0) hQ (by simp only [r_X1_at, if_pos c1]; try rfl) rfl dX1_at_22
  · refine aw_iload_n X (pc := 4) 1 rfl rfl dX1_at_4 ?_
    refine aw_aload_n X (pc := 5) 0 rfl rfl dX1_at_5 ?_
    refine aw_get X (pc := 6) iX1 0 3 rfl rfl (by decide) fl_X1_22 rfl dX1_at_6 ?_
    refine aw_icmp_ge X (pc := 9) (tgt := 21) (by decide) dX1_at_9 (fun c2 => ?_) (fun c2 => ?_)
    · refine aw_lconst X (pc := 21) (v := 0) dX1_at_21 (by decide) ?_
      exact aw_lret X (v := 0) hQ (by simp only [r_X1_at, if_neg c1, if_pos c2]; try rfl) rfl dX1_at_22
    · obtain ⟨ht3, hu4⟩ := rng_nat (N := y) hcsz (by omega) c1 c2
      refine aw_aload_n X (pc := 12) 0 rfl rfl dX1_at_12 ?_
      refine aw_get X (pc := 13) iX1 0 0 rfl rfl (by decide) fl_X1_9 rfl dX1_at_13 ?_
      refine aw_iload_n X (pc := 16) 1 rfl rfl dX1_at_16 ?_
      refine aw_lald X (pc := 17) 1 0 i.toNatClampNeg ht3 rfl rfl (by decide) (by omega) dX1_at_17 ?_
      refine aw_goto X (pc := 18) (tgt := 22) (by decide) dX1_at_18 ?_
      exact aw_lret X (v := pr i.toNatClampNeg) hQ (by simp only [r_X1_at, if_neg c1, if_neg c2]; try rfl) rfl dX1_at_22

abbrev rm_X1_turn : Room := { frames := 1, cells := 0, slots := 0, locals := 40 }
set_option maxHeartbeats 400000 in
set_option maxRecDepth 100000 in
theorem c_X1_turn (l : Launch) (D : va_G) (qC : Nat → Nat) (kC : Nat → ClassId) (pr : Nat → Int64) (nx : Nat → Int64) (ns : Int32) (csz : Int32) (x : Nat) (hns : ns = nI x) (hxx : x ≤ 20) : MW l D yX1_turn (Cond.code yX1_turn cX1_turn 1 none :: TT) rm_X1_turn [.ref (qC 0)] [(kC 1, .long), (kC 2, .long)] (crdW qC kC pr nx ns csz) none (crdW qC kC (va_cpy nx pr 0 0 x) nx 0 ns) := by
  refine MW.of (cc := cX1_turn) (nL := 1) (ret := none) (lv := [(0, .ref (qC 0))]) (by decide) ((crdW_ad ..).trans (crdW_ad ..).symm) rfl (Nat.le_of_ble_eq_true rfl) ?_
  intro p e s m args below meth c A Q hQ X
  refine aw_aload_n X (pc := 0) 0 rfl rfl dX1_turn_0 ?_
  refine aw_get X (pc := 1) iX1 0 1 rfl rfl (by decide) fl_X1_15 rfl dX1_turn_1 ?_
  refine aw_iconst X (pc := 4) (v := 0) dX1_turn_4 (by decide) ?_
  refine aw_aload_n X (pc := 5) 0 rfl rfl dX1_turn_5 ?_
  refine aw_get X (pc := 6) iX1 0 0 rfl rfl (by decide) fl_X1_9 rfl dX1_turn_6 ?_
  refine aw_iconst X (pc := 9) (v := 0) dX1_turn_9 (by decide) ?_
  refine aw_aload_n X (pc := 10) 0 rfl rfl dX1_turn_10 ?_
  refine aw_get X (pc := 11) iX1 0 2 rfl rfl (by decide) fl_X1_18 rfl dX1_turn_11 ?_
  refine aw_copyl X (pc := 14) (ws' := (crdW qC kC (va_cpy nx pr 0 0 x) nx ns csz)) x hns 2 1 1 0 rfl rfl rfl rfl (by first | decide | omega) (by first | decide | omega) cf_X1_25 (by decide) (Nat.le_of_ble_eq_true (by first | rfl | decide)) rfl dX1_turn_14 ?_
  refine aw_aload_n X (pc := 17) 0 rfl rfl dX1_turn_17 ?_
  refine aw_aload_n X (pc := 18) 0 rfl rfl dX1_turn_18 ?_
  refine aw_get X (pc := 19) iX1 0 2 rfl rfl (by decide) fl_X1_18 rfl dX1_turn_19 ?_
  refine aw_put X (pc := 22) (ws' := (crdW qC kC (va_cpy nx pr 0 0 x) nx ns ns)) tyX1 tyX1_ok nmX1 iX1 0 3 rfl rfl (by decide) fl_X1_22 rfl (tyX1_ok 3 (by decide)) rfl rfl (Nat.le_of_ble_eq_true rfl) rfl dX1_turn_22 ?_
  refine aw_aload_n X (pc := 25) 0 rfl rfl dX1_turn_25 ?_
  refine aw_iconst X (pc := 26) (v := 0) dX1_turn_26 (by decide) ?_
  refine aw_put X (pc := 27) (ws' := (crdW qC kC (va_cpy nx pr 0 0 x) nx 0 ns)) tyX1 tyX1_ok nmX1 iX1 0 2 rfl rfl (by decide) fl_X1_18 rfl (tyX1_ok 2 (by decide)) rfl rfl (Nat.le_of_ble_eq_true rfl) rfl dX1_turn_27 ?_
  exact aw_vret X hQ rfl rfl dX1_turn_30

abbrev rm_X2_startOne : Room := { frames := 0, cells := 0, slots := 0, locals := 0 }
set_option maxHeartbeats 400000 in
set_option maxRecDepth 100000 in
theorem c_X2_startOne (l : Launch) (D : va_G) (f0 : Nat) (fio : Int64) (fqu : Int32) (fal : Int32) (fco : Int32) (fgu : Int32)  : MW l D yX2_startOne (Cond.code yX2_startOne cX2_startOne 1 none :: TT) rm_X2_startOne [.ref f0] [] (frmW f0 fio fqu fal fco fgu) none (frmW f0 fio 0 0 0 fgu) := by
  refine MW.of (cc := cX2_startOne) (nL := 1) (ret := none) (lv := [(0, .ref f0)]) (by decide) ((frmW_ad ..).trans (frmW_ad ..).symm) rfl (Nat.le_of_ble_eq_true rfl) ?_
  intro p e s m args below meth c A Q hQ X
  refine aw_aload_n X (pc := 0) 0 rfl rfl dX2_startOne_0 ?_
  refine aw_iconst X (pc := 1) (v := 0) dX2_startOne_1 (by decide) ?_
  refine aw_put X (pc := 2) (ws' := (frmW f0 fio 0 fal fco fgu)) tyX2 tyX2_ok nmX2 iX2 0 1 rfl rfl (by decide) fl_X2_9 rfl (tyX2_ok 1 (by decide)) rfl rfl (Nat.le_of_ble_eq_true rfl) rfl dX2_startOne_2 ?_
  refine aw_aload_n X (pc := 5) 0 rfl rfl dX2_startOne_5 ?_
  refine aw_iconst X (pc := 6) (v := 0) dX2_startOne_6 (by decide) ?_
  refine aw_put X (pc := 7) (ws' := (frmW f0 fio 0 0 fco fgu)) tyX2 tyX2_ok nmX2 iX2 0 2 rfl rfl (by decide) fl_X2_15 rfl (tyX2_ok 2 (by decide)) rfl rfl (Nat.le_of_ble_eq_true rfl) rfl dX2_startOne_7 ?_
  refine aw_aload_n X (pc := 10) 0 rfl rfl dX2_startOne_10 ?_
  refine aw_iconst X (pc := 11) (v := 0) dX2_startOne_11 (by decide) ?_
  refine aw_put X (pc := 12) (ws' := (frmW f0 fio 0 0 0 fgu)) tyX2 tyX2_ok nmX2 iX2 0 3 rfl rfl (by decide) fl_X2_18 rfl (tyX2_ok 3 (by decide)) rfl rfl (Nat.le_of_ble_eq_true rfl) rfl dX2_startOne_12 ?_
  exact aw_vret X hQ rfl rfl dX2_startOne_15

def u_X2_note_fqu (fqu : Int32) (h_ : Int32) : Int32 := if h_ = 0 then (fqu + 1) else fqu
def u_X2_note_fal (fal : Int32) (h_ : Int32) : Int32 := if h_ = 0 then fal else (if h_ = 1 then (fal + 1) else fal)
def u_X2_note_fco (fco : Int32) (h_ : Int32) : Int32 := if h_ = 0 then fco else (if h_ = 1 then fco else (fco + 1))
abbrev rm_X2_note : Room := { frames := 0, cells := 0, slots := 0, locals := 0 }
set_option maxHeartbeats 400000 in
set_option maxRecDepth 100000 in
theorem c_X2_note (l : Launch) (D : va_G) (f0 : Nat) (fio : Int64) (fqu : Int32) (fal : Int32) (fco : Int32) (fgu : Int32) (h_ : Int32)  : MW l D yX2_note (Cond.code yX2_note cX2_note 2 none :: TT) rm_X2_note [.ref f0, .int h_] [] (frmW f0 fio fqu fal fco fgu) none (frmW f0 fio (u_X2_note_fqu fqu h_) (u_X2_note_fal fal h_) (u_X2_note_fco fco h_) fgu) := by
  refine MW.of (cc := cX2_note) (nL := 2) (ret := none) (lv := [(0, .ref f0), (1, .int h_)]) (by decide) ((frmW_ad ..).trans (frmW_ad ..).symm) rfl (Nat.le_of_ble_eq_true rfl) ?_
  intro p e s m args below meth c A Q hQ X
  refine aw_iload_n X (pc := 0) 1 rfl rfl dX2_note_0 ?_
  refine aw_if_ne X (pc := 1) (tgt := 17) (by decide) dX2_note_1 (fun c1 => ?_) (fun c1 => ?_)
  · refine aw_iload_n X (pc := 17) 1 rfl rfl dX2_note_17 ?_
    refine aw_iconst X (pc := 18) (v := 1) dX2_note_18 (by decide) ?_
    refine aw_icmp_ne X (pc := 19) (tgt := 35) (by decide) dX2_note_19 (fun c2 => ?_) (fun c2 => ?_)
    · refine aw_aload_n X (pc := 35) 0 rfl rfl dX2_note_35 ?_
      refine aw_dup X (pc := 36) dX2_note_36 rfl ?_
      refine aw_get X (pc := 37) iX2 0 3 rfl rfl (by decide) fl_X2_18 rfl dX2_note_37 ?_
      refine aw_iconst X (pc := 40) (v := 1) dX2_note_40 (by decide) ?_
      refine aw_iadd X (pc := 41) (z := fco + 1) rfl  dX2_note_41 ?_
      refine aw_put X (pc := 42) (ws' := (frmW f0 fio fqu fal (fco + 1) fgu)) tyX2 tyX2_ok nmX2 iX2 0 3 rfl rfl (by decide) fl_X2_18 rfl (tyX2_ok 3 (by decide)) rfl rfl (Nat.le_of_ble_eq_true rfl) rfl dX2_note_42 ?_
      exact aw_vret X hQ rfl (by simp only [u_X2_note_fqu, u_X2_note_fal, u_X2_note_fco, if_neg c1, if_neg c2]) dX2_note_45
    · refine aw_aload_n X (pc := 22) 0 rfl rfl dX2_note_22 ?_
      refine aw_dup X (pc := 23) dX2_note_23 rfl ?_
      refine aw_get X (pc := 24) iX2 0 2 rfl rfl (by decide) fl_X2_15 rfl dX2_note_24 ?_
      refine aw_iconst X (pc := 27) (v := 1) dX2_note_27 (by decide) ?_
      refine aw_iadd X (pc := 28) (z := fal + 1) rfl  dX2_note_28 ?_
      refine aw_put X (pc := 29) (ws' := (frmW f0 fio fqu (fal + 1) fco fgu)) tyX2 tyX2_ok nmX2 iX2 0 2 rfl rfl (by decide) fl_X2_15 rfl (tyX2_ok 2 (by decide)) rfl rfl (Nat.le_of_ble_eq_true rfl) rfl dX2_note_29 ?_
      refine aw_goto X (pc := 32) (tgt := 45) (by decide) dX2_note_32 ?_
      exact aw_vret X hQ rfl (by simp only [u_X2_note_fqu, u_X2_note_fal, u_X2_note_fco, if_neg c1, if_pos c2]) dX2_note_45
  · refine aw_aload_n X (pc := 4) 0 rfl rfl dX2_note_4 ?_
    refine aw_dup X (pc := 5) dX2_note_5 rfl ?_
    refine aw_get X (pc := 6) iX2 0 1 rfl rfl (by decide) fl_X2_9 rfl dX2_note_6 ?_
    refine aw_iconst X (pc := 9) (v := 1) dX2_note_9 (by decide) ?_
    refine aw_iadd X (pc := 10) (z := fqu + 1) rfl  dX2_note_10 ?_
    refine aw_put X (pc := 11) (ws' := (frmW f0 fio (fqu + 1) fal fco fgu)) tyX2 tyX2_ok nmX2 iX2 0 1 rfl rfl (by decide) fl_X2_9 rfl (tyX2_ok 1 (by decide)) rfl rfl (Nat.le_of_ble_eq_true rfl) rfl dX2_note_11 ?_
    refine aw_goto X (pc := 14) (tgt := 45) (by decide) dX2_note_14 ?_
    exact aw_vret X hQ rfl (by simp only [u_X2_note_fqu, u_X2_note_fal, u_X2_note_fco, if_pos c1]) dX2_note_45

set_option maxRecDepth 100000 in
theorem guess_ok : ∀ c, c < 65 → vf_n32 (FP.fmul 1075377603 (FP.i2f (nI c))) := by unfold vf_n32; decide +kernel

def u_X2_guessNext_fgu (fco : Int32) : Int32 := if 1 < (if (FP.f2i (FP.fmul 1075377603 (FP.i2f fco))) < 64 then (FP.f2i (FP.fmul 1075377603 (FP.i2f fco))) else 64) then (if (FP.f2i (FP.fmul 1075377603 (FP.i2f fco))) < 64 then (FP.f2i (FP.fmul 1075377603 (FP.i2f fco))) else 64) else 1
abbrev rm_X2_guessNext : Room := { frames := 1, cells := 0, slots := 0, locals := 21 }
set_option maxHeartbeats 400000 in
set_option maxRecDepth 100000 in
theorem c_X2_guessNext (l : Launch) (D : va_G) (f0 : Nat) (fio : Int64) (fqu : Int32) (fal : Int32) (fco : Int32) (fgu : Int32) (cc_ : Nat) (hfco : fco = nI cc_) (hcc : cc_ ≤ 64) : MW l D yX2_guessNext (Cond.code yX2_guessNext cX2_guessNext 2 none :: TT) rm_X2_guessNext [.ref f0] [] (frmW f0 fio fqu fal fco fgu) none (frmW f0 fio fqu fal fco (u_X2_guessNext_fgu fco)) := by
  refine MW.of (cc := cX2_guessNext) (nL := 2) (ret := none) (lv := [(0, .ref f0)]) (by decide) ((frmW_ad ..).trans (frmW_ad ..).symm) rfl (Nat.le_of_ble_eq_true rfl) ?_
  intro p e s m args below meth c A Q hQ X
  refine aw_ldcf X (pc := 0) ld_X2_21 dX2_guessNext_0 ?_
  refine aw_aload_n X (pc := 2) 0 rfl rfl dX2_guessNext_2 ?_
  refine aw_get X (pc := 3) iX2 0 3 rfl rfl (by decide) fl_X2_18 rfl dX2_guessNext_3 ?_
  refine aw_i2f X (pc := 6) dX2_guessNext_6 ?_
  refine aw_fmul X (pc := 7) dX2_guessNext_7 (by rw [hfco]; exact guess_ok cc_ (by omega)) ?_
  refine aw_f2i X (pc := 8) dX2_guessNext_8 ?_
  refine aw_istore_n X (pc := 9) (lv' := [(1, .int (FP.f2i (FP.fmul 1075377603 (FP.i2f fco)))), (0, .ref f0)]) rfl (by decide) rfl dX2_guessNext_9 ?_
  refine aw_aload_n X (pc := 10) 1 rfl rfl dX2_guessNext_10 ?_
  refine aw_iconst X (pc := 11) (v := 1) dX2_guessNext_11 (by decide) ?_
  refine aw_bipush X (pc := 12) (v := 64) dX2_guessNext_12 (by decide) ?_
  refine aw_iload_n X (pc := 14) 0 rfl rfl dX2_guessNext_14 ?_
  refine aw_mmin X (pc := 15) cf_X2_22 (by decide) (Nat.le_of_ble_eq_true rfl) (by decide) dX2_guessNext_15 ?_
  refine aw_mmax X (pc := 18) cf_X2_28 (by decide) (Nat.le_of_ble_eq_true rfl) (by decide) dX2_guessNext_18 ?_
  refine aw_put X (pc := 21) (ws' := (frmW f0 fio fqu fal fco (if 1 < (if (FP.f2i (FP.fmul 1075377603 (FP.i2f fco))) < 64 then (FP.f2i (FP.fmul 1075377603 (FP.i2f fco))) else 64) then (if (FP.f2i (FP.fmul 1075377603 (FP.i2f fco))) < 64 then (FP.f2i (FP.fmul 1075377603 (FP.i2f fco))) else 64) else 1))) tyX2 tyX2_ok nmX2 iX2 0 4 rfl rfl (by decide) fl_X2_31 rfl (tyX2_ok 4 (by decide)) rfl rfl (Nat.le_of_ble_eq_true rfl) rfl dX2_guessNext_21 ?_
  exact aw_vret X hQ rfl rfl dX2_guessNext_24

def r_X3_wayIsOneAt (lf : Int32) (ln : Int64) (bit : Int32) : Int32 := if lf ≤ bit then (if bit = lf then 1 else 0) else (r_X8_isOneAt ln bit)
theorem z_X3_wayIsOneAt (lf : Int32) (ln : Int64) (bit : Int32) : r_X3_wayIsOneAt lf ln bit = 0 ∨ r_X3_wayIsOneAt lf ln bit = 1 := by
  unfold r_X3_wayIsOneAt
  by_cases h0 : lf ≤ bit
  · try rw [if_pos h0]
    by_cases h1 : bit = lf
    · try rw [if_pos h1]
      exact Or.inr rfl
    · try rw [if_neg h1]
      exact Or.inl rfl
  · try rw [if_neg h0]
    exact z_X8_isOneAt ..
abbrev rm_X3_wayIsOneAt : Room := { frames := 1, cells := 0, slots := 0, locals := 22 }
set_option maxHeartbeats 400000 in
set_option maxRecDepth 100000 in
theorem c_X3_wayIsOneAt (l : Launch) (D : va_G) (p0 : Nat) (lf : Int32) (ir : Int32) (ln : Int64) (bit : Int32)  : MW l D yX3_wayIsOneAt (Cond.code yX3_wayIsOneAt cX3_wayIsOneAt 2 (some .boolean) :: TT) rm_X3_wayIsOneAt [.ref p0, .int bit] [] (pasW p0 lf ir ln) (some (.int (r_X3_wayIsOneAt lf ln bit))) (pasW p0 lf ir ln) := by
  refine MW.of (cc := cX3_wayIsOneAt) (nL := 2) (ret := (some .boolean)) (lv := [(0, .ref p0), (1, .int bit)]) (by decide) rfl rfl (Nat.le_of_ble_eq_true rfl) ?_
  intro p e s m args below meth c A Q hQ X
  refine aw_iload_n X (pc := 0) 1 rfl rfl dX3_wayIsOneAt_0 ?_
  refine aw_aload_n X (pc := 1) 0 rfl rfl dX3_wayIsOneAt_1 ?_
  refine aw_get X (pc := 2) iX3 0 0 rfl rfl (by decide) fl_X3_9 rfl dX3_wayIsOneAt_2 ?_
  refine aw_icmp_ge X (pc := 5) (tgt := 17) (by decide) dX3_wayIsOneAt_5 (fun c1 => ?_) (fun c1 => ?_)
  · refine aw_iload_n X (pc := 17) 1 rfl rfl dX3_wayIsOneAt_17 ?_
    refine aw_aload_n X (pc := 18) 0 rfl rfl dX3_wayIsOneAt_18 ?_
    refine aw_get X (pc := 19) iX3 0 0 rfl rfl (by decide) fl_X3_9 rfl dX3_wayIsOneAt_19 ?_
    refine aw_icmp_ne X (pc := 22) (tgt := 29) (by decide) dX3_wayIsOneAt_22 (fun c2 => ?_) (fun c2 => ?_)
    · refine aw_iconst X (pc := 29) (v := 0) dX3_wayIsOneAt_29 (by decide) ?_
      exact aw_zret X (v := 0) rfl hQ (by simp only [r_X3_wayIsOneAt, if_pos c1, if_neg c2]; try rfl) rfl dX3_wayIsOneAt_30
    · refine aw_iconst X (pc := 25) (v := 1) dX3_wayIsOneAt_25 (by decide) ?_
      refine aw_goto X (pc := 26) (tgt := 30) (by decide) dX3_wayIsOneAt_26 ?_
      exact aw_zret X (v := 1) rfl hQ (by simp only [r_X3_wayIsOneAt, if_pos c1, if_pos c2]; try rfl) rfl dX3_wayIsOneAt_30
  · refine aw_aload_n X (pc := 8) 0 rfl rfl dX3_wayIsOneAt_8 ?_
    refine aw_get X (pc := 9) iX3 0 2 rfl rfl (by decide) fl_X3_15 rfl dX3_wayIsOneAt_9 ?_
    refine aw_iload_n X (pc := 12) 1 rfl rfl dX3_wayIsOneAt_12 ?_
    refine aw_callSN X (pc := 13) (rest := []) (st' := [.int (r_X8_isOneAt ln bit)]) (ws' := (pasW p0 lf ir ln)) (c_X8_isOneAt l D ln bit) rfl [] [] rfl (by decide +kernel) rfl rfl (by decide) cf_X3_19 cd_X8_isOneAt dd_X8_isOneAt (by decide) (by decide) (by decide) rfl (Nat.le_of_ble_eq_true rfl) dX3_wayIsOneAt_13 rfl ?_
    exact aw_zret X (v := r_X8_isOneAt ln bit) (nrw_01 (z_X8_isOneAt ..)) hQ (by simp only [r_X3_wayIsOneAt, if_neg c1]; try rfl) rfl dX3_wayIsOneAt_16

abbrev rm_X3_endRow : Room := { frames := 0, cells := 0, slots := 0, locals := 0 }
set_option maxHeartbeats 400000 in
set_option maxRecDepth 100000 in
theorem c_X3_endRow (l : Launch) (D : va_G) (p0 : Nat) (lf : Int32) (ir : Int32) (ln : Int64)  : MW l D yX3_endRow (Cond.code yX3_endRow cX3_endRow 1 none :: TT) rm_X3_endRow [.ref p0] [] (pasW p0 lf ir ln) none (pasW p0 (-1) 0 ln) := by
  refine MW.of (cc := cX3_endRow) (nL := 1) (ret := none) (lv := [(0, .ref p0)]) (by decide) ((pasW_ad ..).trans (pasW_ad ..).symm) rfl (Nat.le_of_ble_eq_true rfl) ?_
  intro p e s m args below meth c A Q hQ X
  refine aw_aload_n X (pc := 0) 0 rfl rfl dX3_endRow_0 ?_
  refine aw_iconst X (pc := 1) (v := (-1)) dX3_endRow_1 (by decide) ?_
  refine aw_put X (pc := 2) (ws' := (pasW p0 (-1) ir ln)) tyX3 tyX3_ok nmX3 iX3 0 0 rfl rfl (by decide) fl_X3_9 rfl (tyX3_ok 0 (by decide)) rfl rfl (Nat.le_of_ble_eq_true rfl) rfl dX3_endRow_2 ?_
  refine aw_aload_n X (pc := 5) 0 rfl rfl dX3_endRow_5 ?_
  refine aw_iconst X (pc := 6) (v := 0) dX3_endRow_6 (by decide) ?_
  refine aw_put X (pc := 7) (ws' := (pasW p0 (-1) 0 ln)) tyX3 tyX3_ok nmX3 iX3 0 1 rfl rfl (by decide) fl_X3_26 rfl (tyX3_ok 1 (by decide)) rfl rfl (Nat.le_of_ble_eq_true rfl) rfl dX3_endRow_7 ?_
  exact aw_vret X hQ rfl rfl dX3_endRow_10

def u_X3_goOnFrom_lf (fk : Int32) : Int32 := if fk = (-1) then (-1) else fk
def u_X3_goOnFrom_ir (ir : Int32) (fk : Int32) : Int32 := if fk = (-1) then 0 else (ir + 1)
def u_X3_goOnFrom_ln (ln : Int64) (fk : Int32) (nm : Int64) : Int64 := if fk = (-1) then ln else nm
abbrev rm_X3_goOnFrom : Room := { frames := 1, cells := 0, slots := 0, locals := 20 }
set_option maxHeartbeats 400000 in
set_option maxRecDepth 100000 in
theorem c_X3_goOnFrom (l : Launch) (D : va_G) (p0 : Nat) (lf : Int32) (ir : Int32) (ln : Int64) (fk : Int32) (nm : Int64)  : MW l D yX3_goOnFrom (Cond.code yX3_goOnFrom cX3_goOnFrom 4 none :: TT) rm_X3_goOnFrom [.ref p0, .int fk, .long nm] [] (pasW p0 lf ir ln) none (pasW p0 (u_X3_goOnFrom_lf fk) (u_X3_goOnFrom_ir ir fk) (u_X3_goOnFrom_ln ln fk nm)) := by
  refine MW.of (cc := cX3_goOnFrom) (nL := 4) (ret := none) (lv := [(0, .ref p0), (1, .int fk), (2, .long nm)]) (by decide) ((pasW_ad ..).trans (pasW_ad ..).symm) rfl (Nat.le_of_ble_eq_true rfl) ?_
  intro p e s m args below meth c A Q hQ X
  refine aw_iload_n X (pc := 0) 1 rfl rfl dX3_goOnFrom_0 ?_
  refine aw_iconst X (pc := 1) (v := (-1)) dX3_goOnFrom_1 (by decide) ?_
  refine aw_icmp_ne X (pc := 2) (tgt := 10) (by decide) dX3_goOnFrom_2 (fun c1 => ?_) (fun c1 => ?_)
  · refine aw_aload_n X (pc := 10) 0 rfl rfl dX3_goOnFrom_10 ?_
    refine aw_iload_n X (pc := 11) 1 rfl rfl dX3_goOnFrom_11 ?_
    refine aw_put X (pc := 12) (ws' := (pasW p0 fk ir ln)) tyX3 tyX3_ok nmX3 iX3 0 0 rfl rfl (by decide) fl_X3_9 rfl (tyX3_ok 0 (by decide)) rfl rfl (Nat.le_of_ble_eq_true rfl) rfl dX3_goOnFrom_12 ?_
    refine aw_aload_n X (pc := 15) 0 rfl rfl dX3_goOnFrom_15 ?_
    refine aw_lload_n X (pc := 16) 2 rfl rfl dX3_goOnFrom_16 ?_
    refine aw_put X (pc := 17) (ws' := (pasW p0 fk ir nm)) tyX3 tyX3_ok nmX3 iX3 0 2 rfl rfl (by decide) fl_X3_15 rfl (tyX3_ok 2 (by decide)) rfl rfl (Nat.le_of_ble_eq_true rfl) rfl dX3_goOnFrom_17 ?_
    refine aw_aload_n X (pc := 20) 0 rfl rfl dX3_goOnFrom_20 ?_
    refine aw_dup X (pc := 21) dX3_goOnFrom_21 rfl ?_
    refine aw_get X (pc := 22) iX3 0 1 rfl rfl (by decide) fl_X3_26 rfl dX3_goOnFrom_22 ?_
    refine aw_iconst X (pc := 25) (v := 1) dX3_goOnFrom_25 (by decide) ?_
    refine aw_iadd X (pc := 26) (z := ir + 1) rfl  dX3_goOnFrom_26 ?_
    refine aw_put X (pc := 27) (ws' := (pasW p0 fk (ir + 1) nm)) tyX3 tyX3_ok nmX3 iX3 0 1 rfl rfl (by decide) fl_X3_26 rfl (tyX3_ok 1 (by decide)) rfl rfl (Nat.le_of_ble_eq_true rfl) rfl dX3_goOnFrom_27 ?_
    exact aw_vret X hQ rfl (by simp only [u_X3_goOnFrom_lf, u_X3_goOnFrom_ir, u_X3_goOnFrom_ln, if_neg c1]) dX3_goOnFrom_30
  · refine aw_aload_n X (pc := 5) 0 rfl rfl dX3_goOnFrom_5 ?_
    refine aw_callV X (pc := 6) (q1 := 0) (rest := []) (st' := []) (ws' := (pasW p0 (-1) 0 ln)) (c_X3_endRow l D p0 lf ir ln) rfl rfl [0] [] rfl (by decide +kernel) rfl rfl ⟨_, _, rfl⟩ rfl cf_X3_23 cd_X3_endRow dd_X3_endRow (by decide) (by decide) (by decide) rfl (Nat.le_of_ble_eq_true rfl) dX3_goOnFrom_6 rfl ?_
    exact aw_vret X hQ rfl (by simp only [u_X3_goOnFrom_lf, u_X3_goOnFrom_ir, u_X3_goOnFrom_ln, if_pos c1]) dX3_goOnFrom_9

def u_X4_add_rows (rows : Nat → Int64) (psz : Int32) (z : Nat) (row : Int64) : Nat → Int64 := if 65 ≤ psz then rows else (vp_updL rows z row)
def u_X4_add_lens (lens : Nat → Int32) (psz : Int32) (z : Nat) (ln_ : Int32) : Nat → Int32 := if 65 ≤ psz then lens else (upd lens z ln_)
def u_X4_add_psz (psz : Int32) (z : Nat) : Int32 := if 65 ≤ psz then psz else (nI (z + 1))
abbrev rm_X4_add : Room := { frames := 0, cells := 0, slots := 0, locals := 0 }
set_option maxHeartbeats 400000 in
set_option maxRecDepth 100000 in
theorem c_X4_add (l : Launch) (D : va_G) (qL : Nat → Nat) (kL : Nat → ClassId) (rows : Nat → Int64) (lens : Nat → Int32) (psz : Int32) (z : Nat) (row : Int64) (ln_ : Int32) (hpsz : psz = nI z) (hz : z ≤ 65) : MW l D yX4_add (Cond.code yX4_add cX4_add 4 none :: TT) rm_X4_add [.ref (qL 0), .long row, .int ln_] [(kL 1, .long), (kL 2, .int)] (pilW qL kL rows lens psz) none (pilW qL kL (u_X4_add_rows rows psz z row) (u_X4_add_lens lens psz z ln_) (u_X4_add_psz psz z)) := by
  refine MW.of (cc := cX4_add) (nL := 4) (ret := none) (lv := [(0, .ref (qL 0)), (1, .long row), (3, .int ln_)]) (by decide) ((pilW_ad ..).trans (pilW_ad ..).symm) rfl (Nat.le_of_ble_eq_true rfl) ?_
  intro p e s m args below meth c A Q hQ X
  refine aw_aload_n X (pc := 0) 0 rfl rfl dX4_add_0 ?_
  refine aw_get X (pc := 1) iX4 0 2 rfl rfl (by decide) fl_X4_19 rfl dX4_add_1 ?_
  refine aw_bipush X (pc := 4) (v := 65) dX4_add_4 (by decide) ?_
  refine aw_icmp_ge X (pc := 6) (tgt := 39) (by decide) dX4_add_6 (fun c1 => ?_) (fun c1 => ?_)
  · exact aw_vret X hQ rfl (by simp only [u_X4_add_rows, u_X4_add_lens, u_X4_add_psz, if_pos c1]) dX4_add_39
  · have hlt2 : z < 65 := nlt_of hpsz (b := 65) rfl (by omega) (by decide) c1
    refine aw_aload_n X (pc := 9) 0 rfl rfl dX4_add_9 ?_
    refine aw_get X (pc := 10) iX4 0 0 rfl rfl (by decide) fl_X4_11 rfl dX4_add_10 ?_
    refine aw_aload_n X (pc := 13) 0 rfl rfl dX4_add_13 ?_
    refine aw_get X (pc := 14) iX4 0 2 rfl rfl (by decide) fl_X4_19 rfl dX4_add_14 ?_
    refine aw_lload_n X (pc := 17) 1 rfl rfl dX4_add_17 ?_
    refine aw_last X (pc := 18) 1 0 (ws' := (pilW qL kL (vp_updL rows z row) lens psz)) z hpsz  rfl rfl (by decide) (by omega) rfl dX4_add_18 ?_
    refine aw_aload_n X (pc := 19) 0 rfl rfl dX4_add_19 ?_
    refine aw_get X (pc := 20) iX4 0 1 rfl rfl (by decide) fl_X4_15 rfl dX4_add_20 ?_
    refine aw_aload_n X (pc := 23) 0 rfl rfl dX4_add_23 ?_
    refine aw_get X (pc := 24) iX4 0 2 rfl rfl (by decide) fl_X4_19 rfl dX4_add_24 ?_
    refine aw_iload_n X (pc := 27) 2 rfl rfl dX4_add_27 ?_
    refine aw_iast X (pc := 28) 2 1 (ws' := (pilW qL kL (vp_updL rows z row) (upd lens z ln_) psz)) z hpsz  rfl rfl (by decide) (by omega) rfl dX4_add_28 ?_
    refine aw_aload_n X (pc := 29) 0 rfl rfl dX4_add_29 ?_
    refine aw_dup X (pc := 30) dX4_add_30 rfl ?_
    refine aw_get X (pc := 31) iX4 0 2 rfl rfl (by decide) fl_X4_19 rfl dX4_add_31 ?_
    refine aw_iconst X (pc := 34) (v := 1) dX4_add_34 (by decide) ?_
    refine aw_iadd X (pc := 35) (z := nI (z + 1)) (nn_add (a := z) (b := 1) hpsz rfl (by first | rfl | omega))  dX4_add_35 ?_
    refine aw_put X (pc := 36) (ws' := (pilW qL kL (vp_updL rows z row) (upd lens z ln_) (nI (z + 1)))) tyX4 tyX4_ok nmX4 iX4 0 2 rfl rfl (by decide) fl_X4_19 rfl (tyX4_ok 2 (by decide)) rfl rfl (Nat.le_of_ble_eq_true rfl) rfl dX4_add_36 ?_
    exact aw_vret X hQ rfl (by simp only [u_X4_add_rows, u_X4_add_lens, u_X4_add_psz, if_neg c1]) dX4_add_39

def pN (x : Nat) : Nat := if 65 ≤ x then x else x + 1
theorem pN_le {x : Nat} (h : x ≤ 65) : pN x ≤ 65 := by unfold pN; split <;> omega
theorem add_psz {psz : Int32} {x : Nat} (h : psz = nI x) (hx : x ≤ 65) : u_X4_add_psz psz x = nI (pN x) := by
  unfold u_X4_add_psz pN
  subst h
  by_cases h2 : 65 ≤ x
  · rw [if_pos (show (65 : Int32) ≤ nI x from nn_le (a := 65) rfl rfl h2 (by omega)), if_pos h2]
  · rw [if_neg (show ¬ (65 : Int32) ≤ nI x from nn_nle (a := 65) rfl rfl (by omega) (by decide)), if_neg h2]

abbrev rm_X4_startAnew : Room := { frames := 1, cells := 0, slots := 0, locals := 23 }
set_option maxHeartbeats 400000 in
set_option maxRecDepth 100000 in
theorem c_X4_startAnew (l : Launch) (D : va_G) (qL : Nat → Nat) (kL : Nat → ClassId) (rows : Nat → Int64) (lens : Nat → Int32) (psz : Int32)  : MW l D yX4_startAnew (Cond.code yX4_startAnew cX4_startAnew 1 none :: TT) rm_X4_startAnew [.ref (qL 0)] [(kL 1, .long), (kL 2, .int)] (pilW qL kL rows lens psz) none (pilW qL kL (u_X4_add_rows rows 0 0 0) (u_X4_add_lens lens 0 0 0) (u_X4_add_psz 0 0)) := by
  refine MW.of (cc := cX4_startAnew) (nL := 1) (ret := none) (lv := [(0, .ref (qL 0))]) (by decide) ((pilW_ad ..).trans (pilW_ad ..).symm) rfl (Nat.le_of_ble_eq_true rfl) ?_
  intro p e s m args below meth c A Q hQ X
  refine aw_aload_n X (pc := 0) 0 rfl rfl dX4_startAnew_0 ?_
  refine aw_iconst X (pc := 1) (v := 0) dX4_startAnew_1 (by decide) ?_
  refine aw_put X (pc := 2) (ws' := (pilW qL kL rows lens 0)) tyX4 tyX4_ok nmX4 iX4 0 2 rfl rfl (by decide) fl_X4_19 rfl (tyX4_ok 2 (by decide)) rfl rfl (Nat.le_of_ble_eq_true rfl) rfl dX4_startAnew_2 ?_
  refine aw_aload_n X (pc := 5) 0 rfl rfl dX4_startAnew_5 ?_
  refine aw_lconst X (pc := 6) (v := 0) dX4_startAnew_6 (by decide) ?_
  refine aw_iconst X (pc := 7) (v := 0) dX4_startAnew_7 (by decide) ?_
  refine aw_callVF X (pc := 8) (q1 := 0) (rest := []) (st' := []) (c_X4_add l D qL kL rows lens 0 0 0 0 rfl (by omega)) rfl rfl ⟨_, _, rfl⟩ rfl cf_X4_23 cd_X4_add dd_X4_add (by decide) (by decide) (by decide) rfl (Nat.le_of_ble_eq_true rfl) dX4_startAnew_8 rfl ?_
  have hg1 : u_X4_add_psz 0 0 = nI (pN 0) := add_psz rfl (by omega)
  have hg1b : pN 0 ≤ 65 := pN_le (by omega)
  exact aw_vret X hQ rfl rfl dX4_startAnew_11

def r_X4_topRow (rows : Nat → Int64) (psz : Int32) (z : Nat) : Int64 := if psz ≤ 0 then 0 else (rows (z - 1))
abbrev rm_X4_topRow : Room := { frames := 0, cells := 0, slots := 0, locals := 0 }
set_option maxHeartbeats 400000 in
set_option maxRecDepth 100000 in
theorem c_X4_topRow (l : Launch) (D : va_G) (qL : Nat → Nat) (kL : Nat → ClassId) (rows : Nat → Int64) (lens : Nat → Int32) (psz : Int32) (z : Nat) (hpsz : psz = nI z) (hz : z ≤ 65) : MW l D yX4_topRow (Cond.code yX4_topRow cX4_topRow 1 (some .long) :: TT) rm_X4_topRow [.ref (qL 0)] [(kL 1, .long), (kL 2, .int)] (pilW qL kL rows lens psz) (some (.long (r_X4_topRow rows psz z))) (pilW qL kL rows lens psz) := by
  refine MW.of (cc := cX4_topRow) (nL := 1) (ret := (some .long)) (lv := [(0, .ref (qL 0))]) (by decide) rfl rfl (Nat.le_of_ble_eq_true rfl) ?_
  intro p e s m args below meth c A Q hQ X
  refine aw_aload_n X (pc := 0) 0 rfl rfl dX4_topRow_0 ?_
  refine aw_get X (pc := 1) iX4 0 2 rfl rfl (by decide) fl_X4_19 rfl dX4_topRow_1 ?_
  refine aw_if_le X (pc := 4) (tgt := 21) (by decide) dX4_topRow_4 (fun c1 => ?_) (fun c1 => ?_)
  · refine aw_lconst X (pc := 21) (v := 0) dX4_topRow_21 (by decide) ?_
    exact aw_lret X (v := 0) hQ (by simp only [r_X4_topRow, if_pos c1]; try rfl) rfl dX4_topRow_22
  · have hzp2 : 0 < z := npos_of hpsz (by omega) c1
    refine aw_aload_n X (pc := 7) 0 rfl rfl dX4_topRow_7 ?_
    refine aw_get X (pc := 8) iX4 0 0 rfl rfl (by decide) fl_X4_11 rfl dX4_topRow_8 ?_
    refine aw_aload_n X (pc := 11) 0 rfl rfl dX4_topRow_11 ?_
    refine aw_get X (pc := 12) iX4 0 2 rfl rfl (by decide) fl_X4_19 rfl dX4_topRow_12 ?_
    refine aw_iconst X (pc := 15) (v := 1) dX4_topRow_15 (by decide) ?_
    refine aw_isub X (pc := 16) (z := nI (z - 1)) (nn_sub (a := z) (b := 1) hpsz rfl (by omega) rfl)  dX4_topRow_16 ?_
    refine aw_lald X (pc := 17) 1 0 (z - 1) rfl rfl rfl (by decide) (by omega) dX4_topRow_17 ?_
    refine aw_goto X (pc := 18) (tgt := 22) (by decide) dX4_topRow_18 ?_
    exact aw_lret X (v := rows (z - 1)) hQ (by simp only [r_X4_topRow, if_neg c1]; try rfl) rfl dX4_topRow_22

def r_X4_topLength (lens : Nat → Int32) (psz : Int32) (z : Nat) : Int32 := if psz ≤ 0 then 0 else (lens (z - 1))
abbrev rm_X4_topLength : Room := { frames := 0, cells := 0, slots := 0, locals := 0 }
set_option maxHeartbeats 400000 in
set_option maxRecDepth 100000 in
theorem c_X4_topLength (l : Launch) (D : va_G) (qL : Nat → Nat) (kL : Nat → ClassId) (rows : Nat → Int64) (lens : Nat → Int32) (psz : Int32) (z : Nat) (hpsz : psz = nI z) (hz : z ≤ 65) : MW l D yX4_topLength (Cond.code yX4_topLength cX4_topLength 1 (some .int) :: TT) rm_X4_topLength [.ref (qL 0)] [(kL 1, .long), (kL 2, .int)] (pilW qL kL rows lens psz) (some (.int (r_X4_topLength lens psz z))) (pilW qL kL rows lens psz) := by
  refine MW.of (cc := cX4_topLength) (nL := 1) (ret := (some .int)) (lv := [(0, .ref (qL 0))]) (by decide) rfl rfl (Nat.le_of_ble_eq_true rfl) ?_
  intro p e s m args below meth c A Q hQ X
  refine aw_aload_n X (pc := 0) 0 rfl rfl dX4_topLength_0 ?_
  refine aw_get X (pc := 1) iX4 0 2 rfl rfl (by decide) fl_X4_19 rfl dX4_topLength_1 ?_
  refine aw_if_le X (pc := 4) (tgt := 21) (by decide) dX4_topLength_4 (fun c1 => ?_) (fun c1 => ?_)
  · refine aw_iconst X (pc := 21) (v := 0) dX4_topLength_21 (by decide) ?_
    exact aw_iret X (v := 0) hQ (by simp only [r_X4_topLength, if_pos c1]; try rfl) rfl dX4_topLength_22
  · have hzp2 : 0 < z := npos_of hpsz (by omega) c1
    refine aw_aload_n X (pc := 7) 0 rfl rfl dX4_topLength_7 ?_
    refine aw_get X (pc := 8) iX4 0 1 rfl rfl (by decide) fl_X4_15 rfl dX4_topLength_8 ?_
    refine aw_aload_n X (pc := 11) 0 rfl rfl dX4_topLength_11 ?_
    refine aw_get X (pc := 12) iX4 0 2 rfl rfl (by decide) fl_X4_19 rfl dX4_topLength_12 ?_
    refine aw_iconst X (pc := 15) (v := 1) dX4_topLength_15 (by decide) ?_
    refine aw_isub X (pc := 16) (z := nI (z - 1)) (nn_sub (a := z) (b := 1) hpsz rfl (by omega) rfl)  dX4_topLength_16 ?_
    refine aw_iald X (pc := 17) 2 1 (z - 1) rfl rfl rfl (by decide) (by omega) dX4_topLength_17 ?_
    refine aw_goto X (pc := 18) (tgt := 22) (by decide) dX4_topLength_18 ?_
    exact aw_iret X (v := lens (z - 1)) hQ (by simp only [r_X4_topLength, if_neg c1]; try rfl) rfl dX4_topLength_22

def u_X4_dropTop_psz (psz : Int32) (z : Nat) : Int32 := if psz ≤ 0 then psz else (nI (z - 1))
abbrev rm_X4_dropTop : Room := { frames := 0, cells := 0, slots := 0, locals := 0 }
set_option maxHeartbeats 400000 in
set_option maxRecDepth 100000 in
theorem c_X4_dropTop (l : Launch) (D : va_G) (qL : Nat → Nat) (kL : Nat → ClassId) (rows : Nat → Int64) (lens : Nat → Int32) (psz : Int32) (z : Nat) (hpsz : psz = nI z) (hz : z ≤ 65) : MW l D yX4_dropTop (Cond.code yX4_dropTop cX4_dropTop 1 none :: TT) rm_X4_dropTop [.ref (qL 0)] [(kL 1, .long), (kL 2, .int)] (pilW qL kL rows lens psz) none (pilW qL kL rows lens (u_X4_dropTop_psz psz z)) := by
  refine MW.of (cc := cX4_dropTop) (nL := 1) (ret := none) (lv := [(0, .ref (qL 0))]) (by decide) ((pilW_ad ..).trans (pilW_ad ..).symm) rfl (Nat.le_of_ble_eq_true rfl) ?_
  intro p e s m args below meth c A Q hQ X
  refine aw_aload_n X (pc := 0) 0 rfl rfl dX4_dropTop_0 ?_
  refine aw_get X (pc := 1) iX4 0 2 rfl rfl (by decide) fl_X4_19 rfl dX4_dropTop_1 ?_
  refine aw_if_le X (pc := 4) (tgt := 17) (by decide) dX4_dropTop_4 (fun c1 => ?_) (fun c1 => ?_)
  · exact aw_vret X hQ rfl (by simp only [u_X4_dropTop_psz, if_pos c1]) dX4_dropTop_17
  · have hzp2 : 0 < z := npos_of hpsz (by omega) c1
    refine aw_aload_n X (pc := 7) 0 rfl rfl dX4_dropTop_7 ?_
    refine aw_dup X (pc := 8) dX4_dropTop_8 rfl ?_
    refine aw_get X (pc := 9) iX4 0 2 rfl rfl (by decide) fl_X4_19 rfl dX4_dropTop_9 ?_
    refine aw_iconst X (pc := 12) (v := 1) dX4_dropTop_12 (by decide) ?_
    refine aw_isub X (pc := 13) (z := nI (z - 1)) (nn_sub (a := z) (b := 1) hpsz rfl (by omega) rfl)  dX4_dropTop_13 ?_
    refine aw_put X (pc := 14) (ws' := (pilW qL kL rows lens (nI (z - 1)))) tyX4 tyX4_ok nmX4 iX4 0 2 rfl rfl (by decide) fl_X4_19 rfl (tyX4_ok 2 (by decide)) rfl rfl (Nat.le_of_ble_eq_true rfl) rfl dX4_dropTop_14 ?_
    exact aw_vret X hQ rfl (by simp only [u_X4_dropTop_psz, if_neg c1]) dX4_dropTop_17

def u_X4_addBoth_rows (rows : Nat → Int64) (psz : Int32) (z : Nat) (row : Int64) (ln_ : Int32) : Nat → Int64 := if 64 ≤ ln_ then rows else (u_X4_add_rows (u_X4_add_rows rows psz z (row ||| ((1 : Int64) <<< ((63 - ln_).toInt64 &&& 63)))) (u_X4_add_psz psz z) (pN z) row)
def u_X4_addBoth_lens (lens : Nat → Int32) (psz : Int32) (z : Nat) (ln_ : Int32) : Nat → Int32 := if 64 ≤ ln_ then lens else (u_X4_add_lens (u_X4_add_lens lens psz z (ln_ + 1)) (u_X4_add_psz psz z) (pN z) (ln_ + 1))
def u_X4_addBoth_psz (psz : Int32) (z : Nat) (ln_ : Int32) : Int32 := if 64 ≤ ln_ then psz else (u_X4_add_psz (u_X4_add_psz psz z) (pN z))
abbrev rm_X4_addBoth : Room := { frames := 1, cells := 0, slots := 0, locals := 23 }
set_option maxHeartbeats 400000 in
set_option maxRecDepth 100000 in
theorem c_X4_addBoth (l : Launch) (D : va_G) (qL : Nat → Nat) (kL : Nat → ClassId) (rows : Nat → Int64) (lens : Nat → Int32) (psz : Int32) (z : Nat) (row : Int64) (ln_ : Int32) (hpsz : psz = nI z) (hz : z ≤ 65) : MW l D yX4_addBoth (Cond.code yX4_addBoth cX4_addBoth 4 none :: TT) rm_X4_addBoth [.ref (qL 0), .long row, .int ln_] [(kL 1, .long), (kL 2, .int)] (pilW qL kL rows lens psz) none (pilW qL kL (u_X4_addBoth_rows rows psz z row ln_) (u_X4_addBoth_lens lens psz z ln_) (u_X4_addBoth_psz psz z ln_)) := by
  refine MW.of (cc := cX4_addBoth) (nL := 4) (ret := none) (lv := [(0, .ref (qL 0)), (1, .long row), (3, .int ln_)]) (by decide) ((pilW_ad ..).trans (pilW_ad ..).symm) rfl (Nat.le_of_ble_eq_true rfl) ?_
  intro p e s m args below meth c A Q hQ X
  refine aw_iload_n X (pc := 0) 2 rfl rfl dX4_addBoth_0 ?_
  refine aw_bipush X (pc := 1) (v := 64) dX4_addBoth_1 (by decide) ?_
  refine aw_icmp_ge X (pc := 3) (tgt := 29) (by decide) dX4_addBoth_3 (fun c1 => ?_) (fun c1 => ?_)
  · exact aw_vret X hQ rfl (by simp only [u_X4_addBoth_rows, u_X4_addBoth_lens, u_X4_addBoth_psz, if_pos c1]) dX4_addBoth_29
  · refine aw_aload_n X (pc := 6) 0 rfl rfl dX4_addBoth_6 ?_
    refine aw_lload_n X (pc := 7) 1 rfl rfl dX4_addBoth_7 ?_
    refine aw_lconst X (pc := 8) (v := 1) dX4_addBoth_8 (by decide) ?_
    refine aw_bipush X (pc := 9) (v := 63) dX4_addBoth_9 (by decide) ?_
    refine aw_iload_n X (pc := 11) 2 rfl rfl dX4_addBoth_11 ?_
    refine aw_isub X (pc := 12) (z := 63 - ln_) rfl  dX4_addBoth_12 ?_
    refine aw_lshl X (pc := 13) (z := ((1 : Int64) <<< ((63 - ln_).toInt64 &&& 63))) rfl dX4_addBoth_13 ?_
    refine aw_lor X (pc := 14) (z := row ||| ((1 : Int64) <<< ((63 - ln_).toInt64 &&& 63))) rfl dX4_addBoth_14 ?_
    refine aw_iload_n X (pc := 15) 2 rfl rfl dX4_addBoth_15 ?_
    refine aw_iconst X (pc := 16) (v := 1) dX4_addBoth_16 (by decide) ?_
    refine aw_iadd X (pc := 17) (z := ln_ + 1) rfl  dX4_addBoth_17 ?_
    refine aw_callVF X (pc := 18) (q1 := 0) (rest := []) (st' := []) (c_X4_add l D qL kL rows lens psz z (row ||| ((1 : Int64) <<< ((63 - ln_).toInt64 &&& 63))) (ln_ + 1) hpsz (by omega)) rfl rfl ⟨_, _, rfl⟩ rfl cf_X4_23 cd_X4_add dd_X4_add (by decide) (by decide) (by decide) rfl (Nat.le_of_ble_eq_true rfl) dX4_addBoth_18 rfl ?_
    have hg2 : u_X4_add_psz psz z = nI (pN z) := add_psz hpsz (by omega)
    have hg2b : pN z ≤ 65 := pN_le (by omega)
    refine aw_aload_n X (pc := 21) 0 rfl rfl dX4_addBoth_21 ?_
    refine aw_lload_n X (pc := 22) 1 rfl rfl dX4_addBoth_22 ?_
    refine aw_iload_n X (pc := 23) 2 rfl rfl dX4_addBoth_23 ?_
    refine aw_iconst X (pc := 24) (v := 1) dX4_addBoth_24 (by decide) ?_
    refine aw_iadd X (pc := 25) (z := ln_ + 1) rfl  dX4_addBoth_25 ?_
    refine aw_callVF X (pc := 26) (q1 := 0) (rest := []) (st' := []) (c_X4_add l D qL kL (u_X4_add_rows rows psz z (row ||| ((1 : Int64) <<< ((63 - ln_).toInt64 &&& 63)))) (u_X4_add_lens lens psz z (ln_ + 1)) (u_X4_add_psz psz z) (pN z) row (ln_ + 1) hg2 (by omega)) rfl rfl ⟨_, _, rfl⟩ rfl cf_X4_23 cd_X4_add dd_X4_add (by decide) (by decide) (by decide) rfl (Nat.le_of_ble_eq_true rfl) dX4_addBoth_26 rfl ?_
    have hg3 : u_X4_add_psz (u_X4_add_psz psz z) (pN z) = nI (pN (pN z)) := add_psz hg2 (by omega)
    have hg3b : pN (pN z) ≤ 65 := pN_le (by omega)
    exact aw_vret X hQ rfl (by simp only [u_X4_addBoth_rows, u_X4_addBoth_lens, u_X4_addBoth_psz, if_neg c1]) dX4_addBoth_29

def u_X7_addFound_ft (ft : Nat → Int32) (fs : Int32) (f : Nat) (t : Int32) : Nat → Int32 := if 200 ≤ fs then ft else (upd ft f t)
def u_X7_addFound_fs (fs : Int32) (f : Nat) : Int32 := if 200 ≤ fs then fs else (nI (f + 1))
abbrev rm_X7_addFound : Room := { frames := 0, cells := 0, slots := 0, locals := 0 }
set_option maxHeartbeats 400000 in
set_option maxRecDepth 100000 in
theorem c_X7_addFound (l : Launch) (D : va_G) (qY : Nat → Nat) (kY : Nat → ClassId) (ft : Nat → Int32) (fs : Int32) (qs : Int32) (als : Int32) (cs : Int32) (ps : Int32) (f : Nat) (t : Int32) (hfs : fs = nI f) (hf : f ≤ 200) : MW l D yX7_addFound (Cond.code yX7_addFound cX7_addFound 2 none :: TT) rm_X7_addFound [.ref (qY 0), .int t] [(kY 1, .int)] (talW qY kY ft fs qs als cs ps) none (talW qY kY (u_X7_addFound_ft ft fs f t) (u_X7_addFound_fs fs f) qs als cs ps) := by
  refine MW.of (cc := cX7_addFound) (nL := 2) (ret := none) (lv := [(0, .ref (qY 0)), (1, .int t)]) (by decide) ((talW_ad ..).trans (talW_ad ..).symm) rfl (Nat.le_of_ble_eq_true rfl) ?_
  intro p e s m args below meth c A Q hQ X
  refine aw_aload_n X (pc := 0) 0 rfl rfl dX7_addFound_0 ?_
  refine aw_get X (pc := 1) iX7 0 1 rfl rfl (by decide) fl_X7_15 rfl dX7_addFound_1 ?_
  refine aw_sipush X (pc := 4) (v := 200) dX7_addFound_4 (by decide) ?_
  refine aw_icmp_ge X (pc := 7) (tgt := 30) (by decide) dX7_addFound_7 (fun c1 => ?_) (fun c1 => ?_)
  · exact aw_vret X hQ rfl (by simp only [u_X7_addFound_ft, u_X7_addFound_fs, if_pos c1]) dX7_addFound_30
  · have hlt2 : f < 200 := nlt_of hfs (b := 200) rfl (by omega) (by decide) c1
    refine aw_aload_n X (pc := 10) 0 rfl rfl dX7_addFound_10 ?_
    refine aw_get X (pc := 11) iX7 0 0 rfl rfl (by decide) fl_X7_9 rfl dX7_addFound_11 ?_
    refine aw_aload_n X (pc := 14) 0 rfl rfl dX7_addFound_14 ?_
    refine aw_get X (pc := 15) iX7 0 1 rfl rfl (by decide) fl_X7_15 rfl dX7_addFound_15 ?_
    refine aw_iload_n X (pc := 18) 1 rfl rfl dX7_addFound_18 ?_
    refine aw_iast X (pc := 19) 1 0 (ws' := (talW qY kY (upd ft f t) fs qs als cs ps)) f hfs  rfl rfl (by decide) (by omega) rfl dX7_addFound_19 ?_
    refine aw_aload_n X (pc := 20) 0 rfl rfl dX7_addFound_20 ?_
    refine aw_dup X (pc := 21) dX7_addFound_21 rfl ?_
    refine aw_get X (pc := 22) iX7 0 1 rfl rfl (by decide) fl_X7_15 rfl dX7_addFound_22 ?_
    refine aw_iconst X (pc := 25) (v := 1) dX7_addFound_25 (by decide) ?_
    refine aw_iadd X (pc := 26) (z := nI (f + 1)) (nn_add (a := f) (b := 1) hfs rfl (by first | rfl | omega))  dX7_addFound_26 ?_
    refine aw_put X (pc := 27) (ws' := (talW qY kY (upd ft f t) (nI (f + 1)) qs als cs ps)) tyX7 tyX7_ok nmX7 iX7 0 1 rfl rfl (by decide) fl_X7_15 rfl (tyX7_ok 1 (by decide)) rfl rfl (Nat.le_of_ble_eq_true rfl) rfl dX7_addFound_27 ?_
    exact aw_vret X hQ rfl (by simp only [u_X7_addFound_ft, u_X7_addFound_fs, if_neg c1]) dX7_addFound_30

theorem add_fs {fs : Int32} {x : Nat} (h : fs = nI x) (hx : x ≤ 200) : u_X7_addFound_fs fs x = nI (fN x) := by
  unfold u_X7_addFound_fs fN
  subst h
  by_cases h2 : x = 200
  · subst h2; rw [if_pos (by decide), if_pos rfl]
  · rw [if_neg (show ¬ (200 : Int32) ≤ nI x from nn_nle (a := 200) rfl rfl (by omega) (by decide)), if_neg h2]

def r_X7_foundAt (ft : Nat → Int32) (fs : Int32) (kk : Int32) : Int32 := if kk < 0 then (-1) else (if fs ≤ kk then (-1) else (ft kk.toNatClampNeg))
abbrev rm_X7_foundAt : Room := { frames := 0, cells := 0, slots := 0, locals := 0 }
set_option maxHeartbeats 400000 in
set_option maxRecDepth 100000 in
theorem c_X7_foundAt (l : Launch) (D : va_G) (qY : Nat → Nat) (kY : Nat → ClassId) (ft : Nat → Int32) (fs : Int32) (qs : Int32) (als : Int32) (cs : Int32) (ps : Int32) (f : Nat) (kk : Int32) (hfs : fs = nI f) (hf : f ≤ 200) : MW l D yX7_foundAt (Cond.code yX7_foundAt cX7_foundAt 2 (some .int) :: TT) rm_X7_foundAt [.ref (qY 0), .int kk] [(kY 1, .int)] (talW qY kY ft fs qs als cs ps) (some (.int (r_X7_foundAt ft fs kk))) (talW qY kY ft fs qs als cs ps) := by
  refine MW.of (cc := cX7_foundAt) (nL := 2) (ret := (some .int)) (lv := [(0, .ref (qY 0)), (1, .int kk)]) (by decide) rfl rfl (Nat.le_of_ble_eq_true rfl) ?_
  intro p e s m args below meth c A Q hQ X
  refine aw_iload_n X (pc := 0) 1 rfl rfl dX7_foundAt_0 ?_
  refine aw_if_lt X (pc := 1) (tgt := 21) (by decide) dX7_foundAt_1 (fun c1 => ?_) (fun c1 => ?_)
  · refine aw_iconst X (pc := 21) (v := (-1)) dX7_foundAt_21 (by decide) ?_
    exact aw_iret X (v := (-1)) hQ (by simp only [r_X7_foundAt, if_pos c1]; try rfl) rfl dX7_foundAt_22
  · refine aw_iload_n X (pc := 4) 1 rfl rfl dX7_foundAt_4 ?_
    refine aw_aload_n X (pc := 5) 0 rfl rfl dX7_foundAt_5 ?_
    refine aw_get X (pc := 6) iX7 0 1 rfl rfl (by decide) fl_X7_15 rfl dX7_foundAt_6 ?_
    refine aw_icmp_ge X (pc := 9) (tgt := 21) (by decide) dX7_foundAt_9 (fun c2 => ?_) (fun c2 => ?_)
    · refine aw_iconst X (pc := 21) (v := (-1)) dX7_foundAt_21 (by decide) ?_
      exact aw_iret X (v := (-1)) hQ (by simp only [r_X7_foundAt, if_neg c1, if_pos c2]; try rfl) rfl dX7_foundAt_22
    · obtain ⟨ht3, hu4⟩ := rng_nat (N := f) hfs (by omega) c1 c2
      refine aw_aload_n X (pc := 12) 0 rfl rfl dX7_foundAt_12 ?_
      refine aw_get X (pc := 13) iX7 0 0 rfl rfl (by decide) fl_X7_9 rfl dX7_foundAt_13 ?_
      refine aw_iload_n X (pc := 16) 1 rfl rfl dX7_foundAt_16 ?_
      refine aw_iald X (pc := 17) 1 0 kk.toNatClampNeg ht3 rfl rfl (by decide) (by omega) dX7_foundAt_17 ?_
      refine aw_goto X (pc := 18) (tgt := 22) (by decide) dX7_foundAt_18 ?_
      exact aw_iret X (v := ft kk.toNatClampNeg) hQ (by simp only [r_X7_foundAt, if_neg c1, if_neg c2]; try rfl) rfl dX7_foundAt_22

def b_X7_timesFound_4 (ft : Nat → Int32) (tag : Int32) (k : Nat) (σ : Int32) : Int32 := if ft k = tag then (σ + 1) else σ
abbrev rm_X7_timesFound : Room := { frames := 0, cells := 0, slots := 0, locals := 0 }
set_option maxHeartbeats 400000 in
set_option maxRecDepth 100000 in
theorem c_X7_timesFound (l : Launch) (D : va_G) (qY : Nat → Nat) (kY : Nat → ClassId) (ft : Nat → Int32) (fs : Int32) (qs : Int32) (als : Int32) (cs : Int32) (ps : Int32) (f : Nat) (tag : Int32) (hfs : fs = nI f) (hf : f ≤ 200) : MW l D yX7_timesFound (Cond.code yX7_timesFound cX7_timesFound 4 (some .int) :: TT) rm_X7_timesFound [.ref (qY 0), .int tag] [(kY 1, .int)] (talW qY kY ft fs qs als cs ps) (some (.int (lpF (b_X7_timesFound_4 ft tag) f 0 0))) (talW qY kY ft fs qs als cs ps) := by
  refine MW.of (cc := cX7_timesFound) (nL := 4) (ret := (some .int)) (lv := [(0, .ref (qY 0)), (1, .int tag)]) (by decide) rfl rfl (Nat.le_of_ble_eq_true rfl) ?_
  intro p e s m args below meth c A Q hQ X
  refine aw_iconst X (pc := 0) (v := 0) dX7_timesFound_0 (by decide) ?_
  refine aw_istore_n X (pc := 1) (lv' := [(2, .int 0), (0, .ref (qY 0)), (1, .int tag)]) rfl (by decide) rfl dX7_timesFound_1 ?_
  refine aw_iconst X (pc := 2) (v := 0) dX7_timesFound_2 (by decide) ?_
  refine aw_istore_n X (pc := 3) (lv' := [(3, .int 0), (2, .int 0), (0, .ref (qY 0)), (1, .int tag)]) rfl (by decide) rfl dX7_timesFound_3 ?_
  have L1 : ∀ (n1 k : Nat) (ct : Int32), k + n1 = f → lpF (b_X7_timesFound_4 ft tag) n1 k ct = lpF (b_X7_timesFound_4 ft tag) f 0 0 → AW p l e rm_X7_timesFound s m args below meth c D A 4 0 0 Q 4 [(3, .int (nI k)), (2, .int ct), (0, .ref (qY 0)), (1, .int tag)] [] (talW qY kY ft fs qs als cs ps) := by
    intro n1; induction n1 with
    | zero =>
      intro k ct hk1  hf1
      have hf1 : ct = lpF (b_X7_timesFound_4 ft tag) f 0 0 := hf1
      refine aw_iload_n X (pc := 4) 0 rfl rfl dX7_timesFound_4 ?_
      refine aw_aload_n X (pc := 5) 2 rfl rfl dX7_timesFound_5 ?_
      refine aw_get X (pc := 6) iX7 0 1 rfl rfl (by decide) fl_X7_15 rfl dX7_timesFound_6 ?_
      refine aw_icmp_ge X (pc := 9) (tgt := 31) (by decide) dX7_timesFound_9 (fun c6 => ?_) (fun c6 => absurd (nn_le (a := f) (b := k) hfs rfl (by omega) (by omega)) c6)
      refine aw_iload_n X (pc := 31) 1 rfl rfl dX7_timesFound_31 ?_
      exact aw_iret X (v := ct) hQ (by simp only [← hf1]; try rfl) rfl dX7_timesFound_32
    | succ n1 ih1 =>
      intro k ct hk1  hf1
      have hf1 : lpF (b_X7_timesFound_4 ft tag) n1 (k + 1) (b_X7_timesFound_4 ft tag k ct) = lpF (b_X7_timesFound_4 ft tag) f 0 0 := hf1
      refine aw_iload_n X (pc := 4) 0 rfl rfl dX7_timesFound_4 ?_
      refine aw_aload_n X (pc := 5) 2 rfl rfl dX7_timesFound_5 ?_
      refine aw_get X (pc := 6) iX7 0 1 rfl rfl (by decide) fl_X7_15 rfl dX7_timesFound_6 ?_
      refine aw_icmp_ge X (pc := 9) (tgt := 31) (by decide) dX7_timesFound_9 (fun c2 => absurd c2 (nn_nle (a := f) (b := k) hfs rfl (by omega) (by omega))) (fun c2 => ?_)
      refine aw_aload_n X (pc := 12) 2 rfl rfl dX7_timesFound_12 ?_
      refine aw_get X (pc := 13) iX7 0 0 rfl rfl (by decide) fl_X7_9 rfl dX7_timesFound_13 ?_
      refine aw_iload_n X (pc := 16) 0 rfl rfl dX7_timesFound_16 ?_
      refine aw_iald X (pc := 17) 1 0 k rfl rfl rfl (by decide) (by omega) dX7_timesFound_17 ?_
      refine aw_iload_n X (pc := 18) 3 rfl rfl dX7_timesFound_18 ?_
      refine aw_icmp_ne X (pc := 19) (tgt := 25) (by decide) dX7_timesFound_19 (fun c3 => ?_) (fun c3 => ?_)
      · refine aw_iinc X (pc := 25) (kx := 0) (v := nI (k + 1)) (lv' := [(3, .int (nI (k + 1))), (2, .int ct), (0, .ref (qY 0)), (1, .int tag)]) rfl (nn_add (a := k) (b := 1) rfl rfl rfl) (by decide) rfl dX7_timesFound_25 ?_
        refine aw_goto X (pc := 28) (tgt := 4) (by decide) dX7_timesFound_28 ?_
        have e4 : b_X7_timesFound_4 ft tag k ct = ct := by simp only [b_X7_timesFound_4, if_neg c3]
        exact aw_sub (lv' := [(3, .int (nI (k + 1))), (2, .int ct), (0, .ref (qY 0)), (1, .int tag)]) [0, 1, 2, 3] rfl (ih1 (k + 1) ct (by omega)  (by rw [← e4]; exact hf1))
      · refine aw_iinc X (pc := 22) (kx := 1) (v := ct + 1) (lv' := [(2, .int (ct + 1)), (3, .int (nI k)), (0, .ref (qY 0)), (1, .int tag)]) rfl rfl (by decide) rfl dX7_timesFound_22 ?_
        refine aw_iinc X (pc := 25) (kx := 1) (v := nI (k + 1)) (lv' := [(3, .int (nI (k + 1))), (2, .int (ct + 1)), (0, .ref (qY 0)), (1, .int tag)]) rfl (nn_add (a := k) (b := 1) rfl rfl rfl) (by decide) rfl dX7_timesFound_25 ?_
        refine aw_goto X (pc := 28) (tgt := 4) (by decide) dX7_timesFound_28 ?_
        have e5 : b_X7_timesFound_4 ft tag k ct = (ct + 1) := by simp only [b_X7_timesFound_4, if_pos c3]
        exact aw_sub (lv' := [(3, .int (nI (k + 1))), (2, .int (ct + 1)), (0, .ref (qY 0)), (1, .int tag)]) [0, 1, 2, 3] rfl (ih1 (k + 1) (ct + 1) (by omega)  (by rw [← e5]; exact hf1))
  exact aw_sub (lv' := [(3, .int 0), (2, .int 0), (0, .ref (qY 0)), (1, .int tag)]) [0, 1, 2, 3] rfl (L1 f 0 0 (by omega)  rfl)

def u_X7_addSlot_qs (qs : Int32) (h_ : Int32) : Int32 := if h_ = 0 then (qs + 1) else qs
def u_X7_addSlot_als (als : Int32) (h_ : Int32) : Int32 := if h_ = 0 then als else (if h_ = 1 then (als + 1) else als)
def u_X7_addSlot_cs (cs : Int32) (h_ : Int32) : Int32 := if h_ = 0 then cs else (if h_ = 1 then cs else (cs + 1))
abbrev rm_X7_addSlot : Room := { frames := 0, cells := 0, slots := 0, locals := 0 }
set_option maxHeartbeats 400000 in
set_option maxRecDepth 100000 in
theorem c_X7_addSlot (l : Launch) (D : va_G) (qY : Nat → Nat) (kY : Nat → ClassId) (ft : Nat → Int32) (fs : Int32) (qs : Int32) (als : Int32) (cs : Int32) (ps : Int32) (h_ : Int32)  : MW l D yX7_addSlot (Cond.code yX7_addSlot cX7_addSlot 2 none :: TT) rm_X7_addSlot [.ref (qY 0), .int h_] [(kY 1, .int)] (talW qY kY ft fs qs als cs ps) none (talW qY kY ft fs (u_X7_addSlot_qs qs h_) (u_X7_addSlot_als als h_) (u_X7_addSlot_cs cs h_) ps) := by
  refine MW.of (cc := cX7_addSlot) (nL := 2) (ret := none) (lv := [(0, .ref (qY 0)), (1, .int h_)]) (by decide) ((talW_ad ..).trans (talW_ad ..).symm) rfl (Nat.le_of_ble_eq_true rfl) ?_
  intro p e s m args below meth c A Q hQ X
  refine aw_iload_n X (pc := 0) 1 rfl rfl dX7_addSlot_0 ?_
  refine aw_if_ne X (pc := 1) (tgt := 17) (by decide) dX7_addSlot_1 (fun c1 => ?_) (fun c1 => ?_)
  · refine aw_iload_n X (pc := 17) 1 rfl rfl dX7_addSlot_17 ?_
    refine aw_iconst X (pc := 18) (v := 1) dX7_addSlot_18 (by decide) ?_
    refine aw_icmp_ne X (pc := 19) (tgt := 35) (by decide) dX7_addSlot_19 (fun c2 => ?_) (fun c2 => ?_)
    · refine aw_aload_n X (pc := 35) 0 rfl rfl dX7_addSlot_35 ?_
      refine aw_dup X (pc := 36) dX7_addSlot_36 rfl ?_
      refine aw_get X (pc := 37) iX7 0 4 rfl rfl (by decide) fl_X7_25 rfl dX7_addSlot_37 ?_
      refine aw_iconst X (pc := 40) (v := 1) dX7_addSlot_40 (by decide) ?_
      refine aw_iadd X (pc := 41) (z := cs + 1) rfl  dX7_addSlot_41 ?_
      refine aw_put X (pc := 42) (ws' := (talW qY kY ft fs qs als (cs + 1) ps)) tyX7 tyX7_ok nmX7 iX7 0 4 rfl rfl (by decide) fl_X7_25 rfl (tyX7_ok 4 (by decide)) rfl rfl (Nat.le_of_ble_eq_true rfl) rfl dX7_addSlot_42 ?_
      exact aw_vret X hQ rfl (by simp only [u_X7_addSlot_qs, u_X7_addSlot_als, u_X7_addSlot_cs, if_neg c1, if_neg c2]) dX7_addSlot_45
    · refine aw_aload_n X (pc := 22) 0 rfl rfl dX7_addSlot_22 ?_
      refine aw_dup X (pc := 23) dX7_addSlot_23 rfl ?_
      refine aw_get X (pc := 24) iX7 0 3 rfl rfl (by decide) fl_X7_22 rfl dX7_addSlot_24 ?_
      refine aw_iconst X (pc := 27) (v := 1) dX7_addSlot_27 (by decide) ?_
      refine aw_iadd X (pc := 28) (z := als + 1) rfl  dX7_addSlot_28 ?_
      refine aw_put X (pc := 29) (ws' := (talW qY kY ft fs qs (als + 1) cs ps)) tyX7 tyX7_ok nmX7 iX7 0 3 rfl rfl (by decide) fl_X7_22 rfl (tyX7_ok 3 (by decide)) rfl rfl (Nat.le_of_ble_eq_true rfl) rfl dX7_addSlot_29 ?_
      refine aw_goto X (pc := 32) (tgt := 45) (by decide) dX7_addSlot_32 ?_
      exact aw_vret X hQ rfl (by simp only [u_X7_addSlot_qs, u_X7_addSlot_als, u_X7_addSlot_cs, if_neg c1, if_pos c2]) dX7_addSlot_45
  · refine aw_aload_n X (pc := 4) 0 rfl rfl dX7_addSlot_4 ?_
    refine aw_dup X (pc := 5) dX7_addSlot_5 rfl ?_
    refine aw_get X (pc := 6) iX7 0 2 rfl rfl (by decide) fl_X7_19 rfl dX7_addSlot_6 ?_
    refine aw_iconst X (pc := 9) (v := 1) dX7_addSlot_9 (by decide) ?_
    refine aw_iadd X (pc := 10) (z := qs + 1) rfl  dX7_addSlot_10 ?_
    refine aw_put X (pc := 11) (ws' := (talW qY kY ft fs (qs + 1) als cs ps)) tyX7 tyX7_ok nmX7 iX7 0 2 rfl rfl (by decide) fl_X7_19 rfl (tyX7_ok 2 (by decide)) rfl rfl (Nat.le_of_ble_eq_true rfl) rfl dX7_addSlot_11 ?_
    refine aw_goto X (pc := 14) (tgt := 45) (by decide) dX7_addSlot_14 ?_
    exact aw_vret X hQ rfl (by simp only [u_X7_addSlot_qs, u_X7_addSlot_als, u_X7_addSlot_cs, if_pos c1]) dX7_addSlot_45

abbrev rm_X7_addPassSlots : Room := { frames := 0, cells := 0, slots := 0, locals := 0 }
set_option maxHeartbeats 400000 in
set_option maxRecDepth 100000 in
theorem c_X7_addPassSlots (l : Launch) (D : va_G) (qY : Nat → Nat) (kY : Nat → ClassId) (ft : Nat → Int32) (fs : Int32) (qs : Int32) (als : Int32) (cs : Int32) (ps : Int32) (b_ : Int32)  : MW l D yX7_addPassSlots (Cond.code yX7_addPassSlots cX7_addPassSlots 2 none :: TT) rm_X7_addPassSlots [.ref (qY 0), .int b_] [(kY 1, .int)] (talW qY kY ft fs qs als cs ps) none (talW qY kY ft fs qs als cs (ps + (1 + (3 * b_)))) := by
  refine MW.of (cc := cX7_addPassSlots) (nL := 2) (ret := none) (lv := [(0, .ref (qY 0)), (1, .int b_)]) (by decide) ((talW_ad ..).trans (talW_ad ..).symm) rfl (Nat.le_of_ble_eq_true rfl) ?_
  intro p e s m args below meth c A Q hQ X
  refine aw_aload_n X (pc := 0) 0 rfl rfl dX7_addPassSlots_0 ?_
  refine aw_dup X (pc := 1) dX7_addPassSlots_1 rfl ?_
  refine aw_get X (pc := 2) iX7 0 5 rfl rfl (by decide) fl_X7_28 rfl dX7_addPassSlots_2 ?_
  refine aw_iconst X (pc := 5) (v := 1) dX7_addPassSlots_5 (by decide) ?_
  refine aw_iconst X (pc := 6) (v := 3) dX7_addPassSlots_6 (by decide) ?_
  refine aw_iload_n X (pc := 7) 1 rfl rfl dX7_addPassSlots_7 ?_
  refine aw_imul X (pc := 8) (z := 3 * b_) rfl  dX7_addPassSlots_8 ?_
  refine aw_iadd X (pc := 9) (z := 1 + (3 * b_)) rfl  dX7_addPassSlots_9 ?_
  refine aw_iadd X (pc := 10) (z := ps + (1 + (3 * b_))) rfl  dX7_addPassSlots_10 ?_
  refine aw_put X (pc := 11) (ws' := (talW qY kY ft fs qs als cs (ps + (1 + (3 * b_))))) tyX7 tyX7_ok nmX7 iX7 0 5 rfl rfl (by decide) fl_X7_28 rfl (tyX7_ok 5 (by decide)) rfl rfl (Nat.le_of_ble_eq_true rfl) rfl dX7_addPassSlots_11 ?_
  exact aw_vret X hQ rfl rfl dX7_addPassSlots_14

abbrev rm_X7_allSlots : Room := { frames := 0, cells := 0, slots := 0, locals := 0 }
set_option maxHeartbeats 400000 in
set_option maxRecDepth 100000 in
theorem c_X7_allSlots (l : Launch) (D : va_G) (qY : Nat → Nat) (kY : Nat → ClassId) (ft : Nat → Int32) (fs : Int32) (qs : Int32) (als : Int32) (cs : Int32) (ps : Int32)  : MW l D yX7_allSlots (Cond.code yX7_allSlots cX7_allSlots 1 (some .int) :: TT) rm_X7_allSlots [.ref (qY 0)] [(kY 1, .int)] (talW qY kY ft fs qs als cs ps) (some (.int (((qs + als) + cs) + ps))) (talW qY kY ft fs qs als cs ps) := by
  refine MW.of (cc := cX7_allSlots) (nL := 1) (ret := (some .int)) (lv := [(0, .ref (qY 0))]) (by decide) rfl rfl (Nat.le_of_ble_eq_true rfl) ?_
  intro p e s m args below meth c A Q hQ X
  refine aw_aload_n X (pc := 0) 0 rfl rfl dX7_allSlots_0 ?_
  refine aw_get X (pc := 1) iX7 0 2 rfl rfl (by decide) fl_X7_19 rfl dX7_allSlots_1 ?_
  refine aw_aload_n X (pc := 4) 0 rfl rfl dX7_allSlots_4 ?_
  refine aw_get X (pc := 5) iX7 0 3 rfl rfl (by decide) fl_X7_22 rfl dX7_allSlots_5 ?_
  refine aw_iadd X (pc := 8) (z := qs + als) rfl  dX7_allSlots_8 ?_
  refine aw_aload_n X (pc := 9) 0 rfl rfl dX7_allSlots_9 ?_
  refine aw_get X (pc := 10) iX7 0 4 rfl rfl (by decide) fl_X7_25 rfl dX7_allSlots_10 ?_
  refine aw_iadd X (pc := 13) (z := (qs + als) + cs) rfl  dX7_allSlots_13 ?_
  refine aw_aload_n X (pc := 14) 0 rfl rfl dX7_allSlots_14 ?_
  refine aw_get X (pc := 15) iX7 0 5 rfl rfl (by decide) fl_X7_28 rfl dX7_allSlots_15 ?_
  refine aw_iadd X (pc := 18) (z := ((qs + als) + cs) + ps) rfl  dX7_allSlots_18 ?_
  exact aw_iret X (v := ((qs + als) + cs) + ps) hQ rfl rfl dX7_allSlots_19

def r_X6_has (sz : Int32) (tag : Int32) : Int32 := if tag < 0 then 0 else (if sz ≤ tag then 0 else 1)
theorem z_X6_has (sz : Int32) (tag : Int32) : r_X6_has sz tag = 0 ∨ r_X6_has sz tag = 1 := by
  unfold r_X6_has
  by_cases h0 : tag < 0
  · try rw [if_pos h0]
    exact Or.inl rfl
  · try rw [if_neg h0]
    by_cases h1 : sz ≤ tag
    · try rw [if_pos h1]
      exact Or.inl rfl
    · try rw [if_neg h1]
      exact Or.inr rfl
abbrev rm_X6_has : Room := { frames := 0, cells := 0, slots := 0, locals := 0 }
set_option maxHeartbeats 400000 in
set_option maxRecDepth 100000 in
theorem c_X6_has (l : Launch) (D : va_G) (qT : Nat → Nat) (kT : Nat → ClassId) (kinds : Nat → Int32) (names : Nat → Int64) (seeds : Nat → Int32) (ones : Nat → Int64) (ofk : Nat → Int64) (sz : Int32) (there : Int64) (awake : Int64) (grp : Int64) (gm : Int64) (gb : Int64) (tag : Int32)  : MW l D yX6_has (Cond.code yX6_has cX6_has 2 (some .boolean) :: TT) rm_X6_has [.ref (qT 0), .int tag] [(kT 1, .int), (kT 2, .long), (kT 3, .int), (kT 4, .long), (kT 5, .long)] (tagW qT kT kinds names seeds ones ofk sz there awake grp gm gb) (some (.int (r_X6_has sz tag))) (tagW qT kT kinds names seeds ones ofk sz there awake grp gm gb) := by
  refine MW.of (cc := cX6_has) (nL := 2) (ret := (some .boolean)) (lv := [(0, .ref (qT 0)), (1, .int tag)]) (by decide) rfl rfl (Nat.le_of_ble_eq_true rfl) ?_
  intro p e s m args below meth c A Q hQ X
  refine aw_iload_n X (pc := 0) 1 rfl rfl dX6_has_0 ?_
  refine aw_if_lt X (pc := 1) (tgt := 16) (by decide) dX6_has_1 (fun c1 => ?_) (fun c1 => ?_)
  · refine aw_iconst X (pc := 16) (v := 0) dX6_has_16 (by decide) ?_
    exact aw_zret X (v := 0) rfl hQ (by simp only [r_X6_has, if_pos c1]; try rfl) rfl dX6_has_17
  · refine aw_iload_n X (pc := 4) 1 rfl rfl dX6_has_4 ?_
    refine aw_aload_n X (pc := 5) 0 rfl rfl dX6_has_5 ?_
    refine aw_get X (pc := 6) iX6 0 5 rfl rfl (by decide) fl_X6_28 rfl dX6_has_6 ?_
    refine aw_icmp_ge X (pc := 9) (tgt := 16) (by decide) dX6_has_9 (fun c2 => ?_) (fun c2 => ?_)
    · refine aw_iconst X (pc := 16) (v := 0) dX6_has_16 (by decide) ?_
      exact aw_zret X (v := 0) rfl hQ (by simp only [r_X6_has, if_neg c1, if_pos c2]; try rfl) rfl dX6_has_17
    · refine aw_iconst X (pc := 12) (v := 1) dX6_has_12 (by decide) ?_
      refine aw_goto X (pc := 13) (tgt := 17) (by decide) dX6_has_13 ?_
      exact aw_zret X (v := 1) rfl hQ (by simp only [r_X6_has, if_neg c1, if_neg c2]; try rfl) rfl dX6_has_17

theorem has_nat {tag sz : Int32} {n : Nat} (hm : sz = nI n) (hn : n < 2 ^ 31) (h : ¬ r_X6_has sz tag = 0) : tag = nI tag.toNatClampNeg ∧ tag.toNatClampNeg < n := isIn_nat hm hn h

def r_X6_isOfGroup (gm : Int64) (gb : Int64) (nm : Int64) : Int32 := if lg_cmp (nm &&& gm) gb = 0 then 1 else 0
theorem z_X6_isOfGroup (gm : Int64) (gb : Int64) (nm : Int64) : r_X6_isOfGroup gm gb nm = 0 ∨ r_X6_isOfGroup gm gb nm = 1 := by
  unfold r_X6_isOfGroup
  by_cases h0 : lg_cmp (nm &&& gm) gb = 0
  · try rw [if_pos h0]
    exact Or.inr rfl
  · try rw [if_neg h0]
    exact Or.inl rfl
abbrev rm_X6_isOfGroup : Room := { frames := 0, cells := 0, slots := 0, locals := 0 }
set_option maxHeartbeats 400000 in
set_option maxRecDepth 100000 in
theorem c_X6_isOfGroup (l : Launch) (D : va_G) (qT : Nat → Nat) (kT : Nat → ClassId) (kinds : Nat → Int32) (names : Nat → Int64) (seeds : Nat → Int32) (ones : Nat → Int64) (ofk : Nat → Int64) (sz : Int32) (there : Int64) (awake : Int64) (grp : Int64) (gm : Int64) (gb : Int64) (nm : Int64)  : MW l D yX6_isOfGroup (Cond.code yX6_isOfGroup cX6_isOfGroup 3 (some .boolean) :: TT) rm_X6_isOfGroup [.ref (qT 0), .long nm] [(kT 1, .int), (kT 2, .long), (kT 3, .int), (kT 4, .long), (kT 5, .long)] (tagW qT kT kinds names seeds ones ofk sz there awake grp gm gb) (some (.int (r_X6_isOfGroup gm gb nm))) (tagW qT kT kinds names seeds ones ofk sz there awake grp gm gb) := by
  refine MW.of (cc := cX6_isOfGroup) (nL := 3) (ret := (some .boolean)) (lv := [(0, .ref (qT 0)), (1, .long nm)]) (by decide) rfl rfl (Nat.le_of_ble_eq_true rfl) ?_
  intro p e s m args below meth c A Q hQ X
  refine aw_lload_n X (pc := 0) 1 rfl rfl dX6_isOfGroup_0 ?_
  refine aw_aload_n X (pc := 1) 0 rfl rfl dX6_isOfGroup_1 ?_
  refine aw_get X (pc := 2) iX6 0 9 rfl rfl (by decide) fl_X6_61 rfl dX6_isOfGroup_2 ?_
  refine aw_land X (pc := 5) (z := nm &&& gm) rfl dX6_isOfGroup_5 ?_
  refine aw_aload_n X (pc := 6) 0 rfl rfl dX6_isOfGroup_6 ?_
  refine aw_get X (pc := 7) iX6 0 10 rfl rfl (by decide) fl_X6_64 rfl dX6_isOfGroup_7 ?_
  refine aw_lcmp X (pc := 10) dX6_isOfGroup_10 ?_
  refine aw_if_ne X (pc := 11) (tgt := 18) (by decide) dX6_isOfGroup_11 (fun c1 => ?_) (fun c1 => ?_)
  · refine aw_iconst X (pc := 18) (v := 0) dX6_isOfGroup_18 (by decide) ?_
    exact aw_zret X (v := 0) rfl hQ (by simp only [r_X6_isOfGroup, if_neg c1]; try rfl) rfl dX6_isOfGroup_19
  · refine aw_iconst X (pc := 14) (v := 1) dX6_isOfGroup_14 (by decide) ?_
    refine aw_goto X (pc := 15) (tgt := 19) (by decide) dX6_isOfGroup_15 ?_
    exact aw_zret X (v := 1) rfl hQ (by simp only [r_X6_isOfGroup, if_pos c1]; try rfl) rfl dX6_isOfGroup_19

def b_X6_noteOnes_3 (tag : Int32) (nm : Int64) (k : Nat) (σ : (Nat → Int64)) : (Nat → Int64) := if r_X8_isOneAt nm (nI k) = 0 then σ else (vp_updL σ k ((σ k) ||| ((1 : Int64) <<< (tag.toInt64 &&& 63))))
abbrev rm_X6_noteOnes : Room := { frames := 1, cells := 0, slots := 0, locals := 22 }
set_option maxHeartbeats 400000 in
set_option maxRecDepth 100000 in
theorem c_X6_noteOnes (l : Launch) (D : va_G) (qT : Nat → Nat) (kT : Nat → ClassId) (kinds : Nat → Int32) (names : Nat → Int64) (seeds : Nat → Int32) (ones : Nat → Int64) (ofk : Nat → Int64) (sz : Int32) (there : Int64) (awake : Int64) (grp : Int64) (gm : Int64) (gb : Int64) (tag : Int32) (nm : Int64)  : MW l D yX6_noteOnes (Cond.code yX6_noteOnes cX6_noteOnes 5 none :: TT) rm_X6_noteOnes [.ref (qT 0), .int tag, .long nm] [(kT 1, .int), (kT 2, .long), (kT 3, .int), (kT 4, .long), (kT 5, .long)] (tagW qT kT kinds names seeds ones ofk sz there awake grp gm gb) none (tagW qT kT kinds names seeds (lpF (b_X6_noteOnes_3 tag nm) 64 0 ones) ofk sz there awake grp gm gb) := by
  refine MW.of (cc := cX6_noteOnes) (nL := 5) (ret := none) (lv := [(0, .ref (qT 0)), (1, .int tag), (2, .long nm)]) (by decide) ((tagW_ad ..).trans (tagW_ad ..).symm) rfl (Nat.le_of_ble_eq_true rfl) ?_
  intro p e s m args below meth c A Q hQ X
  refine aw_iconst X (pc := 0) (v := 0) dX6_noteOnes_0 (by decide) ?_
  refine aw_istore X (pc := 1) (lv' := [(4, .int 0), (0, .ref (qT 0)), (1, .int tag), (2, .long nm)]) (by decide) rfl dX6_noteOnes_1 ?_
  have L1 : ∀ (n1 k : Nat) (ov : Nat → Int64), k + n1 = 64 → lpF (b_X6_noteOnes_3 tag nm) n1 k ov = lpF (b_X6_noteOnes_3 tag nm) 64 0 ones → AW p l e rm_X6_noteOnes s m args below meth c D A 5 0 0 Q 3 [(4, .int (nI k)), (0, .ref (qT 0)), (1, .int tag), (2, .long nm)] [] (tagW qT kT kinds names seeds ov ofk sz there awake grp gm gb) := by
    intro n1; induction n1 with
    | zero =>
      intro k ov hk1  hf1
      have hf1 : ov = lpF (b_X6_noteOnes_3 tag nm) 64 0 ones := hf1
      refine aw_iload X (pc := 3) 0 rfl dX6_noteOnes_3 ?_
      refine aw_bipush X (pc := 5) (v := 64) dX6_noteOnes_5 (by decide) ?_
      refine aw_icmp_ge X (pc := 7) (tgt := 39) (by decide) dX6_noteOnes_7 (fun c6 => ?_) (fun c6 => absurd (nn_le (a := 64) (b := k) rfl rfl (by omega) (by omega)) c6)
      exact aw_vret X hQ rfl (by simp only [← hf1]) dX6_noteOnes_39
    | succ n1 ih1 =>
      intro k ov hk1  hf1
      have hf1 : lpF (b_X6_noteOnes_3 tag nm) n1 (k + 1) (b_X6_noteOnes_3 tag nm k ov) = lpF (b_X6_noteOnes_3 tag nm) 64 0 ones := hf1
      refine aw_iload X (pc := 3) 0 rfl dX6_noteOnes_3 ?_
      refine aw_bipush X (pc := 5) (v := 64) dX6_noteOnes_5 (by decide) ?_
      refine aw_icmp_ge X (pc := 7) (tgt := 39) (by decide) dX6_noteOnes_7 (fun c2 => absurd c2 (nn_nle (a := 64) (b := k) rfl rfl (by omega) (by omega))) (fun c2 => ?_)
      refine aw_lload_n X (pc := 10) 3 rfl rfl dX6_noteOnes_10 ?_
      refine aw_iload X (pc := 11) 0 rfl dX6_noteOnes_11 ?_
      refine aw_callSN X (pc := 13) (rest := []) (st' := [.int (r_X8_isOneAt nm (nI k))]) (ws' := (tagW qT kT kinds names seeds ov ofk sz there awake grp gm gb)) (c_X8_isOneAt l D nm (nI k)) rfl [] [] rfl (by decide +kernel) rfl rfl (by decide) cf_X6_57 cd_X8_isOneAt dd_X8_isOneAt (by decide) (by decide) (by decide) rfl (Nat.le_of_ble_eq_true rfl) dX6_noteOnes_13 rfl ?_
      refine aw_if_eq X (pc := 16) (tgt := 33) (by decide) dX6_noteOnes_16 (fun c3 => ?_) (fun c3 => ?_)
      · refine aw_iinc X (pc := 33) (kx := 0) (v := nI (k + 1)) (lv' := [(4, .int (nI (k + 1))), (0, .ref (qT 0)), (1, .int tag), (2, .long nm)]) rfl (nn_add (a := k) (b := 1) rfl rfl rfl) (by decide) rfl dX6_noteOnes_33 ?_
        refine aw_goto X (pc := 36) (tgt := 3) (by decide) dX6_noteOnes_36 ?_
        have e4 : b_X6_noteOnes_3 tag nm k ov = ov := by simp only [b_X6_noteOnes_3, if_pos c3]
        exact aw_sub (lv' := [(4, .int (nI (k + 1))), (0, .ref (qT 0)), (1, .int tag), (2, .long nm)]) [0, 1, 2, 3] rfl (ih1 (k + 1) ov (by omega)  (by rw [← e4]; exact hf1))
      · refine aw_aload_n X (pc := 19) 1 rfl rfl dX6_noteOnes_19 ?_
        refine aw_get X (pc := 20) iX6 0 3 rfl rfl (by decide) fl_X6_22 rfl dX6_noteOnes_20 ?_
        refine aw_iload X (pc := 23) 0 rfl dX6_noteOnes_23 ?_
        refine aw_dup2_11 X (pc := 25) dX6_noteOnes_25 rfl rfl ?_
        refine aw_lald X (pc := 26) 4 3 k rfl rfl rfl (by decide) (by omega) dX6_noteOnes_26 ?_
        refine aw_iload_n X (pc := 27) 2 rfl rfl dX6_noteOnes_27 ?_
        refine aw_callSN X (pc := 28) (rest := [.long (ov k), .int (nI k), .ref (qT 4)]) (st' := [.long ((1 : Int64) <<< (tag.toInt64 &&& 63)), .long (ov k), .int (nI k), .ref (qT 4)]) (ws' := (tagW qT kT kinds names seeds ov ofk sz there awake grp gm gb)) (c_X8_setOf l D tag) rfl [] [] rfl (by decide +kernel) rfl rfl (by decide) cf_X6_36 cd_X8_setOf dd_X8_setOf (by decide) (by decide) (by decide) rfl (Nat.le_of_ble_eq_true rfl) dX6_noteOnes_28 rfl ?_
        refine aw_lor X (pc := 31) (z := (ov k) ||| ((1 : Int64) <<< (tag.toInt64 &&& 63))) rfl dX6_noteOnes_31 ?_
        refine aw_last X (pc := 32) 4 3 (ws' := (tagW qT kT kinds names seeds (vp_updL ov k ((ov k) ||| ((1 : Int64) <<< (tag.toInt64 &&& 63)))) ofk sz there awake grp gm gb)) k rfl  rfl rfl (by decide) (by omega) rfl dX6_noteOnes_32 ?_
        refine aw_iinc X (pc := 33) (kx := 0) (v := nI (k + 1)) (lv' := [(4, .int (nI (k + 1))), (0, .ref (qT 0)), (1, .int tag), (2, .long nm)]) rfl (nn_add (a := k) (b := 1) rfl rfl rfl) (by decide) rfl dX6_noteOnes_33 ?_
        refine aw_goto X (pc := 36) (tgt := 3) (by decide) dX6_noteOnes_36 ?_
        have e5 : b_X6_noteOnes_3 tag nm k ov = (vp_updL ov k ((ov k) ||| ((1 : Int64) <<< (tag.toInt64 &&& 63)))) := by simp only [b_X6_noteOnes_3, if_neg c3]
        exact aw_sub (lv' := [(4, .int (nI (k + 1))), (0, .ref (qT 0)), (1, .int tag), (2, .long nm)]) [0, 1, 2, 3] rfl (ih1 (k + 1) (vp_updL ov k ((ov k) ||| ((1 : Int64) <<< (tag.toInt64 &&& 63)))) (by omega)  (by rw [← e5]; exact hf1))
  exact aw_sub (lv' := [(4, .int 0), (0, .ref (qT 0)), (1, .int tag), (2, .long nm)]) [0, 1, 2, 3] rfl (L1 64 0 ones (by omega)  rfl)

def r_X6_isTaken (names : Nat → Int64) (n : Nat) (nm : Int64) : Int32 := if anyB (fun k => decide (lg_cmp (names k) nm = 0)) n = true then 1 else 0
theorem z_X6_isTaken (names : Nat → Int64) (n : Nat) (nm : Int64) : r_X6_isTaken names n nm = 0 ∨ r_X6_isTaken names n nm = 1 := by
  unfold r_X6_isTaken
  by_cases h0 : anyB (fun k => decide (lg_cmp (names k) nm = 0)) n = true
  · try rw [if_pos h0]
    exact Or.inr rfl
  · try rw [if_neg h0]
    exact Or.inl rfl
abbrev rm_X6_isTaken : Room := { frames := 0, cells := 0, slots := 0, locals := 0 }
set_option maxHeartbeats 400000 in
set_option maxRecDepth 100000 in
theorem c_X6_isTaken (l : Launch) (D : va_G) (qT : Nat → Nat) (kT : Nat → ClassId) (kinds : Nat → Int32) (names : Nat → Int64) (seeds : Nat → Int32) (ones : Nat → Int64) (ofk : Nat → Int64) (sz : Int32) (there : Int64) (awake : Int64) (grp : Int64) (gm : Int64) (gb : Int64) (n : Nat) (nm : Int64) (hsz : sz = nI n) (hn : n ≤ 40) : MW l D yX6_isTaken (Cond.code yX6_isTaken cX6_isTaken 4 (some .boolean) :: TT) rm_X6_isTaken [.ref (qT 0), .long nm] [(kT 1, .int), (kT 2, .long), (kT 3, .int), (kT 4, .long), (kT 5, .long)] (tagW qT kT kinds names seeds ones ofk sz there awake grp gm gb) (some (.int (r_X6_isTaken names n nm))) (tagW qT kT kinds names seeds ones ofk sz there awake grp gm gb) := by
  refine MW.of (cc := cX6_isTaken) (nL := 4) (ret := (some .boolean)) (lv := [(0, .ref (qT 0)), (1, .long nm)]) (by decide) rfl rfl (Nat.le_of_ble_eq_true rfl) ?_
  intro p e s m args below meth c A Q hQ X
  refine aw_iconst X (pc := 0) (v := 0) dX6_isTaken_0 (by decide) ?_
  refine aw_istore_n X (pc := 1) (lv' := [(3, .int 0), (0, .ref (qT 0)), (1, .long nm)]) rfl (by decide) rfl dX6_isTaken_1 ?_
  have L1 : ∀ (n1 k : Nat), k + n1 = n → (∀ j, j < k → ¬ (fun k : Nat => lg_cmp (names k) nm = 0) j) → AW p l e rm_X6_isTaken s m args below meth c D A 4 0 0 Q 2 [(3, .int (nI k)), (0, .ref (qT 0)), (1, .long nm)] [] (tagW qT kT kinds names seeds ones ofk sz there awake grp gm gb) := by
    intro n1; induction n1 with
    | zero =>
      intro k hk1 hn1
      have hk1 : k = n := by omega
      have g2 : ¬ anyB (fun k => decide (lg_cmp (names k) nm = 0)) n = true := anyB_no (fun j hj => hn1 j (by omega))
      refine aw_iload_n X (pc := 2) 0 rfl rfl dX6_isTaken_2 ?_
      refine aw_aload_n X (pc := 3) 1 rfl rfl dX6_isTaken_3 ?_
      refine aw_get X (pc := 4) iX6 0 5 rfl rfl (by decide) fl_X6_28 rfl dX6_isTaken_4 ?_
      refine aw_icmp_ge X (pc := 7) (tgt := 29) (by decide) dX6_isTaken_7 (fun c3 => ?_) (fun c3 => absurd (nn_le (a := n) (b := k) hsz rfl (by omega) (by omega)) c3)
      refine aw_iconst X (pc := 29) (v := 0) dX6_isTaken_29 (by decide) ?_
      exact aw_zret X (v := 0) rfl hQ (by simp only [r_X6_isTaken, if_neg g2]; try rfl) rfl dX6_isTaken_30
    | succ n1 ih1 =>
      intro k hk1 hn1
      refine aw_iload_n X (pc := 2) 0 rfl rfl dX6_isTaken_2 ?_
      refine aw_aload_n X (pc := 3) 1 rfl rfl dX6_isTaken_3 ?_
      refine aw_get X (pc := 4) iX6 0 5 rfl rfl (by decide) fl_X6_28 rfl dX6_isTaken_4 ?_
      refine aw_icmp_ge X (pc := 7) (tgt := 29) (by decide) dX6_isTaken_7 (fun c4 => absurd c4 (nn_nle (a := n) (b := k) hsz rfl (by omega) (by omega))) (fun c4 => ?_)
      refine aw_aload_n X (pc := 10) 1 rfl rfl dX6_isTaken_10 ?_
      refine aw_get X (pc := 11) iX6 0 1 rfl rfl (by decide) fl_X6_15 rfl dX6_isTaken_11 ?_
      refine aw_iload_n X (pc := 14) 0 rfl rfl dX6_isTaken_14 ?_
      refine aw_lald X (pc := 15) 2 1 k rfl rfl rfl (by decide) (by omega) dX6_isTaken_15 ?_
      refine aw_lload_n X (pc := 16) 2 rfl rfl dX6_isTaken_16 ?_
      refine aw_lcmp X (pc := 17) dX6_isTaken_17 ?_
      refine aw_if_ne X (pc := 18) (tgt := 23) (by decide) dX6_isTaken_18 (fun c5 => ?_) (fun c5 => ?_)
      · refine aw_iinc X (pc := 23) (kx := 0) (v := nI (k + 1)) (lv' := [(3, .int (nI (k + 1))), (0, .ref (qT 0)), (1, .long nm)]) rfl (nn_add (a := k) (b := 1) rfl rfl rfl) (by decide) rfl dX6_isTaken_23 ?_
        refine aw_goto X (pc := 26) (tgt := 2) (by decide) dX6_isTaken_26 ?_
        exact aw_sub (lv' := [(3, .int (nI (k + 1))), (0, .ref (qT 0)), (1, .long nm)]) [0, 1, 2] rfl (ih1 (k + 1) (by omega) (lt_s hn1 c5))
      · have g6 : anyB (fun k => decide (lg_cmp (names k) nm = 0)) n = true := anyB_yes (k := k) (by omega) c5
        refine aw_iconst X (pc := 21) (v := 1) dX6_isTaken_21 (by decide) ?_
        exact aw_zret X (v := 1) rfl hQ (by simp only [r_X6_isTaken, if_pos g6]; try rfl) rfl dX6_isTaken_22
  exact aw_sub (lv' := [(3, .int 0), (0, .ref (qT 0)), (1, .long nm)]) [0, 1, 2] rfl (L1 n 0 (by omega) (fun j hj => absurd hj (Nat.not_lt_zero j)))

def b_X6_regroup_20 (names : Nat → Int64) (mask : Int64) (bits : Int64) (k : Nat) (σ : Int64) : Int64 := if r_X6_isOfGroup mask (bits &&& mask) (names k) = 0 then σ else (σ ||| ((1 : Int64) <<< ((nI k).toInt64 &&& 63)))
abbrev rm_X6_regroup : Room := { frames := 1, cells := 0, slots := 0, locals := 22 }
set_option maxHeartbeats 400000 in
set_option maxRecDepth 100000 in
theorem c_X6_regroup (l : Launch) (D : va_G) (qT : Nat → Nat) (kT : Nat → ClassId) (kinds : Nat → Int32) (names : Nat → Int64) (seeds : Nat → Int32) (ones : Nat → Int64) (ofk : Nat → Int64) (sz : Int32) (there : Int64) (awake : Int64) (grp : Int64) (gm : Int64) (gb : Int64) (n : Nat) (mask : Int64) (bits : Int64) (hsz : sz = nI n) (hn : n ≤ 40) : MW l D yX6_regroup (Cond.code yX6_regroup cX6_regroup 6 none :: TT) rm_X6_regroup [.ref (qT 0), .long mask, .long bits] [(kT 1, .int), (kT 2, .long), (kT 3, .int), (kT 4, .long), (kT 5, .long)] (tagW qT kT kinds names seeds ones ofk sz there awake grp gm gb) none (tagW qT kT kinds names seeds ones ofk sz there awake (lpF (b_X6_regroup_20 names mask bits) n 0 0) mask (bits &&& mask)) := by
  refine MW.of (cc := cX6_regroup) (nL := 6) (ret := none) (lv := [(0, .ref (qT 0)), (1, .long mask), (3, .long bits)]) (by decide) ((tagW_ad ..).trans (tagW_ad ..).symm) rfl (Nat.le_of_ble_eq_true rfl) ?_
  intro p e s m args below meth c A Q hQ X
  refine aw_aload_n X (pc := 0) 0 rfl rfl dX6_regroup_0 ?_
  refine aw_lload_n X (pc := 1) 1 rfl rfl dX6_regroup_1 ?_
  refine aw_put X (pc := 2) (ws' := (tagW qT kT kinds names seeds ones ofk sz there awake grp mask gb)) tyX6 tyX6_ok nmX6 iX6 0 9 rfl rfl (by decide) fl_X6_61 rfl (tyX6_ok 9 (by decide)) rfl rfl (Nat.le_of_ble_eq_true rfl) rfl dX6_regroup_2 ?_
  refine aw_aload_n X (pc := 5) 0 rfl rfl dX6_regroup_5 ?_
  refine aw_lload_n X (pc := 6) 2 rfl rfl dX6_regroup_6 ?_
  refine aw_lload_n X (pc := 7) 1 rfl rfl dX6_regroup_7 ?_
  refine aw_land X (pc := 8) (z := bits &&& mask) rfl dX6_regroup_8 ?_
  refine aw_put X (pc := 9) (ws' := (tagW qT kT kinds names seeds ones ofk sz there awake grp mask (bits &&& mask))) tyX6 tyX6_ok nmX6 iX6 0 10 rfl rfl (by decide) fl_X6_64 rfl (tyX6_ok 10 (by decide)) rfl rfl (Nat.le_of_ble_eq_true rfl) rfl dX6_regroup_9 ?_
  refine aw_aload_n X (pc := 12) 0 rfl rfl dX6_regroup_12 ?_
  refine aw_lconst X (pc := 13) (v := 0) dX6_regroup_13 (by decide) ?_
  refine aw_put X (pc := 14) (ws' := (tagW qT kT kinds names seeds ones ofk sz there awake 0 mask (bits &&& mask))) tyX6 tyX6_ok nmX6 iX6 0 8 rfl rfl (by decide) fl_X6_50 rfl (tyX6_ok 8 (by decide)) rfl rfl (Nat.le_of_ble_eq_true rfl) rfl dX6_regroup_14 ?_
  refine aw_iconst X (pc := 17) (v := 0) dX6_regroup_17 (by decide) ?_
  refine aw_istore X (pc := 18) (lv' := [(5, .int 0), (0, .ref (qT 0)), (1, .long mask), (3, .long bits)]) (by decide) rfl dX6_regroup_18 ?_
  have L1 : ∀ (n1 k : Nat) (gv : Int64), k + n1 = n → lpF (b_X6_regroup_20 names mask bits) n1 k gv = lpF (b_X6_regroup_20 names mask bits) n 0 0 → AW p l e rm_X6_regroup s m args below meth c D A 6 0 0 Q 20 [(5, .int (nI k)), (0, .ref (qT 0)), (1, .long mask), (3, .long bits)] [] (tagW qT kT kinds names seeds ones ofk sz there awake gv mask (bits &&& mask)) := by
    intro n1; induction n1 with
    | zero =>
      intro k gv hk1  hf1
      have hf1 : gv = lpF (b_X6_regroup_20 names mask bits) n 0 0 := hf1
      refine aw_iload X (pc := 20) 0 rfl dX6_regroup_20 ?_
      refine aw_aload_n X (pc := 22) 1 rfl rfl dX6_regroup_22 ?_
      refine aw_get X (pc := 23) iX6 0 5 rfl rfl (by decide) fl_X6_28 rfl dX6_regroup_23 ?_
      refine aw_icmp_ge X (pc := 26) (tgt := 63) (by decide) dX6_regroup_26 (fun c6 => ?_) (fun c6 => absurd (nn_le (a := n) (b := k) hsz rfl (by omega) (by omega)) c6)
      exact aw_vret X hQ rfl (by simp only [← hf1]) dX6_regroup_63
    | succ n1 ih1 =>
      intro k gv hk1  hf1
      have hf1 : lpF (b_X6_regroup_20 names mask bits) n1 (k + 1) (b_X6_regroup_20 names mask bits k gv) = lpF (b_X6_regroup_20 names mask bits) n 0 0 := hf1
      refine aw_iload X (pc := 20) 0 rfl dX6_regroup_20 ?_
      refine aw_aload_n X (pc := 22) 1 rfl rfl dX6_regroup_22 ?_
      refine aw_get X (pc := 23) iX6 0 5 rfl rfl (by decide) fl_X6_28 rfl dX6_regroup_23 ?_
      refine aw_icmp_ge X (pc := 26) (tgt := 63) (by decide) dX6_regroup_26 (fun c2 => absurd c2 (nn_nle (a := n) (b := k) hsz rfl (by omega) (by omega))) (fun c2 => ?_)
      refine aw_aload_n X (pc := 29) 1 rfl rfl dX6_regroup_29 ?_
      refine aw_aload_n X (pc := 30) 1 rfl rfl dX6_regroup_30 ?_
      refine aw_get X (pc := 31) iX6 0 1 rfl rfl (by decide) fl_X6_15 rfl dX6_regroup_31 ?_
      refine aw_iload X (pc := 34) 0 rfl dX6_regroup_34 ?_
      refine aw_lald X (pc := 36) 2 1 k rfl rfl rfl (by decide) (by omega) dX6_regroup_36 ?_
      refine aw_callVF X (pc := 37) (q1 := 0) (rest := []) (st' := [.int (r_X6_isOfGroup mask (bits &&& mask) (names k))]) (c_X6_isOfGroup l D qT kT kinds names seeds ones ofk sz there awake gv mask (bits &&& mask) (names k)) rfl rfl ⟨_, _, rfl⟩ rfl cf_X6_47 cd_X6_isOfGroup dd_X6_isOfGroup (by decide) (by decide) (by decide) rfl (Nat.le_of_ble_eq_true rfl) dX6_regroup_37 rfl ?_
      refine aw_if_eq X (pc := 40) (tgt := 57) (by decide) dX6_regroup_40 (fun c3 => ?_) (fun c3 => ?_)
      · refine aw_iinc X (pc := 57) (kx := 0) (v := nI (k + 1)) (lv' := [(5, .int (nI (k + 1))), (0, .ref (qT 0)), (1, .long mask), (3, .long bits)]) rfl (nn_add (a := k) (b := 1) rfl rfl rfl) (by decide) rfl dX6_regroup_57 ?_
        refine aw_goto X (pc := 60) (tgt := 20) (by decide) dX6_regroup_60 ?_
        have e4 : b_X6_regroup_20 names mask bits k gv = gv := by simp only [b_X6_regroup_20, if_pos c3]
        exact aw_sub (lv' := [(5, .int (nI (k + 1))), (0, .ref (qT 0)), (1, .long mask), (3, .long bits)]) [0, 1, 2, 3] rfl (ih1 (k + 1) gv (by omega)  (by rw [← e4]; exact hf1))
      · refine aw_aload_n X (pc := 43) 1 rfl rfl dX6_regroup_43 ?_
        refine aw_dup X (pc := 44) dX6_regroup_44 rfl ?_
        refine aw_get X (pc := 45) iX6 0 8 rfl rfl (by decide) fl_X6_50 rfl dX6_regroup_45 ?_
        refine aw_iload X (pc := 48) 0 rfl dX6_regroup_48 ?_
        refine aw_callSN X (pc := 50) (rest := [.long gv, .ref (qT 0)]) (st' := [.long ((1 : Int64) <<< ((nI k).toInt64 &&& 63)), .long gv, .ref (qT 0)]) (ws' := (tagW qT kT kinds names seeds ones ofk sz there awake gv mask (bits &&& mask))) (c_X8_setOf l D (nI k)) rfl [] [] rfl (by decide +kernel) rfl rfl (by decide) cf_X6_36 cd_X8_setOf dd_X8_setOf (by decide) (by decide) (by decide) rfl (Nat.le_of_ble_eq_true rfl) dX6_regroup_50 rfl ?_
        refine aw_lor X (pc := 53) (z := gv ||| ((1 : Int64) <<< ((nI k).toInt64 &&& 63))) rfl dX6_regroup_53 ?_
        refine aw_put X (pc := 54) (ws' := (tagW qT kT kinds names seeds ones ofk sz there awake (gv ||| ((1 : Int64) <<< ((nI k).toInt64 &&& 63))) mask (bits &&& mask))) tyX6 tyX6_ok nmX6 iX6 0 8 rfl rfl (by decide) fl_X6_50 rfl (tyX6_ok 8 (by decide)) rfl rfl (Nat.le_of_ble_eq_true rfl) rfl dX6_regroup_54 ?_
        refine aw_iinc X (pc := 57) (kx := 0) (v := nI (k + 1)) (lv' := [(5, .int (nI (k + 1))), (0, .ref (qT 0)), (1, .long mask), (3, .long bits)]) rfl (nn_add (a := k) (b := 1) rfl rfl rfl) (by decide) rfl dX6_regroup_57 ?_
        refine aw_goto X (pc := 60) (tgt := 20) (by decide) dX6_regroup_60 ?_
        have e5 : b_X6_regroup_20 names mask bits k gv = (gv ||| ((1 : Int64) <<< ((nI k).toInt64 &&& 63))) := by simp only [b_X6_regroup_20, if_neg c3]
        exact aw_sub (lv' := [(5, .int (nI (k + 1))), (0, .ref (qT 0)), (1, .long mask), (3, .long bits)]) [0, 1, 2, 3] rfl (ih1 (k + 1) (gv ||| ((1 : Int64) <<< ((nI k).toInt64 &&& 63))) (by omega)  (by rw [← e5]; exact hf1))
  exact aw_sub (lv' := [(5, .int 0), (0, .ref (qT 0)), (1, .long mask), (3, .long bits)]) [0, 1, 2, 3] rfl (L1 n 0 0 (by omega)  rfl)

def r_X6_setThere (there : Int64) (tag : Int32) (wn : Int32) : Int32 := if r_X8_isIn there tag = wn then 0 else 1
def u_X6_setThere_there (there : Int64) (tag : Int32) (wn : Int32) : Int64 := if r_X8_isIn there tag = wn then there else (there ^^^ ((1 : Int64) <<< (tag.toInt64 &&& 63)))
theorem z_X6_setThere (there : Int64) (tag : Int32) (wn : Int32) : r_X6_setThere there tag wn = 0 ∨ r_X6_setThere there tag wn = 1 := by
  unfold r_X6_setThere
  by_cases h0 : r_X8_isIn there tag = wn
  · try rw [if_pos h0]
    exact Or.inl rfl
  · try rw [if_neg h0]
    exact Or.inr rfl
abbrev rm_X6_setThere : Room := { frames := 2, cells := 0, slots := 0, locals := 42 }
set_option maxHeartbeats 400000 in
set_option maxRecDepth 100000 in
theorem c_X6_setThere (l : Launch) (D : va_G) (qT : Nat → Nat) (kT : Nat → ClassId) (kinds : Nat → Int32) (names : Nat → Int64) (seeds : Nat → Int32) (ones : Nat → Int64) (ofk : Nat → Int64) (sz : Int32) (there : Int64) (awake : Int64) (grp : Int64) (gm : Int64) (gb : Int64) (tag : Int32) (wn : Int32)  : MW l D yX6_setThere (Cond.code yX6_setThere cX6_setThere 3 (some .boolean) :: TT) rm_X6_setThere [.ref (qT 0), .int tag, .int wn] [(kT 1, .int), (kT 2, .long), (kT 3, .int), (kT 4, .long), (kT 5, .long)] (tagW qT kT kinds names seeds ones ofk sz there awake grp gm gb) (some (.int (r_X6_setThere there tag wn))) (tagW qT kT kinds names seeds ones ofk sz (u_X6_setThere_there there tag wn) awake grp gm gb) := by
  refine MW.of (cc := cX6_setThere) (nL := 3) (ret := (some .boolean)) (lv := [(0, .ref (qT 0)), (1, .int tag), (2, .int wn)]) (by decide) ((tagW_ad ..).trans (tagW_ad ..).symm) rfl (Nat.le_of_ble_eq_true rfl) ?_
  intro p e s m args below meth c A Q hQ X
  refine aw_aload_n X (pc := 0) 0 rfl rfl dX6_setThere_0 ?_
  refine aw_get X (pc := 1) iX6 0 6 rfl rfl (by decide) fl_X6_40 rfl dX6_setThere_1 ?_
  refine aw_iload_n X (pc := 4) 1 rfl rfl dX6_setThere_4 ?_
  refine aw_callSN X (pc := 5) (rest := []) (st' := [.int (r_X8_isIn there tag)]) (ws' := (tagW qT kT kinds names seeds ones ofk sz there awake grp gm gb)) (c_X8_isIn l D there tag) rfl [] [] rfl (by decide +kernel) rfl rfl (by decide) cf_X6_67 cd_X8_isIn dd_X8_isIn (by decide) (by decide) (by decide) rfl (Nat.le_of_ble_eq_true rfl) dX6_setThere_5 rfl ?_
  refine aw_iload_n X (pc := 8) 2 rfl rfl dX6_setThere_8 ?_
  refine aw_icmp_ne X (pc := 9) (tgt := 14) (by decide) dX6_setThere_9 (fun c1 => ?_) (fun c1 => ?_)
  · refine aw_aload_n X (pc := 14) 0 rfl rfl dX6_setThere_14 ?_
    refine aw_dup X (pc := 15) dX6_setThere_15 rfl ?_
    refine aw_get X (pc := 16) iX6 0 6 rfl rfl (by decide) fl_X6_40 rfl dX6_setThere_16 ?_
    refine aw_iload_n X (pc := 19) 1 rfl rfl dX6_setThere_19 ?_
    refine aw_callSN X (pc := 20) (rest := [.long there, .ref (qT 0)]) (st' := [.long ((1 : Int64) <<< (tag.toInt64 &&& 63)), .long there, .ref (qT 0)]) (ws' := (tagW qT kT kinds names seeds ones ofk sz there awake grp gm gb)) (c_X8_setOf l D tag) rfl [] [] rfl (by decide +kernel) rfl rfl (by decide) cf_X6_36 cd_X8_setOf dd_X8_setOf (by decide) (by decide) (by decide) rfl (Nat.le_of_ble_eq_true rfl) dX6_setThere_20 rfl ?_
    refine aw_lxor X (pc := 23) (z := there ^^^ ((1 : Int64) <<< (tag.toInt64 &&& 63))) rfl dX6_setThere_23 ?_
    refine aw_put X (pc := 24) (ws' := (tagW qT kT kinds names seeds ones ofk sz (there ^^^ ((1 : Int64) <<< (tag.toInt64 &&& 63))) awake grp gm gb)) tyX6 tyX6_ok nmX6 iX6 0 6 rfl rfl (by decide) fl_X6_40 rfl (tyX6_ok 6 (by decide)) rfl rfl (Nat.le_of_ble_eq_true rfl) rfl dX6_setThere_24 ?_
    refine aw_iconst X (pc := 27) (v := 1) dX6_setThere_27 (by decide) ?_
    exact aw_zret X (v := 1) rfl hQ (by simp only [r_X6_setThere, if_neg c1]; try rfl) (by simp only [u_X6_setThere_there, if_neg c1]) dX6_setThere_28
  · refine aw_iconst X (pc := 12) (v := 0) dX6_setThere_12 (by decide) ?_
    exact aw_zret X (v := 0) rfl hQ (by simp only [r_X6_setThere, if_pos c1]; try rfl) (by simp only [u_X6_setThere_there, if_pos c1]) dX6_setThere_13

def r_X6_setAwake (awake : Int64) (tag : Int32) (wn : Int32) : Int32 := if r_X8_isIn awake tag = wn then 0 else 1
def u_X6_setAwake_awake (awake : Int64) (tag : Int32) (wn : Int32) : Int64 := if r_X8_isIn awake tag = wn then awake else (awake ^^^ ((1 : Int64) <<< (tag.toInt64 &&& 63)))
theorem z_X6_setAwake (awake : Int64) (tag : Int32) (wn : Int32) : r_X6_setAwake awake tag wn = 0 ∨ r_X6_setAwake awake tag wn = 1 := by
  unfold r_X6_setAwake
  by_cases h0 : r_X8_isIn awake tag = wn
  · try rw [if_pos h0]
    exact Or.inl rfl
  · try rw [if_neg h0]
    exact Or.inr rfl
abbrev rm_X6_setAwake : Room := { frames := 2, cells := 0, slots := 0, locals := 42 }
set_option maxHeartbeats 400000 in
set_option maxRecDepth 100000 in
theorem c_X6_setAwake (l : Launch) (D : va_G) (qT : Nat → Nat) (kT : Nat → ClassId) (kinds : Nat → Int32) (names : Nat → Int64) (seeds : Nat → Int32) (ones : Nat → Int64) (ofk : Nat → Int64) (sz : Int32) (there : Int64) (awake : Int64) (grp : Int64) (gm : Int64) (gb : Int64) (tag : Int32) (wn : Int32)  : MW l D yX6_setAwake (Cond.code yX6_setAwake cX6_setAwake 3 (some .boolean) :: TT) rm_X6_setAwake [.ref (qT 0), .int tag, .int wn] [(kT 1, .int), (kT 2, .long), (kT 3, .int), (kT 4, .long), (kT 5, .long)] (tagW qT kT kinds names seeds ones ofk sz there awake grp gm gb) (some (.int (r_X6_setAwake awake tag wn))) (tagW qT kT kinds names seeds ones ofk sz there (u_X6_setAwake_awake awake tag wn) grp gm gb) := by
  refine MW.of (cc := cX6_setAwake) (nL := 3) (ret := (some .boolean)) (lv := [(0, .ref (qT 0)), (1, .int tag), (2, .int wn)]) (by decide) ((tagW_ad ..).trans (tagW_ad ..).symm) rfl (Nat.le_of_ble_eq_true rfl) ?_
  intro p e s m args below meth c A Q hQ X
  refine aw_aload_n X (pc := 0) 0 rfl rfl dX6_setAwake_0 ?_
  refine aw_get X (pc := 1) iX6 0 7 rfl rfl (by decide) fl_X6_44 rfl dX6_setAwake_1 ?_
  refine aw_iload_n X (pc := 4) 1 rfl rfl dX6_setAwake_4 ?_
  refine aw_callSN X (pc := 5) (rest := []) (st' := [.int (r_X8_isIn awake tag)]) (ws' := (tagW qT kT kinds names seeds ones ofk sz there awake grp gm gb)) (c_X8_isIn l D awake tag) rfl [] [] rfl (by decide +kernel) rfl rfl (by decide) cf_X6_67 cd_X8_isIn dd_X8_isIn (by decide) (by decide) (by decide) rfl (Nat.le_of_ble_eq_true rfl) dX6_setAwake_5 rfl ?_
  refine aw_iload_n X (pc := 8) 2 rfl rfl dX6_setAwake_8 ?_
  refine aw_icmp_ne X (pc := 9) (tgt := 14) (by decide) dX6_setAwake_9 (fun c1 => ?_) (fun c1 => ?_)
  · refine aw_aload_n X (pc := 14) 0 rfl rfl dX6_setAwake_14 ?_
    refine aw_dup X (pc := 15) dX6_setAwake_15 rfl ?_
    refine aw_get X (pc := 16) iX6 0 7 rfl rfl (by decide) fl_X6_44 rfl dX6_setAwake_16 ?_
    refine aw_iload_n X (pc := 19) 1 rfl rfl dX6_setAwake_19 ?_
    refine aw_callSN X (pc := 20) (rest := [.long awake, .ref (qT 0)]) (st' := [.long ((1 : Int64) <<< (tag.toInt64 &&& 63)), .long awake, .ref (qT 0)]) (ws' := (tagW qT kT kinds names seeds ones ofk sz there awake grp gm gb)) (c_X8_setOf l D tag) rfl [] [] rfl (by decide +kernel) rfl rfl (by decide) cf_X6_36 cd_X8_setOf dd_X8_setOf (by decide) (by decide) (by decide) rfl (Nat.le_of_ble_eq_true rfl) dX6_setAwake_20 rfl ?_
    refine aw_lxor X (pc := 23) (z := awake ^^^ ((1 : Int64) <<< (tag.toInt64 &&& 63))) rfl dX6_setAwake_23 ?_
    refine aw_put X (pc := 24) (ws' := (tagW qT kT kinds names seeds ones ofk sz there (awake ^^^ ((1 : Int64) <<< (tag.toInt64 &&& 63))) grp gm gb)) tyX6 tyX6_ok nmX6 iX6 0 7 rfl rfl (by decide) fl_X6_44 rfl (tyX6_ok 7 (by decide)) rfl rfl (Nat.le_of_ble_eq_true rfl) rfl dX6_setAwake_24 ?_
    refine aw_iconst X (pc := 27) (v := 1) dX6_setAwake_27 (by decide) ?_
    exact aw_zret X (v := 1) rfl hQ (by simp only [r_X6_setAwake, if_neg c1]; try rfl) (by simp only [u_X6_setAwake_awake, if_neg c1]) dX6_setAwake_28
  · refine aw_iconst X (pc := 12) (v := 0) dX6_setAwake_12 (by decide) ?_
    exact aw_zret X (v := 0) rfl hQ (by simp only [r_X6_setAwake, if_pos c1]; try rfl) (by simp only [u_X6_setAwake_awake, if_pos c1]) dX6_setAwake_13

def u_X6_tire_awake (ofk : Nat → Int64) (awake : Int64) (tag : Int32) : Int64 := awake &&& ((((1 : Int64) <<< (tag.toInt64 &&& 63)) &&& (ofk 4)) ^^^ (-1))
abbrev rm_X6_tire : Room := { frames := 1, cells := 0, slots := 0, locals := 20 }
set_option maxHeartbeats 400000 in
set_option maxRecDepth 100000 in
theorem c_X6_tire (l : Launch) (D : va_G) (qT : Nat → Nat) (kT : Nat → ClassId) (kinds : Nat → Int32) (names : Nat → Int64) (seeds : Nat → Int32) (ones : Nat → Int64) (ofk : Nat → Int64) (sz : Int32) (there : Int64) (awake : Int64) (grp : Int64) (gm : Int64) (gb : Int64) (tag : Int32)  : MW l D yX6_tire (Cond.code yX6_tire cX6_tire 2 none :: TT) rm_X6_tire [.ref (qT 0), .int tag] [(kT 1, .int), (kT 2, .long), (kT 3, .int), (kT 4, .long), (kT 5, .long)] (tagW qT kT kinds names seeds ones ofk sz there awake grp gm gb) none (tagW qT kT kinds names seeds ones ofk sz there (u_X6_tire_awake ofk awake tag) grp gm gb) := by
  refine MW.of (cc := cX6_tire) (nL := 2) (ret := none) (lv := [(0, .ref (qT 0)), (1, .int tag)]) (by decide) ((tagW_ad ..).trans (tagW_ad ..).symm) rfl (Nat.le_of_ble_eq_true rfl) ?_
  intro p e s m args below meth c A Q hQ X
  refine aw_aload_n X (pc := 0) 0 rfl rfl dX6_tire_0 ?_
  refine aw_dup X (pc := 1) dX6_tire_1 rfl ?_
  refine aw_get X (pc := 2) iX6 0 7 rfl rfl (by decide) fl_X6_44 rfl dX6_tire_2 ?_
  refine aw_iload_n X (pc := 5) 1 rfl rfl dX6_tire_5 ?_
  refine aw_callSN X (pc := 6) (rest := [.long awake, .ref (qT 0)]) (st' := [.long ((1 : Int64) <<< (tag.toInt64 &&& 63)), .long awake, .ref (qT 0)]) (ws' := (tagW qT kT kinds names seeds ones ofk sz there awake grp gm gb)) (c_X8_setOf l D tag) rfl [] [] rfl (by decide +kernel) rfl rfl (by decide) cf_X6_36 cd_X8_setOf dd_X8_setOf (by decide) (by decide) (by decide) rfl (Nat.le_of_ble_eq_true rfl) dX6_tire_6 rfl ?_
  refine aw_aload_n X (pc := 9) 0 rfl rfl dX6_tire_9 ?_
  refine aw_get X (pc := 10) iX6 0 4 rfl rfl (by decide) fl_X6_25 rfl dX6_tire_10 ?_
  refine aw_iconst X (pc := 13) (v := 4) dX6_tire_13 (by decide) ?_
  refine aw_lald X (pc := 14) 5 4 4 rfl rfl rfl (by decide) (by omega) dX6_tire_14 ?_
  refine aw_land X (pc := 15) (z := ((1 : Int64) <<< (tag.toInt64 &&& 63)) &&& (ofk 4)) rfl dX6_tire_15 ?_
  refine aw_ldc2 X (pc := 16) ld_X6_70 dX6_tire_16 ?_
  refine aw_lxor X (pc := 19) (z := (((1 : Int64) <<< (tag.toInt64 &&& 63)) &&& (ofk 4)) ^^^ (-1)) rfl dX6_tire_19 ?_
  refine aw_land X (pc := 20) (z := awake &&& ((((1 : Int64) <<< (tag.toInt64 &&& 63)) &&& (ofk 4)) ^^^ (-1))) rfl dX6_tire_20 ?_
  refine aw_put X (pc := 21) (ws' := (tagW qT kT kinds names seeds ones ofk sz there (awake &&& ((((1 : Int64) <<< (tag.toInt64 &&& 63)) &&& (ofk 4)) ^^^ (-1))) grp gm gb)) tyX6 tyX6_ok nmX6 iX6 0 7 rfl rfl (by decide) fl_X6_44 rfl (tyX6_ok 7 (by decide)) rfl rfl (Nat.le_of_ble_eq_true rfl) rfl dX6_tire_21 ?_
  exact aw_vret X hQ rfl rfl dX6_tire_24

abbrev rm_X6_listening : Room := { frames := 0, cells := 0, slots := 0, locals := 0 }
set_option maxHeartbeats 400000 in
set_option maxRecDepth 100000 in
theorem c_X6_listening (l : Launch) (D : va_G) (qT : Nat → Nat) (kT : Nat → ClassId) (kinds : Nat → Int32) (names : Nat → Int64) (seeds : Nat → Int32) (ones : Nat → Int64) (ofk : Nat → Int64) (sz : Int32) (there : Int64) (awake : Int64) (grp : Int64) (gm : Int64) (gb : Int64)  : MW l D yX6_listening (Cond.code yX6_listening cX6_listening 1 (some .long) :: TT) rm_X6_listening [.ref (qT 0)] [(kT 1, .int), (kT 2, .long), (kT 3, .int), (kT 4, .long), (kT 5, .long)] (tagW qT kT kinds names seeds ones ofk sz there awake grp gm gb) (some (.long ((there &&& awake) &&& grp))) (tagW qT kT kinds names seeds ones ofk sz there awake grp gm gb) := by
  refine MW.of (cc := cX6_listening) (nL := 1) (ret := (some .long)) (lv := [(0, .ref (qT 0))]) (by decide) rfl rfl (Nat.le_of_ble_eq_true rfl) ?_
  intro p e s m args below meth c A Q hQ X
  refine aw_aload_n X (pc := 0) 0 rfl rfl dX6_listening_0 ?_
  refine aw_get X (pc := 1) iX6 0 6 rfl rfl (by decide) fl_X6_40 rfl dX6_listening_1 ?_
  refine aw_aload_n X (pc := 4) 0 rfl rfl dX6_listening_4 ?_
  refine aw_get X (pc := 5) iX6 0 7 rfl rfl (by decide) fl_X6_44 rfl dX6_listening_5 ?_
  refine aw_land X (pc := 8) (z := there &&& awake) rfl dX6_listening_8 ?_
  refine aw_aload_n X (pc := 9) 0 rfl rfl dX6_listening_9 ?_
  refine aw_get X (pc := 10) iX6 0 8 rfl rfl (by decide) fl_X6_50 rfl dX6_listening_10 ?_
  refine aw_land X (pc := 13) (z := (there &&& awake) &&& grp) rfl dX6_listening_13 ?_
  exact aw_lret X (v := (there &&& awake) &&& grp) hQ rfl rfl dX6_listening_14

def r_X6_asked (ofk : Nat → Int64) (there : Int64) (awake : Int64) (grp : Int64) : Int64 := ((there &&& awake) &&& grp) &&& ((ofk 0) ^^^ (-1))
abbrev rm_X6_asked : Room := { frames := 1, cells := 0, slots := 0, locals := 20 }
set_option maxHeartbeats 400000 in
set_option maxRecDepth 100000 in
theorem c_X6_asked (l : Launch) (D : va_G) (qT : Nat → Nat) (kT : Nat → ClassId) (kinds : Nat → Int32) (names : Nat → Int64) (seeds : Nat → Int32) (ones : Nat → Int64) (ofk : Nat → Int64) (sz : Int32) (there : Int64) (awake : Int64) (grp : Int64) (gm : Int64) (gb : Int64)  : MW l D yX6_asked (Cond.code yX6_asked cX6_asked 1 (some .long) :: TT) rm_X6_asked [.ref (qT 0)] [(kT 1, .int), (kT 2, .long), (kT 3, .int), (kT 4, .long), (kT 5, .long)] (tagW qT kT kinds names seeds ones ofk sz there awake grp gm gb) (some (.long (r_X6_asked ofk there awake grp))) (tagW qT kT kinds names seeds ones ofk sz there awake grp gm gb) := by
  refine MW.of (cc := cX6_asked) (nL := 1) (ret := (some .long)) (lv := [(0, .ref (qT 0))]) (by decide) rfl rfl (Nat.le_of_ble_eq_true rfl) ?_
  intro p e s m args below meth c A Q hQ X
  refine aw_aload_n X (pc := 0) 0 rfl rfl dX6_asked_0 ?_
  refine aw_callVF X (pc := 1) (q1 := 0) (rest := []) (st' := [.long ((there &&& awake) &&& grp)]) (c_X6_listening l D qT kT kinds names seeds ones ofk sz there awake grp gm gb) rfl rfl ⟨_, _, rfl⟩ rfl cf_X6_72 cd_X6_listening dd_X6_listening (by decide) (by decide) (by decide) rfl (Nat.le_of_ble_eq_true rfl) dX6_asked_1 rfl ?_
  refine aw_aload_n X (pc := 4) 0 rfl rfl dX6_asked_4 ?_
  refine aw_get X (pc := 5) iX6 0 4 rfl rfl (by decide) fl_X6_25 rfl dX6_asked_5 ?_
  refine aw_iconst X (pc := 8) (v := 0) dX6_asked_8 (by decide) ?_
  refine aw_lald X (pc := 9) 5 4 0 rfl rfl rfl (by decide) (by omega) dX6_asked_9 ?_
  refine aw_ldc2 X (pc := 10) ld_X6_70 dX6_asked_10 ?_
  refine aw_lxor X (pc := 13) (z := (ofk 0) ^^^ (-1)) rfl dX6_asked_13 ?_
  refine aw_land X (pc := 14) (z := ((there &&& awake) &&& grp) &&& ((ofk 0) ^^^ (-1))) rfl dX6_asked_14 ?_
  exact aw_lret X (v := ((there &&& awake) &&& grp) &&& ((ofk 0) ^^^ (-1))) hQ rfl rfl dX6_asked_15

def r_X6_slotted (ofk : Nat → Int64) (there : Int64) (awake : Int64) (grp : Int64) : Int64 := ((there &&& awake) &&& grp) &&& ((((ofk 2) ||| (ofk 3)) ||| (ofk 4)) ||| (ofk 5))
abbrev rm_X6_slotted : Room := { frames := 1, cells := 0, slots := 0, locals := 20 }
set_option maxHeartbeats 400000 in
set_option maxRecDepth 100000 in
theorem c_X6_slotted (l : Launch) (D : va_G) (qT : Nat → Nat) (kT : Nat → ClassId) (kinds : Nat → Int32) (names : Nat → Int64) (seeds : Nat → Int32) (ones : Nat → Int64) (ofk : Nat → Int64) (sz : Int32) (there : Int64) (awake : Int64) (grp : Int64) (gm : Int64) (gb : Int64)  : MW l D yX6_slotted (Cond.code yX6_slotted cX6_slotted 1 (some .long) :: TT) rm_X6_slotted [.ref (qT 0)] [(kT 1, .int), (kT 2, .long), (kT 3, .int), (kT 4, .long), (kT 5, .long)] (tagW qT kT kinds names seeds ones ofk sz there awake grp gm gb) (some (.long (r_X6_slotted ofk there awake grp))) (tagW qT kT kinds names seeds ones ofk sz there awake grp gm gb) := by
  refine MW.of (cc := cX6_slotted) (nL := 1) (ret := (some .long)) (lv := [(0, .ref (qT 0))]) (by decide) rfl rfl (Nat.le_of_ble_eq_true rfl) ?_
  intro p e s m args below meth c A Q hQ X
  refine aw_aload_n X (pc := 0) 0 rfl rfl dX6_slotted_0 ?_
  refine aw_callVF X (pc := 1) (q1 := 0) (rest := []) (st' := [.long ((there &&& awake) &&& grp)]) (c_X6_listening l D qT kT kinds names seeds ones ofk sz there awake grp gm gb) rfl rfl ⟨_, _, rfl⟩ rfl cf_X6_72 cd_X6_listening dd_X6_listening (by decide) (by decide) (by decide) rfl (Nat.le_of_ble_eq_true rfl) dX6_slotted_1 rfl ?_
  refine aw_aload_n X (pc := 4) 0 rfl rfl dX6_slotted_4 ?_
  refine aw_get X (pc := 5) iX6 0 4 rfl rfl (by decide) fl_X6_25 rfl dX6_slotted_5 ?_
  refine aw_iconst X (pc := 8) (v := 2) dX6_slotted_8 (by decide) ?_
  refine aw_lald X (pc := 9) 5 4 2 rfl rfl rfl (by decide) (by omega) dX6_slotted_9 ?_
  refine aw_aload_n X (pc := 10) 0 rfl rfl dX6_slotted_10 ?_
  refine aw_get X (pc := 11) iX6 0 4 rfl rfl (by decide) fl_X6_25 rfl dX6_slotted_11 ?_
  refine aw_iconst X (pc := 14) (v := 3) dX6_slotted_14 (by decide) ?_
  refine aw_lald X (pc := 15) 5 4 3 rfl rfl rfl (by decide) (by omega) dX6_slotted_15 ?_
  refine aw_lor X (pc := 16) (z := (ofk 2) ||| (ofk 3)) rfl dX6_slotted_16 ?_
  refine aw_aload_n X (pc := 17) 0 rfl rfl dX6_slotted_17 ?_
  refine aw_get X (pc := 18) iX6 0 4 rfl rfl (by decide) fl_X6_25 rfl dX6_slotted_18 ?_
  refine aw_iconst X (pc := 21) (v := 4) dX6_slotted_21 (by decide) ?_
  refine aw_lald X (pc := 22) 5 4 4 rfl rfl rfl (by decide) (by omega) dX6_slotted_22 ?_
  refine aw_lor X (pc := 23) (z := ((ofk 2) ||| (ofk 3)) ||| (ofk 4)) rfl dX6_slotted_23 ?_
  refine aw_aload_n X (pc := 24) 0 rfl rfl dX6_slotted_24 ?_
  refine aw_get X (pc := 25) iX6 0 4 rfl rfl (by decide) fl_X6_25 rfl dX6_slotted_25 ?_
  refine aw_iconst X (pc := 28) (v := 5) dX6_slotted_28 (by decide) ?_
  refine aw_lald X (pc := 29) 5 4 5 rfl rfl rfl (by decide) (by omega) dX6_slotted_29 ?_
  refine aw_lor X (pc := 30) (z := (((ofk 2) ||| (ofk 3)) ||| (ofk 4)) ||| (ofk 5)) rfl dX6_slotted_30 ?_
  refine aw_land X (pc := 31) (z := ((there &&& awake) &&& grp) &&& ((((ofk 2) ||| (ofk 3)) ||| (ofk 4)) ||| (ofk 5))) rfl dX6_slotted_31 ?_
  exact aw_lret X (v := ((there &&& awake) &&& grp) &&& ((((ofk 2) ||| (ofk 3)) ||| (ofk 4)) ||| (ofk 5))) hQ rfl rfl dX6_slotted_32

def r_X6_splitting (ofk : Nat → Int64) (there : Int64) (awake : Int64) (grp : Int64) : Int64 := ((there &&& awake) &&& grp) &&& ((ofk 3) ||| (ofk 4))
abbrev rm_X6_splitting : Room := { frames := 1, cells := 0, slots := 0, locals := 20 }
set_option maxHeartbeats 400000 in
set_option maxRecDepth 100000 in
theorem c_X6_splitting (l : Launch) (D : va_G) (qT : Nat → Nat) (kT : Nat → ClassId) (kinds : Nat → Int32) (names : Nat → Int64) (seeds : Nat → Int32) (ones : Nat → Int64) (ofk : Nat → Int64) (sz : Int32) (there : Int64) (awake : Int64) (grp : Int64) (gm : Int64) (gb : Int64)  : MW l D yX6_splitting (Cond.code yX6_splitting cX6_splitting 1 (some .long) :: TT) rm_X6_splitting [.ref (qT 0)] [(kT 1, .int), (kT 2, .long), (kT 3, .int), (kT 4, .long), (kT 5, .long)] (tagW qT kT kinds names seeds ones ofk sz there awake grp gm gb) (some (.long (r_X6_splitting ofk there awake grp))) (tagW qT kT kinds names seeds ones ofk sz there awake grp gm gb) := by
  refine MW.of (cc := cX6_splitting) (nL := 1) (ret := (some .long)) (lv := [(0, .ref (qT 0))]) (by decide) rfl rfl (Nat.le_of_ble_eq_true rfl) ?_
  intro p e s m args below meth c A Q hQ X
  refine aw_aload_n X (pc := 0) 0 rfl rfl dX6_splitting_0 ?_
  refine aw_callVF X (pc := 1) (q1 := 0) (rest := []) (st' := [.long ((there &&& awake) &&& grp)]) (c_X6_listening l D qT kT kinds names seeds ones ofk sz there awake grp gm gb) rfl rfl ⟨_, _, rfl⟩ rfl cf_X6_72 cd_X6_listening dd_X6_listening (by decide) (by decide) (by decide) rfl (Nat.le_of_ble_eq_true rfl) dX6_splitting_1 rfl ?_
  refine aw_aload_n X (pc := 4) 0 rfl rfl dX6_splitting_4 ?_
  refine aw_get X (pc := 5) iX6 0 4 rfl rfl (by decide) fl_X6_25 rfl dX6_splitting_5 ?_
  refine aw_iconst X (pc := 8) (v := 3) dX6_splitting_8 (by decide) ?_
  refine aw_lald X (pc := 9) 5 4 3 rfl rfl rfl (by decide) (by omega) dX6_splitting_9 ?_
  refine aw_aload_n X (pc := 10) 0 rfl rfl dX6_splitting_10 ?_
  refine aw_get X (pc := 11) iX6 0 4 rfl rfl (by decide) fl_X6_25 rfl dX6_splitting_11 ?_
  refine aw_iconst X (pc := 14) (v := 4) dX6_splitting_14 (by decide) ?_
  refine aw_lald X (pc := 15) 5 4 4 rfl rfl rfl (by decide) (by omega) dX6_splitting_15 ?_
  refine aw_lor X (pc := 16) (z := (ofk 3) ||| (ofk 4)) rfl dX6_splitting_16 ?_
  refine aw_land X (pc := 17) (z := ((there &&& awake) &&& grp) &&& ((ofk 3) ||| (ofk 4))) rfl dX6_splitting_17 ?_
  exact aw_lret X (v := ((there &&& awake) &&& grp) &&& ((ofk 3) ||| (ofk 4))) hQ rfl rfl dX6_splitting_18

def r_X6_tellingOne (ones : Nat → Int64) (set : Int64) (bit : Int32) : Int64 := if bit < 0 then 0 else (if 64 ≤ bit then 0 else (set &&& (ones bit.toNatClampNeg)))
abbrev rm_X6_tellingOne : Room := { frames := 0, cells := 0, slots := 0, locals := 0 }
set_option maxHeartbeats 400000 in
set_option maxRecDepth 100000 in
theorem c_X6_tellingOne (l : Launch) (D : va_G) (qT : Nat → Nat) (kT : Nat → ClassId) (kinds : Nat → Int32) (names : Nat → Int64) (seeds : Nat → Int32) (ones : Nat → Int64) (ofk : Nat → Int64) (sz : Int32) (there : Int64) (awake : Int64) (grp : Int64) (gm : Int64) (gb : Int64) (set : Int64) (bit : Int32)  : MW l D yX6_tellingOne (Cond.code yX6_tellingOne cX6_tellingOne 4 (some .long) :: TT) rm_X6_tellingOne [.ref (qT 0), .long set, .int bit] [(kT 1, .int), (kT 2, .long), (kT 3, .int), (kT 4, .long), (kT 5, .long)] (tagW qT kT kinds names seeds ones ofk sz there awake grp gm gb) (some (.long (r_X6_tellingOne ones set bit))) (tagW qT kT kinds names seeds ones ofk sz there awake grp gm gb) := by
  refine MW.of (cc := cX6_tellingOne) (nL := 4) (ret := (some .long)) (lv := [(0, .ref (qT 0)), (1, .long set), (3, .int bit)]) (by decide) rfl rfl (Nat.le_of_ble_eq_true rfl) ?_
  intro p e s m args below meth c A Q hQ X
  refine aw_iload_n X (pc := 0) 2 rfl rfl dX6_tellingOne_0 ?_
  refine aw_if_lt X (pc := 1) (tgt := 21) (by decide) dX6_tellingOne_1 (fun c1 => ?_) (fun c1 => ?_)
  · refine aw_lconst X (pc := 21) (v := 0) dX6_tellingOne_21 (by decide) ?_
    exact aw_lret X (v := 0) hQ (by simp only [r_X6_tellingOne, if_pos c1]; try rfl) rfl dX6_tellingOne_22
  · refine aw_iload_n X (pc := 4) 2 rfl rfl dX6_tellingOne_4 ?_
    refine aw_bipush X (pc := 5) (v := 64) dX6_tellingOne_5 (by decide) ?_
    refine aw_icmp_ge X (pc := 7) (tgt := 21) (by decide) dX6_tellingOne_7 (fun c2 => ?_) (fun c2 => ?_)
    · refine aw_lconst X (pc := 21) (v := 0) dX6_tellingOne_21 (by decide) ?_
      exact aw_lret X (v := 0) hQ (by simp only [r_X6_tellingOne, if_neg c1, if_pos c2]; try rfl) rfl dX6_tellingOne_22
    · obtain ⟨ht3, hu4⟩ := rng_nat (N := 64) rfl (by decide) c1 c2
      refine aw_lload_n X (pc := 10) 1 rfl rfl dX6_tellingOne_10 ?_
      refine aw_aload_n X (pc := 11) 0 rfl rfl dX6_tellingOne_11 ?_
      refine aw_get X (pc := 12) iX6 0 3 rfl rfl (by decide) fl_X6_22 rfl dX6_tellingOne_12 ?_
      refine aw_iload_n X (pc := 15) 2 rfl rfl dX6_tellingOne_15 ?_
      refine aw_lald X (pc := 16) 4 3 bit.toNatClampNeg ht3 rfl rfl (by decide) (by omega) dX6_tellingOne_16 ?_
      refine aw_land X (pc := 17) (z := set &&& (ones bit.toNatClampNeg)) rfl dX6_tellingOne_17 ?_
      refine aw_goto X (pc := 18) (tgt := 22) (by decide) dX6_tellingOne_18 ?_
      exact aw_lret X (v := set &&& (ones bit.toNatClampNeg)) hQ (by simp only [r_X6_tellingOne, if_neg c1, if_neg c2]; try rfl) rfl dX6_tellingOne_22

def b_X6_beginningWith_9 (ones : Nat → Int64) (bits : Int64) (k : Nat) (σ : Int64) : Int64 := if r_X8_isOneAt bits (nI k) = 0 then (σ &&& ((r_X6_tellingOne ones σ (nI k)) ^^^ (-1))) else (r_X6_tellingOne ones σ (nI k))
def g_X6_beginningWith_9  (k : Nat) (σ : Int64) : Bool := !decide (lg_cmp σ 0 = 0)
def r_X6_beginningWith (ones : Nat → Int64) (ofk : Nat → Int64) (there : Int64) (awake : Int64) (grp : Int64) (bits : Int64) (mm : Nat) : Int64 := ((lpW (g_X6_beginningWith_9) (b_X6_beginningWith_9 ones bits) mm 0 (r_X6_asked ofk there awake grp)).2)
abbrev rm_X6_beginningWith : Room := { frames := 2, cells := 0, slots := 0, locals := 40 }
set_option maxHeartbeats 400000 in
set_option maxRecDepth 100000 in
theorem c_X6_beginningWith (l : Launch) (D : va_G) (qT : Nat → Nat) (kT : Nat → ClassId) (kinds : Nat → Int32) (names : Nat → Int64) (seeds : Nat → Int32) (ones : Nat → Int64) (ofk : Nat → Int64) (sz : Int32) (there : Int64) (awake : Int64) (grp : Int64) (gm : Int64) (gb : Int64) (bits : Int64) (m_ : Int32) (mm : Nat) (hm_ : m_ = nI mm) (hmm : mm ≤ 64) : MW l D yX6_beginningWith (Cond.code yX6_beginningWith cX6_beginningWith 9 (some .long) :: TT) rm_X6_beginningWith [.ref (qT 0), .long bits, .int m_] [(kT 1, .int), (kT 2, .long), (kT 3, .int), (kT 4, .long), (kT 5, .long)] (tagW qT kT kinds names seeds ones ofk sz there awake grp gm gb) (some (.long (r_X6_beginningWith ones ofk there awake grp bits mm))) (tagW qT kT kinds names seeds ones ofk sz there awake grp gm gb) := by
  refine MW.of (cc := cX6_beginningWith) (nL := 9) (ret := (some .long)) (lv := [(0, .ref (qT 0)), (1, .long bits), (3, .int m_)]) (by decide) rfl rfl (Nat.le_of_ble_eq_true rfl) ?_
  intro p e s m args below meth c A Q hQ X
  refine aw_aload_n X (pc := 0) 0 rfl rfl dX6_beginningWith_0 ?_
  refine aw_callVF X (pc := 1) (q1 := 0) (rest := []) (st' := [.long (r_X6_asked ofk there awake grp)]) (c_X6_asked l D qT kT kinds names seeds ones ofk sz there awake grp gm gb) rfl rfl ⟨_, _, rfl⟩ rfl cf_X6_76 cd_X6_asked dd_X6_asked (by decide) (by decide) (by decide) rfl (Nat.le_of_ble_eq_true rfl) dX6_beginningWith_1 rfl ?_
  refine aw_lstore X (pc := 4) (lv' := [(4, .long (r_X6_asked ofk there awake grp)), (0, .ref (qT 0)), (1, .long bits), (3, .int m_)]) (by decide) rfl dX6_beginningWith_4 ?_
  refine aw_iconst X (pc := 6) (v := 0) dX6_beginningWith_6 (by decide) ?_
  refine aw_istore X (pc := 7) (lv' := [(6, .int 0), (4, .long (r_X6_asked ofk there awake grp)), (0, .ref (qT 0)), (1, .long bits), (3, .int m_)]) (by decide) rfl dX6_beginningWith_7 ?_
  have hx1 : ∀ (k : Nat) (spk : Int64), k ≤ mm → (k, spk) = lpW (g_X6_beginningWith_9) (b_X6_beginningWith_9 ones bits) mm 0 (r_X6_asked ofk there awake grp) → AW p l e rm_X6_beginningWith s m args below meth c D A 9 0 0 Q 63 [(6, .int (nI k)), (4, .long spk), (0, .ref (qT 0)), (1, .long bits), (3, .int m_)] [] (tagW qT kT kinds names seeds ones ofk sz there awake grp gm gb) := by
    intro k spk hk1  hf1
    refine aw_lload X (pc := 63) 1 rfl dX6_beginningWith_63 ?_
    exact aw_lret X (v := spk) hQ (by simp only [r_X6_beginningWith, ← hf1]; try rfl) rfl dX6_beginningWith_65
  have L1 : ∀ (n1 k : Nat) (spk : Int64), k + n1 = mm → lpW (g_X6_beginningWith_9) (b_X6_beginningWith_9 ones bits) n1 k spk = lpW (g_X6_beginningWith_9) (b_X6_beginningWith_9 ones bits) mm 0 (r_X6_asked ofk there awake grp) → AW p l e rm_X6_beginningWith s m args below meth c D A 9 0 0 Q 9 [(6, .int (nI k)), (4, .long spk), (0, .ref (qT 0)), (1, .long bits), (3, .int m_)] [] (tagW qT kT kinds names seeds ones ofk sz there awake grp gm gb) := by
    intro n1; induction n1 with
    | zero =>
      intro k spk hk1  hf1
      refine aw_iload X (pc := 9) 0 rfl dX6_beginningWith_9 ?_
      refine aw_iload_n X (pc := 11) 4 rfl rfl dX6_beginningWith_11 ?_
      refine aw_icmp_ge X (pc := 12) (tgt := 63) (by decide) dX6_beginningWith_12 (fun c7 => ?_) (fun c7 => absurd (nn_le (a := mm) (b := k) hm_ rfl (by omega) (by omega)) c7)
      exact aw_sub (lv' := [(6, .int (nI k)), (4, .long spk), (0, .ref (qT 0)), (1, .long bits), (3, .int m_)]) [0, 1, 2, 3, 4] rfl (hx1 k spk (by omega)  hf1)
    | succ n1 ih1 =>
      intro k spk hk1  hf1
      refine aw_iload X (pc := 9) 0 rfl dX6_beginningWith_9 ?_
      refine aw_iload_n X (pc := 11) 4 rfl rfl dX6_beginningWith_11 ?_
      refine aw_icmp_ge X (pc := 12) (tgt := 63) (by decide) dX6_beginningWith_12 (fun c2 => absurd c2 (nn_nle (a := mm) (b := k) hm_ rfl (by omega) (by omega))) (fun c2 => ?_)
      refine aw_lload X (pc := 15) 1 rfl dX6_beginningWith_15 ?_
      refine aw_lconst X (pc := 17) (v := 0) dX6_beginningWith_17 (by decide) ?_
      refine aw_lcmp X (pc := 18) dX6_beginningWith_18 ?_
      refine aw_if_eq X (pc := 19) (tgt := 63) (by decide) dX6_beginningWith_19 (fun c3 => ?_) (fun c3 => ?_)
      · exact aw_sub (lv' := [(6, .int (nI k)), (4, .long spk), (0, .ref (qT 0)), (1, .long bits), (3, .int m_)]) [0, 1, 2, 3, 4] rfl (hx1 k spk (by omega)  (by rw [← lpW_stop (go := g_X6_beginningWith_9) (body := b_X6_beginningWith_9 ones bits) (n := n1) (k := k) (s := spk) (by simp [g_X6_beginningWith_9, c3])]; exact hf1))
      · refine aw_aload_n X (pc := 22) 2 rfl rfl dX6_beginningWith_22 ?_
        refine aw_lload X (pc := 23) 1 rfl dX6_beginningWith_23 ?_
        refine aw_iload X (pc := 25) 0 rfl dX6_beginningWith_25 ?_
        refine aw_callVF X (pc := 27) (q1 := 0) (rest := []) (st' := [.long (r_X6_tellingOne ones spk (nI k))]) (c_X6_tellingOne l D qT kT kinds names seeds ones ofk sz there awake grp gm gb spk (nI k)) rfl rfl ⟨_, _, rfl⟩ rfl cf_X6_79 cd_X6_tellingOne dd_X6_tellingOne (by decide) (by decide) (by decide) rfl (Nat.le_of_ble_eq_true rfl) dX6_beginningWith_27 rfl ?_
        refine aw_lstore X (pc := 30) (lv' := [(7, .long (r_X6_tellingOne ones spk (nI k))), (6, .int (nI k)), (4, .long spk), (0, .ref (qT 0)), (1, .long bits), (3, .int m_)]) (by decide) rfl dX6_beginningWith_30 ?_
        refine aw_lload_n X (pc := 32) 4 rfl rfl dX6_beginningWith_32 ?_
        refine aw_iload X (pc := 33) 1 rfl dX6_beginningWith_33 ?_
        refine aw_callSN X (pc := 35) (rest := []) (st' := [.int (r_X8_isOneAt bits (nI k))]) (ws' := (tagW qT kT kinds names seeds ones ofk sz there awake grp gm gb)) (c_X8_isOneAt l D bits (nI k)) rfl [] [] rfl (by decide +kernel) rfl rfl (by decide) cf_X6_57 cd_X8_isOneAt dd_X8_isOneAt (by decide) (by decide) (by decide) rfl (Nat.le_of_ble_eq_true rfl) dX6_beginningWith_35 rfl ?_
        refine aw_if_eq X (pc := 38) (tgt := 46) (by decide) dX6_beginningWith_38 (fun c4 => ?_) (fun c4 => ?_)
        · refine aw_lload X (pc := 46) 2 rfl dX6_beginningWith_46 ?_
          refine aw_lload X (pc := 48) 0 rfl dX6_beginningWith_48 ?_
          refine aw_ldc2 X (pc := 50) ld_X6_70 dX6_beginningWith_50 ?_
          refine aw_lxor X (pc := 53) (z := (r_X6_tellingOne ones spk (nI k)) ^^^ (-1)) rfl dX6_beginningWith_53 ?_
          refine aw_land X (pc := 54) (z := spk &&& ((r_X6_tellingOne ones spk (nI k)) ^^^ (-1))) rfl dX6_beginningWith_54 ?_
          refine aw_lstore X (pc := 55) (lv' := [(4, .long (spk &&& ((r_X6_tellingOne ones spk (nI k)) ^^^ (-1)))), (7, .long (r_X6_tellingOne ones spk (nI k))), (6, .int (nI k)), (0, .ref (qT 0)), (1, .long bits), (3, .int m_)]) (by decide) rfl dX6_beginningWith_55 ?_
          refine aw_iinc X (pc := 57) (kx := 2) (v := nI (k + 1)) (lv' := [(6, .int (nI (k + 1))), (4, .long (spk &&& ((r_X6_tellingOne ones spk (nI k)) ^^^ (-1)))), (7, .long (r_X6_tellingOne ones spk (nI k))), (0, .ref (qT 0)), (1, .long bits), (3, .int m_)]) rfl (nn_add (a := k) (b := 1) rfl rfl rfl) (by decide) rfl dX6_beginningWith_57 ?_
          refine aw_goto X (pc := 60) (tgt := 9) (by decide) dX6_beginningWith_60 ?_
          have e5 : b_X6_beginningWith_9 ones bits k spk = (spk &&& ((r_X6_tellingOne ones spk (nI k)) ^^^ (-1))) := by simp only [b_X6_beginningWith_9, if_pos c4]
          exact aw_sub (lv' := [(6, .int (nI (k + 1))), (4, .long (spk &&& ((r_X6_tellingOne ones spk (nI k)) ^^^ (-1)))), (0, .ref (qT 0)), (1, .long bits), (3, .int m_)]) [0, 1, 3, 4, 5] rfl (ih1 (k + 1) (spk &&& ((r_X6_tellingOne ones spk (nI k)) ^^^ (-1))) (by omega)  (by rw [← e5, ← lpW_go (go := g_X6_beginningWith_9) (body := b_X6_beginningWith_9 ones bits) (n := n1) (k := k) (s := spk) (by simp [g_X6_beginningWith_9, c3])]; exact hf1))
        · refine aw_lload X (pc := 41) 0 rfl dX6_beginningWith_41 ?_
          refine aw_goto X (pc := 43) (tgt := 55) (by decide) dX6_beginningWith_43 ?_
          refine aw_lstore X (pc := 55) (lv' := [(4, .long (r_X6_tellingOne ones spk (nI k))), (7, .long (r_X6_tellingOne ones spk (nI k))), (6, .int (nI k)), (0, .ref (qT 0)), (1, .long bits), (3, .int m_)]) (by decide) rfl dX6_beginningWith_55 ?_
          refine aw_iinc X (pc := 57) (kx := 2) (v := nI (k + 1)) (lv' := [(6, .int (nI (k + 1))), (4, .long (r_X6_tellingOne ones spk (nI k))), (7, .long (r_X6_tellingOne ones spk (nI k))), (0, .ref (qT 0)), (1, .long bits), (3, .int m_)]) rfl (nn_add (a := k) (b := 1) rfl rfl rfl) (by decide) rfl dX6_beginningWith_57 ?_
          refine aw_goto X (pc := 60) (tgt := 9) (by decide) dX6_beginningWith_60 ?_
          have e6 : b_X6_beginningWith_9 ones bits k spk = (r_X6_tellingOne ones spk (nI k)) := by simp only [b_X6_beginningWith_9, if_neg c4]
          exact aw_sub (lv' := [(6, .int (nI (k + 1))), (4, .long (r_X6_tellingOne ones spk (nI k))), (0, .ref (qT 0)), (1, .long bits), (3, .int m_)]) [0, 1, 3, 4, 5] rfl (ih1 (k + 1) (r_X6_tellingOne ones spk (nI k)) (by omega)  (by rw [← e6, ← lpW_go (go := g_X6_beginningWith_9) (body := b_X6_beginningWith_9 ones bits) (n := n1) (k := k) (s := spk) (by simp [g_X6_beginningWith_9, c3])]; exact hf1))
  exact aw_sub (lv' := [(6, .int 0), (4, .long (r_X6_asked ofk there awake grp)), (0, .ref (qT 0)), (1, .long bits), (3, .int m_)]) [0, 1, 2, 3, 4] rfl (L1 mm 0 (r_X6_asked ofk there awake grp) (by omega)  rfl)

def r_X6_draw (seeds : Nat → Int32) (sz : Int32) (tag : Int32) (bel : Int32) : Int32 := if r_X6_has sz tag = 0 then 0 else (if 1 ≤ bel then (((((upd seeds tag.toNatClampNeg ((1103515245 * (seeds tag.toNatClampNeg)) + 12345)) tag.toNatClampNeg).toUInt32 >>> (Int32.toUInt32 16 &&& Int32.toUInt32 31)).toInt32) - ((((upd seeds tag.toNatClampNeg ((1103515245 * (seeds tag.toNatClampNeg)) + 12345)) tag.toNatClampNeg).toUInt32 >>> (Int32.toUInt32 16 &&& Int32.toUInt32 31)).toInt32) / bel * bel) else 0)
def u_X6_draw_seeds (seeds : Nat → Int32) (sz : Int32) (tag : Int32) (bel : Int32) : Nat → Int32 := if r_X6_has sz tag = 0 then seeds else (if 1 ≤ bel then (upd seeds tag.toNatClampNeg ((1103515245 * (seeds tag.toNatClampNeg)) + 12345)) else seeds)
abbrev rm_X6_draw : Room := { frames := 1, cells := 0, slots := 0, locals := 21 }
set_option maxHeartbeats 400000 in
set_option maxRecDepth 100000 in
theorem c_X6_draw (l : Launch) (D : va_G) (qT : Nat → Nat) (kT : Nat → ClassId) (kinds : Nat → Int32) (names : Nat → Int64) (seeds : Nat → Int32) (ones : Nat → Int64) (ofk : Nat → Int64) (sz : Int32) (there : Int64) (awake : Int64) (grp : Int64) (gm : Int64) (gb : Int64) (n : Nat) (tag : Int32) (bel : Int32) (hsz : sz = nI n) (hn : n ≤ 40) : MW l D yX6_draw (Cond.code yX6_draw cX6_draw 3 (some .int) :: TT) rm_X6_draw [.ref (qT 0), .int tag, .int bel] [(kT 1, .int), (kT 2, .long), (kT 3, .int), (kT 4, .long), (kT 5, .long)] (tagW qT kT kinds names seeds ones ofk sz there awake grp gm gb) (some (.int (r_X6_draw seeds sz tag bel))) (tagW qT kT kinds names (u_X6_draw_seeds seeds sz tag bel) ones ofk sz there awake grp gm gb) := by
  refine MW.of (cc := cX6_draw) (nL := 3) (ret := (some .int)) (lv := [(0, .ref (qT 0)), (1, .int tag), (2, .int bel)]) (by decide) ((tagW_ad ..).trans (tagW_ad ..).symm) rfl (Nat.le_of_ble_eq_true rfl) ?_
  intro p e s m args below meth c A Q hQ X
  refine aw_aload_n X (pc := 0) 0 rfl rfl dX6_draw_0 ?_
  refine aw_iload_n X (pc := 1) 1 rfl rfl dX6_draw_1 ?_
  refine aw_callVF X (pc := 2) (q1 := 0) (rest := []) (st' := [.int (r_X6_has sz tag)]) (c_X6_has l D qT kT kinds names seeds ones ofk sz there awake grp gm gb tag) rfl rfl ⟨_, _, rfl⟩ rfl cf_X6_83 cd_X6_has dd_X6_has (by decide) (by decide) (by decide) rfl (Nat.le_of_ble_eq_true rfl) dX6_draw_2 rfl ?_
  refine aw_if_eq X (pc := 5) (tgt := 13) (by decide) dX6_draw_5 (fun c1 => ?_) (fun c1 => ?_)
  · refine aw_iconst X (pc := 13) (v := 0) dX6_draw_13 (by decide) ?_
    exact aw_iret X (v := 0) hQ (by simp only [r_X6_draw, if_pos c1]; try rfl) (by simp only [u_X6_draw_seeds, if_pos c1]) dX6_draw_14
  · obtain ⟨ht2, hu3⟩ := has_nat (n := n) hsz (by omega) c1
    refine aw_iload_n X (pc := 8) 2 rfl rfl dX6_draw_8 ?_
    refine aw_iconst X (pc := 9) (v := 1) dX6_draw_9 (by decide) ?_
    refine aw_icmp_ge X (pc := 10) (tgt := 15) (by decide) dX6_draw_10 (fun c4 => ?_) (fun c4 => ?_)
    · refine aw_aload_n X (pc := 15) 0 rfl rfl dX6_draw_15 ?_
      refine aw_get X (pc := 16) iX6 0 2 rfl rfl (by decide) fl_X6_19 rfl dX6_draw_16 ?_
      refine aw_iload_n X (pc := 19) 1 rfl rfl dX6_draw_19 ?_
      refine aw_ldc X (pc := 20) ld_X6_87 dX6_draw_20 ?_
      refine aw_aload_n X (pc := 22) 0 rfl rfl dX6_draw_22 ?_
      refine aw_get X (pc := 23) iX6 0 2 rfl rfl (by decide) fl_X6_19 rfl dX6_draw_23 ?_
      refine aw_iload_n X (pc := 26) 1 rfl rfl dX6_draw_26 ?_
      refine aw_iald X (pc := 27) 3 2 tag.toNatClampNeg ht2 rfl rfl (by decide) (by omega) dX6_draw_27 ?_
      refine aw_imul X (pc := 28) (z := 1103515245 * (seeds tag.toNatClampNeg)) rfl  dX6_draw_28 ?_
      refine aw_sipush X (pc := 29) (v := 12345) dX6_draw_29 (by decide) ?_
      refine aw_iadd X (pc := 32) (z := (1103515245 * (seeds tag.toNatClampNeg)) + 12345) rfl  dX6_draw_32 ?_
      refine aw_iast X (pc := 33) 3 2 (ws' := (tagW qT kT kinds names (upd seeds tag.toNatClampNeg ((1103515245 * (seeds tag.toNatClampNeg)) + 12345)) ones ofk sz there awake grp gm gb)) tag.toNatClampNeg ht2  rfl rfl (by decide) (by omega) rfl dX6_draw_33 ?_
      refine aw_aload_n X (pc := 34) 0 rfl rfl dX6_draw_34 ?_
      refine aw_get X (pc := 35) iX6 0 2 rfl rfl (by decide) fl_X6_19 rfl dX6_draw_35 ?_
      refine aw_iload_n X (pc := 38) 1 rfl rfl dX6_draw_38 ?_
      refine aw_iald X (pc := 39) 3 2 tag.toNatClampNeg ht2 rfl rfl (by decide) (by omega) dX6_draw_39 ?_
      refine aw_bipush X (pc := 40) (v := 16) dX6_draw_40 (by decide) ?_
      refine aw_iushr X (pc := 42) (z := (((upd seeds tag.toNatClampNeg ((1103515245 * (seeds tag.toNatClampNeg)) + 12345)) tag.toNatClampNeg).toUInt32 >>> (Int32.toUInt32 16 &&& Int32.toUInt32 31)).toInt32) rfl  dX6_draw_42 ?_
      refine aw_iload_n X (pc := 43) 2 rfl rfl dX6_draw_43 ?_
      refine aw_irem X (pc := 44) (z := ((((upd seeds tag.toNatClampNeg ((1103515245 * (seeds tag.toNatClampNeg)) + 12345)) tag.toNatClampNeg).toUInt32 >>> (Int32.toUInt32 16 &&& Int32.toUInt32 31)).toInt32) - ((((upd seeds tag.toNatClampNeg ((1103515245 * (seeds tag.toNatClampNeg)) + 12345)) tag.toNatClampNeg).toUInt32 >>> (Int32.toUInt32 16 &&& Int32.toUInt32 31)).toInt32) / bel * bel) rfl (one_le_ne (by assumption)) dX6_draw_44 ?_
      exact aw_iret X (v := ((((upd seeds tag.toNatClampNeg ((1103515245 * (seeds tag.toNatClampNeg)) + 12345)) tag.toNatClampNeg).toUInt32 >>> (Int32.toUInt32 16 &&& Int32.toUInt32 31)).toInt32) - ((((upd seeds tag.toNatClampNeg ((1103515245 * (seeds tag.toNatClampNeg)) + 12345)) tag.toNatClampNeg).toUInt32 >>> (Int32.toUInt32 16 &&& Int32.toUInt32 31)).toInt32) / bel * bel) hQ (by simp only [r_X6_draw, if_neg c1, if_pos c4]; try rfl) (by simp only [u_X6_draw_seeds, if_neg c1, if_pos c4]) dX6_draw_45
    · refine aw_iconst X (pc := 13) (v := 0) dX6_draw_13 (by decide) ?_
      exact aw_iret X (v := 0) hQ (by simp only [r_X6_draw, if_neg c1, if_neg c4]; try rfl) (by simp only [u_X6_draw_seeds, if_neg c1, if_neg c4]) dX6_draw_14

def r_X6_add (names : Nat → Int64) (sz : Int32) (n : Nat) (kind : Int32) (nm : Int64) : Int32 := if 40 ≤ sz then (-1) else (if kind < 0 then (-1) else (if 6 ≤ kind then (-1) else (if r_X6_isTaken names n nm = 0 then sz else (-1))))
def u_X6_add_kinds (kinds : Nat → Int32) (names : Nat → Int64) (sz : Int32) (n : Nat) (kind : Int32) (nm : Int64) : Nat → Int32 := if 40 ≤ sz then kinds else (if kind < 0 then kinds else (if 6 ≤ kind then kinds else (if r_X6_isTaken names n nm = 0 then (upd kinds n kind) else kinds)))
def u_X6_add_names (names : Nat → Int64) (sz : Int32) (n : Nat) (kind : Int32) (nm : Int64) : Nat → Int64 := if 40 ≤ sz then names else (if kind < 0 then names else (if 6 ≤ kind then names else (if r_X6_isTaken names n nm = 0 then (vp_updL names n nm) else names)))
def u_X6_add_seeds (names : Nat → Int64) (seeds : Nat → Int32) (sz : Int32) (n : Nat) (kind : Int32) (nm : Int64) (seed : Int32) : Nat → Int32 := if 40 ≤ sz then seeds else (if kind < 0 then seeds else (if 6 ≤ kind then seeds else (if r_X6_isTaken names n nm = 0 then (upd seeds n seed) else seeds)))
def u_X6_add_ones (names : Nat → Int64) (ones : Nat → Int64) (sz : Int32) (n : Nat) (kind : Int32) (nm : Int64) : Nat → Int64 := if 40 ≤ sz then ones else (if kind < 0 then ones else (if 6 ≤ kind then ones else (if r_X6_isTaken names n nm = 0 then (lpF (b_X6_noteOnes_3 sz nm) 64 0 ones) else ones)))
def u_X6_add_ofk (names : Nat → Int64) (ofk : Nat → Int64) (sz : Int32) (n : Nat) (kind : Int32) (nm : Int64) : Nat → Int64 := if 40 ≤ sz then ofk else (if kind < 0 then ofk else (if 6 ≤ kind then ofk else (if r_X6_isTaken names n nm = 0 then (vp_updL ofk kind.toNatClampNeg ((ofk kind.toNatClampNeg) ||| ((1 : Int64) <<< (sz.toInt64 &&& 63)))) else ofk)))
def u_X6_add_sz (names : Nat → Int64) (sz : Int32) (n : Nat) (kind : Int32) (nm : Int64) : Int32 := if 40 ≤ sz then sz else (if kind < 0 then sz else (if 6 ≤ kind then sz else (if r_X6_isTaken names n nm = 0 then (nI (n + 1)) else sz)))
def u_X6_add_there (names : Nat → Int64) (sz : Int32) (there : Int64) (n : Nat) (kind : Int32) (nm : Int64) : Int64 := if 40 ≤ sz then there else (if kind < 0 then there else (if 6 ≤ kind then there else (if r_X6_isTaken names n nm = 0 then (there ||| ((1 : Int64) <<< (sz.toInt64 &&& 63))) else there)))
def u_X6_add_awake (names : Nat → Int64) (sz : Int32) (awake : Int64) (n : Nat) (kind : Int32) (nm : Int64) : Int64 := if 40 ≤ sz then awake else (if kind < 0 then awake else (if 6 ≤ kind then awake else (if r_X6_isTaken names n nm = 0 then (if kind = 4 then awake else (awake ||| ((1 : Int64) <<< (sz.toInt64 &&& 63)))) else awake)))
def u_X6_add_grp (names : Nat → Int64) (sz : Int32) (grp : Int64) (gm : Int64) (gb : Int64) (n : Nat) (kind : Int32) (nm : Int64) : Int64 := if 40 ≤ sz then grp else (if kind < 0 then grp else (if 6 ≤ kind then grp else (if r_X6_isTaken names n nm = 0 then (if r_X6_isOfGroup gm gb nm = 0 then grp else (grp ||| ((1 : Int64) <<< (sz.toInt64 &&& 63)))) else grp)))
abbrev rm_X6_add : Room := { frames := 2, cells := 0, slots := 0, locals := 46 }
set_option maxHeartbeats 400000 in
set_option maxRecDepth 100000 in
theorem c_X6_add (l : Launch) (D : va_G) (qT : Nat → Nat) (kT : Nat → ClassId) (kinds : Nat → Int32) (names : Nat → Int64) (seeds : Nat → Int32) (ones : Nat → Int64) (ofk : Nat → Int64) (sz : Int32) (there : Int64) (awake : Int64) (grp : Int64) (gm : Int64) (gb : Int64) (n : Nat) (kind : Int32) (nm : Int64) (seed : Int32) (hsz : sz = nI n) (hn : n ≤ 40) : MW l D yX6_add (Cond.code yX6_add cX6_add 6 (some .int) :: TT) rm_X6_add [.ref (qT 0), .int kind, .long nm, .int seed] [(kT 1, .int), (kT 2, .long), (kT 3, .int), (kT 4, .long), (kT 5, .long)] (tagW qT kT kinds names seeds ones ofk sz there awake grp gm gb) (some (.int (r_X6_add names sz n kind nm))) (tagW qT kT (u_X6_add_kinds kinds names sz n kind nm) (u_X6_add_names names sz n kind nm) (u_X6_add_seeds names seeds sz n kind nm seed) (u_X6_add_ones names ones sz n kind nm) (u_X6_add_ofk names ofk sz n kind nm) (u_X6_add_sz names sz n kind nm) (u_X6_add_there names sz there n kind nm) (u_X6_add_awake names sz awake n kind nm) (u_X6_add_grp names sz grp gm gb n kind nm) gm gb) := by
  refine MW.of (cc := cX6_add) (nL := 6) (ret := (some .int)) (lv := [(0, .ref (qT 0)), (1, .int kind), (2, .long nm), (4, .int seed)]) (by decide) ((tagW_ad ..).trans (tagW_ad ..).symm) rfl (Nat.le_of_ble_eq_true rfl) ?_
  intro p e s m args below meth c A Q hQ X
  refine aw_aload_n X (pc := 0) 0 rfl rfl dX6_add_0 ?_
  refine aw_get X (pc := 1) iX6 0 5 rfl rfl (by decide) fl_X6_28 rfl dX6_add_1 ?_
  refine aw_bipush X (pc := 4) (v := 40) dX6_add_4 (by decide) ?_
  refine aw_icmp_ge X (pc := 6) (tgt := 27) (by decide) dX6_add_6 (fun c1 => ?_) (fun c1 => ?_)
  · refine aw_iconst X (pc := 27) (v := (-1)) dX6_add_27 (by decide) ?_
    exact aw_iret X (v := (-1)) hQ (by simp only [r_X6_add, if_pos c1]; try rfl) (by simp only [u_X6_add_kinds, u_X6_add_names, u_X6_add_seeds, u_X6_add_ones, u_X6_add_ofk, u_X6_add_sz, u_X6_add_there, u_X6_add_awake, u_X6_add_grp, if_pos c1]) dX6_add_28
  · have hlt2 : n < 40 := nlt_of hsz (b := 40) rfl (by omega) (by decide) c1
    refine aw_iload_n X (pc := 9) 1 rfl rfl dX6_add_9 ?_
    refine aw_if_lt X (pc := 10) (tgt := 27) (by decide) dX6_add_10 (fun c3 => ?_) (fun c3 => ?_)
    · refine aw_iconst X (pc := 27) (v := (-1)) dX6_add_27 (by decide) ?_
      exact aw_iret X (v := (-1)) hQ (by simp only [r_X6_add, if_neg c1, if_pos c3]; try rfl) (by simp only [u_X6_add_kinds, u_X6_add_names, u_X6_add_seeds, u_X6_add_ones, u_X6_add_ofk, u_X6_add_sz, u_X6_add_there, u_X6_add_awake, u_X6_add_grp, if_neg c1, if_pos c3]) dX6_add_28
    · refine aw_iload_n X (pc := 13) 1 rfl rfl dX6_add_13 ?_
      refine aw_bipush X (pc := 14) (v := 6) dX6_add_14 (by decide) ?_
      refine aw_icmp_ge X (pc := 16) (tgt := 27) (by decide) dX6_add_16 (fun c4 => ?_) (fun c4 => ?_)
      · refine aw_iconst X (pc := 27) (v := (-1)) dX6_add_27 (by decide) ?_
        exact aw_iret X (v := (-1)) hQ (by simp only [r_X6_add, if_neg c1, if_neg c3, if_pos c4]; try rfl) (by simp only [u_X6_add_kinds, u_X6_add_names, u_X6_add_seeds, u_X6_add_ones, u_X6_add_ofk, u_X6_add_sz, u_X6_add_there, u_X6_add_awake, u_X6_add_grp, if_neg c1, if_neg c3, if_pos c4]) dX6_add_28
      · obtain ⟨ht5, hu6⟩ := rng_nat (N := 6) rfl (by decide) c3 c4
        refine aw_aload_n X (pc := 19) 0 rfl rfl dX6_add_19 ?_
        refine aw_lload_n X (pc := 20) 2 rfl rfl dX6_add_20 ?_
        refine aw_callVF X (pc := 21) (q1 := 0) (rest := []) (st' := [.int (r_X6_isTaken names n nm)]) (c_X6_isTaken l D qT kT kinds names seeds ones ofk sz there awake grp gm gb n nm hsz (by omega)) rfl rfl ⟨_, _, rfl⟩ rfl cf_X6_32 cd_X6_isTaken dd_X6_isTaken (by decide) (by decide) (by decide) rfl (Nat.le_of_ble_eq_true rfl) dX6_add_21 rfl ?_
        refine aw_if_eq X (pc := 24) (tgt := 29) (by decide) dX6_add_24 (fun c7 => ?_) (fun c7 => ?_)
        · refine aw_aload_n X (pc := 29) 0 rfl rfl dX6_add_29 ?_
          refine aw_get X (pc := 30) iX6 0 5 rfl rfl (by decide) fl_X6_28 rfl dX6_add_30 ?_
          refine aw_istore X (pc := 33) (lv' := [(5, .int sz), (0, .ref (qT 0)), (1, .int kind), (2, .long nm), (4, .int seed)]) (by decide) rfl dX6_add_33 ?_
          refine aw_aload_n X (pc := 35) 1 rfl rfl dX6_add_35 ?_
          refine aw_dup X (pc := 36) dX6_add_36 rfl ?_
          refine aw_get X (pc := 37) iX6 0 5 rfl rfl (by decide) fl_X6_28 rfl dX6_add_37 ?_
          refine aw_iconst X (pc := 40) (v := 1) dX6_add_40 (by decide) ?_
          refine aw_iadd X (pc := 41) (z := nI (n + 1)) (nn_add (a := n) (b := 1) hsz rfl (by first | rfl | omega))  dX6_add_41 ?_
          refine aw_put X (pc := 42) (ws' := (tagW qT kT kinds names seeds ones ofk (nI (n + 1)) there awake grp gm gb)) tyX6 tyX6_ok nmX6 iX6 0 5 rfl rfl (by decide) fl_X6_28 rfl (tyX6_ok 5 (by decide)) rfl rfl (Nat.le_of_ble_eq_true rfl) rfl dX6_add_42 ?_
          refine aw_aload_n X (pc := 45) 1 rfl rfl dX6_add_45 ?_
          refine aw_get X (pc := 46) iX6 0 0 rfl rfl (by decide) fl_X6_9 rfl dX6_add_46 ?_
          refine aw_iload X (pc := 49) 0 rfl dX6_add_49 ?_
          refine aw_iload_n X (pc := 51) 2 rfl rfl dX6_add_51 ?_
          refine aw_iast X (pc := 52) 1 0 (ws' := (tagW qT kT (upd kinds n kind) names seeds ones ofk (nI (n + 1)) there awake grp gm gb)) n hsz  rfl rfl (by decide) (by omega) rfl dX6_add_52 ?_
          refine aw_aload_n X (pc := 53) 1 rfl rfl dX6_add_53 ?_
          refine aw_get X (pc := 54) iX6 0 1 rfl rfl (by decide) fl_X6_15 rfl dX6_add_54 ?_
          refine aw_iload X (pc := 57) 0 rfl dX6_add_57 ?_
          refine aw_lload_n X (pc := 59) 3 rfl rfl dX6_add_59 ?_
          refine aw_last X (pc := 60) 2 1 (ws' := (tagW qT kT (upd kinds n kind) (vp_updL names n nm) seeds ones ofk (nI (n + 1)) there awake grp gm gb)) n hsz  rfl rfl (by decide) (by omega) rfl dX6_add_60 ?_
          refine aw_aload_n X (pc := 61) 1 rfl rfl dX6_add_61 ?_
          refine aw_get X (pc := 62) iX6 0 2 rfl rfl (by decide) fl_X6_19 rfl dX6_add_62 ?_
          refine aw_iload X (pc := 65) 0 rfl dX6_add_65 ?_
          refine aw_iload X (pc := 67) 4 rfl dX6_add_67 ?_
          refine aw_iast X (pc := 69) 3 2 (ws' := (tagW qT kT (upd kinds n kind) (vp_updL names n nm) (upd seeds n seed) ones ofk (nI (n + 1)) there awake grp gm gb)) n hsz  rfl rfl (by decide) (by omega) rfl dX6_add_69 ?_
          refine aw_aload_n X (pc := 70) 1 rfl rfl dX6_add_70 ?_
          refine aw_get X (pc := 71) iX6 0 4 rfl rfl (by decide) fl_X6_25 rfl dX6_add_71 ?_
          refine aw_iload_n X (pc := 74) 2 rfl rfl dX6_add_74 ?_
          refine aw_dup2_11 X (pc := 75) dX6_add_75 rfl rfl ?_
          refine aw_lald X (pc := 76) 5 4 kind.toNatClampNeg ht5 rfl rfl (by decide) (by omega) dX6_add_76 ?_
          refine aw_iload X (pc := 77) 0 rfl dX6_add_77 ?_
          refine aw_callSN X (pc := 79) (rest := [.long (ofk kind.toNatClampNeg), .int kind, .ref (qT 5)]) (st' := [.long ((1 : Int64) <<< (sz.toInt64 &&& 63)), .long (ofk kind.toNatClampNeg), .int kind, .ref (qT 5)]) (ws' := (tagW qT kT (upd kinds n kind) (vp_updL names n nm) (upd seeds n seed) ones ofk (nI (n + 1)) there awake grp gm gb)) (c_X8_setOf l D sz) rfl [] [] rfl (by decide +kernel) rfl rfl (by decide) cf_X6_36 cd_X8_setOf dd_X8_setOf (by decide) (by decide) (by decide) rfl (Nat.le_of_ble_eq_true rfl) dX6_add_79 rfl ?_
          refine aw_lor X (pc := 82) (z := (ofk kind.toNatClampNeg) ||| ((1 : Int64) <<< (sz.toInt64 &&& 63))) rfl dX6_add_82 ?_
          refine aw_last X (pc := 83) 5 4 (ws' := (tagW qT kT (upd kinds n kind) (vp_updL names n nm) (upd seeds n seed) ones (vp_updL ofk kind.toNatClampNeg ((ofk kind.toNatClampNeg) ||| ((1 : Int64) <<< (sz.toInt64 &&& 63)))) (nI (n + 1)) there awake grp gm gb)) kind.toNatClampNeg ht5  rfl rfl (by decide) (by omega) rfl dX6_add_83 ?_
          refine aw_aload_n X (pc := 84) 1 rfl rfl dX6_add_84 ?_
          refine aw_dup X (pc := 85) dX6_add_85 rfl ?_
          refine aw_get X (pc := 86) iX6 0 6 rfl rfl (by decide) fl_X6_40 rfl dX6_add_86 ?_
          refine aw_iload X (pc := 89) 0 rfl dX6_add_89 ?_
          refine aw_callSN X (pc := 91) (rest := [.long there, .ref (qT 0)]) (st' := [.long ((1 : Int64) <<< (sz.toInt64 &&& 63)), .long there, .ref (qT 0)]) (ws' := (tagW qT kT (upd kinds n kind) (vp_updL names n nm) (upd seeds n seed) ones (vp_updL ofk kind.toNatClampNeg ((ofk kind.toNatClampNeg) ||| ((1 : Int64) <<< (sz.toInt64 &&& 63)))) (nI (n + 1)) there awake grp gm gb)) (c_X8_setOf l D sz) rfl [] [] rfl (by decide +kernel) rfl rfl (by decide) cf_X6_36 cd_X8_setOf dd_X8_setOf (by decide) (by decide) (by decide) rfl (Nat.le_of_ble_eq_true rfl) dX6_add_91 rfl ?_
          refine aw_lor X (pc := 94) (z := there ||| ((1 : Int64) <<< (sz.toInt64 &&& 63))) rfl dX6_add_94 ?_
          refine aw_put X (pc := 95) (ws' := (tagW qT kT (upd kinds n kind) (vp_updL names n nm) (upd seeds n seed) ones (vp_updL ofk kind.toNatClampNeg ((ofk kind.toNatClampNeg) ||| ((1 : Int64) <<< (sz.toInt64 &&& 63)))) (nI (n + 1)) (there ||| ((1 : Int64) <<< (sz.toInt64 &&& 63))) awake grp gm gb)) tyX6 tyX6_ok nmX6 iX6 0 6 rfl rfl (by decide) fl_X6_40 rfl (tyX6_ok 6 (by decide)) rfl rfl (Nat.le_of_ble_eq_true rfl) rfl dX6_add_95 ?_
          refine aw_iload_n X (pc := 98) 2 rfl rfl dX6_add_98 ?_
          refine aw_iconst X (pc := 99) (v := 4) dX6_add_99 (by decide) ?_
          refine aw_icmp_eq X (pc := 100) (tgt := 117) (by decide) dX6_add_100 (fun c8 => ?_) (fun c8 => ?_)
          · refine aw_aload_n X (pc := 117) 1 rfl rfl dX6_add_117 ?_
            refine aw_lload_n X (pc := 118) 3 rfl rfl dX6_add_118 ?_
            refine aw_callVF X (pc := 119) (q1 := 0) (rest := []) (st' := [.int (r_X6_isOfGroup gm gb nm)]) (c_X6_isOfGroup l D qT kT (upd kinds n kind) (vp_updL names n nm) (upd seeds n seed) ones (vp_updL ofk kind.toNatClampNeg ((ofk kind.toNatClampNeg) ||| ((1 : Int64) <<< (sz.toInt64 &&& 63)))) (nI (n + 1)) (there ||| ((1 : Int64) <<< (sz.toInt64 &&& 63))) awake grp gm gb nm) rfl rfl ⟨_, _, rfl⟩ rfl cf_X6_47 cd_X6_isOfGroup dd_X6_isOfGroup (by decide) (by decide) (by decide) rfl (Nat.le_of_ble_eq_true rfl) dX6_add_119 rfl ?_
            refine aw_if_eq X (pc := 122) (tgt := 139) (by decide) dX6_add_122 (fun c9 => ?_) (fun c9 => ?_)
            · refine aw_aload_n X (pc := 139) 1 rfl rfl dX6_add_139 ?_
              refine aw_iload X (pc := 140) 0 rfl dX6_add_140 ?_
              refine aw_lload_n X (pc := 142) 3 rfl rfl dX6_add_142 ?_
              refine aw_callVF X (pc := 143) (q1 := 0) (rest := []) (st' := []) (c_X6_noteOnes l D qT kT (upd kinds n kind) (vp_updL names n nm) (upd seeds n seed) ones (vp_updL ofk kind.toNatClampNeg ((ofk kind.toNatClampNeg) ||| ((1 : Int64) <<< (sz.toInt64 &&& 63)))) (nI (n + 1)) (there ||| ((1 : Int64) <<< (sz.toInt64 &&& 63))) awake grp gm gb sz nm) rfl rfl ⟨_, _, rfl⟩ rfl cf_X6_53 cd_X6_noteOnes dd_X6_noteOnes (by decide) (by decide) (by decide) rfl (Nat.le_of_ble_eq_true rfl) dX6_add_143 rfl ?_
              refine aw_iload X (pc := 146) 0 rfl dX6_add_146 ?_
              exact aw_iret X (v := sz) hQ (by simp only [r_X6_add, if_neg c1, if_neg c3, if_neg c4, if_pos c7, if_pos c8, if_pos c9]; try rfl) (by simp only [u_X6_add_kinds, u_X6_add_names, u_X6_add_seeds, u_X6_add_ones, u_X6_add_ofk, u_X6_add_sz, u_X6_add_there, u_X6_add_awake, u_X6_add_grp, if_neg c1, if_neg c3, if_neg c4, if_pos c7, if_pos c8, if_pos c9]) dX6_add_148
            · refine aw_aload_n X (pc := 125) 1 rfl rfl dX6_add_125 ?_
              refine aw_dup X (pc := 126) dX6_add_126 rfl ?_
              refine aw_get X (pc := 127) iX6 0 8 rfl rfl (by decide) fl_X6_50 rfl dX6_add_127 ?_
              refine aw_iload X (pc := 130) 0 rfl dX6_add_130 ?_
              refine aw_callSN X (pc := 132) (rest := [.long grp, .ref (qT 0)]) (st' := [.long ((1 : Int64) <<< (sz.toInt64 &&& 63)), .long grp, .ref (qT 0)]) (ws' := (tagW qT kT (upd kinds n kind) (vp_updL names n nm) (upd seeds n seed) ones (vp_updL ofk kind.toNatClampNeg ((ofk kind.toNatClampNeg) ||| ((1 : Int64) <<< (sz.toInt64 &&& 63)))) (nI (n + 1)) (there ||| ((1 : Int64) <<< (sz.toInt64 &&& 63))) awake grp gm gb)) (c_X8_setOf l D sz) rfl [] [] rfl (by decide +kernel) rfl rfl (by decide) cf_X6_36 cd_X8_setOf dd_X8_setOf (by decide) (by decide) (by decide) rfl (Nat.le_of_ble_eq_true rfl) dX6_add_132 rfl ?_
              refine aw_lor X (pc := 135) (z := grp ||| ((1 : Int64) <<< (sz.toInt64 &&& 63))) rfl dX6_add_135 ?_
              refine aw_put X (pc := 136) (ws' := (tagW qT kT (upd kinds n kind) (vp_updL names n nm) (upd seeds n seed) ones (vp_updL ofk kind.toNatClampNeg ((ofk kind.toNatClampNeg) ||| ((1 : Int64) <<< (sz.toInt64 &&& 63)))) (nI (n + 1)) (there ||| ((1 : Int64) <<< (sz.toInt64 &&& 63))) awake (grp ||| ((1 : Int64) <<< (sz.toInt64 &&& 63))) gm gb)) tyX6 tyX6_ok nmX6 iX6 0 8 rfl rfl (by decide) fl_X6_50 rfl (tyX6_ok 8 (by decide)) rfl rfl (Nat.le_of_ble_eq_true rfl) rfl dX6_add_136 ?_
              refine aw_aload_n X (pc := 139) 1 rfl rfl dX6_add_139 ?_
              refine aw_iload X (pc := 140) 0 rfl dX6_add_140 ?_
              refine aw_lload_n X (pc := 142) 3 rfl rfl dX6_add_142 ?_
              refine aw_callVF X (pc := 143) (q1 := 0) (rest := []) (st' := []) (c_X6_noteOnes l D qT kT (upd kinds n kind) (vp_updL names n nm) (upd seeds n seed) ones (vp_updL ofk kind.toNatClampNeg ((ofk kind.toNatClampNeg) ||| ((1 : Int64) <<< (sz.toInt64 &&& 63)))) (nI (n + 1)) (there ||| ((1 : Int64) <<< (sz.toInt64 &&& 63))) awake (grp ||| ((1 : Int64) <<< (sz.toInt64 &&& 63))) gm gb sz nm) rfl rfl ⟨_, _, rfl⟩ rfl cf_X6_53 cd_X6_noteOnes dd_X6_noteOnes (by decide) (by decide) (by decide) rfl (Nat.le_of_ble_eq_true rfl) dX6_add_143 rfl ?_
              refine aw_iload X (pc := 146) 0 rfl dX6_add_146 ?_
              exact aw_iret X (v := sz) hQ (by simp only [r_X6_add, if_neg c1, if_neg c3, if_neg c4, if_pos c7, if_pos c8, if_neg c9]; try rfl) (by simp only [u_X6_add_kinds, u_X6_add_names, u_X6_add_seeds, u_X6_add_ones, u_X6_add_ofk, u_X6_add_sz, u_X6_add_there, u_X6_add_awake, u_X6_add_grp, if_neg c1, if_neg c3, if_neg c4, if_pos c7, if_pos c8, if_neg c9]) dX6_add_148
          · refine aw_aload_n X (pc := 103) 1 rfl rfl dX6_add_103 ?_
            refine aw_dup X (pc := 104) dX6_add_104 rfl ?_
            refine aw_get X (pc := 105) iX6 0 7 rfl rfl (by decide) fl_X6_44 rfl dX6_add_105 ?_
            refine aw_iload X (pc := 108) 0 rfl dX6_add_108 ?_
            refine aw_callSN X (pc := 110) (rest := [.long awake, .ref (qT 0)]) (st' := [.long ((1 : Int64) <<< (sz.toInt64 &&& 63)), .long awake, .ref (qT 0)]) (ws' := (tagW qT kT (upd kinds n kind) (vp_updL names n nm) (upd seeds n seed) ones (vp_updL ofk kind.toNatClampNeg ((ofk kind.toNatClampNeg) ||| ((1 : Int64) <<< (sz.toInt64 &&& 63)))) (nI (n + 1)) (there ||| ((1 : Int64) <<< (sz.toInt64 &&& 63))) awake grp gm gb)) (c_X8_setOf l D sz) rfl [] [] rfl (by decide +kernel) rfl rfl (by decide) cf_X6_36 cd_X8_setOf dd_X8_setOf (by decide) (by decide) (by decide) rfl (Nat.le_of_ble_eq_true rfl) dX6_add_110 rfl ?_
            refine aw_lor X (pc := 113) (z := awake ||| ((1 : Int64) <<< (sz.toInt64 &&& 63))) rfl dX6_add_113 ?_
            refine aw_put X (pc := 114) (ws' := (tagW qT kT (upd kinds n kind) (vp_updL names n nm) (upd seeds n seed) ones (vp_updL ofk kind.toNatClampNeg ((ofk kind.toNatClampNeg) ||| ((1 : Int64) <<< (sz.toInt64 &&& 63)))) (nI (n + 1)) (there ||| ((1 : Int64) <<< (sz.toInt64 &&& 63))) (awake ||| ((1 : Int64) <<< (sz.toInt64 &&& 63))) grp gm gb)) tyX6 tyX6_ok nmX6 iX6 0 7 rfl rfl (by decide) fl_X6_44 rfl (tyX6_ok 7 (by decide)) rfl rfl (Nat.le_of_ble_eq_true rfl) rfl dX6_add_114 ?_
            refine aw_aload_n X (pc := 117) 1 rfl rfl dX6_add_117 ?_
            refine aw_lload_n X (pc := 118) 3 rfl rfl dX6_add_118 ?_
            refine aw_callVF X (pc := 119) (q1 := 0) (rest := []) (st' := [.int (r_X6_isOfGroup gm gb nm)]) (c_X6_isOfGroup l D qT kT (upd kinds n kind) (vp_updL names n nm) (upd seeds n seed) ones (vp_updL ofk kind.toNatClampNeg ((ofk kind.toNatClampNeg) ||| ((1 : Int64) <<< (sz.toInt64 &&& 63)))) (nI (n + 1)) (there ||| ((1 : Int64) <<< (sz.toInt64 &&& 63))) (awake ||| ((1 : Int64) <<< (sz.toInt64 &&& 63))) grp gm gb nm) rfl rfl ⟨_, _, rfl⟩ rfl cf_X6_47 cd_X6_isOfGroup dd_X6_isOfGroup (by decide) (by decide) (by decide) rfl (Nat.le_of_ble_eq_true rfl) dX6_add_119 rfl ?_
            refine aw_if_eq X (pc := 122) (tgt := 139) (by decide) dX6_add_122 (fun c10 => ?_) (fun c10 => ?_)
            · refine aw_aload_n X (pc := 139) 1 rfl rfl dX6_add_139 ?_
              refine aw_iload X (pc := 140) 0 rfl dX6_add_140 ?_
              refine aw_lload_n X (pc := 142) 3 rfl rfl dX6_add_142 ?_
              refine aw_callVF X (pc := 143) (q1 := 0) (rest := []) (st' := []) (c_X6_noteOnes l D qT kT (upd kinds n kind) (vp_updL names n nm) (upd seeds n seed) ones (vp_updL ofk kind.toNatClampNeg ((ofk kind.toNatClampNeg) ||| ((1 : Int64) <<< (sz.toInt64 &&& 63)))) (nI (n + 1)) (there ||| ((1 : Int64) <<< (sz.toInt64 &&& 63))) (awake ||| ((1 : Int64) <<< (sz.toInt64 &&& 63))) grp gm gb sz nm) rfl rfl ⟨_, _, rfl⟩ rfl cf_X6_53 cd_X6_noteOnes dd_X6_noteOnes (by decide) (by decide) (by decide) rfl (Nat.le_of_ble_eq_true rfl) dX6_add_143 rfl ?_
              refine aw_iload X (pc := 146) 0 rfl dX6_add_146 ?_
              exact aw_iret X (v := sz) hQ (by simp only [r_X6_add, if_neg c1, if_neg c3, if_neg c4, if_pos c7, if_neg c8, if_pos c10]; try rfl) (by simp only [u_X6_add_kinds, u_X6_add_names, u_X6_add_seeds, u_X6_add_ones, u_X6_add_ofk, u_X6_add_sz, u_X6_add_there, u_X6_add_awake, u_X6_add_grp, if_neg c1, if_neg c3, if_neg c4, if_pos c7, if_neg c8, if_pos c10]) dX6_add_148
            · refine aw_aload_n X (pc := 125) 1 rfl rfl dX6_add_125 ?_
              refine aw_dup X (pc := 126) dX6_add_126 rfl ?_
              refine aw_get X (pc := 127) iX6 0 8 rfl rfl (by decide) fl_X6_50 rfl dX6_add_127 ?_
              refine aw_iload X (pc := 130) 0 rfl dX6_add_130 ?_
              refine aw_callSN X (pc := 132) (rest := [.long grp, .ref (qT 0)]) (st' := [.long ((1 : Int64) <<< (sz.toInt64 &&& 63)), .long grp, .ref (qT 0)]) (ws' := (tagW qT kT (upd kinds n kind) (vp_updL names n nm) (upd seeds n seed) ones (vp_updL ofk kind.toNatClampNeg ((ofk kind.toNatClampNeg) ||| ((1 : Int64) <<< (sz.toInt64 &&& 63)))) (nI (n + 1)) (there ||| ((1 : Int64) <<< (sz.toInt64 &&& 63))) (awake ||| ((1 : Int64) <<< (sz.toInt64 &&& 63))) grp gm gb)) (c_X8_setOf l D sz) rfl [] [] rfl (by decide +kernel) rfl rfl (by decide) cf_X6_36 cd_X8_setOf dd_X8_setOf (by decide) (by decide) (by decide) rfl (Nat.le_of_ble_eq_true rfl) dX6_add_132 rfl ?_
              refine aw_lor X (pc := 135) (z := grp ||| ((1 : Int64) <<< (sz.toInt64 &&& 63))) rfl dX6_add_135 ?_
              refine aw_put X (pc := 136) (ws' := (tagW qT kT (upd kinds n kind) (vp_updL names n nm) (upd seeds n seed) ones (vp_updL ofk kind.toNatClampNeg ((ofk kind.toNatClampNeg) ||| ((1 : Int64) <<< (sz.toInt64 &&& 63)))) (nI (n + 1)) (there ||| ((1 : Int64) <<< (sz.toInt64 &&& 63))) (awake ||| ((1 : Int64) <<< (sz.toInt64 &&& 63))) (grp ||| ((1 : Int64) <<< (sz.toInt64 &&& 63))) gm gb)) tyX6 tyX6_ok nmX6 iX6 0 8 rfl rfl (by decide) fl_X6_50 rfl (tyX6_ok 8 (by decide)) rfl rfl (Nat.le_of_ble_eq_true rfl) rfl dX6_add_136 ?_
              refine aw_aload_n X (pc := 139) 1 rfl rfl dX6_add_139 ?_
              refine aw_iload X (pc := 140) 0 rfl dX6_add_140 ?_
              refine aw_lload_n X (pc := 142) 3 rfl rfl dX6_add_142 ?_
              refine aw_callVF X (pc := 143) (q1 := 0) (rest := []) (st' := []) (c_X6_noteOnes l D qT kT (upd kinds n kind) (vp_updL names n nm) (upd seeds n seed) ones (vp_updL ofk kind.toNatClampNeg ((ofk kind.toNatClampNeg) ||| ((1 : Int64) <<< (sz.toInt64 &&& 63)))) (nI (n + 1)) (there ||| ((1 : Int64) <<< (sz.toInt64 &&& 63))) (awake ||| ((1 : Int64) <<< (sz.toInt64 &&& 63))) (grp ||| ((1 : Int64) <<< (sz.toInt64 &&& 63))) gm gb sz nm) rfl rfl ⟨_, _, rfl⟩ rfl cf_X6_53 cd_X6_noteOnes dd_X6_noteOnes (by decide) (by decide) (by decide) rfl (Nat.le_of_ble_eq_true rfl) dX6_add_143 rfl ?_
              refine aw_iload X (pc := 146) 0 rfl dX6_add_146 ?_
              exact aw_iret X (v := sz) hQ (by simp only [r_X6_add, if_neg c1, if_neg c3, if_neg c4, if_pos c7, if_neg c8, if_neg c10]; try rfl) (by simp only [u_X6_add_kinds, u_X6_add_names, u_X6_add_seeds, u_X6_add_ones, u_X6_add_ofk, u_X6_add_sz, u_X6_add_there, u_X6_add_awake, u_X6_add_grp, if_neg c1, if_neg c3, if_neg c4, if_pos c7, if_neg c8, if_neg c10]) dX6_add_148
        · refine aw_iconst X (pc := 27) (v := (-1)) dX6_add_27 (by decide) ?_
          exact aw_iret X (v := (-1)) hQ (by simp only [r_X6_add, if_neg c1, if_neg c3, if_neg c4, if_neg c7]; try rfl) (by simp only [u_X6_add_kinds, u_X6_add_names, u_X6_add_seeds, u_X6_add_ones, u_X6_add_ofk, u_X6_add_sz, u_X6_add_there, u_X6_add_awake, u_X6_add_grp, if_neg c1, if_neg c3, if_neg c4, if_neg c7]) dX6_add_28
