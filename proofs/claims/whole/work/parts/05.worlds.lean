def mW (q : Nat → Nat) (kc : Nat → ClassId) (a : Nat → Int32) (w : Nat → Int64) (hs : Nat → Int32) (inn : Nat → Int32) (sp : Nat → Int32) (lone : Int32) (lt : Nat → Int64) (lz : Nat → Int32) (dr : Nat → Int32) : va_W := [(q 0, .inr (9, [.ref (q 1), .ref (q 2), .ref (q 3), .ref (q 4), .ref (q 5), .int lone, .ref (q 6), .ref (q 7), .ref (q 8)])), (q 1, .inl (kc 1, 2700, .inl a)), (q 2, .inl (kc 2, 620, .inr (.inl w))), (q 3, .inl (kc 3, 4, .inl hs)), (q 4, .inl (kc 4, 40, .inl inn)), (q 5, .inl (kc 5, 40, .inl sp)), (q 6, .inl (kc 6, 80, .inr (.inl lt))), (q 7, .inl (kc 7, 80, .inl lz)), (q 8, .inl (kc 8, 40, .inl dr))]
def tagW (qT : Nat → Nat) (kT : Nat → ClassId) (kinds : Nat → Int32) (names : Nat → Int64) (seeds : Nat → Int32) (ones : Nat → Int64) (ofk : Nat → Int64) (sz : Int32) (there : Int64) (awake : Int64) (grp : Int64) (gm : Int64) (gb : Int64) : va_W := [(qT 0, .inr (6, [.ref (qT 1), .ref (qT 2), .ref (qT 3), .ref (qT 4), .ref (qT 5), .int sz, .long there, .long awake, .long grp, .long gm, .long gb])), (qT 1, .inl (kT 1, 40, .inl kinds)), (qT 2, .inl (kT 2, 40, .inr (.inl names))), (qT 3, .inl (kT 3, 40, .inl seeds)), (qT 4, .inl (kT 4, 64, .inr (.inl ones))), (qT 5, .inl (kT 5, 6, .inr (.inl ofk)))]
def pasW (p0 : Nat) (lf : Int32) (ir : Int32) (ln : Int64) : va_W := [(p0, .inr (3, [.int lf, .int ir, .long ln]))]
def pilW (qL : Nat → Nat) (kL : Nat → ClassId) (rows : Nat → Int64) (lens : Nat → Int32) (psz : Int32) : va_W := [(qL 0, .inr (4, [.ref (qL 1), .ref (qL 2), .int psz])), (qL 1, .inl (kL 1, 65, .inr (.inl rows))), (qL 2, .inl (kL 2, 65, .inl lens))]
def cntW (qK : Nat → Nat) (kK : Nat → ClassId) (vals : Nat → Int32) (hold : Int64) (call : Int32) : va_W := [(qK 0, .inr (0, [.ref (qK 1), .long hold, .int call])), (qK 1, .inl (kK 1, 40, .inl vals))]
def frmW (f0 : Nat) (fio : Int64) (fqu : Int32) (fal : Int32) (fco : Int32) (fgu : Int32) : va_W := [(f0, .inr (2, [.long fio, .int fqu, .int fal, .int fco, .int fgu]))]
def talW (qY : Nat → Nat) (kY : Nat → ClassId) (ft : Nat → Int32) (fs : Int32) (qs : Int32) (als : Int32) (cs : Int32) (ps : Int32) : va_W := [(qY 0, .inr (7, [.ref (qY 1), .int fs, .int qs, .int als, .int cs, .int ps])), (qY 1, .inl (kY 1, 200, .inl ft))]
def crdW (qC : Nat → Nat) (kC : Nat → ClassId) (pr : Nat → Int64) (nx : Nat → Int64) (ns : Int32) (csz : Int32) : va_W := [(qC 0, .inr (1, [.ref (qC 1), .ref (qC 2), .int ns, .int csz])), (qC 1, .inl (kC 1, 20, .inr (.inl pr))), (qC 2, .inl (kC 2, 20, .inr (.inl nx)))]
def staW (s0 : Nat) (qT : Nat → Nat) (kT : Nat → ClassId) (kinds : Nat → Int32) (names : Nat → Int64) (seeds : Nat → Int32) (ones : Nat → Int64) (ofk : Nat → Int64) (sz : Int32) (there : Int64) (awake : Int64) (grp : Int64) (gm : Int64) (gb : Int64) (p0 : Nat) (lf : Int32) (ir : Int32) (ln : Int64) (qL : Nat → Nat) (kL : Nat → ClassId) (rows : Nat → Int64) (lens : Nat → Int32) (psz : Int32) (qK : Nat → Nat) (kK : Nat → ClassId) (vals : Nat → Int32) (hold : Int64) (call : Int32) (f0 : Nat) (fio : Int64) (fqu : Int32) (fal : Int32) (fco : Int32) (fgu : Int32) (qY : Nat → Nat) (kY : Nat → ClassId) (ft : Nat → Int32) (fs : Int32) (qs : Int32) (als : Int32) (cs : Int32) (ps : Int32) (wire : Int32) (alo : Int32) : va_W := [(s0, .inr (5, [.ref (qT 0), .ref p0, .ref (qL 0), .ref (qK 0), .ref f0, .ref (qY 0), .int wire, .int alo])), (qT 0, .inr (6, [.ref (qT 1), .ref (qT 2), .ref (qT 3), .ref (qT 4), .ref (qT 5), .int sz, .long there, .long awake, .long grp, .long gm, .long gb])), (qT 1, .inl (kT 1, 40, .inl kinds)), (qT 2, .inl (kT 2, 40, .inr (.inl names))), (qT 3, .inl (kT 3, 40, .inl seeds)), (qT 4, .inl (kT 4, 64, .inr (.inl ones))), (qT 5, .inl (kT 5, 6, .inr (.inl ofk))), (p0, .inr (3, [.int lf, .int ir, .long ln])), (qL 0, .inr (4, [.ref (qL 1), .ref (qL 2), .int psz])), (qL 1, .inl (kL 1, 65, .inr (.inl rows))), (qL 2, .inl (kL 2, 65, .inl lens)), (qK 0, .inr (0, [.ref (qK 1), .long hold, .int call])), (qK 1, .inl (kK 1, 40, .inl vals)), (f0, .inr (2, [.long fio, .int fqu, .int fal, .int fco, .int fgu])), (qY 0, .inr (7, [.ref (qY 1), .int fs, .int qs, .int als, .int cs, .int ps])), (qY 1, .inl (kY 1, 200, .inl ft))]
def rolW (r0 : Nat) (ri : Nat) (rs : Nat) (kS : ClassId) (sl : Nat → Int64) (qC : Nat → Nat) (kC : Nat → ClassId) (pr : Nat → Int64) (nx : Nat → Int64) (ns : Int32) (csz : Int32) (s0 : Nat) (qT : Nat → Nat) (kT : Nat → ClassId) (kinds : Nat → Int32) (names : Nat → Int64) (seeds : Nat → Int32) (ones : Nat → Int64) (ofk : Nat → Int64) (sz : Int32) (there : Int64) (awake : Int64) (grp : Int64) (gm : Int64) (gb : Int64) (p0 : Nat) (lf : Int32) (ir : Int32) (ln : Int64) (qL : Nat → Nat) (kL : Nat → ClassId) (rows : Nat → Int64) (lens : Nat → Int32) (psz : Int32) (qK : Nat → Nat) (kK : Nat → ClassId) (vals : Nat → Int32) (hold : Int64) (call : Int32) (f0 : Nat) (fio : Int64) (fqu : Int32) (fal : Int32) (fco : Int32) (fgu : Int32) (qY : Nat → Nat) (kY : Nat → ClassId) (ft : Nat → Int32) (fs : Int32) (qs : Int32) (als : Int32) (cs : Int32) (ps : Int32) (wire : Int32) (alo : Int32) : va_W := [(r0, .inr (8, [.ref s0, .ref ri, .ref rs, .ref (qC 0)])), (rs, .inl (kS, 64, .inr (.inl sl))), (qC 0, .inr (1, [.ref (qC 1), .ref (qC 2), .int ns, .int csz])), (qC 1, .inl (kC 1, 20, .inr (.inl pr))), (qC 2, .inl (kC 2, 20, .inr (.inl nx))), (s0, .inr (5, [.ref (qT 0), .ref p0, .ref (qL 0), .ref (qK 0), .ref f0, .ref (qY 0), .int wire, .int alo])), (qT 0, .inr (6, [.ref (qT 1), .ref (qT 2), .ref (qT 3), .ref (qT 4), .ref (qT 5), .int sz, .long there, .long awake, .long grp, .long gm, .long gb])), (qT 1, .inl (kT 1, 40, .inl kinds)), (qT 2, .inl (kT 2, 40, .inr (.inl names))), (qT 3, .inl (kT 3, 40, .inl seeds)), (qT 4, .inl (kT 4, 64, .inr (.inl ones))), (qT 5, .inl (kT 5, 6, .inr (.inl ofk))), (p0, .inr (3, [.int lf, .int ir, .long ln])), (qL 0, .inr (4, [.ref (qL 1), .ref (qL 2), .int psz])), (qL 1, .inl (kL 1, 65, .inr (.inl rows))), (qL 2, .inl (kL 2, 65, .inl lens)), (qK 0, .inr (0, [.ref (qK 1), .long hold, .int call])), (qK 1, .inl (kK 1, 40, .inl vals)), (f0, .inr (2, [.long fio, .int fqu, .int fal, .int fco, .int fgu])), (qY 0, .inr (7, [.ref (qY 1), .int fs, .int qs, .int als, .int cs, .int ps])), (qY 1, .inl (kY 1, 200, .inl ft))]
section AWM
variable {p : Program} {l : Launch} {e : Env} {R : Room} {s : State} {m : MethodId} {args : Array Value} {below : List Frame} {meth : Method} {c : Code} {cc : ByteArray} {nL : Nat} {ret : Option FieldType} {own : String} {D : va_G} {tys : List (ClassId × FieldType)} {A : Nat → Prop} {cells slots : Nat} {Q : State → Prop} {pc : Nat} {lv : List (Nat × Value)} {st : List Value} {ws : va_W}
/-- fewer locals, in any order, by their places -/
theorem aw_sub {lv' : List (Nat × Value)} (ks : List Nat) (h : lv_pick lv ks = lv') (k : AW p l e R s m args below meth c D A nL cells slots Q pc lv' st ws) : AW p l e R s m args below meth c D A nL cells slots Q pc lv st ws := fun H locs ls h1 h2 h3 hl => k H locs ls h1 h2 h3 (lv_sub hl ks h)
theorem aw_copyi (X : Cx p s m args meth c cc nL ret own D tys A) {index : Nat} {x : Int32} {ws' : va_W} (n : Nat) (hx : x = nI n) (q0 q1 t0 t1 : Nat) {a a0 : Nat} {c0 c1 : ClassId} {n0 n1 : Nat} {f g : Nat → Int32} (ha0 : ws[q0]? = some (a0, .inl (c0, n0, .inl f))) (ha1 : ws[q1]? = some (a, .inl (c1, n1, .inl g))) (ht0 : tys[t0]? = some (c0, .int)) (ht1 : tys[t1]? = some (c1, .int)) (h4 : n ≤ n0 ∧ n ≤ n1) (hn : n < 2 ^ 31) (hg : ∀ w ∈ ([.methodLink own index arraycopyName, .native arraycopyName, .static arraycopyName, .initialized "java/lang/System"] : List Cond), w ∈ TT) (hfr : 1 ≤ R.frames) (hlo : (st.map fun v => v.category).sum + (nativeFrameWords "java/lang/System" "arraycopy" 5 + 11) ≤ R.locals) (hws : ws.set q1 (a, .inl (c1, n1, .inl (va_cpy f g 0 0 n))) = ws') (hd : decode cc pc = .ok (.invokestatic index, 3)) (k : AW p l e R s m args below meth c D A nL cells slots Q (pc + 3) lv st ws') : AW p l e R s m args below meth c D A nL cells slots Q pc lv (.int x :: .int 0 :: .ref a :: .int 0 :: .ref a0 :: st) ws := by
  subst hx; subst hws
  intro H locs ls h1 h2 h3 hl
  have e0 : (0 : Int32).toNatClampNeg = 0 := rfl
  have en : (nI n).toNatClampNeg = n := nI_clamp hn
  refine va_copyi X.1.1 X.1.2.1 (X.1.2.2.1.trans hl.1.symm) X.1.2.2.2.1 (X.1.2.2.2.2 _ (hg _ List.mem_cons_self)) (X.1.2.2.2.2 _ (hg _ (List.mem_cons_of_mem _ List.mem_cons_self))) (X.1.2.2.2.2 _ (hg _ (List.mem_cons_of_mem _ (List.mem_cons_of_mem _ List.mem_cons_self)))) (X.1.2.2.2.2 _ (hg _ (List.mem_cons_of_mem _ (List.mem_cons_of_mem _ (List.mem_cons_of_mem _ List.mem_cons_self))))) X.2.2.2.1.1 h1 h2 h3 q0 q1 t0 t1 ha0 ha1 ht0 ht1 rfl (by decide) (by decide) (nI_pos hn) (by rw [e0, en]; omega) (by rw [e0, en]; omega) (fun i hi => rfl) hfr hlo hd ?_
  rw [e0, en]
  exact fun H1 locs1 g1 g2 g3 => k H1 locs1 ls g1 g2 g3 hl
theorem aw_copyl (X : Cx p s m args meth c cc nL ret own D tys A) {index : Nat} {x : Int32} {ws' : va_W} (n : Nat) (hx : x = nI n) (q0 q1 t0 t1 : Nat) {a a0 : Nat} {c0 c1 : ClassId} {n0 n1 : Nat} {f g : Nat → Int64} (ha0 : ws[q0]? = some (a0, .inl (c0, n0, .inr (.inl f)))) (ha1 : ws[q1]? = some (a, .inl (c1, n1, .inr (.inl g)))) (ht0 : tys[t0]? = some (c0, .long)) (ht1 : tys[t1]? = some (c1, .long)) (h4 : n ≤ n0 ∧ n ≤ n1) (hn : n < 2 ^ 31) (hg : ∀ w ∈ ([.methodLink own index arraycopyName, .native arraycopyName, .static arraycopyName, .initialized "java/lang/System"] : List Cond), w ∈ TT) (hfr : 1 ≤ R.frames) (hlo : (st.map fun v => v.category).sum + (nativeFrameWords "java/lang/System" "arraycopy" 5 + 11) ≤ R.locals) (hws : ws.set q1 (a, .inl (c1, n1, .inr (.inl (va_cpy f g 0 0 n)))) = ws') (hd : decode cc pc = .ok (.invokestatic index, 3)) (k : AW p l e R s m args below meth c D A nL cells slots Q (pc + 3) lv st ws') : AW p l e R s m args below meth c D A nL cells slots Q pc lv (.int x :: .int 0 :: .ref a :: .int 0 :: .ref a0 :: st) ws := by
  subst hx; subst hws
  intro H locs ls h1 h2 h3 hl
  have e0 : (0 : Int32).toNatClampNeg = 0 := rfl
  have en : (nI n).toNatClampNeg = n := nI_clamp hn
  refine va_copyl X.1.1 X.1.2.1 (X.1.2.2.1.trans hl.1.symm) X.1.2.2.2.1 (X.1.2.2.2.2 _ (hg _ List.mem_cons_self)) (X.1.2.2.2.2 _ (hg _ (List.mem_cons_of_mem _ List.mem_cons_self))) (X.1.2.2.2.2 _ (hg _ (List.mem_cons_of_mem _ (List.mem_cons_of_mem _ List.mem_cons_self)))) (X.1.2.2.2.2 _ (hg _ (List.mem_cons_of_mem _ (List.mem_cons_of_mem _ (List.mem_cons_of_mem _ List.mem_cons_self))))) X.2.2.2.1.1 h1 h2 h3 q0 q1 t0 t1 ha0 ha1 ht0 ht1 rfl (by decide) (by decide) (nI_pos hn) (by rw [e0, en]; omega) (by rw [e0, en]; omega) (fun i hi => rfl) hfr hlo hd ?_
  rw [e0, en]
  exact fun H1 locs1 g1 g2 g3 => k H1 locs1 ls g1 g2 g3 hl
end AWM
theorem lpW_go {σ : Type} {go : Nat → σ → Bool} {body : Nat → σ → σ} {n k : Nat} {s : σ} (h : go k s = true) : lpW go body (n + 1) k s = lpW go body n (k + 1) (body k s) := if_pos h
theorem lpW_stop {σ : Type} {go : Nat → σ → Bool} {body : Nat → σ → σ} {n k : Nat} {s : σ} (h : go k s = false) : lpW go body (n + 1) k s = (k, s) := if_neg (by rw [h]; decide)
theorem nn_m1 {x : Int32} {a : Nat} (hx : x = nI a) (h : 0 < a) : x + Int32.ofInt (-1) = nI (a - 1) := by
  subst hx
  obtain ⟨b, rfl⟩ : ∃ b, a = b + 1 := ⟨a - 1, by omega⟩
  exact pk_m1 b
theorem nn_le {x y : Int32} {a b : Nat} (hx : x = nI a) (hy : y = nI b) (h : a ≤ b) (hb : b < 2 ^ 31) : x ≤ y := by subst hx; subst hy; exact nI_le h hb
theorem nn_nle {x y : Int32} {a b : Nat} (hx : x = nI a) (hy : y = nI b) (h : b < a) (ha : a < 2 ^ 31) : ¬ x ≤ y := by subst hx; subst hy; exact nI_ge h ha
theorem nn_lt {x y : Int32} {a b : Nat} (hx : x = nI a) (hy : y = nI b) (h : a < b) (hb : b < 2 ^ 31) : x < y := by subst hx; subst hy; exact nI_lt h hb
theorem nn_nlt {x y : Int32} {a b : Nat} (hx : x = nI a) (hy : y = nI b) (h : b ≤ a) (ha : a < 2 ^ 31) : ¬ x < y := by subst hx; subst hy; exact nI_nlt h ha
theorem nn_eq {x y : Int32} {a b : Nat} (hx : x = nI a) (hy : y = nI b) (h : a = b) : x = y := by subst hx; subst hy; subst h; rfl
theorem nn_ne {x y : Int32} {a b : Nat} (hx : x = nI a) (hy : y = nI b) (h : a ≠ b) (ha : a < 2 ^ 31) (hb : b < 2 ^ 31) : ¬ x = y := by subst hx; subst hy; exact fun z => h ((nI_eq ha hb).mp z)
theorem tb_ne {x : Int32} {k : Int32} (h : ¬ x = k) : ¬ x.toInt = k.toInt := fun z => h (Int32.toInt_inj.mp z)
theorem tb_out1 {x : Int32} (h0 : ¬ x = 0) (h1 : ¬ x = 1) : x.toInt < 0 ∨ 1 < x.toInt := by
  have a0 : ¬ x.toInt = 0 := tb_ne (k := 0) h0
  have a1 : ¬ x.toInt = 1 := tb_ne (k := 1) h1
  omega
theorem tb_out3 {x : Int32} (h0 : ¬ x = 0) (h1 : ¬ x = 1) (h2 : ¬ x = 2) (h3 : ¬ x = 3) : x.toInt < 0 ∨ 3 < x.toInt := by
  have a0 : ¬ x.toInt = 0 := tb_ne (k := 0) h0
  have a1 : ¬ x.toInt = 1 := tb_ne (k := 1) h1
  have a2 : ¬ x.toInt = 2 := tb_ne (k := 2) h2
  have a3 : ¬ x.toInt = 3 := tb_ne (k := 3) h3
  omega
theorem tb_out4 {x : Int32} (h0 : ¬ x = 0) (h1 : ¬ x = 1) (h2 : ¬ x = 2) (h3 : ¬ x = 3) (h4 : ¬ x = 4) : x.toInt < 0 ∨ 4 < x.toInt := by
  have a0 : ¬ x.toInt = 0 := tb_ne (k := 0) h0
  have a1 : ¬ x.toInt = 1 := tb_ne (k := 1) h1
  have a2 : ¬ x.toInt = 2 := tb_ne (k := 2) h2
  have a3 : ¬ x.toInt = 3 := tb_ne (k := 3) h3
  have a4 : ¬ x.toInt = 4 := tb_ne (k := 4) h4
  omega
theorem tb_out6 {x : Int32} (h0 : ¬ x = 0) (h1 : ¬ x = 1) (h2 : ¬ x = 2) (h3 : ¬ x = 3) (h4 : ¬ x = 4) (h5 : ¬ x = 5) (h6 : ¬ x = 6) : x.toInt < 0 ∨ 6 < x.toInt := by
  have a0 : ¬ x.toInt = 0 := tb_ne (k := 0) h0
  have a1 : ¬ x.toInt = 1 := tb_ne (k := 1) h1
  have a2 : ¬ x.toInt = 2 := tb_ne (k := 2) h2
  have a3 : ¬ x.toInt = 3 := tb_ne (k := 3) h3
  have a4 : ¬ x.toInt = 4 := tb_ne (k := 4) h4
  have a5 : ¬ x.toInt = 5 := tb_ne (k := 5) h5
  have a6 : ¬ x.toInt = 6 := tb_ne (k := 6) h6
  omega
theorem nar_01 {x : Int32} (h : x = 0 ∨ x = 1) : vp_nar .boolean x = x := by rcases h with rfl | rfl <;> rfl
theorem nrw_01 {x : Int32} (h : x = 0 ∨ x = 1) : narrow .boolean (.int x) = .int x := by rcases h with rfl | rfl <;> rfl
def anyB (p : Nat → Bool) : Nat → Bool
  | 0 => false
  | n + 1 => anyB p n || p n
theorem anyB_of {p : Nat → Bool} : ∀ {n k : Nat}, k < n → p k = true → anyB p n = true
  | 0, k, h, _ => absurd h (Nat.not_lt_zero k)
  | n + 1, k, h, hp => by
    show (anyB p n || p n) = true
    rcases Nat.lt_or_ge k n with q | q
    · rw [anyB_of q hp]; rfl
    · have e : k = n := by omega
      subst e
      rw [hp]; simp
theorem anyB_not {p : Nat → Bool} : ∀ {n : Nat}, (∀ j, j < n → p j = false) → anyB p n = false
  | 0, _ => rfl
  | n + 1, h => by
    show (anyB p n || p n) = false
    rw [anyB_not (fun j hj => h j (by omega)), h n (by omega)]; rfl
theorem anyB_yes {P : Nat → Prop} [DecidablePred P] {n k : Nat} (h : k < n) (hp : P k) : anyB (fun j => decide (P j)) n = true := anyB_of h (by simp [hp])
theorem anyB_no {P : Nat → Prop} [DecidablePred P] {n : Nat} (h : ∀ j, j < n → ¬ P j) : ¬ anyB (fun j => decide (P j)) n = true := by
  rw [anyB_not (fun j hj => by simp [h j hj])]; simp
theorem ite_01 {c : Prop} {inst : Decidable c} : (@ite Int32 c inst 1 0) = 0 ∨ (@ite Int32 c inst 1 0) = 1 := by by_cases h : c <;> simp [h]
theorem ite_10 {c : Prop} {inst : Decidable c} : (@ite Int32 c inst 0 1) = 0 ∨ (@ite Int32 c inst 0 1) = 1 := by by_cases h : c <;> simp [h]
theorem mW_ad (q : Nat → Nat) (kc : Nat → ClassId) (a : Nat → Int32) (w : Nat → Int64) (hs : Nat → Int32) (inn : Nat → Int32) (sp : Nat → Int32) (lone : Int32) (lt : Nat → Int64) (lz : Nat → Int32) (dr : Nat → Int32) : List.map Prod.fst (mW q kc a w hs inn sp lone lt lz dr) = [q 0, q 1, q 2, q 3, q 4, q 5, q 6, q 7, q 8] := rfl
theorem tagW_ad (qT : Nat → Nat) (kT : Nat → ClassId) (kinds : Nat → Int32) (names : Nat → Int64) (seeds : Nat → Int32) (ones : Nat → Int64) (ofk : Nat → Int64) (sz : Int32) (there : Int64) (awake : Int64) (grp : Int64) (gm : Int64) (gb : Int64) : List.map Prod.fst (tagW qT kT kinds names seeds ones ofk sz there awake grp gm gb) = [qT 0, qT 1, qT 2, qT 3, qT 4, qT 5] := rfl
theorem pasW_ad (p0 : Nat) (lf : Int32) (ir : Int32) (ln : Int64) : List.map Prod.fst (pasW p0 lf ir ln) = [p0] := rfl
theorem pilW_ad (qL : Nat → Nat) (kL : Nat → ClassId) (rows : Nat → Int64) (lens : Nat → Int32) (psz : Int32) : List.map Prod.fst (pilW qL kL rows lens psz) = [qL 0, qL 1, qL 2] := rfl
theorem cntW_ad (qK : Nat → Nat) (kK : Nat → ClassId) (vals : Nat → Int32) (hold : Int64) (call : Int32) : List.map Prod.fst (cntW qK kK vals hold call) = [qK 0, qK 1] := rfl
theorem frmW_ad (f0 : Nat) (fio : Int64) (fqu : Int32) (fal : Int32) (fco : Int32) (fgu : Int32) : List.map Prod.fst (frmW f0 fio fqu fal fco fgu) = [f0] := rfl
theorem talW_ad (qY : Nat → Nat) (kY : Nat → ClassId) (ft : Nat → Int32) (fs : Int32) (qs : Int32) (als : Int32) (cs : Int32) (ps : Int32) : List.map Prod.fst (talW qY kY ft fs qs als cs ps) = [qY 0, qY 1] := rfl
theorem crdW_ad (qC : Nat → Nat) (kC : Nat → ClassId) (pr : Nat → Int64) (nx : Nat → Int64) (ns : Int32) (csz : Int32) : List.map Prod.fst (crdW qC kC pr nx ns csz) = [qC 0, qC 1, qC 2] := rfl
theorem staW_ad (s0 : Nat) (qT : Nat → Nat) (kT : Nat → ClassId) (kinds : Nat → Int32) (names : Nat → Int64) (seeds : Nat → Int32) (ones : Nat → Int64) (ofk : Nat → Int64) (sz : Int32) (there : Int64) (awake : Int64) (grp : Int64) (gm : Int64) (gb : Int64) (p0 : Nat) (lf : Int32) (ir : Int32) (ln : Int64) (qL : Nat → Nat) (kL : Nat → ClassId) (rows : Nat → Int64) (lens : Nat → Int32) (psz : Int32) (qK : Nat → Nat) (kK : Nat → ClassId) (vals : Nat → Int32) (hold : Int64) (call : Int32) (f0 : Nat) (fio : Int64) (fqu : Int32) (fal : Int32) (fco : Int32) (fgu : Int32) (qY : Nat → Nat) (kY : Nat → ClassId) (ft : Nat → Int32) (fs : Int32) (qs : Int32) (als : Int32) (cs : Int32) (ps : Int32) (wire : Int32) (alo : Int32) : List.map Prod.fst (staW s0 qT kT kinds names seeds ones ofk sz there awake grp gm gb p0 lf ir ln qL kL rows lens psz qK kK vals hold call f0 fio fqu fal fco fgu qY kY ft fs qs als cs ps wire alo) = [s0, qT 0, qT 1, qT 2, qT 3, qT 4, qT 5, p0, qL 0, qL 1, qL 2, qK 0, qK 1, f0, qY 0, qY 1] := rfl
theorem rolW_ad (r0 : Nat) (ri : Nat) (rs : Nat) (kS : ClassId) (sl : Nat → Int64) (qC : Nat → Nat) (kC : Nat → ClassId) (pr : Nat → Int64) (nx : Nat → Int64) (ns : Int32) (csz : Int32) (s0 : Nat) (qT : Nat → Nat) (kT : Nat → ClassId) (kinds : Nat → Int32) (names : Nat → Int64) (seeds : Nat → Int32) (ones : Nat → Int64) (ofk : Nat → Int64) (sz : Int32) (there : Int64) (awake : Int64) (grp : Int64) (gm : Int64) (gb : Int64) (p0 : Nat) (lf : Int32) (ir : Int32) (ln : Int64) (qL : Nat → Nat) (kL : Nat → ClassId) (rows : Nat → Int64) (lens : Nat → Int32) (psz : Int32) (qK : Nat → Nat) (kK : Nat → ClassId) (vals : Nat → Int32) (hold : Int64) (call : Int32) (f0 : Nat) (fio : Int64) (fqu : Int32) (fal : Int32) (fco : Int32) (fgu : Int32) (qY : Nat → Nat) (kY : Nat → ClassId) (ft : Nat → Int32) (fs : Int32) (qs : Int32) (als : Int32) (cs : Int32) (ps : Int32) (wire : Int32) (alo : Int32) : List.map Prod.fst (rolW r0 ri rs kS sl qC kC pr nx ns csz s0 qT kT kinds names seeds ones ofk sz there awake grp gm gb p0 lf ir ln qL kL rows lens psz qK kK vals hold call f0 fio fqu fal fco fgu qY kY ft fs qs als cs ps wire alo) = [r0, rs, qC 0, qC 1, qC 2, s0, qT 0, qT 1, qT 2, qT 3, qT 4, qT 5, p0, qL 0, qL 1, qL 2, qK 0, qK 1, f0, qY 0, qY 1] := rfl
