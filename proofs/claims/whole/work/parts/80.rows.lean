section AWP
variable {p : Program} {l : Launch} {e : Env} {R : Room} {s : State} {m : MethodId} {args : Array Value} {below : List Frame} {meth : Method} {c : Code} {cc : ByteArray} {nL : Nat} {ret : Option FieldType} {own : String} {D : va_G} {tys : List (ClassId × FieldType)} {A : Nat → Prop} {cells slots : Nat} {Q : State → Prop} {pc : Nat} {lv : List (Nat × Value)} {st : List Value} {ws : va_W}
theorem P_mem {D : va_G} {cl : List vw_C} {ws : va_W} {H : Heap} : va_P D cl ws H ↔ ∀ q ∈ ws, va_at D cl q H := by
  constructor
  · intro h q hq
    obtain ⟨k, hk⟩ := List.getElem?_of_mem hq
    exact h k q hk
  · intro h k q hk
    exact h q (List.mem_of_getElem? hk)
theorem D_nodup {A : Nat → Prop} {ws : va_W} : va_D A ws ↔ (ws.map Prod.fst).Nodup ∧ ∀ q ∈ ws, A q.1 := by
  constructor
  · intro h
    refine ⟨?_, fun q hq => ?_⟩
    · refine List.pairwise_iff_getElem.mpr (fun i j hi hj hij he => ?_)
      have hi' : i < ws.length := by simpa using hi
      have hj' : j < ws.length := by simpa using hj
      rw [List.getElem_map, List.getElem_map] at he
      have := h.1 i j ws[i] ws[j] (List.getElem?_eq_getElem hi') (List.getElem?_eq_getElem hj') he
      omega
    · obtain ⟨k, hk⟩ := List.getElem?_of_mem hq
      exact h.2 k q hk
  · intro h
    refine ⟨fun i j p q hi hj hpq => ?_, fun k q hk => h.2 q (List.mem_of_getElem? hk)⟩
    have li : i < (ws.map Prod.fst).length := by
      rw [List.length_map]
      exact (List.getElem?_eq_some_iff.mp hi).1
    exact (List.getElem?_inj li h.1).mp (by rw [List.getElem?_map, List.getElem?_map, hi, hj]; exact congrArg some hpq)
theorem P_perm {D : va_G} {cl : List vw_C} {ws ws' : va_W} {H : Heap} (hp : ws.Perm ws') (h : va_P D cl ws H) : va_P D cl ws' H := P_mem.mpr (fun q hq => P_mem.mp h q (hp.symm.subset hq))
theorem D_perm {A : Nat → Prop} {ws ws' : va_W} (hp : ws.Perm ws') (h : va_D A ws) : va_D A ws' := by
  obtain ⟨h1, h2⟩ := D_nodup.mp h
  exact D_nodup.mpr ⟨(hp.map Prod.fst).nodup_iff.mp h1, fun q hq => h2 q (hp.symm.subset hq)⟩
theorem aw_perm {ws' : va_W} (hp : ws.Perm ws') (k : AW p l e R s m args below meth c D A nL cells slots Q pc lv st ws') : AW p l e R s m args below meth c D A nL cells slots Q pc lv st ws := fun H locs ls h1 h2 h3 hl => k H locs ls (P_perm hp h1) (D_perm hp h2) h3 hl
theorem aw_lvs {lv' : List (Nat × Value)} (is : List Nat) (h : is.filterMap (fun i => lv[i]?) = lv') (k : AW p l e R s m args below meth c D A nL cells slots Q pc lv' st ws) : AW p l e R s m args below meth c D A nL cells slots Q pc lv st ws := fun H locs ls h1 h2 h3 hl => k H locs ls h1 h2 h3 (lv_sub hl is h)
theorem KK.mem {tys' : List (ClassId × FieldType)} {U : State} (h : KK D tys U) (hs : ∀ x ∈ tys', x ∈ tys) : KK D tys' U := ⟨⟨h.1.1, fun k q hk => by
  obtain ⟨j, hj⟩ := List.getElem?_of_mem (hs q (List.mem_of_getElem? hk))
  exact h.1.2 j q hj⟩, h.2⟩
theorem tl_map (wr wc : va_W) : ((List.range wc.length).map (· + wr.length)).map (fun i => (wr ++ wc)[i]?) = wc.map some := by
  apply List.ext_getElem?
  intro i
  rw [List.getElem?_map, List.getElem?_map, List.getElem?_map]
  by_cases h : i < wc.length
  · rw [List.getElem?_range h, Option.map_some, Option.map_some, List.getElem?_append_right (by omega), show i + wr.length - wr.length = i by omega, List.getElem?_eq_getElem h]
    rfl
  · rw [List.getElem?_eq_none (by simp; omega), List.getElem?_eq_none (by omega)]
    rfl
theorem hd_map (wr wc : va_W) : (List.range wr.length).map (fun i => (wr ++ wc)[i]?) = wr.map some := by
  apply List.ext_getElem?
  intro i
  rw [List.getElem?_map, List.getElem?_map]
  by_cases h : i < wr.length
  · rw [List.getElem?_range h, Option.map_some, List.getElem?_append_left h, List.getElem?_eq_getElem h]
    rfl
  · rw [List.getElem?_eq_none (by simp; omega), List.getElem?_eq_none (by omega)]
    rfl
theorem tl_nd (n k : Nat) : va_nd ((List.range n).map (· + k)) = true := by
  refine nd_of _ ?_
  exact List.Pairwise.map (S := fun a b => a ≠ b) (· + k) (fun a b h e => h (by simpa using e)) List.nodup_range
/-- a contract that answers and may make cells -/
def MJ (l : Launch) (D : va_G) (y : MethodName) (wsy : List Cond) (rm : Room) (mc ms : Nat) (As : List Value) (tys : List (ClassId × FieldType)) (w : va_W) (r : Option Value) (B : va_W → List (ClassId × FieldType) → Prop) : Prop :=
  ∀ sz : Nat, Met l y wsy rm (va_Pc As (fun U => U.heap.size = sz ∧ va_P D vwCl w U.heap ∧ KK D tys U ∧ va_D (fun _ => True) w)) (fun _ st oc t => (oc = .returned r ∧ ∃ (w' : va_W) (tys' : List (ClassId × FieldType)), B w' tys' ∧ va_P D vwCl w' t.heap ∧ KK D tys' t ∧ va_D (va_A w sz) w') ∧ va_F (va_A w sz) st t) mc ms (va_A w sz)
def FJ (below : List Frame) (args : Array Value) (s : State) (D : va_G) (A : Nat → Prop) (r : Option Value) (B : va_W → List (ClassId × FieldType) → Prop) (mc ms : Nat) : State → Prop := MQ below (fun _ st oc t => (oc = .returned r ∧ ∃ (w' : va_W) (tys' : List (ClassId × FieldType)), B w' tys' ∧ va_P D vwCl w' t.heap ∧ KK D tys' t ∧ va_D A w') ∧ va_F A st t) args s mc ms A
theorem MJ.of {y : MethodName} {rm : Room} {mc ms : Nat} {As : List Value} {w : va_W} {r : Option Value} {B : va_W → List (ClassId × FieldType) → Prop} (hy : plainName y.cls = true) (hlv : lv_args 0 As = lv) (hn : (lg_sl As).length ≤ nL)
    (body : ∀ (p : Program) (e : Env) (s : State) (m : MethodId) (args : Array Value) (below : List Frame) (meth : Method) (c : Code) (A : Nat → Prop) (Q : State → Prop), Q = FJ below args s D A r B mc ms → Cx p s m args meth c cc nL ret y.cls D tys A → AW p l e rm s m args below meth c D A nL 0 0 Q 0 lv [] w) : MJ l D y (Cond.code y cc nL ret :: TT) rm mc ms As tys w r B := by
  intro sz
  refine Met.ofW (cc := cc) (maxL := nL) (ret := ret) hy rfl ?_
  intro p e s m args below meth c s₁ B hml hv
  obtain ⟨rfl, hsz, hP, hK, hD0⟩ := hv
  have hts := atoms_spec (ws := Cond.code y cc nL ret :: TT) B.pre
  have hown : s.vm.findClass y.cls = some m.cls := findClass_of_methodNamed B.named
  subst hsz
  have hD := hD0.self (sz := s.heap.size)
  have hl := lv_entry As (n := nL) hn
  rw [lg_entry_eq]
  rw [hlv] at hl
  exact body p e s m _ below meth c (va_A w s.heap.size) _ rfl ⟨⟨B.exec, B.bytes, hml, hown, fun w hw => hts w (List.mem_cons_of_mem _ hw)⟩, B.returns, B.notSynchronized, hK, fun q h => Or.inr h⟩ s.heap [] _ hP hD va_S.rf hl
theorem aw_zretJ {r : Option Value} {B : va_W → List (ClassId × FieldType) → Prop} {mc ms : Nat} (X : Cx p s m args meth c cc nL (some .boolean) own D tys A) {v : Int32} (hn : narrow .boolean (.int v) = .int v) (hQ : Q = FJ below args s D A r B mc ms) (hr : r = some (.int v)) (hB : B ws tys) (hd : decode cc pc = .ok (.ireturn, 1)) : AW p l e R s m args below meth c D A nL mc ms Q pc lv [.int v] ws := by
  subst hQ; subst hr
  exact fun H locs ls h1 h2 h3 hl => W.zret X.1.1 X.1.2.1 X.2.1 hn (fun t ht hW => ⟨⟨rfl, ws, tys, hB, by rw [ht]; exact h1, X.2.2.2.1.warm hW, h2⟩, h3.F ht⟩) h3.2.2 hd X.2.2.1
/-- a call whose callee's world is a part of ours, and may grow -/
theorem aw_callJ (X : Cx p s m args meth c cc nL ret own D tys A) {yc : MethodName} {ccc : ByteArray} {nLc : Nat} {retc : Option FieldType} {rm : Room} {As0 rest st0 : List Value} {tysC : List (ClassId × FieldType)} {wc wr : va_W} {r : Option Value} {b ci q1 : Nat} {fs : List Value} {B : va_W → List (ClassId × FieldType) → Prop} {mc ms index n : Nat} (hM : MJ l D yc (Cond.code yc ccc nLc retc :: TT) rm mc ms (.ref b :: As0) tysC wc r B) (hst : st0 = As0.reverse ++ .ref b :: rest) (hws : ws.Perm (wr ++ wc)) (hti : ∀ x ∈ tysC, x ∈ tys) (hcl : ∃ T N, vwCl[ci]? = some (yc.cls, T, N)) (he : wc[q1]? = some (b, .inr (ci, fs)))
    (hg : ∀ w ∈ ([.methodLink own index yc, .instanceMethod yc, .selects yc.cls yc yc, .initialized yc.cls] : List Cond), w ∈ TT) (hg2 : Cond.code yc ccc nLc retc ∈ TT) (hd1 : yc.cls ≠ "java/lang/invoke/MethodHandle" ∧ yc.cls ≠ "java/lang/invoke/VarHandle" ∧ (parseMethodDescriptor yc.desc).map (fun d => d.parameters.length) = some n) (hR : rm.frames + 1 ≤ R.frames ∧ 8 + (nLc + 11) + rm.locals ≤ R.locals) (hc0 : cells + mc ≤ R.cells ∧ slots + ms ≤ R.slots) (hcm : rm.cells = mc ∧ rm.slots = ms) (hlen : As0.length = n) (hcat : (rest.map fun v => v.category).sum ≤ 8) (hd : decode cc pc = .ok (.invokevirtual index, 3))
    {st' : List Value} (hst' : r.toList ++ rest = st') (k : ∀ (w' : va_W) (tys' : List (ClassId × FieldType)), B w' tys' → Cx p s m args meth c cc nL ret own D (tys ++ tys') A → AW p l e R s m args below meth c D A nL (cells + mc) (slots + ms) Q (pc + 3) lv st' (wr ++ w')) : AW p l e R s m args below meth c D A nL cells slots Q pc lv st0 ws := by
  subst hst; subst hst'
  refine aw_perm hws ?_
  obtain ⟨T9, N9, hcl⟩ := hcl
  intro H locs ls hP hD hS hl T hT X1
  have hC := tl_map wr wc
  have hP1 : va_P D vwCl wc H := hP.sub _ (w_fm hC)
  have hD1 : va_D A wc := hD.sub _ (tl_nd wc.length wr.length) hC
  have run := va_runV (As := As0) (rest := rest) (g := F0 m pc ls (As0.reverse ++ .ref b :: rest)) (locs := locs) (cells := cells) (slots := slots) (p := p) (l := l) (e := e) (below := below) (meth := meth) X.1 (hM H.size) (cwV n X.1.2.2.2.2 (gL_mk hg hg2) rfl hcm.1 hcm.2 ⟨rfl, hd1⟩ hR) ⟨fun a U g mk q => by obtain ⟨q0, q1, qP, qK, qD⟩ := q; exact ⟨q0, q1, qP, qK.same, qD⟩, va_recv X.2.2.2.1.1 hP1 hcl he, fun U hU hW => ⟨rfl, by rw [hU], by rw [hU]; exact hP1, (X.2.2.2.1.mem hti).warm hW, hD1.weaken (fun _ _ _ _ => trivial)⟩⟩ rfl hlen hl.1 rfl (lv_room hcat) hd hc0
  obtain ⟨v, st₀, t, T', L, g0, X', hL, e1, e2, ⟨⟨hv, w', tys', hB, hp, hkk, hd'⟩, hz, hk⟩, hst⟩ := run T hT X1
  cases hv
  rw [g0] at hz hk
  have hF := va_free (wc := wc) hD hS X.2.2.2.2 _ hC
  obtain ⟨hPj, hDj⟩ := va_join (wr := wr) (w1 := w') (wc := wc) hP hD _ (List.range wr.length) hC (hd_map wr wc) (nd_of _ List.nodup_range) (fun i hi => by simp at hi ⊢; omega) hk hF hp hd'
  have hS' : va_S A s.heap t.heap (locs ++ L) := ⟨Nat.le_trans hS.1 hz, fun q a1 a2 => by rw [hk q (Nat.lt_of_lt_of_le a1 hS.1) (fun z => a2 (hF q z))]; exact hS.2.1 q a1 a2, fun q hq => by
      rcases List.mem_append.mp hq with a1 | a1
      · exact hS.2.2 q a1
      · exact hF _ (hL q a1)⟩
  have hal : s.vm.Alike t.vm := by rw [← e2]; exact X'.warmed.alike
  have hK' : KK D (tys ++ tys') s := ⟨X.2.2.2.1.1.app (va_K.moved hal.symm hkk.1), X.2.2.2.1.2⟩
  obtain ⟨t2, a1, b1⟩ := k w' tys' hB (X.more hK') t.heap (locs ++ L) ls hPj hDj hS' hl T' e1 X'
  exact ⟨t2, hst t2 a1, b1⟩
/-- a call whose callee's world is a part of ours -/
theorem aw_callP (X : Cx p s m args meth c cc nL ret own D tys A) {yc : MethodName} {ccc : ByteArray} {nLc : Nat} {retc : Option FieldType} {rm : Room} {As As0 rest st0 : List Value} {tysC : List (ClassId × FieldType)} {wc wc' wr ws' : va_W} {r : Option Value} {b ci q1 : Nat} {fs : List Value} {index n : Nat} (hM : MW l D yc (Cond.code yc ccc nLc retc :: TT) rm As tysC wc r wc') (hAs : As = .ref b :: As0) (hst : st0 = As0.reverse ++ .ref b :: rest) (hws : ws.Perm (wr ++ wc)) (hws' : (wr ++ wc').Perm ws') (hti : ∀ x ∈ tysC, x ∈ tys) (hcl : ∃ T N, vwCl[ci]? = some (yc.cls, T, N)) (he : wc[q1]? = some (b, .inr (ci, fs)))
    (hg : ∀ w ∈ ([.methodLink own index yc, .instanceMethod yc, .selects yc.cls yc yc, .initialized yc.cls] : List Cond), w ∈ TT) (hg2 : Cond.code yc ccc nLc retc ∈ TT) (hd1 : yc.cls ≠ "java/lang/invoke/MethodHandle" ∧ yc.cls ≠ "java/lang/invoke/VarHandle" ∧ (parseMethodDescriptor yc.desc).map (fun d => d.parameters.length) = some n) (hR : rm.frames + 1 ≤ R.frames ∧ 8 + (nLc + 11) + rm.locals ≤ R.locals) (hc0 : cells ≤ R.cells ∧ slots ≤ R.slots) (hcm : rm.cells = 0 ∧ rm.slots = 0) (hlen : As0.length = n) (hcat : (rest.map fun v => v.category).sum ≤ 8) (hd : decode cc pc = .ok (.invokevirtual index, 3))
    {st' : List Value} (hst' : r.toList ++ rest = st') (k : AW p l e R s m args below meth c D A nL cells slots Q (pc + 3) lv st' ws') : AW p l e R s m args below meth c D A nL cells slots Q pc lv st0 ws := by
  subst hst; subst hst'; subst hAs
  refine aw_perm hws ?_
  obtain ⟨T9, N9, hcl⟩ := hcl
  intro H locs ls hP hD hS hl T hT X1
  have hC := tl_map wr wc
  have hP1 : va_P D vwCl wc H := hP.sub _ (w_fm hC)
  have hD1 : va_D A wc := hD.sub _ (tl_nd wc.length wr.length) hC
  have run := va_runV (As := As0) (rest := rest) (g := F0 m pc ls (As0.reverse ++ .ref b :: rest)) (locs := locs) (cells := cells) (slots := slots) (p := p) (l := l) (e := e) (below := below) (meth := meth) X.1 (hM.2 H.size) (cwV n X.1.2.2.2.2 (gL_mk hg hg2) rfl hcm.1 hcm.2 ⟨rfl, hd1⟩ hR) ⟨fun a U g mk q => by obtain ⟨q0, q1, qP, qK, qD⟩ := q; exact ⟨q0, q1, qP, qK.same, qD⟩, va_recv X.2.2.2.1.1 hP1 hcl he, fun U hU hW => ⟨rfl, by rw [hU], by rw [hU]; exact hP1, (X.2.2.2.1.mem hti).warm hW, hD1.weaken (fun _ _ _ _ => trivial)⟩⟩ rfl hlen hl.1 rfl (lv_room hcat) hd hc0
  obtain ⟨v, st₀, t, T', L, g0, X', hL, e1, e2, ⟨⟨hv, hp⟩, hz, hk⟩, hst⟩ := run T hT X1
  cases hv
  rw [g0] at hz hk
  have hF := va_free (wc := wc) hD hS X.2.2.2.2 _ hC
  obtain ⟨hPj, hDj⟩ := va_join (wr := wr) (w1 := wc') (wc := wc) hP hD _ (List.range wr.length) hC (hd_map wr wc) (nd_of _ List.nodup_range) (fun i hi => by simp at hi ⊢; omega) hk hF hp (D_of_fst hD1.self hM.1)
  have hS' : va_S A s.heap t.heap (locs ++ L) := ⟨Nat.le_trans hS.1 hz, fun q a1 a2 => by rw [hk q (Nat.lt_of_lt_of_le a1 hS.1) (fun z => a2 (hF q z))]; exact hS.2.1 q a1 a2, fun q hq => by
      rcases List.mem_append.mp hq with a1 | a1
      · exact hS.2.2 q a1
      · exact hF _ (hL q a1)⟩
  obtain ⟨t2, a1, b1⟩ := k t.heap (locs ++ L) ls (P_perm hws' hPj) (D_perm hws' hDj) hS' hl T' e1 X'
  exact ⟨t2, hst t2 a1, b1⟩
theorem aw_aldq (X : Cx p s m args meth c cc nL ret own D tys A) (q0 : Nat) {cA : ClassId} {C : String} {n a : Nat} {f : Nat → Option Nat} {i : Int32} {v : Value} (j : Nat) (hi : i = nI j) (ha : ws[q0]? = some (a, .inl (cA, n, .inr (.inr (.inr (.inr f)))))) (ht : (cA, FieldType.object C) ∈ tys) (hn : n < 2 ^ 31) (hj : j < n) (hv : va_rf (f j) = v) (hd : decode cc pc = .ok (.aaload, 1)) (k : AW p l e R s m args below meth c D A nL cells slots Q (pc + 1) lv (v :: st) ws) : AW p l e R s m args below meth c D A nL cells slots Q pc lv (.int i :: .ref a :: st) ws := by
  subst hi; subst hv
  obtain ⟨t0, ht0⟩ := List.getElem?_of_mem ht
  intro H locs ls h1 h2 h3 hl
  refine va_aldq X.1.1 X.1.2.1 X.2.2.2.1.1 h1 q0 t0 ha ht0 (vp_in_nI hj (by omega)) hd ?_
  rw [nI_clamp (by omega)]
  exact k H locs ls h1 h2 h3 hl
theorem aw_astq (X : Cx p s m args meth c cc nL ret own D tys A) (q0 qk ci : Nat) {cA : ClassId} {r : vw_C} {n a v : Nat} {vs : List Value} {f : Nat → Option Nat} {i : Int32} {ws' : va_W} (j : Nat) (hi : i = nI j) (ha : ws[q0]? = some (a, .inl (cA, n, .inr (.inr (.inr (.inr f)))))) (ht : (cA, FieldType.object r.1) ∈ tys) (hv : ws[qk]? = some (v, .inr (ci, vs))) (hc : vwCl[ci]? = some r) (hn : n < 2 ^ 31) (hj : j < n) (hws : ws.set q0 (a, .inl (cA, n, .inr (.inr (.inr (.inr (va_up f j (some v))))))) = ws') (hd : decode cc pc = .ok (.aastore, 1)) (k : AW p l e R s m args below meth c D A nL cells slots Q (pc + 1) lv st ws') : AW p l e R s m args below meth c D A nL cells slots Q pc lv (.ref v :: .int i :: .ref a :: st) ws := by
  subst hi; subst hws
  obtain ⟨t0, ht0⟩ := List.getElem?_of_mem ht
  intro H locs ls h1 h2 h3 hl
  refine va_astq X.1.1 X.1.2.1 X.2.2.2.1.1 h1 h2 h3 q0 t0 qk ci ha ht0 hv hc (vp_in_nI hj (by omega)) hd (fun H1 locs1 g1 g2 g3 => ?_)
  rw [nI_clamp (by omega)] at g1 g2
  exact k H1 locs1 ls g1 g2 g3 hl
theorem aw_aload_nN (X : Cx p s m args meth c cc nL ret own D tys A) {kk : Fin 4} (j : Nat) {i : Nat} (hj : lv[j]? = some (i, .null)) (hi : (kk : Nat) = i) (hd : decode cc pc = .ok (.aload_n kk, 1)) (k : AW p l e R s m args below meth c D A nL cells slots Q (pc + 1) lv (.null :: st) ws) : AW p l e R s m args below meth c D A nL cells slots Q pc lv st ws := fun H locs ls h1 h2 h3 hl => lv_aload_nN X.1.1 X.1.2.1 hd hi (lv_at hl j hj) (k H locs ls h1 h2 h3 hl)
theorem aw_astore_nN (X : Cx p s m args meth c cc nL ret own D tys A) {kk : Fin 4} {i : Nat} {lv' : List (Nat × Value)} (hi : (kk : Nat) = i) (hn : i < nL) (hl' : (i, Value.null) :: lv.filter (fun q => !(q.1 == i) && !(q.1 + 1 == i && q.2.category == 2)) = lv') (hd : decode cc pc = .ok (.astore_n kk, 1)) (k : AW p l e R s m args below meth c D A nL cells slots Q (pc + 1) lv' st ws) : AW p l e R s m args below meth c D A nL cells slots Q pc lv (.null :: st) ws := fun H locs ls h1 h2 h3 hl => lv_astore_nN X.1.1 X.1.2.1 hd hi hl hn hl' (fun ls' hl2 => k H locs ls' h1 h2 h3 hl2)
theorem aw_ifnonnull (X : Cx p s m args meth c cc nL ret own D tys A) {x : Nat} {off : Int} {tgt : Nat} (ht : (pc : Int) + off = (tgt : Int)) (hd : decode cc pc = .ok (.ifnonnull off, 3)) (k : AW p l e R s m args below meth c D A nL cells slots Q tgt lv st ws) : AW p l e R s m args below meth c D A nL cells slots Q pc lv (.ref x :: st) ws := fun H locs ls h1 h2 h3 hl => lv_ifnonnull X.1.1 X.1.2.1 hd ht (k H locs ls h1 h2 h3 hl)
theorem aw_ifnonnullN (X : Cx p s m args meth c cc nL ret own D tys A) {off : Int} (hd : decode cc pc = .ok (.ifnonnull off, 3)) (k : AW p l e R s m args below meth c D A nL cells slots Q (pc + 3) lv st ws) : AW p l e R s m args below meth c D A nL cells slots Q pc lv (.null :: st) ws := fun H locs ls h1 h2 h3 hl => lv_ifnonnullN X.1.1 X.1.2.1 hd (k H locs ls h1 h2 h3 hl)
theorem aw_sld (X : Cx p s m args meth c cc nL ret own D tys A) {b L : Nat} {xs : Nat → Int32} (hX : va_X b L xs s s.heap) (hbl : b < s.heap.size) (hbA : ¬ A b) {i : Int32} (j : Nat) (hi : i = nI j) (hj : j < L) (hL : L < 2 ^ 31) (hd : decode cc pc = .ok (.iaload, 1)) (k : AW p l e R s m args below meth c D A nL cells slots Q (pc + 1) lv (.int (xs j) :: st) ws) : AW p l e R s m args below meth c D A nL cells slots Q pc lv (.int i :: .ref b :: st) ws := by
  subst hi
  intro H locs ls h1 h2 h3 hl
  refine va_sld X.1.1 X.1.2.1 hX hbl hbA h3 (vp_in_nI hj (by omega)) hd ?_
  rw [nI_clamp (by omega)]
  exact k H locs ls h1 h2 h3 hl
theorem aw_slen (X : Cx p s m args meth c cc nL ret own D tys A) {b L : Nat} {xs : Nat → Int32} (hX : va_X b L xs s s.heap) (hbl : b < s.heap.size) (hbA : ¬ A b) (hd : decode cc pc = .ok (.arraylength, 1)) (k : AW p l e R s m args below meth c D A nL cells slots Q (pc + 1) lv (.int (nI L) :: st) ws) : AW p l e R s m args below meth c D A nL cells slots Q pc lv (.ref b :: st) ws := fun H locs ls h1 h2 h3 hl => va_slen X.1.1 X.1.2.1 hX hbl hbA h3 hd (k H locs ls h1 h2 h3 hl)
end AWP
