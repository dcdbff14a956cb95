section AWI
theorem za_int (N : Nat) (cA : ClassId) : vp_cell cA (N, .inl (fun _ => 0)) = arrV cA N (fun _ => defaultValue .int) := rfl
theorem za_boolean (N : Nat) (cA : ClassId) : vp_cell cA (N, .inl (fun _ => 0)) = arrV cA N (fun _ => defaultValue .boolean) := rfl
theorem za_long (N : Nat) (cA : ClassId) : vp_cell cA (N, .inr (.inl (fun _ => 0))) = arrV cA N (fun _ => defaultValue .long) := rfl
/-- a maker's contract: from the world w it returns, and the world is one of which B speaks (with the classes of its arrays) -/
def MI (l : Launch) (D : va_G) (y : MethodName) (wsy : List Cond) (rm : Room) (mc ms : Nat) (As : List Value) (tys : List (ClassId × FieldType)) (w : va_W) (B : va_W → List (ClassId × FieldType) → Prop) : Prop :=
  ∀ sz : Nat, Met l y wsy rm (va_Pc As (fun U => U.heap.size = sz ∧ va_P D vwCl w U.heap ∧ KK D tys U ∧ va_D (fun _ => True) w)) (fun _ st oc t => (oc = .returned none ∧ ∃ (w' : va_W) (tys' : List (ClassId × FieldType)), B w' tys' ∧ va_P D vwCl w' t.heap ∧ KK D tys' t ∧ va_D (va_A w sz) w') ∧ va_F (va_A w sz) st t) mc ms (va_A w sz)
def FI (below : List Frame) (args : Array Value) (s : State) (D : va_G) (A : Nat → Prop) (B : va_W → List (ClassId × FieldType) → Prop) (mc ms : Nat) : State → Prop := MQ below (fun _ st oc t => (oc = .returned none ∧ ∃ (w' : va_W) (tys' : List (ClassId × FieldType)), B w' tys' ∧ va_P D vwCl w' t.heap ∧ KK D tys' t ∧ va_D A w') ∧ va_F A st t) args s mc ms A
theorem MI.of {l : Launch} {D : va_G} {y : MethodName} {rm : Room} {mc ms : Nat} {As : List Value} {tys : List (ClassId × FieldType)} {w : va_W} {B : va_W → List (ClassId × FieldType) → Prop} {cc : ByteArray} {nL : Nat} {ret : Option FieldType} {lv : List (Nat × Value)} (hy : plainName y.cls = true) (hi : y.name = "<init>") (hlv : lv_args 0 As = lv) (hn : (lg_sl As).length ≤ nL)
    (body : ∀ (p : Program) (e : Env) (s : State) (m : MethodId) (args : Array Value) (below : List Frame) (meth : Method) (c : Code) (A : Nat → Prop) (Q : State → Prop), Q = FI below args s D A B mc ms → meth.name = "<init>" → Cx p s m args meth c cc nL ret y.cls D tys A → AW p l e rm s m args below meth c D A nL 0 0 Q 0 lv [] w) : MI l D y (Cond.code y cc nL ret :: TT) rm mc ms As tys w B := by
  intro sz
  refine Met.ofW (cc := cc) (maxL := nL) (ret := ret) hy rfl ?_
  intro p e s m args below meth c s₁ B hml hv
  obtain ⟨rfl, hsz, hP, hK, hD0⟩ := hv
  have hts := atoms_spec (ws := Cond.code y cc nL ret :: TT) B.pre
  have hown : s.vm.findClass y.cls = some m.cls := findClass_of_methodNamed B.named
  have hin : meth.name = "<init>" := (name_of_methodNamed B.named B.method).1.trans hi
  subst hsz
  have hD := hD0.self (sz := s.heap.size)
  have hl := lv_entry As (n := nL) hn
  rw [lg_entry_eq]
  rw [hlv] at hl
  exact body p e s m _ below meth c (va_A w s.heap.size) _ rfl hin ⟨⟨B.exec, B.bytes, hml, hown, fun w hw => hts w (List.mem_cons_of_mem _ hw)⟩, B.returns, B.notSynchronized, hK, fun q h => Or.inr h⟩ s.heap [] _ hP hD va_S.rf hl
variable {p : Program} {l : Launch} {e : Env} {R : Room} {s : State} {m : MethodId} {args : Array Value} {below : List Frame} {meth : Method} {c : Code} {cc : ByteArray} {nL : Nat} {ret : Option FieldType} {own : String} {D : va_G} {tys : List (ClassId × FieldType)} {A : Nat → Prop} {cells slots : Nat} {Q : State → Prop} {pc : Nat} {lv : List (Nat × Value)} {st : List Value} {ws : va_W}
theorem aw_cret {B : va_W → List (ClassId × FieldType) → Prop} {mc ms : Nat} (X : Cx p s m args meth c cc nL none own D tys A) (hQ : Q = FI below args s D A B mc ms) (hB : B ws tys) (hd : decode cc pc = .ok (.return_, 1)) : AW p l e R s m args below meth c D A nL mc ms Q pc lv [] ws := by
  subst hQ
  exact fun H locs ls h1 h2 h3 hl => W.vret X.1.1 X.1.2.1 X.2.1 (fun t ht hW => ⟨⟨rfl, ws, tys, hB, by rw [ht]; exact h1, X.2.2.2.1.warm hW, h2⟩, h3.F ht⟩) h3.2.2 hd X.2.2.1
theorem aw_widen {k n : Nat} (h1 : cells ≤ k) (h2 : slots ≤ n) (kk : AW p l e R s m args below meth c D A nL k n Q pc lv st ws) : AW p l e R s m args below meth c D A nL cells slots Q pc lv st ws := fun H locs ls a1 a2 a3 hl => W.widen h1 h2 (kk H locs ls a1 a2 a3 hl)
theorem aw_objInit (X : Cx p s m args meth c cc nL ret own D tys A) {a idx : Nat} (hg : ∀ w ∈ ([.methodLink own idx objectInit, .instanceMethod objectInit, .code objectInit ⟨#[0xb1]⟩ 1 none] : List Cond), w ∈ TT) (hfr : 1 ≤ R.frames) (hst : st = []) (hlo : 12 ≤ R.locals) (hd : decode cc pc = .ok (.invokespecial idx, 3)) (k : AW p l e R s m args below meth c D A nL cells slots Q (pc + 3) lv st ws) : AW p l e R s m args below meth c D A nL cells slots Q pc lv (.ref a :: st) ws := by
  subst hst
  intro H locs ls h1 h2 h3 hl
  refine W.objInit X.1.1 X.1.2.1 X.1.2.2.2.1 (X.1.2.2.2.2 _ (hg _ List.mem_cons_self)) (X.1.2.2.2.2 _ (hg _ (List.mem_cons_of_mem _ List.mem_cons_self))) (X.1.2.2.2.2 _ (hg _ (List.mem_cons_of_mem _ (List.mem_cons_of_mem _ List.mem_cons_self)))) rfl (hl.1.trans X.1.2.2.1.symm) rfl hd hfr (by show 2 * 0 + 0 + 12 ≤ R.locals; omega) ?_
  exact k H locs ls h1 h2 h3 hl
theorem Cx.more {tys' : List (ClassId × FieldType)} (X : Cx p s m args meth c cc nL ret own D tys A) (h : KK D tys' s) : Cx p s m args meth c cc nL ret own D tys' A := ⟨X.1, X.2.1, X.2.2.1, h, X.2.2.2.2⟩
theorem aw_newa (X : Cx p s m args meth c cc nL ret own D tys A) {atype : ArrayType} {ty : FieldType} (harr : Cond.arrayClass (newarray.typeOf atype) ∈ TT) (hty : newarray.typeOf atype = ty) {x : Int32} (N : Nat) {a0 : vp_A} (hx : x = nI N) (hN : N < 2 ^ 20) (hb : componentBytes ty ≤ 8) (ha : ∀ cA : ClassId, vp_cell cA a0 = arrV cA N (fun _ => defaultValue ty)) (hcells : cells + 1 ≤ R.cells) (hslots : slots + N ≤ R.slots) (hd : decode cc pc = .ok (.newarray atype, 2))
    (k : ∀ (q : Nat) (cA : ClassId), Cx p s m args meth c cc nL ret own D (tys ++ [(cA, ty)]) A → AW p l e R s m args below meth c D A nL (cells + 1) (slots + N) Q (pc + 2) lv (.ref q :: st) (ws ++ [(q, .inl (cA, a0))])) : AW p l e R s m args below meth c D A nL cells slots Q pc lv (.int x :: st) ws := by
  subst hx
  intro H locs ls h1 h2 h3 hl
  refine va_newa X.1.1 X.1.2.1 (X.1.2.2.2.2 _ harr) hty X.2.2.2.1.1 h1 h2 h3 X.2.2.2.2 ha (nI_pos (by omega)) (nI_clamp (by omega)) ?_ hcells hslots hd (fun q cA H1 g1 g2 g3 g4 => k q cA (X.more ⟨g1, X.2.2.2.1.2⟩) H1 locs ls g2 g3 g4 hl)
  have : N * componentBytes ty ≤ N * 8 := Nat.mul_le_mul_left N hb
  omega
theorem aw_new (X : Cx p s m args meth c cc nL ret own D tys A) {C : String} {T : u_T} {N ci index : Nat} {fs : List Value} (ty : Nat → FieldType) (hty : ∀ k, k < N → parseFieldDescriptor (T k).2.2.1 = some (ty k)) (hin : ∀ w ∈ u_ws C T N, w ∈ TT) (hg : ∀ w ∈ ([.classLink own index C, .instantiable C N, .initialized C] : List Cond), w ∈ TT) (hc : vwCl[ci]? = some (C, T, N)) (hfs : ∀ j, j < N → defaultValue (ty j) = vp_V fs j) (hcells : cells + 1 ≤ R.cells) (hslots : slots + N ≤ R.slots) (hd : decode cc pc = .ok (.new index, 3))
    (k : ∀ q : Nat, AW p l e R s m args below meth c D A nL (cells + 1) (slots + N) Q (pc + 3) lv (.ref q :: st) (ws ++ [(q, .inr (ci, fs))])) : AW p l e R s m args below meth c D A nL cells slots Q pc lv st ws := fun H locs ls h1 h2 h3 hl => va_new X.1.1 X.1.2.1 X.1.2.2.2.2 hin ty hty X.1.2.2.2.1 (X.1.2.2.2.2 _ (hg _ List.mem_cons_self)) (X.1.2.2.2.2 _ (hg _ (List.mem_cons_of_mem _ List.mem_cons_self))) (X.1.2.2.2.2 _ (hg _ (List.mem_cons_of_mem _ (List.mem_cons_of_mem _ List.mem_cons_self)))) X.2.2.2.1.1 h1 h2 h3 X.2.2.2.2 hc hfs hcells hslots hd (fun q H1 g1 g2 g3 => k q H1 locs ls g1 g2 g3 hl)
theorem aw_newq (X : Cx p s m args meth c cc nL ret own D tys A) {index : Nat} (hg : Cond.classLink own index RX5 ∈ TT) {x : Int32} (N : Nat) (hx : x = nI N) (hN : N < 2 ^ 20) (hcells : cells + 1 ≤ R.cells) (hslots : slots + N ≤ R.slots) (hd : decode cc pc = .ok (.anewarray index, 3))
    (k : ∀ (q : Nat) (cA : ClassId), Cx p s m args meth c cc nL ret own D (tys ++ [(cA, .object RX5)]) A → AW p l e R s m args below meth c D A nL (cells + 1) (slots + N) Q (pc + 3) lv (.ref q :: st) (ws ++ [(q, .inl (cA, N, .inr (.inr (.inr (.inr (fun _ => none))))))])) : AW p l e R s m args below meth c D A nL cells slots Q pc lv (.int x :: st) ws := by
  subst hx
  intro H locs ls h1 h2 h3 hl
  exact va_newq X.1.1 X.1.2.1 X.1.2.2.2.1 (X.1.2.2.2.2 _ hg) X.2.2.2.1.2.2 X.2.2.2.1.1 h1 h2 h3 X.2.2.2.2 (nI_pos (by omega)) (nI_clamp (by omega)) (by omega) hcells hslots hd (fun q cA H1 g1 g2 g3 g4 => k q cA (X.more ⟨g1, X.2.2.2.1.2⟩) H1 locs ls g2 g3 g4 hl)
theorem aw_putF (X : Cx p s m args meth c cc nL ret own D tys A) (hin2 : meth.name = "<init>") {C : String} {T : u_T} {N ci index a : Nat} {fs : List Value} {v : Value} {ty : FieldType} {ws' : va_W} (ty0 : Nat → FieldType) (hty : ∀ k, k < N → parseFieldDescriptor (T k).2.2.1 = some (ty0 k)) (hnm : ∀ a, a < N → ∀ b, b < N → a ≠ b → (T a).2.1 ≠ (T b).2.1) (hin : ∀ w ∈ u_ws C T N, w ∈ TT) (q0 : Nat) (k0 : Nat) (he : ws[q0]? = some (a, .inr (ci, fs))) (hc : vwCl[ci]? = some (C, T, N)) (hk : k0 < N) (hlink : Cond.fieldLink own index (T k0).1 (T k0).2.1 (T k0).2.2.1 ∈ TT) (hfin : (T k0).2.2.2 = true) (hdecl : (T k0).1 = own) (hdd : parseFieldDescriptor (T k0).2.2.1 = some ty) (hn : narrow ty v = v) (hfit : fits ty v = true) (hl0 : k0 < fs.length) (hws : ws.set q0 (a, .inr (ci, fs.set k0 v)) = ws') (hd : decode cc pc = .ok (.putfield index, 3)) (k : AW p l e R s m args below meth c D A nL cells slots Q (pc + 3) lv st ws') : AW p l e R s m args below meth c D A nL cells slots Q pc lv (v :: .ref a :: st) ws := by
  subst hws
  exact fun H locs ls h1 h2 h3 hl => va_putF X.1.1 X.1.2.1 X.1.2.2.2.2 hin ty0 hty hnm X.1.2.2.2.1 X.2.2.2.1.1 h1 h2 h3 q0 he hc k0 hk (X.1.2.2.2.2 _ hlink) (fun _ h9 => h9) hfin hin2 hdecl hdd hn hfit hl0 hd (fun H1 locs1 g1 g2 g3 => k H1 locs1 ls g1 g2 g3 hl)
theorem aw_wsub {ws' : va_W} (is : List Nat) (his : is.map (fun i => ws[i]?) = ws'.map some) (hnd : va_nd is = true) (k : AW p l e R s m args below meth c D A nL cells slots Q pc lv st ws') : AW p l e R s m args below meth c D A nL cells slots Q pc lv st ws := fun H locs ls h1 h2 h3 hl => k H locs ls (h1.sub is (w_fm his)) (h2.sub is hnd his) h3 hl
theorem nd_of : ∀ (l : List Nat), l.Nodup → va_nd l = true
  | [], _ => rfl
  | a :: l, h => by
    obtain ⟨h1, h2⟩ := List.nodup_cons.mp h
    show (decide (a ∉ l) && va_nd l) = true
    rw [nd_of l h2]
    simp [h1]
theorem rg_map (wr : va_W) (q : Nat × va_E) : (List.range wr.length).map (fun i => (wr ++ [q])[i]?) = wr.map some := by
  apply List.ext_getElem?
  intro i
  rw [List.getElem?_map, List.getElem?_map]
  by_cases h : i < wr.length
  · rw [List.getElem?_range h, Option.map_some, List.getElem?_append_left h, List.getElem?_eq_getElem h]
    rfl
  · rw [List.getElem?_eq_none (by simp; omega), List.getElem?_eq_none (by omega)]
    rfl
/-- a maker is called on the newest object -/
theorem aw_coreI (X : Cx p s m args meth c cc nL ret own D tys A) {wr : va_W} {cell : Nat × va_E} {B : va_W → List (ClassId × FieldType) → Prop} {mc ms : Nat} {rest st0 : List Value}
    (run : ∀ (H : Heap) (locs : List Loc) (ls : Array Slot), va_P D vwCl [cell] H → va_D (fun _ => True) [cell] → lv_has ls nL lv → va_Run p l e R s m args below meth c H locs cells slots mc ms (F0 m pc ls st0) rest (fun st oc t => (oc = .returned none ∧ ∃ (w' : va_W) (tys' : List (ClassId × FieldType)), B w' tys' ∧ va_P D vwCl w' t.heap ∧ KK D tys' t ∧ va_D (va_A [cell] H.size) w') ∧ va_F (va_A [cell] H.size) st t) (va_A [cell] H.size))
    (k : ∀ (w' : va_W) (tys' : List (ClassId × FieldType)), B w' tys' → Cx p s m args meth c cc nL ret own D (tys ++ tys') A → AW p l e R s m args below meth c D A nL (cells + mc) (slots + ms) Q (pc + 3) lv rest (wr ++ w')) : AW p l e R s m args below meth c D A nL cells slots Q pc lv st0 (wr ++ [cell]) := by
  intro H locs ls hP hD hS hl T hT X1
  have hC : [wr.length].map (fun i => (wr ++ [cell])[i]?) = [cell].map some := by simp
  have hP1 : va_P D vwCl [cell] H := hP.sub [wr.length] (by simp)
  have hD1 : va_D A [cell] := hD.sub [wr.length] rfl hC
  obtain ⟨v, st₀, t, T', L, g0, X', hL, e1, e2, ⟨⟨hv, w', tys', hB, hp, hkk, hd'⟩, hz, hk⟩, hst⟩ := run H locs ls hP1 (hD1.weaken (fun _ _ _ _ => trivial)) hl T hT X1
  cases hv
  rw [g0] at hz hk
  have hF := va_free (wc := [cell]) hD hS X.2.2.2.2 [wr.length] hC
  obtain ⟨hPj, hDj⟩ := va_join (wr := wr) (w1 := w') (wc := [cell]) hP hD [wr.length] (List.range wr.length) hC (rg_map wr cell) (nd_of _ List.nodup_range) (fun i hi => by simp at hi ⊢; omega) hk hF hp hd'
  have hS' : va_S A s.heap t.heap (locs ++ L) := ⟨Nat.le_trans hS.1 hz, fun q a1 a2 => by rw [hk q (Nat.lt_of_lt_of_le a1 hS.1) (fun z => a2 (hF q z))]; exact hS.2.1 q a1 a2, fun q hq => by
      rcases List.mem_append.mp hq with a1 | a1
      · exact hS.2.2 q a1
      · exact hF _ (hL q a1)⟩
  have hal : s.vm.Alike t.vm := by rw [← e2]; exact X'.warmed.alike
  have hK' : KK D (tys ++ tys') s := ⟨X.2.2.2.1.1.app (va_K.moved hal.symm hkk.1), X.2.2.2.1.2⟩
  obtain ⟨t2, a1, b1⟩ := k w' tys' hB (X.more hK') t.heap (locs ++ L) ls hPj hDj hS' hl T' e1 X'
  exact ⟨t2, hst t2 a1, b1⟩
theorem aw_callIN (X : Cx p s m args meth c cc nL ret own D tys A) {yc : MethodName} {ccc : ByteArray} {nLc : Nat} {rm : Room} {rest : List Value} {wr : va_W} {b ci : Nat} {fs : List Value} {B : va_W → List (ClassId × FieldType) → Prop} {mc ms index : Nat} (hM : MI l D yc (Cond.code yc ccc nLc none :: TT) rm mc ms [.ref b] [] [(b, .inr (ci, fs))] B) (hy1 : yc.name = "<init>")
    (hnn : (own, index, yc) ∈ nst) (hg : ∀ w ∈ ([.instanceMethod yc, .initialized yc.cls] : List Cond), w ∈ TT) (hg2 : Cond.code yc ccc nLc none ∈ TT) (hd1 : yc.cls ≠ "java/lang/invoke/MethodHandle" ∧ yc.cls ≠ "java/lang/invoke/VarHandle" ∧ (parseMethodDescriptor yc.desc).map (fun d => d.parameters.length) = some 0) (hR : rm.frames + 1 ≤ R.frames ∧ 8 + (nLc + 11) + rm.locals ≤ R.locals) (hc0 : cells + mc ≤ R.cells ∧ slots + ms ≤ R.slots) (hcm : rm.cells = mc ∧ rm.slots = ms) (hcat : (rest.map fun v => v.category).sum ≤ 8) (hd : decode cc pc = .ok (.invokespecial index, 3))
    (k : ∀ (w' : va_W) (tys' : List (ClassId × FieldType)), B w' tys' → Cx p s m args meth c cc nL ret own D (tys ++ tys') A → AW p l e R s m args below meth c D A nL (cells + mc) (slots + ms) Q (pc + 3) lv rest (wr ++ w')) : AW p l e R s m args below meth c D A nL cells slots Q pc lv (.ref b :: rest) (wr ++ [(b, .inr (ci, fs))]) := by
  refine aw_coreI X (fun H locs ls h1 h2 hl => ?_) k
  exact va_runIN (As := []) (rest := rest) X.1 (hM H.size) ⟨va_cnB 0 X.1.2.2.2.2 (gL_mk (small := []) (fun w h => absurd h List.not_mem_nil) hg2) rfl hcm.1 hcm.2 (X.2.2.2.1.2.1 _ hnn) (X.1.2.2.2.2 _ (hg _ (List.mem_cons_of_mem _ List.mem_cons_self))) hd1 hR, hy1, X.1.2.2.2.2 _ (hg _ List.mem_cons_self)⟩ ⟨fun a U g mk q => by obtain ⟨q0, q1, qP, qK, qD⟩ := q; exact ⟨q0, q1, qP, qK.same, qD⟩, fun U hU hW => ⟨rfl, by rw [hU], by rw [hU]; exact h1, (X.2.2.2.1.sub [] rfl).warm hW, h2⟩⟩ rfl rfl hl.1 rfl (lv_room hcat) hd hc0
theorem aw_callI (X : Cx p s m args meth c cc nL ret own D tys A) {yc : MethodName} {ccc : ByteArray} {nLc : Nat} {rm : Room} {rest : List Value} {wr : va_W} {b ci : Nat} {fs : List Value} {B : va_W → List (ClassId × FieldType) → Prop} {mc ms index : Nat} (hM : MI l D yc (Cond.code yc ccc nLc none :: TT) rm mc ms [.ref b] [] [(b, .inr (ci, fs))] B) (hy1 : yc.name = "<init>")
    (hg : ∀ w ∈ ([.methodLink own index yc, .instanceMethod yc, .initialized yc.cls] : List Cond), w ∈ TT) (hg2 : Cond.code yc ccc nLc none ∈ TT) (hd1 : yc.cls ≠ "java/lang/invoke/MethodHandle" ∧ yc.cls ≠ "java/lang/invoke/VarHandle" ∧ (parseMethodDescriptor yc.desc).map (fun d => d.parameters.length) = some 0) (hR : rm.frames + 1 ≤ R.frames ∧ 8 + (nLc + 11) + rm.locals ≤ R.locals) (hc0 : cells + mc ≤ R.cells ∧ slots + ms ≤ R.slots) (hcm : rm.cells = mc ∧ rm.slots = ms) (hcat : (rest.map fun v => v.category).sum ≤ 8) (hd : decode cc pc = .ok (.invokespecial index, 3))
    (k : ∀ (w' : va_W) (tys' : List (ClassId × FieldType)), B w' tys' → Cx p s m args meth c cc nL ret own D (tys ++ tys') A → AW p l e R s m args below meth c D A nL (cells + mc) (slots + ms) Q (pc + 3) lv rest (wr ++ w')) : AW p l e R s m args below meth c D A nL cells slots Q pc lv (.ref b :: rest) (wr ++ [(b, .inr (ci, fs))]) := by
  refine aw_coreI X (fun H locs ls h1 h2 hl => ?_) k
  exact va_runI (As := []) (rest := rest) X.1 (hM H.size) (cwI 0 X.1.2.2.2.2 (gL_mk (small := []) (fun w h => absurd h List.not_mem_nil) hg2) rfl hcm.1 hcm.2 (X.1.2.2.2.2 _ (hg _ (List.mem_cons_of_mem _ (List.mem_cons_of_mem _ List.mem_cons_self)))) (X.1.2.2.2.2 _ (hg _ List.mem_cons_self)) (X.1.2.2.2.2 _ (hg _ (List.mem_cons_of_mem _ List.mem_cons_self))) hy1 hd1 hR) ⟨fun a U g mk q => by obtain ⟨q0, q1, qP, qK, qD⟩ := q; exact ⟨q0, q1, qP, qK.same, qD⟩, fun U hU hW => ⟨rfl, by rw [hU], by rw [hU]; exact h1, (X.2.2.2.1.sub [] rfl).warm hW, h2⟩⟩ rfl rfl hl.1 rfl (lv_room hcat) hd hc0
end AWI
