section AWF
variable {p : Program} {l : Launch} {e : Env} {R : Room} {s : State} {m : MethodId} {args : Array Value} {below : List Frame} {meth : Method} {c : Code} {cc : ByteArray} {nL : Nat} {ret : Option FieldType} {own : String} {D : va_G} {tys : List (ClassId × FieldType)} {A : Nat → Prop} {cells slots : Nat} {Q : State → Prop} {pc : Nat} {lv : List (Nat × Value)} {st : List Value} {ws : va_W}
theorem D_of_fst {A : Nat → Prop} {w w' : va_W} (hD : va_D A w) (hm : w'.map Prod.fst = w.map Prod.fst) : va_D A w' := by
  have key : ∀ (k : Nat) (q : Nat × va_E), w'[k]? = some q → ∃ q0, w[k]? = some q0 ∧ q0.1 = q.1 := by
    intro k q hk
    have e2 : (w'.map Prod.fst)[k]? = some q.1 := by rw [List.getElem?_map, hk]; rfl
    rw [hm, List.getElem?_map] at e2
    cases hc : w[k]? with
    | none => rw [hc] at e2; cases e2
    | some z => rw [hc] at e2; exact ⟨z, rfl, Option.some.inj e2⟩
  refine ⟨fun i j x y hi hj hxy => ?_, fun k q hk => ?_⟩
  · obtain ⟨x0, h1, h2⟩ := key i x hi
    obtain ⟨y0, h3, h4⟩ := key j y hj
    exact hD.1 i j x0 y0 h1 h3 (h2.trans (hxy.trans h4.symm))
  · obtain ⟨q0, h1, h2⟩ := key k q hk
    rw [← h2]
    exact hD.2 k q0 h1
/-- a call of a method whose world is the caller's whole world -/
theorem aw_callVF (X : Cx p s m args meth c cc nL ret own D tys A) {yc : MethodName} {ccc : ByteArray} {nLc : Nat} {retc : Option FieldType} {rm : Room} {As rest : List Value} {wc wc' : va_W} {r : Option Value} {index n : Nat} {b ci q1 : Nat} {fs : List Value} {As0 : List Value} {st0 : List Value} (hM : MW l D yc (Cond.code yc ccc nLc retc :: TT) rm As tys wc r wc') (hAs : As = .ref b :: As0) (hst : st0 = As0.reverse ++ .ref b :: rest) (hcl : ∃ T N, vwCl[ci]? = some (yc.cls, T, N)) (he : wc[q1]? = some (b, .inr (ci, fs)))
    (hg : ∀ w ∈ ([.methodLink own index yc, .instanceMethod yc, .selects yc.cls yc yc, .initialized yc.cls] : List Cond), w ∈ TT) (hg2 : Cond.code yc ccc nLc retc ∈ TT) (hd1 : yc.cls ≠ "java/lang/invoke/MethodHandle" ∧ yc.cls ≠ "java/lang/invoke/VarHandle" ∧ (parseMethodDescriptor yc.desc).map (fun d => d.parameters.length) = some n) (hR : rm.frames + 1 ≤ R.frames ∧ 8 + (nLc + 11) + rm.locals ≤ R.locals) (hc0 : cells ≤ R.cells ∧ slots ≤ R.slots) (hcm : rm.cells = 0 ∧ rm.slots = 0) (hlen : As0.length = n) (hcat : (rest.map fun v => v.category).sum ≤ 8) (hd : decode cc pc = .ok (.invokevirtual index, 3))
    {st' : List Value} (hst' : r.toList ++ rest = st') (k : AW p l e R s m args below meth c D A nL cells slots Q (pc + 3) lv st' wc') : AW p l e R s m args below meth c D A nL cells slots Q pc lv st0 wc := by
  subst hst; subst hAs; subst hst'
  intro H locs ls hP hD hS hl T hT X1
  obtain ⟨T9, N9, hcl⟩ := hcl
  have run := va_runV (As := As0) (rest := rest) (g := F0 m pc ls (As0.reverse ++ .ref b :: rest)) (locs := locs) (cells := cells) (slots := slots) (p := p) (l := l) (e := e) (below := below) (meth := meth) X.1 (hM.2 H.size) (cwV n X.1.2.2.2.2 (gL_mk hg hg2) rfl hcm.1 hcm.2 ⟨rfl, hd1⟩ hR) ⟨fun a U g mk q => by obtain ⟨q0, q1, qP, qK, qD⟩ := q; exact ⟨q0, q1, qP, qK.same, qD⟩, va_recv X.2.2.2.1.1 hP hcl he, fun U hU hW => ⟨rfl, by rw [hU], by rw [hU]; exact hP, X.2.2.2.1.warm hW, hD.weaken (fun _ _ _ _ => trivial)⟩⟩ rfl hlen hl.1 rfl (lv_room hcat) hd hc0
  obtain ⟨v, st₀, t, T', L, g0, X', hL, e1, e2, ⟨⟨hv, hp⟩, hz, hk⟩, hst⟩ := run T hT X1
  cases hv
  rw [g0] at hz hk
  have hF : ∀ q, va_A wc H.size q → A q := by
    rintro q (⟨k, e, h⟩ | h)
    · exact hD.2 k (q, e) h
    · exact X.2.2.2.2 q (Nat.le_trans hS.1 h)
  have hS' : va_S A s.heap t.heap (locs ++ L) := ⟨Nat.le_trans hS.1 hz, fun q a1 a2 => by rw [hk q (Nat.lt_of_lt_of_le a1 hS.1) (fun z => a2 (hF q z))]; exact hS.2.1 q a1 a2, fun q hq => by
      rcases List.mem_append.mp hq with a1 | a1
      · exact hS.2.2 q a1
      · exact hF _ (hL q a1)⟩
  obtain ⟨t2, a1, b1⟩ := k t.heap (locs ++ L) ls hp (D_of_fst hD hM.1) hS' hl T' e1 X'
  exact ⟨t2, hst t2 a1, b1⟩
end AWF
