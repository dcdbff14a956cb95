theorem cq_and_split (m x : Int64) : ∀ k, k ≤ 64 → cq m k = cq (m &&& (x ^^^ (-1))) k + cq (m &&& x) k
  | 0, _ => rfl
  | k + 1, h => by
    show cq m k + (if bq m k = true then 1 else 0) = (cq (m &&& (x ^^^ (-1))) k + (if bq (m &&& (x ^^^ (-1))) k = true then 1 else 0)) + (cq (m &&& x) k + (if bq (m &&& x) k = true then 1 else 0))
    rw [cq_and_split m x k (by omega), bq_and, bq_and, bq_not _ (by omega)]
    cases bq m k <;> cases bq x k <;> simp <;> omega
theorem cq_pos {x : Int64} : ∀ {k : Nat}, 0 < cq x k → ∃ t, t < k ∧ bq x t = true
  | 0, h => absurd (show 0 < 0 from h) (by decide)
  | k + 1, h => by
    by_cases c : bq x k = true
    · exact ⟨k, by omega, c⟩
    · have h' : 0 < cq x k + (if bq x k = true then 1 else 0) := h
      rw [if_neg c] at h'
      obtain ⟨t, h1, h2⟩ := cq_pos (k := k) (by omega)
      exact ⟨t, by omega, h2⟩
theorem cq_of {x : Int64} {t : Nat} (hb : bq x t = true) : ∀ {k : Nat}, t < k → 0 < cq x k
  | 0, h => absurd h (Nat.not_lt_zero t)
  | k + 1, h => by
    show 0 < cq x k + (if bq x k = true then 1 else 0)
    by_cases e : t = k
    · subst e; rw [if_pos hb]; omega
    · have := cq_of hb (k := k) (by omega)
      omega
section SLOT
variable {a : Nat → Int32} {sp : Nat → Int32} {n : Nat} {kinds : Nat → Int32} {ofk : Nat → Int64} {wire : Int32} {m : Int64}
/-- the model's loop over a slot's speakers -/
theorem slot_loop (hsp : SpR n sp m) (hn : n ≤ 40) (hk : ∀ t, t < n → (bq (ofk 5) t = true ↔ a (300 + 6 * t + 0) = 5)) :
    (lpF (b_X9_slot_9 a sp) n 0 (0, 0, (-1))).1 = nI (cq (m &&& (ofk 5 ^^^ (-1))) n) ∧ (lpF (b_X9_slot_9 a sp) n 0 (0, 0, (-1))).2.1 = nI (cq (m &&& ofk 5) n) ∧
    ((cq (m &&& (ofk 5 ^^^ (-1))) n = 0 ∧ cq (m &&& ofk 5) n = 0 ∧ (lpF (b_X9_slot_9 a sp) n 0 (0, 0, (-1))).2.2 = -1) ∨ (∃ t, t < n ∧ (lpF (b_X9_slot_9 a sp) n 0 (0, 0, (-1))).2.2 = nI t ∧ (bq (m &&& (ofk 5 ^^^ (-1))) t = true ∨ (cq (m &&& (ofk 5 ^^^ (-1))) n = 0 ∧ bq (m &&& ofk 5) t = true)))) := by
  have key := lpF_inv (body := b_X9_slot_9 a sp) (fun k σ => k ≤ n → σ.1 = nI (cq (m &&& (ofk 5 ^^^ (-1))) k) ∧ σ.2.1 = nI (cq (m &&& ofk 5) k) ∧
    ((cq (m &&& (ofk 5 ^^^ (-1))) k = 0 ∧ cq (m &&& ofk 5) k = 0 ∧ σ.2.2 = -1) ∨ (∃ t, t < k ∧ σ.2.2 = nI t ∧ (bq (m &&& (ofk 5 ^^^ (-1))) t = true ∨ (cq (m &&& (ofk 5 ^^^ (-1))) k = 0 ∧ bq (m &&& ofk 5) t = true))))) n 0 (0, 0, (-1)) (fun _ => ⟨rfl, rfl, Or.inl ⟨rfl, rfl, rfl⟩⟩) (fun k σ _ hkn hi hk1 => by
    obtain ⟨i1, i2, i3⟩ := hi (by omega)
    have hkn' : k < n := by omega
    have e1 : cq (m &&& (ofk 5 ^^^ (-1))) (k + 1) = cq (m &&& (ofk 5 ^^^ (-1))) k + (if bq (m &&& (ofk 5 ^^^ (-1))) k = true then 1 else 0) := rfl
    have e2 : cq (m &&& ofk 5) (k + 1) = cq (m &&& ofk 5) k + (if bq (m &&& ofk 5) k = true then 1 else 0) := rfl
    have b1 : bq (m &&& (ofk 5 ^^^ (-1))) k = (bq m k && !bq (ofk 5) k) := by rw [bq_and, bq_not _ (by omega)]
    have b2 : bq (m &&& ofk 5) k = (bq m k && bq (ofk 5) k) := bq_and _ _ _
    unfold b_X9_slot_9
    rw [hsp.1 k hkn', e1, e2]
    by_cases c1 : bq m k = true
    · rw [if_neg (fun q => by rw [(b01_0 _).mp q] at c1; cases c1)]
      by_cases c2 : bq (ofk 5) k = true
      · rw [if_pos ((hk k hkn').mp c2)]
        rw [c1, c2] at b1 b2
        simp only [Bool.not_true, Bool.and_false, Bool.and_true] at b1 b2
        rw [b1, b2]
        have f1 : cq (m &&& (ofk 5 ^^^ (-1))) k + (if false = true then 1 else 0) = cq (m &&& (ofk 5 ^^^ (-1))) k := rfl
        have f2 : cq (m &&& ofk 5) k + (if true = true then 1 else 0) = cq (m &&& ofk 5) k + 1 := rfl
        rw [f1, f2]
        by_cases c3 : 0 ≤ σ.2.2
        · rw [if_pos c3]
          refine ⟨i1, by rw [i2]; exact nI_1 _, ?_⟩
          rcases i3 with ⟨-, -, q⟩ | ⟨t, q1, q2, q3⟩
          · rw [q] at c3; exact absurd c3 (by decide)
          · exact Or.inr ⟨t, by omega, q2, q3⟩
        · rw [if_neg c3]
          refine ⟨i1, by rw [i2]; exact nI_1 _, ?_⟩
          rcases i3 with ⟨q0, -, q⟩ | ⟨t, q1, q2, q3⟩
          · exact Or.inr ⟨k, by omega, rfl, Or.inr ⟨q0, b2⟩⟩
          · rw [q2] at c3; exact absurd (nI_pos' (by omega)) c3
      · have c2' : bq (ofk 5) k = false := by simpa using c2
        rw [if_neg (fun q => c2 ((hk k hkn').mpr q))]
        rw [c1, c2'] at b1 b2
        simp only [Bool.not_false, Bool.and_false, Bool.and_true] at b1 b2
        rw [b1, b2]
        have f1 : cq (m &&& (ofk 5 ^^^ (-1))) k + (if true = true then 1 else 0) = cq (m &&& (ofk 5 ^^^ (-1))) k + 1 := rfl
        have f2 : cq (m &&& ofk 5) k + (if false = true then 1 else 0) = cq (m &&& ofk 5) k := rfl
        rw [f1, f2]
        exact ⟨by show σ.1 + 1 = _; rw [i1]; exact nI_1 _, i2, Or.inr ⟨k, by omega, rfl, Or.inl b1⟩⟩
    · have c1' : bq m k = false := by simpa using c1
      rw [if_pos ((b01_0 _).mpr c1')]
      rw [c1'] at b1 b2
      simp only [Bool.false_and] at b1 b2
      rw [b1, b2]
      have f1 : cq (m &&& (ofk 5 ^^^ (-1))) k + (if false = true then 1 else 0) = cq (m &&& (ofk 5 ^^^ (-1))) k := rfl
      have f2 : cq (m &&& ofk 5) k + (if false = true then 1 else 0) = cq (m &&& ofk 5) k := rfl
      rw [f1, f2]
      refine ⟨i1, i2, ?_⟩
      rcases i3 with q | ⟨t, q1, q2, q3⟩
      · exact Or.inl q
      · exact Or.inr ⟨t, by omega, q2, q3⟩)
  rw [Nat.zero_add] at key
  exact key (Nat.le_refl n)
theorem first_one {x : Int64} {t : Nat} (ht : t < 64) (hb : bq x t = true) (h1 : cq x 64 = 1) : r_X8_firstOf x = nI t := by
  obtain ⟨u, h2, h3, h4⟩ := cq_one.mp h1
  refine first_bq ht hb (fun v hv => ?_)
  by_cases c : bq x v = true
  · have e1 := h4 v (by omega) c
    have e2 := h4 t ht hb
    omega
  · simpa using c
theorem slot_eq (hsp : SpR n sp m) (hn : n ≤ 40) (hk : ∀ t, t < n → (bq (ofk 5) t = true ↔ a (300 + 6 * t + 0) = 5)) (hw : a 1 = wire) :
    r_X9_slot a sp n = r_X8_hearSlot ofk wire m ∧ u_X9_slot_lone a sp n = u_X8_hearSlot_alo ofk wire m := by
  obtain ⟨h1, h2, h3⟩ := slot_loop (a := a) (ofk := ofk) hsp hn hk
  have cS : cq (m &&& (ofk 5 ^^^ (-1))) 64 = cq (m &&& (ofk 5 ^^^ (-1))) n := cq_ge (fun t q1 q2 => by rw [bq_and, hsp.2 t q1 q2]; rfl) 64 (by omega) (Nat.le_refl _)
  have cW : cq (m &&& ofk 5) 64 = cq (m &&& ofk 5) n := cq_ge (fun t q1 q2 => by rw [bq_and, hsp.2 t q1 q2]; rfl) 64 (by omega) (Nat.le_refl _)
  have cM := cq_and_split m (ofk 5) 64 (Nat.le_refl _)
  have lS := cq_le (m &&& (ofk 5 ^^^ (-1))) n
  have lW := cq_le (m &&& ofk 5) n
  rw [cS, cW] at cM
  unfold r_X9_slot u_X9_slot_lone r_X8_hearSlot u_X8_hearSlot_alo r_X8_audibleOf
  generalize lpF (b_X9_slot_9 a sp) n 0 (0, 0, (-1)) = σ at h1 h2 h3 ⊢
  rw [h1, h2, hw]
  have hsum : nI (cq (m &&& (ofk 5 ^^^ (-1))) n) + nI (cq (m &&& ofk 5) n) = nI (cq m 64) := by rw [nI_add, cM]
  rw [hsum]
  have kS : r_X8_kindOfSlot (m &&& (ofk 5 ^^^ (-1))) = if cq (m &&& (ofk 5 ^^^ (-1))) n = 0 then 0 else if cq (m &&& (ofk 5 ^^^ (-1))) n = 1 then 1 else 2 := by rw [kind_bq, cS]
  have kM := kind_bq m
  have nz : ∀ x : Nat, x ≤ 64 → (nI x = 0 ↔ x = 0) := fun x hx => nI_eq (b := 0) (by omega) (by decide)
  have no : ∀ x : Nat, x ≤ 64 → (nI x = 1 ↔ x = 1) := fun x hx => nI_eq (b := 1) (by omega) (by decide)
  have lM := cq_le m 64
  -- one voice in all
  by_cases c1 : cq m 64 = 1
  · rw [if_pos ((no _ (by omega)).mpr c1), if_neg (fun q => by rw [(nz _ (by omega)).mp q] at c1; cases c1), if_pos ((no _ (by omega)).mpr c1)]
    obtain ⟨t, ht, hwho, hbit⟩ : ∃ t, t < n ∧ σ.2.2 = nI t ∧ bq m t = true := by
      rcases h3 with ⟨q1, q2, -⟩ | ⟨t, q1, q2, q3⟩
      · omega
      · refine ⟨t, q1, q2, ?_⟩
        rcases q3 with q | ⟨-, q⟩ <;> (rw [bq_and] at q; simp only [Bool.and_eq_true] at q; exact q.1)
    rw [hwho, if_neg (nI_pos (by omega))]
    have kM1 : r_X8_kindOfSlot m = 1 := by rw [kM, if_neg (by omega), if_pos c1]
    by_cases c2 : wire = 1
    · rw [if_pos c2]
      by_cases c3 : nI (r_X8_kindOfSlot (m &&& (ofk 5 ^^^ (-1)))) = 1
      · rw [if_pos c3]
        have kS1 : r_X8_kindOfSlot (m &&& (ofk 5 ^^^ (-1))) = 1 := (nI_eq (by have := le_kind (m &&& (ofk 5 ^^^ (-1))); omega) (by decide)).mp c3
        rw [kS1]
        refine ⟨rfl, ?_⟩
        rw [if_pos (show nI 1 = 1 from rfl)]
        have c4 : cq (m &&& (ofk 5 ^^^ (-1))) 64 = 1 := by
          rw [cS]; rw [kS] at kS1
          by_cases d1 : cq (m &&& (ofk 5 ^^^ (-1))) n = 0
          · rw [if_pos d1] at kS1; cases kS1
          · rw [if_neg d1] at kS1
            by_cases d2 : cq (m &&& (ofk 5 ^^^ (-1))) n = 1
            · exact d2
            · rw [if_neg d2] at kS1; cases kS1
        obtain ⟨u, u1, u2, u3⟩ := cq_one.mp c4
        have : u = t := by
          obtain ⟨v, v1, v2, v3⟩ := cq_one.mp c1
          have e1 := v3 t (by omega) hbit
          have e2 := v3 u u1 (by rw [bq_and] at u2; simp only [Bool.and_eq_true] at u2; exact u2.1)
          omega
        subst this
        exact (first_one (by omega) u2 c4).symm
      · rw [if_neg c3, kM1]
        exact ⟨rfl, by rw [if_pos (show nI 1 = 1 from rfl)]; exact (first_one (by omega) hbit c1).symm⟩
    · rw [if_neg c2, kM1]
      exact ⟨rfl, by rw [if_pos (show nI 1 = 1 from rfl)]; exact (first_one (by omega) hbit c1).symm⟩
  · rw [if_neg (fun q => c1 ((no _ (by omega)).mp q)), if_neg (fun q => c1 ((no _ (by omega)).mp q))]
    by_cases c2 : wire = 1
    · rw [if_pos c2, if_pos c2, if_pos c2]
      by_cases c3 : cq (m &&& (ofk 5 ^^^ (-1))) n = 1
      · have kS1 : r_X8_kindOfSlot (m &&& (ofk 5 ^^^ (-1))) = 1 := by rw [kS, if_neg (by omega), if_pos c3]
        rw [if_pos ((no _ (by omega)).mpr c3), if_pos ((no _ (by omega)).mpr c3), if_neg (fun q => by have := (nz _ (by omega)).mp q; omega), kS1, if_pos (show nI 1 = 1 from rfl), kS1, if_pos (show nI 1 = 1 from rfl)]
        obtain ⟨t, ht, hwho, hbit⟩ : ∃ t, t < n ∧ σ.2.2 = nI t ∧ bq (m &&& (ofk 5 ^^^ (-1))) t = true := by
          rcases h3 with ⟨q1, q2, -⟩ | ⟨t, q1, q2, q3⟩
          · omega
          · rcases q3 with q | ⟨q, -⟩
            · exact ⟨t, q1, q2, q⟩
            · omega
        rw [hwho, if_neg (nI_pos (by omega))]
        exact ⟨rfl, (first_one (by omega) hbit (by rw [cS]; exact c3)).symm⟩
      · have kS1 : ¬ nI (r_X8_kindOfSlot (m &&& (ofk 5 ^^^ (-1)))) = 1 := fun q => by
          have q2 : r_X8_kindOfSlot (m &&& (ofk 5 ^^^ (-1))) = 1 := (nI_eq (by have := le_kind (m &&& (ofk 5 ^^^ (-1))); omega) (by decide)).mp q
          rw [kS] at q2
          by_cases d1 : cq (m &&& (ofk 5 ^^^ (-1))) n = 0
          · rw [if_pos d1] at q2; cases q2
          · rw [if_neg d1, if_neg c3] at q2; cases q2
        rw [if_neg (fun q => c3 ((no _ (by omega)).mp q)), if_neg (fun q => c3 ((no _ (by omega)).mp q)), if_neg kS1, kM]
        by_cases c4 : cq m 64 = 0
        · rw [if_pos ((nz _ (by omega)).mpr c4), if_pos c4]
          exact ⟨rfl, by rw [if_neg (by decide)]⟩
        · rw [if_neg (fun q => c4 ((nz _ (by omega)).mp q)), if_neg c4, if_neg c1]
          exact ⟨rfl, by rw [if_neg (by decide)]⟩
    · rw [if_neg c2, if_neg c2, if_neg c2, kM]
      by_cases c4 : cq m 64 = 0
      · rw [if_pos ((nz _ (by omega)).mpr c4), if_pos c4]
        exact ⟨rfl, by rw [if_neg (by decide)]⟩
      · rw [if_neg (fun q => c4 ((nz _ (by omega)).mp q)), if_neg c4, if_neg c1]
        exact ⟨rfl, by rw [if_neg (by decide)]⟩
end SLOT
