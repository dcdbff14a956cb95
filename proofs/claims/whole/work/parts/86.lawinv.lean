/-- the image k of the class against the model's -/
def ImgOK (T : Nat) (a : Nat → Int32) (w : Nat → Int64) (hs : Nat → Int32) (im : Nat → Option Nat) (tys : List (ClassId × FieldType)) (k : Nat) (iwk : va_W) : Prop :=
  (im k = none ∧ hs k = 0 ∧ iwk = []) ∨ (hs k = 1 ∧ ∃ (s0 : Nat) (qT : Nat → Nat) (kT : Nat → ClassId) (kinds : Nat → Int32) (names : Nat → Int64) (seeds : Nat → Int32) (ones : Nat → Int64) (ofk : Nat → Int64) (sz : Int32) (there : Int64) (awake : Int64) (grp : Int64) (gm : Int64) (gb : Int64) (p0 : Nat) (lf : Int32) (ir : Int32) (ln : Int64) (qL : Nat → Nat) (kL : Nat → ClassId) (rows : Nat → Int64) (lens : Nat → Int32) (psz : Int32) (qK : Nat → Nat) (kK : Nat → ClassId) (vals : Nat → Int32) (hold : Int64) (call : Int32) (f0 : Nat) (fio : Int64) (fqu : Int32) (fal : Int32) (fco : Int32) (fgu : Int32) (qY : Nat → Nat) (kY : Nat → ClassId) (ft : Nat → Int32) (fs : Int32) (qs : Int32) (als : Int32) (cs : Int32) (ps : Int32) (wire : Int32) (alo : Int32) (n f z : Nat), im k = some s0 ∧ iwk = staW s0 qT kT kinds names seeds ones ofk sz there awake grp gm gb p0 lf ir ln qL kL rows lens psz qK kK vals hold call f0 fio fqu fal fco fgu qY kY ft fs qs als cs ps wire alo ∧ Rel T (fun j => a (540 * (k + 1) + j)) (fun j => w (124 * (k + 1) + j)) n f z kinds names seeds ones ofk sz there awake grp gm gb lf ir ln rows lens psz vals hold call fio fqu fal fco fgu ft fs qs als cs ps wire alo ∧ ∀ x ∈ ([(kT 1, .int), (kT 2, .long), (kT 3, .int), (kT 4, .long), (kT 5, .long), (kL 1, .long), (kL 2, .int), (kK 1, .int), (kY 1, .int)] : List (ClassId × FieldType)), x ∈ tys)
def imsW (iw : Nat → va_W) : va_W := iw 0 ++ (iw 1 ++ (iw 2 ++ iw 3))
/-- what holds of class and model between two calls; T: calls so far -/
def LI (T x0 m0 : Nat) (ws : va_W) (tys : List (ClassId × FieldType)) : Prop :=
  ∃ (r0 : Nat) (ri : Nat) (rs : Nat) (kS : ClassId) (sl : Nat → Int64) (qC : Nat → Nat) (kC : Nat → ClassId) (pr : Nat → Int64) (nx : Nat → Int64) (csz : Int32) (s0 : Nat) (qT : Nat → Nat) (kT : Nat → ClassId) (kinds : Nat → Int32) (names : Nat → Int64) (seeds : Nat → Int32) (ones : Nat → Int64) (ofk : Nat → Int64) (sz : Int32) (there : Int64) (awake : Int64) (grp : Int64) (gm : Int64) (gb : Int64) (p0 : Nat) (lf : Int32) (ir : Int32) (ln : Int64) (qL : Nat → Nat) (kL : Nat → ClassId) (rows : Nat → Int64) (lens : Nat → Int32) (psz : Int32) (qK : Nat → Nat) (kK : Nat → ClassId) (vals : Nat → Int32) (hold : Int64) (call : Int32) (f0 : Nat) (fio : Int64) (fqu : Int32) (fal : Int32) (fco : Int32) (fgu : Int32) (qY : Nat → Nat) (kY : Nat → ClassId) (ft : Nat → Int32) (fs : Int32) (qs : Int32) (als : Int32) (cs : Int32) (ps : Int32) (wire : Int32) (alo : Int32) (ki : ClassId) (im : Nat → Option Nat) (iw : Nat → va_W) (q : Nat → Nat) (kc : Nat → ClassId) (a : Nat → Int32) (w : Nat → Int64) (hs : Nat → Int32) (inn : Nat → Int32) (sp : Nat → Int32) (lone : Int32) (lt : Nat → Int64) (lz : Nat → Int32) (dr : Nat → Int32) (n f z : Nat), r0 = x0 ∧ q 0 = m0 ∧ ws = rolW r0 ri rs kS sl qC kC pr nx 0 csz s0 qT kT kinds names seeds ones ofk sz there awake grp gm gb p0 lf ir ln qL kL rows lens psz qK kK vals hold call f0 fio fqu fal fco fgu qY kY ft fs qs als cs ps wire alo ++ (rimW ri ki im ++ (imsW iw ++ mW q kc a w hs inn sp lone lt lz dr)) ∧ Rel T a w n f z kinds names seeds ones ofk sz there awake grp gm gb lf ir ln rows lens psz vals hold call fio fqu fal fco fgu ft fs qs als cs ps wire alo ∧ (∀ k, k < 4 → ImgOK T a w hs im tys k (iw k)) ∧ (∀ x ∈ ([(kS, .long), (kC 1, .long), (kC 2, .long), (kT 1, .int), (kT 2, .long), (kT 3, .int), (kT 4, .long), (kT 5, .long), (kL 1, .long), (kL 2, .int), (kK 1, .int), (kY 1, .int)] : List (ClassId × FieldType)), x ∈ tys) ∧ (ki, FieldType.object RX5) ∈ tys ∧ (∀ x ∈ ([(kc 1, .int), (kc 2, .long), (kc 3, .boolean), (kc 4, .boolean), (kc 5, .boolean), (kc 6, .long), (kc 7, .int), (kc 8, .int)] : List (ClassId × FieldType)), x ∈ tys)
theorem ImgOK.move {T T' : Nat} {a a' : Nat → Int32} {w w' : Nat → Int64} {hs hs' : Nat → Int32} {im im' : Nat → Option Nat} {tys tys' : List (ClassId × FieldType)} {k : Nat} {iwk : va_W} (hT : T ≤ T') (ha : ∀ j, j < 540 → a' (540 * (k + 1) + j) = a (540 * (k + 1) + j)) (hw : ∀ j, j < 124 → w' (124 * (k + 1) + j) = w (124 * (k + 1) + j)) (hh : hs' k = hs k) (hi : im' k = im k) (ht : ∀ x ∈ tys, x ∈ tys') (h : ImgOK T a w hs im tys k iwk) : ImgOK T' a' w' hs' im' tys' k iwk := by
  rcases h with ⟨h1, h2, h3⟩ | ⟨h1, s0, qT, kT, kinds, names, seeds, ones, ofk, sz, there, awake, grp, gm, gb, p0, lf, ir, ln, qL, kL, rows, lens, psz, qK, kK, vals, hold, call, f0, fio, fqu, fal, fco, fgu, qY, kY, ft, fs, qs, als, cs, ps, wire, alo, n, f, z, h2, h3, h4, h5⟩
  · exact Or.inl ⟨hi.trans h1, hh.trans h2, h3⟩
  · exact Or.inr ⟨hh.trans h1, s0, qT, kT, kinds, names, seeds, ones, ofk, sz, there, awake, grp, gm, gb, p0, lf, ir, ln, qL, kL, rows, lens, psz, qK, kK, vals, hold, call, f0, fio, fqu, fal, fco, fgu, qY, kY, ft, fs, qs, als, cs, ps, wire, alo, n, f, z, hi.trans h2, h3, h4.move hT ha hw, fun x hx => ht x (h5 x hx)⟩
theorem ImgOK.fr {T : Nat} {a a' : Nat → Int32} {w w' : Nat → Int64} {hs : Nat → Int32} {im : Nat → Option Nat} {tys : List (ClassId × FieldType)} {iw : Nat → va_W} (ha : FrA a a') (hw : FrW w w') (h : ∀ k, k < 4 → ImgOK T a w hs im tys k (iw k)) : ∀ k, k < 4 → ImgOK (T + 1) a' w' hs im tys k (iw k) := fun k hk => (h k hk).move (Nat.le_succ T) (fun j _ => ha _ (by omega)) (fun j _ => hw _ (by omega)) rfl rfl (fun _ hx => hx)
theorem pm_M {α : Type} (A B C M : List α) : (A ++ (B ++ (C ++ M))).Perm ((A ++ (B ++ C)) ++ M) := by
  rw [List.append_assoc, List.append_assoc]
theorem pm_I {α : Type} {I Rs N : List α} (A R M : List α) (h : I.Perm (Rs ++ N)) : (A ++ (R ++ (I ++ M))).Perm ((Rs ++ M) ++ (A ++ R ++ N)) := by
  refine List.Perm.trans (List.Perm.append_left A (List.Perm.append_left R (List.Perm.append_right M h))) ?_
  rw [← List.append_assoc A R (Rs ++ N ++ M)]
  have h1 : (A ++ R ++ (Rs ++ N ++ M)).Perm (A ++ R ++ (N ++ (Rs ++ M))) := by
    refine List.Perm.append_left (A ++ R) ?_
    rw [← List.append_assoc N Rs M]
    exact List.Perm.append_right M List.perm_append_comm
  refine h1.trans ?_
  rw [← List.append_assoc (A ++ R) N (Rs ++ M)]
  exact List.perm_append_comm
theorem pm_I0 {α : Type} {I Rs : List α} (A R M : List α) (h : I.Perm (Rs ++ [])) : (A ++ (R ++ (I ++ M))).Perm ((Rs ++ M) ++ (A ++ R)) := by
  have := pm_I A R M h
  rw [List.append_nil] at this
  exact this
theorem ims_split (iw : Nat → va_W) {k : Nat} (hk : k < 4) : ∃ rest : va_W, (imsW iw).Perm (rest ++ iw k) ∧ ∀ N : va_W, (imsW (fun i => if i = k then N else iw i)).Perm (rest ++ N) := by
  have h1 : ∀ A B C E : va_W, (A ++ (B ++ (C ++ E))).Perm ((B ++ (C ++ E)) ++ A) := fun A B C E => List.perm_append_comm
  have h2 : ∀ A B C E : va_W, (A ++ (B ++ (C ++ E))).Perm ((A ++ (C ++ E)) ++ B) := fun A B C E => by
    rw [List.append_assoc]
    exact List.Perm.append_left A List.perm_append_comm
  have h3 : ∀ A B C E : va_W, (A ++ (B ++ (C ++ E))).Perm ((A ++ (B ++ E)) ++ C) := fun A B C E => by
    rw [List.append_assoc, List.append_assoc]
    exact List.Perm.append_left A (List.Perm.append_left B List.perm_append_comm)
  have h4 : ∀ A B C E : va_W, (A ++ (B ++ (C ++ E))).Perm ((A ++ (B ++ C)) ++ E) := fun A B C E => by
    rw [List.append_assoc, List.append_assoc]
  rcases (show k = 0 ∨ k = 1 ∨ k = 2 ∨ k = 3 by omega) with rfl | rfl | rfl | rfl
  · exact ⟨_, h1 _ _ _ _, fun N => h1 _ _ _ _⟩
  · exact ⟨_, h2 _ _ _ _, fun N => h2 _ _ _ _⟩
  · exact ⟨_, h3 _ _ _ _, fun N => h3 _ _ _ _⟩
  · exact ⟨_, h4 _ _ _ _, fun N => h4 _ _ _ _⟩
theorem top_mm {z : Nat} {lens : Nat → Int32} {psz : Int32} (hp : psz = nI z) (h : pJ z lens) : ∃ mm, r_X4_topLength lens psz z = nI mm ∧ mm ≤ 64 := by
  unfold r_X4_topLength
  by_cases c : psz ≤ 0
  · exact ⟨0, by rw [if_pos c]; rfl, by omega⟩
  · rw [if_neg c]
    have hz : z ≠ 0 := fun e => c (by rw [hp, e]; decide)
    obtain ⟨m, h1, _, h3⟩ := h (z - 1) (by omega)
    exact ⟨m, h1, h3⟩
theorem rel_0 : Rel 0 (upd (upd (upd (fun _ => 0) 2 (-1)) 5 (-1)) 6 (-1)) (fun _ => 0) 0 0 0 (fun _ => 0) (fun _ => 0) (fun _ => 0) (fun _ => 0) (fun _ => 0) 0 0 0 0 0 0 (-1) 0 0 (fun _ => 0) (fun _ => 0) 0 (fun _ => 0) 0 (-1) 0 0 0 0 0 (fun _ => 0) 0 0 0 0 0 0 (-1) := by
  have b0 : ∀ t, bq 0 t = false := fun t => by
    unfold bq
    simp
  refine ⟨⟨rfl, by omega, rfl, fun t ht => absurd ht (by omega), fun t _ _ => ⟨b0 t, b0 t, b0 t, fun _ _ => b0 t, fun _ _ => b0 t⟩, rfl, by decide, fun s t hs => absurd hs (by omega)⟩, ⟨fun t ht => absurd ht (by omega), fun t ht => absurd ht (by omega), fun t _ _ => b0 t, rfl, Or.inl rfl⟩, ⟨fun t ht => absurd ht (by omega), fun t _ _ => b0 t, rfl, rfl, rfl, rfl⟩, ⟨rfl, rfl, Or.inl rfl⟩, ⟨rfl, rfl, fun i hi => absurd hi (by omega), fun i hi => absurd hi (by omega)⟩, ⟨rfl, by omega, rfl, fun i hi => absurd hi (by omega), rfl, rfl, rfl, rfl⟩, ⟨rfl, rfl⟩⟩
theorem tb_out24 {x : Int32} (h0 : ¬ x = 0) (h1 : ¬ x = 1) (h2 : ¬ x = 2) (h3 : ¬ x = 3) (h4 : ¬ x = 4) (h5 : ¬ x = 5) (h6 : ¬ x = 6) (h7 : ¬ x = 7) (h8 : ¬ x = 8) (h9 : ¬ x = 9) (h10 : ¬ x = 10) (h11 : ¬ x = 11) (h12 : ¬ x = 12) (h13 : ¬ x = 13) (h14 : ¬ x = 14) (h15 : ¬ x = 15) (h16 : ¬ x = 16) (h17 : ¬ x = 17) (h18 : ¬ x = 18) (h19 : ¬ x = 19) (h20 : ¬ x = 20) (h21 : ¬ x = 21) (h22 : ¬ x = 22) (h23 : ¬ x = 23) (h24 : ¬ x = 24) : x.toInt < 0 ∨ 24 < x.toInt := by
  have a0 : ¬ x.toInt = 0 := tb_ne (k := 0) h0
  have a1 : ¬ x.toInt = 1 := tb_ne (k := 1) h1
  have a2 : ¬ x.toInt = 2 := tb_ne (k := 2) h2
  have a3 : ¬ x.toInt = 3 := tb_ne (k := 3) h3
  have a4 : ¬ x.toInt = 4 := tb_ne (k := 4) h4
  have a5 : ¬ x.toInt = 5 := tb_ne (k := 5) h5
  have a6 : ¬ x.toInt = 6 := tb_ne (k := 6) h6
  have a7 : ¬ x.toInt = 7 := tb_ne (k := 7) h7
  have a8 : ¬ x.toInt = 8 := tb_ne (k := 8) h8
  have a9 : ¬ x.toInt = 9 := tb_ne (k := 9) h9
  have a10 : ¬ x.toInt = 10 := tb_ne (k := 10) h10
  have a11 : ¬ x.toInt = 11 := tb_ne (k := 11) h11
  have a12 : ¬ x.toInt = 12 := tb_ne (k := 12) h12
  have a13 : ¬ x.toInt = 13 := tb_ne (k := 13) h13
  have a14 : ¬ x.toInt = 14 := tb_ne (k := 14) h14
  have a15 : ¬ x.toInt = 15 := tb_ne (k := 15) h15
  have a16 : ¬ x.toInt = 16 := tb_ne (k := 16) h16
  have a17 : ¬ x.toInt = 17 := tb_ne (k := 17) h17
  have a18 : ¬ x.toInt = 18 := tb_ne (k := 18) h18
  have a19 : ¬ x.toInt = 19 := tb_ne (k := 19) h19
  have a20 : ¬ x.toInt = 20 := tb_ne (k := 20) h20
  have a21 : ¬ x.toInt = 21 := tb_ne (k := 21) h21
  have a22 : ¬ x.toInt = 22 := tb_ne (k := 22) h22
  have a23 : ¬ x.toInt = 23 := tb_ne (k := 23) h23
  have a24 : ¬ x.toInt = 24 := tb_ne (k := 24) h24
  omega
theorem sub5 {L j : Nat} (hL : L ≤ 2560) (hj : j ≤ 2560) : (nI L - 5 < nI j) ↔ L < j + 5 := by
  by_cases h : L < 5
  · have h0 : nI L - 5 < 0 := by
      rcases (show L = 0 ∨ L = 1 ∨ L = 2 ∨ L = 3 ∨ L = 4 by omega) with rfl | rfl | rfl | rfl | rfl <;> decide
    exact ⟨fun _ => by omega, fun _ => Int32.lt_of_lt_of_le h0 (nI_pos' (n := j) (by omega))⟩
  · have e : nI L - 5 = nI (L - 5) := nn_sub (a := L) (b := 5) rfl rfl (by omega) rfl
    rw [e]
    constructor
    · intro h1
      have : ¬ j ≤ L - 5 := fun h2 => nn_nlt (a := L - 5) (b := j) rfl rfl h2 (by omega) h1
      omega
    · intro h1
      exact nn_lt (a := L - 5) (b := j) rfl rfl (by omega) (by omega)
