section LAWL
variable {p : Program} {l : Launch} {e : Env} {s : State} {m : MethodId} {below : List Frame} {meth : Method} {c : Code} {D : va_G} {A : Nat → Prop} {Q : State → Prop} {b L x0 m0 : Nat} {xs : Nat → Int32}
set_option maxHeartbeats 1000000 in
set_option maxRecDepth 100000 in
theorem law_one {T : Nat} {tys : List (ClassId × FieldType)} {ws : va_W} (X : Cx p s m #[Value.ref b] meth c cL_law 4 (some .boolean) RL D tys A) (hX : va_X b L xs s s.heap) (hbl : b < s.heap.size) (hbA : ¬ A b) (hT : T ≤ 512) (hL : L ≤ 2560) (h : LI T x0 m0 ws tys) (K0 : ∀ (T : Nat) (lv : List (Nat × Value)) (ws : va_W) (tys : List (ClassId × FieldType)), T ≤ 512 → Cx p s m #[Value.ref b] meth c cL_law 4 (some .boolean) RL D tys A → AW p l e room_1 s m #[Value.ref b] below meth c D A 4 (31 + 16 * T) (4328 + 599 * T) Q 886 lv [] ws) (ih : 5 * T + 5 ≤ L → ∀ (ws' : va_W) (tys' : List (ClassId × FieldType)), LI (T + 1) x0 m0 ws' tys' → Cx p s m #[Value.ref b] meth c cL_law 4 (some .boolean) RL D tys' A → AW p l e room_1 s m #[Value.ref b] below meth c D A 4 (31 + 16 * (T + 1)) (4328 + 599 * (T + 1)) Q 18 [(3, .int (nI (5 * (T + 1)))), (0, .ref b), (1, .ref x0), (2, .ref m0)] [] ws') : AW p l e room_1 s m #[Value.ref b] below meth c D A 4 (31 + 16 * T) (4328 + 599 * T) Q 18 [(3, .int (nI (5 * T))), (0, .ref b), (1, .ref x0), (2, .ref m0)] [] ws := by
  obtain ⟨r0, ri, rs, kS, sl, qC, kC, pr, nx, csz, s0, qT, kT, kinds, names, seeds, ones, ofk, sz, there, awake, grp, gm, gb, p0, lf, ir, ln, qL, kL, rows, lens, psz, qK, kK, vals, hold, call, f0, fio, fqu, fal, fco, fgu, qY, kY, ft, fs, qs, als, cs, ps, wire, alo, ki, im, iw, q, kc, a, w, hs, inn, sp, lone, lt, lz, dr, n, f, z, rfl, rfl, rfl, hR, hI, ht1, htk, ht2⟩ := h
  refine aw_iload_n X (pc := 18) 0 rfl rfl dL_law_18 ?_
  refine aw_aload_n X (pc := 19) 1 rfl rfl dL_law_19 ?_
  refine aw_slen X (pc := 20) hX hbl hbA dL_law_20 ?_
  refine aw_iconst X (pc := 21) (v := 5) dL_law_21 (by decide) ?_
  refine aw_isub X (pc := 22) (z := nI L - 5) rfl dL_law_22 ?_
  refine aw_icmp_gt X (pc := 23) (tgt := 886) (by decide) dL_law_23 (fun c1 => K0 _ _ _ _ hT X) (fun c1 => ?_)
  have hi : 5 * T + 5 ≤ L := by
    have h9 := mt (sub5 (L := L) (j := 5 * T) hL (by omega)).mpr c1
    omega
  have hT : T < 512 := by omega
  have K : ∀ (ws' : va_W) (tys' : List (ClassId × FieldType)), LI (T + 1) r0 (q 0) ws' tys' → Cx p s m #[Value.ref b] meth c cL_law 4 (some .boolean) RL D tys' A → AW p l e room_1 s m #[Value.ref b] below meth c D A 4 (31 + 16 * (T + 1)) (4328 + 599 * (T + 1)) Q 880 [(3, .int (nI (5 * T))), (0, .ref b), (1, .ref r0), (2, .ref (q 0))] [] ws' := by
    intro ws' tys' hl X'
    refine aw_iinc X' (pc := 880) (kx := 0) (v := nI (5 * (T + 1))) (lv' := [(3, .int (nI (5 * (T + 1)))), (0, .ref b), (1, .ref r0), (2, .ref (q 0))]) rfl (nn_add (a := 5 * T) (b := 5) rfl rfl (by omega)) (by decide) rfl dL_law_880 ?_
    refine aw_goto X' (pc := 883) (tgt := 18) (by decide) dL_law_883 ?_
    exact ih hi ws' tys' hl X'
  refine aw_aload_n X (pc := 26) 1 rfl rfl dL_law_26 ?_
  refine aw_iload_n X (pc := 27) 0 rfl rfl dL_law_27 ?_
  refine aw_sld X (pc := 28) hX hbl hbA (5 * T) rfl (by omega) (by omega) dL_law_28 ?_
  refine aw_bipush X (pc := 29) (v := 31) dL_law_29 (by decide) ?_
  refine aw_iand X (pc := 31) (z := xs (5 * T) &&& 31) rfl dL_law_31 ?_
  generalize xs (5 * T) &&& 31 = v
  by_cases c0_ : v = 0
  · refine aw_tableIn X (pc := 32) (tgt := 148) (by rw [c0_]; decide) (by rw [c0_]; decide) (by rw [c0_]; rfl) (by decide) dL_law_32 ?_
    exact law_wire X hX hbl hbA hT hi hL hR hI ht1 htk ht2 K
  by_cases c1_ : v = 1
  · refine aw_tableIn X (pc := 32) (tgt := 171) (by rw [c1_]; decide) (by rw [c1_]; decide) (by rw [c1_]; rfl) (by decide) dL_law_32 ?_
    exact law_tag X hX hbl hbA hT hi hL hR hI ht1 htk ht2 K
  by_cases c2_ : v = 2
  · refine aw_tableIn X (pc := 32) (tgt := 244) (by rw [c2_]; decide) (by rw [c2_]; decide) (by rw [c2_]; rfl) (by decide) dL_law_32 ?_
    exact law_name X hX hbl hbA hT hi hL hR hI ht1 htk ht2 K
  by_cases c3_ : v = 3
  · refine aw_tableIn X (pc := 32) (tgt := 268) (by rw [c3_]; decide) (by rw [c3_]; decide) (by rw [c3_]; rfl) (by decide) dL_law_32 ?_
    exact law_isName X hX hbl hbA hT hi hL hR hI ht1 htk ht2 K
  by_cases c4_ : v = 4
  · refine aw_tableIn X (pc := 32) (tgt := 321) (by rw [c4_]; decide) (by rw [c4_]; decide) (by rw [c4_]; rfl) (by decide) dL_law_32 ?_
    exact law_tell X hX hbl hbA hT hi hL hR hI ht1 htk ht2 K
  by_cases c5_ : v = 5
  · refine aw_tableIn X (pc := 32) (tgt := 354) (by rw [c5_]; decide) (by rw [c5_]; decide) (by rw [c5_]; rfl) (by decide) dL_law_32 ?_
    exact law_act X hX hbl hbA hT hi hL hR hI ht1 htk ht2 K
  by_cases c6_ : v = 6
  · refine aw_tableIn X (pc := 32) (tgt := 387) (by rw [c6_]; decide) (by rw [c6_]; decide) (by rw [c6_]; rfl) (by decide) dL_law_32 ?_
    exact law_group X hX hbl hbA hT hi hL hR hI ht1 htk ht2 K
  by_cases c7_ : v = 7
  · refine aw_tableIn X (pc := 32) (tgt := 480) (by rw [c7_]; decide) (by rw [c7_]; decide) (by rw [c7_]; rfl) (by decide) dL_law_32 ?_
    exact law_pass X hX hbl hbA hT hi hL hR hI ht1 htk ht2 K
  by_cases c8_ : v = 8
  · refine aw_tableIn X (pc := 32) (tgt := 493) (by rw [c8_]; decide) (by rw [c8_]; decide) (by rw [c8_]; rfl) (by decide) dL_law_32 ?_
    exact law_fork X hX hbl hbA hT hi hL hR hI ht1 htk ht2 K
  by_cases c9_ : v = 9
  · refine aw_tableIn X (pc := 32) (tgt := 516) (by rw [c9_]; decide) (by rw [c9_]; decide) (by rw [c9_]; rfl) (by decide) dL_law_32 ?_
    exact law_verify X hX hbl hbA hT hi hL hR hI ht1 htk ht2 K
  by_cases c10_ : v = 10
  · refine aw_tableIn X (pc := 32) (tgt := 569) (by rw [c10_]; decide) (by rw [c10_]; decide) (by rw [c10_]; rfl) (by decide) dL_law_32 ?_
    exact law_ask X hX hbl hbA hT hi hL hR hI ht1 htk ht2 K
  by_cases c11_ : v = 11
  · refine aw_tableIn X (pc := 32) (tgt := 632) (by rw [c11_]; decide) (by rw [c11_]; decide) (by rw [c11_]; rfl) (by decide) dL_law_32 ?_
    exact law_alone X hX hbl hbA hT hi hL hR hI ht1 htk ht2 K
  by_cases c12_ : v = 12
  · refine aw_tableIn X (pc := 32) (tgt := 645) (by rw [c12_]; decide) (by rw [c12_]; decide) (by rw [c12_]; rfl) (by decide) dL_law_32 ?_
    exact law_descend X hX hbl hbA hT hi hL hR hI ht1 htk ht2 K
  by_cases c13_ : v = 13
  · refine aw_tableIn X (pc := 32) (tgt := 656) (by rw [c13_]; decide) (by rw [c13_]; decide) (by rw [c13_]; rfl) (by decide) dL_law_32 ?_
    exact law_step X hX hbl hbA hT hi hL hR hI ht1 htk ht2 K
  by_cases c14_ : v = 14
  · refine aw_tableIn X (pc := 32) (tgt := 669) (by rw [c14_]; decide) (by rw [c14_]; decide) (by rw [c14_]; rfl) (by decide) dL_law_32 ?_
    exact law_nodes X hX hbl hbA hT hi hL hR hI ht1 htk ht2 K
  by_cases c15_ : v = 15
  · refine aw_tableIn X (pc := 32) (tgt := 682) (by rw [c15_]; decide) (by rw [c15_]; decide) (by rw [c15_]; rfl) (by decide) dL_law_32 ?_
    exact law_begin X hX hbl hbA hT hi hL hR hI ht1 htk ht2 K
  by_cases c16_ : v = 16
  · refine aw_tableIn X (pc := 32) (tgt := 695) (by rw [c16_]; decide) (by rw [c16_]; decide) (by rw [c16_]; rfl) (by decide) dL_law_32 ?_
    exact law_split X hX hbl hbA hT hi hL hR hI ht1 htk ht2 K
  by_cases c17_ : v = 17
  · refine aw_tableIn X (pc := 32) (tgt := 708) (by rw [c17_]; decide) (by rw [c17_]; decide) (by rw [c17_]; rfl) (by decide) dL_law_32 ?_
    exact law_frames X hX hbl hbA hT hi hL hR hI ht1 htk ht2 K
  by_cases c18_ : v = 18
  · refine aw_tableIn X (pc := 32) (tgt := 719) (by rw [c18_]; decide) (by rw [c18_]; decide) (by rw [c18_]; rfl) (by decide) dL_law_32 ?_
    exact law_frame X hX hbl hbA hT hi hL hR hI ht1 htk ht2 K
  by_cases c19_ : v = 19
  · refine aw_tableIn X (pc := 32) (tgt := 742) (by rw [c19_]; decide) (by rw [c19_]; decide) (by rw [c19_]; rfl) (by decide) dL_law_32 ?_
    exact law_heard X hX hbl hbA hT hi hL hR hI ht1 htk ht2 K
  by_cases c20_ : v = 20
  · refine aw_tableIn X (pc := 32) (tgt := 765) (by rw [c20_]; decide) (by rw [c20_]; decide) (by rw [c20_]; rfl) (by decide) dL_law_32 ?_
    exact law_found X hX hbl hbA hT hi hL hR hI ht1 htk ht2 K
  by_cases c21_ : v = 21
  · refine aw_tableIn X (pc := 32) (tgt := 788) (by rw [c21_]; decide) (by rw [c21_]; decide) (by rw [c21_]; rfl) (by decide) dL_law_32 ?_
    exact law_cost X hX hbl hbA hT hi hL hR hI ht1 htk ht2 K
  by_cases c22_ : v = 22
  · refine aw_tableIn X (pc := 32) (tgt := 811) (by rw [c22_]; decide) (by rw [c22_]; decide) (by rw [c22_]; rfl) (by decide) dL_law_32 ?_
    exact law_count X hX hbl hbA hT hi hL hR hI ht1 htk ht2 K
  by_cases c23_ : v = 23
  · refine aw_tableIn X (pc := 32) (tgt := 834) (by rw [c23_]; decide) (by rw [c23_]; decide) (by rw [c23_]; rfl) (by decide) dL_law_32 ?_
    exact law_image X hX hbl hbA hT hi hL hR hI ht1 htk ht2 K
  by_cases c24_ : v = 24
  · refine aw_tableIn X (pc := 32) (tgt := 857) (by rw [c24_]; decide) (by rw [c24_]; decide) (by rw [c24_]; rfl) (by decide) dL_law_32 ?_
    exact law_again X hX hbl hbA hT hi hL hR hI ht1 htk ht2 K
  refine aw_tableOut X (pc := 32) (tgt := 880) (tb_out24 c0_ c1_ c2_ c3_ c4_ c5_ c6_ c7_ c8_ c9_ c10_ c11_ c12_ c13_ c14_ c15_ c16_ c17_ c18_ c19_ c20_ c21_ c22_ c23_ c24_) (by decide) dL_law_32 ?_
  refine aw_widen (k := 31 + 16 * (T + 1)) (n := 4328 + 599 * (T + 1)) (by omega) (by omega) ?_
  exact K _ _ ⟨_, _, _, _, _, _, _, _, _, _, _, _, _, _, _, _, _, _, _, _, _, _, _, _, _, _, _, _, _, _, _, _, _, _, _, _, _, _, _, _, _, _, _, _, _, _, _, _, _, _, _, _, _, _, _, _, _, _, _, _, _, _, _, _, _, _, _, _, _, _, _, rfl, rfl, rfl, hR.move (Nat.le_succ T) (fun _ _ => rfl) (fun _ _ => rfl), ImgOK.fr (FrA.refl a) (FrW.refl w) hI, ht1, htk, ht2⟩ X

theorem law_loop (hX : va_X b L xs s s.heap) (hbl : b < s.heap.size) (hbA : ¬ A b) (hL : L ≤ 2560) (K0 : ∀ (T : Nat) (lv : List (Nat × Value)) (ws : va_W) (tys : List (ClassId × FieldType)), T ≤ 512 → Cx p s m #[Value.ref b] meth c cL_law 4 (some .boolean) RL D tys A → AW p l e room_1 s m #[Value.ref b] below meth c D A 4 (31 + 16 * T) (4328 + 599 * T) Q 886 lv [] ws) : ∀ (N T : Nat) (tys : List (ClassId × FieldType)) (ws : va_W), T + N = 512 → LI T x0 m0 ws tys → Cx p s m #[Value.ref b] meth c cL_law 4 (some .boolean) RL D tys A → AW p l e room_1 s m #[Value.ref b] below meth c D A 4 (31 + 16 * T) (4328 + 599 * T) Q 18 [(3, .int (nI (5 * T))), (0, .ref b), (1, .ref x0), (2, .ref m0)] [] ws
  | 0, T, tys, ws, hN, h, X => law_one X hX hbl hbA (by omega) hL h K0 (fun hi => by omega)
  | N + 1, T, tys, ws, hN, h, X => law_one X hX hbl hbA (by omega) hL h K0 (fun _ ws' tys' h' X' => law_loop hX hbl hbA hL K0 N (T + 1) tys' ws' (by omega) h' X')
end LAWL
