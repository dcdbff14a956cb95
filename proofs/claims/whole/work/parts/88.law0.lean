section LAWC0
variable {p : Program} {l : Launch} {e : Env} {s : State} {m : MethodId} {below : List Frame} {meth : Method} {c : Code} {D : va_G} {tys : List (ClassId × FieldType)} {A : Nat → Prop} {Q : State → Prop} {b L T : Nat} {xs : Nat → Int32} {r0 : Nat} {ri : Nat} {rs : Nat} {kS : ClassId} {sl : Nat → Int64} {qC : Nat → Nat} {kC : Nat → ClassId} {pr : Nat → Int64} {nx : Nat → Int64} {csz : Int32} {s0 : Nat} {qT : Nat → Nat} {kT : Nat → ClassId} {kinds : Nat → Int32} {names : Nat → Int64} {seeds : Nat → Int32} {ones : Nat → Int64} {ofk : Nat → Int64} {sz : Int32} {there : Int64} {awake : Int64} {grp : Int64} {gm : Int64} {gb : Int64} {p0 : Nat} {lf : Int32} {ir : Int32} {ln : Int64} {qL : Nat → Nat} {kL : Nat → ClassId} {rows : Nat → Int64} {lens : Nat → Int32} {psz : Int32} {qK : Nat → Nat} {kK : Nat → ClassId} {vals : Nat → Int32} {hold : Int64} {call : Int32} {f0 : Nat} {fio : Int64} {fqu : Int32} {fal : Int32} {fco : Int32} {fgu : Int32} {qY : Nat → Nat} {kY : Nat → ClassId} {ft : Nat → Int32} {fs : Int32} {qs : Int32} {als : Int32} {cs : Int32} {ps : Int32} {wire : Int32} {alo : Int32} {ki : ClassId} {im : Nat → Option Nat} {iw : Nat → va_W} {q : Nat → Nat} {kc : Nat → ClassId} {a : Nat → Int32} {w : Nat → Int64} {hs : Nat → Int32} {inn : Nat → Int32} {sp : Nat → Int32} {lone : Int32} {lt : Nat → Int64} {lz : Nat → Int32} {dr : Nat → Int32} {n f z : Nat}
set_option maxHeartbeats 1000000 in
set_option maxRecDepth 100000 in
theorem law_wire (X : Cx p s m #[Value.ref b] meth c cL_law 4 (some .boolean) RL D tys A) (hX : va_X b L xs s s.heap) (hbl : b < s.heap.size) (hbA : ¬ A b) (hT : T < 512) (hi : 5 * T + 5 ≤ L) (hL : L ≤ 2560) (hR : Rel T a w n f z kinds names seeds ones ofk sz there awake grp gm gb lf ir ln rows lens psz vals hold call fio fqu fal fco fgu ft fs qs als cs ps wire alo) (hI : ∀ k, k < 4 → ImgOK T a w hs im tys k (iw k)) (ht1 : ∀ x ∈ ([(kS, .long), (kC 1, .long), (kC 2, .long), (kT 1, .int), (kT 2, .long), (kT 3, .int), (kT 4, .long), (kT 5, .long), (kL 1, .long), (kL 2, .int), (kK 1, .int), (kY 1, .int)] : List (ClassId × FieldType)), x ∈ tys) (htk : (ki, FieldType.object RX5) ∈ tys) (ht2 : ∀ x ∈ ([(kc 1, .int), (kc 2, .long), (kc 3, .boolean), (kc 4, .boolean), (kc 5, .boolean), (kc 6, .long), (kc 7, .int), (kc 8, .int)] : List (ClassId × FieldType)), x ∈ tys) (K : ∀ (ws' : va_W) (tys' : List (ClassId × FieldType)), LI (T + 1) r0 (q 0) ws' tys' → Cx p s m #[Value.ref b] meth c cL_law 4 (some .boolean) RL D tys' A → AW p l e room_1 s m #[Value.ref b] below meth c D A 4 (31 + 16 * (T + 1)) (4328 + 599 * (T + 1)) Q 880 [(3, .int (nI (5 * T))), (0, .ref b), (1, .ref r0), (2, .ref (q 0))] [] ws') : AW p l e room_1 s m #[Value.ref b] below meth c D A 4 (31 + 16 * T) (4328 + 599 * T) Q 148 [(3, .int (nI (5 * T))), (0, .ref b), (1, .ref r0), (2, .ref (q 0))] [] (rolW r0 ri rs kS sl qC kC pr nx 0 csz s0 qT kT kinds names seeds ones ofk sz there awake grp gm gb p0 lf ir ln qL kL rows lens psz qK kK vals hold call f0 fio fqu fal fco fgu qY kY ft fs qs als cs ps wire alo ++ (rimW ri ki im ++ (imsW iw ++ mW q kc a w hs inn sp lone lt lz dr))) := by
  have hc0 : 31 + 16 * T ≤ room_1.cells ∧ 4328 + 599 * T ≤ room_1.slots := ⟨by show _ ≤ 600000; omega, by show _ ≤ 7302250; omega⟩
  have h15 := hR.2.2.2.2.2.1.1
  have hf := hR.2.2.2.2.2.1.2.1
  have hz := pJ_wt hR.2.2.2.2.1.2.2.2
  refine aw_aload_n X (pc := 148) 2 rfl rfl dL_law_148 ?_
  refine aw_aload_n X (pc := 149) 1 rfl rfl dL_law_149 ?_
  refine aw_iload_n X (pc := 150) 0 rfl rfl dL_law_150 ?_
  refine aw_iconst X (pc := 151) (v := 1) dL_law_151 (by decide) ?_
  refine aw_iadd X (pc := 152) (z := nI (5 * T + 1)) (nn_add (a := 5 * T) (b := 1) rfl rfl rfl) dL_law_152 ?_
  refine aw_sld X (pc := 153) hX hbl hbA (5 * T + 1) rfl (by omega) (by omega) dL_law_153 ?_
  have hE := eq_wire (xs (5 * T + 1)) hR
  refine aw_callP X (pc := 154) (q1 := 0) (rest := []) (st' := [.int (r_X8_wire (xs (5 * T + 1)))]) (wr := rimW ri ki im ++ (imsW iw ++ mW q kc a w hs inn sp lone lt lz dr)) (ws' := (rolW r0 ri rs kS sl qC kC pr nx 0 csz s0 qT kT kinds names seeds ones ofk sz there awake grp gm gb p0 lf ir ln qL kL rows lens psz qK kK vals hold call f0 fio fqu fal fco fgu qY kY ft fs qs als cs ps (u_X8_wire_wire wire (xs (5 * T + 1))) alo) ++ (rimW ri ki im ++ (imsW iw ++ mW q kc a w hs inn sp lone lt lz dr))) (c_X8_wire l D r0 ri rs kS sl qC kC pr nx 0 csz s0 qT kT kinds names seeds ones ofk sz there awake grp gm gb p0 lf ir ln qL kL rows lens psz qK kK vals hold call f0 fio fqu fal fco fgu qY kY ft fs qs als cs ps wire alo (xs (5 * T + 1))) rfl rfl List.perm_append_comm List.perm_append_comm ht1 ⟨_, _, rfl⟩ rfl cf_L_13 cd_X8_wire dd_X8_wire ⟨Nat.le_of_ble_eq_true rfl, Nat.le_of_ble_eq_true rfl⟩ hc0 (by decide) rfl (Nat.le_of_ble_eq_true rfl) dL_law_154 rfl ?_
  refine aw_aload_n X (pc := 157) 3 rfl rfl dL_law_157 ?_
  refine aw_aload_n X (pc := 158) 1 rfl rfl dL_law_158 ?_
  refine aw_iload_n X (pc := 159) 0 rfl rfl dL_law_159 ?_
  refine aw_iconst X (pc := 160) (v := 1) dL_law_160 (by decide) ?_
  refine aw_iadd X (pc := 161) (z := nI (5 * T + 1)) (nn_add (a := 5 * T) (b := 1) rfl rfl rfl) dL_law_161 ?_
  refine aw_sld X (pc := 162) hX hbl hbA (5 * T + 1) rfl (by omega) (by omega) dL_law_162 ?_
  refine aw_callP X (pc := 163) (q1 := 0) (rest := [.int (r_X8_wire (xs (5 * T + 1)))]) (st' := [.int (r_X9_wire (xs (5 * T + 1))), .int (r_X8_wire (xs (5 * T + 1)))]) (wr := (rolW r0 ri rs kS sl qC kC pr nx 0 csz s0 qT kT kinds names seeds ones ofk sz there awake grp gm gb p0 lf ir ln qL kL rows lens psz qK kK vals hold call f0 fio fqu fal fco fgu qY kY ft fs qs als cs ps (u_X8_wire_wire wire (xs (5 * T + 1))) alo) ++ (rimW ri ki im ++ imsW iw)) (ws' := (rolW r0 ri rs kS sl qC kC pr nx 0 csz s0 qT kT kinds names seeds ones ofk sz there awake grp gm gb p0 lf ir ln qL kL rows lens psz qK kK vals hold call f0 fio fqu fal fco fgu qY kY ft fs qs als cs ps (u_X8_wire_wire wire (xs (5 * T + 1))) alo) ++ (rimW ri ki im ++ (imsW iw ++ (mW q kc (u_X9_wire_a a (xs (5 * T + 1))) w hs inn sp lone lt lz dr)))) (c_X9_wire l D q kc a w hs inn sp lone lt lz dr (xs (5 * T + 1))) rfl rfl (pm_M _ _ _ _) (pm_M _ _ _ _).symm ht2 ⟨_, _, rfl⟩ rfl cf_L_17 cd_X9_wire dd_X9_wire ⟨Nat.le_of_ble_eq_true rfl, Nat.le_of_ble_eq_true rfl⟩ hc0 (by decide) rfl (Nat.le_of_ble_eq_true rfl) dL_law_163 rfl ?_
  refine aw_icmp_eq X (pc := 166) (tgt := 880) (by decide) dL_law_166 (fun _ => ?_) (fun c1 => absurd hE.1 c1)
  refine aw_widen (k := 31 + 16 * (T + 1)) (n := 4328 + 599 * (T + 1)) (by omega) (by omega) ?_
  have hR2 := hE.2
  exact K _ _ ⟨_, _, _, _, _, _, _, _, _, _, _, _, _, _, _, _, _, _, _, _, _, _, _, _, _, _, _, _, _, _, _, _, _, _, _, _, _, _, _, _, _, _, _, _, _, _, _, _, _, _, _, _, _, _, _, _, _, _, _, _, _, _, _, _, _, _, _, _, _, _, _, rfl, rfl, rfl, hR2, ImgOK.fr (fra_wire a (xs (5 * T + 1))) (FrW.refl w) hI, ht1, htk, ht2⟩ X

set_option maxHeartbeats 1000000 in
set_option maxRecDepth 100000 in
theorem law_tag (X : Cx p s m #[Value.ref b] meth c cL_law 4 (some .boolean) RL D tys A) (hX : va_X b L xs s s.heap) (hbl : b < s.heap.size) (hbA : ¬ A b) (hT : T < 512) (hi : 5 * T + 5 ≤ L) (hL : L ≤ 2560) (hR : Rel T a w n f z kinds names seeds ones ofk sz there awake grp gm gb lf ir ln rows lens psz vals hold call fio fqu fal fco fgu ft fs qs als cs ps wire alo) (hI : ∀ k, k < 4 → ImgOK T a w hs im tys k (iw k)) (ht1 : ∀ x ∈ ([(kS, .long), (kC 1, .long), (kC 2, .long), (kT 1, .int), (kT 2, .long), (kT 3, .int), (kT 4, .long), (kT 5, .long), (kL 1, .long), (kL 2, .int), (kK 1, .int), (kY 1, .int)] : List (ClassId × FieldType)), x ∈ tys) (htk : (ki, FieldType.object RX5) ∈ tys) (ht2 : ∀ x ∈ ([(kc 1, .int), (kc 2, .long), (kc 3, .boolean), (kc 4, .boolean), (kc 5, .boolean), (kc 6, .long), (kc 7, .int), (kc 8, .int)] : List (ClassId × FieldType)), x ∈ tys) (K : ∀ (ws' : va_W) (tys' : List (ClassId × FieldType)), LI (T + 1) r0 (q 0) ws' tys' → Cx p s m #[Value.ref b] meth c cL_law 4 (some .boolean) RL D tys' A → AW p l e room_1 s m #[Value.ref b] below meth c D A 4 (31 + 16 * (T + 1)) (4328 + 599 * (T + 1)) Q 880 [(3, .int (nI (5 * T))), (0, .ref b), (1, .ref r0), (2, .ref (q 0))] [] ws') : AW p l e room_1 s m #[Value.ref b] below meth c D A 4 (31 + 16 * T) (4328 + 599 * T) Q 171 [(3, .int (nI (5 * T))), (0, .ref b), (1, .ref r0), (2, .ref (q 0))] [] (rolW r0 ri rs kS sl qC kC pr nx 0 csz s0 qT kT kinds names seeds ones ofk sz there awake grp gm gb p0 lf ir ln qL kL rows lens psz qK kK vals hold call f0 fio fqu fal fco fgu qY kY ft fs qs als cs ps wire alo ++ (rimW ri ki im ++ (imsW iw ++ mW q kc a w hs inn sp lone lt lz dr))) := by
  have hc0 : 31 + 16 * T ≤ room_1.cells ∧ 4328 + 599 * T ≤ room_1.slots := ⟨by show _ ≤ 600000; omega, by show _ ≤ 7302250; omega⟩
  have h15 := hR.2.2.2.2.2.1.1
  have hf := hR.2.2.2.2.2.1.2.1
  have hz := pJ_wt hR.2.2.2.2.1.2.2.2
  refine aw_aload_n X (pc := 171) 2 rfl rfl dL_law_171 ?_
  refine aw_aload_n X (pc := 172) 1 rfl rfl dL_law_172 ?_
  refine aw_iload_n X (pc := 173) 0 rfl rfl dL_law_173 ?_
  refine aw_iconst X (pc := 174) (v := 1) dL_law_174 (by decide) ?_
  refine aw_iadd X (pc := 175) (z := nI (5 * T + 1)) (nn_add (a := 5 * T) (b := 1) rfl rfl rfl) dL_law_175 ?_
  refine aw_sld X (pc := 176) hX hbl hbA (5 * T + 1) rfl (by omega) (by omega) dL_law_176 ?_
  refine aw_aload_n X (pc := 177) 1 rfl rfl dL_law_177 ?_
  refine aw_iload_n X (pc := 178) 0 rfl rfl dL_law_178 ?_
  refine aw_iconst X (pc := 179) (v := 2) dL_law_179 (by decide) ?_
  refine aw_iadd X (pc := 180) (z := nI (5 * T + 2)) (nn_add (a := 5 * T) (b := 2) rfl rfl rfl) dL_law_180 ?_
  refine aw_sld X (pc := 181) hX hbl hbA (5 * T + 2) rfl (by omega) (by omega) dL_law_181 ?_
  refine aw_i2l X (pc := 182) (z := (xs (5 * T + 2)).toInt64) rfl dL_law_182 ?_
  refine aw_bipush X (pc := 183) (v := 32) dL_law_183 (by decide) ?_
  refine aw_lshl X (pc := 185) (z := ((xs (5 * T + 2)).toInt64) <<< (Int32.toInt64 32 &&& 63)) rfl dL_law_185 ?_
  refine aw_aload_n X (pc := 186) 1 rfl rfl dL_law_186 ?_
  refine aw_iload_n X (pc := 187) 0 rfl rfl dL_law_187 ?_
  refine aw_iconst X (pc := 188) (v := 3) dL_law_188 (by decide) ?_
  refine aw_iadd X (pc := 189) (z := nI (5 * T + 3)) (nn_add (a := 5 * T) (b := 3) rfl rfl rfl) dL_law_189 ?_
  refine aw_sld X (pc := 190) hX hbl hbA (5 * T + 3) rfl (by omega) (by omega) dL_law_190 ?_
  refine aw_i2l X (pc := 191) (z := (xs (5 * T + 3)).toInt64) rfl dL_law_191 ?_
  refine aw_ldc2 X (pc := 192) ld_L_18 dL_law_192 ?_
  refine aw_land X (pc := 195) (z := ((xs (5 * T + 3)).toInt64) &&& 4294967295) rfl dL_law_195 ?_
  refine aw_lor X (pc := 196) (z := (((xs (5 * T + 2)).toInt64) <<< (Int32.toInt64 32 &&& 63)) ||| (((xs (5 * T + 3)).toInt64) &&& 4294967295)) rfl dL_law_196 ?_
  refine aw_aload_n X (pc := 197) 1 rfl rfl dL_law_197 ?_
  refine aw_iload_n X (pc := 198) 0 rfl rfl dL_law_198 ?_
  refine aw_iconst X (pc := 199) (v := 4) dL_law_199 (by decide) ?_
  refine aw_iadd X (pc := 200) (z := nI (5 * T + 4)) (nn_add (a := 5 * T) (b := 4) rfl rfl rfl) dL_law_200 ?_
  refine aw_sld X (pc := 201) hX hbl hbA (5 * T + 4) rfl (by omega) (by omega) dL_law_201 ?_
  have hE := eq_tag (xs (5 * T + 1)) ((((xs (5 * T + 2)).toInt64) <<< (Int32.toInt64 32 &&& 63)) ||| (((xs (5 * T + 3)).toInt64) &&& 4294967295)) (xs (5 * T + 4)) hR
  refine aw_callP X (pc := 202) (q1 := 0) (rest := []) (st' := [.int (r_X8_tag names sz n (xs (5 * T + 1)) ((((xs (5 * T + 2)).toInt64) <<< (Int32.toInt64 32 &&& 63)) ||| (((xs (5 * T + 3)).toInt64) &&& 4294967295)))]) (wr := rimW ri ki im ++ (imsW iw ++ mW q kc a w hs inn sp lone lt lz dr)) (ws' := (rolW r0 ri rs kS sl qC kC pr nx 0 csz s0 qT kT (u_X8_tag_kinds kinds names sz n (xs (5 * T + 1)) ((((xs (5 * T + 2)).toInt64) <<< (Int32.toInt64 32 &&& 63)) ||| (((xs (5 * T + 3)).toInt64) &&& 4294967295))) (u_X8_tag_names names sz n (xs (5 * T + 1)) ((((xs (5 * T + 2)).toInt64) <<< (Int32.toInt64 32 &&& 63)) ||| (((xs (5 * T + 3)).toInt64) &&& 4294967295))) (u_X8_tag_seeds names seeds sz n (xs (5 * T + 1)) ((((xs (5 * T + 2)).toInt64) <<< (Int32.toInt64 32 &&& 63)) ||| (((xs (5 * T + 3)).toInt64) &&& 4294967295)) (xs (5 * T + 4))) (u_X8_tag_ones names ones sz n (xs (5 * T + 1)) ((((xs (5 * T + 2)).toInt64) <<< (Int32.toInt64 32 &&& 63)) ||| (((xs (5 * T + 3)).toInt64) &&& 4294967295))) (u_X8_tag_ofk names ofk sz n (xs (5 * T + 1)) ((((xs (5 * T + 2)).toInt64) <<< (Int32.toInt64 32 &&& 63)) ||| (((xs (5 * T + 3)).toInt64) &&& 4294967295))) (u_X8_tag_sz names sz n (xs (5 * T + 1)) ((((xs (5 * T + 2)).toInt64) <<< (Int32.toInt64 32 &&& 63)) ||| (((xs (5 * T + 3)).toInt64) &&& 4294967295))) (u_X8_tag_there names sz there n (xs (5 * T + 1)) ((((xs (5 * T + 2)).toInt64) <<< (Int32.toInt64 32 &&& 63)) ||| (((xs (5 * T + 3)).toInt64) &&& 4294967295))) (u_X8_tag_awake names sz awake n (xs (5 * T + 1)) ((((xs (5 * T + 2)).toInt64) <<< (Int32.toInt64 32 &&& 63)) ||| (((xs (5 * T + 3)).toInt64) &&& 4294967295))) (u_X8_tag_grp names sz grp gm gb n (xs (5 * T + 1)) ((((xs (5 * T + 2)).toInt64) <<< (Int32.toInt64 32 &&& 63)) ||| (((xs (5 * T + 3)).toInt64) &&& 4294967295))) gm gb p0 lf ir ln qL kL rows lens psz qK kK vals hold call f0 fio fqu fal fco fgu qY kY ft fs qs als cs ps wire alo) ++ (rimW ri ki im ++ (imsW iw ++ mW q kc a w hs inn sp lone lt lz dr))) (c_X8_tag l D r0 ri rs kS sl qC kC pr nx 0 csz s0 qT kT kinds names seeds ones ofk sz there awake grp gm gb p0 lf ir ln qL kL rows lens psz qK kK vals hold call f0 fio fqu fal fco fgu qY kY ft fs qs als cs ps wire alo n (xs (5 * T + 1)) ((((xs (5 * T + 2)).toInt64) <<< (Int32.toInt64 32 &&& 63)) ||| (((xs (5 * T + 3)).toInt64) &&& 4294967295)) (xs (5 * T + 4)) hR.1.2.2.1 hR.1.2.1) rfl rfl List.perm_append_comm List.perm_append_comm ht1 ⟨_, _, rfl⟩ rfl cf_L_20 cd_X8_tag dd_X8_tag ⟨Nat.le_of_ble_eq_true rfl, Nat.le_of_ble_eq_true rfl⟩ hc0 (by decide) rfl (Nat.le_of_ble_eq_true rfl) dL_law_202 rfl ?_
  refine aw_aload_n X (pc := 205) 3 rfl rfl dL_law_205 ?_
  refine aw_aload_n X (pc := 206) 1 rfl rfl dL_law_206 ?_
  refine aw_iload_n X (pc := 207) 0 rfl rfl dL_law_207 ?_
  refine aw_iconst X (pc := 208) (v := 1) dL_law_208 (by decide) ?_
  refine aw_iadd X (pc := 209) (z := nI (5 * T + 1)) (nn_add (a := 5 * T) (b := 1) rfl rfl rfl) dL_law_209 ?_
  refine aw_sld X (pc := 210) hX hbl hbA (5 * T + 1) rfl (by omega) (by omega) dL_law_210 ?_
  refine aw_aload_n X (pc := 211) 1 rfl rfl dL_law_211 ?_
  refine aw_iload_n X (pc := 212) 0 rfl rfl dL_law_212 ?_
  refine aw_iconst X (pc := 213) (v := 2) dL_law_213 (by decide) ?_
  refine aw_iadd X (pc := 214) (z := nI (5 * T + 2)) (nn_add (a := 5 * T) (b := 2) rfl rfl rfl) dL_law_214 ?_
  refine aw_sld X (pc := 215) hX hbl hbA (5 * T + 2) rfl (by omega) (by omega) dL_law_215 ?_
  refine aw_i2l X (pc := 216) (z := (xs (5 * T + 2)).toInt64) rfl dL_law_216 ?_
  refine aw_bipush X (pc := 217) (v := 32) dL_law_217 (by decide) ?_
  refine aw_lshl X (pc := 219) (z := ((xs (5 * T + 2)).toInt64) <<< (Int32.toInt64 32 &&& 63)) rfl dL_law_219 ?_
  refine aw_aload_n X (pc := 220) 1 rfl rfl dL_law_220 ?_
  refine aw_iload_n X (pc := 221) 0 rfl rfl dL_law_221 ?_
  refine aw_iconst X (pc := 222) (v := 3) dL_law_222 (by decide) ?_
  refine aw_iadd X (pc := 223) (z := nI (5 * T + 3)) (nn_add (a := 5 * T) (b := 3) rfl rfl rfl) dL_law_223 ?_
  refine aw_sld X (pc := 224) hX hbl hbA (5 * T + 3) rfl (by omega) (by omega) dL_law_224 ?_
  refine aw_i2l X (pc := 225) (z := (xs (5 * T + 3)).toInt64) rfl dL_law_225 ?_
  refine aw_ldc2 X (pc := 226) ld_L_18 dL_law_226 ?_
  refine aw_land X (pc := 229) (z := ((xs (5 * T + 3)).toInt64) &&& 4294967295) rfl dL_law_229 ?_
  refine aw_lor X (pc := 230) (z := (((xs (5 * T + 2)).toInt64) <<< (Int32.toInt64 32 &&& 63)) ||| (((xs (5 * T + 3)).toInt64) &&& 4294967295)) rfl dL_law_230 ?_
  refine aw_aload_n X (pc := 231) 1 rfl rfl dL_law_231 ?_
  refine aw_iload_n X (pc := 232) 0 rfl rfl dL_law_232 ?_
  refine aw_iconst X (pc := 233) (v := 4) dL_law_233 (by decide) ?_
  refine aw_iadd X (pc := 234) (z := nI (5 * T + 4)) (nn_add (a := 5 * T) (b := 4) rfl rfl rfl) dL_law_234 ?_
  refine aw_sld X (pc := 235) hX hbl hbA (5 * T + 4) rfl (by omega) (by omega) dL_law_235 ?_
  refine aw_callP X (pc := 236) (q1 := 0) (rest := [.int (r_X8_tag names sz n (xs (5 * T + 1)) ((((xs (5 * T + 2)).toInt64) <<< (Int32.toInt64 32 &&& 63)) ||| (((xs (5 * T + 3)).toInt64) &&& 4294967295)))]) (st' := [.int (r_X9_tag a w n (xs (5 * T + 1)) ((((xs (5 * T + 2)).toInt64) <<< (Int32.toInt64 32 &&& 63)) ||| (((xs (5 * T + 3)).toInt64) &&& 4294967295))), .int (r_X8_tag names sz n (xs (5 * T + 1)) ((((xs (5 * T + 2)).toInt64) <<< (Int32.toInt64 32 &&& 63)) ||| (((xs (5 * T + 3)).toInt64) &&& 4294967295)))]) (wr := (rolW r0 ri rs kS sl qC kC pr nx 0 csz s0 qT kT (u_X8_tag_kinds kinds names sz n (xs (5 * T + 1)) ((((xs (5 * T + 2)).toInt64) <<< (Int32.toInt64 32 &&& 63)) ||| (((xs (5 * T + 3)).toInt64) &&& 4294967295))) (u_X8_tag_names names sz n (xs (5 * T + 1)) ((((xs (5 * T + 2)).toInt64) <<< (Int32.toInt64 32 &&& 63)) ||| (((xs (5 * T + 3)).toInt64) &&& 4294967295))) (u_X8_tag_seeds names seeds sz n (xs (5 * T + 1)) ((((xs (5 * T + 2)).toInt64) <<< (Int32.toInt64 32 &&& 63)) ||| (((xs (5 * T + 3)).toInt64) &&& 4294967295)) (xs (5 * T + 4))) (u_X8_tag_ones names ones sz n (xs (5 * T + 1)) ((((xs (5 * T + 2)).toInt64) <<< (Int32.toInt64 32 &&& 63)) ||| (((xs (5 * T + 3)).toInt64) &&& 4294967295))) (u_X8_tag_ofk names ofk sz n (xs (5 * T + 1)) ((((xs (5 * T + 2)).toInt64) <<< (Int32.toInt64 32 &&& 63)) ||| (((xs (5 * T + 3)).toInt64) &&& 4294967295))) (u_X8_tag_sz names sz n (xs (5 * T + 1)) ((((xs (5 * T + 2)).toInt64) <<< (Int32.toInt64 32 &&& 63)) ||| (((xs (5 * T + 3)).toInt64) &&& 4294967295))) (u_X8_tag_there names sz there n (xs (5 * T + 1)) ((((xs (5 * T + 2)).toInt64) <<< (Int32.toInt64 32 &&& 63)) ||| (((xs (5 * T + 3)).toInt64) &&& 4294967295))) (u_X8_tag_awake names sz awake n (xs (5 * T + 1)) ((((xs (5 * T + 2)).toInt64) <<< (Int32.toInt64 32 &&& 63)) ||| (((xs (5 * T + 3)).toInt64) &&& 4294967295))) (u_X8_tag_grp names sz grp gm gb n (xs (5 * T + 1)) ((((xs (5 * T + 2)).toInt64) <<< (Int32.toInt64 32 &&& 63)) ||| (((xs (5 * T + 3)).toInt64) &&& 4294967295))) gm gb p0 lf ir ln qL kL rows lens psz qK kK vals hold call f0 fio fqu fal fco fgu qY kY ft fs qs als cs ps wire alo) ++ (rimW ri ki im ++ imsW iw)) (ws' := (rolW r0 ri rs kS sl qC kC pr nx 0 csz s0 qT kT (u_X8_tag_kinds kinds names sz n (xs (5 * T + 1)) ((((xs (5 * T + 2)).toInt64) <<< (Int32.toInt64 32 &&& 63)) ||| (((xs (5 * T + 3)).toInt64) &&& 4294967295))) (u_X8_tag_names names sz n (xs (5 * T + 1)) ((((xs (5 * T + 2)).toInt64) <<< (Int32.toInt64 32 &&& 63)) ||| (((xs (5 * T + 3)).toInt64) &&& 4294967295))) (u_X8_tag_seeds names seeds sz n (xs (5 * T + 1)) ((((xs (5 * T + 2)).toInt64) <<< (Int32.toInt64 32 &&& 63)) ||| (((xs (5 * T + 3)).toInt64) &&& 4294967295)) (xs (5 * T + 4))) (u_X8_tag_ones names ones sz n (xs (5 * T + 1)) ((((xs (5 * T + 2)).toInt64) <<< (Int32.toInt64 32 &&& 63)) ||| (((xs (5 * T + 3)).toInt64) &&& 4294967295))) (u_X8_tag_ofk names ofk sz n (xs (5 * T + 1)) ((((xs (5 * T + 2)).toInt64) <<< (Int32.toInt64 32 &&& 63)) ||| (((xs (5 * T + 3)).toInt64) &&& 4294967295))) (u_X8_tag_sz names sz n (xs (5 * T + 1)) ((((xs (5 * T + 2)).toInt64) <<< (Int32.toInt64 32 &&& 63)) ||| (((xs (5 * T + 3)).toInt64) &&& 4294967295))) (u_X8_tag_there names sz there n (xs (5 * T + 1)) ((((xs (5 * T + 2)).toInt64) <<< (Int32.toInt64 32 &&& 63)) ||| (((xs (5 * T + 3)).toInt64) &&& 4294967295))) (u_X8_tag_awake names sz awake n (xs (5 * T + 1)) ((((xs (5 * T + 2)).toInt64) <<< (Int32.toInt64 32 &&& 63)) ||| (((xs (5 * T + 3)).toInt64) &&& 4294967295))) (u_X8_tag_grp names sz grp gm gb n (xs (5 * T + 1)) ((((xs (5 * T + 2)).toInt64) <<< (Int32.toInt64 32 &&& 63)) ||| (((xs (5 * T + 3)).toInt64) &&& 4294967295))) gm gb p0 lf ir ln qL kL rows lens psz qK kK vals hold call f0 fio fqu fal fco fgu qY kY ft fs qs als cs ps wire alo) ++ (rimW ri ki im ++ (imsW iw ++ (mW q kc (u_X9_tag_a a w n (xs (5 * T + 1)) ((((xs (5 * T + 2)).toInt64) <<< (Int32.toInt64 32 &&& 63)) ||| (((xs (5 * T + 3)).toInt64) &&& 4294967295)) (xs (5 * T + 4))) (u_X9_tag_w a w n (xs (5 * T + 1)) ((((xs (5 * T + 2)).toInt64) <<< (Int32.toInt64 32 &&& 63)) ||| (((xs (5 * T + 3)).toInt64) &&& 4294967295))) hs inn sp lone lt lz dr)))) (c_X9_tag l D q kc a w hs inn sp lone lt lz dr n (xs (5 * T + 1)) ((((xs (5 * T + 2)).toInt64) <<< (Int32.toInt64 32 &&& 63)) ||| (((xs (5 * T + 3)).toInt64) &&& 4294967295)) (xs (5 * T + 4)) hR.1.1 hR.1.2.1) rfl rfl (pm_M _ _ _ _) (pm_M _ _ _ _).symm ht2 ⟨_, _, rfl⟩ rfl cf_L_24 cd_X9_tag dd_X9_tag ⟨Nat.le_of_ble_eq_true rfl, Nat.le_of_ble_eq_true rfl⟩ hc0 (by decide) rfl (Nat.le_of_ble_eq_true rfl) dL_law_236 rfl ?_
  refine aw_icmp_eq X (pc := 239) (tgt := 880) (by decide) dL_law_239 (fun _ => ?_) (fun c1 => absurd hE.1 c1)
  refine aw_widen (k := 31 + 16 * (T + 1)) (n := 4328 + 599 * (T + 1)) (by omega) (by omega) ?_
  obtain ⟨g0, hR2⟩ := hE.2
  exact K _ _ ⟨_, _, _, _, _, _, _, _, _, _, _, _, _, _, _, _, _, _, _, _, _, _, _, _, _, _, _, _, _, _, _, _, _, _, _, _, _, _, _, _, _, _, _, _, _, _, _, _, _, _, _, _, _, _, _, _, _, _, _, _, _, _, _, _, _, _, _, _, _, _, _, rfl, rfl, rfl, hR2, ImgOK.fr ((fra_tag hR.1.1 hR.1.2.1 (xs (5 * T + 1)) ((((xs (5 * T + 2)).toInt64) <<< (Int32.toInt64 32 &&& 63)) ||| (((xs (5 * T + 3)).toInt64) &&& 4294967295)) (xs (5 * T + 4))).1) ((fra_tag hR.1.1 hR.1.2.1 (xs (5 * T + 1)) ((((xs (5 * T + 2)).toInt64) <<< (Int32.toInt64 32 &&& 63)) ||| (((xs (5 * T + 3)).toInt64) &&& 4294967295)) (xs (5 * T + 4))).2) hI, ht1, htk, ht2⟩ X

set_option maxHeartbeats 1000000 in
set_option maxRecDepth 100000 in
theorem law_name (X : Cx p s m #[Value.ref b] meth c cL_law 4 (some .boolean) RL D tys A) (hX : va_X b L xs s s.heap) (hbl : b < s.heap.size) (hbA : ¬ A b) (hT : T < 512) (hi : 5 * T + 5 ≤ L) (hL : L ≤ 2560) (hR : Rel T a w n f z kinds names seeds ones ofk sz there awake grp gm gb lf ir ln rows lens psz vals hold call fio fqu fal fco fgu ft fs qs als cs ps wire alo) (hI : ∀ k, k < 4 → ImgOK T a w hs im tys k (iw k)) (ht1 : ∀ x ∈ ([(kS, .long), (kC 1, .long), (kC 2, .long), (kT 1, .int), (kT 2, .long), (kT 3, .int), (kT 4, .long), (kT 5, .long), (kL 1, .long), (kL 2, .int), (kK 1, .int), (kY 1, .int)] : List (ClassId × FieldType)), x ∈ tys) (htk : (ki, FieldType.object RX5) ∈ tys) (ht2 : ∀ x ∈ ([(kc 1, .int), (kc 2, .long), (kc 3, .boolean), (kc 4, .boolean), (kc 5, .boolean), (kc 6, .long), (kc 7, .int), (kc 8, .int)] : List (ClassId × FieldType)), x ∈ tys) (K : ∀ (ws' : va_W) (tys' : List (ClassId × FieldType)), LI (T + 1) r0 (q 0) ws' tys' → Cx p s m #[Value.ref b] meth c cL_law 4 (some .boolean) RL D tys' A → AW p l e room_1 s m #[Value.ref b] below meth c D A 4 (31 + 16 * (T + 1)) (4328 + 599 * (T + 1)) Q 880 [(3, .int (nI (5 * T))), (0, .ref b), (1, .ref r0), (2, .ref (q 0))] [] ws') : AW p l e room_1 s m #[Value.ref b] below meth c D A 4 (31 + 16 * T) (4328 + 599 * T) Q 244 [(3, .int (nI (5 * T))), (0, .ref b), (1, .ref r0), (2, .ref (q 0))] [] (rolW r0 ri rs kS sl qC kC pr nx 0 csz s0 qT kT kinds names seeds ones ofk sz there awake grp gm gb p0 lf ir ln qL kL rows lens psz qK kK vals hold call f0 fio fqu fal fco fgu qY kY ft fs qs als cs ps wire alo ++ (rimW ri ki im ++ (imsW iw ++ mW q kc a w hs inn sp lone lt lz dr))) := by
  have hc0 : 31 + 16 * T ≤ room_1.cells ∧ 4328 + 599 * T ≤ room_1.slots := ⟨by show _ ≤ 600000; omega, by show _ ≤ 7302250; omega⟩
  have h15 := hR.2.2.2.2.2.1.1
  have hf := hR.2.2.2.2.2.1.2.1
  have hz := pJ_wt hR.2.2.2.2.1.2.2.2
  refine aw_aload_n X (pc := 244) 2 rfl rfl dL_law_244 ?_
  refine aw_aload_n X (pc := 245) 1 rfl rfl dL_law_245 ?_
  refine aw_iload_n X (pc := 246) 0 rfl rfl dL_law_246 ?_
  refine aw_iconst X (pc := 247) (v := 1) dL_law_247 (by decide) ?_
  refine aw_iadd X (pc := 248) (z := nI (5 * T + 1)) (nn_add (a := 5 * T) (b := 1) rfl rfl rfl) dL_law_248 ?_
  refine aw_sld X (pc := 249) hX hbl hbA (5 * T + 1) rfl (by omega) (by omega) dL_law_249 ?_
  have hE := eq_name (xs (5 * T + 1)) hR
  refine aw_callP X (pc := 250) (q1 := 0) (rest := []) (st' := [.long (r_X8_name names sz (xs (5 * T + 1)))]) (wr := rimW ri ki im ++ (imsW iw ++ mW q kc a w hs inn sp lone lt lz dr)) (ws' := (rolW r0 ri rs kS sl qC kC pr nx 0 csz s0 qT kT kinds names seeds ones ofk sz there awake grp gm gb p0 lf ir ln qL kL rows lens psz qK kK vals hold call f0 fio fqu fal fco fgu qY kY ft fs qs als cs ps wire alo) ++ (rimW ri ki im ++ (imsW iw ++ mW q kc a w hs inn sp lone lt lz dr))) (c_X8_name l D r0 ri rs kS sl qC kC pr nx 0 csz s0 qT kT kinds names seeds ones ofk sz there awake grp gm gb p0 lf ir ln qL kL rows lens psz qK kK vals hold call f0 fio fqu fal fco fgu qY kY ft fs qs als cs ps wire alo n (xs (5 * T + 1)) hR.1.2.2.1 hR.1.2.1) rfl rfl List.perm_append_comm List.perm_append_comm ht1 ⟨_, _, rfl⟩ rfl cf_L_25 cd_X8_name dd_X8_name ⟨Nat.le_of_ble_eq_true rfl, Nat.le_of_ble_eq_true rfl⟩ hc0 (by decide) rfl (Nat.le_of_ble_eq_true rfl) dL_law_250 rfl ?_
  refine aw_aload_n X (pc := 253) 3 rfl rfl dL_law_253 ?_
  refine aw_aload_n X (pc := 254) 1 rfl rfl dL_law_254 ?_
  refine aw_iload_n X (pc := 255) 0 rfl rfl dL_law_255 ?_
  refine aw_iconst X (pc := 256) (v := 1) dL_law_256 (by decide) ?_
  refine aw_iadd X (pc := 257) (z := nI (5 * T + 1)) (nn_add (a := 5 * T) (b := 1) rfl rfl rfl) dL_law_257 ?_
  refine aw_sld X (pc := 258) hX hbl hbA (5 * T + 1) rfl (by omega) (by omega) dL_law_258 ?_
  refine aw_callP X (pc := 259) (q1 := 0) (rest := [.long (r_X8_name names sz (xs (5 * T + 1)))]) (st' := [.long (r_X9_name a w (xs (5 * T + 1))), .long (r_X8_name names sz (xs (5 * T + 1)))]) (wr := (rolW r0 ri rs kS sl qC kC pr nx 0 csz s0 qT kT kinds names seeds ones ofk sz there awake grp gm gb p0 lf ir ln qL kL rows lens psz qK kK vals hold call f0 fio fqu fal fco fgu qY kY ft fs qs als cs ps wire alo) ++ (rimW ri ki im ++ imsW iw)) (ws' := (rolW r0 ri rs kS sl qC kC pr nx 0 csz s0 qT kT kinds names seeds ones ofk sz there awake grp gm gb p0 lf ir ln qL kL rows lens psz qK kK vals hold call f0 fio fqu fal fco fgu qY kY ft fs qs als cs ps wire alo) ++ (rimW ri ki im ++ (imsW iw ++ (mW q kc a w hs inn sp lone lt lz dr)))) (c_X9_name l D q kc a w hs inn sp lone lt lz dr n (xs (5 * T + 1)) hR.1.1 hR.1.2.1) rfl rfl (pm_M _ _ _ _) (pm_M _ _ _ _).symm ht2 ⟨_, _, rfl⟩ rfl cf_L_29 cd_X9_name dd_X9_name ⟨Nat.le_of_ble_eq_true rfl, Nat.le_of_ble_eq_true rfl⟩ hc0 (by decide) rfl (Nat.le_of_ble_eq_true rfl) dL_law_259 rfl ?_
  refine aw_lcmp X (pc := 262) dL_law_262 ?_
  refine aw_if_eq X (pc := 263) (tgt := 880) (by decide) dL_law_263 (fun _ => ?_) (fun c1 => absurd ((lg_cmp_eq _ _).mpr hE) c1)
  refine aw_widen (k := 31 + 16 * (T + 1)) (n := 4328 + 599 * (T + 1)) (by omega) (by omega) ?_
  have hR2 := hR.move (Nat.le_succ T) (fun _ _ => rfl) (fun _ _ => rfl)
  exact K _ _ ⟨_, _, _, _, _, _, _, _, _, _, _, _, _, _, _, _, _, _, _, _, _, _, _, _, _, _, _, _, _, _, _, _, _, _, _, _, _, _, _, _, _, _, _, _, _, _, _, _, _, _, _, _, _, _, _, _, _, _, _, _, _, _, _, _, _, _, _, _, _, _, _, rfl, rfl, rfl, hR2, ImgOK.fr (FrA.refl a) (FrW.refl w) hI, ht1, htk, ht2⟩ X

set_option maxHeartbeats 1000000 in
set_option maxRecDepth 100000 in
theorem law_isName (X : Cx p s m #[Value.ref b] meth c cL_law 4 (some .boolean) RL D tys A) (hX : va_X b L xs s s.heap) (hbl : b < s.heap.size) (hbA : ¬ A b) (hT : T < 512) (hi : 5 * T + 5 ≤ L) (hL : L ≤ 2560) (hR : Rel T a w n f z kinds names seeds ones ofk sz there awake grp gm gb lf ir ln rows lens psz vals hold call fio fqu fal fco fgu ft fs qs als cs ps wire alo) (hI : ∀ k, k < 4 → ImgOK T a w hs im tys k (iw k)) (ht1 : ∀ x ∈ ([(kS, .long), (kC 1, .long), (kC 2, .long), (kT 1, .int), (kT 2, .long), (kT 3, .int), (kT 4, .long), (kT 5, .long), (kL 1, .long), (kL 2, .int), (kK 1, .int), (kY 1, .int)] : List (ClassId × FieldType)), x ∈ tys) (htk : (ki, FieldType.object RX5) ∈ tys) (ht2 : ∀ x ∈ ([(kc 1, .int), (kc 2, .long), (kc 3, .boolean), (kc 4, .boolean), (kc 5, .boolean), (kc 6, .long), (kc 7, .int), (kc 8, .int)] : List (ClassId × FieldType)), x ∈ tys) (K : ∀ (ws' : va_W) (tys' : List (ClassId × FieldType)), LI (T + 1) r0 (q 0) ws' tys' → Cx p s m #[Value.ref b] meth c cL_law 4 (some .boolean) RL D tys' A → AW p l e room_1 s m #[Value.ref b] below meth c D A 4 (31 + 16 * (T + 1)) (4328 + 599 * (T + 1)) Q 880 [(3, .int (nI (5 * T))), (0, .ref b), (1, .ref r0), (2, .ref (q 0))] [] ws') : AW p l e room_1 s m #[Value.ref b] below meth c D A 4 (31 + 16 * T) (4328 + 599 * T) Q 268 [(3, .int (nI (5 * T))), (0, .ref b), (1, .ref r0), (2, .ref (q 0))] [] (rolW r0 ri rs kS sl qC kC pr nx 0 csz s0 qT kT kinds names seeds ones ofk sz there awake grp gm gb p0 lf ir ln qL kL rows lens psz qK kK vals hold call f0 fio fqu fal fco fgu qY kY ft fs qs als cs ps wire alo ++ (rimW ri ki im ++ (imsW iw ++ mW q kc a w hs inn sp lone lt lz dr))) := by
  have hc0 : 31 + 16 * T ≤ room_1.cells ∧ 4328 + 599 * T ≤ room_1.slots := ⟨by show _ ≤ 600000; omega, by show _ ≤ 7302250; omega⟩
  have h15 := hR.2.2.2.2.2.1.1
  have hf := hR.2.2.2.2.2.1.2.1
  have hz := pJ_wt hR.2.2.2.2.1.2.2.2
  refine aw_aload_n X (pc := 268) 2 rfl rfl dL_law_268 ?_
  refine aw_aload_n X (pc := 269) 1 rfl rfl dL_law_269 ?_
  refine aw_iload_n X (pc := 270) 0 rfl rfl dL_law_270 ?_
  refine aw_iconst X (pc := 271) (v := 1) dL_law_271 (by decide) ?_
  refine aw_iadd X (pc := 272) (z := nI (5 * T + 1)) (nn_add (a := 5 * T) (b := 1) rfl rfl rfl) dL_law_272 ?_
  refine aw_sld X (pc := 273) hX hbl hbA (5 * T + 1) rfl (by omega) (by omega) dL_law_273 ?_
  refine aw_i2l X (pc := 274) (z := (xs (5 * T + 1)).toInt64) rfl dL_law_274 ?_
  refine aw_bipush X (pc := 275) (v := 32) dL_law_275 (by decide) ?_
  refine aw_lshl X (pc := 277) (z := ((xs (5 * T + 1)).toInt64) <<< (Int32.toInt64 32 &&& 63)) rfl dL_law_277 ?_
  refine aw_aload_n X (pc := 278) 1 rfl rfl dL_law_278 ?_
  refine aw_iload_n X (pc := 279) 0 rfl rfl dL_law_279 ?_
  refine aw_iconst X (pc := 280) (v := 2) dL_law_280 (by decide) ?_
  refine aw_iadd X (pc := 281) (z := nI (5 * T + 2)) (nn_add (a := 5 * T) (b := 2) rfl rfl rfl) dL_law_281 ?_
  refine aw_sld X (pc := 282) hX hbl hbA (5 * T + 2) rfl (by omega) (by omega) dL_law_282 ?_
  refine aw_i2l X (pc := 283) (z := (xs (5 * T + 2)).toInt64) rfl dL_law_283 ?_
  refine aw_ldc2 X (pc := 284) ld_L_18 dL_law_284 ?_
  refine aw_land X (pc := 287) (z := ((xs (5 * T + 2)).toInt64) &&& 4294967295) rfl dL_law_287 ?_
  refine aw_lor X (pc := 288) (z := (((xs (5 * T + 1)).toInt64) <<< (Int32.toInt64 32 &&& 63)) ||| (((xs (5 * T + 2)).toInt64) &&& 4294967295)) rfl dL_law_288 ?_
  have hE := eq_isName ((((xs (5 * T + 1)).toInt64) <<< (Int32.toInt64 32 &&& 63)) ||| (((xs (5 * T + 2)).toInt64) &&& 4294967295))
  refine aw_callP X (pc := 289) (q1 := 0) (rest := []) (st' := [.int (r_X8_isName ((((xs (5 * T + 1)).toInt64) <<< (Int32.toInt64 32 &&& 63)) ||| (((xs (5 * T + 2)).toInt64) &&& 4294967295)))]) (wr := rimW ri ki im ++ (imsW iw ++ mW q kc a w hs inn sp lone lt lz dr)) (ws' := (rolW r0 ri rs kS sl qC kC pr nx 0 csz s0 qT kT kinds names seeds ones ofk sz there awake grp gm gb p0 lf ir ln qL kL rows lens psz qK kK vals hold call f0 fio fqu fal fco fgu qY kY ft fs qs als cs ps wire alo) ++ (rimW ri ki im ++ (imsW iw ++ mW q kc a w hs inn sp lone lt lz dr))) (c_X8_isName l D r0 ri rs kS sl qC kC pr nx 0 csz s0 qT kT kinds names seeds ones ofk sz there awake grp gm gb p0 lf ir ln qL kL rows lens psz qK kK vals hold call f0 fio fqu fal fco fgu qY kY ft fs qs als cs ps wire alo ((((xs (5 * T + 1)).toInt64) <<< (Int32.toInt64 32 &&& 63)) ||| (((xs (5 * T + 2)).toInt64) &&& 4294967295))) rfl rfl List.perm_append_comm List.perm_append_comm ht1 ⟨_, _, rfl⟩ rfl cf_L_30 cd_X8_isName dd_X8_isName ⟨Nat.le_of_ble_eq_true rfl, Nat.le_of_ble_eq_true rfl⟩ hc0 (by decide) rfl (Nat.le_of_ble_eq_true rfl) dL_law_289 rfl ?_
  refine aw_aload_n X (pc := 292) 3 rfl rfl dL_law_292 ?_
  refine aw_aload_n X (pc := 293) 1 rfl rfl dL_law_293 ?_
  refine aw_iload_n X (pc := 294) 0 rfl rfl dL_law_294 ?_
  refine aw_iconst X (pc := 295) (v := 1) dL_law_295 (by decide) ?_
  refine aw_iadd X (pc := 296) (z := nI (5 * T + 1)) (nn_add (a := 5 * T) (b := 1) rfl rfl rfl) dL_law_296 ?_
  refine aw_sld X (pc := 297) hX hbl hbA (5 * T + 1) rfl (by omega) (by omega) dL_law_297 ?_
  refine aw_i2l X (pc := 298) (z := (xs (5 * T + 1)).toInt64) rfl dL_law_298 ?_
  refine aw_bipush X (pc := 299) (v := 32) dL_law_299 (by decide) ?_
  refine aw_lshl X (pc := 301) (z := ((xs (5 * T + 1)).toInt64) <<< (Int32.toInt64 32 &&& 63)) rfl dL_law_301 ?_
  refine aw_aload_n X (pc := 302) 1 rfl rfl dL_law_302 ?_
  refine aw_iload_n X (pc := 303) 0 rfl rfl dL_law_303 ?_
  refine aw_iconst X (pc := 304) (v := 2) dL_law_304 (by decide) ?_
  refine aw_iadd X (pc := 305) (z := nI (5 * T + 2)) (nn_add (a := 5 * T) (b := 2) rfl rfl rfl) dL_law_305 ?_
  refine aw_sld X (pc := 306) hX hbl hbA (5 * T + 2) rfl (by omega) (by omega) dL_law_306 ?_
  refine aw_i2l X (pc := 307) (z := (xs (5 * T + 2)).toInt64) rfl dL_law_307 ?_
  refine aw_ldc2 X (pc := 308) ld_L_18 dL_law_308 ?_
  refine aw_land X (pc := 311) (z := ((xs (5 * T + 2)).toInt64) &&& 4294967295) rfl dL_law_311 ?_
  refine aw_lor X (pc := 312) (z := (((xs (5 * T + 1)).toInt64) <<< (Int32.toInt64 32 &&& 63)) ||| (((xs (5 * T + 2)).toInt64) &&& 4294967295)) rfl dL_law_312 ?_
  refine aw_callP X (pc := 313) (q1 := 0) (rest := [.int (r_X8_isName ((((xs (5 * T + 1)).toInt64) <<< (Int32.toInt64 32 &&& 63)) ||| (((xs (5 * T + 2)).toInt64) &&& 4294967295)))]) (st' := [.int (r_X9_isName ((((xs (5 * T + 1)).toInt64) <<< (Int32.toInt64 32 &&& 63)) ||| (((xs (5 * T + 2)).toInt64) &&& 4294967295))), .int (r_X8_isName ((((xs (5 * T + 1)).toInt64) <<< (Int32.toInt64 32 &&& 63)) ||| (((xs (5 * T + 2)).toInt64) &&& 4294967295)))]) (wr := (rolW r0 ri rs kS sl qC kC pr nx 0 csz s0 qT kT kinds names seeds ones ofk sz there awake grp gm gb p0 lf ir ln qL kL rows lens psz qK kK vals hold call f0 fio fqu fal fco fgu qY kY ft fs qs als cs ps wire alo) ++ (rimW ri ki im ++ imsW iw)) (ws' := (rolW r0 ri rs kS sl qC kC pr nx 0 csz s0 qT kT kinds names seeds ones ofk sz there awake grp gm gb p0 lf ir ln qL kL rows lens psz qK kK vals hold call f0 fio fqu fal fco fgu qY kY ft fs qs als cs ps wire alo) ++ (rimW ri ki im ++ (imsW iw ++ (mW q kc a w hs inn sp lone lt lz dr)))) (c_X9_isName l D q kc a w hs inn sp lone lt lz dr ((((xs (5 * T + 1)).toInt64) <<< (Int32.toInt64 32 &&& 63)) ||| (((xs (5 * T + 2)).toInt64) &&& 4294967295))) rfl rfl (pm_M _ _ _ _) (pm_M _ _ _ _).symm ht2 ⟨_, _, rfl⟩ rfl cf_L_34 cd_X9_isName dd_X9_isName ⟨Nat.le_of_ble_eq_true rfl, Nat.le_of_ble_eq_true rfl⟩ hc0 (by decide) rfl (Nat.le_of_ble_eq_true rfl) dL_law_313 rfl ?_
  refine aw_icmp_eq X (pc := 316) (tgt := 880) (by decide) dL_law_316 (fun _ => ?_) (fun c1 => absurd hE c1)
  refine aw_widen (k := 31 + 16 * (T + 1)) (n := 4328 + 599 * (T + 1)) (by omega) (by omega) ?_
  have hR2 := hR.move (Nat.le_succ T) (fun _ _ => rfl) (fun _ _ => rfl)
  exact K _ _ ⟨_, _, _, _, _, _, _, _, _, _, _, _, _, _, _, _, _, _, _, _, _, _, _, _, _, _, _, _, _, _, _, _, _, _, _, _, _, _, _, _, _, _, _, _, _, _, _, _, _, _, _, _, _, _, _, _, _, _, _, _, _, _, _, _, _, _, _, _, _, _, _, rfl, rfl, rfl, hR2, ImgOK.fr (FrA.refl a) (FrW.refl w) hI, ht1, htk, ht2⟩ X

end LAWC0
