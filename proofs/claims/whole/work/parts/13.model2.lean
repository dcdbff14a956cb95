def b_X9_called_3 (a : Nat → Int32) (w : Nat → Int64) (bits : Int64) (m_ : Int32) (k : Nat) (σ : (Nat → Int32)) : (Nat → Int32) := if r_X9_listens a w k = 0 then (upd σ k 0) else (if a (300 + 6 * k + 0) < 1 then (upd σ k 0) else (if r_X9_begins (w (84 + k)) bits m_ = 0 then (upd σ k 0) else (upd σ k 1)))
abbrev rm_X9_called : Room := { frames := 2, cells := 0, slots := 0, locals := 43 }
set_option maxHeartbeats 400000 in
set_option maxRecDepth 100000 in
theorem c_X9_called (l : Launch) (D : va_G) (q : Nat → Nat) (kc : Nat → ClassId) (a : Nat → Int32) (w : Nat → Int64) (hs : Nat → Int32) (inn : Nat → Int32) (sp : Nat → Int32) (lone : Int32) (lt : Nat → Int64) (lz : Nat → Int32) (dr : Nat → Int32) (n : Nat) (bits : Int64) (m_ : Int32) (ha0 : a 0 = nI n) (hn : n ≤ 40) : MW l D yX9_called (Cond.code yX9_called cX9_called 5 none :: TT) rm_X9_called [.ref (q 0), .long bits, .int m_] [(kc 1, .int), (kc 2, .long), (kc 3, .boolean), (kc 4, .boolean), (kc 5, .boolean), (kc 6, .long), (kc 7, .int), (kc 8, .int)] (mW q kc a w hs inn sp lone lt lz dr) none (mW q kc a w hs inn (lpF (b_X9_called_3 a w bits m_) n 0 sp) lone lt lz dr) := by
  refine MW.of (cc := cX9_called) (nL := 5) (ret := none) (lv := [(0, .ref (q 0)), (1, .long bits), (3, .int m_)]) (by decide) ((mW_ad ..).trans (mW_ad ..).symm) rfl (Nat.le_of_ble_eq_true rfl) ?_
  intro p e s m args below meth c A Q hQ X
  refine aw_iconst X (pc := 0) (v := 0) dX9_called_0 (by decide) ?_
  refine aw_istore X (pc := 1) (lv' := [(4, .int 0), (0, .ref (q 0)), (1, .long bits), (3, .int m_)]) (by decide) rfl dX9_called_1 ?_
  have L1 : ∀ (n1 k : Nat) (sv : Nat → Int32), k + n1 = n → lpF (b_X9_called_3 a w bits m_) n1 k sv = lpF (b_X9_called_3 a w bits m_) n 0 sp → AW p l e rm_X9_called s m args below meth c D A 5 0 0 Q 3 [(4, .int (nI k)), (0, .ref (q 0)), (1, .long bits), (3, .int m_)] [] (mW q kc a w hs inn sv lone lt lz dr) := by
    intro n1; induction n1 with
    | zero =>
      intro k sv hk1  hf1
      have hf1 : sv = lpF (b_X9_called_3 a w bits m_) n 0 sp := hf1
      refine aw_iload X (pc := 3) 0 rfl dX9_called_3 ?_
      refine aw_aload_n X (pc := 5) 1 rfl rfl dX9_called_5 ?_
      refine aw_get X (pc := 6) iX9 0 0 rfl rfl (by decide) fl_X9_7 rfl dX9_called_6 ?_
      refine aw_iconst X (pc := 9) (v := 0) dX9_called_9 (by decide) ?_
      refine aw_iald X (pc := 10) 1 0 0 rfl rfl rfl (by decide) (by omega) dX9_called_10 ?_
      refine aw_icmp_ge X (pc := 11) (tgt := 70) (by decide) dX9_called_11 (fun c10 => ?_) (fun c10 => absurd (nn_le (a := n) (b := k) ha0 rfl (by omega) (by omega)) c10)
      exact aw_vret X hQ rfl (by simp only [← hf1]) dX9_called_70
    | succ n1 ih1 =>
      intro k sv hk1  hf1
      have hf1 : lpF (b_X9_called_3 a w bits m_) n1 (k + 1) (b_X9_called_3 a w bits m_ k sv) = lpF (b_X9_called_3 a w bits m_) n 0 sp := hf1
      refine aw_iload X (pc := 3) 0 rfl dX9_called_3 ?_
      refine aw_aload_n X (pc := 5) 1 rfl rfl dX9_called_5 ?_
      refine aw_get X (pc := 6) iX9 0 0 rfl rfl (by decide) fl_X9_7 rfl dX9_called_6 ?_
      refine aw_iconst X (pc := 9) (v := 0) dX9_called_9 (by decide) ?_
      refine aw_iald X (pc := 10) 1 0 0 rfl rfl rfl (by decide) (by omega) dX9_called_10 ?_
      refine aw_icmp_ge X (pc := 11) (tgt := 70) (by decide) dX9_called_11 (fun c2 => absurd c2 (nn_nle (a := n) (b := k) ha0 rfl (by omega) (by omega))) (fun c2 => ?_)
      refine aw_aload_n X (pc := 14) 1 rfl rfl dX9_called_14 ?_
      refine aw_get X (pc := 15) iX9 0 4 rfl rfl (by decide) fl_X9_24 rfl dX9_called_15 ?_
      refine aw_iload X (pc := 18) 0 rfl dX9_called_18 ?_
      refine aw_aload_n X (pc := 20) 1 rfl rfl dX9_called_20 ?_
      refine aw_iload X (pc := 21) 0 rfl dX9_called_21 ?_
      refine aw_callVF X (pc := 23) (q1 := 0) (rest := [.int (nI k), .ref (q 5)]) (st' := [.int (r_X9_listens a w k), .int (nI k), .ref (q 5)]) (c_X9_listens l D q kc a w hs inn sv lone lt lz dr (nI k) k rfl (by omega)) rfl rfl ⟨_, _, rfl⟩ rfl cf_X9_62 cd_X9_listens dd_X9_listens (by decide) (by decide) (by decide) rfl (Nat.le_of_ble_eq_true rfl) dX9_called_23 rfl ?_
      refine aw_if_eq X (pc := 26) (tgt := 62) (by decide) dX9_called_26 (fun c3 => ?_) (fun c3 => ?_)
      · refine aw_iconst X (pc := 62) (v := 0) dX9_called_62 (by decide) ?_
        refine aw_zast X (pc := 63) 5 4 (ws' := (mW q kc a w hs inn (upd sv k 0) lone lt lz dr)) k rfl (by decide) rfl rfl (by decide) (by omega) rfl dX9_called_63 ?_
        refine aw_iinc X (pc := 64) (kx := 0) (v := nI (k + 1)) (lv' := [(4, .int (nI (k + 1))), (0, .ref (q 0)), (1, .long bits), (3, .int m_)]) rfl (nn_add (a := k) (b := 1) rfl rfl rfl) (by decide) rfl dX9_called_64 ?_
        refine aw_goto X (pc := 67) (tgt := 3) (by decide) dX9_called_67 ?_
        have e4 : b_X9_called_3 a w bits m_ k sv = (upd sv k 0) := by simp only [b_X9_called_3, if_pos c3]
        exact aw_sub (lv' := [(4, .int (nI (k + 1))), (0, .ref (q 0)), (1, .long bits), (3, .int m_)]) [0, 1, 2, 3] rfl (ih1 (k + 1) (upd sv k 0) (by omega)  (by rw [← e4]; exact hf1))
      · refine aw_aload_n X (pc := 29) 1 rfl rfl dX9_called_29 ?_
        refine aw_iload X (pc := 30) 0 rfl dX9_called_30 ?_
        refine aw_iconst X (pc := 32) (v := 0) dX9_called_32 (by decide) ?_
        refine aw_callVF X (pc := 33) (q1 := 0) (rest := [.int (nI k), .ref (q 5)]) (st' := [.int (a (300 + 6 * k + 0)), .int (nI k), .ref (q 5)]) (c_X9_of l D q kc a w hs inn sv lone lt lz dr (nI k) 0 k 0 rfl rfl (by omega)) rfl rfl ⟨_, _, rfl⟩ rfl cf_X9_44 cd_X9_of dd_X9_of (by decide) (by decide) (by decide) rfl (Nat.le_of_ble_eq_true rfl) dX9_called_33 rfl ?_
        refine aw_iconst X (pc := 36) (v := 1) dX9_called_36 (by decide) ?_
        refine aw_icmp_lt X (pc := 37) (tgt := 62) (by decide) dX9_called_37 (fun c5 => ?_) (fun c5 => ?_)
        · refine aw_iconst X (pc := 62) (v := 0) dX9_called_62 (by decide) ?_
          refine aw_zast X (pc := 63) 5 4 (ws' := (mW q kc a w hs inn (upd sv k 0) lone lt lz dr)) k rfl (by decide) rfl rfl (by decide) (by omega) rfl dX9_called_63 ?_
          refine aw_iinc X (pc := 64) (kx := 0) (v := nI (k + 1)) (lv' := [(4, .int (nI (k + 1))), (0, .ref (q 0)), (1, .long bits), (3, .int m_)]) rfl (nn_add (a := k) (b := 1) rfl rfl rfl) (by decide) rfl dX9_called_64 ?_
          refine aw_goto X (pc := 67) (tgt := 3) (by decide) dX9_called_67 ?_
          have e6 : b_X9_called_3 a w bits m_ k sv = (upd sv k 0) := by simp only [b_X9_called_3, if_neg c3, if_pos c5]
          exact aw_sub (lv' := [(4, .int (nI (k + 1))), (0, .ref (q 0)), (1, .long bits), (3, .int m_)]) [0, 1, 2, 3] rfl (ih1 (k + 1) (upd sv k 0) (by omega)  (by rw [← e6]; exact hf1))
        · refine aw_aload_n X (pc := 40) 1 rfl rfl dX9_called_40 ?_
          refine aw_get X (pc := 41) iX9 0 1 rfl rfl (by decide) fl_X9_13 rfl dX9_called_41 ?_
          refine aw_bipush X (pc := 44) (v := 84) dX9_called_44 (by decide) ?_
          refine aw_iload X (pc := 46) 0 rfl dX9_called_46 ?_
          refine aw_iadd X (pc := 48) (z := nI (84 + k)) (nn_add (a := 84) (b := k) rfl rfl (by first | rfl | omega))  dX9_called_48 ?_
          refine aw_lald X (pc := 49) 2 1 (84 + k) rfl rfl rfl (by decide) (by omega) dX9_called_49 ?_
          refine aw_lload_n X (pc := 50) 2 rfl rfl dX9_called_50 ?_
          refine aw_iload_n X (pc := 51) 3 rfl rfl dX9_called_51 ?_
          refine aw_callS X (pc := 52) (rest := [.int (nI k), .ref (q 5)]) (st' := [.int (r_X9_begins (w (84 + k)) bits m_), .int (nI k), .ref (q 5)]) (ws' := (mW q kc a w hs inn sv lone lt lz dr)) (c_X9_begins l D (w (84 + k)) bits m_) rfl [] [] rfl (by decide +kernel) rfl rfl cf_X9_93 cd_X9_begins dd_X9_begins (by decide) (by decide) (by decide) rfl (Nat.le_of_ble_eq_true rfl) dX9_called_52 rfl ?_
          refine aw_if_eq X (pc := 55) (tgt := 62) (by decide) dX9_called_55 (fun c7 => ?_) (fun c7 => ?_)
          · refine aw_iconst X (pc := 62) (v := 0) dX9_called_62 (by decide) ?_
            refine aw_zast X (pc := 63) 5 4 (ws' := (mW q kc a w hs inn (upd sv k 0) lone lt lz dr)) k rfl (by decide) rfl rfl (by decide) (by omega) rfl dX9_called_63 ?_
            refine aw_iinc X (pc := 64) (kx := 0) (v := nI (k + 1)) (lv' := [(4, .int (nI (k + 1))), (0, .ref (q 0)), (1, .long bits), (3, .int m_)]) rfl (nn_add (a := k) (b := 1) rfl rfl rfl) (by decide) rfl dX9_called_64 ?_
            refine aw_goto X (pc := 67) (tgt := 3) (by decide) dX9_called_67 ?_
            have e8 : b_X9_called_3 a w bits m_ k sv = (upd sv k 0) := by simp only [b_X9_called_3, if_neg c3, if_neg c5, if_pos c7]
            exact aw_sub (lv' := [(4, .int (nI (k + 1))), (0, .ref (q 0)), (1, .long bits), (3, .int m_)]) [0, 1, 2, 3] rfl (ih1 (k + 1) (upd sv k 0) (by omega)  (by rw [← e8]; exact hf1))
          · refine aw_iconst X (pc := 58) (v := 1) dX9_called_58 (by decide) ?_
            refine aw_goto X (pc := 59) (tgt := 63) (by decide) dX9_called_59 ?_
            refine aw_zast X (pc := 63) 5 4 (ws' := (mW q kc a w hs inn (upd sv k 1) lone lt lz dr)) k rfl (by decide) rfl rfl (by decide) (by omega) rfl dX9_called_63 ?_
            refine aw_iinc X (pc := 64) (kx := 0) (v := nI (k + 1)) (lv' := [(4, .int (nI (k + 1))), (0, .ref (q 0)), (1, .long bits), (3, .int m_)]) rfl (nn_add (a := k) (b := 1) rfl rfl rfl) (by decide) rfl dX9_called_64 ?_
            refine aw_goto X (pc := 67) (tgt := 3) (by decide) dX9_called_67 ?_
            have e9 : b_X9_called_3 a w bits m_ k sv = (upd sv k 1) := by simp only [b_X9_called_3, if_neg c3, if_neg c5, if_neg c7]
            exact aw_sub (lv' := [(4, .int (nI (k + 1))), (0, .ref (q 0)), (1, .long bits), (3, .int m_)]) [0, 1, 2, 3] rfl (ih1 (k + 1) (upd sv k 1) (by omega)  (by rw [← e9]; exact hf1))
  exact aw_sub (lv' := [(4, .int 0), (0, .ref (q 0)), (1, .long bits), (3, .int m_)]) [0, 1, 2, 3] rfl (L1 n 0 sp (by omega)  rfl)

def b_X9_slot_9 (a : Nat → Int32) (sp : Nat → Int32) (k : Nat) (σ : Int32 × Int32 × Int32) : Int32 × Int32 × Int32 := if sp k = 0 then (σ.1, σ.2.1, σ.2.2) else (if a (300 + 6 * k + 0) = 5 then (if 0 ≤ σ.2.2 then (σ.1, σ.2.1 + 1, σ.2.2) else (σ.1, σ.2.1 + 1, nI k)) else (σ.1 + 1, σ.2.1, nI k))
def r_X9_slot (a : Nat → Int32) (sp : Nat → Int32) (n : Nat) : Nat := if ((lpF (b_X9_slot_9 a sp) n 0 (0, 0, (-1))).1) + ((lpF (b_X9_slot_9 a sp) n 0 (0, 0, (-1))).2.1) = 1 then (if ((lpF (b_X9_slot_9 a sp) n 0 (0, 0, (-1))).1) + ((lpF (b_X9_slot_9 a sp) n 0 (0, 0, (-1))).2.1) = 0 then 0 else (if ((lpF (b_X9_slot_9 a sp) n 0 (0, 0, (-1))).2.2) < 0 then 2 else 1)) else (if a 1 = 1 then (if ((lpF (b_X9_slot_9 a sp) n 0 (0, 0, (-1))).1) = 1 then (if ((lpF (b_X9_slot_9 a sp) n 0 (0, 0, (-1))).1) + ((lpF (b_X9_slot_9 a sp) n 0 (0, 0, (-1))).2.1) = 0 then 0 else (if ((lpF (b_X9_slot_9 a sp) n 0 (0, 0, (-1))).2.2) < 0 then 2 else 1)) else (if ((lpF (b_X9_slot_9 a sp) n 0 (0, 0, (-1))).1) + ((lpF (b_X9_slot_9 a sp) n 0 (0, 0, (-1))).2.1) = 0 then 0 else 2)) else (if ((lpF (b_X9_slot_9 a sp) n 0 (0, 0, (-1))).1) + ((lpF (b_X9_slot_9 a sp) n 0 (0, 0, (-1))).2.1) = 0 then 0 else 2))
def u_X9_slot_lone (a : Nat → Int32) (sp : Nat → Int32) (n : Nat) : Int32 := if ((lpF (b_X9_slot_9 a sp) n 0 (0, 0, (-1))).1) + ((lpF (b_X9_slot_9 a sp) n 0 (0, 0, (-1))).2.1) = 1 then ((lpF (b_X9_slot_9 a sp) n 0 (0, 0, (-1))).2.2) else (if a 1 = 1 then (if ((lpF (b_X9_slot_9 a sp) n 0 (0, 0, (-1))).1) = 1 then ((lpF (b_X9_slot_9 a sp) n 0 (0, 0, (-1))).2.2) else (-1)) else (-1))
abbrev rm_X9_slot : Room := { frames := 1, cells := 0, slots := 0, locals := 22 }
set_option maxHeartbeats 400000 in
set_option maxRecDepth 100000 in
theorem c_X9_slot (l : Launch) (D : va_G) (q : Nat → Nat) (kc : Nat → ClassId) (a : Nat → Int32) (w : Nat → Int64) (hs : Nat → Int32) (inn : Nat → Int32) (sp : Nat → Int32) (lone : Int32) (lt : Nat → Int64) (lz : Nat → Int32) (dr : Nat → Int32) (n : Nat) (ha0 : a 0 = nI n) (hn : n ≤ 40) : MW l D yX9_slot (Cond.code yX9_slot cX9_slot 5 (some .int) :: TT) rm_X9_slot [.ref (q 0)] [(kc 1, .int), (kc 2, .long), (kc 3, .boolean), (kc 4, .boolean), (kc 5, .boolean), (kc 6, .long), (kc 7, .int), (kc 8, .int)] (mW q kc a w hs inn sp lone lt lz dr) (some (.int (nI (r_X9_slot a sp n)))) (mW q kc a w hs inn sp (u_X9_slot_lone a sp n) lt lz dr) := by
  refine MW.of (cc := cX9_slot) (nL := 5) (ret := (some .int)) (lv := [(0, .ref (q 0))]) (by decide) ((mW_ad ..).trans (mW_ad ..).symm) rfl (Nat.le_of_ble_eq_true rfl) ?_
  intro p e s m args below meth c A Q hQ X
  refine aw_iconst X (pc := 0) (v := 0) dX9_slot_0 (by decide) ?_
  refine aw_istore_n X (pc := 1) (lv' := [(1, .int 0), (0, .ref (q 0))]) rfl (by decide) rfl dX9_slot_1 ?_
  refine aw_iconst X (pc := 2) (v := 0) dX9_slot_2 (by decide) ?_
  refine aw_istore_n X (pc := 3) (lv' := [(2, .int 0), (1, .int 0), (0, .ref (q 0))]) rfl (by decide) rfl dX9_slot_3 ?_
  refine aw_iconst X (pc := 4) (v := (-1)) dX9_slot_4 (by decide) ?_
  refine aw_istore_n X (pc := 5) (lv' := [(3, .int (-1)), (2, .int 0), (1, .int 0), (0, .ref (q 0))]) rfl (by decide) rfl dX9_slot_5 ?_
  refine aw_iconst X (pc := 6) (v := 0) dX9_slot_6 (by decide) ?_
  refine aw_istore X (pc := 7) (lv' := [(4, .int 0), (3, .int (-1)), (2, .int 0), (1, .int 0), (0, .ref (q 0))]) (by decide) rfl dX9_slot_7 ?_
  have L1 : ∀ (n1 k : Nat) (stg : Int32) (wk : Int32) (who : Int32), k + n1 = n → lpF (b_X9_slot_9 a sp) n1 k (stg, wk, who) = lpF (b_X9_slot_9 a sp) n 0 (0, 0, (-1)) → AW p l e rm_X9_slot s m args below meth c D A 5 0 0 Q 9 [(4, .int (nI k)), (3, .int who), (2, .int wk), (1, .int stg), (0, .ref (q 0))] [] (mW q kc a w hs inn sp lone lt lz dr) := by
    intro n1; induction n1 with
    | zero =>
      intro k stg wk who hk1  hf1
      have hf1 : (stg, wk, who) = lpF (b_X9_slot_9 a sp) n 0 (0, 0, (-1)) := hf1
      refine aw_iload X (pc := 9) 0 rfl dX9_slot_9 ?_
      refine aw_aload_n X (pc := 11) 4 rfl rfl dX9_slot_11 ?_
      refine aw_get X (pc := 12) iX9 0 0 rfl rfl (by decide) fl_X9_7 rfl dX9_slot_12 ?_
      refine aw_iconst X (pc := 15) (v := 0) dX9_slot_15 (by decide) ?_
      refine aw_iald X (pc := 16) 1 0 0 rfl rfl rfl (by decide) (by omega) dX9_slot_16 ?_
      refine aw_icmp_ge X (pc := 17) (tgt := 77) (by decide) dX9_slot_17 (fun c12 => ?_) (fun c12 => absurd (nn_le (a := n) (b := k) ha0 rfl (by omega) (by omega)) c12)
      refine aw_aload_n X (pc := 77) 4 rfl rfl dX9_slot_77 ?_
      refine aw_iload_n X (pc := 78) 3 rfl rfl dX9_slot_78 ?_
      refine aw_iload_n X (pc := 79) 2 rfl rfl dX9_slot_79 ?_
      refine aw_iadd X (pc := 80) (z := stg + wk) rfl  dX9_slot_80 ?_
      refine aw_iconst X (pc := 81) (v := 1) dX9_slot_81 (by decide) ?_
      refine aw_icmp_eq X (pc := 82) (tgt := 100) (by decide) dX9_slot_82 (fun c13 => ?_) (fun c13 => ?_)
      · refine aw_iload_n X (pc := 100) 1 rfl rfl dX9_slot_100 ?_
        refine aw_goto X (pc := 101) (tgt := 105) (by decide) dX9_slot_101 ?_
        refine aw_put X (pc := 105) (ws' := (mW q kc a w hs inn sp who lt lz dr)) tyX9 tyX9_ok nmX9 iX9 0 5 rfl rfl (by decide) fl_X9_86 rfl (tyX9_ok 5 (by decide)) rfl rfl (Nat.le_of_ble_eq_true rfl) rfl dX9_slot_105 ?_
        refine aw_iload_n X (pc := 108) 3 rfl rfl dX9_slot_108 ?_
        refine aw_iload_n X (pc := 109) 2 rfl rfl dX9_slot_109 ?_
        refine aw_iadd X (pc := 110) (z := stg + wk) rfl  dX9_slot_110 ?_
        refine aw_if_ne X (pc := 111) (tgt := 118) (by decide) dX9_slot_111 (fun c14 => ?_) (fun c14 => ?_)
        · refine aw_aload_n X (pc := 118) 4 rfl rfl dX9_slot_118 ?_
          refine aw_get X (pc := 119) iX9 0 5 rfl rfl (by decide) fl_X9_86 rfl dX9_slot_119 ?_
          refine aw_if_lt X (pc := 122) (tgt := 129) (by decide) dX9_slot_122 (fun c15 => ?_) (fun c15 => ?_)
          · refine aw_iconst X (pc := 129) (v := 2) dX9_slot_129 (by decide) ?_
            exact aw_iret X (v := 2) hQ (by simp only [r_X9_slot, if_pos c13, if_neg c14, if_pos c15, ← hf1]; try rfl) (by simp only [u_X9_slot_lone, if_pos c13, if_neg c14, if_pos c15, ← hf1]) dX9_slot_130
          · refine aw_iconst X (pc := 125) (v := 1) dX9_slot_125 (by decide) ?_
            refine aw_goto X (pc := 126) (tgt := 130) (by decide) dX9_slot_126 ?_
            exact aw_iret X (v := 1) hQ (by simp only [r_X9_slot, if_pos c13, if_neg c14, if_neg c15, ← hf1]; try rfl) (by simp only [u_X9_slot_lone, if_pos c13, if_neg c14, if_neg c15, ← hf1]) dX9_slot_130
        · refine aw_iconst X (pc := 114) (v := 0) dX9_slot_114 (by decide) ?_
          refine aw_goto X (pc := 115) (tgt := 130) (by decide) dX9_slot_115 ?_
          exact aw_iret X (v := 0) hQ (by simp only [r_X9_slot, if_pos c13, if_pos c14, ← hf1]; try rfl) (by simp only [u_X9_slot_lone, if_pos c13, if_pos c14, ← hf1]) dX9_slot_130
      · refine aw_aload_n X (pc := 85) 4 rfl rfl dX9_slot_85 ?_
        refine aw_get X (pc := 86) iX9 0 0 rfl rfl (by decide) fl_X9_7 rfl dX9_slot_86 ?_
        refine aw_iconst X (pc := 89) (v := 1) dX9_slot_89 (by decide) ?_
        refine aw_iald X (pc := 90) 1 0 1 rfl rfl rfl (by decide) (by omega) dX9_slot_90 ?_
        refine aw_iconst X (pc := 91) (v := 1) dX9_slot_91 (by decide) ?_
        refine aw_icmp_ne X (pc := 92) (tgt := 104) (by decide) dX9_slot_92 (fun c16 => ?_) (fun c16 => ?_)
        · refine aw_iconst X (pc := 104) (v := (-1)) dX9_slot_104 (by decide) ?_
          refine aw_put X (pc := 105) (ws' := (mW q kc a w hs inn sp (-1) lt lz dr)) tyX9 tyX9_ok nmX9 iX9 0 5 rfl rfl (by decide) fl_X9_86 rfl (tyX9_ok 5 (by decide)) rfl rfl (Nat.le_of_ble_eq_true rfl) rfl dX9_slot_105 ?_
          refine aw_iload_n X (pc := 108) 3 rfl rfl dX9_slot_108 ?_
          refine aw_iload_n X (pc := 109) 2 rfl rfl dX9_slot_109 ?_
          refine aw_iadd X (pc := 110) (z := stg + wk) rfl  dX9_slot_110 ?_
          refine aw_if_ne X (pc := 111) (tgt := 118) (by decide) dX9_slot_111 (fun c17 => ?_) (fun c17 => ?_)
          · refine aw_aload_n X (pc := 118) 4 rfl rfl dX9_slot_118 ?_
            refine aw_get X (pc := 119) iX9 0 5 rfl rfl (by decide) fl_X9_86 rfl dX9_slot_119 ?_
            refine aw_if_lt X (pc := 122) (tgt := 129) (by decide) dX9_slot_122 (fun c18 => ?_) (fun c18 => absurd (by decide) c18)
            refine aw_iconst X (pc := 129) (v := 2) dX9_slot_129 (by decide) ?_
            exact aw_iret X (v := 2) hQ (by simp only [r_X9_slot, if_neg c13, if_neg c16, if_neg c17, ← hf1]; try rfl) (by simp only [u_X9_slot_lone, if_neg c13, if_neg c16, if_neg c17, ← hf1]) dX9_slot_130
          · refine aw_iconst X (pc := 114) (v := 0) dX9_slot_114 (by decide) ?_
            refine aw_goto X (pc := 115) (tgt := 130) (by decide) dX9_slot_115 ?_
            exact aw_iret X (v := 0) hQ (by simp only [r_X9_slot, if_neg c13, if_neg c16, if_pos c17, ← hf1]; try rfl) (by simp only [u_X9_slot_lone, if_neg c13, if_neg c16, if_pos c17, ← hf1]) dX9_slot_130
        · refine aw_iload_n X (pc := 95) 3 rfl rfl dX9_slot_95 ?_
          refine aw_iconst X (pc := 96) (v := 1) dX9_slot_96 (by decide) ?_
          refine aw_icmp_ne X (pc := 97) (tgt := 104) (by decide) dX9_slot_97 (fun c19 => ?_) (fun c19 => ?_)
          · refine aw_iconst X (pc := 104) (v := (-1)) dX9_slot_104 (by decide) ?_
            refine aw_put X (pc := 105) (ws' := (mW q kc a w hs inn sp (-1) lt lz dr)) tyX9 tyX9_ok nmX9 iX9 0 5 rfl rfl (by decide) fl_X9_86 rfl (tyX9_ok 5 (by decide)) rfl rfl (Nat.le_of_ble_eq_true rfl) rfl dX9_slot_105 ?_
            refine aw_iload_n X (pc := 108) 3 rfl rfl dX9_slot_108 ?_
            refine aw_iload_n X (pc := 109) 2 rfl rfl dX9_slot_109 ?_
            refine aw_iadd X (pc := 110) (z := stg + wk) rfl  dX9_slot_110 ?_
            refine aw_if_ne X (pc := 111) (tgt := 118) (by decide) dX9_slot_111 (fun c20 => ?_) (fun c20 => ?_)
            · refine aw_aload_n X (pc := 118) 4 rfl rfl dX9_slot_118 ?_
              refine aw_get X (pc := 119) iX9 0 5 rfl rfl (by decide) fl_X9_86 rfl dX9_slot_119 ?_
              refine aw_if_lt X (pc := 122) (tgt := 129) (by decide) dX9_slot_122 (fun c21 => ?_) (fun c21 => absurd (by decide) c21)
              refine aw_iconst X (pc := 129) (v := 2) dX9_slot_129 (by decide) ?_
              exact aw_iret X (v := 2) hQ (by simp only [r_X9_slot, if_neg c13, if_pos c16, if_neg c19, if_neg c20, ← hf1]; try rfl) (by simp only [u_X9_slot_lone, if_neg c13, if_pos c16, if_neg c19, if_neg c20, ← hf1]) dX9_slot_130
            · refine aw_iconst X (pc := 114) (v := 0) dX9_slot_114 (by decide) ?_
              refine aw_goto X (pc := 115) (tgt := 130) (by decide) dX9_slot_115 ?_
              exact aw_iret X (v := 0) hQ (by simp only [r_X9_slot, if_neg c13, if_pos c16, if_neg c19, if_pos c20, ← hf1]; try rfl) (by simp only [u_X9_slot_lone, if_neg c13, if_pos c16, if_neg c19, if_pos c20, ← hf1]) dX9_slot_130
          · refine aw_iload_n X (pc := 100) 1 rfl rfl dX9_slot_100 ?_
            refine aw_goto X (pc := 101) (tgt := 105) (by decide) dX9_slot_101 ?_
            refine aw_put X (pc := 105) (ws' := (mW q kc a w hs inn sp who lt lz dr)) tyX9 tyX9_ok nmX9 iX9 0 5 rfl rfl (by decide) fl_X9_86 rfl (tyX9_ok 5 (by decide)) rfl rfl (Nat.le_of_ble_eq_true rfl) rfl dX9_slot_105 ?_
            refine aw_iload_n X (pc := 108) 3 rfl rfl dX9_slot_108 ?_
            refine aw_iload_n X (pc := 109) 2 rfl rfl dX9_slot_109 ?_
            refine aw_iadd X (pc := 110) (z := stg + wk) rfl  dX9_slot_110 ?_
            refine aw_if_ne X (pc := 111) (tgt := 118) (by decide) dX9_slot_111 (fun c22 => ?_) (fun c22 => ?_)
            · refine aw_aload_n X (pc := 118) 4 rfl rfl dX9_slot_118 ?_
              refine aw_get X (pc := 119) iX9 0 5 rfl rfl (by decide) fl_X9_86 rfl dX9_slot_119 ?_
              refine aw_if_lt X (pc := 122) (tgt := 129) (by decide) dX9_slot_122 (fun c23 => ?_) (fun c23 => ?_)
              · refine aw_iconst X (pc := 129) (v := 2) dX9_slot_129 (by decide) ?_
                exact aw_iret X (v := 2) hQ (by simp only [r_X9_slot, if_neg c13, if_pos c16, if_pos c19, if_neg c22, if_pos c23, ← hf1]; try rfl) (by simp only [u_X9_slot_lone, if_neg c13, if_pos c16, if_pos c19, if_neg c22, if_pos c23, ← hf1]) dX9_slot_130
              · refine aw_iconst X (pc := 125) (v := 1) dX9_slot_125 (by decide) ?_
                refine aw_goto X (pc := 126) (tgt := 130) (by decide) dX9_slot_126 ?_
                exact aw_iret X (v := 1) hQ (by simp only [r_X9_slot, if_neg c13, if_pos c16, if_pos c19, if_neg c22, if_neg c23, ← hf1]; try rfl) (by simp only [u_X9_slot_lone, if_neg c13, if_pos c16, if_pos c19, if_neg c22, if_neg c23, ← hf1]) dX9_slot_130
            · refine aw_iconst X (pc := 114) (v := 0) dX9_slot_114 (by decide) ?_
              refine aw_goto X (pc := 115) (tgt := 130) (by decide) dX9_slot_115 ?_
              exact aw_iret X (v := 0) hQ (by simp only [r_X9_slot, if_neg c13, if_pos c16, if_pos c19, if_pos c22, ← hf1]; try rfl) (by simp only [u_X9_slot_lone, if_neg c13, if_pos c16, if_pos c19, if_pos c22, ← hf1]) dX9_slot_130
    | succ n1 ih1 =>
      intro k stg wk who hk1  hf1
      have hf1 : lpF (b_X9_slot_9 a sp) n1 (k + 1) (b_X9_slot_9 a sp k (stg, wk, who)) = lpF (b_X9_slot_9 a sp) n 0 (0, 0, (-1)) := hf1
      refine aw_iload X (pc := 9) 0 rfl dX9_slot_9 ?_
      refine aw_aload_n X (pc := 11) 4 rfl rfl dX9_slot_11 ?_
      refine aw_get X (pc := 12) iX9 0 0 rfl rfl (by decide) fl_X9_7 rfl dX9_slot_12 ?_
      refine aw_iconst X (pc := 15) (v := 0) dX9_slot_15 (by decide) ?_
      refine aw_iald X (pc := 16) 1 0 0 rfl rfl rfl (by decide) (by omega) dX9_slot_16 ?_
      refine aw_icmp_ge X (pc := 17) (tgt := 77) (by decide) dX9_slot_17 (fun c2 => absurd c2 (nn_nle (a := n) (b := k) ha0 rfl (by omega) (by omega))) (fun c2 => ?_)
      refine aw_aload_n X (pc := 20) 4 rfl rfl dX9_slot_20 ?_
      refine aw_get X (pc := 21) iX9 0 4 rfl rfl (by decide) fl_X9_24 rfl dX9_slot_21 ?_
      refine aw_iload X (pc := 24) 0 rfl dX9_slot_24 ?_
      refine aw_zald X (pc := 26) 5 4 k rfl rfl rfl (by decide) (by omega) dX9_slot_26 ?_
      refine aw_if_ne X (pc := 27) (tgt := 33) (by decide) dX9_slot_27 (fun c3 => ?_) (fun c3 => ?_)
      · refine aw_aload_n X (pc := 33) 4 rfl rfl dX9_slot_33 ?_
        refine aw_iload X (pc := 34) 0 rfl dX9_slot_34 ?_
        refine aw_iconst X (pc := 36) (v := 0) dX9_slot_36 (by decide) ?_
        refine aw_callVF X (pc := 37) (q1 := 0) (rest := []) (st' := [.int (a (300 + 6 * k + 0))]) (c_X9_of l D q kc a w hs inn sp lone lt lz dr (nI k) 0 k 0 rfl rfl (by omega)) rfl rfl ⟨_, _, rfl⟩ rfl cf_X9_44 cd_X9_of dd_X9_of (by decide) (by decide) (by decide) rfl (Nat.le_of_ble_eq_true rfl) dX9_slot_37 rfl ?_
        refine aw_iconst X (pc := 40) (v := 5) dX9_slot_40 (by decide) ?_
        refine aw_icmp_ne X (pc := 41) (tgt := 50) (by decide) dX9_slot_41 (fun c4 => ?_) (fun c4 => ?_)
        · refine aw_iinc X (pc := 50) (kx := 3) (v := stg + 1) (lv' := [(1, .int (stg + 1)), (4, .int (nI k)), (3, .int who), (2, .int wk), (0, .ref (q 0))]) rfl rfl (by decide) rfl dX9_slot_50 ?_
          refine aw_aload_n X (pc := 53) 4 rfl rfl dX9_slot_53 ?_
          refine aw_iload X (pc := 54) 1 rfl dX9_slot_54 ?_
          refine aw_iconst X (pc := 56) (v := 0) dX9_slot_56 (by decide) ?_
          refine aw_callVF X (pc := 57) (q1 := 0) (rest := []) (st' := [.int (a (300 + 6 * k + 0))]) (c_X9_of l D q kc a w hs inn sp lone lt lz dr (nI k) 0 k 0 rfl rfl (by omega)) rfl rfl ⟨_, _, rfl⟩ rfl cf_X9_44 cd_X9_of dd_X9_of (by decide) (by decide) (by decide) rfl (Nat.le_of_ble_eq_true rfl) dX9_slot_57 rfl ?_
          refine aw_iconst X (pc := 60) (v := 5) dX9_slot_60 (by decide) ?_
          refine aw_icmp_ne X (pc := 61) (tgt := 68) (by decide) dX9_slot_61 (fun c5 => ?_) (fun c5 => absurd c5 c4)
          refine aw_iload X (pc := 68) 1 rfl dX9_slot_68 ?_
          refine aw_istore_n X (pc := 70) (lv' := [(3, .int (nI k)), (1, .int (stg + 1)), (4, .int (nI k)), (2, .int wk), (0, .ref (q 0))]) rfl (by decide) rfl dX9_slot_70 ?_
          refine aw_iinc X (pc := 71) (kx := 2) (v := nI (k + 1)) (lv' := [(4, .int (nI (k + 1))), (3, .int (nI k)), (1, .int (stg + 1)), (2, .int wk), (0, .ref (q 0))]) rfl (nn_add (a := k) (b := 1) rfl rfl rfl) (by decide) rfl dX9_slot_71 ?_
          refine aw_goto X (pc := 74) (tgt := 9) (by decide) dX9_slot_74 ?_
          have e6 : b_X9_slot_9 a sp k (stg, wk, who) = (stg + 1, wk, nI k) := by simp only [b_X9_slot_9, if_neg c3, if_neg c4]
          exact aw_sub (lv' := [(4, .int (nI (k + 1))), (3, .int (nI k)), (2, .int wk), (1, .int (stg + 1)), (0, .ref (q 0))]) [0, 1, 3, 2, 4] rfl (ih1 (k + 1) (stg + 1) wk (nI k) (by omega)  (by rw [← e6]; exact hf1))
        · refine aw_iinc X (pc := 44) (kx := 2) (v := wk + 1) (lv' := [(2, .int (wk + 1)), (4, .int (nI k)), (3, .int who), (1, .int stg), (0, .ref (q 0))]) rfl rfl (by decide) rfl dX9_slot_44 ?_
          refine aw_goto X (pc := 47) (tgt := 53) (by decide) dX9_slot_47 ?_
          refine aw_aload_n X (pc := 53) 4 rfl rfl dX9_slot_53 ?_
          refine aw_iload X (pc := 54) 1 rfl dX9_slot_54 ?_
          refine aw_iconst X (pc := 56) (v := 0) dX9_slot_56 (by decide) ?_
          refine aw_callVF X (pc := 57) (q1 := 0) (rest := []) (st' := [.int (a (300 + 6 * k + 0))]) (c_X9_of l D q kc a w hs inn sp lone lt lz dr (nI k) 0 k 0 rfl rfl (by omega)) rfl rfl ⟨_, _, rfl⟩ rfl cf_X9_44 cd_X9_of dd_X9_of (by decide) (by decide) (by decide) rfl (Nat.le_of_ble_eq_true rfl) dX9_slot_57 rfl ?_
          refine aw_iconst X (pc := 60) (v := 5) dX9_slot_60 (by decide) ?_
          refine aw_icmp_ne X (pc := 61) (tgt := 68) (by decide) dX9_slot_61 (fun c7 => absurd c4 c7) (fun c7 => ?_)
          refine aw_iload_n X (pc := 64) 2 rfl rfl dX9_slot_64 ?_
          refine aw_if_ge X (pc := 65) (tgt := 71) (by decide) dX9_slot_65 (fun c8 => ?_) (fun c8 => ?_)
          · refine aw_iinc X (pc := 71) (kx := 1) (v := nI (k + 1)) (lv' := [(4, .int (nI (k + 1))), (2, .int (wk + 1)), (3, .int who), (1, .int stg), (0, .ref (q 0))]) rfl (nn_add (a := k) (b := 1) rfl rfl rfl) (by decide) rfl dX9_slot_71 ?_
            refine aw_goto X (pc := 74) (tgt := 9) (by decide) dX9_slot_74 ?_
            have e9 : b_X9_slot_9 a sp k (stg, wk, who) = (stg, wk + 1, who) := by simp only [b_X9_slot_9, if_neg c3, if_pos c4, if_pos c8]
            exact aw_sub (lv' := [(4, .int (nI (k + 1))), (3, .int who), (2, .int (wk + 1)), (1, .int stg), (0, .ref (q 0))]) [0, 2, 1, 3, 4] rfl (ih1 (k + 1) stg (wk + 1) who (by omega)  (by rw [← e9]; exact hf1))
          · refine aw_iload X (pc := 68) 1 rfl dX9_slot_68 ?_
            refine aw_istore_n X (pc := 70) (lv' := [(3, .int (nI k)), (2, .int (wk + 1)), (4, .int (nI k)), (1, .int stg), (0, .ref (q 0))]) rfl (by decide) rfl dX9_slot_70 ?_
            refine aw_iinc X (pc := 71) (kx := 2) (v := nI (k + 1)) (lv' := [(4, .int (nI (k + 1))), (3, .int (nI k)), (2, .int (wk + 1)), (1, .int stg), (0, .ref (q 0))]) rfl (nn_add (a := k) (b := 1) rfl rfl rfl) (by decide) rfl dX9_slot_71 ?_
            refine aw_goto X (pc := 74) (tgt := 9) (by decide) dX9_slot_74 ?_
            have e10 : b_X9_slot_9 a sp k (stg, wk, who) = (stg, wk + 1, nI k) := by simp only [b_X9_slot_9, if_neg c3, if_pos c4, if_neg c8]
            exact aw_sub (lv' := [(4, .int (nI (k + 1))), (3, .int (nI k)), (2, .int (wk + 1)), (1, .int stg), (0, .ref (q 0))]) [0, 1, 2, 3, 4] rfl (ih1 (k + 1) stg (wk + 1) (nI k) (by omega)  (by rw [← e10]; exact hf1))
      · refine aw_goto X (pc := 30) (tgt := 71) (by decide) dX9_slot_30 ?_
        refine aw_iinc X (pc := 71) (kx := 0) (v := nI (k + 1)) (lv' := [(4, .int (nI (k + 1))), (3, .int who), (2, .int wk), (1, .int stg), (0, .ref (q 0))]) rfl (nn_add (a := k) (b := 1) rfl rfl rfl) (by decide) rfl dX9_slot_71 ?_
        refine aw_goto X (pc := 74) (tgt := 9) (by decide) dX9_slot_74 ?_
        have e11 : b_X9_slot_9 a sp k (stg, wk, who) = (stg, wk, who) := by simp only [b_X9_slot_9, if_pos c3]
        exact aw_sub (lv' := [(4, .int (nI (k + 1))), (3, .int who), (2, .int wk), (1, .int stg), (0, .ref (q 0))]) [0, 1, 2, 3, 4] rfl (ih1 (k + 1) stg wk who (by omega)  (by rw [← e11]; exact hf1))
  exact aw_sub (lv' := [(4, .int 0), (3, .int (-1)), (2, .int 0), (1, .int 0), (0, .ref (q 0))]) [0, 1, 2, 3, 4] rfl (L1 n 0 0 0 (-1) (by omega)  rfl)

theorem le_X9_slot (a : Nat → Int32) (sp : Nat → Int32) (n : Nat) : r_X9_slot a sp n ≤ 2 := by
  unfold r_X9_slot
  repeat' split
  all_goals decide
theorem slot_who (a : Nat → Int32) (sp : Nat → Int32) (n : Nat) : (lpF (b_X9_slot_9 a sp) n 0 (0, 0, (-1))).2.2 = -1 ∨ ∃ j : Nat, j < n ∧ (lpF (b_X9_slot_9 a sp) n 0 (0, 0, (-1))).2.2 = nI j := by
  have h := lpF_inv (body := b_X9_slot_9 a sp) (fun k σ => σ.2.2 = -1 ∨ ∃ j : Nat, j < k ∧ σ.2.2 = nI j) n 0 (0, 0, (-1)) (Or.inl rfl) (fun j t _ _ h => by
    unfold b_X9_slot_9
    have h' : t.2.2 = -1 ∨ ∃ i : Nat, i < j + 1 ∧ t.2.2 = nI i := by
      rcases h with h | ⟨i, h1, h2⟩
      · exact Or.inl h
      · exact Or.inr ⟨i, by omega, h2⟩
    split
    · exact h'
    · split
      · split
        · exact h'
        · exact Or.inr ⟨j, by omega, rfl⟩
      · exact Or.inr ⟨j, by omega, rfl⟩)
  rw [Nat.zero_add] at h
  exact h
theorem slot_lone_or (a : Nat → Int32) (sp : Nat → Int32) (n : Nat) : u_X9_slot_lone a sp n = -1 ∨ ∃ j : Nat, j < n ∧ u_X9_slot_lone a sp n = nI j := by
  unfold u_X9_slot_lone
  have h := slot_who a sp n
  repeat' split
  all_goals first | exact h | exact Or.inl rfl
theorem slot_lone_1 {a : Nat → Int32} {sp : Nat → Int32} {n : Nat} (h : r_X9_slot a sp n = 1) : ¬ u_X9_slot_lone a sp n < 0 := by
  unfold r_X9_slot at h
  unfold u_X9_slot_lone
  generalize lpF (b_X9_slot_9 a sp) n 0 (0, 0, (-1)) = T at h ⊢
  by_cases h1 : T.1 + T.2.1 = 1
  · rw [if_pos h1] at h ⊢
    by_cases h2 : T.1 + T.2.1 = 0
    · rw [if_pos h2] at h; exact absurd h (by decide)
    · rw [if_neg h2] at h
      by_cases h3 : T.2.2 < 0
      · rw [if_pos h3] at h; exact absurd h (by decide)
      · exact h3
  · rw [if_neg h1] at h ⊢
    by_cases h2 : a 1 = 1
    · rw [if_pos h2] at h ⊢
      by_cases h4 : T.1 = 1
      · rw [if_pos h4] at h ⊢
        by_cases h2 : T.1 + T.2.1 = 0
        · rw [if_pos h2] at h; exact absurd h (by decide)
        · rw [if_neg h2] at h
          by_cases h3 : T.2.2 < 0
          · rw [if_pos h3] at h; exact absurd h (by decide)
          · exact h3
      · rw [if_neg h4] at h
        by_cases h2 : T.1 + T.2.1 = 0
        · rw [if_pos h2] at h; exact absurd h (by decide)
        · rw [if_neg h2] at h; exact absurd h (by decide)
    · rw [if_neg h2] at h
      by_cases h2 : T.1 + T.2.1 = 0
      · rw [if_pos h2] at h; exact absurd h (by decide)
      · rw [if_neg h2] at h; exact absurd h (by decide)
theorem slot_lone_nat {a : Nat → Int32} {sp : Nat → Int32} {n : Nat} (hn : n ≤ 40) (h : nI (r_X9_slot a sp n) = 1) : u_X9_slot_lone a sp n = nI (u_X9_slot_lone a sp n).toNatClampNeg ∧ (u_X9_slot_lone a sp n).toNatClampNeg < n := by
  have h0 : r_X9_slot a sp n = 1 := (nI_eq (Nat.lt_of_le_of_lt (le_X9_slot a sp n) (by decide)) (by decide)).mp h
  have h1 := slot_lone_1 h0
  rcases slot_lone_or a sp n with h2 | ⟨j, h2, h3⟩
  · rw [h2] at h1; exact absurd (by decide) h1
  · rw [h3, nI_clamp (by omega)]
    exact ⟨rfl, h2⟩

def r_X9_counted (a : Nat → Int32) (sp : Nat → Int32) (n : Nat) : Nat := r_X9_slot a sp n
def u_X9_counted_a (a : Nat → Int32) (sp : Nat → Int32) (n : Nat) : Nat → Int32 := upd a (11 + r_X9_slot a sp n) ((a (11 + r_X9_slot a sp n)) + 1)
abbrev rm_X9_counted : Room := { frames := 2, cells := 0, slots := 0, locals := 46 }
set_option maxHeartbeats 400000 in
set_option maxRecDepth 100000 in
theorem c_X9_counted (l : Launch) (D : va_G) (q : Nat → Nat) (kc : Nat → ClassId) (a : Nat → Int32) (w : Nat → Int64) (hs : Nat → Int32) (inn : Nat → Int32) (sp : Nat → Int32) (lone : Int32) (lt : Nat → Int64) (lz : Nat → Int32) (dr : Nat → Int32) (n : Nat) (ha0 : a 0 = nI n) (hn : n ≤ 40) : MW l D yX9_counted (Cond.code yX9_counted cX9_counted 2 (some .int) :: TT) rm_X9_counted [.ref (q 0)] [(kc 1, .int), (kc 2, .long), (kc 3, .boolean), (kc 4, .boolean), (kc 5, .boolean), (kc 6, .long), (kc 7, .int), (kc 8, .int)] (mW q kc a w hs inn sp lone lt lz dr) (some (.int (nI (r_X9_counted a sp n)))) (mW q kc (u_X9_counted_a a sp n) w hs inn sp (u_X9_slot_lone a sp n) lt lz dr) := by
  refine MW.of (cc := cX9_counted) (nL := 2) (ret := (some .int)) (lv := [(0, .ref (q 0))]) (by decide) ((mW_ad ..).trans (mW_ad ..).symm) rfl (Nat.le_of_ble_eq_true rfl) ?_
  intro p e s m args below meth c A Q hQ X
  refine aw_aload_n X (pc := 0) 0 rfl rfl dX9_counted_0 ?_
  refine aw_callVF X (pc := 1) (q1 := 0) (rest := []) (st' := [.int (nI (r_X9_slot a sp n))]) (c_X9_slot l D q kc a w hs inn sp lone lt lz dr n ha0 (by omega)) rfl rfl ⟨_, _, rfl⟩ rfl cf_X9_90 cd_X9_slot dd_X9_slot (by decide) (by decide) (by decide) rfl (Nat.le_of_ble_eq_true rfl) dX9_counted_1 rfl ?_
  have hs1 : r_X9_slot a sp n ≤ 2 := le_X9_slot ..
  refine aw_istore_n X (pc := 4) (lv' := [(1, .int (nI (r_X9_slot a sp n))), (0, .ref (q 0))]) rfl (by decide) rfl dX9_counted_4 ?_
  refine aw_aload_n X (pc := 5) 1 rfl rfl dX9_counted_5 ?_
  refine aw_get X (pc := 6) iX9 0 0 rfl rfl (by decide) fl_X9_7 rfl dX9_counted_6 ?_
  refine aw_bipush X (pc := 9) (v := 11) dX9_counted_9 (by decide) ?_
  refine aw_iload_n X (pc := 11) 0 rfl rfl dX9_counted_11 ?_
  refine aw_iadd X (pc := 12) (z := nI (11 + r_X9_slot a sp n)) (nn_add (a := 11) (b := r_X9_slot a sp n) rfl rfl (by first | rfl | omega))  dX9_counted_12 ?_
  refine aw_dup2_11 X (pc := 13) dX9_counted_13 rfl rfl ?_
  refine aw_iald X (pc := 14) 1 0 (11 + r_X9_slot a sp n) rfl rfl rfl (by decide) (by omega) dX9_counted_14 ?_
  refine aw_iconst X (pc := 15) (v := 1) dX9_counted_15 (by decide) ?_
  refine aw_iadd X (pc := 16) (z := (a (11 + r_X9_slot a sp n)) + 1) rfl  dX9_counted_16 ?_
  refine aw_iast X (pc := 17) 1 0 (ws' := (mW q kc (upd a (11 + r_X9_slot a sp n) ((a (11 + r_X9_slot a sp n)) + 1)) w hs inn sp (u_X9_slot_lone a sp n) lt lz dr)) (11 + r_X9_slot a sp n) rfl  rfl rfl (by decide) (by omega) rfl dX9_counted_17 ?_
  have ha2 : (upd a (11 + r_X9_slot a sp n) ((a (11 + r_X9_slot a sp n)) + 1)) 0 = nI n := by rw [pk_un (by omega)]; exact ha0
  refine aw_iload_n X (pc := 18) 0 rfl rfl dX9_counted_18 ?_
  exact aw_iret X (v := nI (r_X9_slot a sp n)) hQ rfl rfl dX9_counted_19

theorem fr_X9_counted {a : Nat → Int32} {sp : Nat → Int32} {n j : Nat} (h : j < 11 ∨ 13 < j) : u_X9_counted_a a sp n j = a j := by
  unfold u_X9_counted_a
  have := le_X9_slot a sp n
  rw [pk_un (by omega)]

def r_X9_ask (a : Nat → Int32) (w : Nat → Int64) (sp : Nat → Int32) (n : Nat) (bits : Int64) (m_ : Int32) : Int32 := if m_ < 0 then (-1) else (if m_ ≤ 64 then (nI (r_X9_counted a (lpF (b_X9_called_3 a w bits m_) n 0 sp) n)) else (-1))
def u_X9_ask_a (a : Nat → Int32) (w : Nat → Int64) (sp : Nat → Int32) (n : Nat) (bits : Int64) (m_ : Int32) : Nat → Int32 := if m_ < 0 then a else (if m_ ≤ 64 then (upd (u_X9_counted_a a (lpF (b_X9_called_3 a w bits m_) n 0 sp) n) 6 (u_X9_slot_lone a (lpF (b_X9_called_3 a w bits m_) n 0 sp) n)) else a)
def u_X9_ask_sp (a : Nat → Int32) (w : Nat → Int64) (sp : Nat → Int32) (n : Nat) (bits : Int64) (m_ : Int32) : Nat → Int32 := if m_ < 0 then sp else (if m_ ≤ 64 then (lpF (b_X9_called_3 a w bits m_) n 0 sp) else sp)
def u_X9_ask_lone (a : Nat → Int32) (w : Nat → Int64) (sp : Nat → Int32) (lone : Int32) (n : Nat) (bits : Int64) (m_ : Int32) : Int32 := if m_ < 0 then lone else (if m_ ≤ 64 then (u_X9_slot_lone a (lpF (b_X9_called_3 a w bits m_) n 0 sp) n) else lone)
abbrev rm_X9_ask : Room := { frames := 3, cells := 0, slots := 0, locals := 67 }
set_option maxHeartbeats 400000 in
set_option maxRecDepth 100000 in
theorem c_X9_ask (l : Launch) (D : va_G) (q : Nat → Nat) (kc : Nat → ClassId) (a : Nat → Int32) (w : Nat → Int64) (hs : Nat → Int32) (inn : Nat → Int32) (sp : Nat → Int32) (lone : Int32) (lt : Nat → Int64) (lz : Nat → Int32) (dr : Nat → Int32) (n : Nat) (bits : Int64) (m_ : Int32) (ha0 : a 0 = nI n) (hn : n ≤ 40) : MW l D yX9_ask (Cond.code yX9_ask cX9_ask 5 (some .int) :: TT) rm_X9_ask [.ref (q 0), .long bits, .int m_] [(kc 1, .int), (kc 2, .long), (kc 3, .boolean), (kc 4, .boolean), (kc 5, .boolean), (kc 6, .long), (kc 7, .int), (kc 8, .int)] (mW q kc a w hs inn sp lone lt lz dr) (some (.int (r_X9_ask a w sp n bits m_))) (mW q kc (u_X9_ask_a a w sp n bits m_) w hs inn (u_X9_ask_sp a w sp n bits m_) (u_X9_ask_lone a w sp lone n bits m_) lt lz dr) := by
  refine MW.of (cc := cX9_ask) (nL := 5) (ret := (some .int)) (lv := [(0, .ref (q 0)), (1, .long bits), (3, .int m_)]) (by decide) ((mW_ad ..).trans (mW_ad ..).symm) rfl (Nat.le_of_ble_eq_true rfl) ?_
  intro p e s m args below meth c A Q hQ X
  refine aw_iload_n X (pc := 0) 2 rfl rfl dX9_ask_0 ?_
  refine aw_if_lt X (pc := 1) (tgt := 10) (by decide) dX9_ask_1 (fun c1 => ?_) (fun c1 => ?_)
  · refine aw_iconst X (pc := 10) (v := (-1)) dX9_ask_10 (by decide) ?_
    exact aw_iret X (v := (-1)) hQ (by simp only [r_X9_ask, if_pos c1]; try rfl) (by simp only [u_X9_ask_a, u_X9_ask_sp, u_X9_ask_lone, if_pos c1]) dX9_ask_11
  · refine aw_iload_n X (pc := 4) 2 rfl rfl dX9_ask_4 ?_
    refine aw_bipush X (pc := 5) (v := 64) dX9_ask_5 (by decide) ?_
    refine aw_icmp_le X (pc := 7) (tgt := 12) (by decide) dX9_ask_7 (fun c2 => ?_) (fun c2 => ?_)
    · refine aw_aload_n X (pc := 12) 0 rfl rfl dX9_ask_12 ?_
      refine aw_lload_n X (pc := 13) 1 rfl rfl dX9_ask_13 ?_
      refine aw_iload_n X (pc := 14) 2 rfl rfl dX9_ask_14 ?_
      refine aw_callVF X (pc := 15) (q1 := 0) (rest := []) (st' := []) (c_X9_called l D q kc a w hs inn sp lone lt lz dr n bits m_ ha0 (by omega)) rfl rfl ⟨_, _, rfl⟩ rfl cf_X9_97 cd_X9_called dd_X9_called (by decide) (by decide) (by decide) rfl (Nat.le_of_ble_eq_true rfl) dX9_ask_15 rfl ?_
      refine aw_aload_n X (pc := 18) 0 rfl rfl dX9_ask_18 ?_
      refine aw_callVF X (pc := 19) (q1 := 0) (rest := []) (st' := [.int (nI (r_X9_counted a (lpF (b_X9_called_3 a w bits m_) n 0 sp) n))]) (c_X9_counted l D q kc a w hs inn (lpF (b_X9_called_3 a w bits m_) n 0 sp) lone lt lz dr n ha0 (by omega)) rfl rfl ⟨_, _, rfl⟩ rfl cf_X9_101 cd_X9_counted dd_X9_counted (by decide) (by decide) (by decide) rfl (Nat.le_of_ble_eq_true rfl) dX9_ask_19 rfl ?_
      have hs3 : r_X9_counted a (lpF (b_X9_called_3 a w bits m_) n 0 sp) n ≤ 2 := le_X9_slot ..
      have ha4 : (u_X9_counted_a a (lpF (b_X9_called_3 a w bits m_) n 0 sp) n) 0 = nI n := (fr_X9_counted (by omega)).trans ha0
      refine aw_istore X (pc := 22) (lv' := [(4, .int (nI (r_X9_counted a (lpF (b_X9_called_3 a w bits m_) n 0 sp) n))), (0, .ref (q 0)), (1, .long bits), (3, .int m_)]) (by decide) rfl dX9_ask_22 ?_
      refine aw_aload_n X (pc := 24) 1 rfl rfl dX9_ask_24 ?_
      refine aw_get X (pc := 25) iX9 0 0 rfl rfl (by decide) fl_X9_7 rfl dX9_ask_25 ?_
      refine aw_bipush X (pc := 28) (v := 6) dX9_ask_28 (by decide) ?_
      refine aw_aload_n X (pc := 30) 1 rfl rfl dX9_ask_30 ?_
      refine aw_get X (pc := 31) iX9 0 5 rfl rfl (by decide) fl_X9_86 rfl dX9_ask_31 ?_
      refine aw_iast X (pc := 34) 1 0 (ws' := (mW q kc (upd (u_X9_counted_a a (lpF (b_X9_called_3 a w bits m_) n 0 sp) n) 6 (u_X9_slot_lone a (lpF (b_X9_called_3 a w bits m_) n 0 sp) n)) w hs inn (lpF (b_X9_called_3 a w bits m_) n 0 sp) (u_X9_slot_lone a (lpF (b_X9_called_3 a w bits m_) n 0 sp) n) lt lz dr)) 6 rfl  rfl rfl (by decide) (by omega) rfl dX9_ask_34 ?_
      have ha5 : (upd (u_X9_counted_a a (lpF (b_X9_called_3 a w bits m_) n 0 sp) n) 6 (u_X9_slot_lone a (lpF (b_X9_called_3 a w bits m_) n 0 sp) n)) 0 = nI n := by rw [pk_un (by omega)]; exact ha4
      refine aw_iload X (pc := 35) 0 rfl dX9_ask_35 ?_
      exact aw_iret X (v := nI (r_X9_counted a (lpF (b_X9_called_3 a w bits m_) n 0 sp) n)) hQ (by simp only [r_X9_ask, if_neg c1, if_pos c2]; try rfl) (by simp only [u_X9_ask_a, u_X9_ask_sp, u_X9_ask_lone, if_neg c1, if_pos c2]) dX9_ask_37
    · refine aw_iconst X (pc := 10) (v := (-1)) dX9_ask_10 (by decide) ?_
      exact aw_iret X (v := (-1)) hQ (by simp only [r_X9_ask, if_neg c1, if_neg c2]; try rfl) (by simp only [u_X9_ask_a, u_X9_ask_sp, u_X9_ask_lone, if_neg c1, if_neg c2]) dX9_ask_11

abbrev rm_X9_piles : Room := { frames := 0, cells := 0, slots := 0, locals := 0 }
set_option maxHeartbeats 400000 in
set_option maxRecDepth 100000 in
theorem c_X9_piles (l : Launch) (D : va_G) (q : Nat → Nat) (kc : Nat → ClassId) (a : Nat → Int32) (w : Nat → Int64) (hs : Nat → Int32) (inn : Nat → Int32) (sp : Nat → Int32) (lone : Int32) (lt : Nat → Int64) (lz : Nat → Int32) (dr : Nat → Int32) (z : Nat) (bits : Int64) (m_ : Int32) (ha4 : a 4 = nI z) (hz : z ≤ 70) : MW l D yX9_piles (Cond.code yX9_piles cX9_piles 4 none :: TT) rm_X9_piles [.ref (q 0), .long bits, .int m_] [(kc 1, .int), (kc 2, .long), (kc 3, .boolean), (kc 4, .boolean), (kc 5, .boolean), (kc 6, .long), (kc 7, .int), (kc 8, .int)] (mW q kc a w hs inn sp lone lt lz dr) none (mW q kc (upd (upd a (20 + z) m_) 4 (nI (z + 1))) (vp_updL w (4 + z) bits) hs inn sp lone lt lz dr) := by
  refine MW.of (cc := cX9_piles) (nL := 4) (ret := none) (lv := [(0, .ref (q 0)), (1, .long bits), (3, .int m_)]) (by decide) ((mW_ad ..).trans (mW_ad ..).symm) rfl (Nat.le_of_ble_eq_true rfl) ?_
  intro p e s m args below meth c A Q hQ X
  refine aw_aload_n X (pc := 0) 0 rfl rfl dX9_piles_0 ?_
  refine aw_get X (pc := 1) iX9 0 1 rfl rfl (by decide) fl_X9_13 rfl dX9_piles_1 ?_
  refine aw_iconst X (pc := 4) (v := 4) dX9_piles_4 (by decide) ?_
  refine aw_aload_n X (pc := 5) 0 rfl rfl dX9_piles_5 ?_
  refine aw_get X (pc := 6) iX9 0 0 rfl rfl (by decide) fl_X9_7 rfl dX9_piles_6 ?_
  refine aw_iconst X (pc := 9) (v := 4) dX9_piles_9 (by decide) ?_
  refine aw_iald X (pc := 10) 1 0 4 rfl rfl rfl (by decide) (by omega) dX9_piles_10 ?_
  refine aw_iadd X (pc := 11) (z := nI (4 + z)) (nn_add (a := 4) (b := z) rfl ha4 (by first | rfl | omega))  dX9_piles_11 ?_
  refine aw_lload_n X (pc := 12) 1 rfl rfl dX9_piles_12 ?_
  refine aw_last X (pc := 13) 2 1 (ws' := (mW q kc a (vp_updL w (4 + z) bits) hs inn sp lone lt lz dr)) (4 + z) rfl  rfl rfl (by decide) (by omega) rfl dX9_piles_13 ?_
  refine aw_aload_n X (pc := 14) 0 rfl rfl dX9_piles_14 ?_
  refine aw_get X (pc := 15) iX9 0 0 rfl rfl (by decide) fl_X9_7 rfl dX9_piles_15 ?_
  refine aw_bipush X (pc := 18) (v := 20) dX9_piles_18 (by decide) ?_
  refine aw_aload_n X (pc := 20) 0 rfl rfl dX9_piles_20 ?_
  refine aw_get X (pc := 21) iX9 0 0 rfl rfl (by decide) fl_X9_7 rfl dX9_piles_21 ?_
  refine aw_iconst X (pc := 24) (v := 4) dX9_piles_24 (by decide) ?_
  refine aw_iald X (pc := 25) 1 0 4 rfl rfl rfl (by decide) (by omega) dX9_piles_25 ?_
  refine aw_iadd X (pc := 26) (z := nI (20 + z)) (nn_add (a := 20) (b := z) rfl ha4 (by first | rfl | omega))  dX9_piles_26 ?_
  refine aw_iload_n X (pc := 27) 2 rfl rfl dX9_piles_27 ?_
  refine aw_iast X (pc := 28) 1 0 (ws' := (mW q kc (upd a (20 + z) m_) (vp_updL w (4 + z) bits) hs inn sp lone lt lz dr)) (20 + z) rfl  rfl rfl (by decide) (by omega) rfl dX9_piles_28 ?_
  have ha1 : (upd a (20 + z) m_) 4 = nI z := by rw [pk_un (by omega)]; exact ha4
  refine aw_aload_n X (pc := 29) 0 rfl rfl dX9_piles_29 ?_
  refine aw_get X (pc := 30) iX9 0 0 rfl rfl (by decide) fl_X9_7 rfl dX9_piles_30 ?_
  refine aw_iconst X (pc := 33) (v := 4) dX9_piles_33 (by decide) ?_
  refine aw_dup2_11 X (pc := 34) dX9_piles_34 rfl rfl ?_
  refine aw_iald X (pc := 35) 1 0 4 rfl rfl rfl (by decide) (by omega) dX9_piles_35 ?_
  refine aw_iconst X (pc := 36) (v := 1) dX9_piles_36 (by decide) ?_
  refine aw_iadd X (pc := 37) (z := nI (z + 1)) (nn_add (a := z) (b := 1) ha1 rfl (by first | rfl | omega))  dX9_piles_37 ?_
  refine aw_iast X (pc := 38) 1 0 (ws' := (mW q kc (upd (upd a (20 + z) m_) 4 (nI (z + 1))) (vp_updL w (4 + z) bits) hs inn sp lone lt lz dr)) 4 rfl  rfl rfl (by decide) (by omega) rfl dX9_piles_38 ?_
  have ha2 : (upd (upd a (20 + z) m_) 4 (nI (z + 1))) 4 = nI (z + 1) := pk_us.trans rfl
  exact aw_vret X hQ rfl rfl dX9_piles_39

theorem fr_X9_piles {a : Nat → Int32} {z : Nat} {x y : Int32} {j : Nat} (h : j < 4 ∨ (4 < j ∧ j < 20)) : upd (upd a (20 + z) x) 4 y j = a j := by rw [pk_un (by omega), pk_un (by omega)]

abbrev rm_X9_descend : Room := { frames := 1, cells := 0, slots := 0, locals := 23 }
set_option maxHeartbeats 400000 in
set_option maxRecDepth 100000 in
theorem c_X9_descend (l : Launch) (D : va_G) (q : Nat → Nat) (kc : Nat → ClassId) (a : Nat → Int32) (w : Nat → Int64) (hs : Nat → Int32) (inn : Nat → Int32) (sp : Nat → Int32) (lone : Int32) (lt : Nat → Int64) (lz : Nat → Int32) (dr : Nat → Int32)  : MW l D yX9_descend (Cond.code yX9_descend cX9_descend 1 none :: TT) rm_X9_descend [.ref (q 0)] [(kc 1, .int), (kc 2, .long), (kc 3, .boolean), (kc 4, .boolean), (kc 5, .boolean), (kc 6, .long), (kc 7, .int), (kc 8, .int)] (mW q kc a w hs inn sp lone lt lz dr) none (mW q kc (upd (upd (upd a 4 0) (20 + 0) 0) 4 (nI (0 + 1))) (vp_updL w (4 + 0) 0) hs inn sp lone lt lz dr) := by
  refine MW.of (cc := cX9_descend) (nL := 1) (ret := none) (lv := [(0, .ref (q 0))]) (by decide) ((mW_ad ..).trans (mW_ad ..).symm) rfl (Nat.le_of_ble_eq_true rfl) ?_
  intro p e s m args below meth c A Q hQ X
  refine aw_aload_n X (pc := 0) 0 rfl rfl dX9_descend_0 ?_
  refine aw_get X (pc := 1) iX9 0 0 rfl rfl (by decide) fl_X9_7 rfl dX9_descend_1 ?_
  refine aw_iconst X (pc := 4) (v := 4) dX9_descend_4 (by decide) ?_
  refine aw_iconst X (pc := 5) (v := 0) dX9_descend_5 (by decide) ?_
  refine aw_iast X (pc := 6) 1 0 (ws' := (mW q kc (upd a 4 0) w hs inn sp lone lt lz dr)) 4 rfl  rfl rfl (by decide) (by omega) rfl dX9_descend_6 ?_
  have ha1 : (upd a 4 0) 4 = nI 0 := pk_us.trans rfl
  refine aw_aload_n X (pc := 7) 0 rfl rfl dX9_descend_7 ?_
  refine aw_lconst X (pc := 8) (v := 0) dX9_descend_8 (by decide) ?_
  refine aw_iconst X (pc := 9) (v := 0) dX9_descend_9 (by decide) ?_
  refine aw_callVF X (pc := 10) (q1 := 0) (rest := []) (st' := []) (c_X9_piles l D q kc (upd a 4 0) w hs inn sp lone lt lz dr 0 0 0 ha1 (by omega)) rfl rfl ⟨_, _, rfl⟩ rfl cf_X9_104 cd_X9_piles dd_X9_piles (by decide) (by decide) (by decide) rfl (Nat.le_of_ble_eq_true rfl) dX9_descend_10 rfl ?_
  have ha2 : (upd (upd (upd a 4 0) (20 + 0) 0) 4 (nI (0 + 1))) 4 = nI (0 + 1) := pk_us
  exact aw_vret X hQ rfl rfl dX9_descend_13
