abbrev rX2_same : Room := { frames := 4, cells := 0, slots := 0, locals := 96 }
theorem iX2_same : zInfo yX2_same wsX2_same RX2 7 (some .int) 3 := ⟨_, _, rfl, by decide +kernel⟩
set_option maxHeartbeats 4000000 in
set_option maxRecDepth 100000 in
theorem qX2_sameN (E : zE) (x rw ln t1 t2 : Nat) (nb dn : Nat) (RF : Nat → Option Nat) (D : Nat → Int32) (A B : TB) (b c way : Int32) (hnb : nb ≤ 4) (hR : ∀ j, j < nb → ∃ o, RF j = some o) (hv : ¬ (inB nb b ∧ inB nb c ∧ (way = 0 ∨ way = 1))) : zF E yX2_same wsX2_same rX2_same [.ref x, .int b, .int c, .int way] [cO x 2 [.ref rw, .int (nI nb), .ref ln, .int (nI dn), .ref t1, .ref t2], cQ E rw 4 RF, cI E ln 12 D, cO t1 1 [.long (ta A), .long (tb A), .long (tc A), .long (td A), .long (te A), .long (tf A), .long (tg A)], cO t2 1 [.long (ta B), .long (tb B), .long (tc B), .long (td B), .long (te B), .long (tf B), .long (tg B)]] (zx (some (.int (-1))) ([cO x 2 [.ref rw, .int (nI nb), .ref ln, .int (nI dn), .ref t1, .ref t2], cQ E rw 4 RF, cI E ln 12 D, cO t1 1 [.long (ta A), .long (tb A), .long (tc A), .long (td A), .long (te A), .long (tf A), .long (tg A)], cO t2 1 [.long (ta B), .long (tb B), .long (tc B), .long (td B), .long (te B), .long (tf B), .long (tg B)]])) := by
  refine z_start RX2 "same" (by decide) rfl rfl rfl (Nat.le_of_ble_eq_true rfl) ?_
  intro J Z
  refine g_eq Z (lv2 := [(0, .ref x), (1, .int b), (2, .int c), (3, .int way)]) rfl rfl rfl ?_
  by_cases hb : inB nb b
  · obtain ⟨j, hj, rfl⟩ := inB_of hb
    obtain ⟨o, hr⟩ := hR j hj
    by_cases hc : inB nb c
    · obtain ⟨q, hq, rfl⟩ := inB_of hc
      obtain ⟨o2, hr2⟩ := hR q hq
      refine g_aload_n Z dX2_same_0 0 rfl rfl ?_
      refine g_iload_n Z dX2_same_1 1 rfl rfl ?_
      refine g_callVx (w' := [cO x 2 [.ref rw, .int (nI nb), .ref ln, .int (nI dn), .ref t1, .ref t2], cQ E rw 4 RF, cI E ln 12 D, cO t1 1 [.long (ta A), .long (tb A), .long (tc A), .long (td A), .long (te A), .long (tf A), .long (tg A)], cO t2 1 [.long (ta B), .long (tb B), .long (tc B), .long (td B), .long (te B), .long (tf B), .long (tg B)]]) Z (qX2_rowAt E x rw ln t1 t2 nb dn RF j o hj hnb hr) iX2_rowAt gX2_same_X2_rowAt ⟨rfl, rfl⟩ ⟨Nat.le_of_ble_eq_true rfl, Nat.le_of_ble_eq_true rfl⟩ dX2_same_2 rfl rfl (Nat.le_of_ble_eq_true rfl) ⟨Nat.zero_le _, Nat.zero_le _⟩ [0, 1] rfl rfl 0 rfl rfl rfl rfl rfl ?_
      refine g_astore (lv' := [(4, .ref o), (0, .ref x), (1, .int (nI j)), (2, .int (nI q)), (3, .int way)]) Z dX2_same_5 (by decide) rfl ?_
      refine g_aload_n Z dX2_same_7 1 rfl rfl ?_
      refine g_iload_n Z dX2_same_8 3 rfl rfl ?_
      refine g_callVx (w' := [cO x 2 [.ref rw, .int (nI nb), .ref ln, .int (nI dn), .ref t1, .ref t2], cQ E rw 4 RF, cI E ln 12 D, cO t1 1 [.long (ta A), .long (tb A), .long (tc A), .long (td A), .long (te A), .long (tf A), .long (tg A)], cO t2 1 [.long (ta B), .long (tb B), .long (tc B), .long (td B), .long (te B), .long (tf B), .long (tg B)]]) Z (qX2_rowAt E x rw ln t1 t2 nb dn RF q o2 hq hnb hr2) iX2_rowAt gX2_same_X2_rowAt ⟨rfl, rfl⟩ ⟨Nat.le_of_ble_eq_true rfl, Nat.le_of_ble_eq_true rfl⟩ dX2_same_9 rfl rfl (Nat.le_of_ble_eq_true rfl) ⟨Nat.zero_le _, Nat.zero_le _⟩ [0, 1] rfl rfl 0 rfl rfl rfl rfl rfl ?_
      refine g_astore (lv' := [(5, .ref o2), (4, .ref o), (0, .ref x), (1, .int (nI j)), (2, .int (nI q)), (3, .int way)]) Z dX2_same_12 (by decide) rfl ?_
      refine g_aload Z dX2_same_14 1 rfl ?_
      refine g_ifnull Z dX2_same_16 ?_
      refine g_aload Z dX2_same_19 0 rfl ?_
      refine g_ifnull Z dX2_same_21 ?_
      refine g_iload_n Z dX2_same_24 5 rfl rfl ?_
      refine g_callSx (w' := [cO x 2 [.ref rw, .int (nI nb), .ref ln, .int (nI dn), .ref t1, .ref t2], cQ E rw 4 RF, cI E ln 12 D, cO t1 1 [.long (ta A), .long (tb A), .long (tc A), .long (td A), .long (te A), .long (tf A), .long (tg A)], cO t2 1 [.long (ta B), .long (tb B), .long (tc B), .long (td B), .long (te B), .long (tf B), .long (tg B)]]) Z (qX2_isEither E way) iX2_isEither gX2_same_X2_isEither ⟨rfl, rfl⟩ ⟨Nat.le_of_ble_eq_true rfl, Nat.le_of_ble_eq_true rfl⟩ dX2_same_25 rfl rfl (Nat.le_of_ble_eq_true rfl) ⟨Nat.zero_le _, Nat.zero_le _⟩ [] rfl rfl rfl rfl ?_
      refine g_ifb_ne (tgt := 33) Z dX2_same_28 (by decide) (fun c_28 => absurd c_28 (fun y => hv ⟨hb, hc, y⟩)) (fun c_28 => ?_)
      refine g_iconst Z dX2_same_31 zi_m1 ?_
      exact g_iret Z dX2_same_32 rfl ⟨Nat.zero_le _, Nat.zero_le _⟩ ⟨rfl, rfl⟩
    · refine g_aload_n Z dX2_same_0 0 rfl rfl ?_
      refine g_iload_n Z dX2_same_1 1 rfl rfl ?_
      refine g_callVx (w' := [cO x 2 [.ref rw, .int (nI nb), .ref ln, .int (nI dn), .ref t1, .ref t2], cQ E rw 4 RF, cI E ln 12 D, cO t1 1 [.long (ta A), .long (tb A), .long (tc A), .long (td A), .long (te A), .long (tf A), .long (tg A)], cO t2 1 [.long (ta B), .long (tb B), .long (tc B), .long (td B), .long (te B), .long (tf B), .long (tg B)]]) Z (qX2_rowAt E x rw ln t1 t2 nb dn RF j o hj hnb hr) iX2_rowAt gX2_same_X2_rowAt ⟨rfl, rfl⟩ ⟨Nat.le_of_ble_eq_true rfl, Nat.le_of_ble_eq_true rfl⟩ dX2_same_2 rfl rfl (Nat.le_of_ble_eq_true rfl) ⟨Nat.zero_le _, Nat.zero_le _⟩ [0, 1] rfl rfl 0 rfl rfl rfl rfl rfl ?_
      refine g_astore (lv' := [(4, .ref o), (0, .ref x), (1, .int (nI j)), (2, .int c), (3, .int way)]) Z dX2_same_5 (by decide) rfl ?_
      refine g_aload_n Z dX2_same_7 1 rfl rfl ?_
      refine g_iload_n Z dX2_same_8 3 rfl rfl ?_
      refine g_callVx (w' := [cO x 2 [.ref rw, .int (nI nb), .ref ln, .int (nI dn), .ref t1, .ref t2], cQ E rw 4 RF, cI E ln 12 D, cO t1 1 [.long (ta A), .long (tb A), .long (tc A), .long (td A), .long (te A), .long (tf A), .long (tg A)], cO t2 1 [.long (ta B), .long (tb B), .long (tc B), .long (td B), .long (te B), .long (tf B), .long (tg B)]]) Z (qX2_rowAtO E x rw ln t1 t2 nb dn RF c hnb hc) iX2_rowAt gX2_same_X2_rowAt ⟨rfl, rfl⟩ ⟨Nat.le_of_ble_eq_true rfl, Nat.le_of_ble_eq_true rfl⟩ dX2_same_9 rfl rfl (Nat.le_of_ble_eq_true rfl) ⟨Nat.zero_le _, Nat.zero_le _⟩ [0, 1] rfl rfl 0 rfl rfl rfl rfl rfl ?_
      refine g_astoreN (lv' := [(5, .null), (4, .ref o), (0, .ref x), (1, .int (nI j)), (2, .int c), (3, .int way)]) Z dX2_same_12 (by decide) rfl ?_
      refine g_aload Z dX2_same_14 1 rfl ?_
      refine g_ifnull Z dX2_same_16 ?_
      refine g_aloadN Z dX2_same_19 0 rfl ?_
      refine g_ifnullN (tgt := 31) Z dX2_same_21 (by decide) ?_
      refine g_iconst Z dX2_same_31 zi_m1 ?_
      exact g_iret Z dX2_same_32 rfl ⟨Nat.zero_le _, Nat.zero_le _⟩ ⟨rfl, rfl⟩
  · by_cases hc : inB nb c
    · obtain ⟨q, hq, rfl⟩ := inB_of hc
      obtain ⟨o2, hr2⟩ := hR q hq
      refine g_aload_n Z dX2_same_0 0 rfl rfl ?_
      refine g_iload_n Z dX2_same_1 1 rfl rfl ?_
      refine g_callVx (w' := [cO x 2 [.ref rw, .int (nI nb), .ref ln, .int (nI dn), .ref t1, .ref t2], cQ E rw 4 RF, cI E ln 12 D, cO t1 1 [.long (ta A), .long (tb A), .long (tc A), .long (td A), .long (te A), .long (tf A), .long (tg A)], cO t2 1 [.long (ta B), .long (tb B), .long (tc B), .long (td B), .long (te B), .long (tf B), .long (tg B)]]) Z (qX2_rowAtO E x rw ln t1 t2 nb dn RF b hnb hb) iX2_rowAt gX2_same_X2_rowAt ⟨rfl, rfl⟩ ⟨Nat.le_of_ble_eq_true rfl, Nat.le_of_ble_eq_true rfl⟩ dX2_same_2 rfl rfl (Nat.le_of_ble_eq_true rfl) ⟨Nat.zero_le _, Nat.zero_le _⟩ [0, 1] rfl rfl 0 rfl rfl rfl rfl rfl ?_
      refine g_astoreN (lv' := [(4, .null), (0, .ref x), (1, .int b), (2, .int (nI q)), (3, .int way)]) Z dX2_same_5 (by decide) rfl ?_
      refine g_aload_n Z dX2_same_7 1 rfl rfl ?_
      refine g_iload_n Z dX2_same_8 3 rfl rfl ?_
      refine g_callVx (w' := [cO x 2 [.ref rw, .int (nI nb), .ref ln, .int (nI dn), .ref t1, .ref t2], cQ E rw 4 RF, cI E ln 12 D, cO t1 1 [.long (ta A), .long (tb A), .long (tc A), .long (td A), .long (te A), .long (tf A), .long (tg A)], cO t2 1 [.long (ta B), .long (tb B), .long (tc B), .long (td B), .long (te B), .long (tf B), .long (tg B)]]) Z (qX2_rowAt E x rw ln t1 t2 nb dn RF q o2 hq hnb hr2) iX2_rowAt gX2_same_X2_rowAt ⟨rfl, rfl⟩ ⟨Nat.le_of_ble_eq_true rfl, Nat.le_of_ble_eq_true rfl⟩ dX2_same_9 rfl rfl (Nat.le_of_ble_eq_true rfl) ⟨Nat.zero_le _, Nat.zero_le _⟩ [0, 1] rfl rfl 0 rfl rfl rfl rfl rfl ?_
      refine g_astore (lv' := [(5, .ref o2), (4, .null), (0, .ref x), (1, .int b), (2, .int (nI q)), (3, .int way)]) Z dX2_same_12 (by decide) rfl ?_
      refine g_aloadN Z dX2_same_14 1 rfl ?_
      refine g_ifnullN (tgt := 31) Z dX2_same_16 (by decide) ?_
      refine g_iconst Z dX2_same_31 zi_m1 ?_
      exact g_iret Z dX2_same_32 rfl ⟨Nat.zero_le _, Nat.zero_le _⟩ ⟨rfl, rfl⟩
    · refine g_aload_n Z dX2_same_0 0 rfl rfl ?_
      refine g_iload_n Z dX2_same_1 1 rfl rfl ?_
      refine g_callVx (w' := [cO x 2 [.ref rw, .int (nI nb), .ref ln, .int (nI dn), .ref t1, .ref t2], cQ E rw 4 RF, cI E ln 12 D, cO t1 1 [.long (ta A), .long (tb A), .long (tc A), .long (td A), .long (te A), .long (tf A), .long (tg A)], cO t2 1 [.long (ta B), .long (tb B), .long (tc B), .long (td B), .long (te B), .long (tf B), .long (tg B)]]) Z (qX2_rowAtO E x rw ln t1 t2 nb dn RF b hnb hb) iX2_rowAt gX2_same_X2_rowAt ⟨rfl, rfl⟩ ⟨Nat.le_of_ble_eq_true rfl, Nat.le_of_ble_eq_true rfl⟩ dX2_same_2 rfl rfl (Nat.le_of_ble_eq_true rfl) ⟨Nat.zero_le _, Nat.zero_le _⟩ [0, 1] rfl rfl 0 rfl rfl rfl rfl rfl ?_
      refine g_astoreN (lv' := [(4, .null), (0, .ref x), (1, .int b), (2, .int c), (3, .int way)]) Z dX2_same_5 (by decide) rfl ?_
      refine g_aload_n Z dX2_same_7 1 rfl rfl ?_
      refine g_iload_n Z dX2_same_8 3 rfl rfl ?_
      refine g_callVx (w' := [cO x 2 [.ref rw, .int (nI nb), .ref ln, .int (nI dn), .ref t1, .ref t2], cQ E rw 4 RF, cI E ln 12 D, cO t1 1 [.long (ta A), .long (tb A), .long (tc A), .long (td A), .long (te A), .long (tf A), .long (tg A)], cO t2 1 [.long (ta B), .long (tb B), .long (tc B), .long (td B), .long (te B), .long (tf B), .long (tg B)]]) Z (qX2_rowAtO E x rw ln t1 t2 nb dn RF c hnb hc) iX2_rowAt gX2_same_X2_rowAt ⟨rfl, rfl⟩ ⟨Nat.le_of_ble_eq_true rfl, Nat.le_of_ble_eq_true rfl⟩ dX2_same_9 rfl rfl (Nat.le_of_ble_eq_true rfl) ⟨Nat.zero_le _, Nat.zero_le _⟩ [0, 1] rfl rfl 0 rfl rfl rfl rfl rfl ?_
      refine g_astoreN (lv' := [(5, .null), (4, .null), (0, .ref x), (1, .int b), (2, .int c), (3, .int way)]) Z dX2_same_12 (by decide) rfl ?_
      refine g_aloadN Z dX2_same_14 1 rfl ?_
      refine g_ifnullN (tgt := 31) Z dX2_same_16 (by decide) ?_
      refine g_iconst Z dX2_same_31 zi_m1 ?_
      exact g_iret Z dX2_same_32 rfl ⟨Nat.zero_le _, Nat.zero_le _⟩ ⟨rfl, rfl⟩

theorem nX2_same_X2 : ∀ w ∈ wsX20, w ∈ wsX2_same := by decide +kernel
theorem fX2_same_31 : Cond.fieldLink RX2 31 (TX2 4).1 (TX2 4).2.1 (TX2 4).2.2.1 ∈ wsX2_same := by decide +kernel
theorem fX2_same_35 : Cond.fieldLink RX2 35 (TX2 5).1 (TX2 5).2.1 (TX2 5).2.2.1 ∈ wsX2_same := by decide +kernel
theorem nX2_same_X1 : ∀ w ∈ wsX10, w ∈ wsX2_same := by decide +kernel
theorem fX2_same_101 : Cond.fieldLink RX2 101 (TX1 6).1 (TX1 6).2.1 (TX1 6).2.2.1 ∈ wsX2_same := by decide +kernel
set_option maxHeartbeats 4000000 in
set_option maxRecDepth 100000 in
theorem lX2_same (E : zE) (x rw ln t1 t2 : Nat) (nb dn : Nat) (RF : Nat → Option Nat) (D : Nat → Int32) (A B : TB) (o k f s : Nat) (K F G : Nat → Int32) (z : Nat) (o2 k2 f2 s2 : Nat) (K2 F2 G2 : Nat → Int32) (z2 : Nat) (j j2 : Nat) (way : Int32) (hnb : nb ≤ 4) (hj : j < nb) (hr : RF j = some o) (hz : z ≤ 8) (hj2 : j2 < nb) (hr2 : RF j2 = some o2) (hz2 : z2 ≤ 8) (hw : way = 0 ∨ way = 1) {J : zJ} (Z : zOk E J RX2 cX2_same 7 (some .int) wsX2_same rX2_same "same" (fun _ => True) (fun ov wv => ov = some (.int (samXR (tabX K F G way z) (tabX K2 F2 G2 way z2))) ∧ ∃ A2 B2 : TB, wv = [cO x 2 [.ref rw, .int (nI nb), .ref ln, .int (nI dn), .ref t1, .ref t2], cQ E rw 4 RF, cI E ln 12 D, cO t1 1 [.long (ta A2), .long (tb A2), .long (tc A2), .long (td A2), .long (te A2), .long (tf A2), .long (tg A2)], cO t2 1 [.long (ta B2), .long (tb B2), .long (tc B2), .long (td B2), .long (te B2), .long (tf B2), .long (tg B2)], cO o 0 [.ref k, .ref f, .ref s, .int (nI z)], cI E k 8 K, cI E f 8 F, cI E s 8 G, cO o2 0 [.ref k2, .ref f2, .ref s2, .int (nI z2)], cI E k2 8 K2, cI E f2 8 F2, cI E s2 8 G2])) (C C2 : TB) : ∀ (d : Nat) (q : Nat), q + d = 6 → samX C C2 q d = samXR (tabX K F G way z) (tabX K2 F2 G2 way z2) → J 0 0 [cO x 2 [.ref rw, .int (nI nb), .ref ln, .int (nI dn), .ref t1, .ref t2], cQ E rw 4 RF, cI E ln 12 D, cO t1 1 [.long (ta C), .long (tb C), .long (tc C), .long (td C), .long (te C), .long (tf C), .long (tg C)], cO t2 1 [.long (ta C2), .long (tb C2), .long (tc C2), .long (td C2), .long (te C2), .long (tf C2), .long (tg C2)], cO o 0 [.ref k, .ref f, .ref s, .int (nI z)], cI E k 8 K, cI E f 8 F, cI E s 8 G, cO o2 0 [.ref k2, .ref f2, .ref s2, .int (nI z2)], cI E k2 8 K2, cI E f2 8 F2, cI E s2 8 G2] 56 [(6, .int (nI q)), (0, .ref x), (1, .int (nI j)), (2, .int (nI j2)), (3, .int way)] [] := by
  intro d
  induction d with
  | zero =>
    intro q h1 h2
    refine g_iload Z dX2_same_56 0 rfl ?_
    refine g_bipush Z dX2_same_58 zb_6 ?_
    refine g_icmpN_ge (tgt := 109) Z dX2_same_60 (by decide) q 6 rfl rfl (by omega) (by omega) (fun c_60 => ?_) (fun c_60 => absurd c_60 (by omega))
    refine g_iconst Z dX2_same_109 zi_1 ?_
    exact g_iret Z dX2_same_110 rfl ⟨Nat.zero_le _, Nat.zero_le _⟩ ⟨by rw [← h2]; rfl, _, _, rfl⟩
  | succ d ih =>
    intro q h1 h2
    refine g_iload Z dX2_same_56 0 rfl ?_
    refine g_bipush Z dX2_same_58 zb_6 ?_
    refine g_icmpN_ge (tgt := 109) Z dX2_same_60 (by decide) q 6 rfl rfl (by omega) (by omega) (fun c_60 => absurd c_60 (by omega)) (fun c_60 => ?_)
    refine g_aload_n Z dX2_same_63 1 rfl rfl ?_
    refine g_get Z dX2_same_64 0 rfl rfl nX2_same_X2 4 (by decide) fX2_same_31 rfl ?_
    refine g_iload Z dX2_same_67 0 rfl ?_
    refine g_callVx (w' := [cO x 2 [.ref rw, .int (nI nb), .ref ln, .int (nI dn), .ref t1, .ref t2], cQ E rw 4 RF, cI E ln 12 D, cO t1 1 [.long (ta C), .long (tb C), .long (tc C), .long (td C), .long (te C), .long (tf C), .long (tg C)], cO t2 1 [.long (ta C2), .long (tb C2), .long (tc C2), .long (td C2), .long (te C2), .long (tf C2), .long (tg C2)], cO o 0 [.ref k, .ref f, .ref s, .int (nI z)], cI E k 8 K, cI E f 8 F, cI E s 8 G, cO o2 0 [.ref k2, .ref f2, .ref s2, .int (nI z2)], cI E k2 8 K2, cI E f2 8 F2, cI E s2 8 G2]) Z (qX1_above E t1 C (nI q)) iX1_above gX2_same_X1_above ⟨rfl, rfl⟩ ⟨Nat.le_of_ble_eq_true rfl, Nat.le_of_ble_eq_true rfl⟩ dX2_same_69 rfl rfl (Nat.le_of_ble_eq_true rfl) ⟨Nat.zero_le _, Nat.zero_le _⟩ [3] rfl rfl 0 rfl rfl rfl rfl rfl ?_
    refine g_aload_n Z dX2_same_72 1 rfl rfl ?_
    refine g_get Z dX2_same_73 0 rfl rfl nX2_same_X2 5 (by decide) fX2_same_35 rfl ?_
    refine g_get Z dX2_same_76 4 rfl rfl nX2_same_X1 6 (by decide) fX2_same_101 rfl ?_
    refine g_lmul Z dX2_same_79 ?_
    refine g_aload_n Z dX2_same_80 1 rfl rfl ?_
    refine g_get Z dX2_same_81 0 rfl rfl nX2_same_X2 5 (by decide) fX2_same_35 rfl ?_
    refine g_iload Z dX2_same_84 0 rfl ?_
    refine g_callVx (w' := [cO x 2 [.ref rw, .int (nI nb), .ref ln, .int (nI dn), .ref t1, .ref t2], cQ E rw 4 RF, cI E ln 12 D, cO t1 1 [.long (ta C), .long (tb C), .long (tc C), .long (td C), .long (te C), .long (tf C), .long (tg C)], cO t2 1 [.long (ta C2), .long (tb C2), .long (tc C2), .long (td C2), .long (te C2), .long (tf C2), .long (tg C2)], cO o 0 [.ref k, .ref f, .ref s, .int (nI z)], cI E k 8 K, cI E f 8 F, cI E s 8 G, cO o2 0 [.ref k2, .ref f2, .ref s2, .int (nI z2)], cI E k2 8 K2, cI E f2 8 F2, cI E s2 8 G2]) Z (qX1_above E t2 C2 (nI q)) iX1_above gX2_same_X1_above ⟨rfl, rfl⟩ ⟨Nat.le_of_ble_eq_true rfl, Nat.le_of_ble_eq_true rfl⟩ dX2_same_86 rfl rfl (Nat.le_of_ble_eq_true rfl) ⟨Nat.zero_le _, Nat.zero_le _⟩ [4] rfl rfl 0 rfl rfl rfl rfl rfl ?_
    refine g_aload_n Z dX2_same_89 1 rfl rfl ?_
    refine g_get Z dX2_same_90 0 rfl rfl nX2_same_X2 4 (by decide) fX2_same_31 rfl ?_
    refine g_get Z dX2_same_93 3 rfl rfl nX2_same_X1 6 (by decide) fX2_same_101 rfl ?_
    refine g_lmul Z dX2_same_96 ?_
    refine g_lcmp_eq (tgt := 103) Z dX2_same_97 dX2_same_98 rfl (by decide) (fun c_98 => ?_) (fun c_98 => ?_)
    · refine g_iinc (lv' := [(6, .int (nI (q + 1))), (0, .ref x), (1, .int (nI j)), (2, .int (nI j2)), (3, .int way)]) Z dX2_same_103 0 rfl (zinc _) (by decide) rfl ?_
      refine g_goto (tgt := 56) Z dX2_same_106 (by decide) ?_
      rw [samX, if_pos c_98] at h2
      refine g_lv (lv2 := [(6, .int (nI (q + 1))), (0, .ref x), (1, .int (nI j)), (2, .int (nI j2)), (3, .int way)]) Z [0, 1, 2, 3, 4] rfl ?_
      exact ih (q + 1) (by omega) h2
    · rw [samX, if_neg c_98] at h2
      refine g_iconst Z dX2_same_101 zi_0 ?_
      exact g_iret Z dX2_same_102 rfl ⟨Nat.zero_le _, Nat.zero_le _⟩ ⟨by rw [← h2], _, _, rfl⟩
set_option maxHeartbeats 4000000 in
set_option maxRecDepth 100000 in
theorem qX2_same (E : zE) (x rw ln t1 t2 : Nat) (nb dn : Nat) (RF : Nat → Option Nat) (D : Nat → Int32) (A B : TB) (o k f s : Nat) (K F G : Nat → Int32) (z : Nat) (o2 k2 f2 s2 : Nat) (K2 F2 G2 : Nat → Int32) (z2 : Nat) (j j2 : Nat) (way : Int32) (hnb : nb ≤ 4) (hj : j < nb) (hr : RF j = some o) (hz : z ≤ 8) (hj2 : j2 < nb) (hr2 : RF j2 = some o2) (hz2 : z2 ≤ 8) (hw : way = 0 ∨ way = 1) : zF E yX2_same wsX2_same rX2_same [.ref x, .int (nI j), .int (nI j2), .int way] [cO x 2 [.ref rw, .int (nI nb), .ref ln, .int (nI dn), .ref t1, .ref t2], cQ E rw 4 RF, cI E ln 12 D, cO t1 1 [.long (ta A), .long (tb A), .long (tc A), .long (td A), .long (te A), .long (tf A), .long (tg A)], cO t2 1 [.long (ta B), .long (tb B), .long (tc B), .long (td B), .long (te B), .long (tf B), .long (tg B)], cO o 0 [.ref k, .ref f, .ref s, .int (nI z)], cI E k 8 K, cI E f 8 F, cI E s 8 G, cO o2 0 [.ref k2, .ref f2, .ref s2, .int (nI z2)], cI E k2 8 K2, cI E f2 8 F2, cI E s2 8 G2] (fun ov wv => ov = some (.int (samXR (tabX K F G way z) (tabX K2 F2 G2 way z2))) ∧ ∃ A2 B2 : TB, wv = [cO x 2 [.ref rw, .int (nI nb), .ref ln, .int (nI dn), .ref t1, .ref t2], cQ E rw 4 RF, cI E ln 12 D, cO t1 1 [.long (ta A2), .long (tb A2), .long (tc A2), .long (td A2), .long (te A2), .long (tf A2), .long (tg A2)], cO t2 1 [.long (ta B2), .long (tb B2), .long (tc B2), .long (td B2), .long (te B2), .long (tf B2), .long (tg B2)], cO o 0 [.ref k, .ref f, .ref s, .int (nI z)], cI E k 8 K, cI E f 8 F, cI E s 8 G, cO o2 0 [.ref k2, .ref f2, .ref s2, .int (nI z2)], cI E k2 8 K2, cI E f2 8 F2, cI E s2 8 G2]) := by
  refine z_start RX2 "same" (by decide) rfl rfl rfl (Nat.le_of_ble_eq_true rfl) ?_
  intro J Z
  refine g_eq Z (lv2 := [(0, .ref x), (1, .int (nI j)), (2, .int (nI j2)), (3, .int way)]) rfl rfl rfl ?_
  refine g_aload_n Z dX2_same_0 0 rfl rfl ?_
  refine g_iload_n Z dX2_same_1 1 rfl rfl ?_
  refine g_callVx (w' := [cO x 2 [.ref rw, .int (nI nb), .ref ln, .int (nI dn), .ref t1, .ref t2], cQ E rw 4 RF, cI E ln 12 D, cO t1 1 [.long (ta A), .long (tb A), .long (tc A), .long (td A), .long (te A), .long (tf A), .long (tg A)], cO t2 1 [.long (ta B), .long (tb B), .long (tc B), .long (td B), .long (te B), .long (tf B), .long (tg B)], cO o 0 [.ref k, .ref f, .ref s, .int (nI z)], cI E k 8 K, cI E f 8 F, cI E s 8 G, cO o2 0 [.ref k2, .ref f2, .ref s2, .int (nI z2)], cI E k2 8 K2, cI E f2 8 F2, cI E s2 8 G2]) Z (qX2_rowAt E x rw ln t1 t2 nb dn RF j o hj hnb hr) iX2_rowAt gX2_same_X2_rowAt ⟨rfl, rfl⟩ ⟨Nat.le_of_ble_eq_true rfl, Nat.le_of_ble_eq_true rfl⟩ dX2_same_2 rfl rfl (Nat.le_of_ble_eq_true rfl) ⟨Nat.zero_le _, Nat.zero_le _⟩ [0, 1] rfl rfl 0 rfl rfl rfl rfl rfl ?_
  refine g_astore (lv' := [(4, .ref o), (0, .ref x), (1, .int (nI j)), (2, .int (nI j2)), (3, .int way)]) Z dX2_same_5 (by decide) rfl ?_
  refine g_aload_n Z dX2_same_7 1 rfl rfl ?_
  refine g_iload_n Z dX2_same_8 3 rfl rfl ?_
  refine g_callVx (w' := [cO x 2 [.ref rw, .int (nI nb), .ref ln, .int (nI dn), .ref t1, .ref t2], cQ E rw 4 RF, cI E ln 12 D, cO t1 1 [.long (ta A), .long (tb A), .long (tc A), .long (td A), .long (te A), .long (tf A), .long (tg A)], cO t2 1 [.long (ta B), .long (tb B), .long (tc B), .long (td B), .long (te B), .long (tf B), .long (tg B)], cO o 0 [.ref k, .ref f, .ref s, .int (nI z)], cI E k 8 K, cI E f 8 F, cI E s 8 G, cO o2 0 [.ref k2, .ref f2, .ref s2, .int (nI z2)], cI E k2 8 K2, cI E f2 8 F2, cI E s2 8 G2]) Z (qX2_rowAt E x rw ln t1 t2 nb dn RF j2 o2 hj2 hnb hr2) iX2_rowAt gX2_same_X2_rowAt ⟨rfl, rfl⟩ ⟨Nat.le_of_ble_eq_true rfl, Nat.le_of_ble_eq_true rfl⟩ dX2_same_9 rfl rfl (Nat.le_of_ble_eq_true rfl) ⟨Nat.zero_le _, Nat.zero_le _⟩ [0, 1] rfl rfl 0 rfl rfl rfl rfl rfl ?_
  refine g_astore (lv' := [(5, .ref o2), (4, .ref o), (0, .ref x), (1, .int (nI j)), (2, .int (nI j2)), (3, .int way)]) Z dX2_same_12 (by decide) rfl ?_
  refine g_aload Z dX2_same_14 1 rfl ?_
  refine g_ifnull Z dX2_same_16 ?_
  refine g_aload Z dX2_same_19 0 rfl ?_
  refine g_ifnull Z dX2_same_21 ?_
  refine g_iload_n Z dX2_same_24 5 rfl rfl ?_
  refine g_callSx (w' := [cO x 2 [.ref rw, .int (nI nb), .ref ln, .int (nI dn), .ref t1, .ref t2], cQ E rw 4 RF, cI E ln 12 D, cO t1 1 [.long (ta A), .long (tb A), .long (tc A), .long (td A), .long (te A), .long (tf A), .long (tg A)], cO t2 1 [.long (ta B), .long (tb B), .long (tc B), .long (td B), .long (te B), .long (tf B), .long (tg B)], cO o 0 [.ref k, .ref f, .ref s, .int (nI z)], cI E k 8 K, cI E f 8 F, cI E s 8 G, cO o2 0 [.ref k2, .ref f2, .ref s2, .int (nI z2)], cI E k2 8 K2, cI E f2 8 F2, cI E s2 8 G2]) Z (qX2_isEither E way) iX2_isEither gX2_same_X2_isEither ⟨rfl, rfl⟩ ⟨Nat.le_of_ble_eq_true rfl, Nat.le_of_ble_eq_true rfl⟩ dX2_same_25 rfl rfl (Nat.le_of_ble_eq_true rfl) ⟨Nat.zero_le _, Nat.zero_le _⟩ [] rfl rfl rfl rfl ?_
  refine g_ifb_ne (tgt := 33) Z dX2_same_28 (by decide) (fun c_28 => ?_) (fun c_28 => absurd c_28 (fun q => q hw))
  refine g_aload_n Z dX2_same_33 2 rfl rfl ?_
  refine g_get Z dX2_same_34 0 rfl rfl nX2_same_X2 4 (by decide) fX2_same_31 rfl ?_
  refine g_aload Z dX2_same_37 1 rfl ?_
  refine g_iload_n Z dX2_same_39 5 rfl rfl ?_
  refine g_callVx (w' := [cO x 2 [.ref rw, .int (nI nb), .ref ln, .int (nI dn), .ref t1, .ref t2], cQ E rw 4 RF, cI E ln 12 D, cO t1 1 [.long (ta (tabX K F G way z)), .long (tb (tabX K F G way z)), .long (tc (tabX K F G way z)), .long (td (tabX K F G way z)), .long (te (tabX K F G way z)), .long (tf (tabX K F G way z)), .long (tg (tabX K F G way z))], cO t2 1 [.long (ta B), .long (tb B), .long (tc B), .long (td B), .long (te B), .long (tf B), .long (tg B)], cO o 0 [.ref k, .ref f, .ref s, .int (nI z)], cI E k 8 K, cI E f 8 F, cI E s 8 G, cO o2 0 [.ref k2, .ref f2, .ref s2, .int (nI z2)], cI E k2 8 K2, cI E f2 8 F2, cI E s2 8 G2]) Z (qX1_leadThroughT E t1 o k f s K F G A way z (by omega)) iX1_leadThrough gX2_same_X1_leadThrough ⟨rfl, rfl⟩ ⟨Nat.le_of_ble_eq_true rfl, Nat.le_of_ble_eq_true rfl⟩ dX2_same_40 rfl rfl (Nat.le_of_ble_eq_true rfl) ⟨Nat.zero_le _, Nat.zero_le _⟩ [3, 5, 6, 7, 8] rfl rfl 0 rfl rfl rfl rfl rfl ?_
  obtain ⟨C, e_C⟩ : ∃ Y : TB, tabX K F G way z = Y := ⟨_, rfl⟩
  rw [e_C]
  refine g_aload_n Z dX2_same_43 2 rfl rfl ?_
  refine g_get Z dX2_same_44 0 rfl rfl nX2_same_X2 5 (by decide) fX2_same_35 rfl ?_
  refine g_aload Z dX2_same_47 0 rfl ?_
  refine g_iload_n Z dX2_same_49 5 rfl rfl ?_
  refine g_callVx (w' := [cO x 2 [.ref rw, .int (nI nb), .ref ln, .int (nI dn), .ref t1, .ref t2], cQ E rw 4 RF, cI E ln 12 D, cO t1 1 [.long (ta C), .long (tb C), .long (tc C), .long (td C), .long (te C), .long (tf C), .long (tg C)], cO t2 1 [.long (ta (tabX K2 F2 G2 way z2)), .long (tb (tabX K2 F2 G2 way z2)), .long (tc (tabX K2 F2 G2 way z2)), .long (td (tabX K2 F2 G2 way z2)), .long (te (tabX K2 F2 G2 way z2)), .long (tf (tabX K2 F2 G2 way z2)), .long (tg (tabX K2 F2 G2 way z2))], cO o 0 [.ref k, .ref f, .ref s, .int (nI z)], cI E k 8 K, cI E f 8 F, cI E s 8 G, cO o2 0 [.ref k2, .ref f2, .ref s2, .int (nI z2)], cI E k2 8 K2, cI E f2 8 F2, cI E s2 8 G2]) Z (qX1_leadThroughT E t2 o2 k2 f2 s2 K2 F2 G2 B way z2 (by omega)) iX1_leadThrough gX2_same_X1_leadThrough ⟨rfl, rfl⟩ ⟨Nat.le_of_ble_eq_true rfl, Nat.le_of_ble_eq_true rfl⟩ dX2_same_50 rfl rfl (Nat.le_of_ble_eq_true rfl) ⟨Nat.zero_le _, Nat.zero_le _⟩ [4, 9, 10, 11, 12] rfl rfl 0 rfl rfl rfl rfl rfl ?_
  obtain ⟨C2, e_C2⟩ : ∃ Y : TB, tabX K2 F2 G2 way z2 = Y := ⟨_, rfl⟩
  rw [e_C2]
  refine g_iconst Z dX2_same_53 zi_0 ?_
  refine g_istore (lv' := [(6, .int 0), (5, .ref o2), (4, .ref o), (0, .ref x), (1, .int (nI j)), (2, .int (nI j2)), (3, .int way)]) Z dX2_same_54 (by decide) rfl ?_
  refine g_lv (lv2 := [(6, .int 0), (0, .ref x), (1, .int (nI j)), (2, .int (nI j2)), (3, .int way)]) Z [0, 3, 4, 5, 6] rfl ?_
  exact lX2_same E x rw ln t1 t2 nb dn RF D A B o k f s K F G z o2 k2 f2 s2 K2 F2 G2 z2 j j2 way hnb hj hr hz hj2 hr2 hz2 hw Z C C2 6 0 rfl (by rw [← e_C, ← e_C2]; rfl)

set_option maxHeartbeats 4000000 in
set_option maxRecDepth 100000 in
theorem lX2_sameS (E : zE) (x rw ln t1 t2 : Nat) (nb dn : Nat) (RF : Nat → Option Nat) (D : Nat → Int32) (A B : TB) (o k f s : Nat) (K F G : Nat → Int32) (z : Nat) (j : Nat) (way : Int32) (hnb : nb ≤ 4) (hj : j < nb) (hr : RF j = some o) (hz : z ≤ 8) (hw : way = 0 ∨ way = 1) {J : zJ} (Z : zOk E J RX2 cX2_same 7 (some .int) wsX2_same rX2_same "same" (fun _ => True) (fun ov wv => ov = some (.int (samXR (tabX K F G way z) (tabX K F G way z))) ∧ ∃ A2 B2 : TB, wv = [cO x 2 [.ref rw, .int (nI nb), .ref ln, .int (nI dn), .ref t1, .ref t2], cQ E rw 4 RF, cI E ln 12 D, cO t1 1 [.long (ta A2), .long (tb A2), .long (tc A2), .long (td A2), .long (te A2), .long (tf A2), .long (tg A2)], cO t2 1 [.long (ta B2), .long (tb B2), .long (tc B2), .long (td B2), .long (te B2), .long (tf B2), .long (tg B2)], cO o 0 [.ref k, .ref f, .ref s, .int (nI z)], cI E k 8 K, cI E f 8 F, cI E s 8 G])) (C C2 : TB) : ∀ (d : Nat) (q : Nat), q + d = 6 → samX C C2 q d = samXR (tabX K F G way z) (tabX K F G way z) → J 0 0 [cO x 2 [.ref rw, .int (nI nb), .ref ln, .int (nI dn), .ref t1, .ref t2], cQ E rw 4 RF, cI E ln 12 D, cO t1 1 [.long (ta C), .long (tb C), .long (tc C), .long (td C), .long (te C), .long (tf C), .long (tg C)], cO t2 1 [.long (ta C2), .long (tb C2), .long (tc C2), .long (td C2), .long (te C2), .long (tf C2), .long (tg C2)], cO o 0 [.ref k, .ref f, .ref s, .int (nI z)], cI E k 8 K, cI E f 8 F, cI E s 8 G] 56 [(6, .int (nI q)), (0, .ref x), (1, .int (nI j)), (2, .int (nI j)), (3, .int way)] [] := by
  intro d
  induction d with
  | zero =>
    intro q h1 h2
    refine g_iload Z dX2_same_56 0 rfl ?_
    refine g_bipush Z dX2_same_58 zb_6 ?_
    refine g_icmpN_ge (tgt := 109) Z dX2_same_60 (by decide) q 6 rfl rfl (by omega) (by omega) (fun c_60 => ?_) (fun c_60 => absurd c_60 (by omega))
    refine g_iconst Z dX2_same_109 zi_1 ?_
    exact g_iret Z dX2_same_110 rfl ⟨Nat.zero_le _, Nat.zero_le _⟩ ⟨by rw [← h2]; rfl, _, _, rfl⟩
  | succ d ih =>
    intro q h1 h2
    refine g_iload Z dX2_same_56 0 rfl ?_
    refine g_bipush Z dX2_same_58 zb_6 ?_
    refine g_icmpN_ge (tgt := 109) Z dX2_same_60 (by decide) q 6 rfl rfl (by omega) (by omega) (fun c_60 => absurd c_60 (by omega)) (fun c_60 => ?_)
    refine g_aload_n Z dX2_same_63 1 rfl rfl ?_
    refine g_get Z dX2_same_64 0 rfl rfl nX2_same_X2 4 (by decide) fX2_same_31 rfl ?_
    refine g_iload Z dX2_same_67 0 rfl ?_
    refine g_callVx (w' := [cO x 2 [.ref rw, .int (nI nb), .ref ln, .int (nI dn), .ref t1, .ref t2], cQ E rw 4 RF, cI E ln 12 D, cO t1 1 [.long (ta C), .long (tb C), .long (tc C), .long (td C), .long (te C), .long (tf C), .long (tg C)], cO t2 1 [.long (ta C2), .long (tb C2), .long (tc C2), .long (td C2), .long (te C2), .long (tf C2), .long (tg C2)], cO o 0 [.ref k, .ref f, .ref s, .int (nI z)], cI E k 8 K, cI E f 8 F, cI E s 8 G]) Z (qX1_above E t1 C (nI q)) iX1_above gX2_same_X1_above ⟨rfl, rfl⟩ ⟨Nat.le_of_ble_eq_true rfl, Nat.le_of_ble_eq_true rfl⟩ dX2_same_69 rfl rfl (Nat.le_of_ble_eq_true rfl) ⟨Nat.zero_le _, Nat.zero_le _⟩ [3] rfl rfl 0 rfl rfl rfl rfl rfl ?_
    refine g_aload_n Z dX2_same_72 1 rfl rfl ?_
    refine g_get Z dX2_same_73 0 rfl rfl nX2_same_X2 5 (by decide) fX2_same_35 rfl ?_
    refine g_get Z dX2_same_76 4 rfl rfl nX2_same_X1 6 (by decide) fX2_same_101 rfl ?_
    refine g_lmul Z dX2_same_79 ?_
    refine g_aload_n Z dX2_same_80 1 rfl rfl ?_
    refine g_get Z dX2_same_81 0 rfl rfl nX2_same_X2 5 (by decide) fX2_same_35 rfl ?_
    refine g_iload Z dX2_same_84 0 rfl ?_
    refine g_callVx (w' := [cO x 2 [.ref rw, .int (nI nb), .ref ln, .int (nI dn), .ref t1, .ref t2], cQ E rw 4 RF, cI E ln 12 D, cO t1 1 [.long (ta C), .long (tb C), .long (tc C), .long (td C), .long (te C), .long (tf C), .long (tg C)], cO t2 1 [.long (ta C2), .long (tb C2), .long (tc C2), .long (td C2), .long (te C2), .long (tf C2), .long (tg C2)], cO o 0 [.ref k, .ref f, .ref s, .int (nI z)], cI E k 8 K, cI E f 8 F, cI E s 8 G]) Z (qX1_above E t2 C2 (nI q)) iX1_above gX2_same_X1_above ⟨rfl, rfl⟩ ⟨Nat.le_of_ble_eq_true rfl, Nat.le_of_ble_eq_true rfl⟩ dX2_same_86 rfl rfl (Nat.le_of_ble_eq_true rfl) ⟨Nat.zero_le _, Nat.zero_le _⟩ [4] rfl rfl 0 rfl rfl rfl rfl rfl ?_
    refine g_aload_n Z dX2_same_89 1 rfl rfl ?_
    refine g_get Z dX2_same_90 0 rfl rfl nX2_same_X2 4 (by decide) fX2_same_31 rfl ?_
    refine g_get Z dX2_same_93 3 rfl rfl nX2_same_X1 6 (by decide) fX2_same_101 rfl ?_
    refine g_lmul Z dX2_same_96 ?_
    refine g_lcmp_eq (tgt := 103) Z dX2_same_97 dX2_same_98 rfl (by decide) (fun c_98 => ?_) (fun c_98 => ?_)
    · refine g_iinc (lv' := [(6, .int (nI (q + 1))), (0, .ref x), (1, .int (nI j)), (2, .int (nI j)), (3, .int way)]) Z dX2_same_103 0 rfl (zinc _) (by decide) rfl ?_
      refine g_goto (tgt := 56) Z dX2_same_106 (by decide) ?_
      rw [samX, if_pos c_98] at h2
      refine g_lv (lv2 := [(6, .int (nI (q + 1))), (0, .ref x), (1, .int (nI j)), (2, .int (nI j)), (3, .int way)]) Z [0, 1, 2, 3, 4] rfl ?_
      exact ih (q + 1) (by omega) h2
    · rw [samX, if_neg c_98] at h2
      refine g_iconst Z dX2_same_101 zi_0 ?_
      exact g_iret Z dX2_same_102 rfl ⟨Nat.zero_le _, Nat.zero_le _⟩ ⟨by rw [← h2], _, _, rfl⟩
set_option maxHeartbeats 4000000 in
set_option maxRecDepth 100000 in
theorem qX2_sameS (E : zE) (x rw ln t1 t2 : Nat) (nb dn : Nat) (RF : Nat → Option Nat) (D : Nat → Int32) (A B : TB) (o k f s : Nat) (K F G : Nat → Int32) (z : Nat) (j : Nat) (way : Int32) (hnb : nb ≤ 4) (hj : j < nb) (hr : RF j = some o) (hz : z ≤ 8) (hw : way = 0 ∨ way = 1) : zF E yX2_same wsX2_same rX2_same [.ref x, .int (nI j), .int (nI j), .int way] [cO x 2 [.ref rw, .int (nI nb), .ref ln, .int (nI dn), .ref t1, .ref t2], cQ E rw 4 RF, cI E ln 12 D, cO t1 1 [.long (ta A), .long (tb A), .long (tc A), .long (td A), .long (te A), .long (tf A), .long (tg A)], cO t2 1 [.long (ta B), .long (tb B), .long (tc B), .long (td B), .long (te B), .long (tf B), .long (tg B)], cO o 0 [.ref k, .ref f, .ref s, .int (nI z)], cI E k 8 K, cI E f 8 F, cI E s 8 G] (fun ov wv => ov = some (.int (samXR (tabX K F G way z) (tabX K F G way z))) ∧ ∃ A2 B2 : TB, wv = [cO x 2 [.ref rw, .int (nI nb), .ref ln, .int (nI dn), .ref t1, .ref t2], cQ E rw 4 RF, cI E ln 12 D, cO t1 1 [.long (ta A2), .long (tb A2), .long (tc A2), .long (td A2), .long (te A2), .long (tf A2), .long (tg A2)], cO t2 1 [.long (ta B2), .long (tb B2), .long (tc B2), .long (td B2), .long (te B2), .long (tf B2), .long (tg B2)], cO o 0 [.ref k, .ref f, .ref s, .int (nI z)], cI E k 8 K, cI E f 8 F, cI E s 8 G]) := by
  refine z_start RX2 "same" (by decide) rfl rfl rfl (Nat.le_of_ble_eq_true rfl) ?_
  intro J Z
  refine g_eq Z (lv2 := [(0, .ref x), (1, .int (nI j)), (2, .int (nI j)), (3, .int way)]) rfl rfl rfl ?_
  refine g_aload_n Z dX2_same_0 0 rfl rfl ?_
  refine g_iload_n Z dX2_same_1 1 rfl rfl ?_
  refine g_callVx (w' := [cO x 2 [.ref rw, .int (nI nb), .ref ln, .int (nI dn), .ref t1, .ref t2], cQ E rw 4 RF, cI E ln 12 D, cO t1 1 [.long (ta A), .long (tb A), .long (tc A), .long (td A), .long (te A), .long (tf A), .long (tg A)], cO t2 1 [.long (ta B), .long (tb B), .long (tc B), .long (td B), .long (te B), .long (tf B), .long (tg B)], cO o 0 [.ref k, .ref f, .ref s, .int (nI z)], cI E k 8 K, cI E f 8 F, cI E s 8 G]) Z (qX2_rowAt E x rw ln t1 t2 nb dn RF j o hj hnb hr) iX2_rowAt gX2_same_X2_rowAt ⟨rfl, rfl⟩ ⟨Nat.le_of_ble_eq_true rfl, Nat.le_of_ble_eq_true rfl⟩ dX2_same_2 rfl rfl (Nat.le_of_ble_eq_true rfl) ⟨Nat.zero_le _, Nat.zero_le _⟩ [0, 1] rfl rfl 0 rfl rfl rfl rfl rfl ?_
  refine g_astore (lv' := [(4, .ref o), (0, .ref x), (1, .int (nI j)), (2, .int (nI j)), (3, .int way)]) Z dX2_same_5 (by decide) rfl ?_
  refine g_aload_n Z dX2_same_7 1 rfl rfl ?_
  refine g_iload_n Z dX2_same_8 3 rfl rfl ?_
  refine g_callVx (w' := [cO x 2 [.ref rw, .int (nI nb), .ref ln, .int (nI dn), .ref t1, .ref t2], cQ E rw 4 RF, cI E ln 12 D, cO t1 1 [.long (ta A), .long (tb A), .long (tc A), .long (td A), .long (te A), .long (tf A), .long (tg A)], cO t2 1 [.long (ta B), .long (tb B), .long (tc B), .long (td B), .long (te B), .long (tf B), .long (tg B)], cO o 0 [.ref k, .ref f, .ref s, .int (nI z)], cI E k 8 K, cI E f 8 F, cI E s 8 G]) Z (qX2_rowAt E x rw ln t1 t2 nb dn RF j o hj hnb hr) iX2_rowAt gX2_same_X2_rowAt ⟨rfl, rfl⟩ ⟨Nat.le_of_ble_eq_true rfl, Nat.le_of_ble_eq_true rfl⟩ dX2_same_9 rfl rfl (Nat.le_of_ble_eq_true rfl) ⟨Nat.zero_le _, Nat.zero_le _⟩ [0, 1] rfl rfl 0 rfl rfl rfl rfl rfl ?_
  refine g_astore (lv' := [(5, .ref o), (4, .ref o), (0, .ref x), (1, .int (nI j)), (2, .int (nI j)), (3, .int way)]) Z dX2_same_12 (by decide) rfl ?_
  refine g_aload Z dX2_same_14 1 rfl ?_
  refine g_ifnull Z dX2_same_16 ?_
  refine g_aload Z dX2_same_19 0 rfl ?_
  refine g_ifnull Z dX2_same_21 ?_
  refine g_iload_n Z dX2_same_24 5 rfl rfl ?_
  refine g_callSx (w' := [cO x 2 [.ref rw, .int (nI nb), .ref ln, .int (nI dn), .ref t1, .ref t2], cQ E rw 4 RF, cI E ln 12 D, cO t1 1 [.long (ta A), .long (tb A), .long (tc A), .long (td A), .long (te A), .long (tf A), .long (tg A)], cO t2 1 [.long (ta B), .long (tb B), .long (tc B), .long (td B), .long (te B), .long (tf B), .long (tg B)], cO o 0 [.ref k, .ref f, .ref s, .int (nI z)], cI E k 8 K, cI E f 8 F, cI E s 8 G]) Z (qX2_isEither E way) iX2_isEither gX2_same_X2_isEither ⟨rfl, rfl⟩ ⟨Nat.le_of_ble_eq_true rfl, Nat.le_of_ble_eq_true rfl⟩ dX2_same_25 rfl rfl (Nat.le_of_ble_eq_true rfl) ⟨Nat.zero_le _, Nat.zero_le _⟩ [] rfl rfl rfl rfl ?_
  refine g_ifb_ne (tgt := 33) Z dX2_same_28 (by decide) (fun c_28 => ?_) (fun c_28 => absurd c_28 (fun q => q hw))
  refine g_aload_n Z dX2_same_33 2 rfl rfl ?_
  refine g_get Z dX2_same_34 0 rfl rfl nX2_same_X2 4 (by decide) fX2_same_31 rfl ?_
  refine g_aload Z dX2_same_37 1 rfl ?_
  refine g_iload_n Z dX2_same_39 5 rfl rfl ?_
  refine g_callVx (w' := [cO x 2 [.ref rw, .int (nI nb), .ref ln, .int (nI dn), .ref t1, .ref t2], cQ E rw 4 RF, cI E ln 12 D, cO t1 1 [.long (ta (tabX K F G way z)), .long (tb (tabX K F G way z)), .long (tc (tabX K F G way z)), .long (td (tabX K F G way z)), .long (te (tabX K F G way z)), .long (tf (tabX K F G way z)), .long (tg (tabX K F G way z))], cO t2 1 [.long (ta B), .long (tb B), .long (tc B), .long (td B), .long (te B), .long (tf B), .long (tg B)], cO o 0 [.ref k, .ref f, .ref s, .int (nI z)], cI E k 8 K, cI E f 8 F, cI E s 8 G]) Z (qX1_leadThroughT E t1 o k f s K F G A way z (by omega)) iX1_leadThrough gX2_same_X1_leadThrough ⟨rfl, rfl⟩ ⟨Nat.le_of_ble_eq_true rfl, Nat.le_of_ble_eq_true rfl⟩ dX2_same_40 rfl rfl (Nat.le_of_ble_eq_true rfl) ⟨Nat.zero_le _, Nat.zero_le _⟩ [3, 5, 6, 7, 8] rfl rfl 0 rfl rfl rfl rfl rfl ?_
  obtain ⟨C, e_C⟩ : ∃ Y : TB, tabX K F G way z = Y := ⟨_, rfl⟩
  rw [e_C]
  refine g_aload_n Z dX2_same_43 2 rfl rfl ?_
  refine g_get Z dX2_same_44 0 rfl rfl nX2_same_X2 5 (by decide) fX2_same_35 rfl ?_
  refine g_aload Z dX2_same_47 0 rfl ?_
  refine g_iload_n Z dX2_same_49 5 rfl rfl ?_
  refine g_callVx (w' := [cO x 2 [.ref rw, .int (nI nb), .ref ln, .int (nI dn), .ref t1, .ref t2], cQ E rw 4 RF, cI E ln 12 D, cO t1 1 [.long (ta C), .long (tb C), .long (tc C), .long (td C), .long (te C), .long (tf C), .long (tg C)], cO t2 1 [.long (ta (tabX K F G way z)), .long (tb (tabX K F G way z)), .long (tc (tabX K F G way z)), .long (td (tabX K F G way z)), .long (te (tabX K F G way z)), .long (tf (tabX K F G way z)), .long (tg (tabX K F G way z))], cO o 0 [.ref k, .ref f, .ref s, .int (nI z)], cI E k 8 K, cI E f 8 F, cI E s 8 G]) Z (qX1_leadThroughT E t2 o k f s K F G B way z (by omega)) iX1_leadThrough gX2_same_X1_leadThrough ⟨rfl, rfl⟩ ⟨Nat.le_of_ble_eq_true rfl, Nat.le_of_ble_eq_true rfl⟩ dX2_same_50 rfl rfl (Nat.le_of_ble_eq_true rfl) ⟨Nat.zero_le _, Nat.zero_le _⟩ [4, 5, 6, 7, 8] rfl rfl 0 rfl rfl rfl rfl rfl ?_
  obtain ⟨C2, e_C2⟩ : ∃ Y : TB, tabX K F G way z = Y := ⟨_, rfl⟩
  rw [e_C2]
  refine g_iconst Z dX2_same_53 zi_0 ?_
  refine g_istore (lv' := [(6, .int 0), (5, .ref o), (4, .ref o), (0, .ref x), (1, .int (nI j)), (2, .int (nI j)), (3, .int way)]) Z dX2_same_54 (by decide) rfl ?_
  refine g_lv (lv2 := [(6, .int 0), (0, .ref x), (1, .int (nI j)), (2, .int (nI j)), (3, .int way)]) Z [0, 3, 4, 5, 6] rfl ?_
  exact lX2_sameS E x rw ln t1 t2 nb dn RF D A B o k f s K F G z j way hnb hj hr hz hw Z C C2 6 0 rfl (by rw [← e_C, ← e_C2]; rfl)

abbrev rX2_holdsBothWays : Room := { frames := 4, cells := 0, slots := 0, locals := 96 }
theorem iX2_holdsBothWays : zInfo yX2_holdsBothWays wsX2_holdsBothWays RX2 2 (some .boolean) 1 := ⟨_, _, rfl, by decide +kernel⟩
theorem nX2_holdsBothWays_X2 : ∀ w ∈ wsX20, w ∈ wsX2_holdsBothWays := by decide +kernel
theorem fX2_holdsBothWays_31 : Cond.fieldLink RX2 31 (TX2 4).1 (TX2 4).2.1 (TX2 4).2.2.1 ∈ wsX2_holdsBothWays := by decide +kernel
theorem fX2_holdsBothWays_35 : Cond.fieldLink RX2 35 (TX2 5).1 (TX2 5).2.1 (TX2 5).2.2.1 ∈ wsX2_holdsBothWays := by decide +kernel
set_option maxHeartbeats 4000000 in
set_option maxRecDepth 100000 in
theorem qX2_holdsBothWays (E : zE) (x rw ln t1 t2 : Nat) (nb dn : Nat) (A B : TB) (o k f s : Nat) (K F G : Nat → Int32) (z : Nat) (hz : z ≤ 8) : zF E yX2_holdsBothWays wsX2_holdsBothWays rX2_holdsBothWays [.ref x, .ref o] [cO x 2 [.ref rw, .int (nI nb), .ref ln, .int (nI dn), .ref t1, .ref t2], cO t1 1 [.long (ta A), .long (tb A), .long (tc A), .long (td A), .long (te A), .long (tf A), .long (tg A)], cO t2 1 [.long (ta B), .long (tb B), .long (tc B), .long (td B), .long (te B), .long (tf B), .long (tg B)], cO o 0 [.ref k, .ref f, .ref s, .int (nI z)], cI E k 8 K, cI E f 8 F, cI E s 8 G] (zx (some (.int (if hldX K F G z then 1 else 0))) ([cO x 2 [.ref rw, .int (nI nb), .ref ln, .int (nI dn), .ref t1, .ref t2], cO t1 1 [.long (ta (tabX K F G 0 z)), .long (tb (tabX K F G 0 z)), .long (tc (tabX K F G 0 z)), .long (td (tabX K F G 0 z)), .long (te (tabX K F G 0 z)), .long (tf (tabX K F G 0 z)), .long (tg (tabX K F G 0 z))], cO t2 1 [.long (ta (tabX K F G 1 z)), .long (tb (tabX K F G 1 z)), .long (tc (tabX K F G 1 z)), .long (td (tabX K F G 1 z)), .long (te (tabX K F G 1 z)), .long (tf (tabX K F G 1 z)), .long (tg (tabX K F G 1 z))], cO o 0 [.ref k, .ref f, .ref s, .int (nI z)], cI E k 8 K, cI E f 8 F, cI E s 8 G])) := by
  refine z_start RX2 "holdsBothWays" (by decide) rfl rfl rfl (Nat.le_of_ble_eq_true rfl) ?_
  intro J Z
  refine g_eq Z (lv2 := [(0, .ref x), (1, .ref o)]) rfl rfl rfl ?_
  refine g_aload_n Z dX2_holdsBothWays_0 0 rfl rfl ?_
  refine g_get Z dX2_holdsBothWays_1 0 rfl rfl nX2_holdsBothWays_X2 4 (by decide) fX2_holdsBothWays_31 rfl ?_
  refine g_aload_n Z dX2_holdsBothWays_4 1 rfl rfl ?_
  refine g_iconst Z dX2_holdsBothWays_5 zi_0 ?_
  refine g_callVx (w' := [cO x 2 [.ref rw, .int (nI nb), .ref ln, .int (nI dn), .ref t1, .ref t2], cO t1 1 [.long (ta (tabX K F G 0 z)), .long (tb (tabX K F G 0 z)), .long (tc (tabX K F G 0 z)), .long (td (tabX K F G 0 z)), .long (te (tabX K F G 0 z)), .long (tf (tabX K F G 0 z)), .long (tg (tabX K F G 0 z))], cO t2 1 [.long (ta B), .long (tb B), .long (tc B), .long (td B), .long (te B), .long (tf B), .long (tg B)], cO o 0 [.ref k, .ref f, .ref s, .int (nI z)], cI E k 8 K, cI E f 8 F, cI E s 8 G]) Z (qX1_leadThroughT E t1 o k f s K F G A 0 z (by omega)) iX1_leadThrough gX2_holdsBothWays_X1_leadThrough ⟨rfl, rfl⟩ ⟨Nat.le_of_ble_eq_true rfl, Nat.le_of_ble_eq_true rfl⟩ dX2_holdsBothWays_6 rfl rfl (Nat.le_of_ble_eq_true rfl) ⟨Nat.zero_le _, Nat.zero_le _⟩ [1, 3, 4, 5, 6] rfl rfl 0 rfl rfl rfl rfl rfl ?_
  obtain ⟨C, e_C⟩ : ∃ Y : TB, tabX K F G 0 z = Y := ⟨_, rfl⟩
  rw [e_C]
  refine g_aload_n Z dX2_holdsBothWays_9 0 rfl rfl ?_
  refine g_get Z dX2_holdsBothWays_10 0 rfl rfl nX2_holdsBothWays_X2 5 (by decide) fX2_holdsBothWays_35 rfl ?_
  refine g_aload_n Z dX2_holdsBothWays_13 1 rfl rfl ?_
  refine g_iconst Z dX2_holdsBothWays_14 zi_1 ?_
  refine g_callVx (w' := [cO x 2 [.ref rw, .int (nI nb), .ref ln, .int (nI dn), .ref t1, .ref t2], cO t1 1 [.long (ta C), .long (tb C), .long (tc C), .long (td C), .long (te C), .long (tf C), .long (tg C)], cO t2 1 [.long (ta (tabX K F G 1 z)), .long (tb (tabX K F G 1 z)), .long (tc (tabX K F G 1 z)), .long (td (tabX K F G 1 z)), .long (te (tabX K F G 1 z)), .long (tf (tabX K F G 1 z)), .long (tg (tabX K F G 1 z))], cO o 0 [.ref k, .ref f, .ref s, .int (nI z)], cI E k 8 K, cI E f 8 F, cI E s 8 G]) Z (qX1_leadThroughT E t2 o k f s K F G B 1 z (by omega)) iX1_leadThrough gX2_holdsBothWays_X1_leadThrough ⟨rfl, rfl⟩ ⟨Nat.le_of_ble_eq_true rfl, Nat.le_of_ble_eq_true rfl⟩ dX2_holdsBothWays_15 rfl rfl (Nat.le_of_ble_eq_true rfl) ⟨Nat.zero_le _, Nat.zero_le _⟩ [2, 3, 4, 5, 6] rfl rfl 0 rfl rfl rfl rfl rfl ?_
  obtain ⟨C2, e_C2⟩ : ∃ Y : TB, tabX K F G 1 z = Y := ⟨_, rfl⟩
  rw [e_C2]
  refine g_aload_n Z dX2_holdsBothWays_18 0 rfl rfl ?_
  refine g_get Z dX2_holdsBothWays_19 0 rfl rfl nX2_holdsBothWays_X2 4 (by decide) fX2_holdsBothWays_31 rfl ?_
  refine g_callVx (w' := [cO x 2 [.ref rw, .int (nI nb), .ref ln, .int (nI dn), .ref t1, .ref t2], cO t1 1 [.long (ta C), .long (tb C), .long (tc C), .long (td C), .long (te C), .long (tf C), .long (tg C)], cO t2 1 [.long (ta C2), .long (tb C2), .long (tc C2), .long (td C2), .long (te C2), .long (tf C2), .long (tg C2)], cO o 0 [.ref k, .ref f, .ref s, .int (nI z)], cI E k 8 K, cI E f 8 F, cI E s 8 G]) Z (qX1_manner E t1 C) iX1_manner gX2_holdsBothWays_X1_manner ⟨rfl, rfl⟩ ⟨Nat.le_of_ble_eq_true rfl, Nat.le_of_ble_eq_true rfl⟩ dX2_holdsBothWays_22 rfl rfl (Nat.le_of_ble_eq_true rfl) ⟨Nat.zero_le _, Nat.zero_le _⟩ [1] rfl rfl 0 rfl rfl rfl rfl rfl ?_
  refine g_if_ne (tgt := 42) Z dX2_holdsBothWays_25 (by decide) (fun c_25 => ?_) (fun c_25 => ?_)
  · refine g_iconst Z dX2_holdsBothWays_42 zi_0 ?_
    exact g_zret Z dX2_holdsBothWays_43 rfl rfl ⟨Nat.zero_le _, Nat.zero_le _⟩ ⟨z_f (fun q => c_25 (by rw [← e_C]; exact q.1)), by rw [e_C, e_C2]⟩
  · refine g_aload_n Z dX2_holdsBothWays_28 0 rfl rfl ?_
    refine g_get Z dX2_holdsBothWays_29 0 rfl rfl nX2_holdsBothWays_X2 5 (by decide) fX2_holdsBothWays_35 rfl ?_
    refine g_callVx (w' := [cO x 2 [.ref rw, .int (nI nb), .ref ln, .int (nI dn), .ref t1, .ref t2], cO t1 1 [.long (ta C), .long (tb C), .long (tc C), .long (td C), .long (te C), .long (tf C), .long (tg C)], cO t2 1 [.long (ta C2), .long (tb C2), .long (tc C2), .long (td C2), .long (te C2), .long (tf C2), .long (tg C2)], cO o 0 [.ref k, .ref f, .ref s, .int (nI z)], cI E k 8 K, cI E f 8 F, cI E s 8 G]) Z (qX1_manner E t2 C2) iX1_manner gX2_holdsBothWays_X1_manner ⟨rfl, rfl⟩ ⟨Nat.le_of_ble_eq_true rfl, Nat.le_of_ble_eq_true rfl⟩ dX2_holdsBothWays_32 rfl rfl (Nat.le_of_ble_eq_true rfl) ⟨Nat.zero_le _, Nat.zero_le _⟩ [2] rfl rfl 0 rfl rfl rfl rfl rfl ?_
    refine g_if_ne (tgt := 42) Z dX2_holdsBothWays_35 (by decide) (fun c_35 => ?_) (fun c_35 => ?_)
    · refine g_iconst Z dX2_holdsBothWays_42 zi_0 ?_
      exact g_zret Z dX2_holdsBothWays_43 rfl rfl ⟨Nat.zero_le _, Nat.zero_le _⟩ ⟨z_f (fun q => c_35 (by rw [← e_C2]; exact q.2)), by rw [e_C, e_C2]⟩
    · refine g_iconst Z dX2_holdsBothWays_38 zi_1 ?_
      refine g_goto (tgt := 43) Z dX2_holdsBothWays_39 (by decide) ?_
      exact g_zret Z dX2_holdsBothWays_43 rfl rfl ⟨Nat.zero_le _, Nat.zero_le _⟩ ⟨z_t ⟨by rw [e_C]; exact c_25, by rw [e_C2]; exact c_35⟩, by rw [e_C, e_C2]⟩

abbrev rX2_holdsWith : Room := { frames := 5, cells := 0, slots := 0, locals := 117 }
theorem iX2_holdsWith : zInfo yX2_holdsWith wsX2_holdsWith RX2 6 (some .boolean) 3 := ⟨_, _, rfl, by decide +kernel⟩
theorem nX2_holdsWith_X0 : ∀ w ∈ wsX00, w ∈ wsX2_holdsWith := by decide +kernel
theorem fX2_holdsWith_68 : Cond.fieldLink RX2 68 (TX0 1).1 (TX0 1).2.1 (TX0 1).2.2.1 ∈ wsX2_holdsWith := by decide +kernel
set_option maxHeartbeats 4000000 in
set_option maxRecDepth 100000 in
theorem qX2_holdsWith (E : zE) (x rw ln t1 t2 : Nat) (nb dn : Nat) (A B : TB) (o k f s : Nat) (K F G : Nat → Int32) (z : Nat) (p : Nat) (a : Int32) (hz : z ≤ 8) (hp : p < 8) : zF E yX2_holdsWith wsX2_holdsWith rX2_holdsWith [.ref x, .ref o, .int (nI p), .int a] [cO x 2 [.ref rw, .int (nI nb), .ref ln, .int (nI dn), .ref t1, .ref t2], cO t1 1 [.long (ta A), .long (tb A), .long (tc A), .long (td A), .long (te A), .long (tf A), .long (tg A)], cO t2 1 [.long (ta B), .long (tb B), .long (tc B), .long (td B), .long (te B), .long (tf B), .long (tg B)], cO o 0 [.ref k, .ref f, .ref s, .int (nI z)], cI E k 8 K, cI E f 8 F, cI E s 8 G] (zx (some (.int (if hldX K (upd F p a) G z then 1 else 0))) ([cO x 2 [.ref rw, .int (nI nb), .ref ln, .int (nI dn), .ref t1, .ref t2], cO t1 1 [.long (ta (tabX K (upd F p a) G 0 z)), .long (tb (tabX K (upd F p a) G 0 z)), .long (tc (tabX K (upd F p a) G 0 z)), .long (td (tabX K (upd F p a) G 0 z)), .long (te (tabX K (upd F p a) G 0 z)), .long (tf (tabX K (upd F p a) G 0 z)), .long (tg (tabX K (upd F p a) G 0 z))], cO t2 1 [.long (ta (tabX K (upd F p a) G 1 z)), .long (tb (tabX K (upd F p a) G 1 z)), .long (tc (tabX K (upd F p a) G 1 z)), .long (td (tabX K (upd F p a) G 1 z)), .long (te (tabX K (upd F p a) G 1 z)), .long (tf (tabX K (upd F p a) G 1 z)), .long (tg (tabX K (upd F p a) G 1 z))], cO o 0 [.ref k, .ref f, .ref s, .int (nI z)], cI E k 8 K, cI E f 8 F, cI E s 8 G])) := by
  refine z_start RX2 "holdsWith" (by decide) rfl rfl rfl (Nat.le_of_ble_eq_true rfl) ?_
  intro J Z
  refine g_eq Z (lv2 := [(0, .ref x), (1, .ref o), (2, .int (nI p)), (3, .int a)]) rfl rfl rfl ?_
  refine g_aload_n Z dX2_holdsWith_0 1 rfl rfl ?_
  refine g_get Z dX2_holdsWith_1 3 rfl rfl nX2_holdsWith_X0 1 (by decide) fX2_holdsWith_68 rfl ?_
  refine g_iload_n Z dX2_holdsWith_4 2 rfl rfl ?_
  refine g_iald Z dX2_holdsWith_5 5 rfl p rfl (by omega) rfl ?_
  refine g_istore (lv' := [(4, .int (F p)), (0, .ref x), (1, .ref o), (2, .int (nI p)), (3, .int a)]) Z dX2_holdsWith_6 (by decide) rfl ?_
  refine g_aload_n Z dX2_holdsWith_8 2 rfl rfl ?_
  refine g_get Z dX2_holdsWith_9 3 rfl rfl nX2_holdsWith_X0 1 (by decide) fX2_holdsWith_68 rfl ?_
  refine g_iload_n Z dX2_holdsWith_12 3 rfl rfl ?_
  refine g_iload_n Z dX2_holdsWith_13 4 rfl rfl ?_
  refine g_iast (w' := [cO x 2 [.ref rw, .int (nI nb), .ref ln, .int (nI dn), .ref t1, .ref t2], cO t1 1 [.long (ta A), .long (tb A), .long (tc A), .long (td A), .long (te A), .long (tf A), .long (tg A)], cO t2 1 [.long (ta B), .long (tb B), .long (tc B), .long (td B), .long (te B), .long (tf B), .long (tg B)], cO o 0 [.ref k, .ref f, .ref s, .int (nI z)], cI E k 8 K, cI E f 8 (upd F p a), cI E s 8 G]) Z dX2_holdsWith_14 5 rfl p rfl (by omega) rfl rfl ?_
  refine g_aload_n Z dX2_holdsWith_15 1 rfl rfl ?_
  refine g_aload_n Z dX2_holdsWith_16 2 rfl rfl ?_
  refine g_callVx (w' := [cO x 2 [.ref rw, .int (nI nb), .ref ln, .int (nI dn), .ref t1, .ref t2], cO t1 1 [.long (ta (tabX K (upd F p a) G 0 z)), .long (tb (tabX K (upd F p a) G 0 z)), .long (tc (tabX K (upd F p a) G 0 z)), .long (td (tabX K (upd F p a) G 0 z)), .long (te (tabX K (upd F p a) G 0 z)), .long (tf (tabX K (upd F p a) G 0 z)), .long (tg (tabX K (upd F p a) G 0 z))], cO t2 1 [.long (ta (tabX K (upd F p a) G 1 z)), .long (tb (tabX K (upd F p a) G 1 z)), .long (tc (tabX K (upd F p a) G 1 z)), .long (td (tabX K (upd F p a) G 1 z)), .long (te (tabX K (upd F p a) G 1 z)), .long (tf (tabX K (upd F p a) G 1 z)), .long (tg (tabX K (upd F p a) G 1 z))], cO o 0 [.ref k, .ref f, .ref s, .int (nI z)], cI E k 8 K, cI E f 8 (upd F p a), cI E s 8 G]) Z (qX2_holdsBothWays E x rw ln t1 t2 nb dn A B o k f s K (upd F p a) G z (by omega)) iX2_holdsBothWays gX2_holdsWith_X2_holdsBothWays ⟨rfl, rfl⟩ ⟨Nat.le_of_ble_eq_true rfl, Nat.le_of_ble_eq_true rfl⟩ dX2_holdsWith_17 rfl rfl (Nat.le_of_ble_eq_true rfl) ⟨Nat.zero_le _, Nat.zero_le _⟩ [0, 1, 2, 3, 4, 5, 6] rfl rfl 0 rfl rfl rfl rfl rfl ?_
  refine g_istore (lv' := [(5, .int (if hldX K (upd F p a) G z then 1 else 0)), (4, .int (F p)), (0, .ref x), (1, .ref o), (2, .int (nI p)), (3, .int a)]) Z dX2_holdsWith_20 (by decide) rfl ?_
  refine g_aload_n Z dX2_holdsWith_22 3 rfl rfl ?_
  refine g_get Z dX2_holdsWith_23 3 rfl rfl nX2_holdsWith_X0 1 (by decide) fX2_holdsWith_68 rfl ?_
  refine g_iload_n Z dX2_holdsWith_26 4 rfl rfl ?_
  refine g_iload Z dX2_holdsWith_27 1 rfl ?_
  refine g_iastE (w' := [cO x 2 [.ref rw, .int (nI nb), .ref ln, .int (nI dn), .ref t1, .ref t2], cO t1 1 [.long (ta (tabX K (upd F p a) G 0 z)), .long (tb (tabX K (upd F p a) G 0 z)), .long (tc (tabX K (upd F p a) G 0 z)), .long (td (tabX K (upd F p a) G 0 z)), .long (te (tabX K (upd F p a) G 0 z)), .long (tf (tabX K (upd F p a) G 0 z)), .long (tg (tabX K (upd F p a) G 0 z))], cO t2 1 [.long (ta (tabX K (upd F p a) G 1 z)), .long (tb (tabX K (upd F p a) G 1 z)), .long (tc (tabX K (upd F p a) G 1 z)), .long (td (tabX K (upd F p a) G 1 z)), .long (te (tabX K (upd F p a) G 1 z)), .long (tf (tabX K (upd F p a) G 1 z)), .long (tg (tabX K (upd F p a) G 1 z))], cO o 0 [.ref k, .ref f, .ref s, .int (nI z)], cI E k 8 K, cI E f 8 F, cI E s 8 G]) Z dX2_holdsWith_29 5 rfl p rfl (by omega) rfl (by rw [fa_upd_twice, fa_upd_same rfl]) rfl ?_
  refine g_iload Z dX2_holdsWith_30 0 rfl ?_
  exact g_zret Z dX2_holdsWith_32 rfl z_nb ⟨Nat.zero_le _, Nat.zero_le _⟩ ⟨rfl, rfl⟩


set_option maxHeartbeats 4000000 in
set_option maxRecDepth 100000 in
theorem qX2_spanN (E : zE) (x rw ln t1 t2 : Nat) (nb dn : Nat) (RF : Nat → Option Nat) (D : Nat → Int32) (A B : TB) (o k f s : Nat) (K F G : Nat → Int32) (z : Nat) (j : Nat) (i v : Int32) (hnb : nb ≤ 4) (hj : j < nb) (hr : RF j = some o) (hz : z ≤ 8) (hv : ¬ (inB z i ∧ 0 ≤ v)) : zF E yX2_span wsX2_span rX2_span [.ref x, .int (nI j), .int i, .int v] [cO x 2 [.ref rw, .int (nI nb), .ref ln, .int (nI dn), .ref t1, .ref t2], cQ E rw 4 RF, cI E ln 12 D, cO t1 1 [.long (ta A), .long (tb A), .long (tc A), .long (td A), .long (te A), .long (tf A), .long (tg A)], cO t2 1 [.long (ta B), .long (tb B), .long (tc B), .long (td B), .long (te B), .long (tf B), .long (tg B)], cO o 0 [.ref k, .ref f, .ref s, .int (nI z)], cI E k 8 K, cI E f 8 F, cI E s 8 G] (zx (some (.int (-1))) ([cO x 2 [.ref rw, .int (nI nb), .ref ln, .int (nI dn), .ref t1, .ref t2], cQ E rw 4 RF, cI E ln 12 D, cO t1 1 [.long (ta A), .long (tb A), .long (tc A), .long (td A), .long (te A), .long (tf A), .long (tg A)], cO t2 1 [.long (ta B), .long (tb B), .long (tc B), .long (td B), .long (te B), .long (tf B), .long (tg B)], cO o 0 [.ref k, .ref f, .ref s, .int (nI z)], cI E k 8 K, cI E f 8 F, cI E s 8 G])) := by
  refine z_start RX2 "span" (by decide) rfl rfl rfl (Nat.le_of_ble_eq_true rfl) ?_
  intro J Z
  refine g_eq Z (lv2 := [(0, .ref x), (1, .int (nI j)), (2, .int i), (3, .int v)]) rfl rfl rfl ?_
  refine g_aload_n Z dX2_span_0 0 rfl rfl ?_
  refine g_iload_n Z dX2_span_1 1 rfl rfl ?_
  refine g_callVx (w' := [cO x 2 [.ref rw, .int (nI nb), .ref ln, .int (nI dn), .ref t1, .ref t2], cQ E rw 4 RF, cI E ln 12 D, cO t1 1 [.long (ta A), .long (tb A), .long (tc A), .long (td A), .long (te A), .long (tf A), .long (tg A)], cO t2 1 [.long (ta B), .long (tb B), .long (tc B), .long (td B), .long (te B), .long (tf B), .long (tg B)], cO o 0 [.ref k, .ref f, .ref s, .int (nI z)], cI E k 8 K, cI E f 8 F, cI E s 8 G]) Z (qX2_rowAt E x rw ln t1 t2 nb dn RF j o hj hnb hr) iX2_rowAt gX2_span_X2_rowAt ⟨rfl, rfl⟩ ⟨Nat.le_of_ble_eq_true rfl, Nat.le_of_ble_eq_true rfl⟩ dX2_span_2 rfl rfl (Nat.le_of_ble_eq_true rfl) ⟨Nat.zero_le _, Nat.zero_le _⟩ [0, 1] rfl rfl 0 rfl rfl rfl rfl rfl ?_
  refine g_astore (lv' := [(4, .ref o), (0, .ref x), (1, .int (nI j)), (2, .int i), (3, .int v)]) Z dX2_span_5 (by decide) rfl ?_
  refine g_aload Z dX2_span_7 0 rfl ?_
  refine g_ifnull Z dX2_span_9 ?_
  refine g_aload Z dX2_span_12 0 rfl ?_
  refine g_iload_n Z dX2_span_14 3 rfl rfl ?_
  refine g_callVx (w' := [cO x 2 [.ref rw, .int (nI nb), .ref ln, .int (nI dn), .ref t1, .ref t2], cQ E rw 4 RF, cI E ln 12 D, cO t1 1 [.long (ta A), .long (tb A), .long (tc A), .long (td A), .long (te A), .long (tf A), .long (tg A)], cO t2 1 [.long (ta B), .long (tb B), .long (tc B), .long (td B), .long (te B), .long (tf B), .long (tg B)], cO o 0 [.ref k, .ref f, .ref s, .int (nI z)], cI E k 8 K, cI E f 8 F, cI E s 8 G]) Z (qX0_has E o k f s (nI z) i) iX0_has gX2_span_X0_has ⟨rfl, rfl⟩ ⟨Nat.le_of_ble_eq_true rfl, Nat.le_of_ble_eq_true rfl⟩ dX2_span_15 rfl rfl (Nat.le_of_ble_eq_true rfl) ⟨Nat.zero_le _, Nat.zero_le _⟩ [5] rfl rfl 0 rfl rfl rfl rfl rfl ?_
  refine g_ifb_eq (tgt := 25) Z dX2_span_18 (by decide) (fun c_18 => ?_) (fun c_18 => ?_)
  · refine g_iconst Z dX2_span_25 zi_m1 ?_
    exact g_iret Z dX2_span_26 rfl ⟨Nat.zero_le _, Nat.zero_le _⟩ ⟨rfl, rfl⟩
  · refine g_iload_n Z dX2_span_21 4 rfl rfl ?_
    refine g_if_ge (tgt := 27) Z dX2_span_22 (by decide) (fun c_22 => ?_) (fun c_22 => ?_)
    · exact absurd ⟨(inB_X (by omega)).mp c_18, c_22⟩ hv
    · refine g_iconst Z dX2_span_25 zi_m1 ?_
      exact g_iret Z dX2_span_26 rfl ⟨Nat.zero_le _, Nat.zero_le _⟩ ⟨rfl, rfl⟩

theorem nX2_span_X0 : ∀ w ∈ wsX00, w ∈ wsX2_span := by decide +kernel
theorem fX2_span_61 : Cond.fieldLink RX2 61 (TX0 0).1 (TX0 0).2.1 (TX0 0).2.2.1 ∈ wsX2_span := by decide +kernel
set_option maxHeartbeats 4000000 in
set_option maxRecDepth 100000 in
theorem qX2_spanS (E : zE) (x rw ln t1 t2 : Nat) (nb dn : Nat) (RF : Nat → Option Nat) (D : Nat → Int32) (A B : TB) (o k f s : Nat) (K F G : Nat → Int32) (z : Nat) (j : Nat) (p : Nat) (v : Int32) (hnb : nb ≤ 4) (hj : j < nb) (hr : RF j = some o) (hz : z ≤ 8) (hp : p < z) (h0 : 0 ≤ v) (hk : ¬ K p = 0) : zF E yX2_span wsX2_span rX2_span [.ref x, .int (nI j), .int (nI p), .int v] [cO x 2 [.ref rw, .int (nI nb), .ref ln, .int (nI dn), .ref t1, .ref t2], cQ E rw 4 RF, cI E ln 12 D, cO t1 1 [.long (ta A), .long (tb A), .long (tc A), .long (td A), .long (te A), .long (tf A), .long (tg A)], cO t2 1 [.long (ta B), .long (tb B), .long (tc B), .long (td B), .long (te B), .long (tf B), .long (tg B)], cO o 0 [.ref k, .ref f, .ref s, .int (nI z)], cI E k 8 K, cI E f 8 F, cI E s 8 G] (zx (some (.int (-3))) ([cO x 2 [.ref rw, .int (nI nb), .ref ln, .int (nI dn), .ref t1, .ref t2], cQ E rw 4 RF, cI E ln 12 D, cO t1 1 [.long (ta A), .long (tb A), .long (tc A), .long (td A), .long (te A), .long (tf A), .long (tg A)], cO t2 1 [.long (ta B), .long (tb B), .long (tc B), .long (td B), .long (te B), .long (tf B), .long (tg B)], cO o 0 [.ref k, .ref f, .ref s, .int (nI z)], cI E k 8 K, cI E f 8 F, cI E s 8 G])) := by
  refine z_start RX2 "span" (by decide) rfl rfl rfl (Nat.le_of_ble_eq_true rfl) ?_
  intro J Z
  refine g_eq Z (lv2 := [(0, .ref x), (1, .int (nI j)), (2, .int (nI p)), (3, .int v)]) rfl rfl rfl ?_
  refine g_aload_n Z dX2_span_0 0 rfl rfl ?_
  refine g_iload_n Z dX2_span_1 1 rfl rfl ?_
  refine g_callVx (w' := [cO x 2 [.ref rw, .int (nI nb), .ref ln, .int (nI dn), .ref t1, .ref t2], cQ E rw 4 RF, cI E ln 12 D, cO t1 1 [.long (ta A), .long (tb A), .long (tc A), .long (td A), .long (te A), .long (tf A), .long (tg A)], cO t2 1 [.long (ta B), .long (tb B), .long (tc B), .long (td B), .long (te B), .long (tf B), .long (tg B)], cO o 0 [.ref k, .ref f, .ref s, .int (nI z)], cI E k 8 K, cI E f 8 F, cI E s 8 G]) Z (qX2_rowAt E x rw ln t1 t2 nb dn RF j o hj hnb hr) iX2_rowAt gX2_span_X2_rowAt ⟨rfl, rfl⟩ ⟨Nat.le_of_ble_eq_true rfl, Nat.le_of_ble_eq_true rfl⟩ dX2_span_2 rfl rfl (Nat.le_of_ble_eq_true rfl) ⟨Nat.zero_le _, Nat.zero_le _⟩ [0, 1] rfl rfl 0 rfl rfl rfl rfl rfl ?_
  refine g_astore (lv' := [(4, .ref o), (0, .ref x), (1, .int (nI j)), (2, .int (nI p)), (3, .int v)]) Z dX2_span_5 (by decide) rfl ?_
  refine g_aload Z dX2_span_7 0 rfl ?_
  refine g_ifnull Z dX2_span_9 ?_
  refine g_aload Z dX2_span_12 0 rfl ?_
  refine g_iload_n Z dX2_span_14 3 rfl rfl ?_
  refine g_callVx (w' := [cO x 2 [.ref rw, .int (nI nb), .ref ln, .int (nI dn), .ref t1, .ref t2], cQ E rw 4 RF, cI E ln 12 D, cO t1 1 [.long (ta A), .long (tb A), .long (tc A), .long (td A), .long (te A), .long (tf A), .long (tg A)], cO t2 1 [.long (ta B), .long (tb B), .long (tc B), .long (td B), .long (te B), .long (tf B), .long (tg B)], cO o 0 [.ref k, .ref f, .ref s, .int (nI z)], cI E k 8 K, cI E f 8 F, cI E s 8 G]) Z (qX0_hasN E o k f s z p (by omega) (by omega)) iX0_has gX2_span_X0_has ⟨rfl, rfl⟩ ⟨Nat.le_of_ble_eq_true rfl, Nat.le_of_ble_eq_true rfl⟩ dX2_span_15 rfl rfl (Nat.le_of_ble_eq_true rfl) ⟨Nat.zero_le _, Nat.zero_le _⟩ [5] rfl rfl 0 rfl rfl rfl rfl rfl ?_
  refine g_ifb_eq (tgt := 25) Z dX2_span_18 (by decide) (fun c_18 => absurd c_18 (fun q => q hp)) (fun c_18 => ?_)
  refine g_iload_n Z dX2_span_21 4 rfl rfl ?_
  refine g_if_ge (tgt := 27) Z dX2_span_22 (by decide) (fun c_22 => ?_) (fun c_22 => absurd c_22 (fun q => q h0))
  refine g_aload Z dX2_span_27 0 rfl ?_
  refine g_get Z dX2_span_29 5 rfl rfl nX2_span_X0 0 (by decide) fX2_span_61 rfl ?_
  refine g_iload_n Z dX2_span_32 3 rfl rfl ?_
  refine g_iald Z dX2_span_33 6 rfl p rfl (by omega) rfl ?_
  refine g_if_eq (tgt := 40) Z dX2_span_34 (by decide) (fun c_34 => absurd c_34 hk) (fun c_34 => ?_)
  refine g_bipush Z dX2_span_37 zb_m3 ?_
  exact g_iret Z dX2_span_39 rfl ⟨Nat.zero_le _, Nat.zero_le _⟩ ⟨rfl, rfl⟩

set_option maxHeartbeats 4000000 in
set_option maxRecDepth 100000 in
theorem lX2_span (E : zE) (x rw ln t1 t2 : Nat) (nb dn : Nat) (RF : Nat → Option Nat) (D : Nat → Int32) (A B : TB) (o k f s : Nat) (K F G : Nat → Int32) (z : Nat) (j : Nat) (p : Nat) (lf : Nat) (hnb : nb ≤ 4) (hj : j < nb) (hr : RF j = some o) (hz : z ≤ 8) (hp : p < z) (hl : lf < 2 ^ 31) (hk : K p = 0) {J : zJ} (Z : zOk E J RX2 cX2_span 7 (some .int) wsX2_span rX2_span "span" (fun _ => True) (fun ov wv => ov = some (.int (spnXR K F G z p lf)) ∧ ∃ A2 B2 : TB, wv = [cO x 2 [.ref rw, .int (nI nb), .ref ln, .int (nI dn), .ref t1, .ref t2], cQ E rw 4 RF, cI E ln 12 D, cO t1 1 [.long (ta A2), .long (tb A2), .long (tc A2), .long (td A2), .long (te A2), .long (tf A2), .long (tg A2)], cO t2 1 [.long (ta B2), .long (tb B2), .long (tc B2), .long (td B2), .long (te B2), .long (tf B2), .long (tg B2)], cO o 0 [.ref k, .ref f, .ref s, .int (nI z)], cI E k 8 K, cI E f 8 F, cI E s 8 G]))  : ∀ (d : Nat) (q L : Nat) (C C2 : TB), q + d = 21 → L ≤ lf → spnX K F G z p q (lf - L) d = spnXR K F G z p lf → J 0 0 [cO x 2 [.ref rw, .int (nI nb), .ref ln, .int (nI dn), .ref t1, .ref t2], cQ E rw 4 RF, cI E ln 12 D, cO t1 1 [.long (ta C), .long (tb C), .long (tc C), .long (td C), .long (te C), .long (tf C), .long (tg C)], cO t2 1 [.long (ta C2), .long (tb C2), .long (tc C2), .long (td C2), .long (te C2), .long (tf C2), .long (tg C2)], cO o 0 [.ref k, .ref f, .ref s, .int (nI z)], cI E k 8 K, cI E f 8 F, cI E s 8 G] 46 [(6, .int (nI q)), (5, .int (nI L)), (4, .ref o), (0, .ref x), (1, .int (nI j)), (2, .int (nI p)), (3, .int (nI lf))] [] := by
  intro d
  induction d with
  | zero =>
    intro q L C C2 h1 h2 h3
    refine g_iload Z dX2_span_46 0 rfl ?_
    refine g_bipush Z dX2_span_48 zb_20 ?_
    refine g_icmpN_gt (tgt := 83) Z dX2_span_50 (by decide) q 20 rfl rfl (by omega) (by omega) (fun c_50 => ?_) (fun c_50 => absurd c_50 (by omega))
    refine g_iconst Z dX2_span_83 zi_m1 ?_
    exact g_iret Z dX2_span_84 rfl ⟨Nat.zero_le _, Nat.zero_le _⟩ ⟨by rw [← h3]; rfl, _, _, rfl⟩
  | succ d ih =>
    intro q L C C2 h1 h2 h3
    refine g_iload Z dX2_span_46 0 rfl ?_
    refine g_bipush Z dX2_span_48 zb_20 ?_
    refine g_icmpN_gt (tgt := 83) Z dX2_span_50 (by decide) q 20 rfl rfl (by omega) (by omega) (fun c_50 => absurd c_50 (by omega)) (fun c_50 => ?_)
    refine g_aload_n Z dX2_span_53 3 rfl rfl ?_
    refine g_aload Z dX2_span_54 2 rfl ?_
    refine g_iload_n Z dX2_span_56 5 rfl rfl ?_
    refine g_iload Z dX2_span_57 0 rfl ?_
    refine g_callVx (w' := [cO x 2 [.ref rw, .int (nI nb), .ref ln, .int (nI dn), .ref t1, .ref t2], cQ E rw 4 RF, cI E ln 12 D, cO t1 1 [.long (ta (tabX K (upd F p (nI q)) G 0 z)), .long (tb (tabX K (upd F p (nI q)) G 0 z)), .long (tc (tabX K (upd F p (nI q)) G 0 z)), .long (td (tabX K (upd F p (nI q)) G 0 z)), .long (te (tabX K (upd F p (nI q)) G 0 z)), .long (tf (tabX K (upd F p (nI q)) G 0 z)), .long (tg (tabX K (upd F p (nI q)) G 0 z))], cO t2 1 [.long (ta (tabX K (upd F p (nI q)) G 1 z)), .long (tb (tabX K (upd F p (nI q)) G 1 z)), .long (tc (tabX K (upd F p (nI q)) G 1 z)), .long (td (tabX K (upd F p (nI q)) G 1 z)), .long (te (tabX K (upd F p (nI q)) G 1 z)), .long (tf (tabX K (upd F p (nI q)) G 1 z)), .long (tg (tabX K (upd F p (nI q)) G 1 z))], cO o 0 [.ref k, .ref f, .ref s, .int (nI z)], cI E k 8 K, cI E f 8 F, cI E s 8 G]) Z (qX2_holdsWith E x rw ln t1 t2 nb dn C C2 o k f s K F G z p (nI q) (by omega) (by omega)) iX2_holdsWith gX2_span_X2_holdsWith ⟨rfl, rfl⟩ ⟨Nat.le_of_ble_eq_true rfl, Nat.le_of_ble_eq_true rfl⟩ dX2_span_59 rfl rfl (Nat.le_of_ble_eq_true rfl) ⟨Nat.zero_le _, Nat.zero_le _⟩ [0, 3, 4, 5, 6, 7, 8] rfl rfl 0 rfl rfl rfl rfl rfl ?_
    refine g_ifb_eq (tgt := 77) Z dX2_span_62 (by decide) (fun c_62 => ?_) (fun c_62 => ?_)
    · refine g_iinc (lv' := [(6, .int (nI (q + 1))), (5, .int (nI L)), (4, .ref o), (0, .ref x), (1, .int (nI j)), (2, .int (nI p)), (3, .int (nI lf))]) Z dX2_span_77 0 rfl (zinc _) (by decide) rfl ?_
      refine g_goto (tgt := 46) Z dX2_span_80 (by decide) ?_
      rw [spnX, if_neg c_62] at h3
      refine g_lv (lv2 := [(6, .int (nI (q + 1))), (5, .int (nI L)), (4, .ref o), (0, .ref x), (1, .int (nI j)), (2, .int (nI p)), (3, .int (nI lf))]) Z [0, 1, 2, 3, 4, 5, 6] rfl ?_
      exact ih (q + 1) L _ _ (by omega) (by omega) h3
    · refine g_iload Z dX2_span_65 1 rfl ?_
      refine g_iload_n Z dX2_span_67 6 rfl rfl ?_
      refine g_icmpN_ne (tgt := 74) Z dX2_span_68 (by decide) L lf rfl rfl (by omega) (by omega) (fun c_68 => ?_) (fun c_68 => ?_)
      · refine g_iinc (lv' := [(5, .int (nI (L + 1))), (6, .int (nI q)), (4, .ref o), (0, .ref x), (1, .int (nI j)), (2, .int (nI p)), (3, .int (nI lf))]) Z dX2_span_74 1 rfl (zinc _) (by decide) rfl ?_
        refine g_iinc (lv' := [(6, .int (nI (q + 1))), (5, .int (nI (L + 1))), (4, .ref o), (0, .ref x), (1, .int (nI j)), (2, .int (nI p)), (3, .int (nI lf))]) Z dX2_span_77 1 rfl (zinc _) (by decide) rfl ?_
        refine g_goto (tgt := 46) Z dX2_span_80 (by decide) ?_
        rw [spnX, if_pos c_62, if_neg (show ¬ lf - L = 0 by omega), show lf - L - 1 = lf - (L + 1) by omega] at h3
        refine g_lv (lv2 := [(6, .int (nI (q + 1))), (5, .int (nI (L + 1))), (4, .ref o), (0, .ref x), (1, .int (nI j)), (2, .int (nI p)), (3, .int (nI lf))]) Z [0, 1, 2, 3, 4, 5, 6] rfl ?_
        exact ih (q + 1) (L + 1) _ _ (by omega) (by omega) h3
      · rw [spnX, if_pos c_62, if_pos (show lf - L = 0 by omega)] at h3
        refine g_iload Z dX2_span_71 0 rfl ?_
        exact g_iret Z dX2_span_73 rfl ⟨Nat.zero_le _, Nat.zero_le _⟩ ⟨by rw [← h3], _, _, rfl⟩
set_option maxHeartbeats 4000000 in
set_option maxRecDepth 100000 in
theorem qX2_span (E : zE) (x rw ln t1 t2 : Nat) (nb dn : Nat) (RF : Nat → Option Nat) (D : Nat → Int32) (A B : TB) (o k f s : Nat) (K F G : Nat → Int32) (z : Nat) (j : Nat) (p : Nat) (lf : Nat) (hnb : nb ≤ 4) (hj : j < nb) (hr : RF j = some o) (hz : z ≤ 8) (hp : p < z) (hl : lf < 2 ^ 31) (hk : K p = 0) : zF E yX2_span wsX2_span rX2_span [.ref x, .int (nI j), .int (nI p), .int (nI lf)] [cO x 2 [.ref rw, .int (nI nb), .ref ln, .int (nI dn), .ref t1, .ref t2], cQ E rw 4 RF, cI E ln 12 D, cO t1 1 [.long (ta A), .long (tb A), .long (tc A), .long (td A), .long (te A), .long (tf A), .long (tg A)], cO t2 1 [.long (ta B), .long (tb B), .long (tc B), .long (td B), .long (te B), .long (tf B), .long (tg B)], cO o 0 [.ref k, .ref f, .ref s, .int (nI z)], cI E k 8 K, cI E f 8 F, cI E s 8 G] (fun ov wv => ov = some (.int (spnXR K F G z p lf)) ∧ ∃ A2 B2 : TB, wv = [cO x 2 [.ref rw, .int (nI nb), .ref ln, .int (nI dn), .ref t1, .ref t2], cQ E rw 4 RF, cI E ln 12 D, cO t1 1 [.long (ta A2), .long (tb A2), .long (tc A2), .long (td A2), .long (te A2), .long (tf A2), .long (tg A2)], cO t2 1 [.long (ta B2), .long (tb B2), .long (tc B2), .long (td B2), .long (te B2), .long (tf B2), .long (tg B2)], cO o 0 [.ref k, .ref f, .ref s, .int (nI z)], cI E k 8 K, cI E f 8 F, cI E s 8 G]) := by
  refine z_start RX2 "span" (by decide) rfl rfl rfl (Nat.le_of_ble_eq_true rfl) ?_
  intro J Z
  refine g_eq Z (lv2 := [(0, .ref x), (1, .int (nI j)), (2, .int (nI p)), (3, .int (nI lf))]) rfl rfl rfl ?_
  refine g_aload_n Z dX2_span_0 0 rfl rfl ?_
  refine g_iload_n Z dX2_span_1 1 rfl rfl ?_
  refine g_callVx (w' := [cO x 2 [.ref rw, .int (nI nb), .ref ln, .int (nI dn), .ref t1, .ref t2], cQ E rw 4 RF, cI E ln 12 D, cO t1 1 [.long (ta A), .long (tb A), .long (tc A), .long (td A), .long (te A), .long (tf A), .long (tg A)], cO t2 1 [.long (ta B), .long (tb B), .long (tc B), .long (td B), .long (te B), .long (tf B), .long (tg B)], cO o 0 [.ref k, .ref f, .ref s, .int (nI z)], cI E k 8 K, cI E f 8 F, cI E s 8 G]) Z (qX2_rowAt E x rw ln t1 t2 nb dn RF j o hj hnb hr) iX2_rowAt gX2_span_X2_rowAt ⟨rfl, rfl⟩ ⟨Nat.le_of_ble_eq_true rfl, Nat.le_of_ble_eq_true rfl⟩ dX2_span_2 rfl rfl (Nat.le_of_ble_eq_true rfl) ⟨Nat.zero_le _, Nat.zero_le _⟩ [0, 1] rfl rfl 0 rfl rfl rfl rfl rfl ?_
  refine g_astore (lv' := [(4, .ref o), (0, .ref x), (1, .int (nI j)), (2, .int (nI p)), (3, .int (nI lf))]) Z dX2_span_5 (by decide) rfl ?_
  refine g_aload Z dX2_span_7 0 rfl ?_
  refine g_ifnull Z dX2_span_9 ?_
  refine g_aload Z dX2_span_12 0 rfl ?_
  refine g_iload_n Z dX2_span_14 3 rfl rfl ?_
  refine g_callVx (w' := [cO x 2 [.ref rw, .int (nI nb), .ref ln, .int (nI dn), .ref t1, .ref t2], cQ E rw 4 RF, cI E ln 12 D, cO t1 1 [.long (ta A), .long (tb A), .long (tc A), .long (td A), .long (te A), .long (tf A), .long (tg A)], cO t2 1 [.long (ta B), .long (tb B), .long (tc B), .long (td B), .long (te B), .long (tf B), .long (tg B)], cO o 0 [.ref k, .ref f, .ref s, .int (nI z)], cI E k 8 K, cI E f 8 F, cI E s 8 G]) Z (qX0_hasN E o k f s z p (by omega) (by omega)) iX0_has gX2_span_X0_has ⟨rfl, rfl⟩ ⟨Nat.le_of_ble_eq_true rfl, Nat.le_of_ble_eq_true rfl⟩ dX2_span_15 rfl rfl (Nat.le_of_ble_eq_true rfl) ⟨Nat.zero_le _, Nat.zero_le _⟩ [5] rfl rfl 0 rfl rfl rfl rfl rfl ?_
  refine g_ifb_eq (tgt := 25) Z dX2_span_18 (by decide) (fun c_18 => absurd c_18 (fun q => q hp)) (fun c_18 => ?_)
  refine g_iload_n Z dX2_span_21 4 rfl rfl ?_
  refine g_ifN_ge (tgt := 27) Z dX2_span_22 (by decide) lf rfl (by omega) (fun c_22 => ?_) (fun c_22 => absurd c_22 id)
  refine g_aload Z dX2_span_27 0 rfl ?_
  refine g_get Z dX2_span_29 5 rfl rfl nX2_span_X0 0 (by decide) fX2_span_61 rfl ?_
  refine g_iload_n Z dX2_span_32 3 rfl rfl ?_
  refine g_iald Z dX2_span_33 6 rfl p rfl (by omega) rfl ?_
  refine g_if_eq (tgt := 40) Z dX2_span_34 (by decide) (fun c_34 => ?_) (fun c_34 => absurd c_34 (fun q => q hk))
  refine g_iconst Z dX2_span_40 zi_0 ?_
  refine g_istore (lv' := [(5, .int 0), (4, .ref o), (0, .ref x), (1, .int (nI j)), (2, .int (nI p)), (3, .int (nI lf))]) Z dX2_span_41 (by decide) rfl ?_
  refine g_iconst Z dX2_span_43 zi_0 ?_
  refine g_istore (lv' := [(6, .int 0), (5, .int 0), (4, .ref o), (0, .ref x), (1, .int (nI j)), (2, .int (nI p)), (3, .int (nI lf))]) Z dX2_span_44 (by decide) rfl ?_
  exact lX2_span E x rw ln t1 t2 nb dn RF D A B o k f s K F G z j p lf hnb hj hr hz hp hl hk Z 21 0 0 A B rfl (Nat.zero_le _) rfl

abbrev rX2_own : Room := { frames := 1, cells := 0, slots := 0, locals := 20 }
theorem iX2_own : zInfo yX2_own wsX2_own RX2 2 (some .int) 1 := ⟨_, _, rfl, by decide +kernel⟩
set_option maxHeartbeats 4000000 in
set_option maxRecDepth 100000 in
theorem qX2_ownB (E : zE) (x rw ln t1 t2 : Nat) (nb dn : Nat) (RF : Nat → Option Nat) (D : Nat → Int32) (A B : TB) (a : Int32) (ha : ¬ bnt a) : zF E yX2_own wsX2_own rX2_own [.ref x, .int a] [cO x 2 [.ref rw, .int (nI nb), .ref ln, .int (nI dn), .ref t1, .ref t2], cQ E rw 4 RF, cI E ln 12 D, cO t1 1 [.long (ta A), .long (tb A), .long (tc A), .long (td A), .long (te A), .long (tf A), .long (tg A)], cO t2 1 [.long (ta B), .long (tb B), .long (tc B), .long (td B), .long (te B), .long (tf B), .long (tg B)]] (zx (some (.int (-2))) ([cO x 2 [.ref rw, .int (nI nb), .ref ln, .int (nI dn), .ref t1, .ref t2], cQ E rw 4 RF, cI E ln 12 D, cO t1 1 [.long (ta A), .long (tb A), .long (tc A), .long (td A), .long (te A), .long (tf A), .long (tg A)], cO t2 1 [.long (ta B), .long (tb B), .long (tc B), .long (td B), .long (te B), .long (tf B), .long (tg B)]])) := by
  refine z_start RX2 "own" (by decide) rfl rfl rfl (Nat.le_of_ble_eq_true rfl) ?_
  intro J Z
  refine g_eq Z (lv2 := [(0, .ref x), (1, .int a)]) rfl rfl rfl ?_
  refine g_iload_n Z dX2_own_0 1 rfl rfl ?_
  refine g_callSx (w' := [cO x 2 [.ref rw, .int (nI nb), .ref ln, .int (nI dn), .ref t1, .ref t2], cQ E rw 4 RF, cI E ln 12 D, cO t1 1 [.long (ta A), .long (tb A), .long (tc A), .long (td A), .long (te A), .long (tf A), .long (tg A)], cO t2 1 [.long (ta B), .long (tb B), .long (tc B), .long (td B), .long (te B), .long (tf B), .long (tg B)]]) Z (qX2_isStrength E a) iX2_isStrength gX2_own_X2_isStrength ⟨rfl, rfl⟩ ⟨Nat.le_of_ble_eq_true rfl, Nat.le_of_ble_eq_true rfl⟩ dX2_own_1 rfl rfl (Nat.le_of_ble_eq_true rfl) ⟨Nat.zero_le _, Nat.zero_le _⟩ [] rfl rfl rfl rfl ?_
  refine g_ifb_ne (tgt := 10) Z dX2_own_4 (by decide) (fun c_4 => absurd c_4 ha) (fun c_4 => ?_)
  refine g_bipush Z dX2_own_7 zb_m2 ?_
  exact g_iret Z dX2_own_9 rfl ⟨Nat.zero_le _, Nat.zero_le _⟩ ⟨rfl, rfl⟩

theorem nX2_own_X2 : ∀ w ∈ wsX20, w ∈ wsX2_own := by decide +kernel
theorem fX2_own_25 : Cond.fieldLink RX2 25 (TX2 3).1 (TX2 3).2.1 (TX2 3).2.2.1 ∈ wsX2_own := by decide +kernel
set_option maxHeartbeats 4000000 in
set_option maxRecDepth 100000 in
theorem qX2_ownF (E : zE) (x rw ln t1 t2 : Nat) (nb dn : Nat) (RF : Nat → Option Nat) (D : Nat → Int32) (A B : TB) (a : Int32) (ha : bnt a) (hd : dn = 12) : zF E yX2_own wsX2_own rX2_own [.ref x, .int a] [cO x 2 [.ref rw, .int (nI nb), .ref ln, .int (nI dn), .ref t1, .ref t2], cQ E rw 4 RF, cI E ln 12 D, cO t1 1 [.long (ta A), .long (tb A), .long (tc A), .long (td A), .long (te A), .long (tf A), .long (tg A)], cO t2 1 [.long (ta B), .long (tb B), .long (tc B), .long (td B), .long (te B), .long (tf B), .long (tg B)]] (zx (some (.int (-4))) ([cO x 2 [.ref rw, .int (nI nb), .ref ln, .int (nI dn), .ref t1, .ref t2], cQ E rw 4 RF, cI E ln 12 D, cO t1 1 [.long (ta A), .long (tb A), .long (tc A), .long (td A), .long (te A), .long (tf A), .long (tg A)], cO t2 1 [.long (ta B), .long (tb B), .long (tc B), .long (td B), .long (te B), .long (tf B), .long (tg B)]])) := by
  refine z_start RX2 "own" (by decide) rfl rfl rfl (Nat.le_of_ble_eq_true rfl) ?_
  intro J Z
  refine g_eq Z (lv2 := [(0, .ref x), (1, .int a)]) rfl rfl rfl ?_
  refine g_iload_n Z dX2_own_0 1 rfl rfl ?_
  refine g_callSx (w' := [cO x 2 [.ref rw, .int (nI nb), .ref ln, .int (nI dn), .ref t1, .ref t2], cQ E rw 4 RF, cI E ln 12 D, cO t1 1 [.long (ta A), .long (tb A), .long (tc A), .long (td A), .long (te A), .long (tf A), .long (tg A)], cO t2 1 [.long (ta B), .long (tb B), .long (tc B), .long (td B), .long (te B), .long (tf B), .long (tg B)]]) Z (qX2_isStrength E a) iX2_isStrength gX2_own_X2_isStrength ⟨rfl, rfl⟩ ⟨Nat.le_of_ble_eq_true rfl, Nat.le_of_ble_eq_true rfl⟩ dX2_own_1 rfl rfl (Nat.le_of_ble_eq_true rfl) ⟨Nat.zero_le _, Nat.zero_le _⟩ [] rfl rfl rfl rfl ?_
  refine g_ifb_ne (tgt := 10) Z dX2_own_4 (by decide) (fun c_4 => ?_) (fun c_4 => absurd c_4 (fun q => q ha))
  refine g_aload_n Z dX2_own_10 0 rfl rfl ?_
  refine g_get Z dX2_own_11 0 rfl rfl nX2_own_X2 3 (by decide) fX2_own_25 rfl ?_
  refine g_bipush Z dX2_own_14 zb_12 ?_
  refine g_icmpN_lt (tgt := 22) Z dX2_own_16 (by decide) dn 12 rfl rfl (by omega) (by omega) (fun c_16 => absurd c_16 (by omega)) (fun c_16 => ?_)
  refine g_bipush Z dX2_own_19 zb_m4 ?_
  exact g_iret Z dX2_own_21 rfl ⟨Nat.zero_le _, Nat.zero_le _⟩ ⟨rfl, rfl⟩

theorem fX2_own_21 : Cond.fieldLink RX2 21 (TX2 2).1 (TX2 2).2.1 (TX2 2).2.2.1 ∈ wsX2_own := by decide +kernel
set_option maxHeartbeats 4000000 in
set_option maxRecDepth 100000 in
theorem qX2_own (E : zE) (x rw ln t1 t2 : Nat) (nb dn : Nat) (RF : Nat → Option Nat) (D : Nat → Int32) (A B : TB) (a : Int32) (ha : bnt a) (hd : dn < 12) : zF E yX2_own wsX2_own rX2_own [.ref x, .int a] [cO x 2 [.ref rw, .int (nI nb), .ref ln, .int (nI dn), .ref t1, .ref t2], cQ E rw 4 RF, cI E ln 12 D, cO t1 1 [.long (ta A), .long (tb A), .long (tc A), .long (td A), .long (te A), .long (tf A), .long (tg A)], cO t2 1 [.long (ta B), .long (tb B), .long (tc B), .long (td B), .long (te B), .long (tf B), .long (tg B)]] (zx (some (.int (nI (dn + 1)))) ([cO x 2 [.ref rw, .int (nI nb), .ref ln, .int (nI (dn + 1)), .ref t1, .ref t2], cQ E rw 4 RF, cI E ln 12 (upd D dn a), cO t1 1 [.long (ta A), .long (tb A), .long (tc A), .long (td A), .long (te A), .long (tf A), .long (tg A)], cO t2 1 [.long (ta B), .long (tb B), .long (tc B), .long (td B), .long (te B), .long (tf B), .long (tg B)]])) := by
  refine z_start RX2 "own" (by decide) rfl rfl rfl (Nat.le_of_ble_eq_true rfl) ?_
  intro J Z
  refine g_eq Z (lv2 := [(0, .ref x), (1, .int a)]) rfl rfl rfl ?_
  refine g_iload_n Z dX2_own_0 1 rfl rfl ?_
  refine g_callSx (w' := [cO x 2 [.ref rw, .int (nI nb), .ref ln, .int (nI dn), .ref t1, .ref t2], cQ E rw 4 RF, cI E ln 12 D, cO t1 1 [.long (ta A), .long (tb A), .long (tc A), .long (td A), .long (te A), .long (tf A), .long (tg A)], cO t2 1 [.long (ta B), .long (tb B), .long (tc B), .long (td B), .long (te B), .long (tf B), .long (tg B)]]) Z (qX2_isStrength E a) iX2_isStrength gX2_own_X2_isStrength ⟨rfl, rfl⟩ ⟨Nat.le_of_ble_eq_true rfl, Nat.le_of_ble_eq_true rfl⟩ dX2_own_1 rfl rfl (Nat.le_of_ble_eq_true rfl) ⟨Nat.zero_le _, Nat.zero_le _⟩ [] rfl rfl rfl rfl ?_
  refine g_ifb_ne (tgt := 10) Z dX2_own_4 (by decide) (fun c_4 => ?_) (fun c_4 => absurd c_4 (fun q => q ha))
  refine g_aload_n Z dX2_own_10 0 rfl rfl ?_
  refine g_get Z dX2_own_11 0 rfl rfl nX2_own_X2 3 (by decide) fX2_own_25 rfl ?_
  refine g_bipush Z dX2_own_14 zb_12 ?_
  refine g_icmpN_lt (tgt := 22) Z dX2_own_16 (by decide) dn 12 rfl rfl (by omega) (by omega) (fun c_16 => ?_) (fun c_16 => absurd c_16 (by omega))
  refine g_aload_n Z dX2_own_22 0 rfl rfl ?_
  refine g_get Z dX2_own_23 0 rfl rfl nX2_own_X2 2 (by decide) fX2_own_21 rfl ?_
  refine g_aload_n Z dX2_own_26 0 rfl rfl ?_
  refine g_get Z dX2_own_27 0 rfl rfl nX2_own_X2 3 (by decide) fX2_own_25 rfl ?_
  refine g_iload_n Z dX2_own_30 1 rfl rfl ?_
  refine g_iast (w' := [cO x 2 [.ref rw, .int (nI nb), .ref ln, .int (nI dn), .ref t1, .ref t2], cQ E rw 4 RF, cI E ln 12 (upd D dn a), cO t1 1 [.long (ta A), .long (tb A), .long (tc A), .long (td A), .long (te A), .long (tf A), .long (tg A)], cO t2 1 [.long (ta B), .long (tb B), .long (tc B), .long (td B), .long (te B), .long (tf B), .long (tg B)]]) Z dX2_own_31 2 rfl dn rfl (by omega) rfl rfl ?_
  refine g_aload_n Z dX2_own_32 0 rfl rfl ?_
  refine g_dup Z dX2_own_33 rfl ?_
  refine g_get Z dX2_own_34 0 rfl rfl nX2_own_X2 3 (by decide) fX2_own_25 rfl ?_
  refine g_iconst Z dX2_own_37 zi_1 ?_
  refine g_iaddE (z := nI (dn + 1)) Z dX2_own_38 (nI_add dn 1) ?_
  refine g_put (w' := [cO x 2 [.ref rw, .int (nI nb), .ref ln, .int (nI (dn + 1)), .ref t1, .ref t2], cQ E rw 4 RF, cI E ln 12 (upd D dn a), cO t1 1 [.long (ta A), .long (tb A), .long (tc A), .long (td A), .long (te A), .long (tf A), .long (tg A)], cO t2 1 [.long (ta B), .long (tb B), .long (tc B), .long (td B), .long (te B), .long (tf B), .long (tg B)]]) Z dX2_own_39 0 rfl rfl nX2_own_X2 tyX2 tyX2_ok nmX2 3 (by decide) fX2_own_25 rfl rfl rfl rfl (Nat.le_of_ble_eq_true rfl) rfl ?_
  refine g_aload_n Z dX2_own_42 0 rfl rfl ?_
  refine g_get Z dX2_own_43 0 rfl rfl nX2_own_X2 3 (by decide) fX2_own_25 rfl ?_
  exact g_iret Z dX2_own_46 rfl ⟨Nat.zero_le _, Nat.zero_le _⟩ ⟨rfl, rfl⟩


set_option maxHeartbeats 4000000 in
set_option maxRecDepth 100000 in
theorem qX2_fitN (E : zE) (x rw ln t1 t2 : Nat) (nb dn : Nat) (RF : Nat → Option Nat) (D : Nat → Int32) (A B : TB) (o k f s : Nat) (K F G : Nat → Int32) (z : Nat) (j : Nat) (i : Int32) (hnb : nb ≤ 4) (hj : j < nb) (hr : RF j = some o) (hz : z ≤ 8) (hv : ¬ inB z i) : zF E yX2_fit wsX2_fit rX2_fit [.ref x, .int (nI j), .int i] [cO x 2 [.ref rw, .int (nI nb), .ref ln, .int (nI dn), .ref t1, .ref t2], cQ E rw 4 RF, cI E ln 12 D, cO t1 1 [.long (ta A), .long (tb A), .long (tc A), .long (td A), .long (te A), .long (tf A), .long (tg A)], cO t2 1 [.long (ta B), .long (tb B), .long (tc B), .long (td B), .long (te B), .long (tf B), .long (tg B)], cO o 0 [.ref k, .ref f, .ref s, .int (nI z)], cI E k 8 K, cI E f 8 F, cI E s 8 G] (zx (some (.int (-1))) ([cO x 2 [.ref rw, .int (nI nb), .ref ln, .int (nI dn), .ref t1, .ref t2], cQ E rw 4 RF, cI E ln 12 D, cO t1 1 [.long (ta A), .long (tb A), .long (tc A), .long (td A), .long (te A), .long (tf A), .long (tg A)], cO t2 1 [.long (ta B), .long (tb B), .long (tc B), .long (td B), .long (te B), .long (tf B), .long (tg B)], cO o 0 [.ref k, .ref f, .ref s, .int (nI z)], cI E k 8 K, cI E f 8 F, cI E s 8 G])) := by
  refine z_start RX2 "fit" (by decide) rfl rfl rfl (Nat.le_of_ble_eq_true rfl) ?_
  intro J Z
  refine g_eq Z (lv2 := [(0, .ref x), (1, .int (nI j)), (2, .int i)]) rfl rfl rfl ?_
  refine g_aload_n Z dX2_fit_0 0 rfl rfl ?_
  refine g_iload_n Z dX2_fit_1 1 rfl rfl ?_
  refine g_callVx (w' := [cO x 2 [.ref rw, .int (nI nb), .ref ln, .int (nI dn), .ref t1, .ref t2], cQ E rw 4 RF, cI E ln 12 D, cO t1 1 [.long (ta A), .long (tb A), .long (tc A), .long (td A), .long (te A), .long (tf A), .long (tg A)], cO t2 1 [.long (ta B), .long (tb B), .long (tc B), .long (td B), .long (te B), .long (tf B), .long (tg B)], cO o 0 [.ref k, .ref f, .ref s, .int (nI z)], cI E k 8 K, cI E f 8 F, cI E s 8 G]) Z (qX2_rowAt E x rw ln t1 t2 nb dn RF j o hj hnb hr) iX2_rowAt gX2_fit_X2_rowAt ⟨rfl, rfl⟩ ⟨Nat.le_of_ble_eq_true rfl, Nat.le_of_ble_eq_true rfl⟩ dX2_fit_2 rfl rfl (Nat.le_of_ble_eq_true rfl) ⟨Nat.zero_le _, Nat.zero_le _⟩ [0, 1] rfl rfl 0 rfl rfl rfl rfl rfl ?_
  refine g_astore_n (lv' := [(3, .ref o), (0, .ref x), (1, .int (nI j)), (2, .int i)]) Z dX2_fit_5 rfl (by decide) rfl ?_
  refine g_aload_n Z dX2_fit_6 0 rfl rfl ?_
  refine g_ifnull Z dX2_fit_7 ?_
  refine g_aload_n Z dX2_fit_10 0 rfl rfl ?_
  refine g_iload_n Z dX2_fit_11 3 rfl rfl ?_
  refine g_callVx (w' := [cO x 2 [.ref rw, .int (nI nb), .ref ln, .int (nI dn), .ref t1, .ref t2], cQ E rw 4 RF, cI E ln 12 D, cO t1 1 [.long (ta A), .long (tb A), .long (tc A), .long (td A), .long (te A), .long (tf A), .long (tg A)], cO t2 1 [.long (ta B), .long (tb B), .long (tc B), .long (td B), .long (te B), .long (tf B), .long (tg B)], cO o 0 [.ref k, .ref f, .ref s, .int (nI z)], cI E k 8 K, cI E f 8 F, cI E s 8 G]) Z (qX0_has E o k f s (nI z) i) iX0_has gX2_fit_X0_has ⟨rfl, rfl⟩ ⟨Nat.le_of_ble_eq_true rfl, Nat.le_of_ble_eq_true rfl⟩ dX2_fit_12 rfl rfl (Nat.le_of_ble_eq_true rfl) ⟨Nat.zero_le _, Nat.zero_le _⟩ [5] rfl rfl 0 rfl rfl rfl rfl rfl ?_
  refine g_ifb_ne (tgt := 20) Z dX2_fit_15 (by decide) (fun c_15 => absurd c_15 (fun q => hv ((inB_X (by omega)).mp q))) (fun c_15 => ?_)
  refine g_iconst Z dX2_fit_18 zi_m1 ?_
  exact g_iret Z dX2_fit_19 rfl ⟨Nat.zero_le _, Nat.zero_le _⟩ ⟨rfl, rfl⟩

theorem nX2_fit_X0 : ∀ w ∈ wsX00, w ∈ wsX2_fit := by decide +kernel
theorem fX2_fit_61 : Cond.fieldLink RX2 61 (TX0 0).1 (TX0 0).2.1 (TX0 0).2.2.1 ∈ wsX2_fit := by decide +kernel
set_option maxHeartbeats 4000000 in
set_option maxRecDepth 100000 in
theorem qX2_fitS (E : zE) (x rw ln t1 t2 : Nat) (nb dn : Nat) (RF : Nat → Option Nat) (D : Nat → Int32) (A B : TB) (o k f s : Nat) (K F G : Nat → Int32) (z : Nat) (j : Nat) (p : Nat) (hnb : nb ≤ 4) (hj : j < nb) (hr : RF j = some o) (hz : z ≤ 8) (hp : p < z) (hk : ¬ K p = 1) : zF E yX2_fit wsX2_fit rX2_fit [.ref x, .int (nI j), .int (nI p)] [cO x 2 [.ref rw, .int (nI nb), .ref ln, .int (nI dn), .ref t1, .ref t2], cQ E rw 4 RF, cI E ln 12 D, cO t1 1 [.long (ta A), .long (tb A), .long (tc A), .long (td A), .long (te A), .long (tf A), .long (tg A)], cO t2 1 [.long (ta B), .long (tb B), .long (tc B), .long (td B), .long (te B), .long (tf B), .long (tg B)], cO o 0 [.ref k, .ref f, .ref s, .int (nI z)], cI E k 8 K, cI E f 8 F, cI E s 8 G] (zx (some (.int (-3))) ([cO x 2 [.ref rw, .int (nI nb), .ref ln, .int (nI dn), .ref t1, .ref t2], cQ E rw 4 RF, cI E ln 12 D, cO t1 1 [.long (ta A), .long (tb A), .long (tc A), .long (td A), .long (te A), .long (tf A), .long (tg A)], cO t2 1 [.long (ta B), .long (tb B), .long (tc B), .long (td B), .long (te B), .long (tf B), .long (tg B)], cO o 0 [.ref k, .ref f, .ref s, .int (nI z)], cI E k 8 K, cI E f 8 F, cI E s 8 G])) := by
  refine z_start RX2 "fit" (by decide) rfl rfl rfl (Nat.le_of_ble_eq_true rfl) ?_
  intro J Z
  refine g_eq Z (lv2 := [(0, .ref x), (1, .int (nI j)), (2, .int (nI p))]) rfl rfl rfl ?_
  refine g_aload_n Z dX2_fit_0 0 rfl rfl ?_
  refine g_iload_n Z dX2_fit_1 1 rfl rfl ?_
  refine g_callVx (w' := [cO x 2 [.ref rw, .int (nI nb), .ref ln, .int (nI dn), .ref t1, .ref t2], cQ E rw 4 RF, cI E ln 12 D, cO t1 1 [.long (ta A), .long (tb A), .long (tc A), .long (td A), .long (te A), .long (tf A), .long (tg A)], cO t2 1 [.long (ta B), .long (tb B), .long (tc B), .long (td B), .long (te B), .long (tf B), .long (tg B)], cO o 0 [.ref k, .ref f, .ref s, .int (nI z)], cI E k 8 K, cI E f 8 F, cI E s 8 G]) Z (qX2_rowAt E x rw ln t1 t2 nb dn RF j o hj hnb hr) iX2_rowAt gX2_fit_X2_rowAt ⟨rfl, rfl⟩ ⟨Nat.le_of_ble_eq_true rfl, Nat.le_of_ble_eq_true rfl⟩ dX2_fit_2 rfl rfl (Nat.le_of_ble_eq_true rfl) ⟨Nat.zero_le _, Nat.zero_le _⟩ [0, 1] rfl rfl 0 rfl rfl rfl rfl rfl ?_
  refine g_astore_n (lv' := [(3, .ref o), (0, .ref x), (1, .int (nI j)), (2, .int (nI p))]) Z dX2_fit_5 rfl (by decide) rfl ?_
  refine g_aload_n Z dX2_fit_6 0 rfl rfl ?_
  refine g_ifnull Z dX2_fit_7 ?_
  refine g_aload_n Z dX2_fit_10 0 rfl rfl ?_
  refine g_iload_n Z dX2_fit_11 3 rfl rfl ?_
  refine g_callVx (w' := [cO x 2 [.ref rw, .int (nI nb), .ref ln, .int (nI dn), .ref t1, .ref t2], cQ E rw 4 RF, cI E ln 12 D, cO t1 1 [.long (ta A), .long (tb A), .long (tc A), .long (td A), .long (te A), .long (tf A), .long (tg A)], cO t2 1 [.long (ta B), .long (tb B), .long (tc B), .long (td B), .long (te B), .long (tf B), .long (tg B)], cO o 0 [.ref k, .ref f, .ref s, .int (nI z)], cI E k 8 K, cI E f 8 F, cI E s 8 G]) Z (qX0_hasN E o k f s z p (by omega) (by omega)) iX0_has gX2_fit_X0_has ⟨rfl, rfl⟩ ⟨Nat.le_of_ble_eq_true rfl, Nat.le_of_ble_eq_true rfl⟩ dX2_fit_12 rfl rfl (Nat.le_of_ble_eq_true rfl) ⟨Nat.zero_le _, Nat.zero_le _⟩ [5] rfl rfl 0 rfl rfl rfl rfl rfl ?_
  refine g_ifb_ne (tgt := 20) Z dX2_fit_15 (by decide) (fun c_15 => ?_) (fun c_15 => absurd c_15 (fun q => q hp))
  refine g_aload_n Z dX2_fit_20 0 rfl rfl ?_
  refine g_get Z dX2_fit_21 5 rfl rfl nX2_fit_X0 0 (by decide) fX2_fit_61 rfl ?_
  refine g_iload_n Z dX2_fit_24 3 rfl rfl ?_
  refine g_iald Z dX2_fit_25 6 rfl p rfl (by omega) rfl ?_
  refine g_iconst Z dX2_fit_26 zi_1 ?_
  refine g_icmp_eq (tgt := 33) Z dX2_fit_27 (by decide) (fun c_27 => absurd c_27 hk) (fun c_27 => ?_)
  refine g_bipush Z dX2_fit_30 zb_m3 ?_
  exact g_iret Z dX2_fit_32 rfl ⟨Nat.zero_le _, Nat.zero_le _⟩ ⟨rfl, rfl⟩

theorem nX2_fit_X2 : ∀ w ∈ wsX20, w ∈ wsX2_fit := by decide +kernel
theorem fX2_fit_25 : Cond.fieldLink RX2 25 (TX2 3).1 (TX2 3).2.1 (TX2 3).2.2.1 ∈ wsX2_fit := by decide +kernel
theorem fX2_fit_21 : Cond.fieldLink RX2 21 (TX2 2).1 (TX2 2).2.1 (TX2 2).2.2.1 ∈ wsX2_fit := by decide +kernel
set_option maxHeartbeats 4000000 in
set_option maxRecDepth 100000 in
theorem lX2_fit (E : zE) (x rw ln t1 t2 : Nat) (nb dn : Nat) (RF : Nat → Option Nat) (D : Nat → Int32) (A B : TB) (o k f s : Nat) (K F G : Nat → Int32) (z : Nat) (j : Nat) (p : Nat) (hnb : nb ≤ 4) (hj : j < nb) (hr : RF j = some o) (hz : z ≤ 8) (hp : p < z) (hd : dn ≤ 12) (hk : K p = 1) {J : zJ} (Z : zOk E J RX2 cX2_fit 5 (some .int) wsX2_fit rX2_fit "fit" (fun _ => True) (fun ov wv => ov = some (.int (fitX K F G D z p 0 dn)) ∧ ∃ A2 B2 : TB, wv = [cO x 2 [.ref rw, .int (nI nb), .ref ln, .int (nI dn), .ref t1, .ref t2], cQ E rw 4 RF, cI E ln 12 D, cO t1 1 [.long (ta A2), .long (tb A2), .long (tc A2), .long (td A2), .long (te A2), .long (tf A2), .long (tg A2)], cO t2 1 [.long (ta B2), .long (tb B2), .long (tc B2), .long (td B2), .long (te B2), .long (tf B2), .long (tg B2)], cO o 0 [.ref k, .ref f, .ref s, .int (nI z)], cI E k 8 K, cI E f 8 F, cI E s 8 G]))  : ∀ (d : Nat) (q : Nat) (C C2 : TB), q + d = dn → fitX K F G D z p q d = fitX K F G D z p 0 dn → J 0 0 [cO x 2 [.ref rw, .int (nI nb), .ref ln, .int (nI dn), .ref t1, .ref t2], cQ E rw 4 RF, cI E ln 12 D, cO t1 1 [.long (ta C), .long (tb C), .long (tc C), .long (td C), .long (te C), .long (tf C), .long (tg C)], cO t2 1 [.long (ta C2), .long (tb C2), .long (tc C2), .long (td C2), .long (te C2), .long (tf C2), .long (tg C2)], cO o 0 [.ref k, .ref f, .ref s, .int (nI z)], cI E k 8 K, cI E f 8 F, cI E s 8 G] 36 [(4, .int (nI q)), (3, .ref o), (0, .ref x), (1, .int (nI j)), (2, .int (nI p))] [] := by
  intro d
  induction d with
  | zero =>
    intro q C C2 h1 h2
    refine g_iload Z dX2_fit_36 0 rfl ?_
    refine g_aload_n Z dX2_fit_38 2 rfl rfl ?_
    refine g_get Z dX2_fit_39 0 rfl rfl nX2_fit_X2 3 (by decide) fX2_fit_25 rfl ?_
    refine g_icmpN_ge (tgt := 70) Z dX2_fit_42 (by decide) q dn rfl rfl (by omega) (by omega) (fun c_42 => ?_) (fun c_42 => absurd c_42 (by omega))
    refine g_iconst Z dX2_fit_70 zi_m1 ?_
    exact g_iret Z dX2_fit_71 rfl ⟨Nat.zero_le _, Nat.zero_le _⟩ ⟨by rw [← h2]; rfl, _, _, rfl⟩
  | succ d ih =>
    intro q C C2 h1 h2
    refine g_iload Z dX2_fit_36 0 rfl ?_
    refine g_aload_n Z dX2_fit_38 2 rfl rfl ?_
    refine g_get Z dX2_fit_39 0 rfl rfl nX2_fit_X2 3 (by decide) fX2_fit_25 rfl ?_
    refine g_icmpN_ge (tgt := 70) Z dX2_fit_42 (by decide) q dn rfl rfl (by omega) (by omega) (fun c_42 => absurd c_42 (by omega)) (fun c_42 => ?_)
    refine g_aload_n Z dX2_fit_45 2 rfl rfl ?_
    refine g_aload_n Z dX2_fit_46 1 rfl rfl ?_
    refine g_iload_n Z dX2_fit_47 4 rfl rfl ?_
    refine g_aload_n Z dX2_fit_48 2 rfl rfl ?_
    refine g_get Z dX2_fit_49 0 rfl rfl nX2_fit_X2 2 (by decide) fX2_fit_21 rfl ?_
    refine g_iload Z dX2_fit_52 0 rfl ?_
    refine g_iald Z dX2_fit_54 2 rfl q rfl (by omega) rfl ?_
    refine g_callVx (w' := [cO x 2 [.ref rw, .int (nI nb), .ref ln, .int (nI dn), .ref t1, .ref t2], cQ E rw 4 RF, cI E ln 12 D, cO t1 1 [.long (ta (tabX K (upd F p (D q)) G 0 z)), .long (tb (tabX K (upd F p (D q)) G 0 z)), .long (tc (tabX K (upd F p (D q)) G 0 z)), .long (td (tabX K (upd F p (D q)) G 0 z)), .long (te (tabX K (upd F p (D q)) G 0 z)), .long (tf (tabX K (upd F p (D q)) G 0 z)), .long (tg (tabX K (upd F p (D q)) G 0 z))], cO t2 1 [.long (ta (tabX K (upd F p (D q)) G 1 z)), .long (tb (tabX K (upd F p (D q)) G 1 z)), .long (tc (tabX K (upd F p (D q)) G 1 z)), .long (td (tabX K (upd F p (D q)) G 1 z)), .long (te (tabX K (upd F p (D q)) G 1 z)), .long (tf (tabX K (upd F p (D q)) G 1 z)), .long (tg (tabX K (upd F p (D q)) G 1 z))], cO o 0 [.ref k, .ref f, .ref s, .int (nI z)], cI E k 8 K, cI E f 8 F, cI E s 8 G]) Z (qX2_holdsWith E x rw ln t1 t2 nb dn C C2 o k f s K F G z p (D q) (by omega) (by omega)) iX2_holdsWith gX2_fit_X2_holdsWith ⟨rfl, rfl⟩ ⟨Nat.le_of_ble_eq_true rfl, Nat.le_of_ble_eq_true rfl⟩ dX2_fit_55 rfl rfl (Nat.le_of_ble_eq_true rfl) ⟨Nat.zero_le _, Nat.zero_le _⟩ [0, 3, 4, 5, 6, 7, 8] rfl rfl 0 rfl rfl rfl rfl rfl ?_
    refine g_ifb_eq (tgt := 64) Z dX2_fit_58 (by decide) (fun c_58 => ?_) (fun c_58 => ?_)
    · refine g_iinc (lv' := [(4, .int (nI (q + 1))), (3, .ref o), (0, .ref x), (1, .int (nI j)), (2, .int (nI p))]) Z dX2_fit_64 0 rfl (zinc _) (by decide) rfl ?_
      refine g_goto (tgt := 36) Z dX2_fit_67 (by decide) ?_
      rw [fitX, if_neg c_58] at h2
      refine g_lv (lv2 := [(4, .int (nI (q + 1))), (3, .ref o), (0, .ref x), (1, .int (nI j)), (2, .int (nI p))]) Z [0, 1, 2, 3, 4] rfl ?_
      exact ih (q + 1) _ _ (by omega) h2
    · rw [fitX, if_pos c_58] at h2
      refine g_iload Z dX2_fit_61 0 rfl ?_
      exact g_iret Z dX2_fit_63 rfl ⟨Nat.zero_le _, Nat.zero_le _⟩ ⟨by rw [← h2], _, _, rfl⟩
set_option maxHeartbeats 4000000 in
set_option maxRecDepth 100000 in
theorem qX2_fit (E : zE) (x rw ln t1 t2 : Nat) (nb dn : Nat) (RF : Nat → Option Nat) (D : Nat → Int32) (A B : TB) (o k f s : Nat) (K F G : Nat → Int32) (z : Nat) (j : Nat) (p : Nat) (hnb : nb ≤ 4) (hj : j < nb) (hr : RF j = some o) (hz : z ≤ 8) (hp : p < z) (hd : dn ≤ 12) (hk : K p = 1) : zF E yX2_fit wsX2_fit rX2_fit [.ref x, .int (nI j), .int (nI p)] [cO x 2 [.ref rw, .int (nI nb), .ref ln, .int (nI dn), .ref t1, .ref t2], cQ E rw 4 RF, cI E ln 12 D, cO t1 1 [.long (ta A), .long (tb A), .long (tc A), .long (td A), .long (te A), .long (tf A), .long (tg A)], cO t2 1 [.long (ta B), .long (tb B), .long (tc B), .long (td B), .long (te B), .long (tf B), .long (tg B)], cO o 0 [.ref k, .ref f, .ref s, .int (nI z)], cI E k 8 K, cI E f 8 F, cI E s 8 G] (fun ov wv => ov = some (.int (fitX K F G D z p 0 dn)) ∧ ∃ A2 B2 : TB, wv = [cO x 2 [.ref rw, .int (nI nb), .ref ln, .int (nI dn), .ref t1, .ref t2], cQ E rw 4 RF, cI E ln 12 D, cO t1 1 [.long (ta A2), .long (tb A2), .long (tc A2), .long (td A2), .long (te A2), .long (tf A2), .long (tg A2)], cO t2 1 [.long (ta B2), .long (tb B2), .long (tc B2), .long (td B2), .long (te B2), .long (tf B2), .long (tg B2)], cO o 0 [.ref k, .ref f, .ref s, .int (nI z)], cI E k 8 K, cI E f 8 F, cI E s 8 G]) := by
  refine z_start RX2 "fit" (by decide) rfl rfl rfl (Nat.le_of_ble_eq_true rfl) ?_
  intro J Z
  refine g_eq Z (lv2 := [(0, .ref x), (1, .int (nI j)), (2, .int (nI p))]) rfl rfl rfl ?_
  refine g_aload_n Z dX2_fit_0 0 rfl rfl ?_
  refine g_iload_n Z dX2_fit_1 1 rfl rfl ?_
  refine g_callVx (w' := [cO x 2 [.ref rw, .int (nI nb), .ref ln, .int (nI dn), .ref t1, .ref t2], cQ E rw 4 RF, cI E ln 12 D, cO t1 1 [.long (ta A), .long (tb A), .long (tc A), .long (td A), .long (te A), .long (tf A), .long (tg A)], cO t2 1 [.long (ta B), .long (tb B), .long (tc B), .long (td B), .long (te B), .long (tf B), .long (tg B)], cO o 0 [.ref k, .ref f, .ref s, .int (nI z)], cI E k 8 K, cI E f 8 F, cI E s 8 G]) Z (qX2_rowAt E x rw ln t1 t2 nb dn RF j o hj hnb hr) iX2_rowAt gX2_fit_X2_rowAt ⟨rfl, rfl⟩ ⟨Nat.le_of_ble_eq_true rfl, Nat.le_of_ble_eq_true rfl⟩ dX2_fit_2 rfl rfl (Nat.le_of_ble_eq_true rfl) ⟨Nat.zero_le _, Nat.zero_le _⟩ [0, 1] rfl rfl 0 rfl rfl rfl rfl rfl ?_
  refine g_astore_n (lv' := [(3, .ref o), (0, .ref x), (1, .int (nI j)), (2, .int (nI p))]) Z dX2_fit_5 rfl (by decide) rfl ?_
  refine g_aload_n Z dX2_fit_6 0 rfl rfl ?_
  refine g_ifnull Z dX2_fit_7 ?_
  refine g_aload_n Z dX2_fit_10 0 rfl rfl ?_
  refine g_iload_n Z dX2_fit_11 3 rfl rfl ?_
  refine g_callVx (w' := [cO x 2 [.ref rw, .int (nI nb), .ref ln, .int (nI dn), .ref t1, .ref t2], cQ E rw 4 RF, cI E ln 12 D, cO t1 1 [.long (ta A), .long (tb A), .long (tc A), .long (td A), .long (te A), .long (tf A), .long (tg A)], cO t2 1 [.long (ta B), .long (tb B), .long (tc B), .long (td B), .long (te B), .long (tf B), .long (tg B)], cO o 0 [.ref k, .ref f, .ref s, .int (nI z)], cI E k 8 K, cI E f 8 F, cI E s 8 G]) Z (qX0_hasN E o k f s z p (by omega) (by omega)) iX0_has gX2_fit_X0_has ⟨rfl, rfl⟩ ⟨Nat.le_of_ble_eq_true rfl, Nat.le_of_ble_eq_true rfl⟩ dX2_fit_12 rfl rfl (Nat.le_of_ble_eq_true rfl) ⟨Nat.zero_le _, Nat.zero_le _⟩ [5] rfl rfl 0 rfl rfl rfl rfl rfl ?_
  refine g_ifb_ne (tgt := 20) Z dX2_fit_15 (by decide) (fun c_15 => ?_) (fun c_15 => absurd c_15 (fun q => q hp))
  refine g_aload_n Z dX2_fit_20 0 rfl rfl ?_
  refine g_get Z dX2_fit_21 5 rfl rfl nX2_fit_X0 0 (by decide) fX2_fit_61 rfl ?_
  refine g_iload_n Z dX2_fit_24 3 rfl rfl ?_
  refine g_iald Z dX2_fit_25 6 rfl p rfl (by omega) rfl ?_
  refine g_iconst Z dX2_fit_26 zi_1 ?_
  refine g_icmp_eq (tgt := 33) Z dX2_fit_27 (by decide) (fun c_27 => ?_) (fun c_27 => absurd c_27 (fun q => q hk))
  refine g_iconst Z dX2_fit_33 zi_0 ?_
  refine g_istore (lv' := [(4, .int 0), (3, .ref o), (0, .ref x), (1, .int (nI j)), (2, .int (nI p))]) Z dX2_fit_34 (by decide) rfl ?_
  exact lX2_fit E x rw ln t1 t2 nb dn RF D A B o k f s K F G z j p hnb hj hr hz hp hd hk Z dn 0 A B (by omega) rfl


set_option maxHeartbeats 4000000 in
set_option maxRecDepth 100000 in
theorem qX2_swapN (E : zE) (x rw ln t1 t2 : Nat) (nb dn : Nat) (RF : Nat → Option Nat) (D : Nat → Int32) (A B : TB) (o k f s : Nat) (K F G : Nat → Int32) (z : Nat) (j : Nat) (i v : Int32) (hnb : nb ≤ 4) (hj : j < nb) (hr : RF j = some o) (hz : z ≤ 8) (hd : dn ≤ 12) (hv : ¬ (inB z i ∧ inB dn v)) : zF E yX2_swap wsX2_swap rX2_swap [.ref x, .int (nI j), .int i, .int v] [cO x 2 [.ref rw, .int (nI nb), .ref ln, .int (nI dn), .ref t1, .ref t2], cQ E rw 4 RF, cI E ln 12 D, cO t1 1 [.long (ta A), .long (tb A), .long (tc A), .long (td A), .long (te A), .long (tf A), .long (tg A)], cO t2 1 [.long (ta B), .long (tb B), .long (tc B), .long (td B), .long (te B), .long (tf B), .long (tg B)], cO o 0 [.ref k, .ref f, .ref s, .int (nI z)], cI E k 8 K, cI E f 8 F, cI E s 8 G] (zx (some (.int (-1))) ([cO x 2 [.ref rw, .int (nI nb), .ref ln, .int (nI dn), .ref t1, .ref t2], cQ E rw 4 RF, cI E ln 12 D, cO t1 1 [.long (ta A), .long (tb A), .long (tc A), .long (td A), .long (te A), .long (tf A), .long (tg A)], cO t2 1 [.long (ta B), .long (tb B), .long (tc B), .long (td B), .long (te B), .long (tf B), .long (tg B)], cO o 0 [.ref k, .ref f, .ref s, .int (nI z)], cI E k 8 K, cI E f 8 F, cI E s 8 G])) := by
  refine z_start RX2 "swap" (by decide) rfl rfl rfl (Nat.le_of_ble_eq_true rfl) ?_
  intro J Z
  refine g_eq Z (lv2 := [(0, .ref x), (1, .int (nI j)), (2, .int i), (3, .int v)]) rfl rfl rfl ?_
  refine g_aload_n Z dX2_swap_0 0 rfl rfl ?_
  refine g_iload_n Z dX2_swap_1 1 rfl rfl ?_
  refine g_callVx (w' := [cO x 2 [.ref rw, .int (nI nb), .ref ln, .int (nI dn), .ref t1, .ref t2], cQ E rw 4 RF, cI E ln 12 D, cO t1 1 [.long (ta A), .long (tb A), .long (tc A), .long (td A), .long (te A), .long (tf A), .long (tg A)], cO t2 1 [.long (ta B), .long (tb B), .long (tc B), .long (td B), .long (te B), .long (tf B), .long (tg B)], cO o 0 [.ref k, .ref f, .ref s, .int (nI z)], cI E k 8 K, cI E f 8 F, cI E s 8 G]) Z (qX2_rowAt E x rw ln t1 t2 nb dn RF j o hj hnb hr) iX2_rowAt gX2_swap_X2_rowAt ⟨rfl, rfl⟩ ⟨Nat.le_of_ble_eq_true rfl, Nat.le_of_ble_eq_true rfl⟩ dX2_swap_2 rfl rfl (Nat.le_of_ble_eq_true rfl) ⟨Nat.zero_le _, Nat.zero_le _⟩ [0, 1] rfl rfl 0 rfl rfl rfl rfl rfl ?_
  refine g_astore (lv' := [(4, .ref o), (0, .ref x), (1, .int (nI j)), (2, .int i), (3, .int v)]) Z dX2_swap_5 (by decide) rfl ?_
  refine g_aload Z dX2_swap_7 0 rfl ?_
  refine g_ifnull Z dX2_swap_9 ?_
  refine g_aload Z dX2_swap_12 0 rfl ?_
  refine g_iload_n Z dX2_swap_14 3 rfl rfl ?_
  refine g_callVx (w' := [cO x 2 [.ref rw, .int (nI nb), .ref ln, .int (nI dn), .ref t1, .ref t2], cQ E rw 4 RF, cI E ln 12 D, cO t1 1 [.long (ta A), .long (tb A), .long (tc A), .long (td A), .long (te A), .long (tf A), .long (tg A)], cO t2 1 [.long (ta B), .long (tb B), .long (tc B), .long (td B), .long (te B), .long (tf B), .long (tg B)], cO o 0 [.ref k, .ref f, .ref s, .int (nI z)], cI E k 8 K, cI E f 8 F, cI E s 8 G]) Z (qX0_has E o k f s (nI z) i) iX0_has gX2_swap_X0_has ⟨rfl, rfl⟩ ⟨Nat.le_of_ble_eq_true rfl, Nat.le_of_ble_eq_true rfl⟩ dX2_swap_15 rfl rfl (Nat.le_of_ble_eq_true rfl) ⟨Nat.zero_le _, Nat.zero_le _⟩ [5] rfl rfl 0 rfl rfl rfl rfl rfl ?_
  refine g_ifb_eq (tgt := 29) Z dX2_swap_18 (by decide) (fun c_18 => ?_) (fun c_18 => ?_)
  · refine g_iconst Z dX2_swap_29 zi_m1 ?_
    exact g_iret Z dX2_swap_30 rfl ⟨Nat.zero_le _, Nat.zero_le _⟩ ⟨rfl, rfl⟩
  · refine g_aload_n Z dX2_swap_21 1 rfl rfl ?_
    refine g_iload_n Z dX2_swap_22 4 rfl rfl ?_
    refine g_callVx (w' := [cO x 2 [.ref rw, .int (nI nb), .ref ln, .int (nI dn), .ref t1, .ref t2], cQ E rw 4 RF, cI E ln 12 D, cO t1 1 [.long (ta A), .long (tb A), .long (tc A), .long (td A), .long (te A), .long (tf A), .long (tg A)], cO t2 1 [.long (ta B), .long (tb B), .long (tc B), .long (td B), .long (te B), .long (tf B), .long (tg B)], cO o 0 [.ref k, .ref f, .ref s, .int (nI z)], cI E k 8 K, cI E f 8 F, cI E s 8 G]) Z (qX2_isPlace E x rw ln t1 t2 nb dn RF v (by omega)) iX2_isPlace gX2_swap_X2_isPlace ⟨rfl, rfl⟩ ⟨Nat.le_of_ble_eq_true rfl, Nat.le_of_ble_eq_true rfl⟩ dX2_swap_23 rfl rfl (Nat.le_of_ble_eq_true rfl) ⟨Nat.zero_le _, Nat.zero_le _⟩ [0] rfl rfl 0 rfl rfl rfl rfl rfl ?_
    refine g_ifb_ne (tgt := 31) Z dX2_swap_26 (by decide) (fun c_26 => ?_) (fun c_26 => ?_)
    · exact absurd ⟨(inB_X (by omega)).mp c_18, c_26⟩ hv
    · refine g_iconst Z dX2_swap_29 zi_m1 ?_
      exact g_iret Z dX2_swap_30 rfl ⟨Nat.zero_le _, Nat.zero_le _⟩ ⟨rfl, rfl⟩

theorem nX2_swap_X0 : ∀ w ∈ wsX00, w ∈ wsX2_swap := by decide +kernel
theorem fX2_swap_61 : Cond.fieldLink RX2 61 (TX0 0).1 (TX0 0).2.1 (TX0 0).2.2.1 ∈ wsX2_swap := by decide +kernel
set_option maxHeartbeats 4000000 in
set_option maxRecDepth 100000 in
theorem qX2_swapS (E : zE) (x rw ln t1 t2 : Nat) (nb dn : Nat) (RF : Nat → Option Nat) (D : Nat → Int32) (A B : TB) (o k f s : Nat) (K F G : Nat → Int32) (z : Nat) (j : Nat) (p : Nat) (q : Nat) (hnb : nb ≤ 4) (hj : j < nb) (hr : RF j = some o) (hz : z ≤ 8) (hp : p < z) (hd : dn ≤ 12) (hq : q < dn) (hk : ¬ K p = 1) : zF E yX2_swap wsX2_swap rX2_swap [.ref x, .int (nI j), .int (nI p), .int (nI q)] [cO x 2 [.ref rw, .int (nI nb), .ref ln, .int (nI dn), .ref t1, .ref t2], cQ E rw 4 RF, cI E ln 12 D, cO t1 1 [.long (ta A), .long (tb A), .long (tc A), .long (td A), .long (te A), .long (tf A), .long (tg A)], cO t2 1 [.long (ta B), .long (tb B), .long (tc B), .long (td B), .long (te B), .long (tf B), .long (tg B)], cO o 0 [.ref k, .ref f, .ref s, .int (nI z)], cI E k 8 K, cI E f 8 F, cI E s 8 G] (zx (some (.int (-3))) ([cO x 2 [.ref rw, .int (nI nb), .ref ln, .int (nI dn), .ref t1, .ref t2], cQ E rw 4 RF, cI E ln 12 D, cO t1 1 [.long (ta A), .long (tb A), .long (tc A), .long (td A), .long (te A), .long (tf A), .long (tg A)], cO t2 1 [.long (ta B), .long (tb B), .long (tc B), .long (td B), .long (te B), .long (tf B), .long (tg B)], cO o 0 [.ref k, .ref f, .ref s, .int (nI z)], cI E k 8 K, cI E f 8 F, cI E s 8 G])) := by
  refine z_start RX2 "swap" (by decide) rfl rfl rfl (Nat.le_of_ble_eq_true rfl) ?_
  intro J Z
  refine g_eq Z (lv2 := [(0, .ref x), (1, .int (nI j)), (2, .int (nI p)), (3, .int (nI q))]) rfl rfl rfl ?_
  refine g_aload_n Z dX2_swap_0 0 rfl rfl ?_
  refine g_iload_n Z dX2_swap_1 1 rfl rfl ?_
  refine g_callVx (w' := [cO x 2 [.ref rw, .int (nI nb), .ref ln, .int (nI dn), .ref t1, .ref t2], cQ E rw 4 RF, cI E ln 12 D, cO t1 1 [.long (ta A), .long (tb A), .long (tc A), .long (td A), .long (te A), .long (tf A), .long (tg A)], cO t2 1 [.long (ta B), .long (tb B), .long (tc B), .long (td B), .long (te B), .long (tf B), .long (tg B)], cO o 0 [.ref k, .ref f, .ref s, .int (nI z)], cI E k 8 K, cI E f 8 F, cI E s 8 G]) Z (qX2_rowAt E x rw ln t1 t2 nb dn RF j o hj hnb hr) iX2_rowAt gX2_swap_X2_rowAt ⟨rfl, rfl⟩ ⟨Nat.le_of_ble_eq_true rfl, Nat.le_of_ble_eq_true rfl⟩ dX2_swap_2 rfl rfl (Nat.le_of_ble_eq_true rfl) ⟨Nat.zero_le _, Nat.zero_le _⟩ [0, 1] rfl rfl 0 rfl rfl rfl rfl rfl ?_
  refine g_astore (lv' := [(4, .ref o), (0, .ref x), (1, .int (nI j)), (2, .int (nI p)), (3, .int (nI q))]) Z dX2_swap_5 (by decide) rfl ?_
  refine g_aload Z dX2_swap_7 0 rfl ?_
  refine g_ifnull Z dX2_swap_9 ?_
  refine g_aload Z dX2_swap_12 0 rfl ?_
  refine g_iload_n Z dX2_swap_14 3 rfl rfl ?_
  refine g_callVx (w' := [cO x 2 [.ref rw, .int (nI nb), .ref ln, .int (nI dn), .ref t1, .ref t2], cQ E rw 4 RF, cI E ln 12 D, cO t1 1 [.long (ta A), .long (tb A), .long (tc A), .long (td A), .long (te A), .long (tf A), .long (tg A)], cO t2 1 [.long (ta B), .long (tb B), .long (tc B), .long (td B), .long (te B), .long (tf B), .long (tg B)], cO o 0 [.ref k, .ref f, .ref s, .int (nI z)], cI E k 8 K, cI E f 8 F, cI E s 8 G]) Z (qX0_hasN E o k f s z p (by omega) (by omega)) iX0_has gX2_swap_X0_has ⟨rfl, rfl⟩ ⟨Nat.le_of_ble_eq_true rfl, Nat.le_of_ble_eq_true rfl⟩ dX2_swap_15 rfl rfl (Nat.le_of_ble_eq_true rfl) ⟨Nat.zero_le _, Nat.zero_le _⟩ [5] rfl rfl 0 rfl rfl rfl rfl rfl ?_
  refine g_ifb_eq (tgt := 29) Z dX2_swap_18 (by decide) (fun c_18 => absurd c_18 (fun q => q hp)) (fun c_18 => ?_)
  refine g_aload_n Z dX2_swap_21 1 rfl rfl ?_
  refine g_iload_n Z dX2_swap_22 4 rfl rfl ?_
  refine g_callVx (w' := [cO x 2 [.ref rw, .int (nI nb), .ref ln, .int (nI dn), .ref t1, .ref t2], cQ E rw 4 RF, cI E ln 12 D, cO t1 1 [.long (ta A), .long (tb A), .long (tc A), .long (td A), .long (te A), .long (tf A), .long (tg A)], cO t2 1 [.long (ta B), .long (tb B), .long (tc B), .long (td B), .long (te B), .long (tf B), .long (tg B)], cO o 0 [.ref k, .ref f, .ref s, .int (nI z)], cI E k 8 K, cI E f 8 F, cI E s 8 G]) Z (qX2_isPlace E x rw ln t1 t2 nb dn RF (nI q) (by omega)) iX2_isPlace gX2_swap_X2_isPlace ⟨rfl, rfl⟩ ⟨Nat.le_of_ble_eq_true rfl, Nat.le_of_ble_eq_true rfl⟩ dX2_swap_23 rfl rfl (Nat.le_of_ble_eq_true rfl) ⟨Nat.zero_le _, Nat.zero_le _⟩ [0] rfl rfl 0 rfl rfl rfl rfl rfl ?_
  refine g_ifb_ne (tgt := 31) Z dX2_swap_26 (by decide) (fun c_26 => ?_) (fun c_26 => absurd c_26 (fun y => y (inB_nI hq (by omega))))
  refine g_aload Z dX2_swap_31 0 rfl ?_
  refine g_get Z dX2_swap_33 5 rfl rfl nX2_swap_X0 0 (by decide) fX2_swap_61 rfl ?_
  refine g_iload_n Z dX2_swap_36 3 rfl rfl ?_
  refine g_iald Z dX2_swap_37 6 rfl p rfl (by omega) rfl ?_
  refine g_iconst Z dX2_swap_38 zi_1 ?_
  refine g_icmp_eq (tgt := 45) Z dX2_swap_39 (by decide) (fun c_39 => absurd c_39 hk) (fun c_39 => ?_)
  refine g_bipush Z dX2_swap_42 zb_m3 ?_
  exact g_iret Z dX2_swap_44 rfl ⟨Nat.zero_le _, Nat.zero_le _⟩ ⟨rfl, rfl⟩

theorem fX2_swap_68 : Cond.fieldLink RX2 68 (TX0 1).1 (TX0 1).2.1 (TX0 1).2.2.1 ∈ wsX2_swap := by decide +kernel
theorem nX2_swap_X2 : ∀ w ∈ wsX20, w ∈ wsX2_swap := by decide +kernel
theorem fX2_swap_21 : Cond.fieldLink RX2 21 (TX2 2).1 (TX2 2).2.1 (TX2 2).2.2.1 ∈ wsX2_swap := by decide +kernel
set_option maxHeartbeats 4000000 in
set_option maxRecDepth 100000 in
theorem qX2_swap (E : zE) (x rw ln t1 t2 : Nat) (nb dn : Nat) (RF : Nat → Option Nat) (D : Nat → Int32) (A B : TB) (o k f s : Nat) (K F G : Nat → Int32) (z : Nat) (j : Nat) (p : Nat) (q : Nat) (hnb : nb ≤ 4) (hj : j < nb) (hr : RF j = some o) (hz : z ≤ 8) (hp : p < z) (hd : dn ≤ 12) (hq : q < dn) (hk : K p = 1) : zF E yX2_swap wsX2_swap rX2_swap [.ref x, .int (nI j), .int (nI p), .int (nI q)] [cO x 2 [.ref rw, .int (nI nb), .ref ln, .int (nI dn), .ref t1, .ref t2], cQ E rw 4 RF, cI E ln 12 D, cO t1 1 [.long (ta A), .long (tb A), .long (tc A), .long (td A), .long (te A), .long (tf A), .long (tg A)], cO t2 1 [.long (ta B), .long (tb B), .long (tc B), .long (td B), .long (te B), .long (tf B), .long (tg B)], cO o 0 [.ref k, .ref f, .ref s, .int (nI z)], cI E k 8 K, cI E f 8 F, cI E s 8 G] (zx (some (.int (F p))) ([cO x 2 [.ref rw, .int (nI nb), .ref ln, .int (nI dn), .ref t1, .ref t2], cQ E rw 4 RF, cI E ln 12 (upd D q (F p)), cO t1 1 [.long (ta A), .long (tb A), .long (tc A), .long (td A), .long (te A), .long (tf A), .long (tg A)], cO t2 1 [.long (ta B), .long (tb B), .long (tc B), .long (td B), .long (te B), .long (tf B), .long (tg B)], cO o 0 [.ref k, .ref f, .ref s, .int (nI z)], cI E k 8 K, cI E f 8 (upd F p (D q)), cI E s 8 G])) := by
  refine z_start RX2 "swap" (by decide) rfl rfl rfl (Nat.le_of_ble_eq_true rfl) ?_
  intro J Z
  refine g_eq Z (lv2 := [(0, .ref x), (1, .int (nI j)), (2, .int (nI p)), (3, .int (nI q))]) rfl rfl rfl ?_
  refine g_aload_n Z dX2_swap_0 0 rfl rfl ?_
  refine g_iload_n Z dX2_swap_1 1 rfl rfl ?_
  refine g_callVx (w' := [cO x 2 [.ref rw, .int (nI nb), .ref ln, .int (nI dn), .ref t1, .ref t2], cQ E rw 4 RF, cI E ln 12 D, cO t1 1 [.long (ta A), .long (tb A), .long (tc A), .long (td A), .long (te A), .long (tf A), .long (tg A)], cO t2 1 [.long (ta B), .long (tb B), .long (tc B), .long (td B), .long (te B), .long (tf B), .long (tg B)], cO o 0 [.ref k, .ref f, .ref s, .int (nI z)], cI E k 8 K, cI E f 8 F, cI E s 8 G]) Z (qX2_rowAt E x rw ln t1 t2 nb dn RF j o hj hnb hr) iX2_rowAt gX2_swap_X2_rowAt ⟨rfl, rfl⟩ ⟨Nat.le_of_ble_eq_true rfl, Nat.le_of_ble_eq_true rfl⟩ dX2_swap_2 rfl rfl (Nat.le_of_ble_eq_true rfl) ⟨Nat.zero_le _, Nat.zero_le _⟩ [0, 1] rfl rfl 0 rfl rfl rfl rfl rfl ?_
  refine g_astore (lv' := [(4, .ref o), (0, .ref x), (1, .int (nI j)), (2, .int (nI p)), (3, .int (nI q))]) Z dX2_swap_5 (by decide) rfl ?_
  refine g_aload Z dX2_swap_7 0 rfl ?_
  refine g_ifnull Z dX2_swap_9 ?_
  refine g_aload Z dX2_swap_12 0 rfl ?_
  refine g_iload_n Z dX2_swap_14 3 rfl rfl ?_
  refine g_callVx (w' := [cO x 2 [.ref rw, .int (nI nb), .ref ln, .int (nI dn), .ref t1, .ref t2], cQ E rw 4 RF, cI E ln 12 D, cO t1 1 [.long (ta A), .long (tb A), .long (tc A), .long (td A), .long (te A), .long (tf A), .long (tg A)], cO t2 1 [.long (ta B), .long (tb B), .long (tc B), .long (td B), .long (te B), .long (tf B), .long (tg B)], cO o 0 [.ref k, .ref f, .ref s, .int (nI z)], cI E k 8 K, cI E f 8 F, cI E s 8 G]) Z (qX0_hasN E o k f s z p (by omega) (by omega)) iX0_has gX2_swap_X0_has ⟨rfl, rfl⟩ ⟨Nat.le_of_ble_eq_true rfl, Nat.le_of_ble_eq_true rfl⟩ dX2_swap_15 rfl rfl (Nat.le_of_ble_eq_true rfl) ⟨Nat.zero_le _, Nat.zero_le _⟩ [5] rfl rfl 0 rfl rfl rfl rfl rfl ?_
  refine g_ifb_eq (tgt := 29) Z dX2_swap_18 (by decide) (fun c_18 => absurd c_18 (fun q => q hp)) (fun c_18 => ?_)
  refine g_aload_n Z dX2_swap_21 1 rfl rfl ?_
  refine g_iload_n Z dX2_swap_22 4 rfl rfl ?_
  refine g_callVx (w' := [cO x 2 [.ref rw, .int (nI nb), .ref ln, .int (nI dn), .ref t1, .ref t2], cQ E rw 4 RF, cI E ln 12 D, cO t1 1 [.long (ta A), .long (tb A), .long (tc A), .long (td A), .long (te A), .long (tf A), .long (tg A)], cO t2 1 [.long (ta B), .long (tb B), .long (tc B), .long (td B), .long (te B), .long (tf B), .long (tg B)], cO o 0 [.ref k, .ref f, .ref s, .int (nI z)], cI E k 8 K, cI E f 8 F, cI E s 8 G]) Z (qX2_isPlace E x rw ln t1 t2 nb dn RF (nI q) (by omega)) iX2_isPlace gX2_swap_X2_isPlace ⟨rfl, rfl⟩ ⟨Nat.le_of_ble_eq_true rfl, Nat.le_of_ble_eq_true rfl⟩ dX2_swap_23 rfl rfl (Nat.le_of_ble_eq_true rfl) ⟨Nat.zero_le _, Nat.zero_le _⟩ [0] rfl rfl 0 rfl rfl rfl rfl rfl ?_
  refine g_ifb_ne (tgt := 31) Z dX2_swap_26 (by decide) (fun c_26 => ?_) (fun c_26 => absurd c_26 (fun y => y (inB_nI hq (by omega))))
  refine g_aload Z dX2_swap_31 0 rfl ?_
  refine g_get Z dX2_swap_33 5 rfl rfl nX2_swap_X0 0 (by decide) fX2_swap_61 rfl ?_
  refine g_iload_n Z dX2_swap_36 3 rfl rfl ?_
  refine g_iald Z dX2_swap_37 6 rfl p rfl (by omega) rfl ?_
  refine g_iconst Z dX2_swap_38 zi_1 ?_
  refine g_icmp_eq (tgt := 45) Z dX2_swap_39 (by decide) (fun c_39 => ?_) (fun c_39 => absurd c_39 (fun y => y hk))
  refine g_aload Z dX2_swap_45 0 rfl ?_
  refine g_get Z dX2_swap_47 5 rfl rfl nX2_swap_X0 1 (by decide) fX2_swap_68 rfl ?_
  refine g_iload_n Z dX2_swap_50 3 rfl rfl ?_
  refine g_iald Z dX2_swap_51 7 rfl p rfl (by omega) rfl ?_
  refine g_istore (lv' := [(5, .int (F p)), (4, .ref o), (0, .ref x), (1, .int (nI j)), (2, .int (nI p)), (3, .int (nI q))]) Z dX2_swap_52 (by decide) rfl ?_
  refine g_aload Z dX2_swap_54 1 rfl ?_
  refine g_get Z dX2_swap_56 5 rfl rfl nX2_swap_X0 1 (by decide) fX2_swap_68 rfl ?_
  refine g_iload_n Z dX2_swap_59 4 rfl rfl ?_
  refine g_aload_n Z dX2_swap_60 2 rfl rfl ?_
  refine g_get Z dX2_swap_61 0 rfl rfl nX2_swap_X2 2 (by decide) fX2_swap_21 rfl ?_
  refine g_iload_n Z dX2_swap_64 5 rfl rfl ?_
  refine g_iald Z dX2_swap_65 2 rfl q rfl (by omega) rfl ?_
  refine g_iast (w' := [cO x 2 [.ref rw, .int (nI nb), .ref ln, .int (nI dn), .ref t1, .ref t2], cQ E rw 4 RF, cI E ln 12 D, cO t1 1 [.long (ta A), .long (tb A), .long (tc A), .long (td A), .long (te A), .long (tf A), .long (tg A)], cO t2 1 [.long (ta B), .long (tb B), .long (tc B), .long (td B), .long (te B), .long (tf B), .long (tg B)], cO o 0 [.ref k, .ref f, .ref s, .int (nI z)], cI E k 8 K, cI E f 8 (upd F p (D q)), cI E s 8 G]) Z dX2_swap_66 7 rfl p rfl (by omega) rfl rfl ?_
  refine g_aload_n Z dX2_swap_67 2 rfl rfl ?_
  refine g_get Z dX2_swap_68 0 rfl rfl nX2_swap_X2 2 (by decide) fX2_swap_21 rfl ?_
  refine g_iload_n Z dX2_swap_71 5 rfl rfl ?_
  refine g_iload Z dX2_swap_72 0 rfl ?_
  refine g_iast (w' := [cO x 2 [.ref rw, .int (nI nb), .ref ln, .int (nI dn), .ref t1, .ref t2], cQ E rw 4 RF, cI E ln 12 (upd D q (F p)), cO t1 1 [.long (ta A), .long (tb A), .long (tc A), .long (td A), .long (te A), .long (tf A), .long (tg A)], cO t2 1 [.long (ta B), .long (tb B), .long (tc B), .long (td B), .long (te B), .long (tf B), .long (tg B)], cO o 0 [.ref k, .ref f, .ref s, .int (nI z)], cI E k 8 K, cI E f 8 (upd F p (D q)), cI E s 8 G]) Z dX2_swap_74 2 rfl q rfl (by omega) rfl rfl ?_
  refine g_iload Z dX2_swap_75 0 rfl ?_
  exact g_iret Z dX2_swap_77 rfl ⟨Nat.zero_le _, Nat.zero_le _⟩ ⟨rfl, rfl⟩

abbrev rX2_drawer : Room := { frames := 1, cells := 0, slots := 0, locals := 21 }
theorem iX2_drawer : zInfo yX2_drawer wsX2_drawer RX2 2 (some .int) 1 := ⟨_, _, rfl, by decide +kernel⟩
set_option maxHeartbeats 4000000 in
set_option maxRecDepth 100000 in
theorem qX2_drawerN (E : zE) (x rw ln t1 t2 : Nat) (nb dn : Nat) (RF : Nat → Option Nat) (D : Nat → Int32) (A B : TB) (v : Int32) (hd : dn ≤ 12) (hv : ¬ inB dn v) : zF E yX2_drawer wsX2_drawer rX2_drawer [.ref x, .int v] [cO x 2 [.ref rw, .int (nI nb), .ref ln, .int (nI dn), .ref t1, .ref t2], cQ E rw 4 RF, cI E ln 12 D, cO t1 1 [.long (ta A), .long (tb A), .long (tc A), .long (td A), .long (te A), .long (tf A), .long (tg A)], cO t2 1 [.long (ta B), .long (tb B), .long (tc B), .long (td B), .long (te B), .long (tf B), .long (tg B)]] (zx (some (.int 0)) ([cO x 2 [.ref rw, .int (nI nb), .ref ln, .int (nI dn), .ref t1, .ref t2], cQ E rw 4 RF, cI E ln 12 D, cO t1 1 [.long (ta A), .long (tb A), .long (tc A), .long (td A), .long (te A), .long (tf A), .long (tg A)], cO t2 1 [.long (ta B), .long (tb B), .long (tc B), .long (td B), .long (te B), .long (tf B), .long (tg B)]])) := by
  refine z_start RX2 "drawer" (by decide) rfl rfl rfl (Nat.le_of_ble_eq_true rfl) ?_
  intro J Z
  refine g_eq Z (lv2 := [(0, .ref x), (1, .int v)]) rfl rfl rfl ?_
  refine g_aload_n Z dX2_drawer_0 0 rfl rfl ?_
  refine g_iload_n Z dX2_drawer_1 1 rfl rfl ?_
  refine g_callVx (w' := [cO x 2 [.ref rw, .int (nI nb), .ref ln, .int (nI dn), .ref t1, .ref t2], cQ E rw 4 RF, cI E ln 12 D, cO t1 1 [.long (ta A), .long (tb A), .long (tc A), .long (td A), .long (te A), .long (tf A), .long (tg A)], cO t2 1 [.long (ta B), .long (tb B), .long (tc B), .long (td B), .long (te B), .long (tf B), .long (tg B)]]) Z (qX2_isPlace E x rw ln t1 t2 nb dn RF v (by omega)) iX2_isPlace gX2_drawer_X2_isPlace ⟨rfl, rfl⟩ ⟨Nat.le_of_ble_eq_true rfl, Nat.le_of_ble_eq_true rfl⟩ dX2_drawer_2 rfl rfl (Nat.le_of_ble_eq_true rfl) ⟨Nat.zero_le _, Nat.zero_le _⟩ [0] rfl rfl 0 rfl rfl rfl rfl rfl ?_
  refine g_ifb_eq (tgt := 17) Z dX2_drawer_5 (by decide) (fun c_5 => ?_) (fun c_5 => absurd c_5 hv)
  refine g_iconst Z dX2_drawer_17 zi_0 ?_
  exact g_iret Z dX2_drawer_18 rfl ⟨Nat.zero_le _, Nat.zero_le _⟩ ⟨rfl, rfl⟩

theorem nX2_drawer_X2 : ∀ w ∈ wsX20, w ∈ wsX2_drawer := by decide +kernel
theorem fX2_drawer_21 : Cond.fieldLink RX2 21 (TX2 2).1 (TX2 2).2.1 (TX2 2).2.2.1 ∈ wsX2_drawer := by decide +kernel
set_option maxHeartbeats 4000000 in
set_option maxRecDepth 100000 in
theorem qX2_drawer (E : zE) (x rw ln t1 t2 : Nat) (nb dn : Nat) (RF : Nat → Option Nat) (D : Nat → Int32) (A B : TB) (q : Nat) (hd : dn ≤ 12) (hq : q < dn) : zF E yX2_drawer wsX2_drawer rX2_drawer [.ref x, .int (nI q)] [cO x 2 [.ref rw, .int (nI nb), .ref ln, .int (nI dn), .ref t1, .ref t2], cQ E rw 4 RF, cI E ln 12 D, cO t1 1 [.long (ta A), .long (tb A), .long (tc A), .long (td A), .long (te A), .long (tf A), .long (tg A)], cO t2 1 [.long (ta B), .long (tb B), .long (tc B), .long (td B), .long (te B), .long (tf B), .long (tg B)]] (zx (some (.int (D q))) ([cO x 2 [.ref rw, .int (nI nb), .ref ln, .int (nI dn), .ref t1, .ref t2], cQ E rw 4 RF, cI E ln 12 D, cO t1 1 [.long (ta A), .long (tb A), .long (tc A), .long (td A), .long (te A), .long (tf A), .long (tg A)], cO t2 1 [.long (ta B), .long (tb B), .long (tc B), .long (td B), .long (te B), .long (tf B), .long (tg B)]])) := by
  refine z_start RX2 "drawer" (by decide) rfl rfl rfl (Nat.le_of_ble_eq_true rfl) ?_
  intro J Z
  refine g_eq Z (lv2 := [(0, .ref x), (1, .int (nI q))]) rfl rfl rfl ?_
  refine g_aload_n Z dX2_drawer_0 0 rfl rfl ?_
  refine g_iload_n Z dX2_drawer_1 1 rfl rfl ?_
  refine g_callVx (w' := [cO x 2 [.ref rw, .int (nI nb), .ref ln, .int (nI dn), .ref t1, .ref t2], cQ E rw 4 RF, cI E ln 12 D, cO t1 1 [.long (ta A), .long (tb A), .long (tc A), .long (td A), .long (te A), .long (tf A), .long (tg A)], cO t2 1 [.long (ta B), .long (tb B), .long (tc B), .long (td B), .long (te B), .long (tf B), .long (tg B)]]) Z (qX2_isPlace E x rw ln t1 t2 nb dn RF (nI q) (by omega)) iX2_isPlace gX2_drawer_X2_isPlace ⟨rfl, rfl⟩ ⟨Nat.le_of_ble_eq_true rfl, Nat.le_of_ble_eq_true rfl⟩ dX2_drawer_2 rfl rfl (Nat.le_of_ble_eq_true rfl) ⟨Nat.zero_le _, Nat.zero_le _⟩ [0] rfl rfl 0 rfl rfl rfl rfl rfl ?_
  refine g_ifb_eq (tgt := 17) Z dX2_drawer_5 (by decide) (fun c_5 => absurd c_5 (fun y => y (inB_nI hq (by omega)))) (fun c_5 => ?_)
  refine g_aload_n Z dX2_drawer_8 0 rfl rfl ?_
  refine g_get Z dX2_drawer_9 0 rfl rfl nX2_drawer_X2 2 (by decide) fX2_drawer_21 rfl ?_
  refine g_iload_n Z dX2_drawer_12 1 rfl rfl ?_
  refine g_iald Z dX2_drawer_13 2 rfl q rfl (by omega) rfl ?_
  refine g_goto (tgt := 18) Z dX2_drawer_14 (by decide) ?_
  exact g_iret Z dX2_drawer_18 rfl ⟨Nat.zero_le _, Nat.zero_le _⟩ ⟨rfl, rfl⟩
