set_option maxHeartbeats 4000000 in
set_option maxRecDepth 100000 in
theorem qX1_leadThroughT (E : zE) (h o k f s : Nat) (K F G : Nat → Int32) (T : TB) (way : Int32) (z : Nat) (hz : z ≤ 8) : zF E yX1_leadThrough wsX1_leadThrough rX1_leadThrough [.ref h, .ref o, .int way] [cO h 1 [.long (ta T), .long (tb T), .long (tc T), .long (td T), .long (te T), .long (tf T), .long (tg T)], cO o 0 [.ref k, .ref f, .ref s, .int (nI z)], cI E k 8 K, cI E f 8 F, cI E s 8 G] (zx none ([cO h 1 [.long (ta (tabX K F G way z)), .long (tb (tabX K F G way z)), .long (tc (tabX K F G way z)), .long (td (tabX K F G way z)), .long (te (tabX K F G way z)), .long (tf (tabX K F G way z)), .long (tg (tabX K F G way z))], cO o 0 [.ref k, .ref f, .ref s, .int (nI z)], cI E k 8 K, cI E f 8 F, cI E s 8 G])) := qX1_leadThrough E h o k f s K F G T way z hz

set_option maxHeartbeats 4000000 in
set_option maxRecDepth 100000 in
theorem qX1_leadR (E : zE) (h o k f s : Nat) (K F G : Nat → Int32) (T : TB) (way : Int32) (z j : Nat) (hz : z ≤ 8) (hj : j ≤ 8) : zF E yX1_lead wsX1_lead rX1_lead [.ref h, .ref o, .int way, .int (nI j), .int (nI z)] [cO h 1 [.long (ta T), .long (tb T), .long (tc T), .long (td T), .long (te T), .long (tf T), .long (tg T)], cO o 0 [.ref k, .ref f, .ref s, .int (nI z)], cI E k 8 K, cI E f 8 F, cI E s 8 G] (zx none ([cO h 1 [.long (ta (rotX K F G way z j)), .long (tb (rotX K F G way z j)), .long (tc (rotX K F G way z j)), .long (td (rotX K F G way z j)), .long (te (rotX K F G way z j)), .long (tf (rotX K F G way z j)), .long (tg (rotX K F G way z j))], cO o 0 [.ref k, .ref f, .ref s, .int (nI z)], cI E k 8 K, cI E f 8 F, cI E s 8 G])) := qX1_lead E h o k f s K F G T way z j z hz hj hz


set_option maxHeartbeats 4000000 in
set_option maxRecDepth 100000 in
theorem qX2_tableN (E : zE) (x rw ln t1 t2 : Nat) (nb dn : Nat) (RF : Nat → Option Nat) (D : Nat → Int32) (A B : TB) (o k f s : Nat) (K F G : Nat → Int32) (z : Nat) (j : Nat) (way e wh : Int32) (hnb : nb ≤ 4) (hj : j < nb) (hr : RF j = some o) (hz : z ≤ 8) (hv : ¬ ((way = 0 ∨ way = 1) ∧ inB 6 e ∧ (wh = 0 ∨ wh = 1))) : zF E yX2_table wsX2_table rX2_table [.ref x, .int (nI j), .int way, .int e, .int wh] [cO x 2 [.ref rw, .int (nI nb), .ref ln, .int (nI dn), .ref t1, .ref t2], cQ E rw 4 RF, cI E ln 12 D, cO t1 1 [.long (ta A), .long (tb A), .long (tc A), .long (td A), .long (te A), .long (tf A), .long (tg A)], cO t2 1 [.long (ta B), .long (tb B), .long (tc B), .long (td B), .long (te B), .long (tf B), .long (tg B)], cO o 0 [.ref k, .ref f, .ref s, .int (nI z)], cI E k 8 K, cI E f 8 F, cI E s 8 G] (zx (some (.long (-9223372036854775808))) ([cO x 2 [.ref rw, .int (nI nb), .ref ln, .int (nI dn), .ref t1, .ref t2], cQ E rw 4 RF, cI E ln 12 D, cO t1 1 [.long (ta A), .long (tb A), .long (tc A), .long (td A), .long (te A), .long (tf A), .long (tg A)], cO t2 1 [.long (ta B), .long (tb B), .long (tc B), .long (td B), .long (te B), .long (tf B), .long (tg B)], cO o 0 [.ref k, .ref f, .ref s, .int (nI z)], cI E k 8 K, cI E f 8 F, cI E s 8 G])) := by
  refine z_start RX2 "table" (by decide) rfl rfl rfl (Nat.le_of_ble_eq_true rfl) ?_
  intro J Z
  refine g_eq Z (lv2 := [(0, .ref x), (1, .int (nI j)), (2, .int way), (3, .int e), (4, .int wh)]) rfl rfl rfl ?_
  refine g_aload_n Z dX2_table_0 0 rfl rfl ?_
  refine g_iload_n Z dX2_table_1 1 rfl rfl ?_
  refine g_callVx (w' := [cO x 2 [.ref rw, .int (nI nb), .ref ln, .int (nI dn), .ref t1, .ref t2], cQ E rw 4 RF, cI E ln 12 D, cO t1 1 [.long (ta A), .long (tb A), .long (tc A), .long (td A), .long (te A), .long (tf A), .long (tg A)], cO t2 1 [.long (ta B), .long (tb B), .long (tc B), .long (td B), .long (te B), .long (tf B), .long (tg B)], cO o 0 [.ref k, .ref f, .ref s, .int (nI z)], cI E k 8 K, cI E f 8 F, cI E s 8 G]) Z (qX2_rowAt E x rw ln t1 t2 nb dn RF j o hj hnb hr) iX2_rowAt gX2_table_X2_rowAt ⟨rfl, rfl⟩ ⟨Nat.le_of_ble_eq_true rfl, Nat.le_of_ble_eq_true rfl⟩ dX2_table_2 rfl rfl (Nat.le_of_ble_eq_true rfl) ⟨Nat.zero_le _, Nat.zero_le _⟩ [0, 1] rfl rfl 0 rfl rfl rfl rfl rfl ?_
  refine g_astore (lv' := [(5, .ref o), (0, .ref x), (1, .int (nI j)), (2, .int way), (3, .int e), (4, .int wh)]) Z dX2_table_5 (by decide) rfl ?_
  refine g_aload Z dX2_table_7 0 rfl ?_
  refine g_ifnull Z dX2_table_9 ?_
  refine g_iload_n Z dX2_table_12 3 rfl rfl ?_
  refine g_callSx (w' := [cO x 2 [.ref rw, .int (nI nb), .ref ln, .int (nI dn), .ref t1, .ref t2], cQ E rw 4 RF, cI E ln 12 D, cO t1 1 [.long (ta A), .long (tb A), .long (tc A), .long (td A), .long (te A), .long (tf A), .long (tg A)], cO t2 1 [.long (ta B), .long (tb B), .long (tc B), .long (td B), .long (te B), .long (tf B), .long (tg B)], cO o 0 [.ref k, .ref f, .ref s, .int (nI z)], cI E k 8 K, cI E f 8 F, cI E s 8 G]) Z (qX2_isEither E way) iX2_isEither gX2_table_X2_isEither ⟨rfl, rfl⟩ ⟨Nat.le_of_ble_eq_true rfl, Nat.le_of_ble_eq_true rfl⟩ dX2_table_13 rfl rfl (Nat.le_of_ble_eq_true rfl) ⟨Nat.zero_le _, Nat.zero_le _⟩ [] rfl rfl rfl rfl ?_
  refine g_ifb_eq (tgt := 36) Z dX2_table_16 (by decide) (fun c_16 => ?_) (fun c_16 => ?_)
  · refine g_ldc2 Z dX2_table_36 kX2_table_91 ?_
    exact g_lret Z dX2_table_39 rfl ⟨Nat.zero_le _, Nat.zero_le _⟩ ⟨rfl, rfl⟩
  · refine g_iload Z dX2_table_19 5 rfl ?_
    refine g_callSx (w' := [cO x 2 [.ref rw, .int (nI nb), .ref ln, .int (nI dn), .ref t1, .ref t2], cQ E rw 4 RF, cI E ln 12 D, cO t1 1 [.long (ta A), .long (tb A), .long (tc A), .long (td A), .long (te A), .long (tf A), .long (tg A)], cO t2 1 [.long (ta B), .long (tb B), .long (tc B), .long (td B), .long (te B), .long (tf B), .long (tg B)], cO o 0 [.ref k, .ref f, .ref s, .int (nI z)], cI E k 8 K, cI E f 8 F, cI E s 8 G]) Z (qX2_isEither E wh) iX2_isEither gX2_table_X2_isEither ⟨rfl, rfl⟩ ⟨Nat.le_of_ble_eq_true rfl, Nat.le_of_ble_eq_true rfl⟩ dX2_table_21 rfl rfl (Nat.le_of_ble_eq_true rfl) ⟨Nat.zero_le _, Nat.zero_le _⟩ [] rfl rfl rfl rfl ?_
    refine g_ifb_eq (tgt := 36) Z dX2_table_24 (by decide) (fun c_24 => ?_) (fun c_24 => ?_)
    · refine g_ldc2 Z dX2_table_36 kX2_table_91 ?_
      exact g_lret Z dX2_table_39 rfl ⟨Nat.zero_le _, Nat.zero_le _⟩ ⟨rfl, rfl⟩
    · refine g_iload_n Z dX2_table_27 4 rfl rfl ?_
      refine g_if_lt (tgt := 36) Z dX2_table_28 (by decide) (fun c_28 => ?_) (fun c_28 => ?_)
      · refine g_ldc2 Z dX2_table_36 kX2_table_91 ?_
        exact g_lret Z dX2_table_39 rfl ⟨Nat.zero_le _, Nat.zero_le _⟩ ⟨rfl, rfl⟩
      · refine g_iload_n Z dX2_table_31 4 rfl rfl ?_
        refine g_iconst Z dX2_table_32 zi_5 ?_
        refine g_icmp_le (tgt := 40) Z dX2_table_33 (by decide) (fun c_33 => ?_) (fun c_33 => ?_)
        · exact absurd ⟨c_16, (inB_P (n := 5) (by omega)).mp ⟨c_28, Int32.not_lt.mpr c_33⟩, c_24⟩ hv
        · refine g_ldc2 Z dX2_table_36 kX2_table_91 ?_
          exact g_lret Z dX2_table_39 rfl ⟨Nat.zero_le _, Nat.zero_le _⟩ ⟨rfl, rfl⟩

theorem nX2_table_X2 : ∀ w ∈ wsX20, w ∈ wsX2_table := by decide +kernel
theorem fX2_table_31 : Cond.fieldLink RX2 31 (TX2 4).1 (TX2 4).2.1 (TX2 4).2.2.1 ∈ wsX2_table := by decide +kernel
theorem nX2_table_X1 : ∀ w ∈ wsX10, w ∈ wsX2_table := by decide +kernel
theorem fX2_table_101 : Cond.fieldLink RX2 101 (TX1 6).1 (TX1 6).2.1 (TX1 6).2.2.1 ∈ wsX2_table := by decide +kernel
set_option maxHeartbeats 4000000 in
set_option maxRecDepth 100000 in
theorem qX2_table (E : zE) (x rw ln t1 t2 : Nat) (nb dn : Nat) (RF : Nat → Option Nat) (D : Nat → Int32) (A B : TB) (o k f s : Nat) (K F G : Nat → Int32) (z : Nat) (j : Nat) (q : Nat) (way wh : Int32) (hnb : nb ≤ 4) (hj : j < nb) (hr : RF j = some o) (hz : z ≤ 8) (hw : way = 0 ∨ way = 1) (hq : q < 6) (hh : wh = 0 ∨ wh = 1) : zF E yX2_table wsX2_table rX2_table [.ref x, .int (nI j), .int way, .int (nI q), .int wh] [cO x 2 [.ref rw, .int (nI nb), .ref ln, .int (nI dn), .ref t1, .ref t2], cQ E rw 4 RF, cI E ln 12 D, cO t1 1 [.long (ta A), .long (tb A), .long (tc A), .long (td A), .long (te A), .long (tf A), .long (tg A)], cO t2 1 [.long (ta B), .long (tb B), .long (tc B), .long (td B), .long (te B), .long (tf B), .long (tg B)], cO o 0 [.ref k, .ref f, .ref s, .int (nI z)], cI E k 8 K, cI E f 8 F, cI E s 8 G] (fun ov wv => ov = some (.long (tolF (abvF (tabX K F G way z) (nI q)) (tg (tabX K F G way z)) wh)) ∧ ∃ A2 B2 : TB, wv = [cO x 2 [.ref rw, .int (nI nb), .ref ln, .int (nI dn), .ref t1, .ref t2], cQ E rw 4 RF, cI E ln 12 D, cO t1 1 [.long (ta A2), .long (tb A2), .long (tc A2), .long (td A2), .long (te A2), .long (tf A2), .long (tg A2)], cO t2 1 [.long (ta B2), .long (tb B2), .long (tc B2), .long (td B2), .long (te B2), .long (tf B2), .long (tg B2)], cO o 0 [.ref k, .ref f, .ref s, .int (nI z)], cI E k 8 K, cI E f 8 F, cI E s 8 G]) := by
  refine z_start RX2 "table" (by decide) rfl rfl rfl (Nat.le_of_ble_eq_true rfl) ?_
  intro J Z
  refine g_eq Z (lv2 := [(0, .ref x), (1, .int (nI j)), (2, .int way), (3, .int (nI q)), (4, .int wh)]) rfl rfl rfl ?_
  refine g_aload_n Z dX2_table_0 0 rfl rfl ?_
  refine g_iload_n Z dX2_table_1 1 rfl rfl ?_
  refine g_callVx (w' := [cO x 2 [.ref rw, .int (nI nb), .ref ln, .int (nI dn), .ref t1, .ref t2], cQ E rw 4 RF, cI E ln 12 D, cO t1 1 [.long (ta A), .long (tb A), .long (tc A), .long (td A), .long (te A), .long (tf A), .long (tg A)], cO t2 1 [.long (ta B), .long (tb B), .long (tc B), .long (td B), .long (te B), .long (tf B), .long (tg B)], cO o 0 [.ref k, .ref f, .ref s, .int (nI z)], cI E k 8 K, cI E f 8 F, cI E s 8 G]) Z (qX2_rowAt E x rw ln t1 t2 nb dn RF j o hj hnb hr) iX2_rowAt gX2_table_X2_rowAt ⟨rfl, rfl⟩ ⟨Nat.le_of_ble_eq_true rfl, Nat.le_of_ble_eq_true rfl⟩ dX2_table_2 rfl rfl (Nat.le_of_ble_eq_true rfl) ⟨Nat.zero_le _, Nat.zero_le _⟩ [0, 1] rfl rfl 0 rfl rfl rfl rfl rfl ?_
  refine g_astore (lv' := [(5, .ref o), (0, .ref x), (1, .int (nI j)), (2, .int way), (3, .int (nI q)), (4, .int wh)]) Z dX2_table_5 (by decide) rfl ?_
  refine g_aload Z dX2_table_7 0 rfl ?_
  refine g_ifnull Z dX2_table_9 ?_
  refine g_iload_n Z dX2_table_12 3 rfl rfl ?_
  refine g_callSx (w' := [cO x 2 [.ref rw, .int (nI nb), .ref ln, .int (nI dn), .ref t1, .ref t2], cQ E rw 4 RF, cI E ln 12 D, cO t1 1 [.long (ta A), .long (tb A), .long (tc A), .long (td A), .long (te A), .long (tf A), .long (tg A)], cO t2 1 [.long (ta B), .long (tb B), .long (tc B), .long (td B), .long (te B), .long (tf B), .long (tg B)], cO o 0 [.ref k, .ref f, .ref s, .int (nI z)], cI E k 8 K, cI E f 8 F, cI E s 8 G]) Z (qX2_isEither E way) iX2_isEither gX2_table_X2_isEither ⟨rfl, rfl⟩ ⟨Nat.le_of_ble_eq_true rfl, Nat.le_of_ble_eq_true rfl⟩ dX2_table_13 rfl rfl (Nat.le_of_ble_eq_true rfl) ⟨Nat.zero_le _, Nat.zero_le _⟩ [] rfl rfl rfl rfl ?_
  refine g_ifb_eq (tgt := 36) Z dX2_table_16 (by decide) (fun c_16 => absurd c_16 (fun q => q hw)) (fun c_16 => ?_)
  refine g_iload Z dX2_table_19 5 rfl ?_
  refine g_callSx (w' := [cO x 2 [.ref rw, .int (nI nb), .ref ln, .int (nI dn), .ref t1, .ref t2], cQ E rw 4 RF, cI E ln 12 D, cO t1 1 [.long (ta A), .long (tb A), .long (tc A), .long (td A), .long (te A), .long (tf A), .long (tg A)], cO t2 1 [.long (ta B), .long (tb B), .long (tc B), .long (td B), .long (te B), .long (tf B), .long (tg B)], cO o 0 [.ref k, .ref f, .ref s, .int (nI z)], cI E k 8 K, cI E f 8 F, cI E s 8 G]) Z (qX2_isEither E wh) iX2_isEither gX2_table_X2_isEither ⟨rfl, rfl⟩ ⟨Nat.le_of_ble_eq_true rfl, Nat.le_of_ble_eq_true rfl⟩ dX2_table_21 rfl rfl (Nat.le_of_ble_eq_true rfl) ⟨Nat.zero_le _, Nat.zero_le _⟩ [] rfl rfl rfl rfl ?_
  refine g_ifb_eq (tgt := 36) Z dX2_table_24 (by decide) (fun c_24 => absurd c_24 (fun q => q hh)) (fun c_24 => ?_)
  refine g_iload_n Z dX2_table_27 4 rfl rfl ?_
  refine g_ifN_lt (tgt := 36) Z dX2_table_28 (by decide) q rfl (by omega) (fun c_28 => absurd c_28 id) (fun c_28 => ?_)
  refine g_iload_n Z dX2_table_31 4 rfl rfl ?_
  refine g_iconst Z dX2_table_32 zi_5 ?_
  refine g_icmpN_le (tgt := 40) Z dX2_table_33 (by decide) q 5 rfl rfl (by omega) (by omega) (fun c_33 => ?_) (fun c_33 => absurd c_33 (by omega))
  refine g_aload_n Z dX2_table_40 1 rfl rfl ?_
  refine g_get Z dX2_table_41 0 rfl rfl nX2_table_X2 4 (by decide) fX2_table_31 rfl ?_
  refine g_aload Z dX2_table_44 0 rfl ?_
  refine g_iload_n Z dX2_table_46 3 rfl rfl ?_
  refine g_callVx (w' := [cO x 2 [.ref rw, .int (nI nb), .ref ln, .int (nI dn), .ref t1, .ref t2], cQ E rw 4 RF, cI E ln 12 D, cO t1 1 [.long (ta (tabX K F G way z)), .long (tb (tabX K F G way z)), .long (tc (tabX K F G way z)), .long (td (tabX K F G way z)), .long (te (tabX K F G way z)), .long (tf (tabX K F G way z)), .long (tg (tabX K F G way z))], cO t2 1 [.long (ta B), .long (tb B), .long (tc B), .long (td B), .long (te B), .long (tf B), .long (tg B)], cO o 0 [.ref k, .ref f, .ref s, .int (nI z)], cI E k 8 K, cI E f 8 F, cI E s 8 G]) Z (qX1_leadThroughT E t1 o k f s K F G A way z (by omega)) iX1_leadThrough gX2_table_X1_leadThrough ⟨rfl, rfl⟩ ⟨Nat.le_of_ble_eq_true rfl, Nat.le_of_ble_eq_true rfl⟩ dX2_table_47 rfl rfl (Nat.le_of_ble_eq_true rfl) ⟨Nat.zero_le _, Nat.zero_le _⟩ [3, 5, 6, 7, 8] rfl rfl 0 rfl rfl rfl rfl rfl ?_
  refine g_aload_n Z dX2_table_50 1 rfl rfl ?_
  refine g_get Z dX2_table_51 0 rfl rfl nX2_table_X2 4 (by decide) fX2_table_31 rfl ?_
  refine g_iload_n Z dX2_table_54 4 rfl rfl ?_
  refine g_callVx (w' := [cO x 2 [.ref rw, .int (nI nb), .ref ln, .int (nI dn), .ref t1, .ref t2], cQ E rw 4 RF, cI E ln 12 D, cO t1 1 [.long (ta (tabX K F G way z)), .long (tb (tabX K F G way z)), .long (tc (tabX K F G way z)), .long (td (tabX K F G way z)), .long (te (tabX K F G way z)), .long (tf (tabX K F G way z)), .long (tg (tabX K F G way z))], cO t2 1 [.long (ta B), .long (tb B), .long (tc B), .long (td B), .long (te B), .long (tf B), .long (tg B)], cO o 0 [.ref k, .ref f, .ref s, .int (nI z)], cI E k 8 K, cI E f 8 F, cI E s 8 G]) Z (qX1_above E t1 (tabX K F G way z) (nI q)) iX1_above gX2_table_X1_above ⟨rfl, rfl⟩ ⟨Nat.le_of_ble_eq_true rfl, Nat.le_of_ble_eq_true rfl⟩ dX2_table_55 rfl rfl (Nat.le_of_ble_eq_true rfl) ⟨Nat.zero_le _, Nat.zero_le _⟩ [3] rfl rfl 0 rfl rfl rfl rfl rfl ?_
  refine g_aload_n Z dX2_table_58 1 rfl rfl ?_
  refine g_get Z dX2_table_59 0 rfl rfl nX2_table_X2 4 (by decide) fX2_table_31 rfl ?_
  refine g_get Z dX2_table_62 3 rfl rfl nX2_table_X1 6 (by decide) fX2_table_101 rfl ?_
  refine g_iload Z dX2_table_65 5 rfl ?_
  refine g_callSx (w' := [cO x 2 [.ref rw, .int (nI nb), .ref ln, .int (nI dn), .ref t1, .ref t2], cQ E rw 4 RF, cI E ln 12 D, cO t1 1 [.long (ta (tabX K F G way z)), .long (tb (tabX K F G way z)), .long (tc (tabX K F G way z)), .long (td (tabX K F G way z)), .long (te (tabX K F G way z)), .long (tf (tabX K F G way z)), .long (tg (tabX K F G way z))], cO t2 1 [.long (ta B), .long (tb B), .long (tc B), .long (td B), .long (te B), .long (tf B), .long (tg B)], cO o 0 [.ref k, .ref f, .ref s, .int (nI z)], cI E k 8 K, cI E f 8 F, cI E s 8 G]) Z (qX2_told E (abvF (tabX K F G way z) (nI q)) (tg (tabX K F G way z)) wh) iX2_told gX2_table_X2_told ⟨rfl, rfl⟩ ⟨Nat.le_of_ble_eq_true rfl, Nat.le_of_ble_eq_true rfl⟩ dX2_table_67 rfl rfl (Nat.le_of_ble_eq_true rfl) ⟨Nat.zero_le _, Nat.zero_le _⟩ [] rfl rfl rfl rfl ?_
  exact g_lret Z dX2_table_70 rfl ⟨Nat.zero_le _, Nat.zero_le _⟩ ⟨rfl, _, _, rfl⟩

theorem nX2_ray_X0 : ∀ w ∈ wsX00, w ∈ wsX2_ray := by decide +kernel
theorem fX2_ray_43 : Cond.fieldLink RX2 43 (TX0 3).1 (TX0 3).2.1 (TX0 3).2.2.1 ∈ wsX2_ray := by decide +kernel
set_option maxHeartbeats 4000000 in
set_option maxRecDepth 100000 in
theorem qX2_rayN (E : zE) (x rw ln t1 t2 : Nat) (nb dn : Nat) (RF : Nat → Option Nat) (D : Nat → Int32) (A B : TB) (o k f s : Nat) (K F G : Nat → Int32) (z : Nat) (j : Nat) (way u v y e wh : Int32) (hnb : nb ≤ 4) (hj : j < nb) (hr : RF j = some o) (hz : z ≤ 8) (hv : ¬ ((way = 0 ∨ way = 1) ∧ (ner u ∧ ner v) ∧ inB (z + 1) y ∧ (e = 0 ∨ e = 1) ∧ (wh = 0 ∨ wh = 1))) : zF E yX2_ray wsX2_ray rX2_ray [.ref x, .int (nI j), .int way, .int u, .int v, .int y, .int e, .int wh] [cO x 2 [.ref rw, .int (nI nb), .ref ln, .int (nI dn), .ref t1, .ref t2], cQ E rw 4 RF, cI E ln 12 D, cO t1 1 [.long (ta A), .long (tb A), .long (tc A), .long (td A), .long (te A), .long (tf A), .long (tg A)], cO t2 1 [.long (ta B), .long (tb B), .long (tc B), .long (td B), .long (te B), .long (tf B), .long (tg B)], cO o 0 [.ref k, .ref f, .ref s, .int (nI z)], cI E k 8 K, cI E f 8 F, cI E s 8 G] (zx (some (.long (-9223372036854775808))) ([cO x 2 [.ref rw, .int (nI nb), .ref ln, .int (nI dn), .ref t1, .ref t2], cQ E rw 4 RF, cI E ln 12 D, cO t1 1 [.long (ta A), .long (tb A), .long (tc A), .long (td A), .long (te A), .long (tf A), .long (tg A)], cO t2 1 [.long (ta B), .long (tb B), .long (tc B), .long (td B), .long (te B), .long (tf B), .long (tg B)], cO o 0 [.ref k, .ref f, .ref s, .int (nI z)], cI E k 8 K, cI E f 8 F, cI E s 8 G])) := by
  refine z_start RX2 "ray" (by decide) rfl rfl rfl (Nat.le_of_ble_eq_true rfl) ?_
  intro J Z
  refine g_eq Z (lv2 := [(0, .ref x), (1, .int (nI j)), (2, .int way), (3, .int u), (4, .int v), (5, .int y), (6, .int e), (7, .int wh)]) rfl rfl rfl ?_
  refine g_aload_n Z dX2_ray_0 0 rfl rfl ?_
  refine g_iload_n Z dX2_ray_1 1 rfl rfl ?_
  refine g_callVx (w' := [cO x 2 [.ref rw, .int (nI nb), .ref ln, .int (nI dn), .ref t1, .ref t2], cQ E rw 4 RF, cI E ln 12 D, cO t1 1 [.long (ta A), .long (tb A), .long (tc A), .long (td A), .long (te A), .long (tf A), .long (tg A)], cO t2 1 [.long (ta B), .long (tb B), .long (tc B), .long (td B), .long (te B), .long (tf B), .long (tg B)], cO o 0 [.ref k, .ref f, .ref s, .int (nI z)], cI E k 8 K, cI E f 8 F, cI E s 8 G]) Z (qX2_rowAt E x rw ln t1 t2 nb dn RF j o hj hnb hr) iX2_rowAt gX2_ray_X2_rowAt ⟨rfl, rfl⟩ ⟨Nat.le_of_ble_eq_true rfl, Nat.le_of_ble_eq_true rfl⟩ dX2_ray_2 rfl rfl (Nat.le_of_ble_eq_true rfl) ⟨Nat.zero_le _, Nat.zero_le _⟩ [0, 1] rfl rfl 0 rfl rfl rfl rfl rfl ?_
  refine g_astore (lv' := [(8, .ref o), (0, .ref x), (1, .int (nI j)), (2, .int way), (3, .int u), (4, .int v), (5, .int y), (6, .int e), (7, .int wh)]) Z dX2_ray_5 (by decide) rfl ?_
  refine g_aload Z dX2_ray_7 0 rfl ?_
  refine g_ifnull Z dX2_ray_9 ?_
  refine g_iload_n Z dX2_ray_12 3 rfl rfl ?_
  refine g_callSx (w' := [cO x 2 [.ref rw, .int (nI nb), .ref ln, .int (nI dn), .ref t1, .ref t2], cQ E rw 4 RF, cI E ln 12 D, cO t1 1 [.long (ta A), .long (tb A), .long (tc A), .long (td A), .long (te A), .long (tf A), .long (tg A)], cO t2 1 [.long (ta B), .long (tb B), .long (tc B), .long (td B), .long (te B), .long (tf B), .long (tg B)], cO o 0 [.ref k, .ref f, .ref s, .int (nI z)], cI E k 8 K, cI E f 8 F, cI E s 8 G]) Z (qX2_isEither E way) iX2_isEither gX2_ray_X2_isEither ⟨rfl, rfl⟩ ⟨Nat.le_of_ble_eq_true rfl, Nat.le_of_ble_eq_true rfl⟩ dX2_ray_13 rfl rfl (Nat.le_of_ble_eq_true rfl) ⟨Nat.zero_le _, Nat.zero_le _⟩ [] rfl rfl rfl rfl ?_
  refine g_ifb_eq (tgt := 35) Z dX2_ray_16 (by decide) (fun c_16 => ?_) (fun c_16 => ?_)
  · refine g_ldc2 Z dX2_ray_35 kX2_ray_91 ?_
    exact g_lret Z dX2_ray_38 rfl ⟨Nat.zero_le _, Nat.zero_le _⟩ ⟨rfl, rfl⟩
  · refine g_iload Z dX2_ray_19 7 rfl ?_
    refine g_callSx (w' := [cO x 2 [.ref rw, .int (nI nb), .ref ln, .int (nI dn), .ref t1, .ref t2], cQ E rw 4 RF, cI E ln 12 D, cO t1 1 [.long (ta A), .long (tb A), .long (tc A), .long (td A), .long (te A), .long (tf A), .long (tg A)], cO t2 1 [.long (ta B), .long (tb B), .long (tc B), .long (td B), .long (te B), .long (tf B), .long (tg B)], cO o 0 [.ref k, .ref f, .ref s, .int (nI z)], cI E k 8 K, cI E f 8 F, cI E s 8 G]) Z (qX2_isEither E e) iX2_isEither gX2_ray_X2_isEither ⟨rfl, rfl⟩ ⟨Nat.le_of_ble_eq_true rfl, Nat.le_of_ble_eq_true rfl⟩ dX2_ray_21 rfl rfl (Nat.le_of_ble_eq_true rfl) ⟨Nat.zero_le _, Nat.zero_le _⟩ [] rfl rfl rfl rfl ?_
    refine g_ifb_eq (tgt := 35) Z dX2_ray_24 (by decide) (fun c_24 => ?_) (fun c_24 => ?_)
    · refine g_ldc2 Z dX2_ray_35 kX2_ray_91 ?_
      exact g_lret Z dX2_ray_38 rfl ⟨Nat.zero_le _, Nat.zero_le _⟩ ⟨rfl, rfl⟩
    · refine g_iload Z dX2_ray_27 8 rfl ?_
      refine g_callSx (w' := [cO x 2 [.ref rw, .int (nI nb), .ref ln, .int (nI dn), .ref t1, .ref t2], cQ E rw 4 RF, cI E ln 12 D, cO t1 1 [.long (ta A), .long (tb A), .long (tc A), .long (td A), .long (te A), .long (tf A), .long (tg A)], cO t2 1 [.long (ta B), .long (tb B), .long (tc B), .long (td B), .long (te B), .long (tf B), .long (tg B)], cO o 0 [.ref k, .ref f, .ref s, .int (nI z)], cI E k 8 K, cI E f 8 F, cI E s 8 G]) Z (qX2_isEither E wh) iX2_isEither gX2_ray_X2_isEither ⟨rfl, rfl⟩ ⟨Nat.le_of_ble_eq_true rfl, Nat.le_of_ble_eq_true rfl⟩ dX2_ray_29 rfl rfl (Nat.le_of_ble_eq_true rfl) ⟨Nat.zero_le _, Nat.zero_le _⟩ [] rfl rfl rfl rfl ?_
      refine g_ifb_ne (tgt := 39) Z dX2_ray_32 (by decide) (fun c_32 => ?_) (fun c_32 => ?_)
      · refine g_iload_n Z dX2_ray_39 4 rfl rfl ?_
        refine g_callSx (w' := [cO x 2 [.ref rw, .int (nI nb), .ref ln, .int (nI dn), .ref t1, .ref t2], cQ E rw 4 RF, cI E ln 12 D, cO t1 1 [.long (ta A), .long (tb A), .long (tc A), .long (td A), .long (te A), .long (tf A), .long (tg A)], cO t2 1 [.long (ta B), .long (tb B), .long (tc B), .long (td B), .long (te B), .long (tf B), .long (tg B)], cO o 0 [.ref k, .ref f, .ref s, .int (nI z)], cI E k 8 K, cI E f 8 F, cI E s 8 G]) Z (qX2_isNear E u) iX2_isNear gX2_ray_X2_isNear ⟨rfl, rfl⟩ ⟨Nat.le_of_ble_eq_true rfl, Nat.le_of_ble_eq_true rfl⟩ dX2_ray_40 rfl rfl (Nat.le_of_ble_eq_true rfl) ⟨Nat.zero_le _, Nat.zero_le _⟩ [] rfl rfl rfl rfl ?_
        refine g_ifb_eq (tgt := 69) Z dX2_ray_43 (by decide) (fun c_43 => ?_) (fun c_43 => ?_)
        · refine g_ldc2 Z dX2_ray_69 kX2_ray_91 ?_
          exact g_lret Z dX2_ray_72 rfl ⟨Nat.zero_le _, Nat.zero_le _⟩ ⟨rfl, rfl⟩
        · refine g_iload Z dX2_ray_46 5 rfl ?_
          refine g_callSx (w' := [cO x 2 [.ref rw, .int (nI nb), .ref ln, .int (nI dn), .ref t1, .ref t2], cQ E rw 4 RF, cI E ln 12 D, cO t1 1 [.long (ta A), .long (tb A), .long (tc A), .long (td A), .long (te A), .long (tf A), .long (tg A)], cO t2 1 [.long (ta B), .long (tb B), .long (tc B), .long (td B), .long (te B), .long (tf B), .long (tg B)], cO o 0 [.ref k, .ref f, .ref s, .int (nI z)], cI E k 8 K, cI E f 8 F, cI E s 8 G]) Z (qX2_isNear E v) iX2_isNear gX2_ray_X2_isNear ⟨rfl, rfl⟩ ⟨Nat.le_of_ble_eq_true rfl, Nat.le_of_ble_eq_true rfl⟩ dX2_ray_48 rfl rfl (Nat.le_of_ble_eq_true rfl) ⟨Nat.zero_le _, Nat.zero_le _⟩ [] rfl rfl rfl rfl ?_
          refine g_ifb_eq (tgt := 69) Z dX2_ray_51 (by decide) (fun c_51 => ?_) (fun c_51 => ?_)
          · refine g_ldc2 Z dX2_ray_69 kX2_ray_91 ?_
            exact g_lret Z dX2_ray_72 rfl ⟨Nat.zero_le _, Nat.zero_le _⟩ ⟨rfl, rfl⟩
          · refine g_iload Z dX2_ray_54 6 rfl ?_
            refine g_if_lt (tgt := 69) Z dX2_ray_56 (by decide) (fun c_56 => ?_) (fun c_56 => ?_)
            · refine g_ldc2 Z dX2_ray_69 kX2_ray_91 ?_
              exact g_lret Z dX2_ray_72 rfl ⟨Nat.zero_le _, Nat.zero_le _⟩ ⟨rfl, rfl⟩
            · refine g_iload Z dX2_ray_59 6 rfl ?_
              refine g_aload Z dX2_ray_61 0 rfl ?_
              refine g_get Z dX2_ray_63 5 rfl rfl nX2_ray_X0 3 (by decide) fX2_ray_43 rfl ?_
              refine g_icmp_le (tgt := 73) Z dX2_ray_66 (by decide) (fun c_66 => ?_) (fun c_66 => ?_)
              · exact absurd ⟨c_16, ⟨c_43, c_51⟩, (inB_P (by omega)).mp ⟨c_56, Int32.not_lt.mpr c_66⟩, c_24, c_32⟩ hv
              · refine g_ldc2 Z dX2_ray_69 kX2_ray_91 ?_
                exact g_lret Z dX2_ray_72 rfl ⟨Nat.zero_le _, Nat.zero_le _⟩ ⟨rfl, rfl⟩
      · refine g_ldc2 Z dX2_ray_35 kX2_ray_91 ?_
        exact g_lret Z dX2_ray_38 rfl ⟨Nat.zero_le _, Nat.zero_le _⟩ ⟨rfl, rfl⟩

theorem nX2_ray_X2 : ∀ w ∈ wsX20, w ∈ wsX2_ray := by decide +kernel
theorem fX2_ray_31 : Cond.fieldLink RX2 31 (TX2 4).1 (TX2 4).2.1 (TX2 4).2.2.1 ∈ wsX2_ray := by decide +kernel
theorem nX2_ray_X1 : ∀ w ∈ wsX10, w ∈ wsX2_ray := by decide +kernel
theorem fX2_ray_101 : Cond.fieldLink RX2 101 (TX1 6).1 (TX1 6).2.1 (TX1 6).2.2.1 ∈ wsX2_ray := by decide +kernel
set_option maxHeartbeats 4000000 in
set_option maxRecDepth 100000 in
theorem qX2_ray (E : zE) (x rw ln t1 t2 : Nat) (nb dn : Nat) (RF : Nat → Option Nat) (D : Nat → Int32) (A B : TB) (o k f s : Nat) (K F G : Nat → Int32) (z : Nat) (j : Nat) (p : Nat) (way u v e wh : Int32) (hnb : nb ≤ 4) (hj : j < nb) (hr : RF j = some o) (hz : z ≤ 8) (hw : way = 0 ∨ way = 1) (hx : ner u ∧ ner v) (hp : p ≤ z) (he : e = 0 ∨ e = 1) (hh : wh = 0 ∨ wh = 1) : zF E yX2_ray wsX2_ray rX2_ray [.ref x, .int (nI j), .int way, .int u, .int v, .int (nI p), .int e, .int wh] [cO x 2 [.ref rw, .int (nI nb), .ref ln, .int (nI dn), .ref t1, .ref t2], cQ E rw 4 RF, cI E ln 12 D, cO t1 1 [.long (ta A), .long (tb A), .long (tc A), .long (td A), .long (te A), .long (tf A), .long (tg A)], cO t2 1 [.long (ta B), .long (tb B), .long (tc B), .long (td B), .long (te B), .long (tf B), .long (tg B)], cO o 0 [.ref k, .ref f, .ref s, .int (nI z)], cI E k 8 K, cI E f 8 F, cI E s 8 G] (fun ov wv => ov = some (.long (rayX (ledF K F G way z 0 T1 p) u v e wh)) ∧ ∃ A2 B2 : TB, wv = [cO x 2 [.ref rw, .int (nI nb), .ref ln, .int (nI dn), .ref t1, .ref t2], cQ E rw 4 RF, cI E ln 12 D, cO t1 1 [.long (ta A2), .long (tb A2), .long (tc A2), .long (td A2), .long (te A2), .long (tf A2), .long (tg A2)], cO t2 1 [.long (ta B2), .long (tb B2), .long (tc B2), .long (td B2), .long (te B2), .long (tf B2), .long (tg B2)], cO o 0 [.ref k, .ref f, .ref s, .int (nI z)], cI E k 8 K, cI E f 8 F, cI E s 8 G]) := by
  refine z_start RX2 "ray" (by decide) rfl rfl rfl (Nat.le_of_ble_eq_true rfl) ?_
  intro J Z
  refine g_eq Z (lv2 := [(0, .ref x), (1, .int (nI j)), (2, .int way), (3, .int u), (4, .int v), (5, .int (nI p)), (6, .int e), (7, .int wh)]) rfl rfl rfl ?_
  refine g_aload_n Z dX2_ray_0 0 rfl rfl ?_
  refine g_iload_n Z dX2_ray_1 1 rfl rfl ?_
  refine g_callVx (w' := [cO x 2 [.ref rw, .int (nI nb), .ref ln, .int (nI dn), .ref t1, .ref t2], cQ E rw 4 RF, cI E ln 12 D, cO t1 1 [.long (ta A), .long (tb A), .long (tc A), .long (td A), .long (te A), .long (tf A), .long (tg A)], cO t2 1 [.long (ta B), .long (tb B), .long (tc B), .long (td B), .long (te B), .long (tf B), .long (tg B)], cO o 0 [.ref k, .ref f, .ref s, .int (nI z)], cI E k 8 K, cI E f 8 F, cI E s 8 G]) Z (qX2_rowAt E x rw ln t1 t2 nb dn RF j o hj hnb hr) iX2_rowAt gX2_ray_X2_rowAt ⟨rfl, rfl⟩ ⟨Nat.le_of_ble_eq_true rfl, Nat.le_of_ble_eq_true rfl⟩ dX2_ray_2 rfl rfl (Nat.le_of_ble_eq_true rfl) ⟨Nat.zero_le _, Nat.zero_le _⟩ [0, 1] rfl rfl 0 rfl rfl rfl rfl rfl ?_
  refine g_astore (lv' := [(8, .ref o), (0, .ref x), (1, .int (nI j)), (2, .int way), (3, .int u), (4, .int v), (5, .int (nI p)), (6, .int e), (7, .int wh)]) Z dX2_ray_5 (by decide) rfl ?_
  refine g_aload Z dX2_ray_7 0 rfl ?_
  refine g_ifnull Z dX2_ray_9 ?_
  refine g_iload_n Z dX2_ray_12 3 rfl rfl ?_
  refine g_callSx (w' := [cO x 2 [.ref rw, .int (nI nb), .ref ln, .int (nI dn), .ref t1, .ref t2], cQ E rw 4 RF, cI E ln 12 D, cO t1 1 [.long (ta A), .long (tb A), .long (tc A), .long (td A), .long (te A), .long (tf A), .long (tg A)], cO t2 1 [.long (ta B), .long (tb B), .long (tc B), .long (td B), .long (te B), .long (tf B), .long (tg B)], cO o 0 [.ref k, .ref f, .ref s, .int (nI z)], cI E k 8 K, cI E f 8 F, cI E s 8 G]) Z (qX2_isEither E way) iX2_isEither gX2_ray_X2_isEither ⟨rfl, rfl⟩ ⟨Nat.le_of_ble_eq_true rfl, Nat.le_of_ble_eq_true rfl⟩ dX2_ray_13 rfl rfl (Nat.le_of_ble_eq_true rfl) ⟨Nat.zero_le _, Nat.zero_le _⟩ [] rfl rfl rfl rfl ?_
  refine g_ifb_eq (tgt := 35) Z dX2_ray_16 (by decide) (fun c_16 => absurd c_16 (fun q => q hw)) (fun c_16 => ?_)
  refine g_iload Z dX2_ray_19 7 rfl ?_
  refine g_callSx (w' := [cO x 2 [.ref rw, .int (nI nb), .ref ln, .int (nI dn), .ref t1, .ref t2], cQ E rw 4 RF, cI E ln 12 D, cO t1 1 [.long (ta A), .long (tb A), .long (tc A), .long (td A), .long (te A), .long (tf A), .long (tg A)], cO t2 1 [.long (ta B), .long (tb B), .long (tc B), .long (td B), .long (te B), .long (tf B), .long (tg B)], cO o 0 [.ref k, .ref f, .ref s, .int (nI z)], cI E k 8 K, cI E f 8 F, cI E s 8 G]) Z (qX2_isEither E e) iX2_isEither gX2_ray_X2_isEither ⟨rfl, rfl⟩ ⟨Nat.le_of_ble_eq_true rfl, Nat.le_of_ble_eq_true rfl⟩ dX2_ray_21 rfl rfl (Nat.le_of_ble_eq_true rfl) ⟨Nat.zero_le _, Nat.zero_le _⟩ [] rfl rfl rfl rfl ?_
  refine g_ifb_eq (tgt := 35) Z dX2_ray_24 (by decide) (fun c_24 => absurd c_24 (fun q => q he)) (fun c_24 => ?_)
  refine g_iload Z dX2_ray_27 8 rfl ?_
  refine g_callSx (w' := [cO x 2 [.ref rw, .int (nI nb), .ref ln, .int (nI dn), .ref t1, .ref t2], cQ E rw 4 RF, cI E ln 12 D, cO t1 1 [.long (ta A), .long (tb A), .long (tc A), .long (td A), .long (te A), .long (tf A), .long (tg A)], cO t2 1 [.long (ta B), .long (tb B), .long (tc B), .long (td B), .long (te B), .long (tf B), .long (tg B)], cO o 0 [.ref k, .ref f, .ref s, .int (nI z)], cI E k 8 K, cI E f 8 F, cI E s 8 G]) Z (qX2_isEither E wh) iX2_isEither gX2_ray_X2_isEither ⟨rfl, rfl⟩ ⟨Nat.le_of_ble_eq_true rfl, Nat.le_of_ble_eq_true rfl⟩ dX2_ray_29 rfl rfl (Nat.le_of_ble_eq_true rfl) ⟨Nat.zero_le _, Nat.zero_le _⟩ [] rfl rfl rfl rfl ?_
  refine g_ifb_ne (tgt := 39) Z dX2_ray_32 (by decide) (fun c_32 => ?_) (fun c_32 => absurd c_32 (fun q => q hh))
  refine g_iload_n Z dX2_ray_39 4 rfl rfl ?_
  refine g_callSx (w' := [cO x 2 [.ref rw, .int (nI nb), .ref ln, .int (nI dn), .ref t1, .ref t2], cQ E rw 4 RF, cI E ln 12 D, cO t1 1 [.long (ta A), .long (tb A), .long (tc A), .long (td A), .long (te A), .long (tf A), .long (tg A)], cO t2 1 [.long (ta B), .long (tb B), .long (tc B), .long (td B), .long (te B), .long (tf B), .long (tg B)], cO o 0 [.ref k, .ref f, .ref s, .int (nI z)], cI E k 8 K, cI E f 8 F, cI E s 8 G]) Z (qX2_isNear E u) iX2_isNear gX2_ray_X2_isNear ⟨rfl, rfl⟩ ⟨Nat.le_of_ble_eq_true rfl, Nat.le_of_ble_eq_true rfl⟩ dX2_ray_40 rfl rfl (Nat.le_of_ble_eq_true rfl) ⟨Nat.zero_le _, Nat.zero_le _⟩ [] rfl rfl rfl rfl ?_
  refine g_ifb_eq (tgt := 69) Z dX2_ray_43 (by decide) (fun c_43 => absurd c_43 (fun q => q hx.1)) (fun c_43 => ?_)
  refine g_iload Z dX2_ray_46 5 rfl ?_
  refine g_callSx (w' := [cO x 2 [.ref rw, .int (nI nb), .ref ln, .int (nI dn), .ref t1, .ref t2], cQ E rw 4 RF, cI E ln 12 D, cO t1 1 [.long (ta A), .long (tb A), .long (tc A), .long (td A), .long (te A), .long (tf A), .long (tg A)], cO t2 1 [.long (ta B), .long (tb B), .long (tc B), .long (td B), .long (te B), .long (tf B), .long (tg B)], cO o 0 [.ref k, .ref f, .ref s, .int (nI z)], cI E k 8 K, cI E f 8 F, cI E s 8 G]) Z (qX2_isNear E v) iX2_isNear gX2_ray_X2_isNear ⟨rfl, rfl⟩ ⟨Nat.le_of_ble_eq_true rfl, Nat.le_of_ble_eq_true rfl⟩ dX2_ray_48 rfl rfl (Nat.le_of_ble_eq_true rfl) ⟨Nat.zero_le _, Nat.zero_le _⟩ [] rfl rfl rfl rfl ?_
  refine g_ifb_eq (tgt := 69) Z dX2_ray_51 (by decide) (fun c_51 => absurd c_51 (fun q => q hx.2)) (fun c_51 => ?_)
  refine g_iload Z dX2_ray_54 6 rfl ?_
  refine g_ifN_lt (tgt := 69) Z dX2_ray_56 (by decide) p rfl (by omega) (fun c_56 => absurd c_56 id) (fun c_56 => ?_)
  refine g_iload Z dX2_ray_59 6 rfl ?_
  refine g_aload Z dX2_ray_61 0 rfl ?_
  refine g_get Z dX2_ray_63 5 rfl rfl nX2_ray_X0 3 (by decide) fX2_ray_43 rfl ?_
  refine g_icmpN_le (tgt := 73) Z dX2_ray_66 (by decide) p z rfl rfl (by omega) (by omega) (fun c_66 => ?_) (fun c_66 => absurd c_66 (by omega))
  refine g_aload_n Z dX2_ray_73 1 rfl rfl ?_
  refine g_get Z dX2_ray_74 0 rfl rfl nX2_ray_X2 4 (by decide) fX2_ray_31 rfl ?_
  refine g_aload Z dX2_ray_77 0 rfl ?_
  refine g_iload_n Z dX2_ray_79 3 rfl rfl ?_
  refine g_iconst Z dX2_ray_80 zi_0 ?_
  refine g_iload Z dX2_ray_81 6 rfl ?_
  refine g_callVx (w' := [cO x 2 [.ref rw, .int (nI nb), .ref ln, .int (nI dn), .ref t1, .ref t2], cQ E rw 4 RF, cI E ln 12 D, cO t1 1 [.long (ta (ledF K F G way z 0 T1 p)), .long (tb (ledF K F G way z 0 T1 p)), .long (tc (ledF K F G way z 0 T1 p)), .long (td (ledF K F G way z 0 T1 p)), .long (te (ledF K F G way z 0 T1 p)), .long (tf (ledF K F G way z 0 T1 p)), .long (tg (ledF K F G way z 0 T1 p))], cO t2 1 [.long (ta B), .long (tb B), .long (tc B), .long (td B), .long (te B), .long (tf B), .long (tg B)], cO o 0 [.ref k, .ref f, .ref s, .int (nI z)], cI E k 8 K, cI E f 8 F, cI E s 8 G]) Z (qX1_lead E t1 o k f s K F G A way z 0 p (by omega) (by omega) (by omega)) iX1_lead gX2_ray_X1_lead ⟨rfl, rfl⟩ ⟨Nat.le_of_ble_eq_true rfl, Nat.le_of_ble_eq_true rfl⟩ dX2_ray_83 rfl rfl (Nat.le_of_ble_eq_true rfl) ⟨Nat.zero_le _, Nat.zero_le _⟩ [3, 5, 6, 7, 8] rfl rfl 0 rfl rfl rfl rfl rfl ?_
  obtain ⟨C, e_C⟩ : ∃ Y : TB, ledF K F G way z 0 T1 p = Y := ⟨_, rfl⟩
  rw [e_C]
  refine g_iload Z dX2_ray_86 7 rfl ?_
  refine g_if_ne (tgt := 106) Z dX2_ray_88 (by decide) (fun c_88 => ?_) (fun c_88 => ?_)
  · refine g_aload_n Z dX2_ray_106 1 rfl rfl ?_
    refine g_get Z dX2_ray_107 0 rfl rfl nX2_ray_X2 4 (by decide) fX2_ray_31 rfl ?_
    refine g_iload_n Z dX2_ray_110 4 rfl rfl ?_
    refine g_i2l Z dX2_ray_111 ?_
    refine g_iload Z dX2_ray_112 5 rfl ?_
    refine g_i2l Z dX2_ray_114 ?_
    refine g_callVx (w' := [cO x 2 [.ref rw, .int (nI nb), .ref ln, .int (nI dn), .ref t1, .ref t2], cQ E rw 4 RF, cI E ln 12 D, cO t1 1 [.long (ta C), .long (tb C), .long (tc C), .long (td C), .long (te C), .long (tf C), .long (tg C)], cO t2 1 [.long (ta B), .long (tb B), .long (tc B), .long (td B), .long (te B), .long (tf B), .long (tg B)], cO o 0 [.ref k, .ref f, .ref s, .int (nI z)], cI E k 8 K, cI E f 8 F, cI E s 8 G]) Z (qX1_leanAbove E t1 C (Int32.toInt64 u) (Int32.toInt64 v)) iX1_leanAbove gX2_ray_X1_leanAbove ⟨rfl, rfl⟩ ⟨Nat.le_of_ble_eq_true rfl, Nat.le_of_ble_eq_true rfl⟩ dX2_ray_115 rfl rfl (Nat.le_of_ble_eq_true rfl) ⟨Nat.zero_le _, Nat.zero_le _⟩ [3] rfl rfl 0 rfl rfl rfl rfl rfl ?_
    refine g_lstore (lv' := [(9, .long (leanF C (Int32.toInt64 u) (Int32.toInt64 v))), (8, .ref o), (0, .ref x), (1, .int (nI j)), (2, .int way), (3, .int u), (4, .int v), (5, .int (nI p)), (6, .int e), (7, .int wh)]) Z dX2_ray_118 (by decide) rfl ?_
    refine g_lload Z dX2_ray_120 0 rfl ?_
    refine g_aload_n Z dX2_ray_122 2 rfl rfl ?_
    refine g_get Z dX2_ray_123 0 rfl rfl nX2_ray_X2 4 (by decide) fX2_ray_31 rfl ?_
    refine g_get Z dX2_ray_126 3 rfl rfl nX2_ray_X1 6 (by decide) fX2_ray_101 rfl ?_
    refine g_iload Z dX2_ray_129 9 rfl ?_
    refine g_callSx (w' := [cO x 2 [.ref rw, .int (nI nb), .ref ln, .int (nI dn), .ref t1, .ref t2], cQ E rw 4 RF, cI E ln 12 D, cO t1 1 [.long (ta C), .long (tb C), .long (tc C), .long (td C), .long (te C), .long (tf C), .long (tg C)], cO t2 1 [.long (ta B), .long (tb B), .long (tc B), .long (td B), .long (te B), .long (tf B), .long (tg B)], cO o 0 [.ref k, .ref f, .ref s, .int (nI z)], cI E k 8 K, cI E f 8 F, cI E s 8 G]) Z (qX2_told E (leanF C (Int32.toInt64 u) (Int32.toInt64 v)) (tg C) wh) iX2_told gX2_ray_X2_told ⟨rfl, rfl⟩ ⟨Nat.le_of_ble_eq_true rfl, Nat.le_of_ble_eq_true rfl⟩ dX2_ray_131 rfl rfl (Nat.le_of_ble_eq_true rfl) ⟨Nat.zero_le _, Nat.zero_le _⟩ [] rfl rfl rfl rfl ?_
    exact g_lret Z dX2_ray_134 rfl ⟨Nat.zero_le _, Nat.zero_le _⟩ ⟨congrArg (fun v => some (Value.long v)) (by rw [e_C, rayX, if_neg c_88]), _, _, rfl⟩
  · refine g_aload_n Z dX2_ray_91 1 rfl rfl ?_
    refine g_get Z dX2_ray_92 0 rfl rfl nX2_ray_X2 4 (by decide) fX2_ray_31 rfl ?_
    refine g_iload_n Z dX2_ray_95 4 rfl rfl ?_
    refine g_i2l Z dX2_ray_96 ?_
    refine g_iload Z dX2_ray_97 5 rfl ?_
    refine g_i2l Z dX2_ray_99 ?_
    refine g_callVx (w' := [cO x 2 [.ref rw, .int (nI nb), .ref ln, .int (nI dn), .ref t1, .ref t2], cQ E rw 4 RF, cI E ln 12 D, cO t1 1 [.long (ta C), .long (tb C), .long (tc C), .long (td C), .long (te C), .long (tf C), .long (tg C)], cO t2 1 [.long (ta B), .long (tb B), .long (tc B), .long (td B), .long (te B), .long (tf B), .long (tg B)], cO o 0 [.ref k, .ref f, .ref s, .int (nI z)], cI E k 8 K, cI E f 8 F, cI E s 8 G]) Z (qX1_farAbove E t1 C (Int32.toInt64 u) (Int32.toInt64 v)) iX1_farAbove gX2_ray_X1_farAbove ⟨rfl, rfl⟩ ⟨Nat.le_of_ble_eq_true rfl, Nat.le_of_ble_eq_true rfl⟩ dX2_ray_100 rfl rfl (Nat.le_of_ble_eq_true rfl) ⟨Nat.zero_le _, Nat.zero_le _⟩ [3] rfl rfl 0 rfl rfl rfl rfl rfl ?_
    refine g_goto (tgt := 118) Z dX2_ray_103 (by decide) ?_
    refine g_lstore (lv' := [(9, .long (farF C (Int32.toInt64 u) (Int32.toInt64 v))), (8, .ref o), (0, .ref x), (1, .int (nI j)), (2, .int way), (3, .int u), (4, .int v), (5, .int (nI p)), (6, .int e), (7, .int wh)]) Z dX2_ray_118 (by decide) rfl ?_
    refine g_lload Z dX2_ray_120 0 rfl ?_
    refine g_aload_n Z dX2_ray_122 2 rfl rfl ?_
    refine g_get Z dX2_ray_123 0 rfl rfl nX2_ray_X2 4 (by decide) fX2_ray_31 rfl ?_
    refine g_get Z dX2_ray_126 3 rfl rfl nX2_ray_X1 6 (by decide) fX2_ray_101 rfl ?_
    refine g_iload Z dX2_ray_129 9 rfl ?_
    refine g_callSx (w' := [cO x 2 [.ref rw, .int (nI nb), .ref ln, .int (nI dn), .ref t1, .ref t2], cQ E rw 4 RF, cI E ln 12 D, cO t1 1 [.long (ta C), .long (tb C), .long (tc C), .long (td C), .long (te C), .long (tf C), .long (tg C)], cO t2 1 [.long (ta B), .long (tb B), .long (tc B), .long (td B), .long (te B), .long (tf B), .long (tg B)], cO o 0 [.ref k, .ref f, .ref s, .int (nI z)], cI E k 8 K, cI E f 8 F, cI E s 8 G]) Z (qX2_told E (farF C (Int32.toInt64 u) (Int32.toInt64 v)) (tg C) wh) iX2_told gX2_ray_X2_told ⟨rfl, rfl⟩ ⟨Nat.le_of_ble_eq_true rfl, Nat.le_of_ble_eq_true rfl⟩ dX2_ray_131 rfl rfl (Nat.le_of_ble_eq_true rfl) ⟨Nat.zero_le _, Nat.zero_le _⟩ [] rfl rfl rfl rfl ?_
    exact g_lret Z dX2_ray_134 rfl ⟨Nat.zero_le _, Nat.zero_le _⟩ ⟨congrArg (fun v => some (Value.long v)) (by rw [e_C, rayX, if_pos c_88]), _, _, rfl⟩


set_option maxHeartbeats 4000000 in
set_option maxRecDepth 100000 in
theorem qX2_stopsN (E : zE) (x rw ln t1 t2 : Nat) (nb dn : Nat) (RF : Nat → Option Nat) (D : Nat → Int32) (A B : TB) (o k f s : Nat) (K F G : Nat → Int32) (z : Nat) (j : Nat) (way u v : Int32) (hnb : nb ≤ 4) (hj : j < nb) (hr : RF j = some o) (hz : z ≤ 8) (hv : ¬ ((way = 0 ∨ way = 1) ∧ (ner u ∧ ner v))) : zF E yX2_stops wsX2_stops rX2_stops [.ref x, .int (nI j), .int way, .int u, .int v] [cO x 2 [.ref rw, .int (nI nb), .ref ln, .int (nI dn), .ref t1, .ref t2], cQ E rw 4 RF, cI E ln 12 D, cO t1 1 [.long (ta A), .long (tb A), .long (tc A), .long (td A), .long (te A), .long (tf A), .long (tg A)], cO t2 1 [.long (ta B), .long (tb B), .long (tc B), .long (td B), .long (te B), .long (tf B), .long (tg B)], cO o 0 [.ref k, .ref f, .ref s, .int (nI z)], cI E k 8 K, cI E f 8 F, cI E s 8 G] (zx (some (.int (-1))) ([cO x 2 [.ref rw, .int (nI nb), .ref ln, .int (nI dn), .ref t1, .ref t2], cQ E rw 4 RF, cI E ln 12 D, cO t1 1 [.long (ta A), .long (tb A), .long (tc A), .long (td A), .long (te A), .long (tf A), .long (tg A)], cO t2 1 [.long (ta B), .long (tb B), .long (tc B), .long (td B), .long (te B), .long (tf B), .long (tg B)], cO o 0 [.ref k, .ref f, .ref s, .int (nI z)], cI E k 8 K, cI E f 8 F, cI E s 8 G])) := by
  refine z_start RX2 "stops" (by decide) rfl rfl rfl (Nat.le_of_ble_eq_true rfl) ?_
  intro J Z
  refine g_eq Z (lv2 := [(0, .ref x), (1, .int (nI j)), (2, .int way), (3, .int u), (4, .int v)]) rfl rfl rfl ?_
  refine g_aload_n Z dX2_stops_0 0 rfl rfl ?_
  refine g_iload_n Z dX2_stops_1 1 rfl rfl ?_
  refine g_callVx (w' := [cO x 2 [.ref rw, .int (nI nb), .ref ln, .int (nI dn), .ref t1, .ref t2], cQ E rw 4 RF, cI E ln 12 D, cO t1 1 [.long (ta A), .long (tb A), .long (tc A), .long (td A), .long (te A), .long (tf A), .long (tg A)], cO t2 1 [.long (ta B), .long (tb B), .long (tc B), .long (td B), .long (te B), .long (tf B), .long (tg B)], cO o 0 [.ref k, .ref f, .ref s, .int (nI z)], cI E k 8 K, cI E f 8 F, cI E s 8 G]) Z (qX2_rowAt E x rw ln t1 t2 nb dn RF j o hj hnb hr) iX2_rowAt gX2_stops_X2_rowAt ⟨rfl, rfl⟩ ⟨Nat.le_of_ble_eq_true rfl, Nat.le_of_ble_eq_true rfl⟩ dX2_stops_2 rfl rfl (Nat.le_of_ble_eq_true rfl) ⟨Nat.zero_le _, Nat.zero_le _⟩ [0, 1] rfl rfl 0 rfl rfl rfl rfl rfl ?_
  refine g_astore (lv' := [(5, .ref o), (0, .ref x), (1, .int (nI j)), (2, .int way), (3, .int u), (4, .int v)]) Z dX2_stops_5 (by decide) rfl ?_
  refine g_aload Z dX2_stops_7 0 rfl ?_
  refine g_ifnull Z dX2_stops_9 ?_
  refine g_iload_n Z dX2_stops_12 3 rfl rfl ?_
  refine g_callSx (w' := [cO x 2 [.ref rw, .int (nI nb), .ref ln, .int (nI dn), .ref t1, .ref t2], cQ E rw 4 RF, cI E ln 12 D, cO t1 1 [.long (ta A), .long (tb A), .long (tc A), .long (td A), .long (te A), .long (tf A), .long (tg A)], cO t2 1 [.long (ta B), .long (tb B), .long (tc B), .long (td B), .long (te B), .long (tf B), .long (tg B)], cO o 0 [.ref k, .ref f, .ref s, .int (nI z)], cI E k 8 K, cI E f 8 F, cI E s 8 G]) Z (qX2_isEither E way) iX2_isEither gX2_stops_X2_isEither ⟨rfl, rfl⟩ ⟨Nat.le_of_ble_eq_true rfl, Nat.le_of_ble_eq_true rfl⟩ dX2_stops_13 rfl rfl (Nat.le_of_ble_eq_true rfl) ⟨Nat.zero_le _, Nat.zero_le _⟩ [] rfl rfl rfl rfl ?_
  refine g_ifb_eq (tgt := 34) Z dX2_stops_16 (by decide) (fun c_16 => ?_) (fun c_16 => ?_)
  · refine g_iconst Z dX2_stops_34 zi_m1 ?_
    exact g_iret Z dX2_stops_35 rfl ⟨Nat.zero_le _, Nat.zero_le _⟩ ⟨rfl, rfl⟩
  · refine g_iload_n Z dX2_stops_19 4 rfl rfl ?_
    refine g_callSx (w' := [cO x 2 [.ref rw, .int (nI nb), .ref ln, .int (nI dn), .ref t1, .ref t2], cQ E rw 4 RF, cI E ln 12 D, cO t1 1 [.long (ta A), .long (tb A), .long (tc A), .long (td A), .long (te A), .long (tf A), .long (tg A)], cO t2 1 [.long (ta B), .long (tb B), .long (tc B), .long (td B), .long (te B), .long (tf B), .long (tg B)], cO o 0 [.ref k, .ref f, .ref s, .int (nI z)], cI E k 8 K, cI E f 8 F, cI E s 8 G]) Z (qX2_isNear E u) iX2_isNear gX2_stops_X2_isNear ⟨rfl, rfl⟩ ⟨Nat.le_of_ble_eq_true rfl, Nat.le_of_ble_eq_true rfl⟩ dX2_stops_20 rfl rfl (Nat.le_of_ble_eq_true rfl) ⟨Nat.zero_le _, Nat.zero_le _⟩ [] rfl rfl rfl rfl ?_
    refine g_ifb_eq (tgt := 34) Z dX2_stops_23 (by decide) (fun c_23 => ?_) (fun c_23 => ?_)
    · refine g_iconst Z dX2_stops_34 zi_m1 ?_
      exact g_iret Z dX2_stops_35 rfl ⟨Nat.zero_le _, Nat.zero_le _⟩ ⟨rfl, rfl⟩
    · refine g_iload Z dX2_stops_26 5 rfl ?_
      refine g_callSx (w' := [cO x 2 [.ref rw, .int (nI nb), .ref ln, .int (nI dn), .ref t1, .ref t2], cQ E rw 4 RF, cI E ln 12 D, cO t1 1 [.long (ta A), .long (tb A), .long (tc A), .long (td A), .long (te A), .long (tf A), .long (tg A)], cO t2 1 [.long (ta B), .long (tb B), .long (tc B), .long (td B), .long (te B), .long (tf B), .long (tg B)], cO o 0 [.ref k, .ref f, .ref s, .int (nI z)], cI E k 8 K, cI E f 8 F, cI E s 8 G]) Z (qX2_isNear E v) iX2_isNear gX2_stops_X2_isNear ⟨rfl, rfl⟩ ⟨Nat.le_of_ble_eq_true rfl, Nat.le_of_ble_eq_true rfl⟩ dX2_stops_28 rfl rfl (Nat.le_of_ble_eq_true rfl) ⟨Nat.zero_le _, Nat.zero_le _⟩ [] rfl rfl rfl rfl ?_
      refine g_ifb_ne (tgt := 36) Z dX2_stops_31 (by decide) (fun c_31 => ?_) (fun c_31 => ?_)
      · exact absurd ⟨c_16, c_23, c_31⟩ hv
      · refine g_iconst Z dX2_stops_34 zi_m1 ?_
        exact g_iret Z dX2_stops_35 rfl ⟨Nat.zero_le _, Nat.zero_le _⟩ ⟨rfl, rfl⟩

theorem nX2_stops_X0 : ∀ w ∈ wsX00, w ∈ wsX2_stops := by decide +kernel
theorem fX2_stops_43 : Cond.fieldLink RX2 43 (TX0 3).1 (TX0 3).2.1 (TX0 3).2.2.1 ∈ wsX2_stops := by decide +kernel
theorem nX2_stops_X2 : ∀ w ∈ wsX20, w ∈ wsX2_stops := by decide +kernel
theorem fX2_stops_31 : Cond.fieldLink RX2 31 (TX2 4).1 (TX2 4).2.1 (TX2 4).2.2.1 ∈ wsX2_stops := by decide +kernel
theorem fX2_stops_61 : Cond.fieldLink RX2 61 (TX0 0).1 (TX0 0).2.1 (TX0 0).2.2.1 ∈ wsX2_stops := by decide +kernel
theorem mX2_stops_134_l : Cond.methodLink RX2 134 Lib.MathLoose.abs_long.x ∈ wsX2_stops := by decide +kernel
theorem mX2_stops_134_s : Cond.static Lib.MathLoose.abs_long.x ∈ wsX2_stops := by decide +kernel
theorem mX2_stops_134_i : Cond.initialized "java/lang/Math" ∈ wsX2_stops := by decide +kernel
theorem mX2_stops_134_c : Cond.code Lib.MathLoose.abs_long.x Lib.MathLoose.abs_long.code 2 (some .long) ∈ wsX2_stops := by decide +kernel
theorem fX2_stops_68 : Cond.fieldLink RX2 68 (TX0 1).1 (TX0 1).2.1 (TX0 1).2.2.1 ∈ wsX2_stops := by decide +kernel
theorem nX2_stops_X1 : ∀ w ∈ wsX10, w ∈ wsX2_stops := by decide +kernel
theorem fX2_stops_101 : Cond.fieldLink RX2 101 (TX1 6).1 (TX1 6).2.1 (TX1 6).2.2.1 ∈ wsX2_stops := by decide +kernel
set_option maxHeartbeats 4000000 in
set_option maxRecDepth 100000 in
theorem lX2_stops (E : zE) (x rw ln t1 t2 : Nat) (nb dn : Nat) (RF : Nat → Option Nat) (D : Nat → Int32) (A B : TB) (o k f s : Nat) (K F G : Nat → Int32) (z : Nat) (j : Nat) (way u v : Int32) (hnb : nb ≤ 4) (hj : j < nb) (hr : RF j = some o) (hz : z ≤ 8) (hw : way = 0 ∨ way = 1) (hx : ner u ∧ ner v) {J : zJ} (Z : zOk E J RX2 cX2_stops 7 (some .int) wsX2_stops rX2_stops "stops" (fun _ => True) (fun ov wv => ov = some (.int (stoX K F G way (Int32.toInt64 u) (Int32.toInt64 v) 0 T1 z)) ∧ ∃ A2 B2 : TB, wv = [cO x 2 [.ref rw, .int (nI nb), .ref ln, .int (nI dn), .ref t1, .ref t2], cQ E rw 4 RF, cI E ln 12 D, cO t1 1 [.long (ta A2), .long (tb A2), .long (tc A2), .long (td A2), .long (te A2), .long (tf A2), .long (tg A2)], cO t2 1 [.long (ta B2), .long (tb B2), .long (tc B2), .long (td B2), .long (te B2), .long (tf B2), .long (tg B2)], cO o 0 [.ref k, .ref f, .ref s, .int (nI z)], cI E k 8 K, cI E f 8 F, cI E s 8 G]))  : ∀ (d : Nat) (q : Nat) (C : TB), q + d = z → stoX K F G way (Int32.toInt64 u) (Int32.toInt64 v) q C d = stoX K F G way (Int32.toInt64 u) (Int32.toInt64 v) 0 T1 z → J 0 0 [cO x 2 [.ref rw, .int (nI nb), .ref ln, .int (nI dn), .ref t1, .ref t2], cQ E rw 4 RF, cI E ln 12 D, cO t1 1 [.long (ta C), .long (tb C), .long (tc C), .long (td C), .long (te C), .long (tf C), .long (tg C)], cO t2 1 [.long (ta B), .long (tb B), .long (tc B), .long (td B), .long (te B), .long (tf B), .long (tg B)], cO o 0 [.ref k, .ref f, .ref s, .int (nI z)], cI E k 8 K, cI E f 8 F, cI E s 8 G] 46 [(6, .int (nI q)), (5, .ref o), (0, .ref x), (1, .int (nI j)), (2, .int way), (3, .int u), (4, .int v)] [] := by
  intro d
  induction d with
  | zero =>
    intro q C h1 h2
    refine g_iload Z dX2_stops_46 0 rfl ?_
    refine g_aload Z dX2_stops_48 1 rfl ?_
    refine g_get Z dX2_stops_50 5 rfl rfl nX2_stops_X0 3 (by decide) fX2_stops_43 rfl ?_
    refine g_icmpN_ge (tgt := 136) Z dX2_stops_53 (by decide) q z rfl rfl (by omega) (by omega) (fun c_53 => ?_) (fun c_53 => absurd c_53 (by omega))
    refine g_iconst Z dX2_stops_136 zi_m1 ?_
    exact g_iret Z dX2_stops_137 rfl ⟨Nat.zero_le _, Nat.zero_le _⟩ ⟨by rw [← h2]; rfl, _, _, rfl⟩
  | succ d ih =>
    intro q C h1 h2
    refine g_iload Z dX2_stops_46 0 rfl ?_
    refine g_aload Z dX2_stops_48 1 rfl ?_
    refine g_get Z dX2_stops_50 5 rfl rfl nX2_stops_X0 3 (by decide) fX2_stops_43 rfl ?_
    refine g_icmpN_ge (tgt := 136) Z dX2_stops_53 (by decide) q z rfl rfl (by omega) (by omega) (fun c_53 => absurd c_53 (by omega)) (fun c_53 => ?_)
    refine g_aload_n Z dX2_stops_56 2 rfl rfl ?_
    refine g_get Z dX2_stops_57 0 rfl rfl nX2_stops_X2 4 (by decide) fX2_stops_31 rfl ?_
    refine g_aload Z dX2_stops_60 1 rfl ?_
    refine g_get Z dX2_stops_62 5 rfl rfl nX2_stops_X0 0 (by decide) fX2_stops_61 rfl ?_
    refine g_iload Z dX2_stops_65 0 rfl ?_
    refine g_iald Z dX2_stops_67 6 rfl q rfl (by omega) rfl ?_
    refine g_aload Z dX2_stops_68 1 rfl ?_
    refine g_iload Z dX2_stops_70 0 rfl ?_
    refine g_iload_n Z dX2_stops_72 4 rfl rfl ?_
    refine g_callVx (w' := [cO x 2 [.ref rw, .int (nI nb), .ref ln, .int (nI dn), .ref t1, .ref t2], cQ E rw 4 RF, cI E ln 12 D, cO t1 1 [.long (ta C), .long (tb C), .long (tc C), .long (td C), .long (te C), .long (tf C), .long (tg C)], cO t2 1 [.long (ta B), .long (tb B), .long (tc B), .long (td B), .long (te B), .long (tf B), .long (tg B)], cO o 0 [.ref k, .ref f, .ref s, .int (nI z)], cI E k 8 K, cI E f 8 F, cI E s 8 G]) Z (qX0_strength E o k f s K F G z q way (by omega)) iX0_strength gX2_stops_X0_strength ⟨rfl, rfl⟩ ⟨Nat.le_of_ble_eq_true rfl, Nat.le_of_ble_eq_true rfl⟩ dX2_stops_73 rfl rfl (Nat.le_of_ble_eq_true rfl) ⟨Nat.zero_le _, Nat.zero_le _⟩ [5, 6, 7, 8] rfl rfl 0 rfl rfl rfl rfl rfl ?_
    refine g_callVx (w' := [cO x 2 [.ref rw, .int (nI nb), .ref ln, .int (nI dn), .ref t1, .ref t2], cQ E rw 4 RF, cI E ln 12 D, cO t1 1 [.long (ta (goF (K q) (stg K F G way q) C)), .long (tb (goF (K q) (stg K F G way q) C)), .long (tc (goF (K q) (stg K F G way q) C)), .long (td (goF (K q) (stg K F G way q) C)), .long (te (goF (K q) (stg K F G way q) C)), .long (tf (goF (K q) (stg K F G way q) C)), .long (tg (goF (K q) (stg K F G way q) C))], cO t2 1 [.long (ta B), .long (tb B), .long (tc B), .long (td B), .long (te B), .long (tf B), .long (tg B)], cO o 0 [.ref k, .ref f, .ref s, .int (nI z)], cI E k 8 K, cI E f 8 F, cI E s 8 G]) Z (qX1_go E t1 C (K q) (stg K F G way q)) iX1_go gX2_stops_X1_go ⟨rfl, rfl⟩ ⟨Nat.le_of_ble_eq_true rfl, Nat.le_of_ble_eq_true rfl⟩ dX2_stops_76 rfl rfl (Nat.le_of_ble_eq_true rfl) ⟨Nat.zero_le _, Nat.zero_le _⟩ [3] rfl rfl 0 rfl rfl rfl rfl rfl ?_
    obtain ⟨C2, e_C2⟩ : ∃ Y : TB, goF (K q) (stg K F G way q) C = Y := ⟨_, rfl⟩
    rw [e_C2]
    refine g_aload Z dX2_stops_79 1 rfl ?_
    refine g_get Z dX2_stops_81 5 rfl rfl nX2_stops_X0 0 (by decide) fX2_stops_61 rfl ?_
    refine g_iload Z dX2_stops_84 0 rfl ?_
    refine g_iald Z dX2_stops_86 6 rfl q rfl (by omega) rfl ?_
    refine g_iconst Z dX2_stops_87 zi_4 ?_
    refine g_icmp_ne (tgt := 130) Z dX2_stops_88 (by decide) (fun c_88 => ?_) (fun c_88 => ?_)
    · refine g_iinc (lv' := [(6, .int (nI (q + 1))), (5, .ref o), (0, .ref x), (1, .int (nI j)), (2, .int way), (3, .int u), (4, .int v)]) Z dX2_stops_130 0 rfl (zinc _) (by decide) rfl ?_
      refine g_goto (tgt := 46) Z dX2_stops_133 (by decide) ?_
      rw [stoX, e_C2, if_neg (fun y => c_88 y.1)] at h2
      refine g_lv (lv2 := [(6, .int (nI (q + 1))), (5, .ref o), (0, .ref x), (1, .int (nI j)), (2, .int way), (3, .int u), (4, .int v)]) Z [0, 1, 2, 3, 4, 5, 6] rfl ?_
      exact ih (q + 1) _ (by omega) h2
    · refine g_aload_n Z dX2_stops_91 2 rfl rfl ?_
      refine g_get Z dX2_stops_92 0 rfl rfl nX2_stops_X2 4 (by decide) fX2_stops_31 rfl ?_
      refine g_iload_n Z dX2_stops_95 5 rfl rfl ?_
      refine g_i2l Z dX2_stops_96 ?_
      refine g_iload Z dX2_stops_97 6 rfl ?_
      refine g_i2l Z dX2_stops_99 ?_
      refine g_callVx (w' := [cO x 2 [.ref rw, .int (nI nb), .ref ln, .int (nI dn), .ref t1, .ref t2], cQ E rw 4 RF, cI E ln 12 D, cO t1 1 [.long (ta C2), .long (tb C2), .long (tc C2), .long (td C2), .long (te C2), .long (tf C2), .long (tg C2)], cO t2 1 [.long (ta B), .long (tb B), .long (tc B), .long (td B), .long (te B), .long (tf B), .long (tg B)], cO o 0 [.ref k, .ref f, .ref s, .int (nI z)], cI E k 8 K, cI E f 8 F, cI E s 8 G]) Z (qX1_farAbove E t1 C2 (Int32.toInt64 u) (Int32.toInt64 v)) iX1_farAbove gX2_stops_X1_farAbove ⟨rfl, rfl⟩ ⟨Nat.le_of_ble_eq_true rfl, Nat.le_of_ble_eq_true rfl⟩ dX2_stops_100 rfl rfl (Nat.le_of_ble_eq_true rfl) ⟨Nat.zero_le _, Nat.zero_le _⟩ [3] rfl rfl 0 rfl rfl rfl rfl rfl ?_
      refine g_mabsL Z dX2_stops_103 mX2_stops_134_l mX2_stops_134_s mX2_stops_134_i mX2_stops_134_c (Nat.le_of_ble_eq_true rfl) (Nat.le_of_ble_eq_true rfl) ⟨Nat.zero_le _, Nat.zero_le _⟩ ?_
      refine g_aload Z dX2_stops_106 1 rfl ?_
      refine g_get Z dX2_stops_108 5 rfl rfl nX2_stops_X0 1 (by decide) fX2_stops_68 rfl ?_
      refine g_iload Z dX2_stops_111 0 rfl ?_
      refine g_iald Z dX2_stops_113 7 rfl q rfl (by omega) rfl ?_
      refine g_i2l Z dX2_stops_114 ?_
      refine g_aload_n Z dX2_stops_115 2 rfl rfl ?_
      refine g_get Z dX2_stops_116 0 rfl rfl nX2_stops_X2 4 (by decide) fX2_stops_31 rfl ?_
      refine g_get Z dX2_stops_119 3 rfl rfl nX2_stops_X1 6 (by decide) fX2_stops_101 rfl ?_
      refine g_lmul Z dX2_stops_122 ?_
      refine g_lcmp_le (tgt := 130) Z dX2_stops_123 dX2_stops_124 rfl (by decide) (fun c_124 => ?_) (fun c_124 => ?_)
      · refine g_iinc (lv' := [(6, .int (nI (q + 1))), (5, .ref o), (0, .ref x), (1, .int (nI j)), (2, .int way), (3, .int u), (4, .int v)]) Z dX2_stops_130 0 rfl (zinc _) (by decide) rfl ?_
        refine g_goto (tgt := 46) Z dX2_stops_133 (by decide) ?_
        rw [stoX, e_C2, if_neg (fun y => y.2 c_124)] at h2
        refine g_lv (lv2 := [(6, .int (nI (q + 1))), (5, .ref o), (0, .ref x), (1, .int (nI j)), (2, .int way), (3, .int u), (4, .int v)]) Z [0, 1, 2, 3, 4, 5, 6] rfl ?_
        exact ih (q + 1) _ (by omega) h2
      · refine g_iload Z dX2_stops_127 0 rfl ?_
        exact g_iret Z dX2_stops_129 rfl ⟨Nat.zero_le _, Nat.zero_le _⟩ ⟨by rw [stoX, e_C2, if_pos ⟨c_88, c_124⟩] at h2; rw [← h2], _, _, rfl⟩
set_option maxHeartbeats 4000000 in
set_option maxRecDepth 100000 in
theorem qX2_stops (E : zE) (x rw ln t1 t2 : Nat) (nb dn : Nat) (RF : Nat → Option Nat) (D : Nat → Int32) (A B : TB) (o k f s : Nat) (K F G : Nat → Int32) (z : Nat) (j : Nat) (way u v : Int32) (hnb : nb ≤ 4) (hj : j < nb) (hr : RF j = some o) (hz : z ≤ 8) (hw : way = 0 ∨ way = 1) (hx : ner u ∧ ner v) : zF E yX2_stops wsX2_stops rX2_stops [.ref x, .int (nI j), .int way, .int u, .int v] [cO x 2 [.ref rw, .int (nI nb), .ref ln, .int (nI dn), .ref t1, .ref t2], cQ E rw 4 RF, cI E ln 12 D, cO t1 1 [.long (ta A), .long (tb A), .long (tc A), .long (td A), .long (te A), .long (tf A), .long (tg A)], cO t2 1 [.long (ta B), .long (tb B), .long (tc B), .long (td B), .long (te B), .long (tf B), .long (tg B)], cO o 0 [.ref k, .ref f, .ref s, .int (nI z)], cI E k 8 K, cI E f 8 F, cI E s 8 G] (fun ov wv => ov = some (.int (stoX K F G way (Int32.toInt64 u) (Int32.toInt64 v) 0 T1 z)) ∧ ∃ A2 B2 : TB, wv = [cO x 2 [.ref rw, .int (nI nb), .ref ln, .int (nI dn), .ref t1, .ref t2], cQ E rw 4 RF, cI E ln 12 D, cO t1 1 [.long (ta A2), .long (tb A2), .long (tc A2), .long (td A2), .long (te A2), .long (tf A2), .long (tg A2)], cO t2 1 [.long (ta B2), .long (tb B2), .long (tc B2), .long (td B2), .long (te B2), .long (tf B2), .long (tg B2)], cO o 0 [.ref k, .ref f, .ref s, .int (nI z)], cI E k 8 K, cI E f 8 F, cI E s 8 G]) := by
  refine z_start RX2 "stops" (by decide) rfl rfl rfl (Nat.le_of_ble_eq_true rfl) ?_
  intro J Z
  refine g_eq Z (lv2 := [(0, .ref x), (1, .int (nI j)), (2, .int way), (3, .int u), (4, .int v)]) rfl rfl rfl ?_
  refine g_aload_n Z dX2_stops_0 0 rfl rfl ?_
  refine g_iload_n Z dX2_stops_1 1 rfl rfl ?_
  refine g_callVx (w' := [cO x 2 [.ref rw, .int (nI nb), .ref ln, .int (nI dn), .ref t1, .ref t2], cQ E rw 4 RF, cI E ln 12 D, cO t1 1 [.long (ta A), .long (tb A), .long (tc A), .long (td A), .long (te A), .long (tf A), .long (tg A)], cO t2 1 [.long (ta B), .long (tb B), .long (tc B), .long (td B), .long (te B), .long (tf B), .long (tg B)], cO o 0 [.ref k, .ref f, .ref s, .int (nI z)], cI E k 8 K, cI E f 8 F, cI E s 8 G]) Z (qX2_rowAt E x rw ln t1 t2 nb dn RF j o hj hnb hr) iX2_rowAt gX2_stops_X2_rowAt ⟨rfl, rfl⟩ ⟨Nat.le_of_ble_eq_true rfl, Nat.le_of_ble_eq_true rfl⟩ dX2_stops_2 rfl rfl (Nat.le_of_ble_eq_true rfl) ⟨Nat.zero_le _, Nat.zero_le _⟩ [0, 1] rfl rfl 0 rfl rfl rfl rfl rfl ?_
  refine g_astore (lv' := [(5, .ref o), (0, .ref x), (1, .int (nI j)), (2, .int way), (3, .int u), (4, .int v)]) Z dX2_stops_5 (by decide) rfl ?_
  refine g_aload Z dX2_stops_7 0 rfl ?_
  refine g_ifnull Z dX2_stops_9 ?_
  refine g_iload_n Z dX2_stops_12 3 rfl rfl ?_
  refine g_callSx (w' := [cO x 2 [.ref rw, .int (nI nb), .ref ln, .int (nI dn), .ref t1, .ref t2], cQ E rw 4 RF, cI E ln 12 D, cO t1 1 [.long (ta A), .long (tb A), .long (tc A), .long (td A), .long (te A), .long (tf A), .long (tg A)], cO t2 1 [.long (ta B), .long (tb B), .long (tc B), .long (td B), .long (te B), .long (tf B), .long (tg B)], cO o 0 [.ref k, .ref f, .ref s, .int (nI z)], cI E k 8 K, cI E f 8 F, cI E s 8 G]) Z (qX2_isEither E way) iX2_isEither gX2_stops_X2_isEither ⟨rfl, rfl⟩ ⟨Nat.le_of_ble_eq_true rfl, Nat.le_of_ble_eq_true rfl⟩ dX2_stops_13 rfl rfl (Nat.le_of_ble_eq_true rfl) ⟨Nat.zero_le _, Nat.zero_le _⟩ [] rfl rfl rfl rfl ?_
  refine g_ifb_eq (tgt := 34) Z dX2_stops_16 (by decide) (fun c_16 => absurd c_16 (fun q => q hw)) (fun c_16 => ?_)
  refine g_iload_n Z dX2_stops_19 4 rfl rfl ?_
  refine g_callSx (w' := [cO x 2 [.ref rw, .int (nI nb), .ref ln, .int (nI dn), .ref t1, .ref t2], cQ E rw 4 RF, cI E ln 12 D, cO t1 1 [.long (ta A), .long (tb A), .long (tc A), .long (td A), .long (te A), .long (tf A), .long (tg A)], cO t2 1 [.long (ta B), .long (tb B), .long (tc B), .long (td B), .long (te B), .long (tf B), .long (tg B)], cO o 0 [.ref k, .ref f, .ref s, .int (nI z)], cI E k 8 K, cI E f 8 F, cI E s 8 G]) Z (qX2_isNear E u) iX2_isNear gX2_stops_X2_isNear ⟨rfl, rfl⟩ ⟨Nat.le_of_ble_eq_true rfl, Nat.le_of_ble_eq_true rfl⟩ dX2_stops_20 rfl rfl (Nat.le_of_ble_eq_true rfl) ⟨Nat.zero_le _, Nat.zero_le _⟩ [] rfl rfl rfl rfl ?_
  refine g_ifb_eq (tgt := 34) Z dX2_stops_23 (by decide) (fun c_23 => absurd c_23 (fun q => q hx.1)) (fun c_23 => ?_)
  refine g_iload Z dX2_stops_26 5 rfl ?_
  refine g_callSx (w' := [cO x 2 [.ref rw, .int (nI nb), .ref ln, .int (nI dn), .ref t1, .ref t2], cQ E rw 4 RF, cI E ln 12 D, cO t1 1 [.long (ta A), .long (tb A), .long (tc A), .long (td A), .long (te A), .long (tf A), .long (tg A)], cO t2 1 [.long (ta B), .long (tb B), .long (tc B), .long (td B), .long (te B), .long (tf B), .long (tg B)], cO o 0 [.ref k, .ref f, .ref s, .int (nI z)], cI E k 8 K, cI E f 8 F, cI E s 8 G]) Z (qX2_isNear E v) iX2_isNear gX2_stops_X2_isNear ⟨rfl, rfl⟩ ⟨Nat.le_of_ble_eq_true rfl, Nat.le_of_ble_eq_true rfl⟩ dX2_stops_28 rfl rfl (Nat.le_of_ble_eq_true rfl) ⟨Nat.zero_le _, Nat.zero_le _⟩ [] rfl rfl rfl rfl ?_
  refine g_ifb_ne (tgt := 36) Z dX2_stops_31 (by decide) (fun c_31 => ?_) (fun c_31 => absurd c_31 (fun q => q hx.2))
  refine g_aload_n Z dX2_stops_36 1 rfl rfl ?_
  refine g_get Z dX2_stops_37 0 rfl rfl nX2_stops_X2 4 (by decide) fX2_stops_31 rfl ?_
  refine g_callVx (w' := [cO x 2 [.ref rw, .int (nI nb), .ref ln, .int (nI dn), .ref t1, .ref t2], cQ E rw 4 RF, cI E ln 12 D, cO t1 1 [.long (ta T1), .long (tb T1), .long (tc T1), .long (td T1), .long (te T1), .long (tf T1), .long (tg T1)], cO t2 1 [.long (ta B), .long (tb B), .long (tc B), .long (td B), .long (te B), .long (tf B), .long (tg B)], cO o 0 [.ref k, .ref f, .ref s, .int (nI z)], cI E k 8 K, cI E f 8 F, cI E s 8 G]) Z (qX1_clear E t1 A) iX1_clear gX2_stops_X1_clear ⟨rfl, rfl⟩ ⟨Nat.le_of_ble_eq_true rfl, Nat.le_of_ble_eq_true rfl⟩ dX2_stops_40 rfl rfl (Nat.le_of_ble_eq_true rfl) ⟨Nat.zero_le _, Nat.zero_le _⟩ [3] rfl rfl 0 rfl rfl rfl rfl rfl ?_
  refine g_iconst Z dX2_stops_43 zi_0 ?_
  refine g_istore (lv' := [(6, .int 0), (5, .ref o), (0, .ref x), (1, .int (nI j)), (2, .int way), (3, .int u), (4, .int v)]) Z dX2_stops_44 (by decide) rfl ?_
  exact lX2_stops E x rw ln t1 t2 nb dn RF D A B o k f s K F G z j way u v hnb hj hr hz hw hx Z z 0 T1 (by omega) rfl


set_option maxHeartbeats 4000000 in
set_option maxRecDepth 100000 in
theorem qX2_fullN (E : zE) (x rw ln t1 t2 : Nat) (nb dn : Nat) (RF : Nat → Option Nat) (D : Nat → Int32) (A B : TB) (o k f s : Nat) (K F G : Nat → Int32) (z : Nat) (j : Nat) (way : Int32) (hnb : nb ≤ 4) (hj : j < nb) (hr : RF j = some o) (hz : z ≤ 8) (hv : ¬ (way = 0 ∨ way = 1)) : zF E yX2_full wsX2_full rX2_full [.ref x, .int (nI j), .int way] [cO x 2 [.ref rw, .int (nI nb), .ref ln, .int (nI dn), .ref t1, .ref t2], cQ E rw 4 RF, cI E ln 12 D, cO t1 1 [.long (ta A), .long (tb A), .long (tc A), .long (td A), .long (te A), .long (tf A), .long (tg A)], cO t2 1 [.long (ta B), .long (tb B), .long (tc B), .long (td B), .long (te B), .long (tf B), .long (tg B)], cO o 0 [.ref k, .ref f, .ref s, .int (nI z)], cI E k 8 K, cI E f 8 F, cI E s 8 G] (zx (some (.int (-1))) ([cO x 2 [.ref rw, .int (nI nb), .ref ln, .int (nI dn), .ref t1, .ref t2], cQ E rw 4 RF, cI E ln 12 D, cO t1 1 [.long (ta A), .long (tb A), .long (tc A), .long (td A), .long (te A), .long (tf A), .long (tg A)], cO t2 1 [.long (ta B), .long (tb B), .long (tc B), .long (td B), .long (te B), .long (tf B), .long (tg B)], cO o 0 [.ref k, .ref f, .ref s, .int (nI z)], cI E k 8 K, cI E f 8 F, cI E s 8 G])) := by
  refine z_start RX2 "full" (by decide) rfl rfl rfl (Nat.le_of_ble_eq_true rfl) ?_
  intro J Z
  refine g_eq Z (lv2 := [(0, .ref x), (1, .int (nI j)), (2, .int way)]) rfl rfl rfl ?_
  refine g_aload_n Z dX2_full_0 0 rfl rfl ?_
  refine g_iload_n Z dX2_full_1 1 rfl rfl ?_
  refine g_callVx (w' := [cO x 2 [.ref rw, .int (nI nb), .ref ln, .int (nI dn), .ref t1, .ref t2], cQ E rw 4 RF, cI E ln 12 D, cO t1 1 [.long (ta A), .long (tb A), .long (tc A), .long (td A), .long (te A), .long (tf A), .long (tg A)], cO t2 1 [.long (ta B), .long (tb B), .long (tc B), .long (td B), .long (te B), .long (tf B), .long (tg B)], cO o 0 [.ref k, .ref f, .ref s, .int (nI z)], cI E k 8 K, cI E f 8 F, cI E s 8 G]) Z (qX2_rowAt E x rw ln t1 t2 nb dn RF j o hj hnb hr) iX2_rowAt gX2_full_X2_rowAt ⟨rfl, rfl⟩ ⟨Nat.le_of_ble_eq_true rfl, Nat.le_of_ble_eq_true rfl⟩ dX2_full_2 rfl rfl (Nat.le_of_ble_eq_true rfl) ⟨Nat.zero_le _, Nat.zero_le _⟩ [0, 1] rfl rfl 0 rfl rfl rfl rfl rfl ?_
  refine g_astore_n (lv' := [(3, .ref o), (0, .ref x), (1, .int (nI j)), (2, .int way)]) Z dX2_full_5 rfl (by decide) rfl ?_
  refine g_aload_n Z dX2_full_6 0 rfl rfl ?_
  refine g_ifnull Z dX2_full_7 ?_
  refine g_iload_n Z dX2_full_10 3 rfl rfl ?_
  refine g_callSx (w' := [cO x 2 [.ref rw, .int (nI nb), .ref ln, .int (nI dn), .ref t1, .ref t2], cQ E rw 4 RF, cI E ln 12 D, cO t1 1 [.long (ta A), .long (tb A), .long (tc A), .long (td A), .long (te A), .long (tf A), .long (tg A)], cO t2 1 [.long (ta B), .long (tb B), .long (tc B), .long (td B), .long (te B), .long (tf B), .long (tg B)], cO o 0 [.ref k, .ref f, .ref s, .int (nI z)], cI E k 8 K, cI E f 8 F, cI E s 8 G]) Z (qX2_isEither E way) iX2_isEither gX2_full_X2_isEither ⟨rfl, rfl⟩ ⟨Nat.le_of_ble_eq_true rfl, Nat.le_of_ble_eq_true rfl⟩ dX2_full_11 rfl rfl (Nat.le_of_ble_eq_true rfl) ⟨Nat.zero_le _, Nat.zero_le _⟩ [] rfl rfl rfl rfl ?_
  refine g_ifb_ne (tgt := 19) Z dX2_full_14 (by decide) (fun c_14 => absurd c_14 hv) (fun c_14 => ?_)
  refine g_iconst Z dX2_full_17 zi_m1 ?_
  exact g_iret Z dX2_full_18 rfl ⟨Nat.zero_le _, Nat.zero_le _⟩ ⟨rfl, rfl⟩

theorem nX2_full_X0 : ∀ w ∈ wsX00, w ∈ wsX2_full := by decide +kernel
theorem fX2_full_43 : Cond.fieldLink RX2 43 (TX0 3).1 (TX0 3).2.1 (TX0 3).2.2.1 ∈ wsX2_full := by decide +kernel
theorem nX2_full_X2 : ∀ w ∈ wsX20, w ∈ wsX2_full := by decide +kernel
theorem fX2_full_31 : Cond.fieldLink RX2 31 (TX2 4).1 (TX2 4).2.1 (TX2 4).2.2.1 ∈ wsX2_full := by decide +kernel
theorem fX2_full_61 : Cond.fieldLink RX2 61 (TX0 0).1 (TX0 0).2.1 (TX0 0).2.2.1 ∈ wsX2_full := by decide +kernel
theorem fX2_full_68 : Cond.fieldLink RX2 68 (TX0 1).1 (TX0 1).2.1 (TX0 1).2.2.1 ∈ wsX2_full := by decide +kernel
theorem mX2_full_145_l : Cond.methodLink RX2 145 Lib.MathLoose.min_long.x ∈ wsX2_full := by decide +kernel
theorem mX2_full_145_s : Cond.static Lib.MathLoose.min_long.x ∈ wsX2_full := by decide +kernel
theorem mX2_full_145_i : Cond.initialized "java/lang/Math" ∈ wsX2_full := by decide +kernel
theorem mX2_full_145_c : Cond.code Lib.MathLoose.min_long.x Lib.MathLoose.min_long.code 4 (some .long) ∈ wsX2_full := by decide +kernel
theorem kX2_full_140 : Cond.constantLong RX2 140 (1000) ∈ wsX2_full := by decide +kernel
set_option maxHeartbeats 4000000 in
set_option maxRecDepth 100000 in
theorem lX2_full (E : zE) (x rw ln t1 t2 : Nat) (nb dn : Nat) (RF : Nat → Option Nat) (D : Nat → Int32) (A B : TB) (o k f s : Nat) (K F G : Nat → Int32) (z : Nat) (j : Nat) (way : Int32) (hnb : nb ≤ 4) (hj : j < nb) (hr : RF j = some o) (hz : z ≤ 8) (hw : way = 0 ∨ way = 1) {J : zJ} (Z : zOk E J RX2 cX2_full 7 (some .int) wsX2_full rX2_full "full" (fun _ => True) (fun ov wv => ov = some (.int (Int64.toInt32 (fulX K F G way 1000 0 T1 z))) ∧ ∃ A2 B2 : TB, wv = [cO x 2 [.ref rw, .int (nI nb), .ref ln, .int (nI dn), .ref t1, .ref t2], cQ E rw 4 RF, cI E ln 12 D, cO t1 1 [.long (ta A2), .long (tb A2), .long (tc A2), .long (td A2), .long (te A2), .long (tf A2), .long (tg A2)], cO t2 1 [.long (ta B2), .long (tb B2), .long (tc B2), .long (td B2), .long (te B2), .long (tf B2), .long (tg B2)], cO o 0 [.ref k, .ref f, .ref s, .int (nI z)], cI E k 8 K, cI E f 8 F, cI E s 8 G]))  : ∀ (d : Nat) (q : Nat) (mo : Int64) (C : TB), q + d = z → fulX K F G way mo q C d = fulX K F G way 1000 0 T1 z → J 0 0 [cO x 2 [.ref rw, .int (nI nb), .ref ln, .int (nI dn), .ref t1, .ref t2], cQ E rw 4 RF, cI E ln 12 D, cO t1 1 [.long (ta C), .long (tb C), .long (tc C), .long (td C), .long (te C), .long (tf C), .long (tg C)], cO t2 1 [.long (ta B), .long (tb B), .long (tc B), .long (td B), .long (te B), .long (tf B), .long (tg B)], cO o 0 [.ref k, .ref f, .ref s, .int (nI z)], cI E k 8 K, cI E f 8 F, cI E s 8 G] 34 [(6, .int (nI q)), (4, .long mo), (3, .ref o), (0, .ref x), (1, .int (nI j)), (2, .int way)] [] := by
  intro d
  induction d with
  | zero =>
    intro q mo C h1 h2
    have h2 : mo = fulX K F G way 1000 0 T1 z := h2
    refine g_iload Z dX2_full_34 0 rfl ?_
    refine g_aload_n Z dX2_full_36 2 rfl rfl ?_
    refine g_get Z dX2_full_37 5 rfl rfl nX2_full_X0 3 (by decide) fX2_full_43 rfl ?_
    refine g_icmpN_ge (tgt := 103) Z dX2_full_40 (by decide) q z rfl rfl (by omega) (by omega) (fun c_40 => ?_) (fun c_40 => absurd c_40 (by omega))
    refine g_lload Z dX2_full_103 1 rfl ?_
    refine g_l2i Z dX2_full_105 ?_
    exact g_iret Z dX2_full_106 rfl ⟨Nat.zero_le _, Nat.zero_le _⟩ ⟨by rw [← h2], _, _, rfl⟩
  | succ d ih =>
    intro q mo C h1 h2
    refine g_iload Z dX2_full_34 0 rfl ?_
    refine g_aload_n Z dX2_full_36 2 rfl rfl ?_
    refine g_get Z dX2_full_37 5 rfl rfl nX2_full_X0 3 (by decide) fX2_full_43 rfl ?_
    refine g_icmpN_ge (tgt := 103) Z dX2_full_40 (by decide) q z rfl rfl (by omega) (by omega) (fun c_40 => absurd c_40 (by omega)) (fun c_40 => ?_)
    refine g_aload_n Z dX2_full_43 3 rfl rfl ?_
    refine g_get Z dX2_full_44 0 rfl rfl nX2_full_X2 4 (by decide) fX2_full_31 rfl ?_
    refine g_aload_n Z dX2_full_47 2 rfl rfl ?_
    refine g_get Z dX2_full_48 5 rfl rfl nX2_full_X0 0 (by decide) fX2_full_61 rfl ?_
    refine g_iload Z dX2_full_51 0 rfl ?_
    refine g_iald Z dX2_full_53 6 rfl q rfl (by omega) rfl ?_
    refine g_aload_n Z dX2_full_54 2 rfl rfl ?_
    refine g_iload Z dX2_full_55 0 rfl ?_
    refine g_iload_n Z dX2_full_57 5 rfl rfl ?_
    refine g_callVx (w' := [cO x 2 [.ref rw, .int (nI nb), .ref ln, .int (nI dn), .ref t1, .ref t2], cQ E rw 4 RF, cI E ln 12 D, cO t1 1 [.long (ta C), .long (tb C), .long (tc C), .long (td C), .long (te C), .long (tf C), .long (tg C)], cO t2 1 [.long (ta B), .long (tb B), .long (tc B), .long (td B), .long (te B), .long (tf B), .long (tg B)], cO o 0 [.ref k, .ref f, .ref s, .int (nI z)], cI E k 8 K, cI E f 8 F, cI E s 8 G]) Z (qX0_strength E o k f s K F G z q way (by omega)) iX0_strength gX2_full_X0_strength ⟨rfl, rfl⟩ ⟨Nat.le_of_ble_eq_true rfl, Nat.le_of_ble_eq_true rfl⟩ dX2_full_58 rfl rfl (Nat.le_of_ble_eq_true rfl) ⟨Nat.zero_le _, Nat.zero_le _⟩ [5, 6, 7, 8] rfl rfl 0 rfl rfl rfl rfl rfl ?_
    refine g_callVx (w' := [cO x 2 [.ref rw, .int (nI nb), .ref ln, .int (nI dn), .ref t1, .ref t2], cQ E rw 4 RF, cI E ln 12 D, cO t1 1 [.long (ta (goF (K q) (stg K F G way q) C)), .long (tb (goF (K q) (stg K F G way q) C)), .long (tc (goF (K q) (stg K F G way q) C)), .long (td (goF (K q) (stg K F G way q) C)), .long (te (goF (K q) (stg K F G way q) C)), .long (tf (goF (K q) (stg K F G way q) C)), .long (tg (goF (K q) (stg K F G way q) C))], cO t2 1 [.long (ta B), .long (tb B), .long (tc B), .long (td B), .long (te B), .long (tf B), .long (tg B)], cO o 0 [.ref k, .ref f, .ref s, .int (nI z)], cI E k 8 K, cI E f 8 F, cI E s 8 G]) Z (qX1_go E t1 C (K q) (stg K F G way q)) iX1_go gX2_full_X1_go ⟨rfl, rfl⟩ ⟨Nat.le_of_ble_eq_true rfl, Nat.le_of_ble_eq_true rfl⟩ dX2_full_61 rfl rfl (Nat.le_of_ble_eq_true rfl) ⟨Nat.zero_le _, Nat.zero_le _⟩ [3] rfl rfl 0 rfl rfl rfl rfl rfl ?_
    obtain ⟨C2, e_C2⟩ : ∃ Y : TB, goF (K q) (stg K F G way q) C = Y := ⟨_, rfl⟩
    rw [e_C2]
    refine g_aload_n Z dX2_full_64 2 rfl rfl ?_
    refine g_get Z dX2_full_65 5 rfl rfl nX2_full_X0 0 (by decide) fX2_full_61 rfl ?_
    refine g_iload Z dX2_full_68 0 rfl ?_
    refine g_iald Z dX2_full_70 6 rfl q rfl (by omega) rfl ?_
    refine g_iconst Z dX2_full_71 zi_4 ?_
    refine g_icmp_ne (tgt := 97) Z dX2_full_72 (by decide) (fun c_72 => ?_) (fun c_72 => ?_)
    · refine g_iinc (lv' := [(6, .int (nI (q + 1))), (4, .long mo), (3, .ref o), (0, .ref x), (1, .int (nI j)), (2, .int way)]) Z dX2_full_97 0 rfl (zinc _) (by decide) rfl ?_
      refine g_goto (tgt := 34) Z dX2_full_100 (by decide) ?_
      rw [fulX, e_C2, if_neg c_72] at h2
      refine g_lv (lv2 := [(6, .int (nI (q + 1))), (4, .long mo), (3, .ref o), (0, .ref x), (1, .int (nI j)), (2, .int way)]) Z [0, 1, 2, 3, 4, 5] rfl ?_
      exact ih (q + 1) _ _ (by omega) h2
    · refine g_lload Z dX2_full_75 1 rfl ?_
      refine g_aload_n Z dX2_full_77 3 rfl rfl ?_
      refine g_get Z dX2_full_78 0 rfl rfl nX2_full_X2 4 (by decide) fX2_full_31 rfl ?_
      refine g_aload_n Z dX2_full_81 2 rfl rfl ?_
      refine g_get Z dX2_full_82 5 rfl rfl nX2_full_X0 1 (by decide) fX2_full_68 rfl ?_
      refine g_iload Z dX2_full_85 0 rfl ?_
      refine g_iald Z dX2_full_87 7 rfl q rfl (by omega) rfl ?_
      refine g_i2l Z dX2_full_88 ?_
      refine g_callVx (w' := [cO x 2 [.ref rw, .int (nI nb), .ref ln, .int (nI dn), .ref t1, .ref t2], cQ E rw 4 RF, cI E ln 12 D, cO t1 1 [.long (ta C2), .long (tb C2), .long (tc C2), .long (td C2), .long (te C2), .long (tf C2), .long (tg C2)], cO t2 1 [.long (ta B), .long (tb B), .long (tc B), .long (td B), .long (te B), .long (tf B), .long (tg B)], cO o 0 [.ref k, .ref f, .ref s, .int (nI z)], cI E k 8 K, cI E f 8 F, cI E s 8 G]) Z (qX1_steepestWithin E t1 C2 (Int32.toInt64 (F q))) iX1_steepestWithin gX2_full_X1_steepestWithin ⟨rfl, rfl⟩ ⟨Nat.le_of_ble_eq_true rfl, Nat.le_of_ble_eq_true rfl⟩ dX2_full_89 rfl rfl (Nat.le_of_ble_eq_true rfl) ⟨Nat.zero_le _, Nat.zero_le _⟩ [3] rfl rfl 0 rfl rfl rfl rfl rfl ?_
      refine g_mminL Z dX2_full_92 mX2_full_145_l mX2_full_145_s mX2_full_145_i mX2_full_145_c (Nat.le_of_ble_eq_true rfl) (Nat.le_of_ble_eq_true rfl) ⟨Nat.zero_le _, Nat.zero_le _⟩ ?_
      refine g_lstore (lv' := [(4, .long (minL mo (stpF C2 (Int32.toInt64 (F q))))), (6, .int (nI q)), (3, .ref o), (0, .ref x), (1, .int (nI j)), (2, .int way)]) Z dX2_full_95 (by decide) rfl ?_
      refine g_iinc (lv' := [(6, .int (nI (q + 1))), (4, .long (minL mo (stpF C2 (Int32.toInt64 (F q))))), (3, .ref o), (0, .ref x), (1, .int (nI j)), (2, .int way)]) Z dX2_full_97 1 rfl (zinc _) (by decide) rfl ?_
      refine g_goto (tgt := 34) Z dX2_full_100 (by decide) ?_
      rw [fulX, e_C2, if_pos c_72] at h2
      refine g_lv (lv2 := [(6, .int (nI (q + 1))), (4, .long (minL mo (stpF C2 (Int32.toInt64 (F q))))), (3, .ref o), (0, .ref x), (1, .int (nI j)), (2, .int way)]) Z [0, 1, 2, 3, 4, 5] rfl ?_
      exact ih (q + 1) _ _ (by omega) h2
set_option maxHeartbeats 4000000 in
set_option maxRecDepth 100000 in
theorem qX2_full (E : zE) (x rw ln t1 t2 : Nat) (nb dn : Nat) (RF : Nat → Option Nat) (D : Nat → Int32) (A B : TB) (o k f s : Nat) (K F G : Nat → Int32) (z : Nat) (j : Nat) (way : Int32) (hnb : nb ≤ 4) (hj : j < nb) (hr : RF j = some o) (hz : z ≤ 8) (hw : way = 0 ∨ way = 1) : zF E yX2_full wsX2_full rX2_full [.ref x, .int (nI j), .int way] [cO x 2 [.ref rw, .int (nI nb), .ref ln, .int (nI dn), .ref t1, .ref t2], cQ E rw 4 RF, cI E ln 12 D, cO t1 1 [.long (ta A), .long (tb A), .long (tc A), .long (td A), .long (te A), .long (tf A), .long (tg A)], cO t2 1 [.long (ta B), .long (tb B), .long (tc B), .long (td B), .long (te B), .long (tf B), .long (tg B)], cO o 0 [.ref k, .ref f, .ref s, .int (nI z)], cI E k 8 K, cI E f 8 F, cI E s 8 G] (fun ov wv => ov = some (.int (Int64.toInt32 (fulX K F G way 1000 0 T1 z))) ∧ ∃ A2 B2 : TB, wv = [cO x 2 [.ref rw, .int (nI nb), .ref ln, .int (nI dn), .ref t1, .ref t2], cQ E rw 4 RF, cI E ln 12 D, cO t1 1 [.long (ta A2), .long (tb A2), .long (tc A2), .long (td A2), .long (te A2), .long (tf A2), .long (tg A2)], cO t2 1 [.long (ta B2), .long (tb B2), .long (tc B2), .long (td B2), .long (te B2), .long (tf B2), .long (tg B2)], cO o 0 [.ref k, .ref f, .ref s, .int (nI z)], cI E k 8 K, cI E f 8 F, cI E s 8 G]) := by
  refine z_start RX2 "full" (by decide) rfl rfl rfl (Nat.le_of_ble_eq_true rfl) ?_
  intro J Z
  refine g_eq Z (lv2 := [(0, .ref x), (1, .int (nI j)), (2, .int way)]) rfl rfl rfl ?_
  refine g_aload_n Z dX2_full_0 0 rfl rfl ?_
  refine g_iload_n Z dX2_full_1 1 rfl rfl ?_
  refine g_callVx (w' := [cO x 2 [.ref rw, .int (nI nb), .ref ln, .int (nI dn), .ref t1, .ref t2], cQ E rw 4 RF, cI E ln 12 D, cO t1 1 [.long (ta A), .long (tb A), .long (tc A), .long (td A), .long (te A), .long (tf A), .long (tg A)], cO t2 1 [.long (ta B), .long (tb B), .long (tc B), .long (td B), .long (te B), .long (tf B), .long (tg B)], cO o 0 [.ref k, .ref f, .ref s, .int (nI z)], cI E k 8 K, cI E f 8 F, cI E s 8 G]) Z (qX2_rowAt E x rw ln t1 t2 nb dn RF j o hj hnb hr) iX2_rowAt gX2_full_X2_rowAt ⟨rfl, rfl⟩ ⟨Nat.le_of_ble_eq_true rfl, Nat.le_of_ble_eq_true rfl⟩ dX2_full_2 rfl rfl (Nat.le_of_ble_eq_true rfl) ⟨Nat.zero_le _, Nat.zero_le _⟩ [0, 1] rfl rfl 0 rfl rfl rfl rfl rfl ?_
  refine g_astore_n (lv' := [(3, .ref o), (0, .ref x), (1, .int (nI j)), (2, .int way)]) Z dX2_full_5 rfl (by decide) rfl ?_
  refine g_aload_n Z dX2_full_6 0 rfl rfl ?_
  refine g_ifnull Z dX2_full_7 ?_
  refine g_iload_n Z dX2_full_10 3 rfl rfl ?_
  refine g_callSx (w' := [cO x 2 [.ref rw, .int (nI nb), .ref ln, .int (nI dn), .ref t1, .ref t2], cQ E rw 4 RF, cI E ln 12 D, cO t1 1 [.long (ta A), .long (tb A), .long (tc A), .long (td A), .long (te A), .long (tf A), .long (tg A)], cO t2 1 [.long (ta B), .long (tb B), .long (tc B), .long (td B), .long (te B), .long (tf B), .long (tg B)], cO o 0 [.ref k, .ref f, .ref s, .int (nI z)], cI E k 8 K, cI E f 8 F, cI E s 8 G]) Z (qX2_isEither E way) iX2_isEither gX2_full_X2_isEither ⟨rfl, rfl⟩ ⟨Nat.le_of_ble_eq_true rfl, Nat.le_of_ble_eq_true rfl⟩ dX2_full_11 rfl rfl (Nat.le_of_ble_eq_true rfl) ⟨Nat.zero_le _, Nat.zero_le _⟩ [] rfl rfl rfl rfl ?_
  refine g_ifb_ne (tgt := 19) Z dX2_full_14 (by decide) (fun c_14 => ?_) (fun c_14 => absurd c_14 (fun q => q hw))
  refine g_ldc2 Z dX2_full_19 kX2_full_140 ?_
  refine g_lstore (lv' := [(4, .long 1000), (3, .ref o), (0, .ref x), (1, .int (nI j)), (2, .int way)]) Z dX2_full_22 (by decide) rfl ?_
  refine g_aload_n Z dX2_full_24 2 rfl rfl ?_
  refine g_get Z dX2_full_25 0 rfl rfl nX2_full_X2 4 (by decide) fX2_full_31 rfl ?_
  refine g_callVx (w' := [cO x 2 [.ref rw, .int (nI nb), .ref ln, .int (nI dn), .ref t1, .ref t2], cQ E rw 4 RF, cI E ln 12 D, cO t1 1 [.long (ta T1), .long (tb T1), .long (tc T1), .long (td T1), .long (te T1), .long (tf T1), .long (tg T1)], cO t2 1 [.long (ta B), .long (tb B), .long (tc B), .long (td B), .long (te B), .long (tf B), .long (tg B)], cO o 0 [.ref k, .ref f, .ref s, .int (nI z)], cI E k 8 K, cI E f 8 F, cI E s 8 G]) Z (qX1_clear E t1 A) iX1_clear gX2_full_X1_clear ⟨rfl, rfl⟩ ⟨Nat.le_of_ble_eq_true rfl, Nat.le_of_ble_eq_true rfl⟩ dX2_full_28 rfl rfl (Nat.le_of_ble_eq_true rfl) ⟨Nat.zero_le _, Nat.zero_le _⟩ [3] rfl rfl 0 rfl rfl rfl rfl rfl ?_
  refine g_iconst Z dX2_full_31 zi_0 ?_
  refine g_istore (lv' := [(6, .int 0), (4, .long 1000), (3, .ref o), (0, .ref x), (1, .int (nI j)), (2, .int way)]) Z dX2_full_32 (by decide) rfl ?_
  exact lX2_full E x rw ln t1 t2 nb dn RF D A B o k f s K F G z j way hnb hj hr hz hw Z z 0 1000 T1 (by omega) rfl


set_option maxHeartbeats 4000000 in
set_option maxRecDepth 100000 in
theorem qX2_imageN (E : zE) (x rw ln t1 t2 : Nat) (nb dn : Nat) (RF : Nat → Option Nat) (D : Nat → Int32) (A B : TB) (o k f s : Nat) (K F G : Nat → Int32) (z : Nat) (j : Nat) (way e wh : Int32) (hnb : nb ≤ 4) (hj : j < nb) (hr : RF j = some o) (hz : z ≤ 8) (hv : ¬ ((way = 0 ∨ way = 1) ∧ (e = 0 ∨ e = 1) ∧ (wh = 0 ∨ wh = 1))) : zF E yX2_image wsX2_image rX2_image [.ref x, .int (nI j), .int way, .int e, .int wh] [cO x 2 [.ref rw, .int (nI nb), .ref ln, .int (nI dn), .ref t1, .ref t2], cQ E rw 4 RF, cI E ln 12 D, cO t1 1 [.long (ta A), .long (tb A), .long (tc A), .long (td A), .long (te A), .long (tf A), .long (tg A)], cO t2 1 [.long (ta B), .long (tb B), .long (tc B), .long (td B), .long (te B), .long (tf B), .long (tg B)], cO o 0 [.ref k, .ref f, .ref s, .int (nI z)], cI E k 8 K, cI E f 8 F, cI E s 8 G] (zx (some (.long (-9223372036854775808))) ([cO x 2 [.ref rw, .int (nI nb), .ref ln, .int (nI dn), .ref t1, .ref t2], cQ E rw 4 RF, cI E ln 12 D, cO t1 1 [.long (ta A), .long (tb A), .long (tc A), .long (td A), .long (te A), .long (tf A), .long (tg A)], cO t2 1 [.long (ta B), .long (tb B), .long (tc B), .long (td B), .long (te B), .long (tf B), .long (tg B)], cO o 0 [.ref k, .ref f, .ref s, .int (nI z)], cI E k 8 K, cI E f 8 F, cI E s 8 G])) := by
  refine z_start RX2 "image" (by decide) rfl rfl rfl (Nat.le_of_ble_eq_true rfl) ?_
  intro J Z
  refine g_eq Z (lv2 := [(0, .ref x), (1, .int (nI j)), (2, .int way), (3, .int e), (4, .int wh)]) rfl rfl rfl ?_
  refine g_aload_n Z dX2_image_0 0 rfl rfl ?_
  refine g_iload_n Z dX2_image_1 1 rfl rfl ?_
  refine g_callVx (w' := [cO x 2 [.ref rw, .int (nI nb), .ref ln, .int (nI dn), .ref t1, .ref t2], cQ E rw 4 RF, cI E ln 12 D, cO t1 1 [.long (ta A), .long (tb A), .long (tc A), .long (td A), .long (te A), .long (tf A), .long (tg A)], cO t2 1 [.long (ta B), .long (tb B), .long (tc B), .long (td B), .long (te B), .long (tf B), .long (tg B)], cO o 0 [.ref k, .ref f, .ref s, .int (nI z)], cI E k 8 K, cI E f 8 F, cI E s 8 G]) Z (qX2_rowAt E x rw ln t1 t2 nb dn RF j o hj hnb hr) iX2_rowAt gX2_image_X2_rowAt ⟨rfl, rfl⟩ ⟨Nat.le_of_ble_eq_true rfl, Nat.le_of_ble_eq_true rfl⟩ dX2_image_2 rfl rfl (Nat.le_of_ble_eq_true rfl) ⟨Nat.zero_le _, Nat.zero_le _⟩ [0, 1] rfl rfl 0 rfl rfl rfl rfl rfl ?_
  refine g_astore (lv' := [(5, .ref o), (0, .ref x), (1, .int (nI j)), (2, .int way), (3, .int e), (4, .int wh)]) Z dX2_image_5 (by decide) rfl ?_
  refine g_aload Z dX2_image_7 0 rfl ?_
  refine g_ifnull Z dX2_image_9 ?_
  refine g_iload_n Z dX2_image_12 3 rfl rfl ?_
  refine g_callSx (w' := [cO x 2 [.ref rw, .int (nI nb), .ref ln, .int (nI dn), .ref t1, .ref t2], cQ E rw 4 RF, cI E ln 12 D, cO t1 1 [.long (ta A), .long (tb A), .long (tc A), .long (td A), .long (te A), .long (tf A), .long (tg A)], cO t2 1 [.long (ta B), .long (tb B), .long (tc B), .long (td B), .long (te B), .long (tf B), .long (tg B)], cO o 0 [.ref k, .ref f, .ref s, .int (nI z)], cI E k 8 K, cI E f 8 F, cI E s 8 G]) Z (qX2_isEither E way) iX2_isEither gX2_image_X2_isEither ⟨rfl, rfl⟩ ⟨Nat.le_of_ble_eq_true rfl, Nat.le_of_ble_eq_true rfl⟩ dX2_image_13 rfl rfl (Nat.le_of_ble_eq_true rfl) ⟨Nat.zero_le _, Nat.zero_le _⟩ [] rfl rfl rfl rfl ?_
  refine g_ifb_eq (tgt := 34) Z dX2_image_16 (by decide) (fun c_16 => ?_) (fun c_16 => ?_)
  · refine g_ldc2 Z dX2_image_34 kX2_image_91 ?_
    exact g_lret Z dX2_image_37 rfl ⟨Nat.zero_le _, Nat.zero_le _⟩ ⟨rfl, rfl⟩
  · refine g_iload_n Z dX2_image_19 4 rfl rfl ?_
    refine g_callSx (w' := [cO x 2 [.ref rw, .int (nI nb), .ref ln, .int (nI dn), .ref t1, .ref t2], cQ E rw 4 RF, cI E ln 12 D, cO t1 1 [.long (ta A), .long (tb A), .long (tc A), .long (td A), .long (te A), .long (tf A), .long (tg A)], cO t2 1 [.long (ta B), .long (tb B), .long (tc B), .long (td B), .long (te B), .long (tf B), .long (tg B)], cO o 0 [.ref k, .ref f, .ref s, .int (nI z)], cI E k 8 K, cI E f 8 F, cI E s 8 G]) Z (qX2_isEither E e) iX2_isEither gX2_image_X2_isEither ⟨rfl, rfl⟩ ⟨Nat.le_of_ble_eq_true rfl, Nat.le_of_ble_eq_true rfl⟩ dX2_image_20 rfl rfl (Nat.le_of_ble_eq_true rfl) ⟨Nat.zero_le _, Nat.zero_le _⟩ [] rfl rfl rfl rfl ?_
    refine g_ifb_eq (tgt := 34) Z dX2_image_23 (by decide) (fun c_23 => ?_) (fun c_23 => ?_)
    · refine g_ldc2 Z dX2_image_34 kX2_image_91 ?_
      exact g_lret Z dX2_image_37 rfl ⟨Nat.zero_le _, Nat.zero_le _⟩ ⟨rfl, rfl⟩
    · refine g_iload Z dX2_image_26 5 rfl ?_
      refine g_callSx (w' := [cO x 2 [.ref rw, .int (nI nb), .ref ln, .int (nI dn), .ref t1, .ref t2], cQ E rw 4 RF, cI E ln 12 D, cO t1 1 [.long (ta A), .long (tb A), .long (tc A), .long (td A), .long (te A), .long (tf A), .long (tg A)], cO t2 1 [.long (ta B), .long (tb B), .long (tc B), .long (td B), .long (te B), .long (tf B), .long (tg B)], cO o 0 [.ref k, .ref f, .ref s, .int (nI z)], cI E k 8 K, cI E f 8 F, cI E s 8 G]) Z (qX2_isEither E wh) iX2_isEither gX2_image_X2_isEither ⟨rfl, rfl⟩ ⟨Nat.le_of_ble_eq_true rfl, Nat.le_of_ble_eq_true rfl⟩ dX2_image_28 rfl rfl (Nat.le_of_ble_eq_true rfl) ⟨Nat.zero_le _, Nat.zero_le _⟩ [] rfl rfl rfl rfl ?_
      refine g_ifb_ne (tgt := 38) Z dX2_image_31 (by decide) (fun c_31 => ?_) (fun c_31 => ?_)
      · exact absurd ⟨c_16, c_23, c_31⟩ hv
      · refine g_ldc2 Z dX2_image_34 kX2_image_91 ?_
        exact g_lret Z dX2_image_37 rfl ⟨Nat.zero_le _, Nat.zero_le _⟩ ⟨rfl, rfl⟩

theorem nX2_image_X2 : ∀ w ∈ wsX20, w ∈ wsX2_image := by decide +kernel
theorem fX2_image_31 : Cond.fieldLink RX2 31 (TX2 4).1 (TX2 4).2.1 (TX2 4).2.2.1 ∈ wsX2_image := by decide +kernel
theorem nX2_image_X1 : ∀ w ∈ wsX10, w ∈ wsX2_image := by decide +kernel
theorem fX2_image_101 : Cond.fieldLink RX2 101 (TX1 6).1 (TX1 6).2.1 (TX1 6).2.2.1 ∈ wsX2_image := by decide +kernel
theorem fX2_image_151 : Cond.fieldLink RX2 151 (TX1 3).1 (TX1 3).2.1 (TX1 3).2.2.1 ∈ wsX2_image := by decide +kernel
theorem fX2_image_148 : Cond.fieldLink RX2 148 (TX1 1).1 (TX1 1).2.1 (TX1 1).2.2.1 ∈ wsX2_image := by decide +kernel
set_option maxHeartbeats 4000000 in
set_option maxRecDepth 100000 in
theorem qX2_image (E : zE) (x rw ln t1 t2 : Nat) (nb dn : Nat) (RF : Nat → Option Nat) (D : Nat → Int32) (A B : TB) (o k f s : Nat) (K F G : Nat → Int32) (z : Nat) (j : Nat) (way e wh : Int32) (hnb : nb ≤ 4) (hj : j < nb) (hr : RF j = some o) (hz : z ≤ 8) (hw : way = 0 ∨ way = 1) (he : e = 0 ∨ e = 1) (hh : wh = 0 ∨ wh = 1) : zF E yX2_image wsX2_image rX2_image [.ref x, .int (nI j), .int way, .int e, .int wh] [cO x 2 [.ref rw, .int (nI nb), .ref ln, .int (nI dn), .ref t1, .ref t2], cQ E rw 4 RF, cI E ln 12 D, cO t1 1 [.long (ta A), .long (tb A), .long (tc A), .long (td A), .long (te A), .long (tf A), .long (tg A)], cO t2 1 [.long (ta B), .long (tb B), .long (tc B), .long (td B), .long (te B), .long (tf B), .long (tg B)], cO o 0 [.ref k, .ref f, .ref s, .int (nI z)], cI E k 8 K, cI E f 8 F, cI E s 8 G] (fun ov wv => ov = some (.long (imgX (tabX K F G way z) e wh)) ∧ ∃ A2 B2 : TB, wv = [cO x 2 [.ref rw, .int (nI nb), .ref ln, .int (nI dn), .ref t1, .ref t2], cQ E rw 4 RF, cI E ln 12 D, cO t1 1 [.long (ta A2), .long (tb A2), .long (tc A2), .long (td A2), .long (te A2), .long (tf A2), .long (tg A2)], cO t2 1 [.long (ta B2), .long (tb B2), .long (tc B2), .long (td B2), .long (te B2), .long (tf B2), .long (tg B2)], cO o 0 [.ref k, .ref f, .ref s, .int (nI z)], cI E k 8 K, cI E f 8 F, cI E s 8 G]) := by
  refine z_start RX2 "image" (by decide) rfl rfl rfl (Nat.le_of_ble_eq_true rfl) ?_
  intro J Z
  refine g_eq Z (lv2 := [(0, .ref x), (1, .int (nI j)), (2, .int way), (3, .int e), (4, .int wh)]) rfl rfl rfl ?_
  refine g_aload_n Z dX2_image_0 0 rfl rfl ?_
  refine g_iload_n Z dX2_image_1 1 rfl rfl ?_
  refine g_callVx (w' := [cO x 2 [.ref rw, .int (nI nb), .ref ln, .int (nI dn), .ref t1, .ref t2], cQ E rw 4 RF, cI E ln 12 D, cO t1 1 [.long (ta A), .long (tb A), .long (tc A), .long (td A), .long (te A), .long (tf A), .long (tg A)], cO t2 1 [.long (ta B), .long (tb B), .long (tc B), .long (td B), .long (te B), .long (tf B), .long (tg B)], cO o 0 [.ref k, .ref f, .ref s, .int (nI z)], cI E k 8 K, cI E f 8 F, cI E s 8 G]) Z (qX2_rowAt E x rw ln t1 t2 nb dn RF j o hj hnb hr) iX2_rowAt gX2_image_X2_rowAt ⟨rfl, rfl⟩ ⟨Nat.le_of_ble_eq_true rfl, Nat.le_of_ble_eq_true rfl⟩ dX2_image_2 rfl rfl (Nat.le_of_ble_eq_true rfl) ⟨Nat.zero_le _, Nat.zero_le _⟩ [0, 1] rfl rfl 0 rfl rfl rfl rfl rfl ?_
  refine g_astore (lv' := [(5, .ref o), (0, .ref x), (1, .int (nI j)), (2, .int way), (3, .int e), (4, .int wh)]) Z dX2_image_5 (by decide) rfl ?_
  refine g_aload Z dX2_image_7 0 rfl ?_
  refine g_ifnull Z dX2_image_9 ?_
  refine g_iload_n Z dX2_image_12 3 rfl rfl ?_
  refine g_callSx (w' := [cO x 2 [.ref rw, .int (nI nb), .ref ln, .int (nI dn), .ref t1, .ref t2], cQ E rw 4 RF, cI E ln 12 D, cO t1 1 [.long (ta A), .long (tb A), .long (tc A), .long (td A), .long (te A), .long (tf A), .long (tg A)], cO t2 1 [.long (ta B), .long (tb B), .long (tc B), .long (td B), .long (te B), .long (tf B), .long (tg B)], cO o 0 [.ref k, .ref f, .ref s, .int (nI z)], cI E k 8 K, cI E f 8 F, cI E s 8 G]) Z (qX2_isEither E way) iX2_isEither gX2_image_X2_isEither ⟨rfl, rfl⟩ ⟨Nat.le_of_ble_eq_true rfl, Nat.le_of_ble_eq_true rfl⟩ dX2_image_13 rfl rfl (Nat.le_of_ble_eq_true rfl) ⟨Nat.zero_le _, Nat.zero_le _⟩ [] rfl rfl rfl rfl ?_
  refine g_ifb_eq (tgt := 34) Z dX2_image_16 (by decide) (fun c_16 => absurd c_16 (fun q => q hw)) (fun c_16 => ?_)
  refine g_iload_n Z dX2_image_19 4 rfl rfl ?_
  refine g_callSx (w' := [cO x 2 [.ref rw, .int (nI nb), .ref ln, .int (nI dn), .ref t1, .ref t2], cQ E rw 4 RF, cI E ln 12 D, cO t1 1 [.long (ta A), .long (tb A), .long (tc A), .long (td A), .long (te A), .long (tf A), .long (tg A)], cO t2 1 [.long (ta B), .long (tb B), .long (tc B), .long (td B), .long (te B), .long (tf B), .long (tg B)], cO o 0 [.ref k, .ref f, .ref s, .int (nI z)], cI E k 8 K, cI E f 8 F, cI E s 8 G]) Z (qX2_isEither E e) iX2_isEither gX2_image_X2_isEither ⟨rfl, rfl⟩ ⟨Nat.le_of_ble_eq_true rfl, Nat.le_of_ble_eq_true rfl⟩ dX2_image_20 rfl rfl (Nat.le_of_ble_eq_true rfl) ⟨Nat.zero_le _, Nat.zero_le _⟩ [] rfl rfl rfl rfl ?_
  refine g_ifb_eq (tgt := 34) Z dX2_image_23 (by decide) (fun c_23 => absurd c_23 (fun q => q he)) (fun c_23 => ?_)
  refine g_iload Z dX2_image_26 5 rfl ?_
  refine g_callSx (w' := [cO x 2 [.ref rw, .int (nI nb), .ref ln, .int (nI dn), .ref t1, .ref t2], cQ E rw 4 RF, cI E ln 12 D, cO t1 1 [.long (ta A), .long (tb A), .long (tc A), .long (td A), .long (te A), .long (tf A), .long (tg A)], cO t2 1 [.long (ta B), .long (tb B), .long (tc B), .long (td B), .long (te B), .long (tf B), .long (tg B)], cO o 0 [.ref k, .ref f, .ref s, .int (nI z)], cI E k 8 K, cI E f 8 F, cI E s 8 G]) Z (qX2_isEither E wh) iX2_isEither gX2_image_X2_isEither ⟨rfl, rfl⟩ ⟨Nat.le_of_ble_eq_true rfl, Nat.le_of_ble_eq_true rfl⟩ dX2_image_28 rfl rfl (Nat.le_of_ble_eq_true rfl) ⟨Nat.zero_le _, Nat.zero_le _⟩ [] rfl rfl rfl rfl ?_
  refine g_ifb_ne (tgt := 38) Z dX2_image_31 (by decide) (fun c_31 => ?_) (fun c_31 => absurd c_31 (fun q => q hh))
  refine g_aload_n Z dX2_image_38 1 rfl rfl ?_
  refine g_get Z dX2_image_39 0 rfl rfl nX2_image_X2 4 (by decide) fX2_image_31 rfl ?_
  refine g_aload Z dX2_image_42 0 rfl ?_
  refine g_iload_n Z dX2_image_44 3 rfl rfl ?_
  refine g_callVx (w' := [cO x 2 [.ref rw, .int (nI nb), .ref ln, .int (nI dn), .ref t1, .ref t2], cQ E rw 4 RF, cI E ln 12 D, cO t1 1 [.long (ta (tabX K F G way z)), .long (tb (tabX K F G way z)), .long (tc (tabX K F G way z)), .long (td (tabX K F G way z)), .long (te (tabX K F G way z)), .long (tf (tabX K F G way z)), .long (tg (tabX K F G way z))], cO t2 1 [.long (ta B), .long (tb B), .long (tc B), .long (td B), .long (te B), .long (tf B), .long (tg B)], cO o 0 [.ref k, .ref f, .ref s, .int (nI z)], cI E k 8 K, cI E f 8 F, cI E s 8 G]) Z (qX1_leadThroughT E t1 o k f s K F G A way z (by omega)) iX1_leadThrough gX2_image_X1_leadThrough ⟨rfl, rfl⟩ ⟨Nat.le_of_ble_eq_true rfl, Nat.le_of_ble_eq_true rfl⟩ dX2_image_45 rfl rfl (Nat.le_of_ble_eq_true rfl) ⟨Nat.zero_le _, Nat.zero_le _⟩ [3, 5, 6, 7, 8] rfl rfl 0 rfl rfl rfl rfl rfl ?_
  obtain ⟨C, e_C⟩ : ∃ Y : TB, tabX K F G way z = Y := ⟨_, rfl⟩
  rw [e_C]
  refine g_iload_n Z dX2_image_48 4 rfl rfl ?_
  refine g_if_ne (tgt := 75) Z dX2_image_49 (by decide) (fun c_49 => ?_) (fun c_49 => ?_)
  · refine g_aload_n Z dX2_image_75 1 rfl rfl ?_
    refine g_get Z dX2_image_76 0 rfl rfl nX2_image_X2 4 (by decide) fX2_image_31 rfl ?_
    refine g_get Z dX2_image_79 3 rfl rfl nX2_image_X1 6 (by decide) fX2_image_101 rfl ?_
    refine g_aload_n Z dX2_image_82 1 rfl rfl ?_
    refine g_get Z dX2_image_83 0 rfl rfl nX2_image_X2 4 (by decide) fX2_image_31 rfl ?_
    refine g_get Z dX2_image_86 3 rfl rfl nX2_image_X1 3 (by decide) fX2_image_151 rfl ?_
    refine g_iload Z dX2_image_89 5 rfl ?_
    refine g_callSx (w' := [cO x 2 [.ref rw, .int (nI nb), .ref ln, .int (nI dn), .ref t1, .ref t2], cQ E rw 4 RF, cI E ln 12 D, cO t1 1 [.long (ta C), .long (tb C), .long (tc C), .long (td C), .long (te C), .long (tf C), .long (tg C)], cO t2 1 [.long (ta B), .long (tb B), .long (tc B), .long (td B), .long (te B), .long (tf B), .long (tg B)], cO o 0 [.ref k, .ref f, .ref s, .int (nI z)], cI E k 8 K, cI E f 8 F, cI E s 8 G]) Z (qX2_told E (tg C) (td C) wh) iX2_told gX2_image_X2_told ⟨rfl, rfl⟩ ⟨Nat.le_of_ble_eq_true rfl, Nat.le_of_ble_eq_true rfl⟩ dX2_image_91 rfl rfl (Nat.le_of_ble_eq_true rfl) ⟨Nat.zero_le _, Nat.zero_le _⟩ [] rfl rfl rfl rfl ?_
    exact g_lret Z dX2_image_94 rfl ⟨Nat.zero_le _, Nat.zero_le _⟩ ⟨congrArg (fun v => some (Value.long v)) (by rw [e_C, imgX, if_neg c_49]), _, _, rfl⟩
  · refine g_aload_n Z dX2_image_52 1 rfl rfl ?_
    refine g_get Z dX2_image_53 0 rfl rfl nX2_image_X2 4 (by decide) fX2_image_31 rfl ?_
    refine g_get Z dX2_image_56 3 rfl rfl nX2_image_X1 1 (by decide) fX2_image_148 rfl ?_
    refine g_lneg Z dX2_image_59 ?_
    refine g_aload_n Z dX2_image_60 1 rfl rfl ?_
    refine g_get Z dX2_image_61 0 rfl rfl nX2_image_X2 4 (by decide) fX2_image_31 rfl ?_
    refine g_get Z dX2_image_64 3 rfl rfl nX2_image_X1 3 (by decide) fX2_image_151 rfl ?_
    refine g_iload Z dX2_image_67 5 rfl ?_
    refine g_callSx (w' := [cO x 2 [.ref rw, .int (nI nb), .ref ln, .int (nI dn), .ref t1, .ref t2], cQ E rw 4 RF, cI E ln 12 D, cO t1 1 [.long (ta C), .long (tb C), .long (tc C), .long (td C), .long (te C), .long (tf C), .long (tg C)], cO t2 1 [.long (ta B), .long (tb B), .long (tc B), .long (td B), .long (te B), .long (tf B), .long (tg B)], cO o 0 [.ref k, .ref f, .ref s, .int (nI z)], cI E k 8 K, cI E f 8 F, cI E s 8 G]) Z (qX2_told E (-(tb C)) (td C) wh) iX2_told gX2_image_X2_told ⟨rfl, rfl⟩ ⟨Nat.le_of_ble_eq_true rfl, Nat.le_of_ble_eq_true rfl⟩ dX2_image_69 rfl rfl (Nat.le_of_ble_eq_true rfl) ⟨Nat.zero_le _, Nat.zero_le _⟩ [] rfl rfl rfl rfl ?_
    refine g_goto (tgt := 94) Z dX2_image_72 (by decide) ?_
    exact g_lret Z dX2_image_94 rfl ⟨Nat.zero_le _, Nat.zero_le _⟩ ⟨congrArg (fun v => some (Value.long v)) (by rw [e_C, imgX, if_pos c_49]), _, _, rfl⟩


set_option maxHeartbeats 4000000 in
set_option maxRecDepth 100000 in
theorem qX2_roundN (E : zE) (x rw ln t1 t2 : Nat) (nb dn : Nat) (RF : Nat → Option Nat) (D : Nat → Int32) (A B : TB) (o k f s : Nat) (K F G : Nat → Int32) (z : Nat) (j : Nat) (way : Int32) (hnb : nb ≤ 4) (hj : j < nb) (hr : RF j = some o) (hz : z ≤ 8) (hv : ¬ (way = 0 ∨ way = 1)) : zF E yX2_round wsX2_round rX2_round [.ref x, .int (nI j), .int way] [cO x 2 [.ref rw, .int (nI nb), .ref ln, .int (nI dn), .ref t1, .ref t2], cQ E rw 4 RF, cI E ln 12 D, cO t1 1 [.long (ta A), .long (tb A), .long (tc A), .long (td A), .long (te A), .long (tf A), .long (tg A)], cO t2 1 [.long (ta B), .long (tb B), .long (tc B), .long (td B), .long (te B), .long (tf B), .long (tg B)], cO o 0 [.ref k, .ref f, .ref s, .int (nI z)], cI E k 8 K, cI E f 8 F, cI E s 8 G] (zx (some (.int (-1))) ([cO x 2 [.ref rw, .int (nI nb), .ref ln, .int (nI dn), .ref t1, .ref t2], cQ E rw 4 RF, cI E ln 12 D, cO t1 1 [.long (ta A), .long (tb A), .long (tc A), .long (td A), .long (te A), .long (tf A), .long (tg A)], cO t2 1 [.long (ta B), .long (tb B), .long (tc B), .long (td B), .long (te B), .long (tf B), .long (tg B)], cO o 0 [.ref k, .ref f, .ref s, .int (nI z)], cI E k 8 K, cI E f 8 F, cI E s 8 G])) := by
  refine z_start RX2 "round" (by decide) rfl rfl rfl (Nat.le_of_ble_eq_true rfl) ?_
  intro J Z
  refine g_eq Z (lv2 := [(0, .ref x), (1, .int (nI j)), (2, .int way)]) rfl rfl rfl ?_
  refine g_aload_n Z dX2_round_0 0 rfl rfl ?_
  refine g_iload_n Z dX2_round_1 1 rfl rfl ?_
  refine g_callVx (w' := [cO x 2 [.ref rw, .int (nI nb), .ref ln, .int (nI dn), .ref t1, .ref t2], cQ E rw 4 RF, cI E ln 12 D, cO t1 1 [.long (ta A), .long (tb A), .long (tc A), .long (td A), .long (te A), .long (tf A), .long (tg A)], cO t2 1 [.long (ta B), .long (tb B), .long (tc B), .long (td B), .long (te B), .long (tf B), .long (tg B)], cO o 0 [.ref k, .ref f, .ref s, .int (nI z)], cI E k 8 K, cI E f 8 F, cI E s 8 G]) Z (qX2_rowAt E x rw ln t1 t2 nb dn RF j o hj hnb hr) iX2_rowAt gX2_round_X2_rowAt ⟨rfl, rfl⟩ ⟨Nat.le_of_ble_eq_true rfl, Nat.le_of_ble_eq_true rfl⟩ dX2_round_2 rfl rfl (Nat.le_of_ble_eq_true rfl) ⟨Nat.zero_le _, Nat.zero_le _⟩ [0, 1] rfl rfl 0 rfl rfl rfl rfl rfl ?_
  refine g_astore_n (lv' := [(3, .ref o), (0, .ref x), (1, .int (nI j)), (2, .int way)]) Z dX2_round_5 rfl (by decide) rfl ?_
  refine g_aload_n Z dX2_round_6 0 rfl rfl ?_
  refine g_ifnull Z dX2_round_7 ?_
  refine g_iload_n Z dX2_round_10 3 rfl rfl ?_
  refine g_callSx (w' := [cO x 2 [.ref rw, .int (nI nb), .ref ln, .int (nI dn), .ref t1, .ref t2], cQ E rw 4 RF, cI E ln 12 D, cO t1 1 [.long (ta A), .long (tb A), .long (tc A), .long (td A), .long (te A), .long (tf A), .long (tg A)], cO t2 1 [.long (ta B), .long (tb B), .long (tc B), .long (td B), .long (te B), .long (tf B), .long (tg B)], cO o 0 [.ref k, .ref f, .ref s, .int (nI z)], cI E k 8 K, cI E f 8 F, cI E s 8 G]) Z (qX2_isEither E way) iX2_isEither gX2_round_X2_isEither ⟨rfl, rfl⟩ ⟨Nat.le_of_ble_eq_true rfl, Nat.le_of_ble_eq_true rfl⟩ dX2_round_11 rfl rfl (Nat.le_of_ble_eq_true rfl) ⟨Nat.zero_le _, Nat.zero_le _⟩ [] rfl rfl rfl rfl ?_
  refine g_ifb_ne (tgt := 19) Z dX2_round_14 (by decide) (fun c_14 => absurd c_14 hv) (fun c_14 => ?_)
  refine g_iconst Z dX2_round_17 zi_m1 ?_
  exact g_iret Z dX2_round_18 rfl ⟨Nat.zero_le _, Nat.zero_le _⟩ ⟨rfl, rfl⟩

theorem nX2_round_X2 : ∀ w ∈ wsX20, w ∈ wsX2_round := by decide +kernel
theorem fX2_round_31 : Cond.fieldLink RX2 31 (TX2 4).1 (TX2 4).2.1 (TX2 4).2.2.1 ∈ wsX2_round := by decide +kernel
set_option maxHeartbeats 4000000 in
set_option maxRecDepth 100000 in
theorem qX2_round (E : zE) (x rw ln t1 t2 : Nat) (nb dn : Nat) (RF : Nat → Option Nat) (D : Nat → Int32) (A B : TB) (o k f s : Nat) (K F G : Nat → Int32) (z : Nat) (j : Nat) (way : Int32) (hnb : nb ≤ 4) (hj : j < nb) (hr : RF j = some o) (hz : z ≤ 8) (hw : way = 0 ∨ way = 1) : zF E yX2_round wsX2_round rX2_round [.ref x, .int (nI j), .int way] [cO x 2 [.ref rw, .int (nI nb), .ref ln, .int (nI dn), .ref t1, .ref t2], cQ E rw 4 RF, cI E ln 12 D, cO t1 1 [.long (ta A), .long (tb A), .long (tc A), .long (td A), .long (te A), .long (tf A), .long (tg A)], cO t2 1 [.long (ta B), .long (tb B), .long (tc B), .long (td B), .long (te B), .long (tf B), .long (tg B)], cO o 0 [.ref k, .ref f, .ref s, .int (nI z)], cI E k 8 K, cI E f 8 F, cI E s 8 G] (fun ov wv => ov = some (.int (manF (tabX K F G way z))) ∧ ∃ A2 B2 : TB, wv = [cO x 2 [.ref rw, .int (nI nb), .ref ln, .int (nI dn), .ref t1, .ref t2], cQ E rw 4 RF, cI E ln 12 D, cO t1 1 [.long (ta A2), .long (tb A2), .long (tc A2), .long (td A2), .long (te A2), .long (tf A2), .long (tg A2)], cO t2 1 [.long (ta B2), .long (tb B2), .long (tc B2), .long (td B2), .long (te B2), .long (tf B2), .long (tg B2)], cO o 0 [.ref k, .ref f, .ref s, .int (nI z)], cI E k 8 K, cI E f 8 F, cI E s 8 G]) := by
  refine z_start RX2 "round" (by decide) rfl rfl rfl (Nat.le_of_ble_eq_true rfl) ?_
  intro J Z
  refine g_eq Z (lv2 := [(0, .ref x), (1, .int (nI j)), (2, .int way)]) rfl rfl rfl ?_
  refine g_aload_n Z dX2_round_0 0 rfl rfl ?_
  refine g_iload_n Z dX2_round_1 1 rfl rfl ?_
  refine g_callVx (w' := [cO x 2 [.ref rw, .int (nI nb), .ref ln, .int (nI dn), .ref t1, .ref t2], cQ E rw 4 RF, cI E ln 12 D, cO t1 1 [.long (ta A), .long (tb A), .long (tc A), .long (td A), .long (te A), .long (tf A), .long (tg A)], cO t2 1 [.long (ta B), .long (tb B), .long (tc B), .long (td B), .long (te B), .long (tf B), .long (tg B)], cO o 0 [.ref k, .ref f, .ref s, .int (nI z)], cI E k 8 K, cI E f 8 F, cI E s 8 G]) Z (qX2_rowAt E x rw ln t1 t2 nb dn RF j o hj hnb hr) iX2_rowAt gX2_round_X2_rowAt ⟨rfl, rfl⟩ ⟨Nat.le_of_ble_eq_true rfl, Nat.le_of_ble_eq_true rfl⟩ dX2_round_2 rfl rfl (Nat.le_of_ble_eq_true rfl) ⟨Nat.zero_le _, Nat.zero_le _⟩ [0, 1] rfl rfl 0 rfl rfl rfl rfl rfl ?_
  refine g_astore_n (lv' := [(3, .ref o), (0, .ref x), (1, .int (nI j)), (2, .int way)]) Z dX2_round_5 rfl (by decide) rfl ?_
  refine g_aload_n Z dX2_round_6 0 rfl rfl ?_
  refine g_ifnull Z dX2_round_7 ?_
  refine g_iload_n Z dX2_round_10 3 rfl rfl ?_
  refine g_callSx (w' := [cO x 2 [.ref rw, .int (nI nb), .ref ln, .int (nI dn), .ref t1, .ref t2], cQ E rw 4 RF, cI E ln 12 D, cO t1 1 [.long (ta A), .long (tb A), .long (tc A), .long (td A), .long (te A), .long (tf A), .long (tg A)], cO t2 1 [.long (ta B), .long (tb B), .long (tc B), .long (td B), .long (te B), .long (tf B), .long (tg B)], cO o 0 [.ref k, .ref f, .ref s, .int (nI z)], cI E k 8 K, cI E f 8 F, cI E s 8 G]) Z (qX2_isEither E way) iX2_isEither gX2_round_X2_isEither ⟨rfl, rfl⟩ ⟨Nat.le_of_ble_eq_true rfl, Nat.le_of_ble_eq_true rfl⟩ dX2_round_11 rfl rfl (Nat.le_of_ble_eq_true rfl) ⟨Nat.zero_le _, Nat.zero_le _⟩ [] rfl rfl rfl rfl ?_
  refine g_ifb_ne (tgt := 19) Z dX2_round_14 (by decide) (fun c_14 => ?_) (fun c_14 => absurd c_14 (fun q => q hw))
  refine g_aload_n Z dX2_round_19 1 rfl rfl ?_
  refine g_get Z dX2_round_20 0 rfl rfl nX2_round_X2 4 (by decide) fX2_round_31 rfl ?_
  refine g_aload_n Z dX2_round_23 0 rfl rfl ?_
  refine g_iload_n Z dX2_round_24 3 rfl rfl ?_
  refine g_callVx (w' := [cO x 2 [.ref rw, .int (nI nb), .ref ln, .int (nI dn), .ref t1, .ref t2], cQ E rw 4 RF, cI E ln 12 D, cO t1 1 [.long (ta (tabX K F G way z)), .long (tb (tabX K F G way z)), .long (tc (tabX K F G way z)), .long (td (tabX K F G way z)), .long (te (tabX K F G way z)), .long (tf (tabX K F G way z)), .long (tg (tabX K F G way z))], cO t2 1 [.long (ta B), .long (tb B), .long (tc B), .long (td B), .long (te B), .long (tf B), .long (tg B)], cO o 0 [.ref k, .ref f, .ref s, .int (nI z)], cI E k 8 K, cI E f 8 F, cI E s 8 G]) Z (qX1_leadThroughT E t1 o k f s K F G A way z (by omega)) iX1_leadThrough gX2_round_X1_leadThrough ⟨rfl, rfl⟩ ⟨Nat.le_of_ble_eq_true rfl, Nat.le_of_ble_eq_true rfl⟩ dX2_round_25 rfl rfl (Nat.le_of_ble_eq_true rfl) ⟨Nat.zero_le _, Nat.zero_le _⟩ [3, 5, 6, 7, 8] rfl rfl 0 rfl rfl rfl rfl rfl ?_
  refine g_aload_n Z dX2_round_28 1 rfl rfl ?_
  refine g_get Z dX2_round_29 0 rfl rfl nX2_round_X2 4 (by decide) fX2_round_31 rfl ?_
  refine g_callVx (w' := [cO x 2 [.ref rw, .int (nI nb), .ref ln, .int (nI dn), .ref t1, .ref t2], cQ E rw 4 RF, cI E ln 12 D, cO t1 1 [.long (ta (tabX K F G way z)), .long (tb (tabX K F G way z)), .long (tc (tabX K F G way z)), .long (td (tabX K F G way z)), .long (te (tabX K F G way z)), .long (tf (tabX K F G way z)), .long (tg (tabX K F G way z))], cO t2 1 [.long (ta B), .long (tb B), .long (tc B), .long (td B), .long (te B), .long (tf B), .long (tg B)], cO o 0 [.ref k, .ref f, .ref s, .int (nI z)], cI E k 8 K, cI E f 8 F, cI E s 8 G]) Z (qX1_manner E t1 (tabX K F G way z)) iX1_manner gX2_round_X1_manner ⟨rfl, rfl⟩ ⟨Nat.le_of_ble_eq_true rfl, Nat.le_of_ble_eq_true rfl⟩ dX2_round_32 rfl rfl (Nat.le_of_ble_eq_true rfl) ⟨Nat.zero_le _, Nat.zero_le _⟩ [3] rfl rfl 0 rfl rfl rfl rfl rfl ?_
  exact g_iret Z dX2_round_35 rfl ⟨Nat.zero_le _, Nat.zero_le _⟩ ⟨rfl, _, _, rfl⟩


set_option maxHeartbeats 4000000 in
set_option maxRecDepth 100000 in
theorem qX2_turnsN (E : zE) (x rw ln t1 t2 : Nat) (nb dn : Nat) (RF : Nat → Option Nat) (D : Nat → Int32) (A B : TB) (o k f s : Nat) (K F G : Nat → Int32) (z : Nat) (j : Nat) (way : Int32) (hnb : nb ≤ 4) (hj : j < nb) (hr : RF j = some o) (hz : z ≤ 8) (hv : ¬ (way = 0 ∨ way = 1)) : zF E yX2_turns wsX2_turns rX2_turns [.ref x, .int (nI j), .int way] [cO x 2 [.ref rw, .int (nI nb), .ref ln, .int (nI dn), .ref t1, .ref t2], cQ E rw 4 RF, cI E ln 12 D, cO t1 1 [.long (ta A), .long (tb A), .long (tc A), .long (td A), .long (te A), .long (tf A), .long (tg A)], cO t2 1 [.long (ta B), .long (tb B), .long (tc B), .long (td B), .long (te B), .long (tf B), .long (tg B)], cO o 0 [.ref k, .ref f, .ref s, .int (nI z)], cI E k 8 K, cI E f 8 F, cI E s 8 G] (zx (some (.int (-1))) ([cO x 2 [.ref rw, .int (nI nb), .ref ln, .int (nI dn), .ref t1, .ref t2], cQ E rw 4 RF, cI E ln 12 D, cO t1 1 [.long (ta A), .long (tb A), .long (tc A), .long (td A), .long (te A), .long (tf A), .long (tg A)], cO t2 1 [.long (ta B), .long (tb B), .long (tc B), .long (td B), .long (te B), .long (tf B), .long (tg B)], cO o 0 [.ref k, .ref f, .ref s, .int (nI z)], cI E k 8 K, cI E f 8 F, cI E s 8 G])) := by
  refine z_start RX2 "turns" (by decide) rfl rfl rfl (Nat.le_of_ble_eq_true rfl) ?_
  intro J Z
  refine g_eq Z (lv2 := [(0, .ref x), (1, .int (nI j)), (2, .int way)]) rfl rfl rfl ?_
  refine g_aload_n Z dX2_turns_0 0 rfl rfl ?_
  refine g_iload_n Z dX2_turns_1 1 rfl rfl ?_
  refine g_callVx (w' := [cO x 2 [.ref rw, .int (nI nb), .ref ln, .int (nI dn), .ref t1, .ref t2], cQ E rw 4 RF, cI E ln 12 D, cO t1 1 [.long (ta A), .long (tb A), .long (tc A), .long (td A), .long (te A), .long (tf A), .long (tg A)], cO t2 1 [.long (ta B), .long (tb B), .long (tc B), .long (td B), .long (te B), .long (tf B), .long (tg B)], cO o 0 [.ref k, .ref f, .ref s, .int (nI z)], cI E k 8 K, cI E f 8 F, cI E s 8 G]) Z (qX2_rowAt E x rw ln t1 t2 nb dn RF j o hj hnb hr) iX2_rowAt gX2_turns_X2_rowAt ⟨rfl, rfl⟩ ⟨Nat.le_of_ble_eq_true rfl, Nat.le_of_ble_eq_true rfl⟩ dX2_turns_2 rfl rfl (Nat.le_of_ble_eq_true rfl) ⟨Nat.zero_le _, Nat.zero_le _⟩ [0, 1] rfl rfl 0 rfl rfl rfl rfl rfl ?_
  refine g_astore_n (lv' := [(3, .ref o), (0, .ref x), (1, .int (nI j)), (2, .int way)]) Z dX2_turns_5 rfl (by decide) rfl ?_
  refine g_aload_n Z dX2_turns_6 0 rfl rfl ?_
  refine g_ifnull Z dX2_turns_7 ?_
  refine g_iload_n Z dX2_turns_10 3 rfl rfl ?_
  refine g_callSx (w' := [cO x 2 [.ref rw, .int (nI nb), .ref ln, .int (nI dn), .ref t1, .ref t2], cQ E rw 4 RF, cI E ln 12 D, cO t1 1 [.long (ta A), .long (tb A), .long (tc A), .long (td A), .long (te A), .long (tf A), .long (tg A)], cO t2 1 [.long (ta B), .long (tb B), .long (tc B), .long (td B), .long (te B), .long (tf B), .long (tg B)], cO o 0 [.ref k, .ref f, .ref s, .int (nI z)], cI E k 8 K, cI E f 8 F, cI E s 8 G]) Z (qX2_isEither E way) iX2_isEither gX2_turns_X2_isEither ⟨rfl, rfl⟩ ⟨Nat.le_of_ble_eq_true rfl, Nat.le_of_ble_eq_true rfl⟩ dX2_turns_11 rfl rfl (Nat.le_of_ble_eq_true rfl) ⟨Nat.zero_le _, Nat.zero_le _⟩ [] rfl rfl rfl rfl ?_
  refine g_ifb_ne (tgt := 19) Z dX2_turns_14 (by decide) (fun c_14 => absurd c_14 hv) (fun c_14 => ?_)
  refine g_iconst Z dX2_turns_17 zi_m1 ?_
  exact g_iret Z dX2_turns_18 rfl ⟨Nat.zero_le _, Nat.zero_le _⟩ ⟨rfl, rfl⟩

theorem nX2_turns_X2 : ∀ w ∈ wsX20, w ∈ wsX2_turns := by decide +kernel
theorem fX2_turns_31 : Cond.fieldLink RX2 31 (TX2 4).1 (TX2 4).2.1 (TX2 4).2.2.1 ∈ wsX2_turns := by decide +kernel
set_option maxHeartbeats 4000000 in
set_option maxRecDepth 100000 in
theorem qX2_turns (E : zE) (x rw ln t1 t2 : Nat) (nb dn : Nat) (RF : Nat → Option Nat) (D : Nat → Int32) (A B : TB) (o k f s : Nat) (K F G : Nat → Int32) (z : Nat) (j : Nat) (way : Int32) (hnb : nb ≤ 4) (hj : j < nb) (hr : RF j = some o) (hz : z ≤ 8) (hw : way = 0 ∨ way = 1) : zF E yX2_turns wsX2_turns rX2_turns [.ref x, .int (nI j), .int way] [cO x 2 [.ref rw, .int (nI nb), .ref ln, .int (nI dn), .ref t1, .ref t2], cQ E rw 4 RF, cI E ln 12 D, cO t1 1 [.long (ta A), .long (tb A), .long (tc A), .long (td A), .long (te A), .long (tf A), .long (tg A)], cO t2 1 [.long (ta B), .long (tb B), .long (tc B), .long (td B), .long (te B), .long (tf B), .long (tg B)], cO o 0 [.ref k, .ref f, .ref s, .int (nI z)], cI E k 8 K, cI E f 8 F, cI E s 8 G] (fun ov wv => ov = some (.int (rndF (tabX K F G way z))) ∧ ∃ A2 B2 : TB, wv = [cO x 2 [.ref rw, .int (nI nb), .ref ln, .int (nI dn), .ref t1, .ref t2], cQ E rw 4 RF, cI E ln 12 D, cO t1 1 [.long (ta A2), .long (tb A2), .long (tc A2), .long (td A2), .long (te A2), .long (tf A2), .long (tg A2)], cO t2 1 [.long (ta B2), .long (tb B2), .long (tc B2), .long (td B2), .long (te B2), .long (tf B2), .long (tg B2)], cO o 0 [.ref k, .ref f, .ref s, .int (nI z)], cI E k 8 K, cI E f 8 F, cI E s 8 G]) := by
  refine z_start RX2 "turns" (by decide) rfl rfl rfl (Nat.le_of_ble_eq_true rfl) ?_
  intro J Z
  refine g_eq Z (lv2 := [(0, .ref x), (1, .int (nI j)), (2, .int way)]) rfl rfl rfl ?_
  refine g_aload_n Z dX2_turns_0 0 rfl rfl ?_
  refine g_iload_n Z dX2_turns_1 1 rfl rfl ?_
  refine g_callVx (w' := [cO x 2 [.ref rw, .int (nI nb), .ref ln, .int (nI dn), .ref t1, .ref t2], cQ E rw 4 RF, cI E ln 12 D, cO t1 1 [.long (ta A), .long (tb A), .long (tc A), .long (td A), .long (te A), .long (tf A), .long (tg A)], cO t2 1 [.long (ta B), .long (tb B), .long (tc B), .long (td B), .long (te B), .long (tf B), .long (tg B)], cO o 0 [.ref k, .ref f, .ref s, .int (nI z)], cI E k 8 K, cI E f 8 F, cI E s 8 G]) Z (qX2_rowAt E x rw ln t1 t2 nb dn RF j o hj hnb hr) iX2_rowAt gX2_turns_X2_rowAt ⟨rfl, rfl⟩ ⟨Nat.le_of_ble_eq_true rfl, Nat.le_of_ble_eq_true rfl⟩ dX2_turns_2 rfl rfl (Nat.le_of_ble_eq_true rfl) ⟨Nat.zero_le _, Nat.zero_le _⟩ [0, 1] rfl rfl 0 rfl rfl rfl rfl rfl ?_
  refine g_astore_n (lv' := [(3, .ref o), (0, .ref x), (1, .int (nI j)), (2, .int way)]) Z dX2_turns_5 rfl (by decide) rfl ?_
  refine g_aload_n Z dX2_turns_6 0 rfl rfl ?_
  refine g_ifnull Z dX2_turns_7 ?_
  refine g_iload_n Z dX2_turns_10 3 rfl rfl ?_
  refine g_callSx (w' := [cO x 2 [.ref rw, .int (nI nb), .ref ln, .int (nI dn), .ref t1, .ref t2], cQ E rw 4 RF, cI E ln 12 D, cO t1 1 [.long (ta A), .long (tb A), .long (tc A), .long (td A), .long (te A), .long (tf A), .long (tg A)], cO t2 1 [.long (ta B), .long (tb B), .long (tc B), .long (td B), .long (te B), .long (tf B), .long (tg B)], cO o 0 [.ref k, .ref f, .ref s, .int (nI z)], cI E k 8 K, cI E f 8 F, cI E s 8 G]) Z (qX2_isEither E way) iX2_isEither gX2_turns_X2_isEither ⟨rfl, rfl⟩ ⟨Nat.le_of_ble_eq_true rfl, Nat.le_of_ble_eq_true rfl⟩ dX2_turns_11 rfl rfl (Nat.le_of_ble_eq_true rfl) ⟨Nat.zero_le _, Nat.zero_le _⟩ [] rfl rfl rfl rfl ?_
  refine g_ifb_ne (tgt := 19) Z dX2_turns_14 (by decide) (fun c_14 => ?_) (fun c_14 => absurd c_14 (fun q => q hw))
  refine g_aload_n Z dX2_turns_19 1 rfl rfl ?_
  refine g_get Z dX2_turns_20 0 rfl rfl nX2_turns_X2 4 (by decide) fX2_turns_31 rfl ?_
  refine g_aload_n Z dX2_turns_23 0 rfl rfl ?_
  refine g_iload_n Z dX2_turns_24 3 rfl rfl ?_
  refine g_callVx (w' := [cO x 2 [.ref rw, .int (nI nb), .ref ln, .int (nI dn), .ref t1, .ref t2], cQ E rw 4 RF, cI E ln 12 D, cO t1 1 [.long (ta (tabX K F G way z)), .long (tb (tabX K F G way z)), .long (tc (tabX K F G way z)), .long (td (tabX K F G way z)), .long (te (tabX K F G way z)), .long (tf (tabX K F G way z)), .long (tg (tabX K F G way z))], cO t2 1 [.long (ta B), .long (tb B), .long (tc B), .long (td B), .long (te B), .long (tf B), .long (tg B)], cO o 0 [.ref k, .ref f, .ref s, .int (nI z)], cI E k 8 K, cI E f 8 F, cI E s 8 G]) Z (qX1_leadThroughT E t1 o k f s K F G A way z (by omega)) iX1_leadThrough gX2_turns_X1_leadThrough ⟨rfl, rfl⟩ ⟨Nat.le_of_ble_eq_true rfl, Nat.le_of_ble_eq_true rfl⟩ dX2_turns_25 rfl rfl (Nat.le_of_ble_eq_true rfl) ⟨Nat.zero_le _, Nat.zero_le _⟩ [3, 5, 6, 7, 8] rfl rfl 0 rfl rfl rfl rfl rfl ?_
  refine g_aload_n Z dX2_turns_28 1 rfl rfl ?_
  refine g_get Z dX2_turns_29 0 rfl rfl nX2_turns_X2 4 (by decide) fX2_turns_31 rfl ?_
  refine g_callVx (w' := [cO x 2 [.ref rw, .int (nI nb), .ref ln, .int (nI dn), .ref t1, .ref t2], cQ E rw 4 RF, cI E ln 12 D, cO t1 1 [.long (ta (tabX K F G way z)), .long (tb (tabX K F G way z)), .long (tc (tabX K F G way z)), .long (td (tabX K F G way z)), .long (te (tabX K F G way z)), .long (tf (tabX K F G way z)), .long (tg (tabX K F G way z))], cO t2 1 [.long (ta B), .long (tb B), .long (tc B), .long (td B), .long (te B), .long (tf B), .long (tg B)], cO o 0 [.ref k, .ref f, .ref s, .int (nI z)], cI E k 8 K, cI E f 8 F, cI E s 8 G]) Z (qX1_roundsToComeBack E t1 (tabX K F G way z)) iX1_roundsToComeBack gX2_turns_X1_roundsToComeBack ⟨rfl, rfl⟩ ⟨Nat.le_of_ble_eq_true rfl, Nat.le_of_ble_eq_true rfl⟩ dX2_turns_32 rfl rfl (Nat.le_of_ble_eq_true rfl) ⟨Nat.zero_le _, Nat.zero_le _⟩ [3] rfl rfl 0 rfl rfl rfl rfl rfl ?_
  exact g_iret Z dX2_turns_35 rfl ⟨Nat.zero_le _, Nat.zero_le _⟩ ⟨rfl, _, _, rfl⟩


set_option maxHeartbeats 4000000 in
set_option maxRecDepth 100000 in
theorem qX2_traceN (E : zE) (x rw ln t1 t2 : Nat) (nb dn : Nat) (RF : Nat → Option Nat) (D : Nat → Int32) (A B : TB) (o k f s : Nat) (K F G : Nat → Int32) (z : Nat) (j : Nat) (way wh : Int32) (hnb : nb ≤ 4) (hj : j < nb) (hr : RF j = some o) (hz : z ≤ 8) (hv : ¬ ((way = 0 ∨ way = 1) ∧ (wh = 0 ∨ wh = 1))) : zF E yX2_trace wsX2_trace rX2_trace [.ref x, .int (nI j), .int way, .int wh] [cO x 2 [.ref rw, .int (nI nb), .ref ln, .int (nI dn), .ref t1, .ref t2], cQ E rw 4 RF, cI E ln 12 D, cO t1 1 [.long (ta A), .long (tb A), .long (tc A), .long (td A), .long (te A), .long (tf A), .long (tg A)], cO t2 1 [.long (ta B), .long (tb B), .long (tc B), .long (td B), .long (te B), .long (tf B), .long (tg B)], cO o 0 [.ref k, .ref f, .ref s, .int (nI z)], cI E k 8 K, cI E f 8 F, cI E s 8 G] (zx (some (.long (-9223372036854775808))) ([cO x 2 [.ref rw, .int (nI nb), .ref ln, .int (nI dn), .ref t1, .ref t2], cQ E rw 4 RF, cI E ln 12 D, cO t1 1 [.long (ta A), .long (tb A), .long (tc A), .long (td A), .long (te A), .long (tf A), .long (tg A)], cO t2 1 [.long (ta B), .long (tb B), .long (tc B), .long (td B), .long (te B), .long (tf B), .long (tg B)], cO o 0 [.ref k, .ref f, .ref s, .int (nI z)], cI E k 8 K, cI E f 8 F, cI E s 8 G])) := by
  refine z_start RX2 "trace" (by decide) rfl rfl rfl (Nat.le_of_ble_eq_true rfl) ?_
  intro J Z
  refine g_eq Z (lv2 := [(0, .ref x), (1, .int (nI j)), (2, .int way), (3, .int wh)]) rfl rfl rfl ?_
  refine g_aload_n Z dX2_trace_0 0 rfl rfl ?_
  refine g_iload_n Z dX2_trace_1 1 rfl rfl ?_
  refine g_callVx (w' := [cO x 2 [.ref rw, .int (nI nb), .ref ln, .int (nI dn), .ref t1, .ref t2], cQ E rw 4 RF, cI E ln 12 D, cO t1 1 [.long (ta A), .long (tb A), .long (tc A), .long (td A), .long (te A), .long (tf A), .long (tg A)], cO t2 1 [.long (ta B), .long (tb B), .long (tc B), .long (td B), .long (te B), .long (tf B), .long (tg B)], cO o 0 [.ref k, .ref f, .ref s, .int (nI z)], cI E k 8 K, cI E f 8 F, cI E s 8 G]) Z (qX2_rowAt E x rw ln t1 t2 nb dn RF j o hj hnb hr) iX2_rowAt gX2_trace_X2_rowAt ⟨rfl, rfl⟩ ⟨Nat.le_of_ble_eq_true rfl, Nat.le_of_ble_eq_true rfl⟩ dX2_trace_2 rfl rfl (Nat.le_of_ble_eq_true rfl) ⟨Nat.zero_le _, Nat.zero_le _⟩ [0, 1] rfl rfl 0 rfl rfl rfl rfl rfl ?_
  refine g_astore (lv' := [(4, .ref o), (0, .ref x), (1, .int (nI j)), (2, .int way), (3, .int wh)]) Z dX2_trace_5 (by decide) rfl ?_
  refine g_aload Z dX2_trace_7 0 rfl ?_
  refine g_ifnull Z dX2_trace_9 ?_
  refine g_iload_n Z dX2_trace_12 3 rfl rfl ?_
  refine g_callSx (w' := [cO x 2 [.ref rw, .int (nI nb), .ref ln, .int (nI dn), .ref t1, .ref t2], cQ E rw 4 RF, cI E ln 12 D, cO t1 1 [.long (ta A), .long (tb A), .long (tc A), .long (td A), .long (te A), .long (tf A), .long (tg A)], cO t2 1 [.long (ta B), .long (tb B), .long (tc B), .long (td B), .long (te B), .long (tf B), .long (tg B)], cO o 0 [.ref k, .ref f, .ref s, .int (nI z)], cI E k 8 K, cI E f 8 F, cI E s 8 G]) Z (qX2_isEither E way) iX2_isEither gX2_trace_X2_isEither ⟨rfl, rfl⟩ ⟨Nat.le_of_ble_eq_true rfl, Nat.le_of_ble_eq_true rfl⟩ dX2_trace_13 rfl rfl (Nat.le_of_ble_eq_true rfl) ⟨Nat.zero_le _, Nat.zero_le _⟩ [] rfl rfl rfl rfl ?_
  refine g_ifb_eq (tgt := 26) Z dX2_trace_16 (by decide) (fun c_16 => ?_) (fun c_16 => ?_)
  · refine g_ldc2 Z dX2_trace_26 kX2_trace_91 ?_
    exact g_lret Z dX2_trace_29 rfl ⟨Nat.zero_le _, Nat.zero_le _⟩ ⟨rfl, rfl⟩
  · refine g_iload_n Z dX2_trace_19 4 rfl rfl ?_
    refine g_callSx (w' := [cO x 2 [.ref rw, .int (nI nb), .ref ln, .int (nI dn), .ref t1, .ref t2], cQ E rw 4 RF, cI E ln 12 D, cO t1 1 [.long (ta A), .long (tb A), .long (tc A), .long (td A), .long (te A), .long (tf A), .long (tg A)], cO t2 1 [.long (ta B), .long (tb B), .long (tc B), .long (td B), .long (te B), .long (tf B), .long (tg B)], cO o 0 [.ref k, .ref f, .ref s, .int (nI z)], cI E k 8 K, cI E f 8 F, cI E s 8 G]) Z (qX2_isEither E wh) iX2_isEither gX2_trace_X2_isEither ⟨rfl, rfl⟩ ⟨Nat.le_of_ble_eq_true rfl, Nat.le_of_ble_eq_true rfl⟩ dX2_trace_20 rfl rfl (Nat.le_of_ble_eq_true rfl) ⟨Nat.zero_le _, Nat.zero_le _⟩ [] rfl rfl rfl rfl ?_
    refine g_ifb_ne (tgt := 30) Z dX2_trace_23 (by decide) (fun c_23 => ?_) (fun c_23 => ?_)
    · exact absurd ⟨c_16, c_23⟩ hv
    · refine g_ldc2 Z dX2_trace_26 kX2_trace_91 ?_
      exact g_lret Z dX2_trace_29 rfl ⟨Nat.zero_le _, Nat.zero_le _⟩ ⟨rfl, rfl⟩

theorem nX2_trace_X2 : ∀ w ∈ wsX20, w ∈ wsX2_trace := by decide +kernel
theorem fX2_trace_31 : Cond.fieldLink RX2 31 (TX2 4).1 (TX2 4).2.1 (TX2 4).2.2.1 ∈ wsX2_trace := by decide +kernel
theorem nX2_trace_X1 : ∀ w ∈ wsX10, w ∈ wsX2_trace := by decide +kernel
theorem fX2_trace_101 : Cond.fieldLink RX2 101 (TX1 6).1 (TX1 6).2.1 (TX1 6).2.2.1 ∈ wsX2_trace := by decide +kernel
set_option maxHeartbeats 4000000 in
set_option maxRecDepth 100000 in
theorem qX2_trace (E : zE) (x rw ln t1 t2 : Nat) (nb dn : Nat) (RF : Nat → Option Nat) (D : Nat → Int32) (A B : TB) (o k f s : Nat) (K F G : Nat → Int32) (z : Nat) (j : Nat) (way wh : Int32) (hnb : nb ≤ 4) (hj : j < nb) (hr : RF j = some o) (hz : z ≤ 8) (hw : way = 0 ∨ way = 1) (hh : wh = 0 ∨ wh = 1) : zF E yX2_trace wsX2_trace rX2_trace [.ref x, .int (nI j), .int way, .int wh] [cO x 2 [.ref rw, .int (nI nb), .ref ln, .int (nI dn), .ref t1, .ref t2], cQ E rw 4 RF, cI E ln 12 D, cO t1 1 [.long (ta A), .long (tb A), .long (tc A), .long (td A), .long (te A), .long (tf A), .long (tg A)], cO t2 1 [.long (ta B), .long (tb B), .long (tc B), .long (td B), .long (te B), .long (tf B), .long (tg B)], cO o 0 [.ref k, .ref f, .ref s, .int (nI z)], cI E k 8 K, cI E f 8 F, cI E s 8 G] (fun ov wv => ov = some (.long (tolF (sumF (tabX K F G way z)) (tg (tabX K F G way z)) wh)) ∧ ∃ A2 B2 : TB, wv = [cO x 2 [.ref rw, .int (nI nb), .ref ln, .int (nI dn), .ref t1, .ref t2], cQ E rw 4 RF, cI E ln 12 D, cO t1 1 [.long (ta A2), .long (tb A2), .long (tc A2), .long (td A2), .long (te A2), .long (tf A2), .long (tg A2)], cO t2 1 [.long (ta B2), .long (tb B2), .long (tc B2), .long (td B2), .long (te B2), .long (tf B2), .long (tg B2)], cO o 0 [.ref k, .ref f, .ref s, .int (nI z)], cI E k 8 K, cI E f 8 F, cI E s 8 G]) := by
  refine z_start RX2 "trace" (by decide) rfl rfl rfl (Nat.le_of_ble_eq_true rfl) ?_
  intro J Z
  refine g_eq Z (lv2 := [(0, .ref x), (1, .int (nI j)), (2, .int way), (3, .int wh)]) rfl rfl rfl ?_
  refine g_aload_n Z dX2_trace_0 0 rfl rfl ?_
  refine g_iload_n Z dX2_trace_1 1 rfl rfl ?_
  refine g_callVx (w' := [cO x 2 [.ref rw, .int (nI nb), .ref ln, .int (nI dn), .ref t1, .ref t2], cQ E rw 4 RF, cI E ln 12 D, cO t1 1 [.long (ta A), .long (tb A), .long (tc A), .long (td A), .long (te A), .long (tf A), .long (tg A)], cO t2 1 [.long (ta B), .long (tb B), .long (tc B), .long (td B), .long (te B), .long (tf B), .long (tg B)], cO o 0 [.ref k, .ref f, .ref s, .int (nI z)], cI E k 8 K, cI E f 8 F, cI E s 8 G]) Z (qX2_rowAt E x rw ln t1 t2 nb dn RF j o hj hnb hr) iX2_rowAt gX2_trace_X2_rowAt ⟨rfl, rfl⟩ ⟨Nat.le_of_ble_eq_true rfl, Nat.le_of_ble_eq_true rfl⟩ dX2_trace_2 rfl rfl (Nat.le_of_ble_eq_true rfl) ⟨Nat.zero_le _, Nat.zero_le _⟩ [0, 1] rfl rfl 0 rfl rfl rfl rfl rfl ?_
  refine g_astore (lv' := [(4, .ref o), (0, .ref x), (1, .int (nI j)), (2, .int way), (3, .int wh)]) Z dX2_trace_5 (by decide) rfl ?_
  refine g_aload Z dX2_trace_7 0 rfl ?_
  refine g_ifnull Z dX2_trace_9 ?_
  refine g_iload_n Z dX2_trace_12 3 rfl rfl ?_
  refine g_callSx (w' := [cO x 2 [.ref rw, .int (nI nb), .ref ln, .int (nI dn), .ref t1, .ref t2], cQ E rw 4 RF, cI E ln 12 D, cO t1 1 [.long (ta A), .long (tb A), .long (tc A), .long (td A), .long (te A), .long (tf A), .long (tg A)], cO t2 1 [.long (ta B), .long (tb B), .long (tc B), .long (td B), .long (te B), .long (tf B), .long (tg B)], cO o 0 [.ref k, .ref f, .ref s, .int (nI z)], cI E k 8 K, cI E f 8 F, cI E s 8 G]) Z (qX2_isEither E way) iX2_isEither gX2_trace_X2_isEither ⟨rfl, rfl⟩ ⟨Nat.le_of_ble_eq_true rfl, Nat.le_of_ble_eq_true rfl⟩ dX2_trace_13 rfl rfl (Nat.le_of_ble_eq_true rfl) ⟨Nat.zero_le _, Nat.zero_le _⟩ [] rfl rfl rfl rfl ?_
  refine g_ifb_eq (tgt := 26) Z dX2_trace_16 (by decide) (fun c_16 => absurd c_16 (fun q => q hw)) (fun c_16 => ?_)
  refine g_iload_n Z dX2_trace_19 4 rfl rfl ?_
  refine g_callSx (w' := [cO x 2 [.ref rw, .int (nI nb), .ref ln, .int (nI dn), .ref t1, .ref t2], cQ E rw 4 RF, cI E ln 12 D, cO t1 1 [.long (ta A), .long (tb A), .long (tc A), .long (td A), .long (te A), .long (tf A), .long (tg A)], cO t2 1 [.long (ta B), .long (tb B), .long (tc B), .long (td B), .long (te B), .long (tf B), .long (tg B)], cO o 0 [.ref k, .ref f, .ref s, .int (nI z)], cI E k 8 K, cI E f 8 F, cI E s 8 G]) Z (qX2_isEither E wh) iX2_isEither gX2_trace_X2_isEither ⟨rfl, rfl⟩ ⟨Nat.le_of_ble_eq_true rfl, Nat.le_of_ble_eq_true rfl⟩ dX2_trace_20 rfl rfl (Nat.le_of_ble_eq_true rfl) ⟨Nat.zero_le _, Nat.zero_le _⟩ [] rfl rfl rfl rfl ?_
  refine g_ifb_ne (tgt := 30) Z dX2_trace_23 (by decide) (fun c_23 => ?_) (fun c_23 => absurd c_23 (fun q => q hh))
  refine g_aload_n Z dX2_trace_30 1 rfl rfl ?_
  refine g_get Z dX2_trace_31 0 rfl rfl nX2_trace_X2 4 (by decide) fX2_trace_31 rfl ?_
  refine g_aload Z dX2_trace_34 0 rfl ?_
  refine g_iload_n Z dX2_trace_36 3 rfl rfl ?_
  refine g_callVx (w' := [cO x 2 [.ref rw, .int (nI nb), .ref ln, .int (nI dn), .ref t1, .ref t2], cQ E rw 4 RF, cI E ln 12 D, cO t1 1 [.long (ta (tabX K F G way z)), .long (tb (tabX K F G way z)), .long (tc (tabX K F G way z)), .long (td (tabX K F G way z)), .long (te (tabX K F G way z)), .long (tf (tabX K F G way z)), .long (tg (tabX K F G way z))], cO t2 1 [.long (ta B), .long (tb B), .long (tc B), .long (td B), .long (te B), .long (tf B), .long (tg B)], cO o 0 [.ref k, .ref f, .ref s, .int (nI z)], cI E k 8 K, cI E f 8 F, cI E s 8 G]) Z (qX1_leadThroughT E t1 o k f s K F G A way z (by omega)) iX1_leadThrough gX2_trace_X1_leadThrough ⟨rfl, rfl⟩ ⟨Nat.le_of_ble_eq_true rfl, Nat.le_of_ble_eq_true rfl⟩ dX2_trace_37 rfl rfl (Nat.le_of_ble_eq_true rfl) ⟨Nat.zero_le _, Nat.zero_le _⟩ [3, 5, 6, 7, 8] rfl rfl 0 rfl rfl rfl rfl rfl ?_
  refine g_aload_n Z dX2_trace_40 1 rfl rfl ?_
  refine g_get Z dX2_trace_41 0 rfl rfl nX2_trace_X2 4 (by decide) fX2_trace_31 rfl ?_
  refine g_callVx (w' := [cO x 2 [.ref rw, .int (nI nb), .ref ln, .int (nI dn), .ref t1, .ref t2], cQ E rw 4 RF, cI E ln 12 D, cO t1 1 [.long (ta (tabX K F G way z)), .long (tb (tabX K F G way z)), .long (tc (tabX K F G way z)), .long (td (tabX K F G way z)), .long (te (tabX K F G way z)), .long (tf (tabX K F G way z)), .long (tg (tabX K F G way z))], cO t2 1 [.long (ta B), .long (tb B), .long (tc B), .long (td B), .long (te B), .long (tf B), .long (tg B)], cO o 0 [.ref k, .ref f, .ref s, .int (nI z)], cI E k 8 K, cI E f 8 F, cI E s 8 G]) Z (qX1_sum E t1 (tabX K F G way z)) iX1_sum gX2_trace_X1_sum ⟨rfl, rfl⟩ ⟨Nat.le_of_ble_eq_true rfl, Nat.le_of_ble_eq_true rfl⟩ dX2_trace_44 rfl rfl (Nat.le_of_ble_eq_true rfl) ⟨Nat.zero_le _, Nat.zero_le _⟩ [3] rfl rfl 0 rfl rfl rfl rfl rfl ?_
  refine g_aload_n Z dX2_trace_47 1 rfl rfl ?_
  refine g_get Z dX2_trace_48 0 rfl rfl nX2_trace_X2 4 (by decide) fX2_trace_31 rfl ?_
  refine g_get Z dX2_trace_51 3 rfl rfl nX2_trace_X1 6 (by decide) fX2_trace_101 rfl ?_
  refine g_iload_n Z dX2_trace_54 4 rfl rfl ?_
  refine g_callSx (w' := [cO x 2 [.ref rw, .int (nI nb), .ref ln, .int (nI dn), .ref t1, .ref t2], cQ E rw 4 RF, cI E ln 12 D, cO t1 1 [.long (ta (tabX K F G way z)), .long (tb (tabX K F G way z)), .long (tc (tabX K F G way z)), .long (td (tabX K F G way z)), .long (te (tabX K F G way z)), .long (tf (tabX K F G way z)), .long (tg (tabX K F G way z))], cO t2 1 [.long (ta B), .long (tb B), .long (tc B), .long (td B), .long (te B), .long (tf B), .long (tg B)], cO o 0 [.ref k, .ref f, .ref s, .int (nI z)], cI E k 8 K, cI E f 8 F, cI E s 8 G]) Z (qX2_told E (sumF (tabX K F G way z)) (tg (tabX K F G way z)) wh) iX2_told gX2_trace_X2_told ⟨rfl, rfl⟩ ⟨Nat.le_of_ble_eq_true rfl, Nat.le_of_ble_eq_true rfl⟩ dX2_trace_55 rfl rfl (Nat.le_of_ble_eq_true rfl) ⟨Nat.zero_le _, Nat.zero_le _⟩ [] rfl rfl rfl rfl ?_
  exact g_lret Z dX2_trace_58 rfl ⟨Nat.zero_le _, Nat.zero_le _⟩ ⟨rfl, _, _, rfl⟩


set_option maxHeartbeats 4000000 in
set_option maxRecDepth 100000 in
theorem qX2_beamN (E : zE) (x rw ln t1 t2 : Nat) (nb dn : Nat) (RF : Nat → Option Nat) (D : Nat → Int32) (A B : TB) (o k f s : Nat) (K F G : Nat → Int32) (z : Nat) (j : Nat) (way i e wh : Int32) (hnb : nb ≤ 4) (hj : j < nb) (hr : RF j = some o) (hz : z ≤ 8) (hv : ¬ (inB z i ∧ (way = 0 ∨ way = 1) ∧ (e = 0 ∨ e = 1) ∧ (wh = 0 ∨ wh = 1))) : zF E yX2_beam wsX2_beam rX2_beam [.ref x, .int (nI j), .int way, .int i, .int e, .int wh] [cO x 2 [.ref rw, .int (nI nb), .ref ln, .int (nI dn), .ref t1, .ref t2], cQ E rw 4 RF, cI E ln 12 D, cO t1 1 [.long (ta A), .long (tb A), .long (tc A), .long (td A), .long (te A), .long (tf A), .long (tg A)], cO t2 1 [.long (ta B), .long (tb B), .long (tc B), .long (td B), .long (te B), .long (tf B), .long (tg B)], cO o 0 [.ref k, .ref f, .ref s, .int (nI z)], cI E k 8 K, cI E f 8 F, cI E s 8 G] (zx (some (.long (-9223372036854775808))) ([cO x 2 [.ref rw, .int (nI nb), .ref ln, .int (nI dn), .ref t1, .ref t2], cQ E rw 4 RF, cI E ln 12 D, cO t1 1 [.long (ta A), .long (tb A), .long (tc A), .long (td A), .long (te A), .long (tf A), .long (tg A)], cO t2 1 [.long (ta B), .long (tb B), .long (tc B), .long (td B), .long (te B), .long (tf B), .long (tg B)], cO o 0 [.ref k, .ref f, .ref s, .int (nI z)], cI E k 8 K, cI E f 8 F, cI E s 8 G])) := by
  refine z_start RX2 "beam" (by decide) rfl rfl rfl (Nat.le_of_ble_eq_true rfl) ?_
  intro J Z
  refine g_eq Z (lv2 := [(0, .ref x), (1, .int (nI j)), (2, .int way), (3, .int i), (4, .int e), (5, .int wh)]) rfl rfl rfl ?_
  refine g_aload_n Z dX2_beam_0 0 rfl rfl ?_
  refine g_iload_n Z dX2_beam_1 1 rfl rfl ?_
  refine g_callVx (w' := [cO x 2 [.ref rw, .int (nI nb), .ref ln, .int (nI dn), .ref t1, .ref t2], cQ E rw 4 RF, cI E ln 12 D, cO t1 1 [.long (ta A), .long (tb A), .long (tc A), .long (td A), .long (te A), .long (tf A), .long (tg A)], cO t2 1 [.long (ta B), .long (tb B), .long (tc B), .long (td B), .long (te B), .long (tf B), .long (tg B)], cO o 0 [.ref k, .ref f, .ref s, .int (nI z)], cI E k 8 K, cI E f 8 F, cI E s 8 G]) Z (qX2_rowAt E x rw ln t1 t2 nb dn RF j o hj hnb hr) iX2_rowAt gX2_beam_X2_rowAt ⟨rfl, rfl⟩ ⟨Nat.le_of_ble_eq_true rfl, Nat.le_of_ble_eq_true rfl⟩ dX2_beam_2 rfl rfl (Nat.le_of_ble_eq_true rfl) ⟨Nat.zero_le _, Nat.zero_le _⟩ [0, 1] rfl rfl 0 rfl rfl rfl rfl rfl ?_
  refine g_astore (lv' := [(6, .ref o), (0, .ref x), (1, .int (nI j)), (2, .int way), (3, .int i), (4, .int e), (5, .int wh)]) Z dX2_beam_5 (by decide) rfl ?_
  refine g_aload Z dX2_beam_7 0 rfl ?_
  refine g_ifnull Z dX2_beam_9 ?_
  refine g_aload Z dX2_beam_12 0 rfl ?_
  refine g_iload_n Z dX2_beam_14 4 rfl rfl ?_
  refine g_callVx (w' := [cO x 2 [.ref rw, .int (nI nb), .ref ln, .int (nI dn), .ref t1, .ref t2], cQ E rw 4 RF, cI E ln 12 D, cO t1 1 [.long (ta A), .long (tb A), .long (tc A), .long (td A), .long (te A), .long (tf A), .long (tg A)], cO t2 1 [.long (ta B), .long (tb B), .long (tc B), .long (td B), .long (te B), .long (tf B), .long (tg B)], cO o 0 [.ref k, .ref f, .ref s, .int (nI z)], cI E k 8 K, cI E f 8 F, cI E s 8 G]) Z (qX0_has E o k f s (nI z) i) iX0_has gX2_beam_X0_has ⟨rfl, rfl⟩ ⟨Nat.le_of_ble_eq_true rfl, Nat.le_of_ble_eq_true rfl⟩ dX2_beam_15 rfl rfl (Nat.le_of_ble_eq_true rfl) ⟨Nat.zero_le _, Nat.zero_le _⟩ [5] rfl rfl 0 rfl rfl rfl rfl rfl ?_
  refine g_ifb_eq (tgt := 44) Z dX2_beam_18 (by decide) (fun c_18 => ?_) (fun c_18 => ?_)
  · refine g_ldc2 Z dX2_beam_44 kX2_beam_91 ?_
    exact g_lret Z dX2_beam_47 rfl ⟨Nat.zero_le _, Nat.zero_le _⟩ ⟨rfl, rfl⟩
  · refine g_iload_n Z dX2_beam_21 3 rfl rfl ?_
    refine g_callSx (w' := [cO x 2 [.ref rw, .int (nI nb), .ref ln, .int (nI dn), .ref t1, .ref t2], cQ E rw 4 RF, cI E ln 12 D, cO t1 1 [.long (ta A), .long (tb A), .long (tc A), .long (td A), .long (te A), .long (tf A), .long (tg A)], cO t2 1 [.long (ta B), .long (tb B), .long (tc B), .long (td B), .long (te B), .long (tf B), .long (tg B)], cO o 0 [.ref k, .ref f, .ref s, .int (nI z)], cI E k 8 K, cI E f 8 F, cI E s 8 G]) Z (qX2_isEither E way) iX2_isEither gX2_beam_X2_isEither ⟨rfl, rfl⟩ ⟨Nat.le_of_ble_eq_true rfl, Nat.le_of_ble_eq_true rfl⟩ dX2_beam_22 rfl rfl (Nat.le_of_ble_eq_true rfl) ⟨Nat.zero_le _, Nat.zero_le _⟩ [] rfl rfl rfl rfl ?_
    refine g_ifb_eq (tgt := 44) Z dX2_beam_25 (by decide) (fun c_25 => ?_) (fun c_25 => ?_)
    · refine g_ldc2 Z dX2_beam_44 kX2_beam_91 ?_
      exact g_lret Z dX2_beam_47 rfl ⟨Nat.zero_le _, Nat.zero_le _⟩ ⟨rfl, rfl⟩
    · refine g_iload Z dX2_beam_28 5 rfl ?_
      refine g_callSx (w' := [cO x 2 [.ref rw, .int (nI nb), .ref ln, .int (nI dn), .ref t1, .ref t2], cQ E rw 4 RF, cI E ln 12 D, cO t1 1 [.long (ta A), .long (tb A), .long (tc A), .long (td A), .long (te A), .long (tf A), .long (tg A)], cO t2 1 [.long (ta B), .long (tb B), .long (tc B), .long (td B), .long (te B), .long (tf B), .long (tg B)], cO o 0 [.ref k, .ref f, .ref s, .int (nI z)], cI E k 8 K, cI E f 8 F, cI E s 8 G]) Z (qX2_isEither E e) iX2_isEither gX2_beam_X2_isEither ⟨rfl, rfl⟩ ⟨Nat.le_of_ble_eq_true rfl, Nat.le_of_ble_eq_true rfl⟩ dX2_beam_30 rfl rfl (Nat.le_of_ble_eq_true rfl) ⟨Nat.zero_le _, Nat.zero_le _⟩ [] rfl rfl rfl rfl ?_
      refine g_ifb_eq (tgt := 44) Z dX2_beam_33 (by decide) (fun c_33 => ?_) (fun c_33 => ?_)
      · refine g_ldc2 Z dX2_beam_44 kX2_beam_91 ?_
        exact g_lret Z dX2_beam_47 rfl ⟨Nat.zero_le _, Nat.zero_le _⟩ ⟨rfl, rfl⟩
      · refine g_iload Z dX2_beam_36 6 rfl ?_
        refine g_callSx (w' := [cO x 2 [.ref rw, .int (nI nb), .ref ln, .int (nI dn), .ref t1, .ref t2], cQ E rw 4 RF, cI E ln 12 D, cO t1 1 [.long (ta A), .long (tb A), .long (tc A), .long (td A), .long (te A), .long (tf A), .long (tg A)], cO t2 1 [.long (ta B), .long (tb B), .long (tc B), .long (td B), .long (te B), .long (tf B), .long (tg B)], cO o 0 [.ref k, .ref f, .ref s, .int (nI z)], cI E k 8 K, cI E f 8 F, cI E s 8 G]) Z (qX2_isEither E wh) iX2_isEither gX2_beam_X2_isEither ⟨rfl, rfl⟩ ⟨Nat.le_of_ble_eq_true rfl, Nat.le_of_ble_eq_true rfl⟩ dX2_beam_38 rfl rfl (Nat.le_of_ble_eq_true rfl) ⟨Nat.zero_le _, Nat.zero_le _⟩ [] rfl rfl rfl rfl ?_
        refine g_ifb_ne (tgt := 48) Z dX2_beam_41 (by decide) (fun c_41 => ?_) (fun c_41 => ?_)
        · exact absurd ⟨(inB_X (by omega)).mp c_18, c_25, c_33, c_41⟩ hv
        · refine g_ldc2 Z dX2_beam_44 kX2_beam_91 ?_
          exact g_lret Z dX2_beam_47 rfl ⟨Nat.zero_le _, Nat.zero_le _⟩ ⟨rfl, rfl⟩

theorem nX2_beam_X2 : ∀ w ∈ wsX20, w ∈ wsX2_beam := by decide +kernel
theorem fX2_beam_31 : Cond.fieldLink RX2 31 (TX2 4).1 (TX2 4).2.1 (TX2 4).2.2.1 ∈ wsX2_beam := by decide +kernel
theorem nX2_beam_X0 : ∀ w ∈ wsX00, w ∈ wsX2_beam := by decide +kernel
theorem fX2_beam_43 : Cond.fieldLink RX2 43 (TX0 3).1 (TX0 3).2.1 (TX0 3).2.2.1 ∈ wsX2_beam := by decide +kernel
theorem nX2_beam_X1 : ∀ w ∈ wsX10, w ∈ wsX2_beam := by decide +kernel
theorem fX2_beam_151 : Cond.fieldLink RX2 151 (TX1 3).1 (TX1 3).2.1 (TX1 3).2.2.1 ∈ wsX2_beam := by decide +kernel
theorem fX2_beam_170 : Cond.fieldLink RX2 170 (TX1 0).1 (TX1 0).2.1 (TX1 0).2.2.1 ∈ wsX2_beam := by decide +kernel
theorem kX2_beam_173 : Cond.constantLong RX2 173 (2) ∈ wsX2_beam := by decide +kernel
theorem fX2_beam_148 : Cond.fieldLink RX2 148 (TX1 1).1 (TX1 1).2.1 (TX1 1).2.2.1 ∈ wsX2_beam := by decide +kernel
theorem kX2_beam_168 : Cond.constantLong RX2 168 (4) ∈ wsX2_beam := by decide +kernel
theorem fX2_beam_101 : Cond.fieldLink RX2 101 (TX1 6).1 (TX1 6).2.1 (TX1 6).2.2.1 ∈ wsX2_beam := by decide +kernel
set_option maxHeartbeats 4000000 in
set_option maxRecDepth 100000 in
theorem qX2_beam (E : zE) (x rw ln t1 t2 : Nat) (nb dn : Nat) (RF : Nat → Option Nat) (D : Nat → Int32) (A B : TB) (o k f s : Nat) (K F G : Nat → Int32) (z : Nat) (j : Nat) (p : Nat) (way e wh : Int32) (hnb : nb ≤ 4) (hj : j < nb) (hr : RF j = some o) (hz : z ≤ 8) (hp : p < z) (hw : way = 0 ∨ way = 1) (he : e = 0 ∨ e = 1) (hh : wh = 0 ∨ wh = 1) : zF E yX2_beam wsX2_beam rX2_beam [.ref x, .int (nI j), .int way, .int (nI p), .int e, .int wh] [cO x 2 [.ref rw, .int (nI nb), .ref ln, .int (nI dn), .ref t1, .ref t2], cQ E rw 4 RF, cI E ln 12 D, cO t1 1 [.long (ta A), .long (tb A), .long (tc A), .long (td A), .long (te A), .long (tf A), .long (tg A)], cO t2 1 [.long (ta B), .long (tb B), .long (tc B), .long (td B), .long (te B), .long (tf B), .long (tg B)], cO o 0 [.ref k, .ref f, .ref s, .int (nI z)], cI E k 8 K, cI E f 8 F, cI E s 8 G] (fun ov wv => ov = some (.long (bemX (rotX K F G way z p) e wh)) ∧ ∃ A2 B2 : TB, wv = [cO x 2 [.ref rw, .int (nI nb), .ref ln, .int (nI dn), .ref t1, .ref t2], cQ E rw 4 RF, cI E ln 12 D, cO t1 1 [.long (ta A2), .long (tb A2), .long (tc A2), .long (td A2), .long (te A2), .long (tf A2), .long (tg A2)], cO t2 1 [.long (ta B2), .long (tb B2), .long (tc B2), .long (td B2), .long (te B2), .long (tf B2), .long (tg B2)], cO o 0 [.ref k, .ref f, .ref s, .int (nI z)], cI E k 8 K, cI E f 8 F, cI E s 8 G]) := by
  refine z_start RX2 "beam" (by decide) rfl rfl rfl (Nat.le_of_ble_eq_true rfl) ?_
  intro J Z
  refine g_eq Z (lv2 := [(0, .ref x), (1, .int (nI j)), (2, .int way), (3, .int (nI p)), (4, .int e), (5, .int wh)]) rfl rfl rfl ?_
  refine g_aload_n Z dX2_beam_0 0 rfl rfl ?_
  refine g_iload_n Z dX2_beam_1 1 rfl rfl ?_
  refine g_callVx (w' := [cO x 2 [.ref rw, .int (nI nb), .ref ln, .int (nI dn), .ref t1, .ref t2], cQ E rw 4 RF, cI E ln 12 D, cO t1 1 [.long (ta A), .long (tb A), .long (tc A), .long (td A), .long (te A), .long (tf A), .long (tg A)], cO t2 1 [.long (ta B), .long (tb B), .long (tc B), .long (td B), .long (te B), .long (tf B), .long (tg B)], cO o 0 [.ref k, .ref f, .ref s, .int (nI z)], cI E k 8 K, cI E f 8 F, cI E s 8 G]) Z (qX2_rowAt E x rw ln t1 t2 nb dn RF j o hj hnb hr) iX2_rowAt gX2_beam_X2_rowAt ⟨rfl, rfl⟩ ⟨Nat.le_of_ble_eq_true rfl, Nat.le_of_ble_eq_true rfl⟩ dX2_beam_2 rfl rfl (Nat.le_of_ble_eq_true rfl) ⟨Nat.zero_le _, Nat.zero_le _⟩ [0, 1] rfl rfl 0 rfl rfl rfl rfl rfl ?_
  refine g_astore (lv' := [(6, .ref o), (0, .ref x), (1, .int (nI j)), (2, .int way), (3, .int (nI p)), (4, .int e), (5, .int wh)]) Z dX2_beam_5 (by decide) rfl ?_
  refine g_aload Z dX2_beam_7 0 rfl ?_
  refine g_ifnull Z dX2_beam_9 ?_
  refine g_aload Z dX2_beam_12 0 rfl ?_
  refine g_iload_n Z dX2_beam_14 4 rfl rfl ?_
  refine g_callVx (w' := [cO x 2 [.ref rw, .int (nI nb), .ref ln, .int (nI dn), .ref t1, .ref t2], cQ E rw 4 RF, cI E ln 12 D, cO t1 1 [.long (ta A), .long (tb A), .long (tc A), .long (td A), .long (te A), .long (tf A), .long (tg A)], cO t2 1 [.long (ta B), .long (tb B), .long (tc B), .long (td B), .long (te B), .long (tf B), .long (tg B)], cO o 0 [.ref k, .ref f, .ref s, .int (nI z)], cI E k 8 K, cI E f 8 F, cI E s 8 G]) Z (qX0_hasN E o k f s z p (by omega) (by omega)) iX0_has gX2_beam_X0_has ⟨rfl, rfl⟩ ⟨Nat.le_of_ble_eq_true rfl, Nat.le_of_ble_eq_true rfl⟩ dX2_beam_15 rfl rfl (Nat.le_of_ble_eq_true rfl) ⟨Nat.zero_le _, Nat.zero_le _⟩ [5] rfl rfl 0 rfl rfl rfl rfl rfl ?_
  refine g_ifb_eq (tgt := 44) Z dX2_beam_18 (by decide) (fun c_18 => absurd c_18 (fun q => q hp)) (fun c_18 => ?_)
  refine g_iload_n Z dX2_beam_21 3 rfl rfl ?_
  refine g_callSx (w' := [cO x 2 [.ref rw, .int (nI nb), .ref ln, .int (nI dn), .ref t1, .ref t2], cQ E rw 4 RF, cI E ln 12 D, cO t1 1 [.long (ta A), .long (tb A), .long (tc A), .long (td A), .long (te A), .long (tf A), .long (tg A)], cO t2 1 [.long (ta B), .long (tb B), .long (tc B), .long (td B), .long (te B), .long (tf B), .long (tg B)], cO o 0 [.ref k, .ref f, .ref s, .int (nI z)], cI E k 8 K, cI E f 8 F, cI E s 8 G]) Z (qX2_isEither E way) iX2_isEither gX2_beam_X2_isEither ⟨rfl, rfl⟩ ⟨Nat.le_of_ble_eq_true rfl, Nat.le_of_ble_eq_true rfl⟩ dX2_beam_22 rfl rfl (Nat.le_of_ble_eq_true rfl) ⟨Nat.zero_le _, Nat.zero_le _⟩ [] rfl rfl rfl rfl ?_
  refine g_ifb_eq (tgt := 44) Z dX2_beam_25 (by decide) (fun c_25 => absurd c_25 (fun q => q hw)) (fun c_25 => ?_)
  refine g_iload Z dX2_beam_28 5 rfl ?_
  refine g_callSx (w' := [cO x 2 [.ref rw, .int (nI nb), .ref ln, .int (nI dn), .ref t1, .ref t2], cQ E rw 4 RF, cI E ln 12 D, cO t1 1 [.long (ta A), .long (tb A), .long (tc A), .long (td A), .long (te A), .long (tf A), .long (tg A)], cO t2 1 [.long (ta B), .long (tb B), .long (tc B), .long (td B), .long (te B), .long (tf B), .long (tg B)], cO o 0 [.ref k, .ref f, .ref s, .int (nI z)], cI E k 8 K, cI E f 8 F, cI E s 8 G]) Z (qX2_isEither E e) iX2_isEither gX2_beam_X2_isEither ⟨rfl, rfl⟩ ⟨Nat.le_of_ble_eq_true rfl, Nat.le_of_ble_eq_true rfl⟩ dX2_beam_30 rfl rfl (Nat.le_of_ble_eq_true rfl) ⟨Nat.zero_le _, Nat.zero_le _⟩ [] rfl rfl rfl rfl ?_
  refine g_ifb_eq (tgt := 44) Z dX2_beam_33 (by decide) (fun c_33 => absurd c_33 (fun q => q he)) (fun c_33 => ?_)
  refine g_iload Z dX2_beam_36 6 rfl ?_
  refine g_callSx (w' := [cO x 2 [.ref rw, .int (nI nb), .ref ln, .int (nI dn), .ref t1, .ref t2], cQ E rw 4 RF, cI E ln 12 D, cO t1 1 [.long (ta A), .long (tb A), .long (tc A), .long (td A), .long (te A), .long (tf A), .long (tg A)], cO t2 1 [.long (ta B), .long (tb B), .long (tc B), .long (td B), .long (te B), .long (tf B), .long (tg B)], cO o 0 [.ref k, .ref f, .ref s, .int (nI z)], cI E k 8 K, cI E f 8 F, cI E s 8 G]) Z (qX2_isEither E wh) iX2_isEither gX2_beam_X2_isEither ⟨rfl, rfl⟩ ⟨Nat.le_of_ble_eq_true rfl, Nat.le_of_ble_eq_true rfl⟩ dX2_beam_38 rfl rfl (Nat.le_of_ble_eq_true rfl) ⟨Nat.zero_le _, Nat.zero_le _⟩ [] rfl rfl rfl rfl ?_
  refine g_ifb_ne (tgt := 48) Z dX2_beam_41 (by decide) (fun c_41 => ?_) (fun c_41 => absurd c_41 (fun q => q hh))
  refine g_aload_n Z dX2_beam_48 1 rfl rfl ?_
  refine g_get Z dX2_beam_49 0 rfl rfl nX2_beam_X2 4 (by decide) fX2_beam_31 rfl ?_
  refine g_aload Z dX2_beam_52 0 rfl ?_
  refine g_iload_n Z dX2_beam_54 3 rfl rfl ?_
  refine g_iload_n Z dX2_beam_55 4 rfl rfl ?_
  refine g_aload Z dX2_beam_56 0 rfl ?_
  refine g_get Z dX2_beam_58 5 rfl rfl nX2_beam_X0 3 (by decide) fX2_beam_43 rfl ?_
  refine g_callVx (w' := [cO x 2 [.ref rw, .int (nI nb), .ref ln, .int (nI dn), .ref t1, .ref t2], cQ E rw 4 RF, cI E ln 12 D, cO t1 1 [.long (ta (rotX K F G way z p)), .long (tb (rotX K F G way z p)), .long (tc (rotX K F G way z p)), .long (td (rotX K F G way z p)), .long (te (rotX K F G way z p)), .long (tf (rotX K F G way z p)), .long (tg (rotX K F G way z p))], cO t2 1 [.long (ta B), .long (tb B), .long (tc B), .long (td B), .long (te B), .long (tf B), .long (tg B)], cO o 0 [.ref k, .ref f, .ref s, .int (nI z)], cI E k 8 K, cI E f 8 F, cI E s 8 G]) Z (qX1_leadR E t1 o k f s K F G A way z p (by omega) (by omega)) iX1_lead gX2_beam_X1_lead ⟨rfl, rfl⟩ ⟨Nat.le_of_ble_eq_true rfl, Nat.le_of_ble_eq_true rfl⟩ dX2_beam_61 rfl rfl (Nat.le_of_ble_eq_true rfl) ⟨Nat.zero_le _, Nat.zero_le _⟩ [3, 5, 6, 7, 8] rfl rfl 0 rfl rfl rfl rfl rfl ?_
  obtain ⟨C, e_C⟩ : ∃ Y : TB, rotX K F G way z p = Y := ⟨_, rfl⟩
  rw [e_C]
  refine g_aload_n Z dX2_beam_64 1 rfl rfl ?_
  refine g_get Z dX2_beam_65 0 rfl rfl nX2_beam_X2 4 (by decide) fX2_beam_31 rfl ?_
  refine g_callVx (w' := [cO x 2 [.ref rw, .int (nI nb), .ref ln, .int (nI dn), .ref t1, .ref t2], cQ E rw 4 RF, cI E ln 12 D, cO t1 1 [.long (ta C), .long (tb C), .long (tc C), .long (td C), .long (te C), .long (tf C), .long (tg C)], cO t2 1 [.long (ta B), .long (tb B), .long (tc B), .long (td B), .long (te B), .long (tf B), .long (tg B)], cO o 0 [.ref k, .ref f, .ref s, .int (nI z)], cI E k 8 K, cI E f 8 F, cI E s 8 G]) Z (qX1_isBetween E t1 C) iX1_isBetween gX2_beam_X1_isBetween ⟨rfl, rfl⟩ ⟨Nat.le_of_ble_eq_true rfl, Nat.le_of_ble_eq_true rfl⟩ dX2_beam_68 rfl rfl (Nat.le_of_ble_eq_true rfl) ⟨Nat.zero_le _, Nat.zero_le _⟩ [3] rfl rfl 0 rfl rfl rfl rfl rfl ?_
  refine g_ifb_ne (tgt := 78) Z dX2_beam_71 (by decide) (fun c_71 => ?_) (fun c_71 => ?_)
  · refine g_iload Z dX2_beam_78 5 rfl ?_
    refine g_if_ne (tgt := 142) Z dX2_beam_80 (by decide) (fun c_80 => ?_) (fun c_80 => ?_)
    · refine g_aload_n Z dX2_beam_142 1 rfl rfl ?_
      refine g_get Z dX2_beam_143 0 rfl rfl nX2_beam_X2 4 (by decide) fX2_beam_31 rfl ?_
      refine g_get Z dX2_beam_146 3 rfl rfl nX2_beam_X1 3 (by decide) fX2_beam_151 rfl ?_
      refine g_aload_n Z dX2_beam_149 1 rfl rfl ?_
      refine g_get Z dX2_beam_150 0 rfl rfl nX2_beam_X2 4 (by decide) fX2_beam_31 rfl ?_
      refine g_get Z dX2_beam_153 3 rfl rfl nX2_beam_X1 0 (by decide) fX2_beam_170 rfl ?_
      refine g_lsub Z dX2_beam_156 ?_
      refine g_ldc2 Z dX2_beam_157 kX2_beam_173 ?_
      refine g_aload_n Z dX2_beam_160 1 rfl rfl ?_
      refine g_get Z dX2_beam_161 0 rfl rfl nX2_beam_X2 4 (by decide) fX2_beam_31 rfl ?_
      refine g_get Z dX2_beam_164 3 rfl rfl nX2_beam_X1 1 (by decide) fX2_beam_148 rfl ?_
      refine g_lmul Z dX2_beam_167 ?_
      refine g_iload Z dX2_beam_168 6 rfl ?_
      refine g_callSx (w' := [cO x 2 [.ref rw, .int (nI nb), .ref ln, .int (nI dn), .ref t1, .ref t2], cQ E rw 4 RF, cI E ln 12 D, cO t1 1 [.long (ta C), .long (tb C), .long (tc C), .long (td C), .long (te C), .long (tf C), .long (tg C)], cO t2 1 [.long (ta B), .long (tb B), .long (tc B), .long (td B), .long (te B), .long (tf B), .long (tg B)], cO o 0 [.ref k, .ref f, .ref s, .int (nI z)], cI E k 8 K, cI E f 8 F, cI E s 8 G]) Z (qX2_told E ((td C) - (ta C)) (2 * (tb C)) wh) iX2_told gX2_beam_X2_told ⟨rfl, rfl⟩ ⟨Nat.le_of_ble_eq_true rfl, Nat.le_of_ble_eq_true rfl⟩ dX2_beam_170 rfl rfl (Nat.le_of_ble_eq_true rfl) ⟨Nat.zero_le _, Nat.zero_le _⟩ [] rfl rfl rfl rfl ?_
      exact g_lret Z dX2_beam_173 rfl ⟨Nat.zero_le _, Nat.zero_le _⟩ ⟨congrArg (fun v => some (Value.long v)) (by rw [e_C, bemX, if_pos c_71, if_neg c_80]), _, _, rfl⟩
    · refine g_aload_n Z dX2_beam_83 1 rfl rfl ?_
      refine g_get Z dX2_beam_84 0 rfl rfl nX2_beam_X2 4 (by decide) fX2_beam_31 rfl ?_
      refine g_callVx (w' := [cO x 2 [.ref rw, .int (nI nb), .ref ln, .int (nI dn), .ref t1, .ref t2], cQ E rw 4 RF, cI E ln 12 D, cO t1 1 [.long (ta C), .long (tb C), .long (tc C), .long (td C), .long (te C), .long (tf C), .long (tg C)], cO t2 1 [.long (ta B), .long (tb B), .long (tc B), .long (td B), .long (te B), .long (tf B), .long (tg B)], cO o 0 [.ref k, .ref f, .ref s, .int (nI z)], cI E k 8 K, cI E f 8 F, cI E s 8 G]) Z (qX1_sum E t1 C) iX1_sum gX2_beam_X1_sum ⟨rfl, rfl⟩ ⟨Nat.le_of_ble_eq_true rfl, Nat.le_of_ble_eq_true rfl⟩ dX2_beam_87 rfl rfl (Nat.le_of_ble_eq_true rfl) ⟨Nat.zero_le _, Nat.zero_le _⟩ [3] rfl rfl 0 rfl rfl rfl rfl rfl ?_
      refine g_lstore (lv' := [(7, .long (sumF C)), (6, .ref o), (0, .ref x), (1, .int (nI j)), (2, .int way), (3, .int (nI p)), (4, .int e), (5, .int wh)]) Z dX2_beam_90 (by decide) rfl ?_
      refine g_ldc2 Z dX2_beam_92 kX2_beam_168 ?_
      refine g_aload_n Z dX2_beam_95 2 rfl rfl ?_
      refine g_get Z dX2_beam_96 0 rfl rfl nX2_beam_X2 4 (by decide) fX2_beam_31 rfl ?_
      refine g_get Z dX2_beam_99 3 rfl rfl nX2_beam_X1 1 (by decide) fX2_beam_148 rfl ?_
      refine g_lmul Z dX2_beam_102 ?_
      refine g_aload_n Z dX2_beam_103 2 rfl rfl ?_
      refine g_get Z dX2_beam_104 0 rfl rfl nX2_beam_X2 4 (by decide) fX2_beam_31 rfl ?_
      refine g_get Z dX2_beam_107 3 rfl rfl nX2_beam_X1 1 (by decide) fX2_beam_148 rfl ?_
      refine g_lmul Z dX2_beam_110 ?_
      refine g_ldc2 Z dX2_beam_111 kX2_beam_168 ?_
      refine g_aload_n Z dX2_beam_114 2 rfl rfl ?_
      refine g_get Z dX2_beam_115 0 rfl rfl nX2_beam_X2 4 (by decide) fX2_beam_31 rfl ?_
      refine g_get Z dX2_beam_118 3 rfl rfl nX2_beam_X1 6 (by decide) fX2_beam_101 rfl ?_
      refine g_lmul Z dX2_beam_121 ?_
      refine g_aload_n Z dX2_beam_122 2 rfl rfl ?_
      refine g_get Z dX2_beam_123 0 rfl rfl nX2_beam_X2 4 (by decide) fX2_beam_31 rfl ?_
      refine g_get Z dX2_beam_126 3 rfl rfl nX2_beam_X1 6 (by decide) fX2_beam_101 rfl ?_
      refine g_lmul Z dX2_beam_129 ?_
      refine g_lload Z dX2_beam_130 0 rfl ?_
      refine g_lload Z dX2_beam_132 0 rfl ?_
      refine g_lmul Z dX2_beam_134 ?_
      refine g_lsub Z dX2_beam_135 ?_
      refine g_iload Z dX2_beam_136 7 rfl ?_
      refine g_callSx (w' := [cO x 2 [.ref rw, .int (nI nb), .ref ln, .int (nI dn), .ref t1, .ref t2], cQ E rw 4 RF, cI E ln 12 D, cO t1 1 [.long (ta C), .long (tb C), .long (tc C), .long (td C), .long (te C), .long (tf C), .long (tg C)], cO t2 1 [.long (ta B), .long (tb B), .long (tc B), .long (td B), .long (te B), .long (tf B), .long (tg B)], cO o 0 [.ref k, .ref f, .ref s, .int (nI z)], cI E k 8 K, cI E f 8 F, cI E s 8 G]) Z (qX2_told E ((4 * (tb C)) * (tb C)) (((4 * (tg C)) * (tg C)) - ((sumF C) * (sumF C))) wh) iX2_told gX2_beam_X2_told ⟨rfl, rfl⟩ ⟨Nat.le_of_ble_eq_true rfl, Nat.le_of_ble_eq_true rfl⟩ dX2_beam_138 rfl rfl (Nat.le_of_ble_eq_true rfl) ⟨Nat.zero_le _, Nat.zero_le _⟩ [] rfl rfl rfl rfl ?_
      exact g_lret Z dX2_beam_141 rfl ⟨Nat.zero_le _, Nat.zero_le _⟩ ⟨congrArg (fun v => some (Value.long v)) (by rw [e_C, bemX, if_pos c_71, if_pos c_80]), _, _, rfl⟩
  · refine g_ldc2 Z dX2_beam_74 kX2_beam_91 ?_
    exact g_lret Z dX2_beam_77 rfl ⟨Nat.zero_le _, Nat.zero_le _⟩ ⟨congrArg (fun v => some (Value.long v)) (by rw [e_C, bemX, if_neg c_71]), _, _, rfl⟩


set_option maxHeartbeats 4000000 in
set_option maxRecDepth 100000 in
theorem qX2_axisN (E : zE) (x rw ln t1 t2 : Nat) (nb dn : Nat) (RF : Nat → Option Nat) (D : Nat → Int32) (A B : TB) (o k f s : Nat) (K F G : Nat → Int32) (z : Nat) (j : Nat) (way i e wh : Int32) (hnb : nb ≤ 4) (hj : j < nb) (hr : RF j = some o) (hz : z ≤ 8) (hv : ¬ (inB z i ∧ (way = 0 ∨ way = 1) ∧ (e = 0 ∨ e = 1) ∧ (wh = 0 ∨ wh = 1))) : zF E yX2_axis wsX2_axis rX2_axis [.ref x, .int (nI j), .int way, .int i, .int e, .int wh] [cO x 2 [.ref rw, .int (nI nb), .ref ln, .int (nI dn), .ref t1, .ref t2], cQ E rw 4 RF, cI E ln 12 D, cO t1 1 [.long (ta A), .long (tb A), .long (tc A), .long (td A), .long (te A), .long (tf A), .long (tg A)], cO t2 1 [.long (ta B), .long (tb B), .long (tc B), .long (td B), .long (te B), .long (tf B), .long (tg B)], cO o 0 [.ref k, .ref f, .ref s, .int (nI z)], cI E k 8 K, cI E f 8 F, cI E s 8 G] (zx (some (.long (-9223372036854775808))) ([cO x 2 [.ref rw, .int (nI nb), .ref ln, .int (nI dn), .ref t1, .ref t2], cQ E rw 4 RF, cI E ln 12 D, cO t1 1 [.long (ta A), .long (tb A), .long (tc A), .long (td A), .long (te A), .long (tf A), .long (tg A)], cO t2 1 [.long (ta B), .long (tb B), .long (tc B), .long (td B), .long (te B), .long (tf B), .long (tg B)], cO o 0 [.ref k, .ref f, .ref s, .int (nI z)], cI E k 8 K, cI E f 8 F, cI E s 8 G])) := by
  refine z_start RX2 "axis" (by decide) rfl rfl rfl (Nat.le_of_ble_eq_true rfl) ?_
  intro J Z
  refine g_eq Z (lv2 := [(0, .ref x), (1, .int (nI j)), (2, .int way), (3, .int i), (4, .int e), (5, .int wh)]) rfl rfl rfl ?_
  refine g_aload_n Z dX2_axis_0 0 rfl rfl ?_
  refine g_iload_n Z dX2_axis_1 1 rfl rfl ?_
  refine g_callVx (w' := [cO x 2 [.ref rw, .int (nI nb), .ref ln, .int (nI dn), .ref t1, .ref t2], cQ E rw 4 RF, cI E ln 12 D, cO t1 1 [.long (ta A), .long (tb A), .long (tc A), .long (td A), .long (te A), .long (tf A), .long (tg A)], cO t2 1 [.long (ta B), .long (tb B), .long (tc B), .long (td B), .long (te B), .long (tf B), .long (tg B)], cO o 0 [.ref k, .ref f, .ref s, .int (nI z)], cI E k 8 K, cI E f 8 F, cI E s 8 G]) Z (qX2_rowAt E x rw ln t1 t2 nb dn RF j o hj hnb hr) iX2_rowAt gX2_axis_X2_rowAt ⟨rfl, rfl⟩ ⟨Nat.le_of_ble_eq_true rfl, Nat.le_of_ble_eq_true rfl⟩ dX2_axis_2 rfl rfl (Nat.le_of_ble_eq_true rfl) ⟨Nat.zero_le _, Nat.zero_le _⟩ [0, 1] rfl rfl 0 rfl rfl rfl rfl rfl ?_
  refine g_astore (lv' := [(6, .ref o), (0, .ref x), (1, .int (nI j)), (2, .int way), (3, .int i), (4, .int e), (5, .int wh)]) Z dX2_axis_5 (by decide) rfl ?_
  refine g_aload Z dX2_axis_7 0 rfl ?_
  refine g_ifnull Z dX2_axis_9 ?_
  refine g_aload Z dX2_axis_12 0 rfl ?_
  refine g_iload_n Z dX2_axis_14 4 rfl rfl ?_
  refine g_callVx (w' := [cO x 2 [.ref rw, .int (nI nb), .ref ln, .int (nI dn), .ref t1, .ref t2], cQ E rw 4 RF, cI E ln 12 D, cO t1 1 [.long (ta A), .long (tb A), .long (tc A), .long (td A), .long (te A), .long (tf A), .long (tg A)], cO t2 1 [.long (ta B), .long (tb B), .long (tc B), .long (td B), .long (te B), .long (tf B), .long (tg B)], cO o 0 [.ref k, .ref f, .ref s, .int (nI z)], cI E k 8 K, cI E f 8 F, cI E s 8 G]) Z (qX0_has E o k f s (nI z) i) iX0_has gX2_axis_X0_has ⟨rfl, rfl⟩ ⟨Nat.le_of_ble_eq_true rfl, Nat.le_of_ble_eq_true rfl⟩ dX2_axis_15 rfl rfl (Nat.le_of_ble_eq_true rfl) ⟨Nat.zero_le _, Nat.zero_le _⟩ [5] rfl rfl 0 rfl rfl rfl rfl rfl ?_
  refine g_ifb_eq (tgt := 44) Z dX2_axis_18 (by decide) (fun c_18 => ?_) (fun c_18 => ?_)
  · refine g_ldc2 Z dX2_axis_44 kX2_axis_91 ?_
    exact g_lret Z dX2_axis_47 rfl ⟨Nat.zero_le _, Nat.zero_le _⟩ ⟨rfl, rfl⟩
  · refine g_iload_n Z dX2_axis_21 3 rfl rfl ?_
    refine g_callSx (w' := [cO x 2 [.ref rw, .int (nI nb), .ref ln, .int (nI dn), .ref t1, .ref t2], cQ E rw 4 RF, cI E ln 12 D, cO t1 1 [.long (ta A), .long (tb A), .long (tc A), .long (td A), .long (te A), .long (tf A), .long (tg A)], cO t2 1 [.long (ta B), .long (tb B), .long (tc B), .long (td B), .long (te B), .long (tf B), .long (tg B)], cO o 0 [.ref k, .ref f, .ref s, .int (nI z)], cI E k 8 K, cI E f 8 F, cI E s 8 G]) Z (qX2_isEither E way) iX2_isEither gX2_axis_X2_isEither ⟨rfl, rfl⟩ ⟨Nat.le_of_ble_eq_true rfl, Nat.le_of_ble_eq_true rfl⟩ dX2_axis_22 rfl rfl (Nat.le_of_ble_eq_true rfl) ⟨Nat.zero_le _, Nat.zero_le _⟩ [] rfl rfl rfl rfl ?_
    refine g_ifb_eq (tgt := 44) Z dX2_axis_25 (by decide) (fun c_25 => ?_) (fun c_25 => ?_)
    · refine g_ldc2 Z dX2_axis_44 kX2_axis_91 ?_
      exact g_lret Z dX2_axis_47 rfl ⟨Nat.zero_le _, Nat.zero_le _⟩ ⟨rfl, rfl⟩
    · refine g_iload Z dX2_axis_28 5 rfl ?_
      refine g_callSx (w' := [cO x 2 [.ref rw, .int (nI nb), .ref ln, .int (nI dn), .ref t1, .ref t2], cQ E rw 4 RF, cI E ln 12 D, cO t1 1 [.long (ta A), .long (tb A), .long (tc A), .long (td A), .long (te A), .long (tf A), .long (tg A)], cO t2 1 [.long (ta B), .long (tb B), .long (tc B), .long (td B), .long (te B), .long (tf B), .long (tg B)], cO o 0 [.ref k, .ref f, .ref s, .int (nI z)], cI E k 8 K, cI E f 8 F, cI E s 8 G]) Z (qX2_isEither E e) iX2_isEither gX2_axis_X2_isEither ⟨rfl, rfl⟩ ⟨Nat.le_of_ble_eq_true rfl, Nat.le_of_ble_eq_true rfl⟩ dX2_axis_30 rfl rfl (Nat.le_of_ble_eq_true rfl) ⟨Nat.zero_le _, Nat.zero_le _⟩ [] rfl rfl rfl rfl ?_
      refine g_ifb_eq (tgt := 44) Z dX2_axis_33 (by decide) (fun c_33 => ?_) (fun c_33 => ?_)
      · refine g_ldc2 Z dX2_axis_44 kX2_axis_91 ?_
        exact g_lret Z dX2_axis_47 rfl ⟨Nat.zero_le _, Nat.zero_le _⟩ ⟨rfl, rfl⟩
      · refine g_iload Z dX2_axis_36 6 rfl ?_
        refine g_callSx (w' := [cO x 2 [.ref rw, .int (nI nb), .ref ln, .int (nI dn), .ref t1, .ref t2], cQ E rw 4 RF, cI E ln 12 D, cO t1 1 [.long (ta A), .long (tb A), .long (tc A), .long (td A), .long (te A), .long (tf A), .long (tg A)], cO t2 1 [.long (ta B), .long (tb B), .long (tc B), .long (td B), .long (te B), .long (tf B), .long (tg B)], cO o 0 [.ref k, .ref f, .ref s, .int (nI z)], cI E k 8 K, cI E f 8 F, cI E s 8 G]) Z (qX2_isEither E wh) iX2_isEither gX2_axis_X2_isEither ⟨rfl, rfl⟩ ⟨Nat.le_of_ble_eq_true rfl, Nat.le_of_ble_eq_true rfl⟩ dX2_axis_38 rfl rfl (Nat.le_of_ble_eq_true rfl) ⟨Nat.zero_le _, Nat.zero_le _⟩ [] rfl rfl rfl rfl ?_
        refine g_ifb_ne (tgt := 48) Z dX2_axis_41 (by decide) (fun c_41 => ?_) (fun c_41 => ?_)
        · exact absurd ⟨(inB_X (by omega)).mp c_18, c_25, c_33, c_41⟩ hv
        · refine g_ldc2 Z dX2_axis_44 kX2_axis_91 ?_
          exact g_lret Z dX2_axis_47 rfl ⟨Nat.zero_le _, Nat.zero_le _⟩ ⟨rfl, rfl⟩

theorem nX2_axis_X2 : ∀ w ∈ wsX20, w ∈ wsX2_axis := by decide +kernel
theorem fX2_axis_31 : Cond.fieldLink RX2 31 (TX2 4).1 (TX2 4).2.1 (TX2 4).2.2.1 ∈ wsX2_axis := by decide +kernel
theorem nX2_axis_X0 : ∀ w ∈ wsX00, w ∈ wsX2_axis := by decide +kernel
theorem fX2_axis_43 : Cond.fieldLink RX2 43 (TX0 3).1 (TX0 3).2.1 (TX0 3).2.2.1 ∈ wsX2_axis := by decide +kernel
theorem nX2_axis_X1 : ∀ w ∈ wsX10, w ∈ wsX2_axis := by decide +kernel
theorem fX2_axis_101 : Cond.fieldLink RX2 101 (TX1 6).1 (TX1 6).2.1 (TX1 6).2.2.1 ∈ wsX2_axis := by decide +kernel
theorem kX2_axis_173 : Cond.constantLong RX2 173 (2) ∈ wsX2_axis := by decide +kernel
theorem fX2_axis_181 : Cond.fieldLink RX2 181 (TX1 2).1 (TX1 2).2.1 (TX1 2).2.2.1 ∈ wsX2_axis := by decide +kernel
theorem fX2_axis_175 : Cond.fieldLink RX2 175 (TX1 4).1 (TX1 4).2.1 (TX1 4).2.2.1 ∈ wsX2_axis := by decide +kernel
theorem fX2_axis_170 : Cond.fieldLink RX2 170 (TX1 0).1 (TX1 0).2.1 (TX1 0).2.2.1 ∈ wsX2_axis := by decide +kernel
theorem fX2_axis_178 : Cond.fieldLink RX2 178 (TX1 5).1 (TX1 5).2.1 (TX1 5).2.2.1 ∈ wsX2_axis := by decide +kernel
theorem fX2_axis_151 : Cond.fieldLink RX2 151 (TX1 3).1 (TX1 3).2.1 (TX1 3).2.2.1 ∈ wsX2_axis := by decide +kernel
theorem fX2_axis_148 : Cond.fieldLink RX2 148 (TX1 1).1 (TX1 1).2.1 (TX1 1).2.2.1 ∈ wsX2_axis := by decide +kernel
set_option maxHeartbeats 4000000 in
set_option maxRecDepth 100000 in
theorem qX2_axis (E : zE) (x rw ln t1 t2 : Nat) (nb dn : Nat) (RF : Nat → Option Nat) (D : Nat → Int32) (A B : TB) (o k f s : Nat) (K F G : Nat → Int32) (z : Nat) (j : Nat) (p : Nat) (way e wh : Int32) (hnb : nb ≤ 4) (hj : j < nb) (hr : RF j = some o) (hz : z ≤ 8) (hp : p < z) (hw : way = 0 ∨ way = 1) (he : e = 0 ∨ e = 1) (hh : wh = 0 ∨ wh = 1) : zF E yX2_axis wsX2_axis rX2_axis [.ref x, .int (nI j), .int way, .int (nI p), .int e, .int wh] [cO x 2 [.ref rw, .int (nI nb), .ref ln, .int (nI dn), .ref t1, .ref t2], cQ E rw 4 RF, cI E ln 12 D, cO t1 1 [.long (ta A), .long (tb A), .long (tc A), .long (td A), .long (te A), .long (tf A), .long (tg A)], cO t2 1 [.long (ta B), .long (tb B), .long (tc B), .long (td B), .long (te B), .long (tf B), .long (tg B)], cO o 0 [.ref k, .ref f, .ref s, .int (nI z)], cI E k 8 K, cI E f 8 F, cI E s 8 G] (fun ov wv => ov = some (.long (axiX (rotX K F G way z p) e wh)) ∧ ∃ A2 B2 : TB, wv = [cO x 2 [.ref rw, .int (nI nb), .ref ln, .int (nI dn), .ref t1, .ref t2], cQ E rw 4 RF, cI E ln 12 D, cO t1 1 [.long (ta A2), .long (tb A2), .long (tc A2), .long (td A2), .long (te A2), .long (tf A2), .long (tg A2)], cO t2 1 [.long (ta B2), .long (tb B2), .long (tc B2), .long (td B2), .long (te B2), .long (tf B2), .long (tg B2)], cO o 0 [.ref k, .ref f, .ref s, .int (nI z)], cI E k 8 K, cI E f 8 F, cI E s 8 G]) := by
  refine z_start RX2 "axis" (by decide) rfl rfl rfl (Nat.le_of_ble_eq_true rfl) ?_
  intro J Z
  refine g_eq Z (lv2 := [(0, .ref x), (1, .int (nI j)), (2, .int way), (3, .int (nI p)), (4, .int e), (5, .int wh)]) rfl rfl rfl ?_
  refine g_aload_n Z dX2_axis_0 0 rfl rfl ?_
  refine g_iload_n Z dX2_axis_1 1 rfl rfl ?_
  refine g_callVx (w' := [cO x 2 [.ref rw, .int (nI nb), .ref ln, .int (nI dn), .ref t1, .ref t2], cQ E rw 4 RF, cI E ln 12 D, cO t1 1 [.long (ta A), .long (tb A), .long (tc A), .long (td A), .long (te A), .long (tf A), .long (tg A)], cO t2 1 [.long (ta B), .long (tb B), .long (tc B), .long (td B), .long (te B), .long (tf B), .long (tg B)], cO o 0 [.ref k, .ref f, .ref s, .int (nI z)], cI E k 8 K, cI E f 8 F, cI E s 8 G]) Z (qX2_rowAt E x rw ln t1 t2 nb dn RF j o hj hnb hr) iX2_rowAt gX2_axis_X2_rowAt ⟨rfl, rfl⟩ ⟨Nat.le_of_ble_eq_true rfl, Nat.le_of_ble_eq_true rfl⟩ dX2_axis_2 rfl rfl (Nat.le_of_ble_eq_true rfl) ⟨Nat.zero_le _, Nat.zero_le _⟩ [0, 1] rfl rfl 0 rfl rfl rfl rfl rfl ?_
  refine g_astore (lv' := [(6, .ref o), (0, .ref x), (1, .int (nI j)), (2, .int way), (3, .int (nI p)), (4, .int e), (5, .int wh)]) Z dX2_axis_5 (by decide) rfl ?_
  refine g_aload Z dX2_axis_7 0 rfl ?_
  refine g_ifnull Z dX2_axis_9 ?_
  refine g_aload Z dX2_axis_12 0 rfl ?_
  refine g_iload_n Z dX2_axis_14 4 rfl rfl ?_
  refine g_callVx (w' := [cO x 2 [.ref rw, .int (nI nb), .ref ln, .int (nI dn), .ref t1, .ref t2], cQ E rw 4 RF, cI E ln 12 D, cO t1 1 [.long (ta A), .long (tb A), .long (tc A), .long (td A), .long (te A), .long (tf A), .long (tg A)], cO t2 1 [.long (ta B), .long (tb B), .long (tc B), .long (td B), .long (te B), .long (tf B), .long (tg B)], cO o 0 [.ref k, .ref f, .ref s, .int (nI z)], cI E k 8 K, cI E f 8 F, cI E s 8 G]) Z (qX0_hasN E o k f s z p (by omega) (by omega)) iX0_has gX2_axis_X0_has ⟨rfl, rfl⟩ ⟨Nat.le_of_ble_eq_true rfl, Nat.le_of_ble_eq_true rfl⟩ dX2_axis_15 rfl rfl (Nat.le_of_ble_eq_true rfl) ⟨Nat.zero_le _, Nat.zero_le _⟩ [5] rfl rfl 0 rfl rfl rfl rfl rfl ?_
  refine g_ifb_eq (tgt := 44) Z dX2_axis_18 (by decide) (fun c_18 => absurd c_18 (fun q => q hp)) (fun c_18 => ?_)
  refine g_iload_n Z dX2_axis_21 3 rfl rfl ?_
  refine g_callSx (w' := [cO x 2 [.ref rw, .int (nI nb), .ref ln, .int (nI dn), .ref t1, .ref t2], cQ E rw 4 RF, cI E ln 12 D, cO t1 1 [.long (ta A), .long (tb A), .long (tc A), .long (td A), .long (te A), .long (tf A), .long (tg A)], cO t2 1 [.long (ta B), .long (tb B), .long (tc B), .long (td B), .long (te B), .long (tf B), .long (tg B)], cO o 0 [.ref k, .ref f, .ref s, .int (nI z)], cI E k 8 K, cI E f 8 F, cI E s 8 G]) Z (qX2_isEither E way) iX2_isEither gX2_axis_X2_isEither ⟨rfl, rfl⟩ ⟨Nat.le_of_ble_eq_true rfl, Nat.le_of_ble_eq_true rfl⟩ dX2_axis_22 rfl rfl (Nat.le_of_ble_eq_true rfl) ⟨Nat.zero_le _, Nat.zero_le _⟩ [] rfl rfl rfl rfl ?_
  refine g_ifb_eq (tgt := 44) Z dX2_axis_25 (by decide) (fun c_25 => absurd c_25 (fun q => q hw)) (fun c_25 => ?_)
  refine g_iload Z dX2_axis_28 5 rfl ?_
  refine g_callSx (w' := [cO x 2 [.ref rw, .int (nI nb), .ref ln, .int (nI dn), .ref t1, .ref t2], cQ E rw 4 RF, cI E ln 12 D, cO t1 1 [.long (ta A), .long (tb A), .long (tc A), .long (td A), .long (te A), .long (tf A), .long (tg A)], cO t2 1 [.long (ta B), .long (tb B), .long (tc B), .long (td B), .long (te B), .long (tf B), .long (tg B)], cO o 0 [.ref k, .ref f, .ref s, .int (nI z)], cI E k 8 K, cI E f 8 F, cI E s 8 G]) Z (qX2_isEither E e) iX2_isEither gX2_axis_X2_isEither ⟨rfl, rfl⟩ ⟨Nat.le_of_ble_eq_true rfl, Nat.le_of_ble_eq_true rfl⟩ dX2_axis_30 rfl rfl (Nat.le_of_ble_eq_true rfl) ⟨Nat.zero_le _, Nat.zero_le _⟩ [] rfl rfl rfl rfl ?_
  refine g_ifb_eq (tgt := 44) Z dX2_axis_33 (by decide) (fun c_33 => absurd c_33 (fun q => q he)) (fun c_33 => ?_)
  refine g_iload Z dX2_axis_36 6 rfl ?_
  refine g_callSx (w' := [cO x 2 [.ref rw, .int (nI nb), .ref ln, .int (nI dn), .ref t1, .ref t2], cQ E rw 4 RF, cI E ln 12 D, cO t1 1 [.long (ta A), .long (tb A), .long (tc A), .long (td A), .long (te A), .long (tf A), .long (tg A)], cO t2 1 [.long (ta B), .long (tb B), .long (tc B), .long (td B), .long (te B), .long (tf B), .long (tg B)], cO o 0 [.ref k, .ref f, .ref s, .int (nI z)], cI E k 8 K, cI E f 8 F, cI E s 8 G]) Z (qX2_isEither E wh) iX2_isEither gX2_axis_X2_isEither ⟨rfl, rfl⟩ ⟨Nat.le_of_ble_eq_true rfl, Nat.le_of_ble_eq_true rfl⟩ dX2_axis_38 rfl rfl (Nat.le_of_ble_eq_true rfl) ⟨Nat.zero_le _, Nat.zero_le _⟩ [] rfl rfl rfl rfl ?_
  refine g_ifb_ne (tgt := 48) Z dX2_axis_41 (by decide) (fun c_41 => ?_) (fun c_41 => absurd c_41 (fun q => q hh))
  refine g_aload_n Z dX2_axis_48 1 rfl rfl ?_
  refine g_get Z dX2_axis_49 0 rfl rfl nX2_axis_X2 4 (by decide) fX2_axis_31 rfl ?_
  refine g_aload Z dX2_axis_52 0 rfl ?_
  refine g_iload_n Z dX2_axis_54 3 rfl rfl ?_
  refine g_iload_n Z dX2_axis_55 4 rfl rfl ?_
  refine g_aload Z dX2_axis_56 0 rfl ?_
  refine g_get Z dX2_axis_58 5 rfl rfl nX2_axis_X0 3 (by decide) fX2_axis_43 rfl ?_
  refine g_callVx (w' := [cO x 2 [.ref rw, .int (nI nb), .ref ln, .int (nI dn), .ref t1, .ref t2], cQ E rw 4 RF, cI E ln 12 D, cO t1 1 [.long (ta (rotX K F G way z p)), .long (tb (rotX K F G way z p)), .long (tc (rotX K F G way z p)), .long (td (rotX K F G way z p)), .long (te (rotX K F G way z p)), .long (tf (rotX K F G way z p)), .long (tg (rotX K F G way z p))], cO t2 1 [.long (ta B), .long (tb B), .long (tc B), .long (td B), .long (te B), .long (tf B), .long (tg B)], cO o 0 [.ref k, .ref f, .ref s, .int (nI z)], cI E k 8 K, cI E f 8 F, cI E s 8 G]) Z (qX1_leadR E t1 o k f s K F G A way z p (by omega) (by omega)) iX1_lead gX2_axis_X1_lead ⟨rfl, rfl⟩ ⟨Nat.le_of_ble_eq_true rfl, Nat.le_of_ble_eq_true rfl⟩ dX2_axis_61 rfl rfl (Nat.le_of_ble_eq_true rfl) ⟨Nat.zero_le _, Nat.zero_le _⟩ [3, 5, 6, 7, 8] rfl rfl 0 rfl rfl rfl rfl rfl ?_
  obtain ⟨C, e_C⟩ : ∃ Y : TB, rotX K F G way z p = Y := ⟨_, rfl⟩
  rw [e_C]
  refine g_aload_n Z dX2_axis_64 1 rfl rfl ?_
  refine g_get Z dX2_axis_65 0 rfl rfl nX2_axis_X2 4 (by decide) fX2_axis_31 rfl ?_
  refine g_get Z dX2_axis_68 3 rfl rfl nX2_axis_X1 6 (by decide) fX2_axis_101 rfl ?_
  refine g_ldc2 Z dX2_axis_71 kX2_axis_173 ?_
  refine g_aload_n Z dX2_axis_74 1 rfl rfl ?_
  refine g_get Z dX2_axis_75 0 rfl rfl nX2_axis_X2 4 (by decide) fX2_axis_31 rfl ?_
  refine g_get Z dX2_axis_78 3 rfl rfl nX2_axis_X1 6 (by decide) fX2_axis_101 rfl ?_
  refine g_lmul Z dX2_axis_81 ?_
  refine g_aload_n Z dX2_axis_82 1 rfl rfl ?_
  refine g_get Z dX2_axis_83 0 rfl rfl nX2_axis_X2 4 (by decide) fX2_axis_31 rfl ?_
  refine g_callVx (w' := [cO x 2 [.ref rw, .int (nI nb), .ref ln, .int (nI dn), .ref t1, .ref t2], cQ E rw 4 RF, cI E ln 12 D, cO t1 1 [.long (ta C), .long (tb C), .long (tc C), .long (td C), .long (te C), .long (tf C), .long (tg C)], cO t2 1 [.long (ta B), .long (tb B), .long (tc B), .long (td B), .long (te B), .long (tf B), .long (tg B)], cO o 0 [.ref k, .ref f, .ref s, .int (nI z)], cI E k 8 K, cI E f 8 F, cI E s 8 G]) Z (qX1_sum E t1 C) iX1_sum gX2_axis_X1_sum ⟨rfl, rfl⟩ ⟨Nat.le_of_ble_eq_true rfl, Nat.le_of_ble_eq_true rfl⟩ dX2_axis_86 rfl rfl (Nat.le_of_ble_eq_true rfl) ⟨Nat.zero_le _, Nat.zero_le _⟩ [3] rfl rfl 0 rfl rfl rfl rfl rfl ?_
  refine g_lsub Z dX2_axis_89 ?_
  refine g_lmul Z dX2_axis_90 ?_
  refine g_lstore (lv' := [(7, .long ((tg C) * ((2 * (tg C)) - (sumF C)))), (6, .ref o), (0, .ref x), (1, .int (nI j)), (2, .int way), (3, .int (nI p)), (4, .int e), (5, .int wh)]) Z dX2_axis_91 (by decide) rfl ?_
  refine g_iload Z dX2_axis_93 6 rfl ?_
  refine g_if_ne (tgt := 140) Z dX2_axis_95 (by decide) (fun c_95 => ?_) (fun c_95 => ?_)
  · refine g_aload_n Z dX2_axis_140 2 rfl rfl ?_
    refine g_get Z dX2_axis_141 0 rfl rfl nX2_axis_X2 4 (by decide) fX2_axis_31 rfl ?_
    refine g_get Z dX2_axis_144 3 rfl rfl nX2_axis_X1 2 (by decide) fX2_axis_181 rfl ?_
    refine g_aload_n Z dX2_axis_147 2 rfl rfl ?_
    refine g_get Z dX2_axis_148 0 rfl rfl nX2_axis_X2 4 (by decide) fX2_axis_31 rfl ?_
    refine g_get Z dX2_axis_151 3 rfl rfl nX2_axis_X1 4 (by decide) fX2_axis_175 rfl ?_
    refine g_lmul Z dX2_axis_154 ?_
    refine g_aload_n Z dX2_axis_155 2 rfl rfl ?_
    refine g_get Z dX2_axis_156 0 rfl rfl nX2_axis_X2 4 (by decide) fX2_axis_31 rfl ?_
    refine g_get Z dX2_axis_159 3 rfl rfl nX2_axis_X1 6 (by decide) fX2_axis_101 rfl ?_
    refine g_aload_n Z dX2_axis_162 2 rfl rfl ?_
    refine g_get Z dX2_axis_163 0 rfl rfl nX2_axis_X2 4 (by decide) fX2_axis_31 rfl ?_
    refine g_get Z dX2_axis_166 3 rfl rfl nX2_axis_X1 0 (by decide) fX2_axis_170 rfl ?_
    refine g_lsub Z dX2_axis_169 ?_
    refine g_aload_n Z dX2_axis_170 2 rfl rfl ?_
    refine g_get Z dX2_axis_171 0 rfl rfl nX2_axis_X2 4 (by decide) fX2_axis_31 rfl ?_
    refine g_get Z dX2_axis_174 3 rfl rfl nX2_axis_X1 5 (by decide) fX2_axis_178 rfl ?_
    refine g_lmul Z dX2_axis_177 ?_
    refine g_ladd Z dX2_axis_178 ?_
    refine g_lstore (lv' := [(9, .long (((tc C) * (te C)) + (((tg C) - (ta C)) * (tf C)))), (7, .long ((tg C) * ((2 * (tg C)) - (sumF C)))), (6, .ref o), (0, .ref x), (1, .int (nI j)), (2, .int way), (3, .int (nI p)), (4, .int e), (5, .int wh)]) Z dX2_axis_179 (by decide) rfl ?_
    refine g_lload Z dX2_axis_181 0 rfl ?_
    refine g_lload Z dX2_axis_183 1 rfl ?_
    refine g_iload Z dX2_axis_185 8 rfl ?_
    refine g_callSx (w' := [cO x 2 [.ref rw, .int (nI nb), .ref ln, .int (nI dn), .ref t1, .ref t2], cQ E rw 4 RF, cI E ln 12 D, cO t1 1 [.long (ta C), .long (tb C), .long (tc C), .long (td C), .long (te C), .long (tf C), .long (tg C)], cO t2 1 [.long (ta B), .long (tb B), .long (tc B), .long (td B), .long (te B), .long (tf B), .long (tg B)], cO o 0 [.ref k, .ref f, .ref s, .int (nI z)], cI E k 8 K, cI E f 8 F, cI E s 8 G]) Z (qX2_told E (((tc C) * (te C)) + (((tg C) - (ta C)) * (tf C))) ((tg C) * ((2 * (tg C)) - (sumF C))) wh) iX2_told gX2_axis_X2_told ⟨rfl, rfl⟩ ⟨Nat.le_of_ble_eq_true rfl, Nat.le_of_ble_eq_true rfl⟩ dX2_axis_187 rfl rfl (Nat.le_of_ble_eq_true rfl) ⟨Nat.zero_le _, Nat.zero_le _⟩ [] rfl rfl rfl rfl ?_
    exact g_lret Z dX2_axis_190 rfl ⟨Nat.zero_le _, Nat.zero_le _⟩ ⟨congrArg (fun v => some (Value.long v)) (by rw [e_C, axiX, if_neg c_95]), _, _, rfl⟩
  · refine g_aload_n Z dX2_axis_98 2 rfl rfl ?_
    refine g_get Z dX2_axis_99 0 rfl rfl nX2_axis_X2 4 (by decide) fX2_axis_31 rfl ?_
    refine g_get Z dX2_axis_102 3 rfl rfl nX2_axis_X1 6 (by decide) fX2_axis_101 rfl ?_
    refine g_aload_n Z dX2_axis_105 2 rfl rfl ?_
    refine g_get Z dX2_axis_106 0 rfl rfl nX2_axis_X2 4 (by decide) fX2_axis_31 rfl ?_
    refine g_get Z dX2_axis_109 3 rfl rfl nX2_axis_X1 3 (by decide) fX2_axis_151 rfl ?_
    refine g_lsub Z dX2_axis_112 ?_
    refine g_aload_n Z dX2_axis_113 2 rfl rfl ?_
    refine g_get Z dX2_axis_114 0 rfl rfl nX2_axis_X2 4 (by decide) fX2_axis_31 rfl ?_
    refine g_get Z dX2_axis_117 3 rfl rfl nX2_axis_X1 4 (by decide) fX2_axis_175 rfl ?_
    refine g_lmul Z dX2_axis_120 ?_
    refine g_aload_n Z dX2_axis_121 2 rfl rfl ?_
    refine g_get Z dX2_axis_122 0 rfl rfl nX2_axis_X2 4 (by decide) fX2_axis_31 rfl ?_
    refine g_get Z dX2_axis_125 3 rfl rfl nX2_axis_X1 1 (by decide) fX2_axis_148 rfl ?_
    refine g_aload_n Z dX2_axis_128 2 rfl rfl ?_
    refine g_get Z dX2_axis_129 0 rfl rfl nX2_axis_X2 4 (by decide) fX2_axis_31 rfl ?_
    refine g_get Z dX2_axis_132 3 rfl rfl nX2_axis_X1 5 (by decide) fX2_axis_178 rfl ?_
    refine g_lmul Z dX2_axis_135 ?_
    refine g_ladd Z dX2_axis_136 ?_
    refine g_goto (tgt := 179) Z dX2_axis_137 (by decide) ?_
    refine g_lstore (lv' := [(9, .long ((((tg C) - (td C)) * (te C)) + ((tb C) * (tf C)))), (7, .long ((tg C) * ((2 * (tg C)) - (sumF C)))), (6, .ref o), (0, .ref x), (1, .int (nI j)), (2, .int way), (3, .int (nI p)), (4, .int e), (5, .int wh)]) Z dX2_axis_179 (by decide) rfl ?_
    refine g_lload Z dX2_axis_181 0 rfl ?_
    refine g_lload Z dX2_axis_183 1 rfl ?_
    refine g_iload Z dX2_axis_185 8 rfl ?_
    refine g_callSx (w' := [cO x 2 [.ref rw, .int (nI nb), .ref ln, .int (nI dn), .ref t1, .ref t2], cQ E rw 4 RF, cI E ln 12 D, cO t1 1 [.long (ta C), .long (tb C), .long (tc C), .long (td C), .long (te C), .long (tf C), .long (tg C)], cO t2 1 [.long (ta B), .long (tb B), .long (tc B), .long (td B), .long (te B), .long (tf B), .long (tg B)], cO o 0 [.ref k, .ref f, .ref s, .int (nI z)], cI E k 8 K, cI E f 8 F, cI E s 8 G]) Z (qX2_told E ((((tg C) - (td C)) * (te C)) + ((tb C) * (tf C))) ((tg C) * ((2 * (tg C)) - (sumF C))) wh) iX2_told gX2_axis_X2_told ⟨rfl, rfl⟩ ⟨Nat.le_of_ble_eq_true rfl, Nat.le_of_ble_eq_true rfl⟩ dX2_axis_187 rfl rfl (Nat.le_of_ble_eq_true rfl) ⟨Nat.zero_le _, Nat.zero_le _⟩ [] rfl rfl rfl rfl ?_
    exact g_lret Z dX2_axis_190 rfl ⟨Nat.zero_le _, Nat.zero_le _⟩ ⟨congrArg (fun v => some (Value.long v)) (by rw [e_C, axiX, if_pos c_95]), _, _, rfl⟩


set_option maxHeartbeats 4000000 in
set_option maxRecDepth 100000 in
theorem qX2_waistN (E : zE) (x rw ln t1 t2 : Nat) (nb dn : Nat) (RF : Nat → Option Nat) (D : Nat → Int32) (A B : TB) (o k f s : Nat) (K F G : Nat → Int32) (z : Nat) (j : Nat) (way : Int32) (hnb : nb ≤ 4) (hj : j < nb) (hr : RF j = some o) (hz : z ≤ 8) (hv : ¬ (way = 0 ∨ way = 1)) : zF E yX2_waist wsX2_waist rX2_waist [.ref x, .int (nI j), .int way] [cO x 2 [.ref rw, .int (nI nb), .ref ln, .int (nI dn), .ref t1, .ref t2], cQ E rw 4 RF, cI E ln 12 D, cO t1 1 [.long (ta A), .long (tb A), .long (tc A), .long (td A), .long (te A), .long (tf A), .long (tg A)], cO t2 1 [.long (ta B), .long (tb B), .long (tc B), .long (td B), .long (te B), .long (tf B), .long (tg B)], cO o 0 [.ref k, .ref f, .ref s, .int (nI z)], cI E k 8 K, cI E f 8 F, cI E s 8 G] (zx (some (.int (-1))) ([cO x 2 [.ref rw, .int (nI nb), .ref ln, .int (nI dn), .ref t1, .ref t2], cQ E rw 4 RF, cI E ln 12 D, cO t1 1 [.long (ta A), .long (tb A), .long (tc A), .long (td A), .long (te A), .long (tf A), .long (tg A)], cO t2 1 [.long (ta B), .long (tb B), .long (tc B), .long (td B), .long (te B), .long (tf B), .long (tg B)], cO o 0 [.ref k, .ref f, .ref s, .int (nI z)], cI E k 8 K, cI E f 8 F, cI E s 8 G])) := by
  refine z_start RX2 "waist" (by decide) rfl rfl rfl (Nat.le_of_ble_eq_true rfl) ?_
  intro J Z
  refine g_eq Z (lv2 := [(0, .ref x), (1, .int (nI j)), (2, .int way)]) rfl rfl rfl ?_
  refine g_aload_n Z dX2_waist_0 0 rfl rfl ?_
  refine g_iload_n Z dX2_waist_1 1 rfl rfl ?_
  refine g_callVx (w' := [cO x 2 [.ref rw, .int (nI nb), .ref ln, .int (nI dn), .ref t1, .ref t2], cQ E rw 4 RF, cI E ln 12 D, cO t1 1 [.long (ta A), .long (tb A), .long (tc A), .long (td A), .long (te A), .long (tf A), .long (tg A)], cO t2 1 [.long (ta B), .long (tb B), .long (tc B), .long (td B), .long (te B), .long (tf B), .long (tg B)], cO o 0 [.ref k, .ref f, .ref s, .int (nI z)], cI E k 8 K, cI E f 8 F, cI E s 8 G]) Z (qX2_rowAt E x rw ln t1 t2 nb dn RF j o hj hnb hr) iX2_rowAt gX2_waist_X2_rowAt ⟨rfl, rfl⟩ ⟨Nat.le_of_ble_eq_true rfl, Nat.le_of_ble_eq_true rfl⟩ dX2_waist_2 rfl rfl (Nat.le_of_ble_eq_true rfl) ⟨Nat.zero_le _, Nat.zero_le _⟩ [0, 1] rfl rfl 0 rfl rfl rfl rfl rfl ?_
  refine g_astore_n (lv' := [(3, .ref o), (0, .ref x), (1, .int (nI j)), (2, .int way)]) Z dX2_waist_5 rfl (by decide) rfl ?_
  refine g_aload_n Z dX2_waist_6 0 rfl rfl ?_
  refine g_ifnull Z dX2_waist_7 ?_
  refine g_iload_n Z dX2_waist_10 3 rfl rfl ?_
  refine g_callSx (w' := [cO x 2 [.ref rw, .int (nI nb), .ref ln, .int (nI dn), .ref t1, .ref t2], cQ E rw 4 RF, cI E ln 12 D, cO t1 1 [.long (ta A), .long (tb A), .long (tc A), .long (td A), .long (te A), .long (tf A), .long (tg A)], cO t2 1 [.long (ta B), .long (tb B), .long (tc B), .long (td B), .long (te B), .long (tf B), .long (tg B)], cO o 0 [.ref k, .ref f, .ref s, .int (nI z)], cI E k 8 K, cI E f 8 F, cI E s 8 G]) Z (qX2_isEither E way) iX2_isEither gX2_waist_X2_isEither ⟨rfl, rfl⟩ ⟨Nat.le_of_ble_eq_true rfl, Nat.le_of_ble_eq_true rfl⟩ dX2_waist_11 rfl rfl (Nat.le_of_ble_eq_true rfl) ⟨Nat.zero_le _, Nat.zero_le _⟩ [] rfl rfl rfl rfl ?_
  refine g_ifb_ne (tgt := 19) Z dX2_waist_14 (by decide) (fun c_14 => absurd c_14 hv) (fun c_14 => ?_)
  refine g_iconst Z dX2_waist_17 zi_m1 ?_
  exact g_iret Z dX2_waist_18 rfl ⟨Nat.zero_le _, Nat.zero_le _⟩ ⟨rfl, rfl⟩

theorem nX2_waist_X2 : ∀ w ∈ wsX20, w ∈ wsX2_waist := by decide +kernel
theorem fX2_waist_31 : Cond.fieldLink RX2 31 (TX2 4).1 (TX2 4).2.1 (TX2 4).2.2.1 ∈ wsX2_waist := by decide +kernel
set_option maxHeartbeats 4000000 in
set_option maxRecDepth 100000 in
theorem qX2_waistZ (E : zE) (x rw ln t1 t2 : Nat) (nb dn : Nat) (RF : Nat → Option Nat) (D : Nat → Int32) (A B : TB) (o k f s : Nat) (K F G : Nat → Int32) (z : Nat) (j : Nat) (way : Int32) (hnb : nb ≤ 4) (hj : j < nb) (hr : RF j = some o) (hz : z ≤ 8) (hw : way = 0 ∨ way = 1) (h0 : z = 0) : zF E yX2_waist wsX2_waist rX2_waist [.ref x, .int (nI j), .int way] [cO x 2 [.ref rw, .int (nI nb), .ref ln, .int (nI dn), .ref t1, .ref t2], cQ E rw 4 RF, cI E ln 12 D, cO t1 1 [.long (ta A), .long (tb A), .long (tc A), .long (td A), .long (te A), .long (tf A), .long (tg A)], cO t2 1 [.long (ta B), .long (tb B), .long (tc B), .long (td B), .long (te B), .long (tf B), .long (tg B)], cO o 0 [.ref k, .ref f, .ref s, .int (nI z)], cI E k 8 K, cI E f 8 F, cI E s 8 G] (fun ov wv => ov = some (.int (-1)) ∧ ∃ A2 B2 : TB, wv = [cO x 2 [.ref rw, .int (nI nb), .ref ln, .int (nI dn), .ref t1, .ref t2], cQ E rw 4 RF, cI E ln 12 D, cO t1 1 [.long (ta A2), .long (tb A2), .long (tc A2), .long (td A2), .long (te A2), .long (tf A2), .long (tg A2)], cO t2 1 [.long (ta B2), .long (tb B2), .long (tc B2), .long (td B2), .long (te B2), .long (tf B2), .long (tg B2)], cO o 0 [.ref k, .ref f, .ref s, .int (nI z)], cI E k 8 K, cI E f 8 F, cI E s 8 G]) := by
  refine z_start RX2 "waist" (by decide) rfl rfl rfl (Nat.le_of_ble_eq_true rfl) ?_
  intro J Z
  refine g_eq Z (lv2 := [(0, .ref x), (1, .int (nI j)), (2, .int way)]) rfl rfl rfl ?_
  refine g_aload_n Z dX2_waist_0 0 rfl rfl ?_
  refine g_iload_n Z dX2_waist_1 1 rfl rfl ?_
  refine g_callVx (w' := [cO x 2 [.ref rw, .int (nI nb), .ref ln, .int (nI dn), .ref t1, .ref t2], cQ E rw 4 RF, cI E ln 12 D, cO t1 1 [.long (ta A), .long (tb A), .long (tc A), .long (td A), .long (te A), .long (tf A), .long (tg A)], cO t2 1 [.long (ta B), .long (tb B), .long (tc B), .long (td B), .long (te B), .long (tf B), .long (tg B)], cO o 0 [.ref k, .ref f, .ref s, .int (nI z)], cI E k 8 K, cI E f 8 F, cI E s 8 G]) Z (qX2_rowAt E x rw ln t1 t2 nb dn RF j o hj hnb hr) iX2_rowAt gX2_waist_X2_rowAt ⟨rfl, rfl⟩ ⟨Nat.le_of_ble_eq_true rfl, Nat.le_of_ble_eq_true rfl⟩ dX2_waist_2 rfl rfl (Nat.le_of_ble_eq_true rfl) ⟨Nat.zero_le _, Nat.zero_le _⟩ [0, 1] rfl rfl 0 rfl rfl rfl rfl rfl ?_
  refine g_astore_n (lv' := [(3, .ref o), (0, .ref x), (1, .int (nI j)), (2, .int way)]) Z dX2_waist_5 rfl (by decide) rfl ?_
  refine g_aload_n Z dX2_waist_6 0 rfl rfl ?_
  refine g_ifnull Z dX2_waist_7 ?_
  refine g_iload_n Z dX2_waist_10 3 rfl rfl ?_
  refine g_callSx (w' := [cO x 2 [.ref rw, .int (nI nb), .ref ln, .int (nI dn), .ref t1, .ref t2], cQ E rw 4 RF, cI E ln 12 D, cO t1 1 [.long (ta A), .long (tb A), .long (tc A), .long (td A), .long (te A), .long (tf A), .long (tg A)], cO t2 1 [.long (ta B), .long (tb B), .long (tc B), .long (td B), .long (te B), .long (tf B), .long (tg B)], cO o 0 [.ref k, .ref f, .ref s, .int (nI z)], cI E k 8 K, cI E f 8 F, cI E s 8 G]) Z (qX2_isEither E way) iX2_isEither gX2_waist_X2_isEither ⟨rfl, rfl⟩ ⟨Nat.le_of_ble_eq_true rfl, Nat.le_of_ble_eq_true rfl⟩ dX2_waist_11 rfl rfl (Nat.le_of_ble_eq_true rfl) ⟨Nat.zero_le _, Nat.zero_le _⟩ [] rfl rfl rfl rfl ?_
  refine g_ifb_ne (tgt := 19) Z dX2_waist_14 (by decide) (fun c_14 => ?_) (fun c_14 => absurd c_14 (fun q => q hw))
  refine g_aload_n Z dX2_waist_19 1 rfl rfl ?_
  refine g_get Z dX2_waist_20 0 rfl rfl nX2_waist_X2 4 (by decide) fX2_waist_31 rfl ?_
  refine g_aload_n Z dX2_waist_23 0 rfl rfl ?_
  refine g_iload_n Z dX2_waist_24 3 rfl rfl ?_
  refine g_callVx (w' := [cO x 2 [.ref rw, .int (nI nb), .ref ln, .int (nI dn), .ref t1, .ref t2], cQ E rw 4 RF, cI E ln 12 D, cO t1 1 [.long (ta (tabX K F G way z)), .long (tb (tabX K F G way z)), .long (tc (tabX K F G way z)), .long (td (tabX K F G way z)), .long (te (tabX K F G way z)), .long (tf (tabX K F G way z)), .long (tg (tabX K F G way z))], cO t2 1 [.long (ta B), .long (tb B), .long (tc B), .long (td B), .long (te B), .long (tf B), .long (tg B)], cO o 0 [.ref k, .ref f, .ref s, .int (nI z)], cI E k 8 K, cI E f 8 F, cI E s 8 G]) Z (qX1_leadThroughT E t1 o k f s K F G A way z (by omega)) iX1_leadThrough gX2_waist_X1_leadThrough ⟨rfl, rfl⟩ ⟨Nat.le_of_ble_eq_true rfl, Nat.le_of_ble_eq_true rfl⟩ dX2_waist_25 rfl rfl (Nat.le_of_ble_eq_true rfl) ⟨Nat.zero_le _, Nat.zero_le _⟩ [3, 5, 6, 7, 8] rfl rfl 0 rfl rfl rfl rfl rfl ?_
  obtain ⟨C, e_C⟩ : ∃ Y : TB, tabX K F G way z = Y := ⟨_, rfl⟩
  rw [e_C]
  refine g_aload_n Z dX2_waist_28 1 rfl rfl ?_
  refine g_get Z dX2_waist_29 0 rfl rfl nX2_waist_X2 4 (by decide) fX2_waist_31 rfl ?_
  refine g_callVx (w' := [cO x 2 [.ref rw, .int (nI nb), .ref ln, .int (nI dn), .ref t1, .ref t2], cQ E rw 4 RF, cI E ln 12 D, cO t1 1 [.long (ta C), .long (tb C), .long (tc C), .long (td C), .long (te C), .long (tf C), .long (tg C)], cO t2 1 [.long (ta B), .long (tb B), .long (tc B), .long (td B), .long (te B), .long (tf B), .long (tg B)], cO o 0 [.ref k, .ref f, .ref s, .int (nI z)], cI E k 8 K, cI E f 8 F, cI E s 8 G]) Z (qX1_isBetween E t1 C) iX1_isBetween gX2_waist_X1_isBetween ⟨rfl, rfl⟩ ⟨Nat.le_of_ble_eq_true rfl, Nat.le_of_ble_eq_true rfl⟩ dX2_waist_32 rfl rfl (Nat.le_of_ble_eq_true rfl) ⟨Nat.zero_le _, Nat.zero_le _⟩ [3] rfl rfl 0 rfl rfl rfl rfl rfl ?_
  refine g_ifb_ne (tgt := 40) Z dX2_waist_35 (by decide) (fun c_35 => absurd c_35 (by rw [← e_C, h0]; show ¬ btw T1; decide)) (fun c_35 => ?_)
  refine g_iconst Z dX2_waist_38 zi_m1 ?_
  exact g_iret Z dX2_waist_39 rfl ⟨Nat.zero_le _, Nat.zero_le _⟩ ⟨rfl, _, _, rfl⟩

theorem nX2_waist_X0 : ∀ w ∈ wsX00, w ∈ wsX2_waist := by decide +kernel
theorem fX2_waist_43 : Cond.fieldLink RX2 43 (TX0 3).1 (TX0 3).2.1 (TX0 3).2.2.1 ∈ wsX2_waist := by decide +kernel
theorem nX2_waist_X1 : ∀ w ∈ wsX10, w ∈ wsX2_waist := by decide +kernel
theorem fX2_waist_148 : Cond.fieldLink RX2 148 (TX1 1).1 (TX1 1).2.1 (TX1 1).2.2.1 ∈ wsX2_waist := by decide +kernel
theorem mX2_waist_134_l : Cond.methodLink RX2 134 Lib.MathLoose.abs_long.x ∈ wsX2_waist := by decide +kernel
theorem mX2_waist_134_s : Cond.static Lib.MathLoose.abs_long.x ∈ wsX2_waist := by decide +kernel
theorem mX2_waist_134_i : Cond.initialized "java/lang/Math" ∈ wsX2_waist := by decide +kernel
theorem mX2_waist_134_c : Cond.code Lib.MathLoose.abs_long.x Lib.MathLoose.abs_long.code 2 (some .long) ∈ wsX2_waist := by decide +kernel
set_option maxHeartbeats 4000000 in
set_option maxRecDepth 100000 in
theorem lX2_waist (E : zE) (x rw ln t1 t2 : Nat) (nb dn : Nat) (RF : Nat → Option Nat) (D : Nat → Int32) (A B : TB) (o k f s : Nat) (K F G : Nat → Int32) (z : Nat) (j : Nat) (y : Nat) (way : Int32) (hnb : nb ≤ 4) (hj : j < nb) (hr : RF j = some o) (hz : z ≤ 8) (hw : way = 0 ∨ way = 1) (hy : z = y + 1) {J : zJ} (Z : zOk E J RX2 cX2_waist 10 (some .int) wsX2_waist rX2_waist "waist" (fun _ => True) (fun ov wv => ov = some (.int (waiXR K F G way z y)) ∧ ∃ A2 B2 : TB, wv = [cO x 2 [.ref rw, .int (nI nb), .ref ln, .int (nI dn), .ref t1, .ref t2], cQ E rw 4 RF, cI E ln 12 D, cO t1 1 [.long (ta A2), .long (tb A2), .long (tc A2), .long (td A2), .long (te A2), .long (tf A2), .long (tg A2)], cO t2 1 [.long (ta B2), .long (tb B2), .long (tc B2), .long (td B2), .long (te B2), .long (tf B2), .long (tg B2)], cO o 0 [.ref k, .ref f, .ref s, .int (nI z)], cI E k 8 K, cI E f 8 F, cI E s 8 G]))  : ∀ (d : Nat) (q : Nat) (ls : Int64) (bs : Int32) (C : TB), q + d = z → waiX K F G way z bs ls q d = waiXR K F G way z y → J 0 0 [cO x 2 [.ref rw, .int (nI nb), .ref ln, .int (nI dn), .ref t1, .ref t2], cQ E rw 4 RF, cI E ln 12 D, cO t1 1 [.long (ta C), .long (tb C), .long (tc C), .long (td C), .long (te C), .long (tf C), .long (tg C)], cO t2 1 [.long (ta B), .long (tb B), .long (tc B), .long (td B), .long (te B), .long (tf B), .long (tg B)], cO o 0 [.ref k, .ref f, .ref s, .int (nI z)], cI E k 8 K, cI E f 8 F, cI E s 8 G] 58 [(7, .int (nI q)), (5, .long ls), (4, .int bs), (3, .ref o), (0, .ref x), (1, .int (nI j)), (2, .int way)] [] := by
  intro d
  induction d with
  | zero =>
    intro q ls bs C h1 h2
    refine g_iload Z dX2_waist_58 0 rfl ?_
    refine g_aload_n Z dX2_waist_60 3 rfl rfl ?_
    refine g_get Z dX2_waist_61 5 rfl rfl nX2_waist_X0 3 (by decide) fX2_waist_43 rfl ?_
    refine g_icmpN_ge (tgt := 116) Z dX2_waist_64 (by decide) q z rfl rfl (by omega) (by omega) (fun c_64 => ?_) (fun c_64 => absurd c_64 (by omega))
    refine g_iload Z dX2_waist_116 2 rfl ?_
    exact g_iret Z dX2_waist_118 rfl ⟨Nat.zero_le _, Nat.zero_le _⟩ ⟨by rw [← h2]; rfl, _, _, rfl⟩
  | succ d ih =>
    intro q ls bs C h1 h2
    refine g_iload Z dX2_waist_58 0 rfl ?_
    refine g_aload_n Z dX2_waist_60 3 rfl rfl ?_
    refine g_get Z dX2_waist_61 5 rfl rfl nX2_waist_X0 3 (by decide) fX2_waist_43 rfl ?_
    refine g_icmpN_ge (tgt := 116) Z dX2_waist_64 (by decide) q z rfl rfl (by omega) (by omega) (fun c_64 => absurd c_64 (by omega)) (fun c_64 => ?_)
    refine g_aload_n Z dX2_waist_67 4 rfl rfl ?_
    refine g_get Z dX2_waist_68 0 rfl rfl nX2_waist_X2 4 (by decide) fX2_waist_31 rfl ?_
    refine g_aload_n Z dX2_waist_71 3 rfl rfl ?_
    refine g_iload_n Z dX2_waist_72 6 rfl rfl ?_
    refine g_iload Z dX2_waist_73 0 rfl ?_
    refine g_aload_n Z dX2_waist_75 3 rfl rfl ?_
    refine g_get Z dX2_waist_76 5 rfl rfl nX2_waist_X0 3 (by decide) fX2_waist_43 rfl ?_
    refine g_callVx (w' := [cO x 2 [.ref rw, .int (nI nb), .ref ln, .int (nI dn), .ref t1, .ref t2], cQ E rw 4 RF, cI E ln 12 D, cO t1 1 [.long (ta (rotX K F G way z q)), .long (tb (rotX K F G way z q)), .long (tc (rotX K F G way z q)), .long (td (rotX K F G way z q)), .long (te (rotX K F G way z q)), .long (tf (rotX K F G way z q)), .long (tg (rotX K F G way z q))], cO t2 1 [.long (ta B), .long (tb B), .long (tc B), .long (td B), .long (te B), .long (tf B), .long (tg B)], cO o 0 [.ref k, .ref f, .ref s, .int (nI z)], cI E k 8 K, cI E f 8 F, cI E s 8 G]) Z (qX1_leadR E t1 o k f s K F G C way z q (by omega) (by omega)) iX1_lead gX2_waist_X1_lead ⟨rfl, rfl⟩ ⟨Nat.le_of_ble_eq_true rfl, Nat.le_of_ble_eq_true rfl⟩ dX2_waist_79 rfl rfl (Nat.le_of_ble_eq_true rfl) ⟨Nat.zero_le _, Nat.zero_le _⟩ [3, 5, 6, 7, 8] rfl rfl 0 rfl rfl rfl rfl rfl ?_
    obtain ⟨C2, e_C2⟩ : ∃ Y : TB, rotX K F G way z q = Y := ⟨_, rfl⟩
    rw [e_C2]
    refine g_aload_n Z dX2_waist_82 4 rfl rfl ?_
    refine g_get Z dX2_waist_83 0 rfl rfl nX2_waist_X2 4 (by decide) fX2_waist_31 rfl ?_
    refine g_get Z dX2_waist_86 3 rfl rfl nX2_waist_X1 1 (by decide) fX2_waist_148 rfl ?_
    refine g_mabsL Z dX2_waist_89 mX2_waist_134_l mX2_waist_134_s mX2_waist_134_i mX2_waist_134_c (Nat.le_of_ble_eq_true rfl) (Nat.le_of_ble_eq_true rfl) ⟨Nat.zero_le _, Nat.zero_le _⟩ ?_
    refine g_lstore (lv' := [(8, .long (absL (tb C2))), (7, .int (nI q)), (5, .long ls), (4, .int bs), (3, .ref o), (0, .ref x), (1, .int (nI j)), (2, .int way)]) Z dX2_waist_92 (by decide) rfl ?_
    refine g_lload Z dX2_waist_94 0 rfl ?_
    refine g_lload Z dX2_waist_96 2 rfl ?_
    refine g_lcmp_ge (tgt := 110) Z dX2_waist_98 dX2_waist_99 rfl (by decide) (fun c_99 => ?_) (fun c_99 => ?_)
    · refine g_iinc (lv' := [(7, .int (nI (q + 1))), (8, .long (absL (tb C2))), (5, .long ls), (4, .int bs), (3, .ref o), (0, .ref x), (1, .int (nI j)), (2, .int way)]) Z dX2_waist_110 1 rfl (zinc _) (by decide) rfl ?_
      refine g_goto (tgt := 58) Z dX2_waist_113 (by decide) ?_
      rw [waiX, e_C2, if_pos c_99] at h2
      refine g_lv (lv2 := [(7, .int (nI (q + 1))), (5, .long ls), (4, .int bs), (3, .ref o), (0, .ref x), (1, .int (nI j)), (2, .int way)]) Z [0, 2, 3, 4, 5, 6, 7] rfl ?_
      exact ih (q + 1) _ _ _ (by omega) h2
    · refine g_iload Z dX2_waist_102 1 rfl ?_
      refine g_istore (lv' := [(4, .int (nI q)), (8, .long (absL (tb C2))), (7, .int (nI q)), (5, .long ls), (3, .ref o), (0, .ref x), (1, .int (nI j)), (2, .int way)]) Z dX2_waist_104 (by decide) rfl ?_
      refine g_lload Z dX2_waist_106 1 rfl ?_
      refine g_lstore (lv' := [(5, .long (absL (tb C2))), (4, .int (nI q)), (8, .long (absL (tb C2))), (7, .int (nI q)), (3, .ref o), (0, .ref x), (1, .int (nI j)), (2, .int way)]) Z dX2_waist_108 (by decide) rfl ?_
      refine g_iinc (lv' := [(7, .int (nI (q + 1))), (5, .long (absL (tb C2))), (4, .int (nI q)), (8, .long (absL (tb C2))), (3, .ref o), (0, .ref x), (1, .int (nI j)), (2, .int way)]) Z dX2_waist_110 3 rfl (zinc _) (by decide) rfl ?_
      refine g_goto (tgt := 58) Z dX2_waist_113 (by decide) ?_
      rw [waiX, e_C2, if_neg c_99] at h2
      refine g_lv (lv2 := [(7, .int (nI (q + 1))), (5, .long (absL (tb C2))), (4, .int (nI q)), (3, .ref o), (0, .ref x), (1, .int (nI j)), (2, .int way)]) Z [0, 1, 2, 4, 5, 6, 7] rfl ?_
      exact ih (q + 1) _ _ _ (by omega) h2
set_option maxHeartbeats 4000000 in
set_option maxRecDepth 100000 in
theorem qX2_waist (E : zE) (x rw ln t1 t2 : Nat) (nb dn : Nat) (RF : Nat → Option Nat) (D : Nat → Int32) (A B : TB) (o k f s : Nat) (K F G : Nat → Int32) (z : Nat) (j : Nat) (y : Nat) (way : Int32) (hnb : nb ≤ 4) (hj : j < nb) (hr : RF j = some o) (hz : z ≤ 8) (hw : way = 0 ∨ way = 1) (hy : z = y + 1) : zF E yX2_waist wsX2_waist rX2_waist [.ref x, .int (nI j), .int way] [cO x 2 [.ref rw, .int (nI nb), .ref ln, .int (nI dn), .ref t1, .ref t2], cQ E rw 4 RF, cI E ln 12 D, cO t1 1 [.long (ta A), .long (tb A), .long (tc A), .long (td A), .long (te A), .long (tf A), .long (tg A)], cO t2 1 [.long (ta B), .long (tb B), .long (tc B), .long (td B), .long (te B), .long (tf B), .long (tg B)], cO o 0 [.ref k, .ref f, .ref s, .int (nI z)], cI E k 8 K, cI E f 8 F, cI E s 8 G] (fun ov wv => ov = some (.int (waiXR K F G way z y)) ∧ ∃ A2 B2 : TB, wv = [cO x 2 [.ref rw, .int (nI nb), .ref ln, .int (nI dn), .ref t1, .ref t2], cQ E rw 4 RF, cI E ln 12 D, cO t1 1 [.long (ta A2), .long (tb A2), .long (tc A2), .long (td A2), .long (te A2), .long (tf A2), .long (tg A2)], cO t2 1 [.long (ta B2), .long (tb B2), .long (tc B2), .long (td B2), .long (te B2), .long (tf B2), .long (tg B2)], cO o 0 [.ref k, .ref f, .ref s, .int (nI z)], cI E k 8 K, cI E f 8 F, cI E s 8 G]) := by
  refine z_start RX2 "waist" (by decide) rfl rfl rfl (Nat.le_of_ble_eq_true rfl) ?_
  intro J Z
  refine g_eq Z (lv2 := [(0, .ref x), (1, .int (nI j)), (2, .int way)]) rfl rfl rfl ?_
  refine g_aload_n Z dX2_waist_0 0 rfl rfl ?_
  refine g_iload_n Z dX2_waist_1 1 rfl rfl ?_
  refine g_callVx (w' := [cO x 2 [.ref rw, .int (nI nb), .ref ln, .int (nI dn), .ref t1, .ref t2], cQ E rw 4 RF, cI E ln 12 D, cO t1 1 [.long (ta A), .long (tb A), .long (tc A), .long (td A), .long (te A), .long (tf A), .long (tg A)], cO t2 1 [.long (ta B), .long (tb B), .long (tc B), .long (td B), .long (te B), .long (tf B), .long (tg B)], cO o 0 [.ref k, .ref f, .ref s, .int (nI z)], cI E k 8 K, cI E f 8 F, cI E s 8 G]) Z (qX2_rowAt E x rw ln t1 t2 nb dn RF j o hj hnb hr) iX2_rowAt gX2_waist_X2_rowAt ⟨rfl, rfl⟩ ⟨Nat.le_of_ble_eq_true rfl, Nat.le_of_ble_eq_true rfl⟩ dX2_waist_2 rfl rfl (Nat.le_of_ble_eq_true rfl) ⟨Nat.zero_le _, Nat.zero_le _⟩ [0, 1] rfl rfl 0 rfl rfl rfl rfl rfl ?_
  refine g_astore_n (lv' := [(3, .ref o), (0, .ref x), (1, .int (nI j)), (2, .int way)]) Z dX2_waist_5 rfl (by decide) rfl ?_
  refine g_aload_n Z dX2_waist_6 0 rfl rfl ?_
  refine g_ifnull Z dX2_waist_7 ?_
  refine g_iload_n Z dX2_waist_10 3 rfl rfl ?_
  refine g_callSx (w' := [cO x 2 [.ref rw, .int (nI nb), .ref ln, .int (nI dn), .ref t1, .ref t2], cQ E rw 4 RF, cI E ln 12 D, cO t1 1 [.long (ta A), .long (tb A), .long (tc A), .long (td A), .long (te A), .long (tf A), .long (tg A)], cO t2 1 [.long (ta B), .long (tb B), .long (tc B), .long (td B), .long (te B), .long (tf B), .long (tg B)], cO o 0 [.ref k, .ref f, .ref s, .int (nI z)], cI E k 8 K, cI E f 8 F, cI E s 8 G]) Z (qX2_isEither E way) iX2_isEither gX2_waist_X2_isEither ⟨rfl, rfl⟩ ⟨Nat.le_of_ble_eq_true rfl, Nat.le_of_ble_eq_true rfl⟩ dX2_waist_11 rfl rfl (Nat.le_of_ble_eq_true rfl) ⟨Nat.zero_le _, Nat.zero_le _⟩ [] rfl rfl rfl rfl ?_
  refine g_ifb_ne (tgt := 19) Z dX2_waist_14 (by decide) (fun c_14 => ?_) (fun c_14 => absurd c_14 (fun q => q hw))
  refine g_aload_n Z dX2_waist_19 1 rfl rfl ?_
  refine g_get Z dX2_waist_20 0 rfl rfl nX2_waist_X2 4 (by decide) fX2_waist_31 rfl ?_
  refine g_aload_n Z dX2_waist_23 0 rfl rfl ?_
  refine g_iload_n Z dX2_waist_24 3 rfl rfl ?_
  refine g_callVx (w' := [cO x 2 [.ref rw, .int (nI nb), .ref ln, .int (nI dn), .ref t1, .ref t2], cQ E rw 4 RF, cI E ln 12 D, cO t1 1 [.long (ta (tabX K F G way z)), .long (tb (tabX K F G way z)), .long (tc (tabX K F G way z)), .long (td (tabX K F G way z)), .long (te (tabX K F G way z)), .long (tf (tabX K F G way z)), .long (tg (tabX K F G way z))], cO t2 1 [.long (ta B), .long (tb B), .long (tc B), .long (td B), .long (te B), .long (tf B), .long (tg B)], cO o 0 [.ref k, .ref f, .ref s, .int (nI z)], cI E k 8 K, cI E f 8 F, cI E s 8 G]) Z (qX1_leadThroughT E t1 o k f s K F G A way z (by omega)) iX1_leadThrough gX2_waist_X1_leadThrough ⟨rfl, rfl⟩ ⟨Nat.le_of_ble_eq_true rfl, Nat.le_of_ble_eq_true rfl⟩ dX2_waist_25 rfl rfl (Nat.le_of_ble_eq_true rfl) ⟨Nat.zero_le _, Nat.zero_le _⟩ [3, 5, 6, 7, 8] rfl rfl 0 rfl rfl rfl rfl rfl ?_
  obtain ⟨C, e_C⟩ : ∃ Y : TB, tabX K F G way z = Y := ⟨_, rfl⟩
  rw [e_C]
  refine g_aload_n Z dX2_waist_28 1 rfl rfl ?_
  refine g_get Z dX2_waist_29 0 rfl rfl nX2_waist_X2 4 (by decide) fX2_waist_31 rfl ?_
  refine g_callVx (w' := [cO x 2 [.ref rw, .int (nI nb), .ref ln, .int (nI dn), .ref t1, .ref t2], cQ E rw 4 RF, cI E ln 12 D, cO t1 1 [.long (ta C), .long (tb C), .long (tc C), .long (td C), .long (te C), .long (tf C), .long (tg C)], cO t2 1 [.long (ta B), .long (tb B), .long (tc B), .long (td B), .long (te B), .long (tf B), .long (tg B)], cO o 0 [.ref k, .ref f, .ref s, .int (nI z)], cI E k 8 K, cI E f 8 F, cI E s 8 G]) Z (qX1_isBetween E t1 C) iX1_isBetween gX2_waist_X1_isBetween ⟨rfl, rfl⟩ ⟨Nat.le_of_ble_eq_true rfl, Nat.le_of_ble_eq_true rfl⟩ dX2_waist_32 rfl rfl (Nat.le_of_ble_eq_true rfl) ⟨Nat.zero_le _, Nat.zero_le _⟩ [3] rfl rfl 0 rfl rfl rfl rfl rfl ?_
  refine g_ifb_ne (tgt := 40) Z dX2_waist_35 (by decide) (fun c_35 => ?_) (fun c_35 => ?_)
  · refine g_iconst Z dX2_waist_40 zi_0 ?_
    refine g_istore (lv' := [(4, .int 0), (3, .ref o), (0, .ref x), (1, .int (nI j)), (2, .int way)]) Z dX2_waist_41 (by decide) rfl ?_
    refine g_aload_n Z dX2_waist_43 2 rfl rfl ?_
    refine g_get Z dX2_waist_44 0 rfl rfl nX2_waist_X2 4 (by decide) fX2_waist_31 rfl ?_
    refine g_get Z dX2_waist_47 3 rfl rfl nX2_waist_X1 1 (by decide) fX2_waist_148 rfl ?_
    refine g_mabsL Z dX2_waist_50 mX2_waist_134_l mX2_waist_134_s mX2_waist_134_i mX2_waist_134_c (Nat.le_of_ble_eq_true rfl) (Nat.le_of_ble_eq_true rfl) ⟨Nat.zero_le _, Nat.zero_le _⟩ ?_
    refine g_lstore (lv' := [(5, .long (absL (tb C))), (4, .int 0), (3, .ref o), (0, .ref x), (1, .int (nI j)), (2, .int way)]) Z dX2_waist_53 (by decide) rfl ?_
    refine g_iconst Z dX2_waist_55 zi_1 ?_
    refine g_istore (lv' := [(7, .int 1), (5, .long (absL (tb C))), (4, .int 0), (3, .ref o), (0, .ref x), (1, .int (nI j)), (2, .int way)]) Z dX2_waist_56 (by decide) rfl ?_
    exact lX2_waist E x rw ln t1 t2 nb dn RF D A B o k f s K F G z j y way hnb hj hr hz hw hy Z y 1 _ 0 C (by omega) (by rw [waiXR, e_C, if_pos c_35])
  · refine g_iconst Z dX2_waist_38 zi_m1 ?_
    exact g_iret Z dX2_waist_39 rfl ⟨Nat.zero_le _, Nat.zero_le _⟩ ⟨by rw [waiXR, e_C, if_neg c_35], _, _, rfl⟩
