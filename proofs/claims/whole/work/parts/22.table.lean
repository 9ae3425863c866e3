abbrev rX1_clear : Room := { frames := 0, cells := 0, slots := 0, locals := 0 }
theorem iX1_clear : zInfo yX1_clear wsX1_clear RX1 1 none 0 := ⟨_, _, rfl, by decide +kernel⟩
theorem nX1_clear_X1 : ∀ w ∈ wsX10, w ∈ wsX1_clear := by decide +kernel
theorem fX1_clear_9 : Cond.fieldLink RX1 9 (TX1 0).1 (TX1 0).2.1 (TX1 0).2.2.1 ∈ wsX1_clear := by decide +kernel
theorem fX1_clear_15 : Cond.fieldLink RX1 15 (TX1 1).1 (TX1 1).2.1 (TX1 1).2.2.1 ∈ wsX1_clear := by decide +kernel
theorem fX1_clear_18 : Cond.fieldLink RX1 18 (TX1 2).1 (TX1 2).2.1 (TX1 2).2.2.1 ∈ wsX1_clear := by decide +kernel
theorem fX1_clear_21 : Cond.fieldLink RX1 21 (TX1 3).1 (TX1 3).2.1 (TX1 3).2.2.1 ∈ wsX1_clear := by decide +kernel
theorem fX1_clear_24 : Cond.fieldLink RX1 24 (TX1 4).1 (TX1 4).2.1 (TX1 4).2.2.1 ∈ wsX1_clear := by decide +kernel
theorem fX1_clear_27 : Cond.fieldLink RX1 27 (TX1 5).1 (TX1 5).2.1 (TX1 5).2.2.1 ∈ wsX1_clear := by decide +kernel
theorem fX1_clear_30 : Cond.fieldLink RX1 30 (TX1 6).1 (TX1 6).2.1 (TX1 6).2.2.1 ∈ wsX1_clear := by decide +kernel
set_option maxHeartbeats 4000000 in
set_option maxRecDepth 100000 in
theorem qX1_clear (E : zE) (h : Nat) (T : TB)  : zF E yX1_clear wsX1_clear rX1_clear [.ref h] [cO h 1 [.long (ta T), .long (tb T), .long (tc T), .long (td T), .long (te T), .long (tf T), .long (tg T)]] (zx none ([cO h 1 [.long (ta T1), .long (tb T1), .long (tc T1), .long (td T1), .long (te T1), .long (tf T1), .long (tg T1)]])) := by
  refine z_start RX1 "clear" (by decide) rfl rfl rfl (Nat.le_of_ble_eq_true rfl) ?_
  intro J Z
  refine g_eq Z (lv2 := [(0, .ref h)]) rfl rfl rfl ?_
  refine g_aload_n Z dX1_clear_0 0 rfl rfl ?_
  refine g_lconst Z dX1_clear_1 zl_1 ?_
  refine g_put (w' := [cO h 1 [.long 1, .long (tb T), .long (tc T), .long (td T), .long (te T), .long (tf T), .long (tg T)]]) Z dX1_clear_2 0 rfl rfl nX1_clear_X1 tyX1 tyX1_ok nmX1 0 (by decide) fX1_clear_9 rfl rfl rfl rfl (Nat.le_of_ble_eq_true rfl) rfl ?_
  refine g_aload_n Z dX1_clear_5 0 rfl rfl ?_
  refine g_lconst Z dX1_clear_6 zl_0 ?_
  refine g_put (w' := [cO h 1 [.long 1, .long 0, .long (tc T), .long (td T), .long (te T), .long (tf T), .long (tg T)]]) Z dX1_clear_7 0 rfl rfl nX1_clear_X1 tyX1 tyX1_ok nmX1 1 (by decide) fX1_clear_15 rfl rfl rfl rfl (Nat.le_of_ble_eq_true rfl) rfl ?_
  refine g_aload_n Z dX1_clear_10 0 rfl rfl ?_
  refine g_lconst Z dX1_clear_11 zl_0 ?_
  refine g_put (w' := [cO h 1 [.long 1, .long 0, .long 0, .long (td T), .long (te T), .long (tf T), .long (tg T)]]) Z dX1_clear_12 0 rfl rfl nX1_clear_X1 tyX1 tyX1_ok nmX1 2 (by decide) fX1_clear_18 rfl rfl rfl rfl (Nat.le_of_ble_eq_true rfl) rfl ?_
  refine g_aload_n Z dX1_clear_15 0 rfl rfl ?_
  refine g_lconst Z dX1_clear_16 zl_1 ?_
  refine g_put (w' := [cO h 1 [.long 1, .long 0, .long 0, .long 1, .long (te T), .long (tf T), .long (tg T)]]) Z dX1_clear_17 0 rfl rfl nX1_clear_X1 tyX1 tyX1_ok nmX1 3 (by decide) fX1_clear_21 rfl rfl rfl rfl (Nat.le_of_ble_eq_true rfl) rfl ?_
  refine g_aload_n Z dX1_clear_20 0 rfl rfl ?_
  refine g_lconst Z dX1_clear_21 zl_0 ?_
  refine g_put (w' := [cO h 1 [.long 1, .long 0, .long 0, .long 1, .long 0, .long (tf T), .long (tg T)]]) Z dX1_clear_22 0 rfl rfl nX1_clear_X1 tyX1 tyX1_ok nmX1 4 (by decide) fX1_clear_24 rfl rfl rfl rfl (Nat.le_of_ble_eq_true rfl) rfl ?_
  refine g_aload_n Z dX1_clear_25 0 rfl rfl ?_
  refine g_lconst Z dX1_clear_26 zl_0 ?_
  refine g_put (w' := [cO h 1 [.long 1, .long 0, .long 0, .long 1, .long 0, .long 0, .long (tg T)]]) Z dX1_clear_27 0 rfl rfl nX1_clear_X1 tyX1 tyX1_ok nmX1 5 (by decide) fX1_clear_27 rfl rfl rfl rfl (Nat.le_of_ble_eq_true rfl) rfl ?_
  refine g_aload_n Z dX1_clear_30 0 rfl rfl ?_
  refine g_lconst Z dX1_clear_31 zl_1 ?_
  refine g_put (w' := [cO h 1 [.long 1, .long 0, .long 0, .long 1, .long 0, .long 0, .long 1]]) Z dX1_clear_32 0 rfl rfl nX1_clear_X1 tyX1 tyX1_ok nmX1 6 (by decide) fX1_clear_30 rfl rfl rfl rfl (Nat.le_of_ble_eq_true rfl) rfl ?_
  exact g_vret Z dX1_clear_35 rfl ⟨Nat.zero_le _, Nat.zero_le _⟩ ⟨rfl, rfl⟩

abbrev rX1_stretchBy : Room := { frames := 0, cells := 0, slots := 0, locals := 0 }
theorem iX1_stretchBy : zInfo yX1_stretchBy wsX1_stretchBy RX1 3 none 1 := ⟨_, _, rfl, by decide +kernel⟩
theorem nX1_stretchBy_X1 : ∀ w ∈ wsX10, w ∈ wsX1_stretchBy := by decide +kernel
theorem fX1_stretchBy_9 : Cond.fieldLink RX1 9 (TX1 0).1 (TX1 0).2.1 (TX1 0).2.2.1 ∈ wsX1_stretchBy := by decide +kernel
theorem fX1_stretchBy_18 : Cond.fieldLink RX1 18 (TX1 2).1 (TX1 2).2.1 (TX1 2).2.2.1 ∈ wsX1_stretchBy := by decide +kernel
theorem fX1_stretchBy_15 : Cond.fieldLink RX1 15 (TX1 1).1 (TX1 1).2.1 (TX1 1).2.2.1 ∈ wsX1_stretchBy := by decide +kernel
theorem fX1_stretchBy_21 : Cond.fieldLink RX1 21 (TX1 3).1 (TX1 3).2.1 (TX1 3).2.2.1 ∈ wsX1_stretchBy := by decide +kernel
theorem fX1_stretchBy_24 : Cond.fieldLink RX1 24 (TX1 4).1 (TX1 4).2.1 (TX1 4).2.2.1 ∈ wsX1_stretchBy := by decide +kernel
theorem fX1_stretchBy_27 : Cond.fieldLink RX1 27 (TX1 5).1 (TX1 5).2.1 (TX1 5).2.2.1 ∈ wsX1_stretchBy := by decide +kernel
set_option maxHeartbeats 4000000 in
set_option maxRecDepth 100000 in
theorem qX1_stretchBy (E : zE) (h : Nat) (T : TB) (x : Int64)  : zF E yX1_stretchBy wsX1_stretchBy rX1_stretchBy [.ref h, .long x] [cO h 1 [.long (ta T), .long (tb T), .long (tc T), .long (td T), .long (te T), .long (tf T), .long (tg T)]] (zx none ([cO h 1 [.long (ta (strF x T)), .long (tb (strF x T)), .long (tc (strF x T)), .long (td (strF x T)), .long (te (strF x T)), .long (tf (strF x T)), .long (tg (strF x T))]])) := by
  refine z_start RX1 "stretchBy" (by decide) rfl rfl rfl (Nat.le_of_ble_eq_true rfl) ?_
  intro J Z
  refine g_eq Z (lv2 := [(0, .ref h), (1, .long x)]) rfl rfl rfl ?_
  refine g_aload_n Z dX1_stretchBy_0 0 rfl rfl ?_
  refine g_dup Z dX1_stretchBy_1 rfl ?_
  refine g_get Z dX1_stretchBy_2 0 rfl rfl nX1_stretchBy_X1 0 (by decide) fX1_stretchBy_9 rfl ?_
  refine g_lload_n Z dX1_stretchBy_5 1 rfl rfl ?_
  refine g_aload_n Z dX1_stretchBy_6 0 rfl rfl ?_
  refine g_get Z dX1_stretchBy_7 0 rfl rfl nX1_stretchBy_X1 2 (by decide) fX1_stretchBy_18 rfl ?_
  refine g_lmul Z dX1_stretchBy_10 ?_
  refine g_ladd Z dX1_stretchBy_11 ?_
  refine g_put (w' := [cO h 1 [.long ((ta T) + (x * (tc T))), .long (tb T), .long (tc T), .long (td T), .long (te T), .long (tf T), .long (tg T)]]) Z dX1_stretchBy_12 0 rfl rfl nX1_stretchBy_X1 tyX1 tyX1_ok nmX1 0 (by decide) fX1_stretchBy_9 rfl rfl rfl rfl (Nat.le_of_ble_eq_true rfl) rfl ?_
  refine g_aload_n Z dX1_stretchBy_15 0 rfl rfl ?_
  refine g_dup Z dX1_stretchBy_16 rfl ?_
  refine g_get Z dX1_stretchBy_17 0 rfl rfl nX1_stretchBy_X1 1 (by decide) fX1_stretchBy_15 rfl ?_
  refine g_lload_n Z dX1_stretchBy_20 1 rfl rfl ?_
  refine g_aload_n Z dX1_stretchBy_21 0 rfl rfl ?_
  refine g_get Z dX1_stretchBy_22 0 rfl rfl nX1_stretchBy_X1 3 (by decide) fX1_stretchBy_21 rfl ?_
  refine g_lmul Z dX1_stretchBy_25 ?_
  refine g_ladd Z dX1_stretchBy_26 ?_
  refine g_put (w' := [cO h 1 [.long ((ta T) + (x * (tc T))), .long ((tb T) + (x * (td T))), .long (tc T), .long (td T), .long (te T), .long (tf T), .long (tg T)]]) Z dX1_stretchBy_27 0 rfl rfl nX1_stretchBy_X1 tyX1 tyX1_ok nmX1 1 (by decide) fX1_stretchBy_15 rfl rfl rfl rfl (Nat.le_of_ble_eq_true rfl) rfl ?_
  refine g_aload_n Z dX1_stretchBy_30 0 rfl rfl ?_
  refine g_dup Z dX1_stretchBy_31 rfl ?_
  refine g_get Z dX1_stretchBy_32 0 rfl rfl nX1_stretchBy_X1 4 (by decide) fX1_stretchBy_24 rfl ?_
  refine g_lload_n Z dX1_stretchBy_35 1 rfl rfl ?_
  refine g_aload_n Z dX1_stretchBy_36 0 rfl rfl ?_
  refine g_get Z dX1_stretchBy_37 0 rfl rfl nX1_stretchBy_X1 5 (by decide) fX1_stretchBy_27 rfl ?_
  refine g_lmul Z dX1_stretchBy_40 ?_
  refine g_ladd Z dX1_stretchBy_41 ?_
  refine g_put (w' := [cO h 1 [.long ((ta T) + (x * (tc T))), .long ((tb T) + (x * (td T))), .long (tc T), .long (td T), .long ((te T) + (x * (tf T))), .long (tf T), .long (tg T)]]) Z dX1_stretchBy_42 0 rfl rfl nX1_stretchBy_X1 tyX1 tyX1_ok nmX1 4 (by decide) fX1_stretchBy_24 rfl rfl rfl rfl (Nat.le_of_ble_eq_true rfl) rfl ?_
  exact g_vret Z dX1_stretchBy_45 rfl ⟨Nat.zero_le _, Nat.zero_le _⟩ ⟨rfl, rfl⟩

abbrev rX1_bendBy : Room := { frames := 0, cells := 0, slots := 0, locals := 0 }
theorem iX1_bendBy : zInfo yX1_bendBy wsX1_bendBy RX1 7 none 1 := ⟨_, _, rfl, by decide +kernel⟩
theorem nX1_bendBy_X1 : ∀ w ∈ wsX10, w ∈ wsX1_bendBy := by decide +kernel
theorem fX1_bendBy_18 : Cond.fieldLink RX1 18 (TX1 2).1 (TX1 2).2.1 (TX1 2).2.2.1 ∈ wsX1_bendBy := by decide +kernel
theorem fX1_bendBy_9 : Cond.fieldLink RX1 9 (TX1 0).1 (TX1 0).2.1 (TX1 0).2.2.1 ∈ wsX1_bendBy := by decide +kernel
theorem fX1_bendBy_21 : Cond.fieldLink RX1 21 (TX1 3).1 (TX1 3).2.1 (TX1 3).2.2.1 ∈ wsX1_bendBy := by decide +kernel
theorem fX1_bendBy_15 : Cond.fieldLink RX1 15 (TX1 1).1 (TX1 1).2.1 (TX1 1).2.2.1 ∈ wsX1_bendBy := by decide +kernel
theorem fX1_bendBy_27 : Cond.fieldLink RX1 27 (TX1 5).1 (TX1 5).2.1 (TX1 5).2.2.1 ∈ wsX1_bendBy := by decide +kernel
theorem fX1_bendBy_24 : Cond.fieldLink RX1 24 (TX1 4).1 (TX1 4).2.1 (TX1 4).2.2.1 ∈ wsX1_bendBy := by decide +kernel
theorem fX1_bendBy_30 : Cond.fieldLink RX1 30 (TX1 6).1 (TX1 6).2.1 (TX1 6).2.2.1 ∈ wsX1_bendBy := by decide +kernel
theorem kX1_bendBy_69 : Cond.constantLong RX1 69 (-1) ∈ wsX1_bendBy := by decide +kernel
set_option maxHeartbeats 4000000 in
set_option maxRecDepth 100000 in
theorem qX1_bendBy (E : zE) (h : Nat) (T : TB) (x : Int64)  : zF E yX1_bendBy wsX1_bendBy rX1_bendBy [.ref h, .long x] [cO h 1 [.long (ta T), .long (tb T), .long (tc T), .long (td T), .long (te T), .long (tf T), .long (tg T)]] (zx none ([cO h 1 [.long (ta (benF x T)), .long (tb (benF x T)), .long (tc (benF x T)), .long (td (benF x T)), .long (te (benF x T)), .long (tf (benF x T)), .long (tg (benF x T))]])) := by
  refine z_start RX1 "bendBy" (by decide) rfl rfl rfl (Nat.le_of_ble_eq_true rfl) ?_
  intro J Z
  refine g_eq Z (lv2 := [(0, .ref h), (1, .long x)]) rfl rfl rfl ?_
  refine g_lload_n Z dX1_bendBy_0 1 rfl rfl ?_
  refine g_lconst Z dX1_bendBy_1 zl_0 ?_
  refine g_lcmp_ge (tgt := 12) Z dX1_bendBy_2 dX1_bendBy_3 rfl (by decide) (fun c_3 => ?_) (fun c_3 => ?_)
  · refine g_lconst Z dX1_bendBy_12 zl_1 ?_
    refine g_lstore_n (lv' := [(3, .long 1), (0, .ref h), (1, .long x)]) Z dX1_bendBy_13 rfl (by decide) rfl ?_
    refine g_lload_n Z dX1_bendBy_14 0 rfl rfl ?_
    refine g_lload_n Z dX1_bendBy_15 2 rfl rfl ?_
    refine g_lmul Z dX1_bendBy_16 ?_
    refine g_lstore (lv' := [(5, .long (1 * x)), (3, .long 1), (0, .ref h), (1, .long x)]) Z dX1_bendBy_17 (by decide) rfl ?_
    refine g_aload_n Z dX1_bendBy_19 2 rfl rfl ?_
    refine g_lload Z dX1_bendBy_20 0 rfl ?_
    refine g_aload_n Z dX1_bendBy_22 2 rfl rfl ?_
    refine g_get Z dX1_bendBy_23 0 rfl rfl nX1_bendBy_X1 2 (by decide) fX1_bendBy_18 rfl ?_
    refine g_lmul Z dX1_bendBy_26 ?_
    refine g_lload_n Z dX1_bendBy_27 1 rfl rfl ?_
    refine g_aload_n Z dX1_bendBy_28 2 rfl rfl ?_
    refine g_get Z dX1_bendBy_29 0 rfl rfl nX1_bendBy_X1 0 (by decide) fX1_bendBy_9 rfl ?_
    refine g_lmul Z dX1_bendBy_32 ?_
    refine g_lsub Z dX1_bendBy_33 ?_
    refine g_put (w' := [cO h 1 [.long (ta T), .long (tb T), .long (((1 * x) * (tc T)) - (1 * (ta T))), .long (td T), .long (te T), .long (tf T), .long (tg T)]]) Z dX1_bendBy_34 0 rfl rfl nX1_bendBy_X1 tyX1 tyX1_ok nmX1 2 (by decide) fX1_bendBy_18 rfl rfl rfl rfl (Nat.le_of_ble_eq_true rfl) rfl ?_
    refine g_aload_n Z dX1_bendBy_37 2 rfl rfl ?_
    refine g_lload Z dX1_bendBy_38 0 rfl ?_
    refine g_aload_n Z dX1_bendBy_40 2 rfl rfl ?_
    refine g_get Z dX1_bendBy_41 0 rfl rfl nX1_bendBy_X1 3 (by decide) fX1_bendBy_21 rfl ?_
    refine g_lmul Z dX1_bendBy_44 ?_
    refine g_lload_n Z dX1_bendBy_45 1 rfl rfl ?_
    refine g_aload_n Z dX1_bendBy_46 2 rfl rfl ?_
    refine g_get Z dX1_bendBy_47 0 rfl rfl nX1_bendBy_X1 1 (by decide) fX1_bendBy_15 rfl ?_
    refine g_lmul Z dX1_bendBy_50 ?_
    refine g_lsub Z dX1_bendBy_51 ?_
    refine g_put (w' := [cO h 1 [.long (ta T), .long (tb T), .long (((1 * x) * (tc T)) - (1 * (ta T))), .long (((1 * x) * (td T)) - (1 * (tb T))), .long (te T), .long (tf T), .long (tg T)]]) Z dX1_bendBy_52 0 rfl rfl nX1_bendBy_X1 tyX1 tyX1_ok nmX1 3 (by decide) fX1_bendBy_21 rfl rfl rfl rfl (Nat.le_of_ble_eq_true rfl) rfl ?_
    refine g_aload_n Z dX1_bendBy_55 2 rfl rfl ?_
    refine g_lload Z dX1_bendBy_56 0 rfl ?_
    refine g_aload_n Z dX1_bendBy_58 2 rfl rfl ?_
    refine g_get Z dX1_bendBy_59 0 rfl rfl nX1_bendBy_X1 5 (by decide) fX1_bendBy_27 rfl ?_
    refine g_lmul Z dX1_bendBy_62 ?_
    refine g_lload_n Z dX1_bendBy_63 1 rfl rfl ?_
    refine g_aload_n Z dX1_bendBy_64 2 rfl rfl ?_
    refine g_get Z dX1_bendBy_65 0 rfl rfl nX1_bendBy_X1 4 (by decide) fX1_bendBy_24 rfl ?_
    refine g_lmul Z dX1_bendBy_68 ?_
    refine g_lsub Z dX1_bendBy_69 ?_
    refine g_put (w' := [cO h 1 [.long (ta T), .long (tb T), .long (((1 * x) * (tc T)) - (1 * (ta T))), .long (((1 * x) * (td T)) - (1 * (tb T))), .long (te T), .long (((1 * x) * (tf T)) - (1 * (te T))), .long (tg T)]]) Z dX1_bendBy_70 0 rfl rfl nX1_bendBy_X1 tyX1 tyX1_ok nmX1 5 (by decide) fX1_bendBy_27 rfl rfl rfl rfl (Nat.le_of_ble_eq_true rfl) rfl ?_
    refine g_aload_n Z dX1_bendBy_73 2 rfl rfl ?_
    refine g_dup Z dX1_bendBy_74 rfl ?_
    refine g_get Z dX1_bendBy_75 0 rfl rfl nX1_bendBy_X1 0 (by decide) fX1_bendBy_9 rfl ?_
    refine g_lload Z dX1_bendBy_78 0 rfl ?_
    refine g_lmul Z dX1_bendBy_80 ?_
    refine g_put (w' := [cO h 1 [.long ((ta T) * (1 * x)), .long (tb T), .long (((1 * x) * (tc T)) - (1 * (ta T))), .long (((1 * x) * (td T)) - (1 * (tb T))), .long (te T), .long (((1 * x) * (tf T)) - (1 * (te T))), .long (tg T)]]) Z dX1_bendBy_81 0 rfl rfl nX1_bendBy_X1 tyX1 tyX1_ok nmX1 0 (by decide) fX1_bendBy_9 rfl rfl rfl rfl (Nat.le_of_ble_eq_true rfl) rfl ?_
    refine g_aload_n Z dX1_bendBy_84 2 rfl rfl ?_
    refine g_dup Z dX1_bendBy_85 rfl ?_
    refine g_get Z dX1_bendBy_86 0 rfl rfl nX1_bendBy_X1 1 (by decide) fX1_bendBy_15 rfl ?_
    refine g_lload Z dX1_bendBy_89 0 rfl ?_
    refine g_lmul Z dX1_bendBy_91 ?_
    refine g_put (w' := [cO h 1 [.long ((ta T) * (1 * x)), .long ((tb T) * (1 * x)), .long (((1 * x) * (tc T)) - (1 * (ta T))), .long (((1 * x) * (td T)) - (1 * (tb T))), .long (te T), .long (((1 * x) * (tf T)) - (1 * (te T))), .long (tg T)]]) Z dX1_bendBy_92 0 rfl rfl nX1_bendBy_X1 tyX1 tyX1_ok nmX1 1 (by decide) fX1_bendBy_15 rfl rfl rfl rfl (Nat.le_of_ble_eq_true rfl) rfl ?_
    refine g_aload_n Z dX1_bendBy_95 2 rfl rfl ?_
    refine g_dup Z dX1_bendBy_96 rfl ?_
    refine g_get Z dX1_bendBy_97 0 rfl rfl nX1_bendBy_X1 4 (by decide) fX1_bendBy_24 rfl ?_
    refine g_lload Z dX1_bendBy_100 0 rfl ?_
    refine g_lmul Z dX1_bendBy_102 ?_
    refine g_put (w' := [cO h 1 [.long ((ta T) * (1 * x)), .long ((tb T) * (1 * x)), .long (((1 * x) * (tc T)) - (1 * (ta T))), .long (((1 * x) * (td T)) - (1 * (tb T))), .long ((te T) * (1 * x)), .long (((1 * x) * (tf T)) - (1 * (te T))), .long (tg T)]]) Z dX1_bendBy_103 0 rfl rfl nX1_bendBy_X1 tyX1 tyX1_ok nmX1 4 (by decide) fX1_bendBy_24 rfl rfl rfl rfl (Nat.le_of_ble_eq_true rfl) rfl ?_
    refine g_aload_n Z dX1_bendBy_106 2 rfl rfl ?_
    refine g_dup Z dX1_bendBy_107 rfl ?_
    refine g_get Z dX1_bendBy_108 0 rfl rfl nX1_bendBy_X1 6 (by decide) fX1_bendBy_30 rfl ?_
    refine g_lload Z dX1_bendBy_111 0 rfl ?_
    refine g_lmul Z dX1_bendBy_113 ?_
    refine g_put (w' := [cO h 1 [.long ((ta T) * (1 * x)), .long ((tb T) * (1 * x)), .long (((1 * x) * (tc T)) - (1 * (ta T))), .long (((1 * x) * (td T)) - (1 * (tb T))), .long ((te T) * (1 * x)), .long (((1 * x) * (tf T)) - (1 * (te T))), .long ((tg T) * (1 * x))]]) Z dX1_bendBy_114 0 rfl rfl nX1_bendBy_X1 tyX1 tyX1_ok nmX1 6 (by decide) fX1_bendBy_30 rfl rfl rfl rfl (Nat.le_of_ble_eq_true rfl) rfl ?_
    exact g_vret Z dX1_bendBy_117 rfl ⟨Nat.zero_le _, Nat.zero_le _⟩ ⟨rfl, by simp only [benF, if_neg (Int64.not_lt.mpr c_3)]; rfl⟩
  · refine g_ldc2 Z dX1_bendBy_6 kX1_bendBy_69 ?_
    refine g_goto (tgt := 13) Z dX1_bendBy_9 (by decide) ?_
    refine g_lstore_n (lv' := [(3, .long (-1)), (0, .ref h), (1, .long x)]) Z dX1_bendBy_13 rfl (by decide) rfl ?_
    refine g_lload_n Z dX1_bendBy_14 0 rfl rfl ?_
    refine g_lload_n Z dX1_bendBy_15 2 rfl rfl ?_
    refine g_lmul Z dX1_bendBy_16 ?_
    refine g_lstore (lv' := [(5, .long ((-1) * x)), (3, .long (-1)), (0, .ref h), (1, .long x)]) Z dX1_bendBy_17 (by decide) rfl ?_
    refine g_aload_n Z dX1_bendBy_19 2 rfl rfl ?_
    refine g_lload Z dX1_bendBy_20 0 rfl ?_
    refine g_aload_n Z dX1_bendBy_22 2 rfl rfl ?_
    refine g_get Z dX1_bendBy_23 0 rfl rfl nX1_bendBy_X1 2 (by decide) fX1_bendBy_18 rfl ?_
    refine g_lmul Z dX1_bendBy_26 ?_
    refine g_lload_n Z dX1_bendBy_27 1 rfl rfl ?_
    refine g_aload_n Z dX1_bendBy_28 2 rfl rfl ?_
    refine g_get Z dX1_bendBy_29 0 rfl rfl nX1_bendBy_X1 0 (by decide) fX1_bendBy_9 rfl ?_
    refine g_lmul Z dX1_bendBy_32 ?_
    refine g_lsub Z dX1_bendBy_33 ?_
    refine g_put (w' := [cO h 1 [.long (ta T), .long (tb T), .long ((((-1) * x) * (tc T)) - ((-1) * (ta T))), .long (td T), .long (te T), .long (tf T), .long (tg T)]]) Z dX1_bendBy_34 0 rfl rfl nX1_bendBy_X1 tyX1 tyX1_ok nmX1 2 (by decide) fX1_bendBy_18 rfl rfl rfl rfl (Nat.le_of_ble_eq_true rfl) rfl ?_
    refine g_aload_n Z dX1_bendBy_37 2 rfl rfl ?_
    refine g_lload Z dX1_bendBy_38 0 rfl ?_
    refine g_aload_n Z dX1_bendBy_40 2 rfl rfl ?_
    refine g_get Z dX1_bendBy_41 0 rfl rfl nX1_bendBy_X1 3 (by decide) fX1_bendBy_21 rfl ?_
    refine g_lmul Z dX1_bendBy_44 ?_
    refine g_lload_n Z dX1_bendBy_45 1 rfl rfl ?_
    refine g_aload_n Z dX1_bendBy_46 2 rfl rfl ?_
    refine g_get Z dX1_bendBy_47 0 rfl rfl nX1_bendBy_X1 1 (by decide) fX1_bendBy_15 rfl ?_
    refine g_lmul Z dX1_bendBy_50 ?_
    refine g_lsub Z dX1_bendBy_51 ?_
    refine g_put (w' := [cO h 1 [.long (ta T), .long (tb T), .long ((((-1) * x) * (tc T)) - ((-1) * (ta T))), .long ((((-1) * x) * (td T)) - ((-1) * (tb T))), .long (te T), .long (tf T), .long (tg T)]]) Z dX1_bendBy_52 0 rfl rfl nX1_bendBy_X1 tyX1 tyX1_ok nmX1 3 (by decide) fX1_bendBy_21 rfl rfl rfl rfl (Nat.le_of_ble_eq_true rfl) rfl ?_
    refine g_aload_n Z dX1_bendBy_55 2 rfl rfl ?_
    refine g_lload Z dX1_bendBy_56 0 rfl ?_
    refine g_aload_n Z dX1_bendBy_58 2 rfl rfl ?_
    refine g_get Z dX1_bendBy_59 0 rfl rfl nX1_bendBy_X1 5 (by decide) fX1_bendBy_27 rfl ?_
    refine g_lmul Z dX1_bendBy_62 ?_
    refine g_lload_n Z dX1_bendBy_63 1 rfl rfl ?_
    refine g_aload_n Z dX1_bendBy_64 2 rfl rfl ?_
    refine g_get Z dX1_bendBy_65 0 rfl rfl nX1_bendBy_X1 4 (by decide) fX1_bendBy_24 rfl ?_
    refine g_lmul Z dX1_bendBy_68 ?_
    refine g_lsub Z dX1_bendBy_69 ?_
    refine g_put (w' := [cO h 1 [.long (ta T), .long (tb T), .long ((((-1) * x) * (tc T)) - ((-1) * (ta T))), .long ((((-1) * x) * (td T)) - ((-1) * (tb T))), .long (te T), .long ((((-1) * x) * (tf T)) - ((-1) * (te T))), .long (tg T)]]) Z dX1_bendBy_70 0 rfl rfl nX1_bendBy_X1 tyX1 tyX1_ok nmX1 5 (by decide) fX1_bendBy_27 rfl rfl rfl rfl (Nat.le_of_ble_eq_true rfl) rfl ?_
    refine g_aload_n Z dX1_bendBy_73 2 rfl rfl ?_
    refine g_dup Z dX1_bendBy_74 rfl ?_
    refine g_get Z dX1_bendBy_75 0 rfl rfl nX1_bendBy_X1 0 (by decide) fX1_bendBy_9 rfl ?_
    refine g_lload Z dX1_bendBy_78 0 rfl ?_
    refine g_lmul Z dX1_bendBy_80 ?_
    refine g_put (w' := [cO h 1 [.long ((ta T) * ((-1) * x)), .long (tb T), .long ((((-1) * x) * (tc T)) - ((-1) * (ta T))), .long ((((-1) * x) * (td T)) - ((-1) * (tb T))), .long (te T), .long ((((-1) * x) * (tf T)) - ((-1) * (te T))), .long (tg T)]]) Z dX1_bendBy_81 0 rfl rfl nX1_bendBy_X1 tyX1 tyX1_ok nmX1 0 (by decide) fX1_bendBy_9 rfl rfl rfl rfl (Nat.le_of_ble_eq_true rfl) rfl ?_
    refine g_aload_n Z dX1_bendBy_84 2 rfl rfl ?_
    refine g_dup Z dX1_bendBy_85 rfl ?_
    refine g_get Z dX1_bendBy_86 0 rfl rfl nX1_bendBy_X1 1 (by decide) fX1_bendBy_15 rfl ?_
    refine g_lload Z dX1_bendBy_89 0 rfl ?_
    refine g_lmul Z dX1_bendBy_91 ?_
    refine g_put (w' := [cO h 1 [.long ((ta T) * ((-1) * x)), .long ((tb T) * ((-1) * x)), .long ((((-1) * x) * (tc T)) - ((-1) * (ta T))), .long ((((-1) * x) * (td T)) - ((-1) * (tb T))), .long (te T), .long ((((-1) * x) * (tf T)) - ((-1) * (te T))), .long (tg T)]]) Z dX1_bendBy_92 0 rfl rfl nX1_bendBy_X1 tyX1 tyX1_ok nmX1 1 (by decide) fX1_bendBy_15 rfl rfl rfl rfl (Nat.le_of_ble_eq_true rfl) rfl ?_
    refine g_aload_n Z dX1_bendBy_95 2 rfl rfl ?_
    refine g_dup Z dX1_bendBy_96 rfl ?_
    refine g_get Z dX1_bendBy_97 0 rfl rfl nX1_bendBy_X1 4 (by decide) fX1_bendBy_24 rfl ?_
    refine g_lload Z dX1_bendBy_100 0 rfl ?_
    refine g_lmul Z dX1_bendBy_102 ?_
    refine g_put (w' := [cO h 1 [.long ((ta T) * ((-1) * x)), .long ((tb T) * ((-1) * x)), .long ((((-1) * x) * (tc T)) - ((-1) * (ta T))), .long ((((-1) * x) * (td T)) - ((-1) * (tb T))), .long ((te T) * ((-1) * x)), .long ((((-1) * x) * (tf T)) - ((-1) * (te T))), .long (tg T)]]) Z dX1_bendBy_103 0 rfl rfl nX1_bendBy_X1 tyX1 tyX1_ok nmX1 4 (by decide) fX1_bendBy_24 rfl rfl rfl rfl (Nat.le_of_ble_eq_true rfl) rfl ?_
    refine g_aload_n Z dX1_bendBy_106 2 rfl rfl ?_
    refine g_dup Z dX1_bendBy_107 rfl ?_
    refine g_get Z dX1_bendBy_108 0 rfl rfl nX1_bendBy_X1 6 (by decide) fX1_bendBy_30 rfl ?_
    refine g_lload Z dX1_bendBy_111 0 rfl ?_
    refine g_lmul Z dX1_bendBy_113 ?_
    refine g_put (w' := [cO h 1 [.long ((ta T) * ((-1) * x)), .long ((tb T) * ((-1) * x)), .long ((((-1) * x) * (tc T)) - ((-1) * (ta T))), .long ((((-1) * x) * (td T)) - ((-1) * (tb T))), .long ((te T) * ((-1) * x)), .long ((((-1) * x) * (tf T)) - ((-1) * (te T))), .long ((tg T) * ((-1) * x))]]) Z dX1_bendBy_114 0 rfl rfl nX1_bendBy_X1 tyX1 tyX1_ok nmX1 6 (by decide) fX1_bendBy_30 rfl rfl rfl rfl (Nat.le_of_ble_eq_true rfl) rfl ?_
    exact g_vret Z dX1_bendBy_117 rfl ⟨Nat.zero_le _, Nat.zero_le _⟩ ⟨rfl, by simp only [benF, if_pos (Int64.not_le.mp c_3)]; rfl⟩

abbrev rX1_go : Room := { frames := 1, cells := 0, slots := 0, locals := 26 }
theorem iX1_go : zInfo yX1_go wsX1_go RX1 3 none 2 := ⟨_, _, rfl, by decide +kernel⟩
theorem nX1_go_X1 : ∀ w ∈ wsX10, w ∈ wsX1_go := by decide +kernel
theorem fX1_go_27 : Cond.fieldLink RX1 27 (TX1 5).1 (TX1 5).2.1 (TX1 5).2.2.1 ∈ wsX1_go := by decide +kernel
theorem fX1_go_30 : Cond.fieldLink RX1 30 (TX1 6).1 (TX1 6).2.1 (TX1 6).2.2.1 ∈ wsX1_go := by decide +kernel
set_option maxHeartbeats 4000000 in
set_option maxRecDepth 100000 in
theorem qX1_go (E : zE) (h : Nat) (T : TB) (kd x : Int32)  : zF E yX1_go wsX1_go rX1_go [.ref h, .int kd, .int x] [cO h 1 [.long (ta T), .long (tb T), .long (tc T), .long (td T), .long (te T), .long (tf T), .long (tg T)]] (zx none ([cO h 1 [.long (ta (goF kd x T)), .long (tb (goF kd x T)), .long (tc (goF kd x T)), .long (td (goF kd x T)), .long (te (goF kd x T)), .long (tf (goF kd x T)), .long (tg (goF kd x T))]])) := by
  refine z_start RX1 "go" (by decide) rfl rfl rfl (Nat.le_of_ble_eq_true rfl) ?_
  intro J Z
  refine g_eq Z (lv2 := [(0, .ref h), (1, .int kd), (2, .int x)]) rfl rfl rfl ?_
  refine g_iload_n Z dX1_go_0 1 rfl rfl ?_
  rcases z_sw3 kd with c_1 | c_1 | c_1 | c_1 | c_1
  · refine g_tsin (tgt := 32) Z dX1_go_1 0 c_1 (by decide) rfl (by decide) ?_
    refine g_aload_n Z dX1_go_32 0 rfl rfl ?_
    refine g_iload_n Z dX1_go_33 2 rfl rfl ?_
    refine g_i2l Z dX1_go_34 ?_
    refine g_callVx (w' := [cO h 1 [.long (ta (strF (Int32.toInt64 x) T)), .long (tb (strF (Int32.toInt64 x) T)), .long (tc (strF (Int32.toInt64 x) T)), .long (td (strF (Int32.toInt64 x) T)), .long (te (strF (Int32.toInt64 x) T)), .long (tf (strF (Int32.toInt64 x) T)), .long (tg (strF (Int32.toInt64 x) T))]]) Z (qX1_stretchBy E h T (Int32.toInt64 x)) iX1_stretchBy gX1_go_X1_stretchBy ⟨rfl, rfl⟩ ⟨Nat.le_of_ble_eq_true rfl, Nat.le_of_ble_eq_true rfl⟩ dX1_go_35 rfl rfl (Nat.le_of_ble_eq_true rfl) ⟨Nat.zero_le _, Nat.zero_le _⟩ [0] rfl rfl 0 rfl rfl rfl rfl rfl ?_
    refine g_goto (tgt := 69) Z dX1_go_38 (by decide) ?_
    exact g_vret Z dX1_go_69 rfl ⟨Nat.zero_le _, Nat.zero_le _⟩ ⟨rfl, by subst c_1; rfl⟩
  · refine g_tsin (tgt := 41) Z dX1_go_1 1 c_1 (by decide) rfl (by decide) ?_
    refine g_aload_n Z dX1_go_41 0 rfl rfl ?_
    refine g_iload_n Z dX1_go_42 2 rfl rfl ?_
    refine g_i2l Z dX1_go_43 ?_
    refine g_callVx (w' := [cO h 1 [.long (ta (benF (Int32.toInt64 x) T)), .long (tb (benF (Int32.toInt64 x) T)), .long (tc (benF (Int32.toInt64 x) T)), .long (td (benF (Int32.toInt64 x) T)), .long (te (benF (Int32.toInt64 x) T)), .long (tf (benF (Int32.toInt64 x) T)), .long (tg (benF (Int32.toInt64 x) T))]]) Z (qX1_bendBy E h T (Int32.toInt64 x)) iX1_bendBy gX1_go_X1_bendBy ⟨rfl, rfl⟩ ⟨Nat.le_of_ble_eq_true rfl, Nat.le_of_ble_eq_true rfl⟩ dX1_go_44 rfl rfl (Nat.le_of_ble_eq_true rfl) ⟨Nat.zero_le _, Nat.zero_le _⟩ [0] rfl rfl 0 rfl rfl rfl rfl rfl ?_
    refine g_goto (tgt := 69) Z dX1_go_47 (by decide) ?_
    exact g_vret Z dX1_go_69 rfl ⟨Nat.zero_le _, Nat.zero_le _⟩ ⟨rfl, by subst c_1; rfl⟩
  · refine g_tsin (tgt := 41) Z dX1_go_1 2 c_1 (by decide) rfl (by decide) ?_
    refine g_aload_n Z dX1_go_41 0 rfl rfl ?_
    refine g_iload_n Z dX1_go_42 2 rfl rfl ?_
    refine g_i2l Z dX1_go_43 ?_
    refine g_callVx (w' := [cO h 1 [.long (ta (benF (Int32.toInt64 x) T)), .long (tb (benF (Int32.toInt64 x) T)), .long (tc (benF (Int32.toInt64 x) T)), .long (td (benF (Int32.toInt64 x) T)), .long (te (benF (Int32.toInt64 x) T)), .long (tf (benF (Int32.toInt64 x) T)), .long (tg (benF (Int32.toInt64 x) T))]]) Z (qX1_bendBy E h T (Int32.toInt64 x)) iX1_bendBy gX1_go_X1_bendBy ⟨rfl, rfl⟩ ⟨Nat.le_of_ble_eq_true rfl, Nat.le_of_ble_eq_true rfl⟩ dX1_go_44 rfl rfl (Nat.le_of_ble_eq_true rfl) ⟨Nat.zero_le _, Nat.zero_le _⟩ [0] rfl rfl 0 rfl rfl rfl rfl rfl ?_
    refine g_goto (tgt := 69) Z dX1_go_47 (by decide) ?_
    exact g_vret Z dX1_go_69 rfl ⟨Nat.zero_le _, Nat.zero_le _⟩ ⟨rfl, by subst c_1; rfl⟩
  · refine g_tsin (tgt := 50) Z dX1_go_1 3 c_1 (by decide) rfl (by decide) ?_
    refine g_aload_n Z dX1_go_50 0 rfl rfl ?_
    refine g_dup Z dX1_go_51 rfl ?_
    refine g_get Z dX1_go_52 0 rfl rfl nX1_go_X1 5 (by decide) fX1_go_27 rfl ?_
    refine g_iload_n Z dX1_go_55 2 rfl rfl ?_
    refine g_i2l Z dX1_go_56 ?_
    refine g_aload_n Z dX1_go_57 0 rfl rfl ?_
    refine g_get Z dX1_go_58 0 rfl rfl nX1_go_X1 6 (by decide) fX1_go_30 rfl ?_
    refine g_lmul Z dX1_go_61 ?_
    refine g_ladd Z dX1_go_62 ?_
    refine g_put (w' := [cO h 1 [.long (ta T), .long (tb T), .long (tc T), .long (td T), .long (te T), .long ((tf T) + ((Int32.toInt64 x) * (tg T))), .long (tg T)]]) Z dX1_go_63 0 rfl rfl nX1_go_X1 tyX1 tyX1_ok nmX1 5 (by decide) fX1_go_27 rfl rfl rfl rfl (Nat.le_of_ble_eq_true rfl) rfl ?_
    refine g_goto (tgt := 69) Z dX1_go_66 (by decide) ?_
    exact g_vret Z dX1_go_69 rfl ⟨Nat.zero_le _, Nat.zero_le _⟩ ⟨rfl, by subst c_1; rfl⟩
  · refine g_tsout (tgt := 69) Z dX1_go_1 c_1.1 (by decide) ?_
    exact g_vret Z dX1_go_69 rfl ⟨Nat.zero_le _, Nat.zero_le _⟩ ⟨rfl, by simp only [goF, if_neg c_1.2.1, if_neg c_1.2.2.2.2, if_neg (not_or.mpr ⟨c_1.2.2.1, c_1.2.2.2.1⟩)]⟩

abbrev rX1_sum : Room := { frames := 0, cells := 0, slots := 0, locals := 0 }
theorem iX1_sum : zInfo yX1_sum wsX1_sum RX1 1 (some .long) 0 := ⟨_, _, rfl, by decide +kernel⟩
theorem nX1_sum_X1 : ∀ w ∈ wsX10, w ∈ wsX1_sum := by decide +kernel
theorem fX1_sum_9 : Cond.fieldLink RX1 9 (TX1 0).1 (TX1 0).2.1 (TX1 0).2.2.1 ∈ wsX1_sum := by decide +kernel
theorem fX1_sum_21 : Cond.fieldLink RX1 21 (TX1 3).1 (TX1 3).2.1 (TX1 3).2.2.1 ∈ wsX1_sum := by decide +kernel
set_option maxHeartbeats 4000000 in
set_option maxRecDepth 100000 in
theorem qX1_sum (E : zE) (h : Nat) (T : TB)  : zF E yX1_sum wsX1_sum rX1_sum [.ref h] [cO h 1 [.long (ta T), .long (tb T), .long (tc T), .long (td T), .long (te T), .long (tf T), .long (tg T)]] (zx (some (.long (sumF T))) ([cO h 1 [.long (ta T), .long (tb T), .long (tc T), .long (td T), .long (te T), .long (tf T), .long (tg T)]])) := by
  refine z_start RX1 "sum" (by decide) rfl rfl rfl (Nat.le_of_ble_eq_true rfl) ?_
  intro J Z
  refine g_eq Z (lv2 := [(0, .ref h)]) rfl rfl rfl ?_
  refine g_aload_n Z dX1_sum_0 0 rfl rfl ?_
  refine g_get Z dX1_sum_1 0 rfl rfl nX1_sum_X1 0 (by decide) fX1_sum_9 rfl ?_
  refine g_aload_n Z dX1_sum_4 0 rfl rfl ?_
  refine g_get Z dX1_sum_5 0 rfl rfl nX1_sum_X1 3 (by decide) fX1_sum_21 rfl ?_
  refine g_ladd Z dX1_sum_8 ?_
  exact g_lret Z dX1_sum_9 rfl ⟨Nat.zero_le _, Nat.zero_le _⟩ ⟨rfl, rfl⟩

abbrev rX1_farAbove : Room := { frames := 0, cells := 0, slots := 0, locals := 0 }
theorem iX1_farAbove : zInfo yX1_farAbove wsX1_farAbove RX1 5 (some .long) 2 := ⟨_, _, rfl, by decide +kernel⟩
theorem nX1_farAbove_X1 : ∀ w ∈ wsX10, w ∈ wsX1_farAbove := by decide +kernel
theorem fX1_farAbove_9 : Cond.fieldLink RX1 9 (TX1 0).1 (TX1 0).2.1 (TX1 0).2.2.1 ∈ wsX1_farAbove := by decide +kernel
theorem fX1_farAbove_15 : Cond.fieldLink RX1 15 (TX1 1).1 (TX1 1).2.1 (TX1 1).2.2.1 ∈ wsX1_farAbove := by decide +kernel
theorem fX1_farAbove_24 : Cond.fieldLink RX1 24 (TX1 4).1 (TX1 4).2.1 (TX1 4).2.2.1 ∈ wsX1_farAbove := by decide +kernel
set_option maxHeartbeats 4000000 in
set_option maxRecDepth 100000 in
theorem qX1_farAbove (E : zE) (h : Nat) (T : TB) (x y : Int64)  : zF E yX1_farAbove wsX1_farAbove rX1_farAbove [.ref h, .long x, .long y] [cO h 1 [.long (ta T), .long (tb T), .long (tc T), .long (td T), .long (te T), .long (tf T), .long (tg T)]] (zx (some (.long (farF T x y))) ([cO h 1 [.long (ta T), .long (tb T), .long (tc T), .long (td T), .long (te T), .long (tf T), .long (tg T)]])) := by
  refine z_start RX1 "farAbove" (by decide) rfl rfl rfl (Nat.le_of_ble_eq_true rfl) ?_
  intro J Z
  refine g_eq Z (lv2 := [(0, .ref h), (1, .long x), (3, .long y)]) rfl rfl rfl ?_
  refine g_aload_n Z dX1_farAbove_0 0 rfl rfl ?_
  refine g_get Z dX1_farAbove_1 0 rfl rfl nX1_farAbove_X1 0 (by decide) fX1_farAbove_9 rfl ?_
  refine g_lload_n Z dX1_farAbove_4 1 rfl rfl ?_
  refine g_lmul Z dX1_farAbove_5 ?_
  refine g_aload_n Z dX1_farAbove_6 0 rfl rfl ?_
  refine g_get Z dX1_farAbove_7 0 rfl rfl nX1_farAbove_X1 1 (by decide) fX1_farAbove_15 rfl ?_
  refine g_lload_n Z dX1_farAbove_10 2 rfl rfl ?_
  refine g_lmul Z dX1_farAbove_11 ?_
  refine g_ladd Z dX1_farAbove_12 ?_
  refine g_aload_n Z dX1_farAbove_13 0 rfl rfl ?_
  refine g_get Z dX1_farAbove_14 0 rfl rfl nX1_farAbove_X1 4 (by decide) fX1_farAbove_24 rfl ?_
  refine g_ladd Z dX1_farAbove_17 ?_
  exact g_lret Z dX1_farAbove_18 rfl ⟨Nat.zero_le _, Nat.zero_le _⟩ ⟨rfl, rfl⟩

abbrev rX1_leanAbove : Room := { frames := 0, cells := 0, slots := 0, locals := 0 }
theorem iX1_leanAbove : zInfo yX1_leanAbove wsX1_leanAbove RX1 5 (some .long) 2 := ⟨_, _, rfl, by decide +kernel⟩
theorem nX1_leanAbove_X1 : ∀ w ∈ wsX10, w ∈ wsX1_leanAbove := by decide +kernel
theorem fX1_leanAbove_18 : Cond.fieldLink RX1 18 (TX1 2).1 (TX1 2).2.1 (TX1 2).2.2.1 ∈ wsX1_leanAbove := by decide +kernel
theorem fX1_leanAbove_21 : Cond.fieldLink RX1 21 (TX1 3).1 (TX1 3).2.1 (TX1 3).2.2.1 ∈ wsX1_leanAbove := by decide +kernel
theorem fX1_leanAbove_27 : Cond.fieldLink RX1 27 (TX1 5).1 (TX1 5).2.1 (TX1 5).2.2.1 ∈ wsX1_leanAbove := by decide +kernel
set_option maxHeartbeats 4000000 in
set_option maxRecDepth 100000 in
theorem qX1_leanAbove (E : zE) (h : Nat) (T : TB) (x y : Int64)  : zF E yX1_leanAbove wsX1_leanAbove rX1_leanAbove [.ref h, .long x, .long y] [cO h 1 [.long (ta T), .long (tb T), .long (tc T), .long (td T), .long (te T), .long (tf T), .long (tg T)]] (zx (some (.long (leanF T x y))) ([cO h 1 [.long (ta T), .long (tb T), .long (tc T), .long (td T), .long (te T), .long (tf T), .long (tg T)]])) := by
  refine z_start RX1 "leanAbove" (by decide) rfl rfl rfl (Nat.le_of_ble_eq_true rfl) ?_
  intro J Z
  refine g_eq Z (lv2 := [(0, .ref h), (1, .long x), (3, .long y)]) rfl rfl rfl ?_
  refine g_aload_n Z dX1_leanAbove_0 0 rfl rfl ?_
  refine g_get Z dX1_leanAbove_1 0 rfl rfl nX1_leanAbove_X1 2 (by decide) fX1_leanAbove_18 rfl ?_
  refine g_lload_n Z dX1_leanAbove_4 1 rfl rfl ?_
  refine g_lmul Z dX1_leanAbove_5 ?_
  refine g_aload_n Z dX1_leanAbove_6 0 rfl rfl ?_
  refine g_get Z dX1_leanAbove_7 0 rfl rfl nX1_leanAbove_X1 3 (by decide) fX1_leanAbove_21 rfl ?_
  refine g_lload_n Z dX1_leanAbove_10 2 rfl rfl ?_
  refine g_lmul Z dX1_leanAbove_11 ?_
  refine g_ladd Z dX1_leanAbove_12 ?_
  refine g_aload_n Z dX1_leanAbove_13 0 rfl rfl ?_
  refine g_get Z dX1_leanAbove_14 0 rfl rfl nX1_leanAbove_X1 5 (by decide) fX1_leanAbove_27 rfl ?_
  refine g_ladd Z dX1_leanAbove_17 ?_
  exact g_lret Z dX1_leanAbove_18 rfl ⟨Nat.zero_le _, Nat.zero_le _⟩ ⟨rfl, rfl⟩

abbrev rX1_isBetween : Room := { frames := 1, cells := 0, slots := 0, locals := 20 }
theorem iX1_isBetween : zInfo yX1_isBetween wsX1_isBetween RX1 1 (some .boolean) 0 := ⟨_, _, rfl, by decide +kernel⟩
theorem kX1_isBetween_83 : Cond.constantLong RX1 83 (-2) ∈ wsX1_isBetween := by decide +kernel
theorem nX1_isBetween_X1 : ∀ w ∈ wsX10, w ∈ wsX1_isBetween := by decide +kernel
theorem fX1_isBetween_30 : Cond.fieldLink RX1 30 (TX1 6).1 (TX1 6).2.1 (TX1 6).2.2.1 ∈ wsX1_isBetween := by decide +kernel
theorem kX1_isBetween_85 : Cond.constantLong RX1 85 (2) ∈ wsX1_isBetween := by decide +kernel
set_option maxHeartbeats 4000000 in
set_option maxRecDepth 100000 in
theorem qX1_isBetween (E : zE) (h : Nat) (T : TB)  : zF E yX1_isBetween wsX1_isBetween rX1_isBetween [.ref h] [cO h 1 [.long (ta T), .long (tb T), .long (tc T), .long (td T), .long (te T), .long (tf T), .long (tg T)]] (zx (some (.int (if btw T then 1 else 0))) ([cO h 1 [.long (ta T), .long (tb T), .long (tc T), .long (td T), .long (te T), .long (tf T), .long (tg T)]])) := by
  refine z_start RX1 "isBetween" (by decide) rfl rfl rfl (Nat.le_of_ble_eq_true rfl) ?_
  intro J Z
  refine g_eq Z (lv2 := [(0, .ref h)]) rfl rfl rfl ?_
  refine g_aload_n Z dX1_isBetween_0 0 rfl rfl ?_
  refine g_callVx (w' := [cO h 1 [.long (ta T), .long (tb T), .long (tc T), .long (td T), .long (te T), .long (tf T), .long (tg T)]]) Z (qX1_sum E h T) iX1_sum gX1_isBetween_X1_sum ⟨rfl, rfl⟩ ⟨Nat.le_of_ble_eq_true rfl, Nat.le_of_ble_eq_true rfl⟩ dX1_isBetween_1 rfl rfl (Nat.le_of_ble_eq_true rfl) ⟨Nat.zero_le _, Nat.zero_le _⟩ [0] rfl rfl 0 rfl rfl rfl rfl rfl ?_
  refine g_ldc2 Z dX1_isBetween_4 kX1_isBetween_83 ?_
  refine g_aload_n Z dX1_isBetween_7 0 rfl rfl ?_
  refine g_get Z dX1_isBetween_8 0 rfl rfl nX1_isBetween_X1 6 (by decide) fX1_isBetween_30 rfl ?_
  refine g_lmul Z dX1_isBetween_11 ?_
  refine g_lcmp_le (tgt := 36) Z dX1_isBetween_12 dX1_isBetween_13 rfl (by decide) (fun c_13 => ?_) (fun c_13 => ?_)
  · refine g_iconst Z dX1_isBetween_36 zi_0 ?_
    exact g_zret Z dX1_isBetween_37 rfl rfl ⟨Nat.zero_le _, Nat.zero_le _⟩ ⟨z_f (by first | (simp [btw, c_13]; done) | grind), rfl⟩
  · refine g_aload_n Z dX1_isBetween_16 0 rfl rfl ?_
    refine g_callVx (w' := [cO h 1 [.long (ta T), .long (tb T), .long (tc T), .long (td T), .long (te T), .long (tf T), .long (tg T)]]) Z (qX1_sum E h T) iX1_sum gX1_isBetween_X1_sum ⟨rfl, rfl⟩ ⟨Nat.le_of_ble_eq_true rfl, Nat.le_of_ble_eq_true rfl⟩ dX1_isBetween_17 rfl rfl (Nat.le_of_ble_eq_true rfl) ⟨Nat.zero_le _, Nat.zero_le _⟩ [0] rfl rfl 0 rfl rfl rfl rfl rfl ?_
    refine g_ldc2 Z dX1_isBetween_20 kX1_isBetween_85 ?_
    refine g_aload_n Z dX1_isBetween_23 0 rfl rfl ?_
    refine g_get Z dX1_isBetween_24 0 rfl rfl nX1_isBetween_X1 6 (by decide) fX1_isBetween_30 rfl ?_
    refine g_lmul Z dX1_isBetween_27 ?_
    refine g_lcmp_ge (tgt := 36) Z dX1_isBetween_28 dX1_isBetween_29 rfl (by decide) (fun c_29 => ?_) (fun c_29 => ?_)
    · refine g_iconst Z dX1_isBetween_36 zi_0 ?_
      exact g_zret Z dX1_isBetween_37 rfl rfl ⟨Nat.zero_le _, Nat.zero_le _⟩ ⟨z_f (by first | (simp [btw, c_13, c_29]; done) | grind), rfl⟩
    · refine g_iconst Z dX1_isBetween_32 zi_1 ?_
      refine g_goto (tgt := 37) Z dX1_isBetween_33 (by decide) ?_
      exact g_zret Z dX1_isBetween_37 rfl rfl ⟨Nat.zero_le _, Nat.zero_le _⟩ ⟨z_t (by first | (simp [btw, c_13, c_29]; done) | grind), rfl⟩

abbrev rX1_isPlain : Room := { frames := 0, cells := 0, slots := 0, locals := 0 }
theorem iX1_isPlain : zInfo yX1_isPlain wsX1_isPlain RX1 3 (some .boolean) 1 := ⟨_, _, rfl, by decide +kernel⟩
theorem nX1_isPlain_X1 : ∀ w ∈ wsX10, w ∈ wsX1_isPlain := by decide +kernel
theorem fX1_isPlain_9 : Cond.fieldLink RX1 9 (TX1 0).1 (TX1 0).2.1 (TX1 0).2.2.1 ∈ wsX1_isPlain := by decide +kernel
theorem fX1_isPlain_21 : Cond.fieldLink RX1 21 (TX1 3).1 (TX1 3).2.1 (TX1 3).2.2.1 ∈ wsX1_isPlain := by decide +kernel
theorem fX1_isPlain_15 : Cond.fieldLink RX1 15 (TX1 1).1 (TX1 1).2.1 (TX1 1).2.2.1 ∈ wsX1_isPlain := by decide +kernel
theorem fX1_isPlain_18 : Cond.fieldLink RX1 18 (TX1 2).1 (TX1 2).2.1 (TX1 2).2.2.1 ∈ wsX1_isPlain := by decide +kernel
set_option maxHeartbeats 4000000 in
set_option maxRecDepth 100000 in
theorem qX1_isPlain (E : zE) (h : Nat) (T : TB) (x : Int64)  : zF E yX1_isPlain wsX1_isPlain rX1_isPlain [.ref h, .long x] [cO h 1 [.long (ta T), .long (tb T), .long (tc T), .long (td T), .long (te T), .long (tf T), .long (tg T)]] (zx (some (.int (if pln T x then 1 else 0))) ([cO h 1 [.long (ta T), .long (tb T), .long (tc T), .long (td T), .long (te T), .long (tf T), .long (tg T)]])) := by
  refine z_start RX1 "isPlain" (by decide) rfl rfl rfl (Nat.le_of_ble_eq_true rfl) ?_
  intro J Z
  refine g_eq Z (lv2 := [(0, .ref h), (1, .long x)]) rfl rfl rfl ?_
  refine g_aload_n Z dX1_isPlain_0 0 rfl rfl ?_
  refine g_get Z dX1_isPlain_1 0 rfl rfl nX1_isPlain_X1 0 (by decide) fX1_isPlain_9 rfl ?_
  refine g_lload_n Z dX1_isPlain_4 1 rfl rfl ?_
  refine g_lcmp_ne (tgt := 40) Z dX1_isPlain_5 dX1_isPlain_6 rfl (by decide) (fun c_6 => ?_) (fun c_6 => ?_)
  · refine g_iconst Z dX1_isPlain_40 zi_0 ?_
    exact g_zret Z dX1_isPlain_41 rfl rfl ⟨Nat.zero_le _, Nat.zero_le _⟩ ⟨z_f (by first | (simp [pln, c_6]; done) | grind), rfl⟩
  · refine g_aload_n Z dX1_isPlain_9 0 rfl rfl ?_
    refine g_get Z dX1_isPlain_10 0 rfl rfl nX1_isPlain_X1 3 (by decide) fX1_isPlain_21 rfl ?_
    refine g_lload_n Z dX1_isPlain_13 1 rfl rfl ?_
    refine g_lcmp_ne (tgt := 40) Z dX1_isPlain_14 dX1_isPlain_15 rfl (by decide) (fun c_15 => ?_) (fun c_15 => ?_)
    · refine g_iconst Z dX1_isPlain_40 zi_0 ?_
      exact g_zret Z dX1_isPlain_41 rfl rfl ⟨Nat.zero_le _, Nat.zero_le _⟩ ⟨z_f (by first | (simp [pln, c_6, c_15]; done) | grind), rfl⟩
    · refine g_aload_n Z dX1_isPlain_18 0 rfl rfl ?_
      refine g_get Z dX1_isPlain_19 0 rfl rfl nX1_isPlain_X1 1 (by decide) fX1_isPlain_15 rfl ?_
      refine g_lconst Z dX1_isPlain_22 zl_0 ?_
      refine g_lcmp_ne (tgt := 40) Z dX1_isPlain_23 dX1_isPlain_24 rfl (by decide) (fun c_24 => ?_) (fun c_24 => ?_)
      · refine g_iconst Z dX1_isPlain_40 zi_0 ?_
        exact g_zret Z dX1_isPlain_41 rfl rfl ⟨Nat.zero_le _, Nat.zero_le _⟩ ⟨z_f (by first | (simp [pln, c_6, c_15, c_24]; done) | grind), rfl⟩
      · refine g_aload_n Z dX1_isPlain_27 0 rfl rfl ?_
        refine g_get Z dX1_isPlain_28 0 rfl rfl nX1_isPlain_X1 2 (by decide) fX1_isPlain_18 rfl ?_
        refine g_lconst Z dX1_isPlain_31 zl_0 ?_
        refine g_lcmp_ne (tgt := 40) Z dX1_isPlain_32 dX1_isPlain_33 rfl (by decide) (fun c_33 => ?_) (fun c_33 => ?_)
        · refine g_iconst Z dX1_isPlain_40 zi_0 ?_
          exact g_zret Z dX1_isPlain_41 rfl rfl ⟨Nat.zero_le _, Nat.zero_le _⟩ ⟨z_f (by first | (simp [pln, c_6, c_15, c_24, c_33]; done) | grind), rfl⟩
        · refine g_iconst Z dX1_isPlain_36 zi_1 ?_
          refine g_goto (tgt := 41) Z dX1_isPlain_37 (by decide) ?_
          exact g_zret Z dX1_isPlain_41 rfl rfl ⟨Nat.zero_le _, Nat.zero_le _⟩ ⟨z_t (by first | (simp [pln, c_6, c_15, c_24, c_33]; done) | grind), rfl⟩

abbrev rX1_manner : Room := { frames := 2, cells := 0, slots := 0, locals := 40 }
theorem iX1_manner : zInfo yX1_manner wsX1_manner RX1 1 (some .int) 0 := ⟨_, _, rfl, by decide +kernel⟩
theorem nX1_manner_X1 : ∀ w ∈ wsX10, w ∈ wsX1_manner := by decide +kernel
theorem fX1_manner_30 : Cond.fieldLink RX1 30 (TX1 6).1 (TX1 6).2.1 (TX1 6).2.2.1 ∈ wsX1_manner := by decide +kernel
theorem kX1_manner_85 : Cond.constantLong RX1 85 (2) ∈ wsX1_manner := by decide +kernel
theorem kX1_manner_83 : Cond.constantLong RX1 83 (-2) ∈ wsX1_manner := by decide +kernel
set_option maxHeartbeats 4000000 in
set_option maxRecDepth 100000 in
theorem qX1_manner (E : zE) (h : Nat) (T : TB)  : zF E yX1_manner wsX1_manner rX1_manner [.ref h] [cO h 1 [.long (ta T), .long (tb T), .long (tc T), .long (td T), .long (te T), .long (tf T), .long (tg T)]] (zx (some (.int (manF T))) ([cO h 1 [.long (ta T), .long (tb T), .long (tc T), .long (td T), .long (te T), .long (tf T), .long (tg T)]])) := by
  refine z_start RX1 "manner" (by decide) rfl rfl rfl (Nat.le_of_ble_eq_true rfl) ?_
  intro J Z
  refine g_eq Z (lv2 := [(0, .ref h)]) rfl rfl rfl ?_
  refine g_aload_n Z dX1_manner_0 0 rfl rfl ?_
  refine g_callVx (w' := [cO h 1 [.long (ta T), .long (tb T), .long (tc T), .long (td T), .long (te T), .long (tf T), .long (tg T)]]) Z (qX1_isBetween E h T) iX1_isBetween gX1_manner_X1_isBetween ⟨rfl, rfl⟩ ⟨Nat.le_of_ble_eq_true rfl, Nat.le_of_ble_eq_true rfl⟩ dX1_manner_1 rfl rfl (Nat.le_of_ble_eq_true rfl) ⟨Nat.zero_le _, Nat.zero_le _⟩ [0] rfl rfl 0 rfl rfl rfl rfl rfl ?_
  refine g_ifb_ne (tgt := 30) Z dX1_manner_4 (by decide) (fun c_4 => ?_) (fun c_4 => ?_)
  · refine g_iconst Z dX1_manner_30 zi_0 ?_
    exact g_iret Z dX1_manner_31 rfl ⟨Nat.zero_le _, Nat.zero_le _⟩ ⟨congrArg (fun v => some (Value.int v)) (by rw [manF, if_pos c_4]), rfl⟩
  · refine g_aload_n Z dX1_manner_7 0 rfl rfl ?_
    refine g_aload_n Z dX1_manner_8 0 rfl rfl ?_
    refine g_get Z dX1_manner_9 0 rfl rfl nX1_manner_X1 6 (by decide) fX1_manner_30 rfl ?_
    refine g_callVx (w' := [cO h 1 [.long (ta T), .long (tb T), .long (tc T), .long (td T), .long (te T), .long (tf T), .long (tg T)]]) Z (qX1_isPlain E h T (tg T)) iX1_isPlain gX1_manner_X1_isPlain ⟨rfl, rfl⟩ ⟨Nat.le_of_ble_eq_true rfl, Nat.le_of_ble_eq_true rfl⟩ dX1_manner_12 rfl rfl (Nat.le_of_ble_eq_true rfl) ⟨Nat.zero_le _, Nat.zero_le _⟩ [0] rfl rfl 0 rfl rfl rfl rfl rfl ?_
    refine g_ifb_ne (tgt := 30) Z dX1_manner_15 (by decide) (fun c_15 => ?_) (fun c_15 => ?_)
    · refine g_iconst Z dX1_manner_30 zi_0 ?_
      exact g_iret Z dX1_manner_31 rfl ⟨Nat.zero_le _, Nat.zero_le _⟩ ⟨congrArg (fun v => some (Value.int v)) (by rw [manF, if_neg c_4, if_pos c_15]), rfl⟩
    · refine g_aload_n Z dX1_manner_18 0 rfl rfl ?_
      refine g_aload_n Z dX1_manner_19 0 rfl rfl ?_
      refine g_get Z dX1_manner_20 0 rfl rfl nX1_manner_X1 6 (by decide) fX1_manner_30 rfl ?_
      refine g_lneg Z dX1_manner_23 ?_
      refine g_callVx (w' := [cO h 1 [.long (ta T), .long (tb T), .long (tc T), .long (td T), .long (te T), .long (tf T), .long (tg T)]]) Z (qX1_isPlain E h T (-(tg T))) iX1_isPlain gX1_manner_X1_isPlain ⟨rfl, rfl⟩ ⟨Nat.le_of_ble_eq_true rfl, Nat.le_of_ble_eq_true rfl⟩ dX1_manner_24 rfl rfl (Nat.le_of_ble_eq_true rfl) ⟨Nat.zero_le _, Nat.zero_le _⟩ [0] rfl rfl 0 rfl rfl rfl rfl rfl ?_
      refine g_ifb_eq (tgt := 32) Z dX1_manner_27 (by decide) (fun c_27 => ?_) (fun c_27 => ?_)
      · refine g_aload_n Z dX1_manner_32 0 rfl rfl ?_
        refine g_callVx (w' := [cO h 1 [.long (ta T), .long (tb T), .long (tc T), .long (td T), .long (te T), .long (tf T), .long (tg T)]]) Z (qX1_sum E h T) iX1_sum gX1_manner_X1_sum ⟨rfl, rfl⟩ ⟨Nat.le_of_ble_eq_true rfl, Nat.le_of_ble_eq_true rfl⟩ dX1_manner_33 rfl rfl (Nat.le_of_ble_eq_true rfl) ⟨Nat.zero_le _, Nat.zero_le _⟩ [0] rfl rfl 0 rfl rfl rfl rfl rfl ?_
        refine g_ldc2 Z dX1_manner_36 kX1_manner_85 ?_
        refine g_aload_n Z dX1_manner_39 0 rfl rfl ?_
        refine g_get Z dX1_manner_40 0 rfl rfl nX1_manner_X1 6 (by decide) fX1_manner_30 rfl ?_
        refine g_lmul Z dX1_manner_43 ?_
        refine g_lcmp_eq (tgt := 64) Z dX1_manner_44 dX1_manner_45 rfl (by decide) (fun c_45 => ?_) (fun c_45 => ?_)
        · refine g_iconst Z dX1_manner_64 zi_1 ?_
          refine g_goto (tgt := 69) Z dX1_manner_65 (by decide) ?_
          exact g_iret Z dX1_manner_69 rfl ⟨Nat.zero_le _, Nat.zero_le _⟩ ⟨congrArg (fun v => some (Value.int v)) (by rw [manF, if_neg c_4, if_neg c_15, if_neg c_27, if_pos c_45]), rfl⟩
        · refine g_aload_n Z dX1_manner_48 0 rfl rfl ?_
          refine g_callVx (w' := [cO h 1 [.long (ta T), .long (tb T), .long (tc T), .long (td T), .long (te T), .long (tf T), .long (tg T)]]) Z (qX1_sum E h T) iX1_sum gX1_manner_X1_sum ⟨rfl, rfl⟩ ⟨Nat.le_of_ble_eq_true rfl, Nat.le_of_ble_eq_true rfl⟩ dX1_manner_49 rfl rfl (Nat.le_of_ble_eq_true rfl) ⟨Nat.zero_le _, Nat.zero_le _⟩ [0] rfl rfl 0 rfl rfl rfl rfl rfl ?_
          refine g_ldc2 Z dX1_manner_52 kX1_manner_83 ?_
          refine g_aload_n Z dX1_manner_55 0 rfl rfl ?_
          refine g_get Z dX1_manner_56 0 rfl rfl nX1_manner_X1 6 (by decide) fX1_manner_30 rfl ?_
          refine g_lmul Z dX1_manner_59 ?_
          refine g_lcmp_ne (tgt := 68) Z dX1_manner_60 dX1_manner_61 rfl (by decide) (fun c_61 => ?_) (fun c_61 => ?_)
          · refine g_iconst Z dX1_manner_68 zi_2 ?_
            exact g_iret Z dX1_manner_69 rfl ⟨Nat.zero_le _, Nat.zero_le _⟩ ⟨congrArg (fun v => some (Value.int v)) (by rw [manF, if_neg c_4, if_neg c_15, if_neg c_27, if_neg c_45, if_neg c_61]), rfl⟩
          · refine g_iconst Z dX1_manner_64 zi_1 ?_
            refine g_goto (tgt := 69) Z dX1_manner_65 (by decide) ?_
            exact g_iret Z dX1_manner_69 rfl ⟨Nat.zero_le _, Nat.zero_le _⟩ ⟨congrArg (fun v => some (Value.int v)) (by rw [manF, if_neg c_4, if_neg c_15, if_neg c_27, if_neg c_45, if_pos c_61]), rfl⟩
      · refine g_iconst Z dX1_manner_30 zi_0 ?_
        exact g_iret Z dX1_manner_31 rfl ⟨Nat.zero_le _, Nat.zero_le _⟩ ⟨congrArg (fun v => some (Value.int v)) (by rw [manF, if_neg c_4, if_neg c_15, if_pos c_27]), rfl⟩

abbrev rX1_roundsToComeBack : Room := { frames := 1, cells := 0, slots := 0, locals := 22 }
theorem iX1_roundsToComeBack : zInfo yX1_roundsToComeBack wsX1_roundsToComeBack RX1 1 (some .int) 0 := ⟨_, _, rfl, by decide +kernel⟩
theorem nX1_roundsToComeBack_X1 : ∀ w ∈ wsX10, w ∈ wsX1_roundsToComeBack := by decide +kernel
theorem fX1_roundsToComeBack_30 : Cond.fieldLink RX1 30 (TX1 6).1 (TX1 6).2.1 (TX1 6).2.2.1 ∈ wsX1_roundsToComeBack := by decide +kernel
set_option maxHeartbeats 4000000 in
set_option maxRecDepth 100000 in
theorem qX1_roundsToComeBack (E : zE) (h : Nat) (T : TB)  : zF E yX1_roundsToComeBack wsX1_roundsToComeBack rX1_roundsToComeBack [.ref h] [cO h 1 [.long (ta T), .long (tb T), .long (tc T), .long (td T), .long (te T), .long (tf T), .long (tg T)]] (zx (some (.int (rndF T))) ([cO h 1 [.long (ta T), .long (tb T), .long (tc T), .long (td T), .long (te T), .long (tf T), .long (tg T)]])) := by
  refine z_start RX1 "roundsToComeBack" (by decide) rfl rfl rfl (Nat.le_of_ble_eq_true rfl) ?_
  intro J Z
  refine g_eq Z (lv2 := [(0, .ref h)]) rfl rfl rfl ?_
  refine g_aload_n Z dX1_roundsToComeBack_0 0 rfl rfl ?_
  refine g_aload_n Z dX1_roundsToComeBack_1 0 rfl rfl ?_
  refine g_get Z dX1_roundsToComeBack_2 0 rfl rfl nX1_roundsToComeBack_X1 6 (by decide) fX1_roundsToComeBack_30 rfl ?_
  refine g_callVx (w' := [cO h 1 [.long (ta T), .long (tb T), .long (tc T), .long (td T), .long (te T), .long (tf T), .long (tg T)]]) Z (qX1_isPlain E h T (tg T)) iX1_isPlain gX1_roundsToComeBack_X1_isPlain ⟨rfl, rfl⟩ ⟨Nat.le_of_ble_eq_true rfl, Nat.le_of_ble_eq_true rfl⟩ dX1_roundsToComeBack_5 rfl rfl (Nat.le_of_ble_eq_true rfl) ⟨Nat.zero_le _, Nat.zero_le _⟩ [0] rfl rfl 0 rfl rfl rfl rfl rfl ?_
  refine g_ifb_eq (tgt := 13) Z dX1_roundsToComeBack_8 (by decide) (fun c_8 => ?_) (fun c_8 => ?_)
  · refine g_aload_n Z dX1_roundsToComeBack_13 0 rfl rfl ?_
    refine g_aload_n Z dX1_roundsToComeBack_14 0 rfl rfl ?_
    refine g_get Z dX1_roundsToComeBack_15 0 rfl rfl nX1_roundsToComeBack_X1 6 (by decide) fX1_roundsToComeBack_30 rfl ?_
    refine g_lneg Z dX1_roundsToComeBack_18 ?_
    refine g_callVx (w' := [cO h 1 [.long (ta T), .long (tb T), .long (tc T), .long (td T), .long (te T), .long (tf T), .long (tg T)]]) Z (qX1_isPlain E h T (-(tg T))) iX1_isPlain gX1_roundsToComeBack_X1_isPlain ⟨rfl, rfl⟩ ⟨Nat.le_of_ble_eq_true rfl, Nat.le_of_ble_eq_true rfl⟩ dX1_roundsToComeBack_19 rfl rfl (Nat.le_of_ble_eq_true rfl) ⟨Nat.zero_le _, Nat.zero_le _⟩ [0] rfl rfl 0 rfl rfl rfl rfl rfl ?_
    refine g_ifb_eq (tgt := 27) Z dX1_roundsToComeBack_22 (by decide) (fun c_22 => ?_) (fun c_22 => ?_)
    · refine g_aload_n Z dX1_roundsToComeBack_27 0 rfl rfl ?_
      refine g_callVx (w' := [cO h 1 [.long (ta T), .long (tb T), .long (tc T), .long (td T), .long (te T), .long (tf T), .long (tg T)]]) Z (qX1_sum E h T) iX1_sum gX1_roundsToComeBack_X1_sum ⟨rfl, rfl⟩ ⟨Nat.le_of_ble_eq_true rfl, Nat.le_of_ble_eq_true rfl⟩ dX1_roundsToComeBack_28 rfl rfl (Nat.le_of_ble_eq_true rfl) ⟨Nat.zero_le _, Nat.zero_le _⟩ [0] rfl rfl 0 rfl rfl rfl rfl rfl ?_
      refine g_aload_n Z dX1_roundsToComeBack_31 0 rfl rfl ?_
      refine g_get Z dX1_roundsToComeBack_32 0 rfl rfl nX1_roundsToComeBack_X1 6 (by decide) fX1_roundsToComeBack_30 rfl ?_
      refine g_lneg Z dX1_roundsToComeBack_35 ?_
      refine g_lcmp_ne (tgt := 42) Z dX1_roundsToComeBack_36 dX1_roundsToComeBack_37 rfl (by decide) (fun c_37 => ?_) (fun c_37 => ?_)
      · refine g_aload_n Z dX1_roundsToComeBack_42 0 rfl rfl ?_
        refine g_callVx (w' := [cO h 1 [.long (ta T), .long (tb T), .long (tc T), .long (td T), .long (te T), .long (tf T), .long (tg T)]]) Z (qX1_sum E h T) iX1_sum gX1_roundsToComeBack_X1_sum ⟨rfl, rfl⟩ ⟨Nat.le_of_ble_eq_true rfl, Nat.le_of_ble_eq_true rfl⟩ dX1_roundsToComeBack_43 rfl rfl (Nat.le_of_ble_eq_true rfl) ⟨Nat.zero_le _, Nat.zero_le _⟩ [0] rfl rfl 0 rfl rfl rfl rfl rfl ?_
        refine g_lconst Z dX1_roundsToComeBack_46 zl_0 ?_
        refine g_lcmp_ne (tgt := 53) Z dX1_roundsToComeBack_47 dX1_roundsToComeBack_48 rfl (by decide) (fun c_48 => ?_) (fun c_48 => ?_)
        · refine g_aload_n Z dX1_roundsToComeBack_53 0 rfl rfl ?_
          refine g_callVx (w' := [cO h 1 [.long (ta T), .long (tb T), .long (tc T), .long (td T), .long (te T), .long (tf T), .long (tg T)]]) Z (qX1_sum E h T) iX1_sum gX1_roundsToComeBack_X1_sum ⟨rfl, rfl⟩ ⟨Nat.le_of_ble_eq_true rfl, Nat.le_of_ble_eq_true rfl⟩ dX1_roundsToComeBack_54 rfl rfl (Nat.le_of_ble_eq_true rfl) ⟨Nat.zero_le _, Nat.zero_le _⟩ [0] rfl rfl 0 rfl rfl rfl rfl rfl ?_
          refine g_aload_n Z dX1_roundsToComeBack_57 0 rfl rfl ?_
          refine g_get Z dX1_roundsToComeBack_58 0 rfl rfl nX1_roundsToComeBack_X1 6 (by decide) fX1_roundsToComeBack_30 rfl ?_
          refine g_lcmp_ne (tgt := 70) Z dX1_roundsToComeBack_61 dX1_roundsToComeBack_62 rfl (by decide) (fun c_62 => ?_) (fun c_62 => ?_)
          · refine g_iconst Z dX1_roundsToComeBack_70 zi_0 ?_
            exact g_iret Z dX1_roundsToComeBack_71 rfl ⟨Nat.zero_le _, Nat.zero_le _⟩ ⟨congrArg (fun v => some (Value.int v)) (by rw [rndF, if_neg c_8, if_neg c_22, if_neg c_37, if_neg c_48, if_neg c_62]), rfl⟩
          · refine g_bipush Z dX1_roundsToComeBack_65 zb_6 ?_
            refine g_goto (tgt := 71) Z dX1_roundsToComeBack_67 (by decide) ?_
            exact g_iret Z dX1_roundsToComeBack_71 rfl ⟨Nat.zero_le _, Nat.zero_le _⟩ ⟨congrArg (fun v => some (Value.int v)) (by rw [rndF, if_neg c_8, if_neg c_22, if_neg c_37, if_neg c_48, if_pos c_62]), rfl⟩
        · refine g_iconst Z dX1_roundsToComeBack_51 zi_4 ?_
          exact g_iret Z dX1_roundsToComeBack_52 rfl ⟨Nat.zero_le _, Nat.zero_le _⟩ ⟨congrArg (fun v => some (Value.int v)) (by rw [rndF, if_neg c_8, if_neg c_22, if_neg c_37, if_pos c_48]), rfl⟩
      · refine g_iconst Z dX1_roundsToComeBack_40 zi_3 ?_
        exact g_iret Z dX1_roundsToComeBack_41 rfl ⟨Nat.zero_le _, Nat.zero_le _⟩ ⟨congrArg (fun v => some (Value.int v)) (by rw [rndF, if_neg c_8, if_neg c_22, if_pos c_37]), rfl⟩
    · refine g_iconst Z dX1_roundsToComeBack_25 zi_2 ?_
      exact g_iret Z dX1_roundsToComeBack_26 rfl ⟨Nat.zero_le _, Nat.zero_le _⟩ ⟨congrArg (fun v => some (Value.int v)) (by rw [rndF, if_neg c_8, if_pos c_22]), rfl⟩
  · refine g_iconst Z dX1_roundsToComeBack_11 zi_1 ?_
    exact g_iret Z dX1_roundsToComeBack_12 rfl ⟨Nat.zero_le _, Nat.zero_le _⟩ ⟨congrArg (fun v => some (Value.int v)) (by rw [rndF, if_pos c_8]), rfl⟩

abbrev rX1_above : Room := { frames := 0, cells := 0, slots := 0, locals := 0 }
theorem iX1_above : zInfo yX1_above wsX1_above RX1 2 (some .long) 1 := ⟨_, _, rfl, by decide +kernel⟩
theorem nX1_above_X1 : ∀ w ∈ wsX10, w ∈ wsX1_above := by decide +kernel
theorem fX1_above_9 : Cond.fieldLink RX1 9 (TX1 0).1 (TX1 0).2.1 (TX1 0).2.2.1 ∈ wsX1_above := by decide +kernel
theorem fX1_above_15 : Cond.fieldLink RX1 15 (TX1 1).1 (TX1 1).2.1 (TX1 1).2.2.1 ∈ wsX1_above := by decide +kernel
theorem fX1_above_18 : Cond.fieldLink RX1 18 (TX1 2).1 (TX1 2).2.1 (TX1 2).2.2.1 ∈ wsX1_above := by decide +kernel
theorem fX1_above_21 : Cond.fieldLink RX1 21 (TX1 3).1 (TX1 3).2.1 (TX1 3).2.2.1 ∈ wsX1_above := by decide +kernel
theorem fX1_above_24 : Cond.fieldLink RX1 24 (TX1 4).1 (TX1 4).2.1 (TX1 4).2.2.1 ∈ wsX1_above := by decide +kernel
theorem fX1_above_27 : Cond.fieldLink RX1 27 (TX1 5).1 (TX1 5).2.1 (TX1 5).2.2.1 ∈ wsX1_above := by decide +kernel
set_option maxHeartbeats 4000000 in
set_option maxRecDepth 100000 in
theorem qX1_above (E : zE) (h : Nat) (T : TB) (x : Int32)  : zF E yX1_above wsX1_above rX1_above [.ref h, .int x] [cO h 1 [.long (ta T), .long (tb T), .long (tc T), .long (td T), .long (te T), .long (tf T), .long (tg T)]] (zx (some (.long (abvF T x))) ([cO h 1 [.long (ta T), .long (tb T), .long (tc T), .long (td T), .long (te T), .long (tf T), .long (tg T)]])) := by
  refine z_start RX1 "above" (by decide) rfl rfl rfl (Nat.le_of_ble_eq_true rfl) ?_
  intro J Z
  refine g_eq Z (lv2 := [(0, .ref h), (1, .int x)]) rfl rfl rfl ?_
  refine g_iload_n Z dX1_above_0 1 rfl rfl ?_
  rcases z_sw4 x with c_1 | c_1 | c_1 | c_1 | c_1 | c_1
  · refine g_tsin (tgt := 36) Z dX1_above_1 0 c_1 (by decide) rfl (by decide) ?_
    refine g_aload_n Z dX1_above_36 0 rfl rfl ?_
    refine g_get Z dX1_above_37 0 rfl rfl nX1_above_X1 0 (by decide) fX1_above_9 rfl ?_
    exact g_lret Z dX1_above_40 rfl ⟨Nat.zero_le _, Nat.zero_le _⟩ ⟨by subst c_1; rfl, rfl⟩
  · refine g_tsin (tgt := 41) Z dX1_above_1 1 c_1 (by decide) rfl (by decide) ?_
    refine g_aload_n Z dX1_above_41 0 rfl rfl ?_
    refine g_get Z dX1_above_42 0 rfl rfl nX1_above_X1 1 (by decide) fX1_above_15 rfl ?_
    exact g_lret Z dX1_above_45 rfl ⟨Nat.zero_le _, Nat.zero_le _⟩ ⟨by subst c_1; rfl, rfl⟩
  · refine g_tsin (tgt := 46) Z dX1_above_1 2 c_1 (by decide) rfl (by decide) ?_
    refine g_aload_n Z dX1_above_46 0 rfl rfl ?_
    refine g_get Z dX1_above_47 0 rfl rfl nX1_above_X1 2 (by decide) fX1_above_18 rfl ?_
    exact g_lret Z dX1_above_50 rfl ⟨Nat.zero_le _, Nat.zero_le _⟩ ⟨by subst c_1; rfl, rfl⟩
  · refine g_tsin (tgt := 51) Z dX1_above_1 3 c_1 (by decide) rfl (by decide) ?_
    refine g_aload_n Z dX1_above_51 0 rfl rfl ?_
    refine g_get Z dX1_above_52 0 rfl rfl nX1_above_X1 3 (by decide) fX1_above_21 rfl ?_
    exact g_lret Z dX1_above_55 rfl ⟨Nat.zero_le _, Nat.zero_le _⟩ ⟨by subst c_1; rfl, rfl⟩
  · refine g_tsin (tgt := 56) Z dX1_above_1 4 c_1 (by decide) rfl (by decide) ?_
    refine g_aload_n Z dX1_above_56 0 rfl rfl ?_
    refine g_get Z dX1_above_57 0 rfl rfl nX1_above_X1 4 (by decide) fX1_above_24 rfl ?_
    exact g_lret Z dX1_above_60 rfl ⟨Nat.zero_le _, Nat.zero_le _⟩ ⟨by subst c_1; rfl, rfl⟩
  · refine g_tsout (tgt := 61) Z dX1_above_1 c_1.1 (by decide) ?_
    refine g_aload_n Z dX1_above_61 0 rfl rfl ?_
    refine g_get Z dX1_above_62 0 rfl rfl nX1_above_X1 5 (by decide) fX1_above_27 rfl ?_
    exact g_lret Z dX1_above_65 rfl ⟨Nat.zero_le _, Nat.zero_le _⟩ ⟨by simp only [abvF, if_neg c_1.2.1, if_neg c_1.2.2.1, if_neg c_1.2.2.2.1, if_neg c_1.2.2.2.2.1, if_neg c_1.2.2.2.2.2], rfl⟩

abbrev rX1_steepestWithin : Room := { frames := 1, cells := 0, slots := 0, locals := 23 }
theorem iX1_steepestWithin : zInfo yX1_steepestWithin wsX1_steepestWithin RX1 5 (some .long) 1 := ⟨_, _, rfl, by decide +kernel⟩
theorem nX1_steepestWithin_X1 : ∀ w ∈ wsX10, w ∈ wsX1_steepestWithin := by decide +kernel
theorem fX1_steepestWithin_30 : Cond.fieldLink RX1 30 (TX1 6).1 (TX1 6).2.1 (TX1 6).2.2.1 ∈ wsX1_steepestWithin := by decide +kernel
theorem fX1_steepestWithin_24 : Cond.fieldLink RX1 24 (TX1 4).1 (TX1 4).2.1 (TX1 4).2.2.1 ∈ wsX1_steepestWithin := by decide +kernel
theorem mX1_steepestWithin_71_l : Cond.methodLink RX1 71 Lib.MathLoose.abs_long.x ∈ wsX1_steepestWithin := by decide +kernel
theorem mX1_steepestWithin_71_s : Cond.static Lib.MathLoose.abs_long.x ∈ wsX1_steepestWithin := by decide +kernel
theorem mX1_steepestWithin_71_i : Cond.initialized "java/lang/Math" ∈ wsX1_steepestWithin := by decide +kernel
theorem mX1_steepestWithin_71_c : Cond.code Lib.MathLoose.abs_long.x Lib.MathLoose.abs_long.code 2 (some .long) ∈ wsX1_steepestWithin := by decide +kernel
theorem fX1_steepestWithin_15 : Cond.fieldLink RX1 15 (TX1 1).1 (TX1 1).2.1 (TX1 1).2.2.1 ∈ wsX1_steepestWithin := by decide +kernel
theorem kX1_steepestWithin_77 : Cond.constantLong RX1 77 (1000) ∈ wsX1_steepestWithin := by decide +kernel
theorem kX1_steepestWithin_69 : Cond.constantLong RX1 69 (-1) ∈ wsX1_steepestWithin := by decide +kernel
set_option maxHeartbeats 4000000 in
set_option maxRecDepth 100000 in
theorem qX1_steepestWithin (E : zE) (h : Nat) (T : TB) (x : Int64)  : zF E yX1_steepestWithin wsX1_steepestWithin rX1_steepestWithin [.ref h, .long x] [cO h 1 [.long (ta T), .long (tb T), .long (tc T), .long (td T), .long (te T), .long (tf T), .long (tg T)]] (zx (some (.long (stpF T x))) ([cO h 1 [.long (ta T), .long (tb T), .long (tc T), .long (td T), .long (te T), .long (tf T), .long (tg T)]])) := by
  refine z_start RX1 "steepestWithin" (by decide) rfl rfl rfl (Nat.le_of_ble_eq_true rfl) ?_
  intro J Z
  refine g_eq Z (lv2 := [(0, .ref h), (1, .long x)]) rfl rfl rfl ?_
  refine g_lload_n Z dX1_steepestWithin_0 1 rfl rfl ?_
  refine g_aload_n Z dX1_steepestWithin_1 0 rfl rfl ?_
  refine g_get Z dX1_steepestWithin_2 0 rfl rfl nX1_steepestWithin_X1 6 (by decide) fX1_steepestWithin_30 rfl ?_
  refine g_lmul Z dX1_steepestWithin_5 ?_
  refine g_lstore_n (lv' := [(3, .long (x * (tg T))), (0, .ref h), (1, .long x)]) Z dX1_steepestWithin_6 rfl (by decide) rfl ?_
  refine g_aload_n Z dX1_steepestWithin_7 1 rfl rfl ?_
  refine g_get Z dX1_steepestWithin_8 0 rfl rfl nX1_steepestWithin_X1 4 (by decide) fX1_steepestWithin_24 rfl ?_
  refine g_mabsL Z dX1_steepestWithin_11 mX1_steepestWithin_71_l mX1_steepestWithin_71_s mX1_steepestWithin_71_i mX1_steepestWithin_71_c (Nat.le_of_ble_eq_true rfl) (Nat.le_of_ble_eq_true rfl) ⟨Nat.zero_le _, Nat.zero_le _⟩ ?_
  refine g_lload_n Z dX1_steepestWithin_14 0 rfl rfl ?_
  refine g_lcmp_le (tgt := 23) Z dX1_steepestWithin_15 dX1_steepestWithin_16 rfl (by decide) (fun c_16 => ?_) (fun c_16 => ?_)
  · refine g_aload_n Z dX1_steepestWithin_23 1 rfl rfl ?_
    refine g_get Z dX1_steepestWithin_24 0 rfl rfl nX1_steepestWithin_X1 1 (by decide) fX1_steepestWithin_15 rfl ?_
    refine g_lconst Z dX1_steepestWithin_27 zl_0 ?_
    refine g_lcmp_ne (tgt := 36) Z dX1_steepestWithin_28 dX1_steepestWithin_29 rfl (by decide) (fun c_29 => ?_) (fun c_29 => ?_)
    · refine g_aload_n Z dX1_steepestWithin_36 1 rfl rfl ?_
      refine g_get Z dX1_steepestWithin_37 0 rfl rfl nX1_steepestWithin_X1 1 (by decide) fX1_steepestWithin_15 rfl ?_
      refine g_lconst Z dX1_steepestWithin_40 zl_0 ?_
      refine g_lcmp_le (tgt := 59) Z dX1_steepestWithin_41 dX1_steepestWithin_42 rfl (by decide) (fun c_42 => ?_) (fun c_42 => ?_)
      · refine g_lload_n Z dX1_steepestWithin_59 0 rfl rfl ?_
        refine g_aload_n Z dX1_steepestWithin_60 1 rfl rfl ?_
        refine g_get Z dX1_steepestWithin_61 0 rfl rfl nX1_steepestWithin_X1 4 (by decide) fX1_steepestWithin_24 rfl ?_
        refine g_ladd Z dX1_steepestWithin_64 ?_
        refine g_aload_n Z dX1_steepestWithin_65 1 rfl rfl ?_
        refine g_get Z dX1_steepestWithin_66 0 rfl rfl nX1_steepestWithin_X1 1 (by decide) fX1_steepestWithin_15 rfl ?_
        refine g_lneg Z dX1_steepestWithin_69 ?_
        refine g_ldiv Z dX1_steepestWithin_70 (z_neg0 c_29) ?_
        exact g_lret Z dX1_steepestWithin_71 rfl ⟨Nat.zero_le _, Nat.zero_le _⟩ ⟨congrArg (fun v => some (Value.long v)) (by rw [stpF, if_pos c_16, if_neg c_29, if_pos c_42]), rfl⟩
      · refine g_lload_n Z dX1_steepestWithin_45 0 rfl rfl ?_
        refine g_aload_n Z dX1_steepestWithin_46 1 rfl rfl ?_
        refine g_get Z dX1_steepestWithin_47 0 rfl rfl nX1_steepestWithin_X1 4 (by decide) fX1_steepestWithin_24 rfl ?_
        refine g_lsub Z dX1_steepestWithin_50 ?_
        refine g_aload_n Z dX1_steepestWithin_51 1 rfl rfl ?_
        refine g_get Z dX1_steepestWithin_52 0 rfl rfl nX1_steepestWithin_X1 1 (by decide) fX1_steepestWithin_15 rfl ?_
        refine g_ldiv Z dX1_steepestWithin_55 c_29 ?_
        refine g_goto (tgt := 71) Z dX1_steepestWithin_56 (by decide) ?_
        exact g_lret Z dX1_steepestWithin_71 rfl ⟨Nat.zero_le _, Nat.zero_le _⟩ ⟨congrArg (fun v => some (Value.long v)) (by rw [stpF, if_pos c_16, if_neg c_29, if_neg c_42]), rfl⟩
    · refine g_ldc2 Z dX1_steepestWithin_32 kX1_steepestWithin_77 ?_
      exact g_lret Z dX1_steepestWithin_35 rfl ⟨Nat.zero_le _, Nat.zero_le _⟩ ⟨congrArg (fun v => some (Value.long v)) (by rw [stpF, if_pos c_16, if_pos c_29]), rfl⟩
  · refine g_ldc2 Z dX1_steepestWithin_19 kX1_steepestWithin_69 ?_
    exact g_lret Z dX1_steepestWithin_22 rfl ⟨Nat.zero_le _, Nat.zero_le _⟩ ⟨congrArg (fun v => some (Value.long v)) (by rw [stpF, if_neg c_16]), rfl⟩

abbrev rX1_lead : Room := { frames := 2, cells := 0, slots := 0, locals := 48 }
theorem iX1_lead : zInfo yX1_lead wsX1_lead RX1 7 none 4 := ⟨_, _, rfl, by decide +kernel⟩
theorem nX1_lead_X0 : ∀ w ∈ wsX00, w ∈ wsX1_lead := by decide +kernel
theorem fX1_lead_54 : Cond.fieldLink RX1 54 (TX0 3).1 (TX0 3).2.1 (TX0 3).2.2.1 ∈ wsX1_lead := by decide +kernel
theorem fX1_lead_42 : Cond.fieldLink RX1 42 (TX0 0).1 (TX0 0).2.1 (TX0 0).2.2.1 ∈ wsX1_lead := by decide +kernel
set_option maxHeartbeats 4000000 in
set_option maxRecDepth 100000 in
theorem lX1_lead (E : zE) (h o k f s : Nat) (K F G : Nat → Int32) (T : TB) (way : Int32) (z j e : Nat) (hz : z ≤ 8) (hj : j ≤ 8) (he : e ≤ 8) {J : zJ} (Z : zOk E J RX1 cX1_lead 7 none wsX1_lead rX1_lead "lead" (fun _ => True) (zx none ([cO h 1 [.long (ta (ledF K F G way z j T1 e)), .long (tb (ledF K F G way z j T1 e)), .long (tc (ledF K F G way z j T1 e)), .long (td (ledF K F G way z j T1 e)), .long (te (ledF K F G way z j T1 e)), .long (tf (ledF K F G way z j T1 e)), .long (tg (ledF K F G way z j T1 e))], cO o 0 [.ref k, .ref f, .ref s, .int (nI z)], cI E k 8 K, cI E f 8 F, cI E s 8 G])))  : ∀ (d : Nat) (q p : Nat) (T2 : TB), q + d = e → p ≤ 8 → ledF K F G way z p T2 d = ledF K F G way z j T1 e → J 0 0 [cO h 1 [.long (ta T2), .long (tb T2), .long (tc T2), .long (td T2), .long (te T2), .long (tf T2), .long (tg T2)], cO o 0 [.ref k, .ref f, .ref s, .int (nI z)], cI E k 8 K, cI E f 8 F, cI E s 8 G] 10 [(6, .int (nI q)), (5, .int (nI p)), (0, .ref h), (1, .ref o), (2, .int way), (3, .int (nI j)), (4, .int (nI e))] [] := by
  intro d
  induction d with
  | zero =>
    intro q p T2 h1 h2 h3
    simp only [ledF] at h3
    refine g_iload Z dX1_lead_10 0 rfl ?_
    refine g_iload Z dX1_lead_12 6 rfl ?_
    refine g_icmpN_ge (tgt := 71) Z dX1_lead_14 (by decide) q e rfl rfl (by omega) (by omega) (fun c_14 => ?_) (fun c_14 => absurd c_14 (by omega))
    exact g_vret Z dX1_lead_71 rfl ⟨Nat.zero_le _, Nat.zero_le _⟩ ⟨rfl, by rw [h3]⟩
  | succ d ih =>
    intro q p T2 h1 h2 h3
    refine g_iload Z dX1_lead_10 0 rfl ?_
    refine g_iload Z dX1_lead_12 6 rfl ?_
    refine g_icmpN_ge (tgt := 71) Z dX1_lead_14 (by decide) q e rfl rfl (by omega) (by omega) (fun c_14 => absurd c_14 (by omega)) (fun c_14 => ?_)
    refine g_aload_n Z dX1_lead_17 3 rfl rfl ?_
    refine g_iload Z dX1_lead_18 1 rfl ?_
    refine g_callVx (w' := [cO h 1 [.long (ta T2), .long (tb T2), .long (tc T2), .long (td T2), .long (te T2), .long (tf T2), .long (tg T2)], cO o 0 [.ref k, .ref f, .ref s, .int (nI z)], cI E k 8 K, cI E f 8 F, cI E s 8 G]) Z (qX0_hasN E o k f s z p (by omega) (by omega)) iX0_has gX1_lead_X0_has ⟨rfl, rfl⟩ ⟨Nat.le_of_ble_eq_true rfl, Nat.le_of_ble_eq_true rfl⟩ dX1_lead_20 rfl rfl (Nat.le_of_ble_eq_true rfl) ⟨Nat.zero_le _, Nat.zero_le _⟩ [1] rfl rfl 0 rfl rfl rfl rfl rfl ?_
    refine g_ifb_eq (tgt := 44) Z dX1_lead_23 (by decide) (fun c_23 => ?_) (fun c_23 => ?_)
    · refine g_iload Z dX1_lead_44 1 rfl ?_
      refine g_iconst Z dX1_lead_46 zi_1 ?_
      refine g_iaddE (z := nI (p + 1)) Z dX1_lead_47 (nI_add p 1) ?_
      refine g_aload_n Z dX1_lead_48 3 rfl rfl ?_
      refine g_get Z dX1_lead_49 1 rfl rfl nX1_lead_X0 3 (by decide) fX1_lead_54 rfl ?_
      refine g_icmpN_ge (tgt := 62) Z dX1_lead_52 (by decide) (p + 1) z rfl rfl (by omega) (by omega) (fun c_52 => ?_) (fun c_52 => ?_)
      · refine g_iconst Z dX1_lead_62 zi_0 ?_
        refine g_istore (lv' := [(5, .int 0), (6, .int (nI q)), (0, .ref h), (1, .ref o), (2, .int way), (3, .int (nI j)), (4, .int (nI e))]) Z dX1_lead_63 (by decide) rfl ?_
        refine g_iinc (lv' := [(6, .int (nI (q + 1))), (5, .int 0), (0, .ref h), (1, .ref o), (2, .int way), (3, .int (nI j)), (4, .int (nI e))]) Z dX1_lead_65 1 rfl (zinc _) (by decide) rfl ?_
        refine g_goto (tgt := 10) Z dX1_lead_68 (by decide) ?_
        simp only [ledF, if_neg c_23, if_neg (Nat.not_lt.mpr c_52)] at h3
        refine g_lv (lv2 := [(6, .int (nI (q + 1))), (5, .int 0), (0, .ref h), (1, .ref o), (2, .int way), (3, .int (nI j)), (4, .int (nI e))]) Z [0, 1, 2, 3, 4, 5, 6] rfl ?_
        exact ih (q + 1) 0 _ (by omega) (by omega) h3
      · refine g_iload Z dX1_lead_55 1 rfl ?_
        refine g_iconst Z dX1_lead_57 zi_1 ?_
        refine g_iaddE (z := nI (p + 1)) Z dX1_lead_58 (nI_add p 1) ?_
        refine g_goto (tgt := 63) Z dX1_lead_59 (by decide) ?_
        refine g_istore (lv' := [(5, .int (nI (p + 1))), (6, .int (nI q)), (0, .ref h), (1, .ref o), (2, .int way), (3, .int (nI j)), (4, .int (nI e))]) Z dX1_lead_63 (by decide) rfl ?_
        refine g_iinc (lv' := [(6, .int (nI (q + 1))), (5, .int (nI (p + 1))), (0, .ref h), (1, .ref o), (2, .int way), (3, .int (nI j)), (4, .int (nI e))]) Z dX1_lead_65 1 rfl (zinc _) (by decide) rfl ?_
        refine g_goto (tgt := 10) Z dX1_lead_68 (by decide) ?_
        simp only [ledF, if_neg c_23, if_pos c_52] at h3
        refine g_lv (lv2 := [(6, .int (nI (q + 1))), (5, .int (nI (p + 1))), (0, .ref h), (1, .ref o), (2, .int way), (3, .int (nI j)), (4, .int (nI e))]) Z [0, 1, 2, 3, 4, 5, 6] rfl ?_
        exact ih (q + 1) (p + 1) _ (by omega) (by omega) h3
    · refine g_aload_n Z dX1_lead_26 2 rfl rfl ?_
      refine g_aload_n Z dX1_lead_27 3 rfl rfl ?_
      refine g_get Z dX1_lead_28 1 rfl rfl nX1_lead_X0 0 (by decide) fX1_lead_42 rfl ?_
      refine g_iload Z dX1_lead_31 1 rfl ?_
      refine g_iald Z dX1_lead_33 2 rfl p rfl (by omega) rfl ?_
      refine g_aload_n Z dX1_lead_34 3 rfl rfl ?_
      refine g_iload Z dX1_lead_35 1 rfl ?_
      refine g_iload_n Z dX1_lead_37 4 rfl rfl ?_
      refine g_callVx (w' := [cO h 1 [.long (ta T2), .long (tb T2), .long (tc T2), .long (td T2), .long (te T2), .long (tf T2), .long (tg T2)], cO o 0 [.ref k, .ref f, .ref s, .int (nI z)], cI E k 8 K, cI E f 8 F, cI E s 8 G]) Z (qX0_strength E o k f s K F G z p way (by omega)) iX0_strength gX1_lead_X0_strength ⟨rfl, rfl⟩ ⟨Nat.le_of_ble_eq_true rfl, Nat.le_of_ble_eq_true rfl⟩ dX1_lead_38 rfl rfl (Nat.le_of_ble_eq_true rfl) ⟨Nat.zero_le _, Nat.zero_le _⟩ [1, 2, 3, 4] rfl rfl 0 rfl rfl rfl rfl rfl ?_
      refine g_callVx (w' := [cO h 1 [.long (ta (goF (K p) (stg K F G way p) T2)), .long (tb (goF (K p) (stg K F G way p) T2)), .long (tc (goF (K p) (stg K F G way p) T2)), .long (td (goF (K p) (stg K F G way p) T2)), .long (te (goF (K p) (stg K F G way p) T2)), .long (tf (goF (K p) (stg K F G way p) T2)), .long (tg (goF (K p) (stg K F G way p) T2))], cO o 0 [.ref k, .ref f, .ref s, .int (nI z)], cI E k 8 K, cI E f 8 F, cI E s 8 G]) Z (qX1_go E h T2 (K p) (stg K F G way p)) iX1_go gX1_lead_X1_go ⟨rfl, rfl⟩ ⟨Nat.le_of_ble_eq_true rfl, Nat.le_of_ble_eq_true rfl⟩ dX1_lead_41 rfl rfl (Nat.le_of_ble_eq_true rfl) ⟨Nat.zero_le _, Nat.zero_le _⟩ [0] rfl rfl 0 rfl rfl rfl rfl rfl ?_
      refine g_iload Z dX1_lead_44 1 rfl ?_
      refine g_iconst Z dX1_lead_46 zi_1 ?_
      refine g_iaddE (z := nI (p + 1)) Z dX1_lead_47 (nI_add p 1) ?_
      refine g_aload_n Z dX1_lead_48 3 rfl rfl ?_
      refine g_get Z dX1_lead_49 1 rfl rfl nX1_lead_X0 3 (by decide) fX1_lead_54 rfl ?_
      refine g_icmpN_ge (tgt := 62) Z dX1_lead_52 (by decide) (p + 1) z rfl rfl (by omega) (by omega) (fun c_52 => ?_) (fun c_52 => ?_)
      · refine g_iconst Z dX1_lead_62 zi_0 ?_
        refine g_istore (lv' := [(5, .int 0), (6, .int (nI q)), (0, .ref h), (1, .ref o), (2, .int way), (3, .int (nI j)), (4, .int (nI e))]) Z dX1_lead_63 (by decide) rfl ?_
        refine g_iinc (lv' := [(6, .int (nI (q + 1))), (5, .int 0), (0, .ref h), (1, .ref o), (2, .int way), (3, .int (nI j)), (4, .int (nI e))]) Z dX1_lead_65 1 rfl (zinc _) (by decide) rfl ?_
        refine g_goto (tgt := 10) Z dX1_lead_68 (by decide) ?_
        simp only [ledF, if_pos c_23, if_neg (Nat.not_lt.mpr c_52)] at h3
        refine g_lv (lv2 := [(6, .int (nI (q + 1))), (5, .int 0), (0, .ref h), (1, .ref o), (2, .int way), (3, .int (nI j)), (4, .int (nI e))]) Z [0, 1, 2, 3, 4, 5, 6] rfl ?_
        exact ih (q + 1) 0 _ (by omega) (by omega) h3
      · refine g_iload Z dX1_lead_55 1 rfl ?_
        refine g_iconst Z dX1_lead_57 zi_1 ?_
        refine g_iaddE (z := nI (p + 1)) Z dX1_lead_58 (nI_add p 1) ?_
        refine g_goto (tgt := 63) Z dX1_lead_59 (by decide) ?_
        refine g_istore (lv' := [(5, .int (nI (p + 1))), (6, .int (nI q)), (0, .ref h), (1, .ref o), (2, .int way), (3, .int (nI j)), (4, .int (nI e))]) Z dX1_lead_63 (by decide) rfl ?_
        refine g_iinc (lv' := [(6, .int (nI (q + 1))), (5, .int (nI (p + 1))), (0, .ref h), (1, .ref o), (2, .int way), (3, .int (nI j)), (4, .int (nI e))]) Z dX1_lead_65 1 rfl (zinc _) (by decide) rfl ?_
        refine g_goto (tgt := 10) Z dX1_lead_68 (by decide) ?_
        simp only [ledF, if_pos c_23, if_pos c_52] at h3
        refine g_lv (lv2 := [(6, .int (nI (q + 1))), (5, .int (nI (p + 1))), (0, .ref h), (1, .ref o), (2, .int way), (3, .int (nI j)), (4, .int (nI e))]) Z [0, 1, 2, 3, 4, 5, 6] rfl ?_
        exact ih (q + 1) (p + 1) _ (by omega) (by omega) h3
set_option maxHeartbeats 4000000 in
set_option maxRecDepth 100000 in
theorem qX1_lead (E : zE) (h o k f s : Nat) (K F G : Nat → Int32) (T : TB) (way : Int32) (z j e : Nat) (hz : z ≤ 8) (hj : j ≤ 8) (he : e ≤ 8) : zF E yX1_lead wsX1_lead rX1_lead [.ref h, .ref o, .int way, .int (nI j), .int (nI e)] [cO h 1 [.long (ta T), .long (tb T), .long (tc T), .long (td T), .long (te T), .long (tf T), .long (tg T)], cO o 0 [.ref k, .ref f, .ref s, .int (nI z)], cI E k 8 K, cI E f 8 F, cI E s 8 G] (zx none ([cO h 1 [.long (ta (ledF K F G way z j T1 e)), .long (tb (ledF K F G way z j T1 e)), .long (tc (ledF K F G way z j T1 e)), .long (td (ledF K F G way z j T1 e)), .long (te (ledF K F G way z j T1 e)), .long (tf (ledF K F G way z j T1 e)), .long (tg (ledF K F G way z j T1 e))], cO o 0 [.ref k, .ref f, .ref s, .int (nI z)], cI E k 8 K, cI E f 8 F, cI E s 8 G])) := by
  refine z_start RX1 "lead" (by decide) rfl rfl rfl (Nat.le_of_ble_eq_true rfl) ?_
  intro J Z
  refine g_eq Z (lv2 := [(0, .ref h), (1, .ref o), (2, .int way), (3, .int (nI j)), (4, .int (nI e))]) rfl rfl rfl ?_
  refine g_aload_n Z dX1_lead_0 0 rfl rfl ?_
  refine g_callVx (w' := [cO h 1 [.long (ta T1), .long (tb T1), .long (tc T1), .long (td T1), .long (te T1), .long (tf T1), .long (tg T1)], cO o 0 [.ref k, .ref f, .ref s, .int (nI z)], cI E k 8 K, cI E f 8 F, cI E s 8 G]) Z (qX1_clear E h T) iX1_clear gX1_lead_X1_clear ⟨rfl, rfl⟩ ⟨Nat.le_of_ble_eq_true rfl, Nat.le_of_ble_eq_true rfl⟩ dX1_lead_1 rfl rfl (Nat.le_of_ble_eq_true rfl) ⟨Nat.zero_le _, Nat.zero_le _⟩ [0] rfl rfl 0 rfl rfl rfl rfl rfl ?_
  refine g_iload_n Z dX1_lead_4 3 rfl rfl ?_
  refine g_istore (lv' := [(5, .int (nI j)), (0, .ref h), (1, .ref o), (2, .int way), (3, .int (nI j)), (4, .int (nI e))]) Z dX1_lead_5 (by decide) rfl ?_
  refine g_iconst Z dX1_lead_7 zi_0 ?_
  refine g_istore (lv' := [(6, .int 0), (5, .int (nI j)), (0, .ref h), (1, .ref o), (2, .int way), (3, .int (nI j)), (4, .int (nI e))]) Z dX1_lead_8 (by decide) rfl ?_
  exact lX1_lead E h o k f s K F G T way z j e hz hj he Z e 0 j T1 (by omega) (by omega) rfl

abbrev rX1_leadThrough : Room := { frames := 3, cells := 0, slots := 0, locals := 74 }
theorem iX1_leadThrough : zInfo yX1_leadThrough wsX1_leadThrough RX1 3 none 2 := ⟨_, _, rfl, by decide +kernel⟩
theorem nX1_leadThrough_X0 : ∀ w ∈ wsX00, w ∈ wsX1_leadThrough := by decide +kernel
theorem fX1_leadThrough_54 : Cond.fieldLink RX1 54 (TX0 3).1 (TX0 3).2.1 (TX0 3).2.2.1 ∈ wsX1_leadThrough := by decide +kernel
set_option maxHeartbeats 4000000 in
set_option maxRecDepth 100000 in
theorem qX1_leadThrough (E : zE) (h o k f s : Nat) (K F G : Nat → Int32) (T : TB) (way : Int32) (z : Nat) (hz : z ≤ 8) : zF E yX1_leadThrough wsX1_leadThrough rX1_leadThrough [.ref h, .ref o, .int way] [cO h 1 [.long (ta T), .long (tb T), .long (tc T), .long (td T), .long (te T), .long (tf T), .long (tg T)], cO o 0 [.ref k, .ref f, .ref s, .int (nI z)], cI E k 8 K, cI E f 8 F, cI E s 8 G] (zx none ([cO h 1 [.long (ta (ledF K F G way z 0 T1 z)), .long (tb (ledF K F G way z 0 T1 z)), .long (tc (ledF K F G way z 0 T1 z)), .long (td (ledF K F G way z 0 T1 z)), .long (te (ledF K F G way z 0 T1 z)), .long (tf (ledF K F G way z 0 T1 z)), .long (tg (ledF K F G way z 0 T1 z))], cO o 0 [.ref k, .ref f, .ref s, .int (nI z)], cI E k 8 K, cI E f 8 F, cI E s 8 G])) := by
  refine z_start RX1 "leadThrough" (by decide) rfl rfl rfl (Nat.le_of_ble_eq_true rfl) ?_
  intro J Z
  refine g_eq Z (lv2 := [(0, .ref h), (1, .ref o), (2, .int way)]) rfl rfl rfl ?_
  refine g_aload_n Z dX1_leadThrough_0 0 rfl rfl ?_
  refine g_aload_n Z dX1_leadThrough_1 1 rfl rfl ?_
  refine g_iload_n Z dX1_leadThrough_2 2 rfl rfl ?_
  refine g_iconst Z dX1_leadThrough_3 zi_0 ?_
  refine g_aload_n Z dX1_leadThrough_4 1 rfl rfl ?_
  refine g_get Z dX1_leadThrough_5 1 rfl rfl nX1_leadThrough_X0 3 (by decide) fX1_leadThrough_54 rfl ?_
  refine g_callVx (w' := [cO h 1 [.long (ta (ledF K F G way z 0 T1 z)), .long (tb (ledF K F G way z 0 T1 z)), .long (tc (ledF K F G way z 0 T1 z)), .long (td (ledF K F G way z 0 T1 z)), .long (te (ledF K F G way z 0 T1 z)), .long (tf (ledF K F G way z 0 T1 z)), .long (tg (ledF K F G way z 0 T1 z))], cO o 0 [.ref k, .ref f, .ref s, .int (nI z)], cI E k 8 K, cI E f 8 F, cI E s 8 G]) Z (qX1_lead E h o k f s K F G T way z 0 z (by omega) (by omega) (by omega)) iX1_lead gX1_leadThrough_X1_lead ⟨rfl, rfl⟩ ⟨Nat.le_of_ble_eq_true rfl, Nat.le_of_ble_eq_true rfl⟩ dX1_leadThrough_8 rfl rfl (Nat.le_of_ble_eq_true rfl) ⟨Nat.zero_le _, Nat.zero_le _⟩ [0, 1, 2, 3, 4] rfl rfl 0 rfl rfl rfl rfl rfl ?_
  exact g_vret Z dX1_leadThrough_11 rfl ⟨Nat.zero_le _, Nat.zero_le _⟩ ⟨rfl, rfl⟩
