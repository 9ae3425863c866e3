abbrev rX3_begin : Room := { frames := 0, cells := 0, slots := 0, locals := 0 }
theorem iX3_begin : zInfo yX3_begin wsX3_begin RX3 2 none 0 := ⟨_, _, rfl, by decide +kernel⟩
theorem nX3_begin_X3 : ∀ w ∈ wsX30, w ∈ wsX3_begin := by decide +kernel
theorem fX3_begin_32 : Cond.fieldLink RX3 32 (TX3 7).1 (TX3 7).2.1 (TX3 7).2.2.1 ∈ wsX3_begin := by decide +kernel
theorem fX3_begin_36 : Cond.fieldLink RX3 36 (TX3 8).1 (TX3 8).2.1 (TX3 8).2.2.1 ∈ wsX3_begin := by decide +kernel
set_option maxHeartbeats 4000000 in
set_option maxRecDepth 100000 in
theorem qX3_begin (E : zE) (h m1 m2 m3 m4 m5 m6 : Nat) (nb dn : Nat) (T : TB)  : zF E yX3_begin wsX3_begin rX3_begin [.ref h] [cO h 3 [.int (nI nb), .ref m1, .ref m2, .ref m3, .ref m4, .int (nI dn), .ref m5, .ref m6, .long (tg T)], cJ E m6 6 (tv T)] (zx none ([cO h 3 [.int (nI nb), .ref m1, .ref m2, .ref m3, .ref m4, .int (nI dn), .ref m5, .ref m6, .long (tg T1)], cJ E m6 6 (tv T1)])) := by
  refine z_start RX3 "begin" (by decide) rfl rfl rfl (Nat.le_of_ble_eq_true rfl) ?_
  intro J Z
  refine g_eq Z (lv2 := [(0, .ref h)]) rfl rfl rfl ?_
  refine g_iconst Z dX3_begin_0 zi_0 ?_
  refine g_istore_n (lv' := [(1, .int 0), (0, .ref h)]) Z dX3_begin_1 rfl (by decide) rfl ?_
  refine g_iload_n Z dX3_begin_2 0 rfl rfl ?_
  refine g_bipush Z dX3_begin_3 zb_6 ?_
  refine g_icmpN_ge (tgt := 21) Z dX3_begin_5 (by decide) 0 6 rfl rfl (by omega) (by omega) (fun c_5 => absurd c_5 (by omega)) (fun c_5 => ?_)
  refine g_aload_n Z dX3_begin_8 1 rfl rfl ?_
  refine g_get Z dX3_begin_9 0 rfl rfl nX3_begin_X3 7 (by decide) fX3_begin_32 rfl ?_
  refine g_iload_n Z dX3_begin_12 0 rfl rfl ?_
  refine g_lconst Z dX3_begin_13 zl_0 ?_
  refine g_lastE (w' := [cO h 3 [.int (nI nb), .ref m1, .ref m2, .ref m3, .ref m4, .int (nI dn), .ref m5, .ref m6, .long (tg T)], cJ E m6 6 (tv (s0 T 0))]) Z dX3_begin_14 1 rfl 0 rfl (by decide) rfl (tv_s0 _ _) rfl ?_
  refine g_iinc (lv' := [(1, .int 1), (0, .ref h)]) Z dX3_begin_15 0 rfl (by decide) (by decide) rfl ?_
  refine g_goto (tgt := 2) Z dX3_begin_18 (by decide) ?_
  refine g_iload_n Z dX3_begin_2 0 rfl rfl ?_
  refine g_bipush Z dX3_begin_3 zb_6 ?_
  refine g_icmpN_ge (tgt := 21) Z dX3_begin_5 (by decide) 1 6 rfl rfl (by omega) (by omega) (fun c_5 => absurd c_5 (by omega)) (fun c_5 => ?_)
  refine g_aload_n Z dX3_begin_8 1 rfl rfl ?_
  refine g_get Z dX3_begin_9 0 rfl rfl nX3_begin_X3 7 (by decide) fX3_begin_32 rfl ?_
  refine g_iload_n Z dX3_begin_12 0 rfl rfl ?_
  refine g_lconst Z dX3_begin_13 zl_0 ?_
  refine g_lastE (w' := [cO h 3 [.int (nI nb), .ref m1, .ref m2, .ref m3, .ref m4, .int (nI dn), .ref m5, .ref m6, .long (tg T)], cJ E m6 6 (tv (s1 (s0 T 0) 0))]) Z dX3_begin_14 1 rfl 1 rfl (by decide) rfl (tv_s1 _ _) rfl ?_
  refine g_iinc (lv' := [(1, .int 2), (0, .ref h)]) Z dX3_begin_15 0 rfl (by decide) (by decide) rfl ?_
  refine g_goto (tgt := 2) Z dX3_begin_18 (by decide) ?_
  refine g_iload_n Z dX3_begin_2 0 rfl rfl ?_
  refine g_bipush Z dX3_begin_3 zb_6 ?_
  refine g_icmpN_ge (tgt := 21) Z dX3_begin_5 (by decide) 2 6 rfl rfl (by omega) (by omega) (fun c_5 => absurd c_5 (by omega)) (fun c_5 => ?_)
  refine g_aload_n Z dX3_begin_8 1 rfl rfl ?_
  refine g_get Z dX3_begin_9 0 rfl rfl nX3_begin_X3 7 (by decide) fX3_begin_32 rfl ?_
  refine g_iload_n Z dX3_begin_12 0 rfl rfl ?_
  refine g_lconst Z dX3_begin_13 zl_0 ?_
  refine g_lastE (w' := [cO h 3 [.int (nI nb), .ref m1, .ref m2, .ref m3, .ref m4, .int (nI dn), .ref m5, .ref m6, .long (tg T)], cJ E m6 6 (tv (s2 (s1 (s0 T 0) 0) 0))]) Z dX3_begin_14 1 rfl 2 rfl (by decide) rfl (tv_s2 _ _) rfl ?_
  refine g_iinc (lv' := [(1, .int 3), (0, .ref h)]) Z dX3_begin_15 0 rfl (by decide) (by decide) rfl ?_
  refine g_goto (tgt := 2) Z dX3_begin_18 (by decide) ?_
  refine g_iload_n Z dX3_begin_2 0 rfl rfl ?_
  refine g_bipush Z dX3_begin_3 zb_6 ?_
  refine g_icmpN_ge (tgt := 21) Z dX3_begin_5 (by decide) 3 6 rfl rfl (by omega) (by omega) (fun c_5 => absurd c_5 (by omega)) (fun c_5 => ?_)
  refine g_aload_n Z dX3_begin_8 1 rfl rfl ?_
  refine g_get Z dX3_begin_9 0 rfl rfl nX3_begin_X3 7 (by decide) fX3_begin_32 rfl ?_
  refine g_iload_n Z dX3_begin_12 0 rfl rfl ?_
  refine g_lconst Z dX3_begin_13 zl_0 ?_
  refine g_lastE (w' := [cO h 3 [.int (nI nb), .ref m1, .ref m2, .ref m3, .ref m4, .int (nI dn), .ref m5, .ref m6, .long (tg T)], cJ E m6 6 (tv (s3 (s2 (s1 (s0 T 0) 0) 0) 0))]) Z dX3_begin_14 1 rfl 3 rfl (by decide) rfl (tv_s3 _ _) rfl ?_
  refine g_iinc (lv' := [(1, .int 4), (0, .ref h)]) Z dX3_begin_15 0 rfl (by decide) (by decide) rfl ?_
  refine g_goto (tgt := 2) Z dX3_begin_18 (by decide) ?_
  refine g_iload_n Z dX3_begin_2 0 rfl rfl ?_
  refine g_bipush Z dX3_begin_3 zb_6 ?_
  refine g_icmpN_ge (tgt := 21) Z dX3_begin_5 (by decide) 4 6 rfl rfl (by omega) (by omega) (fun c_5 => absurd c_5 (by omega)) (fun c_5 => ?_)
  refine g_aload_n Z dX3_begin_8 1 rfl rfl ?_
  refine g_get Z dX3_begin_9 0 rfl rfl nX3_begin_X3 7 (by decide) fX3_begin_32 rfl ?_
  refine g_iload_n Z dX3_begin_12 0 rfl rfl ?_
  refine g_lconst Z dX3_begin_13 zl_0 ?_
  refine g_lastE (w' := [cO h 3 [.int (nI nb), .ref m1, .ref m2, .ref m3, .ref m4, .int (nI dn), .ref m5, .ref m6, .long (tg T)], cJ E m6 6 (tv (s4 (s3 (s2 (s1 (s0 T 0) 0) 0) 0) 0))]) Z dX3_begin_14 1 rfl 4 rfl (by decide) rfl (tv_s4 _ _) rfl ?_
  refine g_iinc (lv' := [(1, .int 5), (0, .ref h)]) Z dX3_begin_15 0 rfl (by decide) (by decide) rfl ?_
  refine g_goto (tgt := 2) Z dX3_begin_18 (by decide) ?_
  refine g_iload_n Z dX3_begin_2 0 rfl rfl ?_
  refine g_bipush Z dX3_begin_3 zb_6 ?_
  refine g_icmpN_ge (tgt := 21) Z dX3_begin_5 (by decide) 5 6 rfl rfl (by omega) (by omega) (fun c_5 => absurd c_5 (by omega)) (fun c_5 => ?_)
  refine g_aload_n Z dX3_begin_8 1 rfl rfl ?_
  refine g_get Z dX3_begin_9 0 rfl rfl nX3_begin_X3 7 (by decide) fX3_begin_32 rfl ?_
  refine g_iload_n Z dX3_begin_12 0 rfl rfl ?_
  refine g_lconst Z dX3_begin_13 zl_0 ?_
  refine g_lastE (w' := [cO h 3 [.int (nI nb), .ref m1, .ref m2, .ref m3, .ref m4, .int (nI dn), .ref m5, .ref m6, .long (tg T)], cJ E m6 6 (tv (s5 (s4 (s3 (s2 (s1 (s0 T 0) 0) 0) 0) 0) 0))]) Z dX3_begin_14 1 rfl 5 rfl (by decide) rfl (tv_s5 _ _) rfl ?_
  refine g_iinc (lv' := [(1, .int 6), (0, .ref h)]) Z dX3_begin_15 0 rfl (by decide) (by decide) rfl ?_
  refine g_goto (tgt := 2) Z dX3_begin_18 (by decide) ?_
  refine g_iload_n Z dX3_begin_2 0 rfl rfl ?_
  refine g_bipush Z dX3_begin_3 zb_6 ?_
  refine g_icmpN_ge (tgt := 21) Z dX3_begin_5 (by decide) 6 6 rfl rfl (by omega) (by omega) (fun c_5 => ?_) (fun c_5 => absurd c_5 (by omega))
  refine g_aload_n Z dX3_begin_21 1 rfl rfl ?_
  refine g_get Z dX3_begin_22 0 rfl rfl nX3_begin_X3 7 (by decide) fX3_begin_32 rfl ?_
  refine g_iconst Z dX3_begin_25 zi_0 ?_
  refine g_lconst Z dX3_begin_26 zl_1 ?_
  refine g_lastE (w' := [cO h 3 [.int (nI nb), .ref m1, .ref m2, .ref m3, .ref m4, .int (nI dn), .ref m5, .ref m6, .long (tg T)], cJ E m6 6 (tv (s0 (s5 (s4 (s3 (s2 (s1 (s0 T 0) 0) 0) 0) 0) 0) 1))]) Z dX3_begin_27 1 rfl 0 rfl (by decide) rfl (tv_s0 _ _) rfl ?_
  refine g_aload_n Z dX3_begin_28 1 rfl rfl ?_
  refine g_get Z dX3_begin_29 0 rfl rfl nX3_begin_X3 7 (by decide) fX3_begin_32 rfl ?_
  refine g_iconst Z dX3_begin_32 zi_3 ?_
  refine g_lconst Z dX3_begin_33 zl_1 ?_
  refine g_lastE (w' := [cO h 3 [.int (nI nb), .ref m1, .ref m2, .ref m3, .ref m4, .int (nI dn), .ref m5, .ref m6, .long (tg T)], cJ E m6 6 (tv (s3 (s0 (s5 (s4 (s3 (s2 (s1 (s0 T 0) 0) 0) 0) 0) 0) 1) 1))]) Z dX3_begin_34 1 rfl 3 rfl (by decide) rfl (tv_s3 _ _) rfl ?_
  refine g_aload_n Z dX3_begin_35 1 rfl rfl ?_
  refine g_lconst Z dX3_begin_36 zl_1 ?_
  refine g_put (w' := [cO h 3 [.int (nI nb), .ref m1, .ref m2, .ref m3, .ref m4, .int (nI dn), .ref m5, .ref m6, .long 1], cJ E m6 6 (tv (s3 (s0 (s5 (s4 (s3 (s2 (s1 (s0 T 0) 0) 0) 0) 0) 0) 1) 1))]) Z dX3_begin_37 0 rfl rfl nX3_begin_X3 tyX3 tyX3_ok nmX3 8 (by decide) fX3_begin_36 rfl rfl rfl rfl (Nat.le_of_ble_eq_true rfl) rfl ?_
  exact g_vret Z dX3_begin_40 rfl ⟨Nat.zero_le _, Nat.zero_le _⟩ ⟨rfl, rfl⟩

abbrev rX3_bend : Room := { frames := 0, cells := 0, slots := 0, locals := 0 }
theorem iX3_bend : zInfo yX3_bend wsX3_bend RX3 9 none 1 := ⟨_, _, rfl, by decide +kernel⟩
theorem nX3_bend_X3 : ∀ w ∈ wsX30, w ∈ wsX3_bend := by decide +kernel
theorem fX3_bend_32 : Cond.fieldLink RX3 32 (TX3 7).1 (TX3 7).2.1 (TX3 7).2.2.1 ∈ wsX3_bend := by decide +kernel
theorem fX3_bend_36 : Cond.fieldLink RX3 36 (TX3 8).1 (TX3 8).2.1 (TX3 8).2.2.1 ∈ wsX3_bend := by decide +kernel
set_option maxHeartbeats 4000000 in
set_option maxRecDepth 100000 in
theorem qX3_bend (E : zE) (h m1 m2 m3 m4 m5 m6 : Nat) (nb dn : Nat) (T : TB) (x : Int64)  : zF E yX3_bend wsX3_bend rX3_bend [.ref h, .long x] [cO h 3 [.int (nI nb), .ref m1, .ref m2, .ref m3, .ref m4, .int (nI dn), .ref m5, .ref m6, .long (tg T)], cJ E m6 6 (tv T)] (zx none ([cO h 3 [.int (nI nb), .ref m1, .ref m2, .ref m3, .ref m4, .int (nI dn), .ref m5, .ref m6, .long (tg (bnd x T))], cJ E m6 6 (tv (bnd x T))])) := by
  refine z_start RX3 "bend" (by decide) rfl rfl rfl (Nat.le_of_ble_eq_true rfl) ?_
  intro J Z
  refine g_eq Z (lv2 := [(0, .ref h), (1, .long x)]) rfl rfl rfl ?_
  refine g_aload_n Z dX3_bend_0 0 rfl rfl ?_
  refine g_get Z dX3_bend_1 0 rfl rfl nX3_bend_X3 7 (by decide) fX3_bend_32 rfl ?_
  refine g_iconst Z dX3_bend_4 zi_2 ?_
  refine g_laldE (v := tc T) Z dX3_bend_5 1 rfl 2 rfl (by decide) rfl rfl ?_
  refine g_lload_n Z dX3_bend_6 1 rfl rfl ?_
  refine g_lmul Z dX3_bend_7 ?_
  refine g_aload_n Z dX3_bend_8 0 rfl rfl ?_
  refine g_get Z dX3_bend_9 0 rfl rfl nX3_bend_X3 7 (by decide) fX3_bend_32 rfl ?_
  refine g_iconst Z dX3_bend_12 zi_0 ?_
  refine g_laldE (v := ta T) Z dX3_bend_13 1 rfl 0 rfl (by decide) rfl rfl ?_
  refine g_lsub Z dX3_bend_14 ?_
  refine g_lstore_n (lv' := [(3, .long (((tc T) * x) - (ta T))), (0, .ref h), (1, .long x)]) Z dX3_bend_15 rfl (by decide) rfl ?_
  refine g_aload_n Z dX3_bend_16 1 rfl rfl ?_
  refine g_get Z dX3_bend_17 0 rfl rfl nX3_bend_X3 7 (by decide) fX3_bend_32 rfl ?_
  refine g_iconst Z dX3_bend_20 zi_3 ?_
  refine g_laldE (v := td T) Z dX3_bend_21 1 rfl 3 rfl (by decide) rfl rfl ?_
  refine g_lload_n Z dX3_bend_22 2 rfl rfl ?_
  refine g_lmul Z dX3_bend_23 ?_
  refine g_aload_n Z dX3_bend_24 1 rfl rfl ?_
  refine g_get Z dX3_bend_25 0 rfl rfl nX3_bend_X3 7 (by decide) fX3_bend_32 rfl ?_
  refine g_iconst Z dX3_bend_28 zi_1 ?_
  refine g_laldE (v := tb T) Z dX3_bend_29 1 rfl 1 rfl (by decide) rfl rfl ?_
  refine g_lsub Z dX3_bend_30 ?_
  refine g_lstore (lv' := [(5, .long (((td T) * x) - (tb T))), (3, .long (((tc T) * x) - (ta T))), (0, .ref h), (1, .long x)]) Z dX3_bend_31 (by decide) rfl ?_
  refine g_aload_n Z dX3_bend_33 2 rfl rfl ?_
  refine g_get Z dX3_bend_34 0 rfl rfl nX3_bend_X3 7 (by decide) fX3_bend_32 rfl ?_
  refine g_iconst Z dX3_bend_37 zi_5 ?_
  refine g_laldE (v := tf T) Z dX3_bend_38 1 rfl 5 rfl (by decide) rfl rfl ?_
  refine g_lload_n Z dX3_bend_39 3 rfl rfl ?_
  refine g_lmul Z dX3_bend_40 ?_
  refine g_aload_n Z dX3_bend_41 2 rfl rfl ?_
  refine g_get Z dX3_bend_42 0 rfl rfl nX3_bend_X3 7 (by decide) fX3_bend_32 rfl ?_
  refine g_iconst Z dX3_bend_45 zi_4 ?_
  refine g_laldE (v := te T) Z dX3_bend_46 1 rfl 4 rfl (by decide) rfl rfl ?_
  refine g_lsub Z dX3_bend_47 ?_
  refine g_lstore (lv' := [(7, .long (((tf T) * x) - (te T))), (5, .long (((td T) * x) - (tb T))), (3, .long (((tc T) * x) - (ta T))), (0, .ref h), (1, .long x)]) Z dX3_bend_48 (by decide) rfl ?_
  refine g_aload_n Z dX3_bend_50 3 rfl rfl ?_
  refine g_get Z dX3_bend_51 0 rfl rfl nX3_bend_X3 7 (by decide) fX3_bend_32 rfl ?_
  refine g_iconst Z dX3_bend_54 zi_0 ?_
  refine g_dup2_11 Z dX3_bend_55 rfl rfl ?_
  refine g_laldE (v := ta T) Z dX3_bend_56 1 rfl 0 rfl (by decide) rfl rfl ?_
  refine g_lload_n Z dX3_bend_57 4 rfl rfl ?_
  refine g_lmul Z dX3_bend_58 ?_
  refine g_lastE (w' := [cO h 3 [.int (nI nb), .ref m1, .ref m2, .ref m3, .ref m4, .int (nI dn), .ref m5, .ref m6, .long (tg T)], cJ E m6 6 (tv (s0 T ((ta T) * x)))]) Z dX3_bend_59 1 rfl 0 rfl (by decide) rfl (tv_s0 _ _) rfl ?_
  refine g_aload_n Z dX3_bend_60 3 rfl rfl ?_
  refine g_get Z dX3_bend_61 0 rfl rfl nX3_bend_X3 7 (by decide) fX3_bend_32 rfl ?_
  refine g_iconst Z dX3_bend_64 zi_1 ?_
  refine g_dup2_11 Z dX3_bend_65 rfl rfl ?_
  refine g_laldE (v := tb (s0 T ((ta T) * x))) Z dX3_bend_66 1 rfl 1 rfl (by decide) rfl rfl ?_
  refine g_lload_n Z dX3_bend_67 4 rfl rfl ?_
  refine g_lmul Z dX3_bend_68 ?_
  refine g_lastE (w' := [cO h 3 [.int (nI nb), .ref m1, .ref m2, .ref m3, .ref m4, .int (nI dn), .ref m5, .ref m6, .long (tg T)], cJ E m6 6 (tv (s1 (s0 T ((ta T) * x)) ((tb (s0 T ((ta T) * x))) * x)))]) Z dX3_bend_69 1 rfl 1 rfl (by decide) rfl (tv_s1 _ _) rfl ?_
  refine g_aload_n Z dX3_bend_70 3 rfl rfl ?_
  refine g_get Z dX3_bend_71 0 rfl rfl nX3_bend_X3 7 (by decide) fX3_bend_32 rfl ?_
  refine g_iconst Z dX3_bend_74 zi_4 ?_
  refine g_dup2_11 Z dX3_bend_75 rfl rfl ?_
  refine g_laldE (v := te (s1 (s0 T ((ta T) * x)) ((tb (s0 T ((ta T) * x))) * x))) Z dX3_bend_76 1 rfl 4 rfl (by decide) rfl rfl ?_
  refine g_lload_n Z dX3_bend_77 4 rfl rfl ?_
  refine g_lmul Z dX3_bend_78 ?_
  refine g_lastE (w' := [cO h 3 [.int (nI nb), .ref m1, .ref m2, .ref m3, .ref m4, .int (nI dn), .ref m5, .ref m6, .long (tg T)], cJ E m6 6 (tv (s4 (s1 (s0 T ((ta T) * x)) ((tb (s0 T ((ta T) * x))) * x)) ((te (s1 (s0 T ((ta T) * x)) ((tb (s0 T ((ta T) * x))) * x))) * x)))]) Z dX3_bend_79 1 rfl 4 rfl (by decide) rfl (tv_s4 _ _) rfl ?_
  refine g_aload_n Z dX3_bend_80 3 rfl rfl ?_
  refine g_get Z dX3_bend_81 0 rfl rfl nX3_bend_X3 7 (by decide) fX3_bend_32 rfl ?_
  refine g_iconst Z dX3_bend_84 zi_2 ?_
  refine g_lload_n Z dX3_bend_85 2 rfl rfl ?_
  refine g_lastE (w' := [cO h 3 [.int (nI nb), .ref m1, .ref m2, .ref m3, .ref m4, .int (nI dn), .ref m5, .ref m6, .long (tg T)], cJ E m6 6 (tv (s2 (s4 (s1 (s0 T ((ta T) * x)) ((tb (s0 T ((ta T) * x))) * x)) ((te (s1 (s0 T ((ta T) * x)) ((tb (s0 T ((ta T) * x))) * x))) * x)) (((tc T) * x) - (ta T))))]) Z dX3_bend_86 1 rfl 2 rfl (by decide) rfl (tv_s2 _ _) rfl ?_
  refine g_aload_n Z dX3_bend_87 3 rfl rfl ?_
  refine g_get Z dX3_bend_88 0 rfl rfl nX3_bend_X3 7 (by decide) fX3_bend_32 rfl ?_
  refine g_iconst Z dX3_bend_91 zi_3 ?_
  refine g_lload Z dX3_bend_92 1 rfl ?_
  refine g_lastE (w' := [cO h 3 [.int (nI nb), .ref m1, .ref m2, .ref m3, .ref m4, .int (nI dn), .ref m5, .ref m6, .long (tg T)], cJ E m6 6 (tv (s3 (s2 (s4 (s1 (s0 T ((ta T) * x)) ((tb (s0 T ((ta T) * x))) * x)) ((te (s1 (s0 T ((ta T) * x)) ((tb (s0 T ((ta T) * x))) * x))) * x)) (((tc T) * x) - (ta T))) (((td T) * x) - (tb T))))]) Z dX3_bend_94 1 rfl 3 rfl (by decide) rfl (tv_s3 _ _) rfl ?_
  refine g_aload_n Z dX3_bend_95 3 rfl rfl ?_
  refine g_get Z dX3_bend_96 0 rfl rfl nX3_bend_X3 7 (by decide) fX3_bend_32 rfl ?_
  refine g_iconst Z dX3_bend_99 zi_5 ?_
  refine g_lload Z dX3_bend_100 0 rfl ?_
  refine g_lastE (w' := [cO h 3 [.int (nI nb), .ref m1, .ref m2, .ref m3, .ref m4, .int (nI dn), .ref m5, .ref m6, .long (tg T)], cJ E m6 6 (tv (s5 (s3 (s2 (s4 (s1 (s0 T ((ta T) * x)) ((tb (s0 T ((ta T) * x))) * x)) ((te (s1 (s0 T ((ta T) * x)) ((tb (s0 T ((ta T) * x))) * x))) * x)) (((tc T) * x) - (ta T))) (((td T) * x) - (tb T))) (((tf T) * x) - (te T))))]) Z dX3_bend_102 1 rfl 5 rfl (by decide) rfl (tv_s5 _ _) rfl ?_
  refine g_aload_n Z dX3_bend_103 3 rfl rfl ?_
  refine g_dup Z dX3_bend_104 rfl ?_
  refine g_get Z dX3_bend_105 0 rfl rfl nX3_bend_X3 8 (by decide) fX3_bend_36 rfl ?_
  refine g_lload_n Z dX3_bend_108 4 rfl rfl ?_
  refine g_lmul Z dX3_bend_109 ?_
  refine g_put (w' := [cO h 3 [.int (nI nb), .ref m1, .ref m2, .ref m3, .ref m4, .int (nI dn), .ref m5, .ref m6, .long ((tg T) * x)], cJ E m6 6 (tv (s5 (s3 (s2 (s4 (s1 (s0 T ((ta T) * x)) ((tb (s0 T ((ta T) * x))) * x)) ((te (s1 (s0 T ((ta T) * x)) ((tb (s0 T ((ta T) * x))) * x))) * x)) (((tc T) * x) - (ta T))) (((td T) * x) - (tb T))) (((tf T) * x) - (te T))))]) Z dX3_bend_110 0 rfl rfl nX3_bend_X3 tyX3 tyX3_ok nmX3 8 (by decide) fX3_bend_36 rfl rfl rfl rfl (Nat.le_of_ble_eq_true rfl) rfl ?_
  exact g_vret Z dX3_bend_113 rfl ⟨Nat.zero_le _, Nat.zero_le _⟩ ⟨rfl, rfl⟩

abbrev rX3_go : Room := { frames := 1, cells := 0, slots := 0, locals := 28 }
theorem iX3_go : zInfo yX3_go wsX3_go RX3 6 none 2 := ⟨_, _, rfl, by decide +kernel⟩
theorem nX3_go_X3 : ∀ w ∈ wsX30, w ∈ wsX3_go := by decide +kernel
theorem fX3_go_36 : Cond.fieldLink RX3 36 (TX3 8).1 (TX3 8).2.1 (TX3 8).2.2.1 ∈ wsX3_go := by decide +kernel
theorem fX3_go_32 : Cond.fieldLink RX3 32 (TX3 7).1 (TX3 7).2.1 (TX3 7).2.2.1 ∈ wsX3_go := by decide +kernel
theorem fX3_go_20 : Cond.fieldLink RX3 20 (TX3 3).1 (TX3 3).2.1 (TX3 3).2.2.1 ∈ wsX3_go := by decide +kernel
theorem fX3_go_17 : Cond.fieldLink RX3 17 (TX3 2).1 (TX3 2).2.1 (TX3 2).2.2.1 ∈ wsX3_go := by decide +kernel
theorem fX3_go_23 : Cond.fieldLink RX3 23 (TX3 4).1 (TX3 4).2.1 (TX3 4).2.2.1 ∈ wsX3_go := by decide +kernel
set_option maxHeartbeats 4000000 in
set_option maxRecDepth 100000 in
theorem lX3_go (E : zE) (h m1 m2 m3 m4 m5 m6 : Nat) (nb dn : Nat) (n : Nat → Nat) (K F G : Nat → Nat → Int32) (D : Nat → Int32) (T : TB) (j p q : Nat) (way : Int32) (hq : q = 8 * j + p) (hp : p < 8) (hj : j < 4) {J : zJ} (Z : zOk E J RX3 cX3_go 6 none wsX3_go rX3_go "go" (fun _ => True) (zx none ([cO h 3 [.int (nI nb), .ref m1, .ref m2, .ref m3, .ref m4, .int (nI dn), .ref m5, .ref m6, .long (tg (goM (K j p) (F j p) (G j p) way T))], cI E m1 4 (mN n), cI E m2 32 (gl K), cI E m3 32 (gl F), cI E m4 32 (gl G), cI E m5 12 D, cJ E m6 6 (tv (goM (K j p) (F j p) (G j p) way T))]))) (T2 : TB) (h2 : nrm T2 = goM (K j p) (F j p) (G j p) way T) : J 0 0 [cO h 3 [.int (nI nb), .ref m1, .ref m2, .ref m3, .ref m4, .int (nI dn), .ref m5, .ref m6, .long (tg T2)], cI E m1 4 (mN n), cI E m2 32 (gl K), cI E m3 32 (gl F), cI E m4 32 (gl G), cI E m5 12 D, cJ E m6 6 (tv T2)] 146 [(3, .long (Int32.toInt64 (F j p))), (0, .ref h), (1, .int (nI q)), (2, .int way)] [] := by
  refine g_aload_n Z dX3_go_146 1 rfl rfl ?_
  refine g_get Z dX3_go_147 0 rfl rfl nX3_go_X3 8 (by decide) fX3_go_36 rfl ?_
  refine g_lconst Z dX3_go_150 zl_0 ?_
  refine g_lcmp_le (tgt := 156) Z dX3_go_151 dX3_go_152 rfl (by decide) (fun c_152 => ?_) (fun c_152 => ?_)
  · refine g_aload_n Z dX3_go_156 1 rfl rfl ?_
    refine g_aload_n Z dX3_go_157 1 rfl rfl ?_
    refine g_get Z dX3_go_158 0 rfl rfl nX3_go_X3 8 (by decide) fX3_go_36 rfl ?_
    refine g_lneg Z dX3_go_161 ?_
    refine g_put (w' := [cO h 3 [.int (nI nb), .ref m1, .ref m2, .ref m3, .ref m4, .int (nI dn), .ref m5, .ref m6, .long (-(tg T2))], cI E m1 4 (mN n), cI E m2 32 (gl K), cI E m3 32 (gl F), cI E m4 32 (gl G), cI E m5 12 D, cJ E m6 6 (tv T2)]) Z dX3_go_162 0 rfl rfl nX3_go_X3 tyX3 tyX3_ok nmX3 8 (by decide) fX3_go_36 rfl rfl rfl rfl (Nat.le_of_ble_eq_true rfl) rfl ?_
    refine g_iconst Z dX3_go_165 zi_0 ?_
    refine g_istore (lv' := [(5, .int 0), (3, .long (Int32.toInt64 (F j p))), (0, .ref h), (1, .int (nI q)), (2, .int way)]) Z dX3_go_166 (by decide) rfl ?_
    refine g_iload Z dX3_go_168 0 rfl ?_
    refine g_bipush Z dX3_go_170 zb_6 ?_
    refine g_icmpN_ge (tgt := 196) Z dX3_go_172 (by decide) 0 6 rfl rfl (by omega) (by omega) (fun c_172 => absurd c_172 (by omega)) (fun c_172 => ?_)
    refine g_aload_n Z dX3_go_175 2 rfl rfl ?_
    refine g_get Z dX3_go_176 0 rfl rfl nX3_go_X3 7 (by decide) fX3_go_32 rfl ?_
    refine g_iload Z dX3_go_179 0 rfl ?_
    refine g_aload_n Z dX3_go_181 2 rfl rfl ?_
    refine g_get Z dX3_go_182 0 rfl rfl nX3_go_X3 7 (by decide) fX3_go_32 rfl ?_
    refine g_iload Z dX3_go_185 0 rfl ?_
    refine g_laldE (v := ta T2) Z dX3_go_187 6 rfl 0 rfl (by decide) rfl rfl ?_
    refine g_lneg Z dX3_go_188 ?_
    refine g_lastE (w' := [cO h 3 [.int (nI nb), .ref m1, .ref m2, .ref m3, .ref m4, .int (nI dn), .ref m5, .ref m6, .long (-(tg T2))], cI E m1 4 (mN n), cI E m2 32 (gl K), cI E m3 32 (gl F), cI E m4 32 (gl G), cI E m5 12 D, cJ E m6 6 (tv (s0 T2 (-(ta T2))))]) Z dX3_go_189 6 rfl 0 rfl (by decide) rfl (tv_s0 _ _) rfl ?_
    refine g_iinc (lv' := [(5, .int 1), (3, .long (Int32.toInt64 (F j p))), (0, .ref h), (1, .int (nI q)), (2, .int way)]) Z dX3_go_190 0 rfl (by decide) (by decide) rfl ?_
    refine g_goto (tgt := 168) Z dX3_go_193 (by decide) ?_
    refine g_iload Z dX3_go_168 0 rfl ?_
    refine g_bipush Z dX3_go_170 zb_6 ?_
    refine g_icmpN_ge (tgt := 196) Z dX3_go_172 (by decide) 1 6 rfl rfl (by omega) (by omega) (fun c_172 => absurd c_172 (by omega)) (fun c_172 => ?_)
    refine g_aload_n Z dX3_go_175 2 rfl rfl ?_
    refine g_get Z dX3_go_176 0 rfl rfl nX3_go_X3 7 (by decide) fX3_go_32 rfl ?_
    refine g_iload Z dX3_go_179 0 rfl ?_
    refine g_aload_n Z dX3_go_181 2 rfl rfl ?_
    refine g_get Z dX3_go_182 0 rfl rfl nX3_go_X3 7 (by decide) fX3_go_32 rfl ?_
    refine g_iload Z dX3_go_185 0 rfl ?_
    refine g_laldE (v := tb (s0 T2 (-(ta T2)))) Z dX3_go_187 6 rfl 1 rfl (by decide) rfl rfl ?_
    refine g_lneg Z dX3_go_188 ?_
    refine g_lastE (w' := [cO h 3 [.int (nI nb), .ref m1, .ref m2, .ref m3, .ref m4, .int (nI dn), .ref m5, .ref m6, .long (-(tg T2))], cI E m1 4 (mN n), cI E m2 32 (gl K), cI E m3 32 (gl F), cI E m4 32 (gl G), cI E m5 12 D, cJ E m6 6 (tv (s1 (s0 T2 (-(ta T2))) (-(tb (s0 T2 (-(ta T2)))))))]) Z dX3_go_189 6 rfl 1 rfl (by decide) rfl (tv_s1 _ _) rfl ?_
    refine g_iinc (lv' := [(5, .int 2), (3, .long (Int32.toInt64 (F j p))), (0, .ref h), (1, .int (nI q)), (2, .int way)]) Z dX3_go_190 0 rfl (by decide) (by decide) rfl ?_
    refine g_goto (tgt := 168) Z dX3_go_193 (by decide) ?_
    refine g_iload Z dX3_go_168 0 rfl ?_
    refine g_bipush Z dX3_go_170 zb_6 ?_
    refine g_icmpN_ge (tgt := 196) Z dX3_go_172 (by decide) 2 6 rfl rfl (by omega) (by omega) (fun c_172 => absurd c_172 (by omega)) (fun c_172 => ?_)
    refine g_aload_n Z dX3_go_175 2 rfl rfl ?_
    refine g_get Z dX3_go_176 0 rfl rfl nX3_go_X3 7 (by decide) fX3_go_32 rfl ?_
    refine g_iload Z dX3_go_179 0 rfl ?_
    refine g_aload_n Z dX3_go_181 2 rfl rfl ?_
    refine g_get Z dX3_go_182 0 rfl rfl nX3_go_X3 7 (by decide) fX3_go_32 rfl ?_
    refine g_iload Z dX3_go_185 0 rfl ?_
    refine g_laldE (v := tc (s1 (s0 T2 (-(ta T2))) (-(tb (s0 T2 (-(ta T2))))))) Z dX3_go_187 6 rfl 2 rfl (by decide) rfl rfl ?_
    refine g_lneg Z dX3_go_188 ?_
    refine g_lastE (w' := [cO h 3 [.int (nI nb), .ref m1, .ref m2, .ref m3, .ref m4, .int (nI dn), .ref m5, .ref m6, .long (-(tg T2))], cI E m1 4 (mN n), cI E m2 32 (gl K), cI E m3 32 (gl F), cI E m4 32 (gl G), cI E m5 12 D, cJ E m6 6 (tv (s2 (s1 (s0 T2 (-(ta T2))) (-(tb (s0 T2 (-(ta T2)))))) (-(tc (s1 (s0 T2 (-(ta T2))) (-(tb (s0 T2 (-(ta T2))))))))))]) Z dX3_go_189 6 rfl 2 rfl (by decide) rfl (tv_s2 _ _) rfl ?_
    refine g_iinc (lv' := [(5, .int 3), (3, .long (Int32.toInt64 (F j p))), (0, .ref h), (1, .int (nI q)), (2, .int way)]) Z dX3_go_190 0 rfl (by decide) (by decide) rfl ?_
    refine g_goto (tgt := 168) Z dX3_go_193 (by decide) ?_
    refine g_iload Z dX3_go_168 0 rfl ?_
    refine g_bipush Z dX3_go_170 zb_6 ?_
    refine g_icmpN_ge (tgt := 196) Z dX3_go_172 (by decide) 3 6 rfl rfl (by omega) (by omega) (fun c_172 => absurd c_172 (by omega)) (fun c_172 => ?_)
    refine g_aload_n Z dX3_go_175 2 rfl rfl ?_
    refine g_get Z dX3_go_176 0 rfl rfl nX3_go_X3 7 (by decide) fX3_go_32 rfl ?_
    refine g_iload Z dX3_go_179 0 rfl ?_
    refine g_aload_n Z dX3_go_181 2 rfl rfl ?_
    refine g_get Z dX3_go_182 0 rfl rfl nX3_go_X3 7 (by decide) fX3_go_32 rfl ?_
    refine g_iload Z dX3_go_185 0 rfl ?_
    refine g_laldE (v := td (s2 (s1 (s0 T2 (-(ta T2))) (-(tb (s0 T2 (-(ta T2)))))) (-(tc (s1 (s0 T2 (-(ta T2))) (-(tb (s0 T2 (-(ta T2)))))))))) Z dX3_go_187 6 rfl 3 rfl (by decide) rfl rfl ?_
    refine g_lneg Z dX3_go_188 ?_
    refine g_lastE (w' := [cO h 3 [.int (nI nb), .ref m1, .ref m2, .ref m3, .ref m4, .int (nI dn), .ref m5, .ref m6, .long (-(tg T2))], cI E m1 4 (mN n), cI E m2 32 (gl K), cI E m3 32 (gl F), cI E m4 32 (gl G), cI E m5 12 D, cJ E m6 6 (tv (s3 (s2 (s1 (s0 T2 (-(ta T2))) (-(tb (s0 T2 (-(ta T2)))))) (-(tc (s1 (s0 T2 (-(ta T2))) (-(tb (s0 T2 (-(ta T2))))))))) (-(td (s2 (s1 (s0 T2 (-(ta T2))) (-(tb (s0 T2 (-(ta T2)))))) (-(tc (s1 (s0 T2 (-(ta T2))) (-(tb (s0 T2 (-(ta T2)))))))))))))]) Z dX3_go_189 6 rfl 3 rfl (by decide) rfl (tv_s3 _ _) rfl ?_
    refine g_iinc (lv' := [(5, .int 4), (3, .long (Int32.toInt64 (F j p))), (0, .ref h), (1, .int (nI q)), (2, .int way)]) Z dX3_go_190 0 rfl (by decide) (by decide) rfl ?_
    refine g_goto (tgt := 168) Z dX3_go_193 (by decide) ?_
    refine g_iload Z dX3_go_168 0 rfl ?_
    refine g_bipush Z dX3_go_170 zb_6 ?_
    refine g_icmpN_ge (tgt := 196) Z dX3_go_172 (by decide) 4 6 rfl rfl (by omega) (by omega) (fun c_172 => absurd c_172 (by omega)) (fun c_172 => ?_)
    refine g_aload_n Z dX3_go_175 2 rfl rfl ?_
    refine g_get Z dX3_go_176 0 rfl rfl nX3_go_X3 7 (by decide) fX3_go_32 rfl ?_
    refine g_iload Z dX3_go_179 0 rfl ?_
    refine g_aload_n Z dX3_go_181 2 rfl rfl ?_
    refine g_get Z dX3_go_182 0 rfl rfl nX3_go_X3 7 (by decide) fX3_go_32 rfl ?_
    refine g_iload Z dX3_go_185 0 rfl ?_
    refine g_laldE (v := te (s3 (s2 (s1 (s0 T2 (-(ta T2))) (-(tb (s0 T2 (-(ta T2)))))) (-(tc (s1 (s0 T2 (-(ta T2))) (-(tb (s0 T2 (-(ta T2))))))))) (-(td (s2 (s1 (s0 T2 (-(ta T2))) (-(tb (s0 T2 (-(ta T2)))))) (-(tc (s1 (s0 T2 (-(ta T2))) (-(tb (s0 T2 (-(ta T2))))))))))))) Z dX3_go_187 6 rfl 4 rfl (by decide) rfl rfl ?_
    refine g_lneg Z dX3_go_188 ?_
    refine g_lastE (w' := [cO h 3 [.int (nI nb), .ref m1, .ref m2, .ref m3, .ref m4, .int (nI dn), .ref m5, .ref m6, .long (-(tg T2))], cI E m1 4 (mN n), cI E m2 32 (gl K), cI E m3 32 (gl F), cI E m4 32 (gl G), cI E m5 12 D, cJ E m6 6 (tv (s4 (s3 (s2 (s1 (s0 T2 (-(ta T2))) (-(tb (s0 T2 (-(ta T2)))))) (-(tc (s1 (s0 T2 (-(ta T2))) (-(tb (s0 T2 (-(ta T2))))))))) (-(td (s2 (s1 (s0 T2 (-(ta T2))) (-(tb (s0 T2 (-(ta T2)))))) (-(tc (s1 (s0 T2 (-(ta T2))) (-(tb (s0 T2 (-(ta T2)))))))))))) (-(te (s3 (s2 (s1 (s0 T2 (-(ta T2))) (-(tb (s0 T2 (-(ta T2)))))) (-(tc (s1 (s0 T2 (-(ta T2))) (-(tb (s0 T2 (-(ta T2))))))))) (-(td (s2 (s1 (s0 T2 (-(ta T2))) (-(tb (s0 T2 (-(ta T2)))))) (-(tc (s1 (s0 T2 (-(ta T2))) (-(tb (s0 T2 (-(ta T2))))))))))))))))]) Z dX3_go_189 6 rfl 4 rfl (by decide) rfl (tv_s4 _ _) rfl ?_
    refine g_iinc (lv' := [(5, .int 5), (3, .long (Int32.toInt64 (F j p))), (0, .ref h), (1, .int (nI q)), (2, .int way)]) Z dX3_go_190 0 rfl (by decide) (by decide) rfl ?_
    refine g_goto (tgt := 168) Z dX3_go_193 (by decide) ?_
    refine g_iload Z dX3_go_168 0 rfl ?_
    refine g_bipush Z dX3_go_170 zb_6 ?_
    refine g_icmpN_ge (tgt := 196) Z dX3_go_172 (by decide) 5 6 rfl rfl (by omega) (by omega) (fun c_172 => absurd c_172 (by omega)) (fun c_172 => ?_)
    refine g_aload_n Z dX3_go_175 2 rfl rfl ?_
    refine g_get Z dX3_go_176 0 rfl rfl nX3_go_X3 7 (by decide) fX3_go_32 rfl ?_
    refine g_iload Z dX3_go_179 0 rfl ?_
    refine g_aload_n Z dX3_go_181 2 rfl rfl ?_
    refine g_get Z dX3_go_182 0 rfl rfl nX3_go_X3 7 (by decide) fX3_go_32 rfl ?_
    refine g_iload Z dX3_go_185 0 rfl ?_
    refine g_laldE (v := tf (s4 (s3 (s2 (s1 (s0 T2 (-(ta T2))) (-(tb (s0 T2 (-(ta T2)))))) (-(tc (s1 (s0 T2 (-(ta T2))) (-(tb (s0 T2 (-(ta T2))))))))) (-(td (s2 (s1 (s0 T2 (-(ta T2))) (-(tb (s0 T2 (-(ta T2)))))) (-(tc (s1 (s0 T2 (-(ta T2))) (-(tb (s0 T2 (-(ta T2)))))))))))) (-(te (s3 (s2 (s1 (s0 T2 (-(ta T2))) (-(tb (s0 T2 (-(ta T2)))))) (-(tc (s1 (s0 T2 (-(ta T2))) (-(tb (s0 T2 (-(ta T2))))))))) (-(td (s2 (s1 (s0 T2 (-(ta T2))) (-(tb (s0 T2 (-(ta T2)))))) (-(tc (s1 (s0 T2 (-(ta T2))) (-(tb (s0 T2 (-(ta T2)))))))))))))))) Z dX3_go_187 6 rfl 5 rfl (by decide) rfl rfl ?_
    refine g_lneg Z dX3_go_188 ?_
    refine g_lastE (w' := [cO h 3 [.int (nI nb), .ref m1, .ref m2, .ref m3, .ref m4, .int (nI dn), .ref m5, .ref m6, .long (-(tg T2))], cI E m1 4 (mN n), cI E m2 32 (gl K), cI E m3 32 (gl F), cI E m4 32 (gl G), cI E m5 12 D, cJ E m6 6 (tv (s5 (s4 (s3 (s2 (s1 (s0 T2 (-(ta T2))) (-(tb (s0 T2 (-(ta T2)))))) (-(tc (s1 (s0 T2 (-(ta T2))) (-(tb (s0 T2 (-(ta T2))))))))) (-(td (s2 (s1 (s0 T2 (-(ta T2))) (-(tb (s0 T2 (-(ta T2)))))) (-(tc (s1 (s0 T2 (-(ta T2))) (-(tb (s0 T2 (-(ta T2)))))))))))) (-(te (s3 (s2 (s1 (s0 T2 (-(ta T2))) (-(tb (s0 T2 (-(ta T2)))))) (-(tc (s1 (s0 T2 (-(ta T2))) (-(tb (s0 T2 (-(ta T2))))))))) (-(td (s2 (s1 (s0 T2 (-(ta T2))) (-(tb (s0 T2 (-(ta T2)))))) (-(tc (s1 (s0 T2 (-(ta T2))) (-(tb (s0 T2 (-(ta T2))))))))))))))) (-(tf (s4 (s3 (s2 (s1 (s0 T2 (-(ta T2))) (-(tb (s0 T2 (-(ta T2)))))) (-(tc (s1 (s0 T2 (-(ta T2))) (-(tb (s0 T2 (-(ta T2))))))))) (-(td (s2 (s1 (s0 T2 (-(ta T2))) (-(tb (s0 T2 (-(ta T2)))))) (-(tc (s1 (s0 T2 (-(ta T2))) (-(tb (s0 T2 (-(ta T2)))))))))))) (-(te (s3 (s2 (s1 (s0 T2 (-(ta T2))) (-(tb (s0 T2 (-(ta T2)))))) (-(tc (s1 (s0 T2 (-(ta T2))) (-(tb (s0 T2 (-(ta T2))))))))) (-(td (s2 (s1 (s0 T2 (-(ta T2))) (-(tb (s0 T2 (-(ta T2)))))) (-(tc (s1 (s0 T2 (-(ta T2))) (-(tb (s0 T2 (-(ta T2)))))))))))))))))))]) Z dX3_go_189 6 rfl 5 rfl (by decide) rfl (tv_s5 _ _) rfl ?_
    refine g_iinc (lv' := [(5, .int 6), (3, .long (Int32.toInt64 (F j p))), (0, .ref h), (1, .int (nI q)), (2, .int way)]) Z dX3_go_190 0 rfl (by decide) (by decide) rfl ?_
    refine g_goto (tgt := 168) Z dX3_go_193 (by decide) ?_
    refine g_iload Z dX3_go_168 0 rfl ?_
    refine g_bipush Z dX3_go_170 zb_6 ?_
    refine g_icmpN_ge (tgt := 196) Z dX3_go_172 (by decide) 6 6 rfl rfl (by omega) (by omega) (fun c_172 => ?_) (fun c_172 => absurd c_172 (by omega))
    exact g_vret Z dX3_go_196 rfl ⟨Nat.zero_le _, Nat.zero_le _⟩ ⟨rfl, by rw [← h2, nrm, if_pos c_152]; rfl⟩
  · exact g_vret Z dX3_go_155 rfl ⟨Nat.zero_le _, Nat.zero_le _⟩ ⟨rfl, by rw [← h2, nrm, if_neg c_152]⟩
set_option maxHeartbeats 4000000 in
set_option maxRecDepth 100000 in
theorem qX3_go (E : zE) (h m1 m2 m3 m4 m5 m6 : Nat) (nb dn : Nat) (n : Nat → Nat) (K F G : Nat → Nat → Int32) (D : Nat → Int32) (T : TB) (j p q : Nat) (way : Int32) (hq : q = 8 * j + p) (hp : p < 8) (hj : j < 4) : zF E yX3_go wsX3_go rX3_go [.ref h, .int (nI q), .int way] [cO h 3 [.int (nI nb), .ref m1, .ref m2, .ref m3, .ref m4, .int (nI dn), .ref m5, .ref m6, .long (tg T)], cI E m1 4 (mN n), cI E m2 32 (gl K), cI E m3 32 (gl F), cI E m4 32 (gl G), cI E m5 12 D, cJ E m6 6 (tv T)] (zx none ([cO h 3 [.int (nI nb), .ref m1, .ref m2, .ref m3, .ref m4, .int (nI dn), .ref m5, .ref m6, .long (tg (goM (K j p) (F j p) (G j p) way T))], cI E m1 4 (mN n), cI E m2 32 (gl K), cI E m3 32 (gl F), cI E m4 32 (gl G), cI E m5 12 D, cJ E m6 6 (tv (goM (K j p) (F j p) (G j p) way T))])) := by
  refine z_start RX3 "go" (by decide) rfl rfl rfl (Nat.le_of_ble_eq_true rfl) ?_
  intro J Z
  refine g_eq Z (lv2 := [(0, .ref h), (1, .int (nI q)), (2, .int way)]) rfl rfl rfl ?_
  refine g_aload_n Z dX3_go_0 0 rfl rfl ?_
  refine g_get Z dX3_go_1 0 rfl rfl nX3_go_X3 3 (by decide) fX3_go_20 rfl ?_
  refine g_iload_n Z dX3_go_4 1 rfl rfl ?_
  refine g_ialdE (v := F j p) Z dX3_go_5 3 rfl q rfl (by omega) rfl (gl_at _ (j := j) (p := p) hq hp) ?_
  refine g_i2l Z dX3_go_6 ?_
  refine g_lstore_n (lv' := [(3, .long (Int32.toInt64 (F j p))), (0, .ref h), (1, .int (nI q)), (2, .int way)]) Z dX3_go_7 rfl (by decide) rfl ?_
  refine g_aload_n Z dX3_go_8 1 rfl rfl ?_
  refine g_get Z dX3_go_9 0 rfl rfl nX3_go_X3 2 (by decide) fX3_go_17 rfl ?_
  refine g_iload_n Z dX3_go_12 2 rfl rfl ?_
  refine g_ialdE (v := K j p) Z dX3_go_13 2 rfl q rfl (by omega) rfl (gl_at _ (j := j) (p := p) hq hp) ?_
  rcases z_sw3 (K j p) with c_14 | c_14 | c_14 | c_14 | c_14
  · refine g_tsin (tgt := 44) Z dX3_go_14 0 c_14 (by decide) rfl (by decide) ?_
    refine g_aload_n Z dX3_go_44 1 rfl rfl ?_
    refine g_get Z dX3_go_45 0 rfl rfl nX3_go_X3 7 (by decide) fX3_go_32 rfl ?_
    refine g_iconst Z dX3_go_48 zi_0 ?_
    refine g_dup2_11 Z dX3_go_49 rfl rfl ?_
    refine g_laldE (v := ta T) Z dX3_go_50 6 rfl 0 rfl (by decide) rfl rfl ?_
    refine g_lload_n Z dX3_go_51 0 rfl rfl ?_
    refine g_aload_n Z dX3_go_52 1 rfl rfl ?_
    refine g_get Z dX3_go_53 0 rfl rfl nX3_go_X3 7 (by decide) fX3_go_32 rfl ?_
    refine g_iconst Z dX3_go_56 zi_2 ?_
    refine g_laldE (v := tc T) Z dX3_go_57 6 rfl 2 rfl (by decide) rfl rfl ?_
    refine g_lmul Z dX3_go_58 ?_
    refine g_ladd Z dX3_go_59 ?_
    refine g_lastE (w' := [cO h 3 [.int (nI nb), .ref m1, .ref m2, .ref m3, .ref m4, .int (nI dn), .ref m5, .ref m6, .long (tg T)], cI E m1 4 (mN n), cI E m2 32 (gl K), cI E m3 32 (gl F), cI E m4 32 (gl G), cI E m5 12 D, cJ E m6 6 (tv (s0 T ((ta T) + ((Int32.toInt64 (F j p)) * (tc T)))))]) Z dX3_go_60 6 rfl 0 rfl (by decide) rfl (tv_s0 _ _) rfl ?_
    refine g_aload_n Z dX3_go_61 1 rfl rfl ?_
    refine g_get Z dX3_go_62 0 rfl rfl nX3_go_X3 7 (by decide) fX3_go_32 rfl ?_
    refine g_iconst Z dX3_go_65 zi_1 ?_
    refine g_dup2_11 Z dX3_go_66 rfl rfl ?_
    refine g_laldE (v := tb (s0 T ((ta T) + ((Int32.toInt64 (F j p)) * (tc T))))) Z dX3_go_67 6 rfl 1 rfl (by decide) rfl rfl ?_
    refine g_lload_n Z dX3_go_68 0 rfl rfl ?_
    refine g_aload_n Z dX3_go_69 1 rfl rfl ?_
    refine g_get Z dX3_go_70 0 rfl rfl nX3_go_X3 7 (by decide) fX3_go_32 rfl ?_
    refine g_iconst Z dX3_go_73 zi_3 ?_
    refine g_laldE (v := td (s0 T ((ta T) + ((Int32.toInt64 (F j p)) * (tc T))))) Z dX3_go_74 6 rfl 3 rfl (by decide) rfl rfl ?_
    refine g_lmul Z dX3_go_75 ?_
    refine g_ladd Z dX3_go_76 ?_
    refine g_lastE (w' := [cO h 3 [.int (nI nb), .ref m1, .ref m2, .ref m3, .ref m4, .int (nI dn), .ref m5, .ref m6, .long (tg T)], cI E m1 4 (mN n), cI E m2 32 (gl K), cI E m3 32 (gl F), cI E m4 32 (gl G), cI E m5 12 D, cJ E m6 6 (tv (s1 (s0 T ((ta T) + ((Int32.toInt64 (F j p)) * (tc T)))) ((tb (s0 T ((ta T) + ((Int32.toInt64 (F j p)) * (tc T))))) + ((Int32.toInt64 (F j p)) * (td (s0 T ((ta T) + ((Int32.toInt64 (F j p)) * (tc T)))))))))]) Z dX3_go_77 6 rfl 1 rfl (by decide) rfl (tv_s1 _ _) rfl ?_
    refine g_aload_n Z dX3_go_78 1 rfl rfl ?_
    refine g_get Z dX3_go_79 0 rfl rfl nX3_go_X3 7 (by decide) fX3_go_32 rfl ?_
    refine g_iconst Z dX3_go_82 zi_4 ?_
    refine g_dup2_11 Z dX3_go_83 rfl rfl ?_
    refine g_laldE (v := te (s1 (s0 T ((ta T) + ((Int32.toInt64 (F j p)) * (tc T)))) ((tb (s0 T ((ta T) + ((Int32.toInt64 (F j p)) * (tc T))))) + ((Int32.toInt64 (F j p)) * (td (s0 T ((ta T) + ((Int32.toInt64 (F j p)) * (tc T))))))))) Z dX3_go_84 6 rfl 4 rfl (by decide) rfl rfl ?_
    refine g_lload_n Z dX3_go_85 0 rfl rfl ?_
    refine g_aload_n Z dX3_go_86 1 rfl rfl ?_
    refine g_get Z dX3_go_87 0 rfl rfl nX3_go_X3 7 (by decide) fX3_go_32 rfl ?_
    refine g_iconst Z dX3_go_90 zi_5 ?_
    refine g_laldE (v := tf (s1 (s0 T ((ta T) + ((Int32.toInt64 (F j p)) * (tc T)))) ((tb (s0 T ((ta T) + ((Int32.toInt64 (F j p)) * (tc T))))) + ((Int32.toInt64 (F j p)) * (td (s0 T ((ta T) + ((Int32.toInt64 (F j p)) * (tc T))))))))) Z dX3_go_91 6 rfl 5 rfl (by decide) rfl rfl ?_
    refine g_lmul Z dX3_go_92 ?_
    refine g_ladd Z dX3_go_93 ?_
    refine g_lastE (w' := [cO h 3 [.int (nI nb), .ref m1, .ref m2, .ref m3, .ref m4, .int (nI dn), .ref m5, .ref m6, .long (tg T)], cI E m1 4 (mN n), cI E m2 32 (gl K), cI E m3 32 (gl F), cI E m4 32 (gl G), cI E m5 12 D, cJ E m6 6 (tv (s4 (s1 (s0 T ((ta T) + ((Int32.toInt64 (F j p)) * (tc T)))) ((tb (s0 T ((ta T) + ((Int32.toInt64 (F j p)) * (tc T))))) + ((Int32.toInt64 (F j p)) * (td (s0 T ((ta T) + ((Int32.toInt64 (F j p)) * (tc T)))))))) ((te (s1 (s0 T ((ta T) + ((Int32.toInt64 (F j p)) * (tc T)))) ((tb (s0 T ((ta T) + ((Int32.toInt64 (F j p)) * (tc T))))) + ((Int32.toInt64 (F j p)) * (td (s0 T ((ta T) + ((Int32.toInt64 (F j p)) * (tc T))))))))) + ((Int32.toInt64 (F j p)) * (tf (s1 (s0 T ((ta T) + ((Int32.toInt64 (F j p)) * (tc T)))) ((tb (s0 T ((ta T) + ((Int32.toInt64 (F j p)) * (tc T))))) + ((Int32.toInt64 (F j p)) * (td (s0 T ((ta T) + ((Int32.toInt64 (F j p)) * (tc T)))))))))))))]) Z dX3_go_94 6 rfl 4 rfl (by decide) rfl (tv_s4 _ _) rfl ?_
    refine g_goto (tgt := 146) Z dX3_go_95 (by decide) ?_
    refine g_eq Z (w2 := [cO h 3 [.int (nI nb), .ref m1, .ref m2, .ref m3, .ref m4, .int (nI dn), .ref m5, .ref m6, .long (tg (strF (Int32.toInt64 (F j p)) T))], cI E m1 4 (mN n), cI E m2 32 (gl K), cI E m3 32 (gl F), cI E m4 32 (gl G), cI E m5 12 D, cJ E m6 6 (tv (strF (Int32.toInt64 (F j p)) T))]) rfl rfl rfl ?_
    exact lX3_go E h m1 m2 m3 m4 m5 m6 nb dn n K F G D T j p q way hq hp hj Z (strF (Int32.toInt64 (F j p)) T) (by rw [goM, c_14, if_pos (by decide)])
  · refine g_tsin (tgt := 98) Z dX3_go_14 1 c_14 (by decide) rfl (by decide) ?_
    refine g_aload_n Z dX3_go_98 1 rfl rfl ?_
    refine g_lload_n Z dX3_go_99 0 rfl rfl ?_
    refine g_callVx (w' := [cO h 3 [.int (nI nb), .ref m1, .ref m2, .ref m3, .ref m4, .int (nI dn), .ref m5, .ref m6, .long (tg (bnd (Int32.toInt64 (F j p)) T))], cI E m1 4 (mN n), cI E m2 32 (gl K), cI E m3 32 (gl F), cI E m4 32 (gl G), cI E m5 12 D, cJ E m6 6 (tv (bnd (Int32.toInt64 (F j p)) T))]) Z (qX3_bend E h m1 m2 m3 m4 m5 m6 nb dn T (Int32.toInt64 (F j p))) iX3_bend gX3_go_X3_bend ⟨rfl, rfl⟩ ⟨Nat.le_of_ble_eq_true rfl, Nat.le_of_ble_eq_true rfl⟩ dX3_go_100 rfl rfl (Nat.le_of_ble_eq_true rfl) ⟨Nat.zero_le _, Nat.zero_le _⟩ [0, 6] rfl rfl 0 rfl rfl rfl rfl rfl ?_
    refine g_goto (tgt := 146) Z dX3_go_103 (by decide) ?_
    refine g_eq Z (w2 := [cO h 3 [.int (nI nb), .ref m1, .ref m2, .ref m3, .ref m4, .int (nI dn), .ref m5, .ref m6, .long (tg (bnd (Int32.toInt64 (F j p)) T))], cI E m1 4 (mN n), cI E m2 32 (gl K), cI E m3 32 (gl F), cI E m4 32 (gl G), cI E m5 12 D, cJ E m6 6 (tv (bnd (Int32.toInt64 (F j p)) T))]) rfl rfl rfl ?_
    exact lX3_go E h m1 m2 m3 m4 m5 m6 nb dn n K F G D T j p q way hq hp hj Z (bnd (Int32.toInt64 (F j p)) T) (by rw [goM, c_14, if_neg (by decide), if_pos (by decide)])
  · refine g_tsin (tgt := 106) Z dX3_go_14 2 c_14 (by decide) rfl (by decide) ?_
    refine g_aload_n Z dX3_go_106 1 rfl rfl ?_
    refine g_iload_n Z dX3_go_107 3 rfl rfl ?_
    refine g_if_ne (tgt := 115) Z dX3_go_108 (by decide) (fun c_108 => ?_) (fun c_108 => ?_)
    · refine g_aload_n Z dX3_go_115 1 rfl rfl ?_
      refine g_get Z dX3_go_116 0 rfl rfl nX3_go_X3 4 (by decide) fX3_go_23 rfl ?_
      refine g_iload_n Z dX3_go_119 2 rfl rfl ?_
      refine g_ialdE (v := G j p) Z dX3_go_120 4 rfl q rfl (by omega) rfl (gl_at _ (j := j) (p := p) hq hp) ?_
      refine g_i2l Z dX3_go_121 ?_
      refine g_callVx (w' := [cO h 3 [.int (nI nb), .ref m1, .ref m2, .ref m3, .ref m4, .int (nI dn), .ref m5, .ref m6, .long (tg (bnd (Int32.toInt64 (G j p)) T))], cI E m1 4 (mN n), cI E m2 32 (gl K), cI E m3 32 (gl F), cI E m4 32 (gl G), cI E m5 12 D, cJ E m6 6 (tv (bnd (Int32.toInt64 (G j p)) T))]) Z (qX3_bend E h m1 m2 m3 m4 m5 m6 nb dn T (Int32.toInt64 (G j p))) iX3_bend gX3_go_X3_bend ⟨rfl, rfl⟩ ⟨Nat.le_of_ble_eq_true rfl, Nat.le_of_ble_eq_true rfl⟩ dX3_go_122 rfl rfl (Nat.le_of_ble_eq_true rfl) ⟨Nat.zero_le _, Nat.zero_le _⟩ [0, 6] rfl rfl 0 rfl rfl rfl rfl rfl ?_
      refine g_goto (tgt := 146) Z dX3_go_125 (by decide) ?_
      refine g_eq Z (w2 := [cO h 3 [.int (nI nb), .ref m1, .ref m2, .ref m3, .ref m4, .int (nI dn), .ref m5, .ref m6, .long (tg (bnd (Int32.toInt64 (G j p)) T))], cI E m1 4 (mN n), cI E m2 32 (gl K), cI E m3 32 (gl F), cI E m4 32 (gl G), cI E m5 12 D, cJ E m6 6 (tv (bnd (Int32.toInt64 (G j p)) T))]) rfl rfl rfl ?_
      exact lX3_go E h m1 m2 m3 m4 m5 m6 nb dn n K F G D T j p q way hq hp hj Z (bnd (Int32.toInt64 (G j p)) T) (by rw [goM, c_14, if_neg (by decide), if_neg (by decide), if_pos (by decide), if_neg c_108])
    · refine g_lload_n Z dX3_go_111 0 rfl rfl ?_
      refine g_goto (tgt := 122) Z dX3_go_112 (by decide) ?_
      refine g_callVx (w' := [cO h 3 [.int (nI nb), .ref m1, .ref m2, .ref m3, .ref m4, .int (nI dn), .ref m5, .ref m6, .long (tg (bnd (Int32.toInt64 (F j p)) T))], cI E m1 4 (mN n), cI E m2 32 (gl K), cI E m3 32 (gl F), cI E m4 32 (gl G), cI E m5 12 D, cJ E m6 6 (tv (bnd (Int32.toInt64 (F j p)) T))]) Z (qX3_bend E h m1 m2 m3 m4 m5 m6 nb dn T (Int32.toInt64 (F j p))) iX3_bend gX3_go_X3_bend ⟨rfl, rfl⟩ ⟨Nat.le_of_ble_eq_true rfl, Nat.le_of_ble_eq_true rfl⟩ dX3_go_122 rfl rfl (Nat.le_of_ble_eq_true rfl) ⟨Nat.zero_le _, Nat.zero_le _⟩ [0, 6] rfl rfl 0 rfl rfl rfl rfl rfl ?_
      refine g_goto (tgt := 146) Z dX3_go_125 (by decide) ?_
      refine g_eq Z (w2 := [cO h 3 [.int (nI nb), .ref m1, .ref m2, .ref m3, .ref m4, .int (nI dn), .ref m5, .ref m6, .long (tg (bnd (Int32.toInt64 (F j p)) T))], cI E m1 4 (mN n), cI E m2 32 (gl K), cI E m3 32 (gl F), cI E m4 32 (gl G), cI E m5 12 D, cJ E m6 6 (tv (bnd (Int32.toInt64 (F j p)) T))]) rfl rfl rfl ?_
      exact lX3_go E h m1 m2 m3 m4 m5 m6 nb dn n K F G D T j p q way hq hp hj Z (bnd (Int32.toInt64 (F j p)) T) (by rw [goM, c_14, if_neg (by decide), if_neg (by decide), if_pos (by decide), if_pos c_108])
  · refine g_tsin (tgt := 128) Z dX3_go_14 3 c_14 (by decide) rfl (by decide) ?_
    refine g_aload_n Z dX3_go_128 1 rfl rfl ?_
    refine g_get Z dX3_go_129 0 rfl rfl nX3_go_X3 7 (by decide) fX3_go_32 rfl ?_
    refine g_iconst Z dX3_go_132 zi_5 ?_
    refine g_dup2_11 Z dX3_go_133 rfl rfl ?_
    refine g_laldE (v := tf T) Z dX3_go_134 6 rfl 5 rfl (by decide) rfl rfl ?_
    refine g_lload_n Z dX3_go_135 0 rfl rfl ?_
    refine g_aload_n Z dX3_go_136 1 rfl rfl ?_
    refine g_get Z dX3_go_137 0 rfl rfl nX3_go_X3 8 (by decide) fX3_go_36 rfl ?_
    refine g_lmul Z dX3_go_140 ?_
    refine g_ladd Z dX3_go_141 ?_
    refine g_lastE (w' := [cO h 3 [.int (nI nb), .ref m1, .ref m2, .ref m3, .ref m4, .int (nI dn), .ref m5, .ref m6, .long (tg T)], cI E m1 4 (mN n), cI E m2 32 (gl K), cI E m3 32 (gl F), cI E m4 32 (gl G), cI E m5 12 D, cJ E m6 6 (tv (s5 T ((tf T) + ((Int32.toInt64 (F j p)) * (tg T)))))]) Z dX3_go_142 6 rfl 5 rfl (by decide) rfl (tv_s5 _ _) rfl ?_
    refine g_goto (tgt := 146) Z dX3_go_143 (by decide) ?_
    refine g_eq Z (w2 := [cO h 3 [.int (nI nb), .ref m1, .ref m2, .ref m3, .ref m4, .int (nI dn), .ref m5, .ref m6, .long (tg (tilF (Int32.toInt64 (F j p)) T))], cI E m1 4 (mN n), cI E m2 32 (gl K), cI E m3 32 (gl F), cI E m4 32 (gl G), cI E m5 12 D, cJ E m6 6 (tv (tilF (Int32.toInt64 (F j p)) T))]) rfl rfl rfl ?_
    exact lX3_go E h m1 m2 m3 m4 m5 m6 nb dn n K F G D T j p q way hq hp hj Z (tilF (Int32.toInt64 (F j p)) T) (by rw [goM, c_14, if_neg (by decide), if_neg (by decide), if_neg (by decide), if_pos (by decide)])
  · refine g_tsout (tgt := 146) Z dX3_go_14 c_14.1 (by decide) ?_
    refine g_eq Z (w2 := [cO h 3 [.int (nI nb), .ref m1, .ref m2, .ref m3, .ref m4, .int (nI dn), .ref m5, .ref m6, .long (tg T)], cI E m1 4 (mN n), cI E m2 32 (gl K), cI E m3 32 (gl F), cI E m4 32 (gl G), cI E m5 12 D, cJ E m6 6 (tv T)]) rfl rfl rfl ?_
    exact lX3_go E h m1 m2 m3 m4 m5 m6 nb dn n K F G D T j p q way hq hp hj Z (T) (by rw [goM, if_neg c_14.2.1, if_neg c_14.2.2.1, if_neg c_14.2.2.2.1, if_neg c_14.2.2.2.2])

abbrev rX3_work : Room := { frames := 2, cells := 0, slots := 0, locals := 53 }
theorem iX3_work : zInfo yX3_work wsX3_work RX3 6 none 4 := ⟨_, _, rfl, by decide +kernel⟩
theorem nX3_work_X3 : ∀ w ∈ wsX30, w ∈ wsX3_work := by decide +kernel
theorem fX3_work_13 : Cond.fieldLink RX3 13 (TX3 1).1 (TX3 1).2.1 (TX3 1).2.2.1 ∈ wsX3_work := by decide +kernel
set_option maxHeartbeats 4000000 in
set_option maxRecDepth 100000 in
theorem lX3_work (E : zE) (h m1 m2 m3 m4 m5 m6 : Nat) (nb dn : Nat) (n : Nat → Nat) (K F G : Nat → Nat → Int32) (D : Nat → Int32) (T : TB) (j f e : Nat) (way : Int32) (hn : n j ≤ 8) (hj : j < 4) (hf : f ≤ 8) (he : e ≤ n j) {J : zJ} (Z : zOk E J RX3 cX3_work 6 none wsX3_work rX3_work "work" (fun _ => True) (zx none ([cO h 3 [.int (nI nb), .ref m1, .ref m2, .ref m3, .ref m4, .int (nI dn), .ref m5, .ref m6, .long (tg (wrkF (K j) (F j) (G j) way (n j) f T1 e))], cI E m1 4 (mN n), cI E m2 32 (gl K), cI E m3 32 (gl F), cI E m4 32 (gl G), cI E m5 12 D, cJ E m6 6 (tv (wrkF (K j) (F j) (G j) way (n j) f T1 e))])))  : ∀ (d : Nat) (q : Nat) (T2 : TB), q + d = e → wrkF (K j) (F j) (G j) way (n j) (f + q) T2 d = wrkF (K j) (F j) (G j) way (n j) f T1 e → J 0 0 [cO h 3 [.int (nI nb), .ref m1, .ref m2, .ref m3, .ref m4, .int (nI dn), .ref m5, .ref m6, .long (tg T2)], cI E m1 4 (mN n), cI E m2 32 (gl K), cI E m3 32 (gl F), cI E m4 32 (gl G), cI E m5 12 D, cJ E m6 6 (tv T2)] 7 [(5, .int (nI q)), (0, .ref h), (1, .int (nI j)), (2, .int way), (3, .int (nI f)), (4, .int (nI e))] [] := by
  intro d
  induction d with
  | zero =>
    intro q T2 h1 h2
    simp only [wrkF] at h2
    refine g_iload Z dX3_work_7 0 rfl ?_
    refine g_iload Z dX3_work_9 5 rfl ?_
    refine g_icmpN_ge (tgt := 41) Z dX3_work_11 (by decide) q e rfl rfl (by omega) (by omega) (fun c_11 => ?_) (fun c_11 => absurd c_11 (by omega))
    exact g_vret Z dX3_work_41 rfl ⟨Nat.zero_le _, Nat.zero_le _⟩ ⟨rfl, by rw [h2]⟩
  | succ d ih =>
    intro q T2 h1 h2
    have hmod := Nat.mod_lt (f + q) (show 0 < n j by omega)
    simp only [wrkF] at h2
    refine g_iload Z dX3_work_7 0 rfl ?_
    refine g_iload Z dX3_work_9 5 rfl ?_
    refine g_icmpN_ge (tgt := 41) Z dX3_work_11 (by decide) q e rfl rfl (by omega) (by omega) (fun c_11 => absurd c_11 (by omega)) (fun c_11 => ?_)
    refine g_aload_n Z dX3_work_14 1 rfl rfl ?_
    refine g_bipush Z dX3_work_15 zb_8 ?_
    refine g_iload_n Z dX3_work_17 2 rfl rfl ?_
    refine g_imulE (z := nI (8 * j)) Z dX3_work_18 (pk_mul 8 j) ?_
    refine g_iload_n Z dX3_work_19 4 rfl rfl ?_
    refine g_iload Z dX3_work_20 0 rfl ?_
    refine g_iaddE (z := nI (f + q)) Z dX3_work_22 (nI_add f q) ?_
    refine g_aload_n Z dX3_work_23 1 rfl rfl ?_
    refine g_get Z dX3_work_24 0 rfl rfl nX3_work_X3 1 (by decide) fX3_work_13 rfl ?_
    refine g_iload_n Z dX3_work_27 2 rfl rfl ?_
    refine g_ialdE (v := nI (n j)) Z dX3_work_28 1 rfl j rfl (by omega) rfl rfl ?_
    refine g_iremE (z := nI ((f + q) % n j)) Z dX3_work_29 (nI_ne0 (by omega) (by omega)) (pk_rem (by omega) (by omega) (by omega)) ?_
    refine g_iaddE (z := nI (8 * j + ((f + q) % n j))) Z dX3_work_30 (nI_add (8 * j) ((f + q) % n j)) ?_
    refine g_iload_n Z dX3_work_31 3 rfl rfl ?_
    refine g_callVx (w' := [cO h 3 [.int (nI nb), .ref m1, .ref m2, .ref m3, .ref m4, .int (nI dn), .ref m5, .ref m6, .long (tg (goM (K j ((f + q) % n j)) (F j ((f + q) % n j)) (G j ((f + q) % n j)) way T2))], cI E m1 4 (mN n), cI E m2 32 (gl K), cI E m3 32 (gl F), cI E m4 32 (gl G), cI E m5 12 D, cJ E m6 6 (tv (goM (K j ((f + q) % n j)) (F j ((f + q) % n j)) (G j ((f + q) % n j)) way T2))]) Z (qX3_go E h m1 m2 m3 m4 m5 m6 nb dn n K F G D T2 j ((f + q) % n j) (8 * j + ((f + q) % n j)) way (by omega) (by omega) (by omega)) iX3_go gX3_work_X3_go ⟨rfl, rfl⟩ ⟨Nat.le_of_ble_eq_true rfl, Nat.le_of_ble_eq_true rfl⟩ dX3_work_32 rfl rfl (Nat.le_of_ble_eq_true rfl) ⟨Nat.zero_le _, Nat.zero_le _⟩ [0, 1, 2, 3, 4, 5, 6] rfl rfl 0 rfl rfl rfl rfl rfl ?_
    refine g_iinc (lv' := [(5, .int (nI (q + 1))), (0, .ref h), (1, .int (nI j)), (2, .int way), (3, .int (nI f)), (4, .int (nI e))]) Z dX3_work_35 0 rfl (zinc _) (by decide) rfl ?_
    refine g_goto (tgt := 7) Z dX3_work_38 (by decide) ?_
    refine g_lv (lv2 := [(5, .int (nI (q + 1))), (0, .ref h), (1, .int (nI j)), (2, .int way), (3, .int (nI f)), (4, .int (nI e))]) Z [0, 1, 2, 3, 4, 5] rfl ?_
    exact ih (q + 1) _ (by omega) h2
set_option maxHeartbeats 4000000 in
set_option maxRecDepth 100000 in
theorem qX3_work (E : zE) (h m1 m2 m3 m4 m5 m6 : Nat) (nb dn : Nat) (n : Nat → Nat) (K F G : Nat → Nat → Int32) (D : Nat → Int32) (T : TB) (j f e : Nat) (way : Int32) (hn : n j ≤ 8) (hj : j < 4) (hf : f ≤ 8) (he : e ≤ n j) : zF E yX3_work wsX3_work rX3_work [.ref h, .int (nI j), .int way, .int (nI f), .int (nI e)] [cO h 3 [.int (nI nb), .ref m1, .ref m2, .ref m3, .ref m4, .int (nI dn), .ref m5, .ref m6, .long (tg T)], cI E m1 4 (mN n), cI E m2 32 (gl K), cI E m3 32 (gl F), cI E m4 32 (gl G), cI E m5 12 D, cJ E m6 6 (tv T)] (zx none ([cO h 3 [.int (nI nb), .ref m1, .ref m2, .ref m3, .ref m4, .int (nI dn), .ref m5, .ref m6, .long (tg (wrkF (K j) (F j) (G j) way (n j) f T1 e))], cI E m1 4 (mN n), cI E m2 32 (gl K), cI E m3 32 (gl F), cI E m4 32 (gl G), cI E m5 12 D, cJ E m6 6 (tv (wrkF (K j) (F j) (G j) way (n j) f T1 e))])) := by
  refine z_start RX3 "work" (by decide) rfl rfl rfl (Nat.le_of_ble_eq_true rfl) ?_
  intro J Z
  refine g_eq Z (lv2 := [(0, .ref h), (1, .int (nI j)), (2, .int way), (3, .int (nI f)), (4, .int (nI e))]) rfl rfl rfl ?_
  refine g_aload_n Z dX3_work_0 0 rfl rfl ?_
  refine g_callVx (w' := [cO h 3 [.int (nI nb), .ref m1, .ref m2, .ref m3, .ref m4, .int (nI dn), .ref m5, .ref m6, .long (tg T1)], cI E m1 4 (mN n), cI E m2 32 (gl K), cI E m3 32 (gl F), cI E m4 32 (gl G), cI E m5 12 D, cJ E m6 6 (tv T1)]) Z (qX3_begin E h m1 m2 m3 m4 m5 m6 nb dn T) iX3_begin gX3_work_X3_begin ⟨rfl, rfl⟩ ⟨Nat.le_of_ble_eq_true rfl, Nat.le_of_ble_eq_true rfl⟩ dX3_work_1 rfl rfl (Nat.le_of_ble_eq_true rfl) ⟨Nat.zero_le _, Nat.zero_le _⟩ [0, 6] rfl rfl 0 rfl rfl rfl rfl rfl ?_
  refine g_iconst Z dX3_work_4 zi_0 ?_
  refine g_istore (lv' := [(5, .int 0), (0, .ref h), (1, .int (nI j)), (2, .int way), (3, .int (nI f)), (4, .int (nI e))]) Z dX3_work_5 (by decide) rfl ?_
  exact lX3_work E h m1 m2 m3 m4 m5 m6 nb dn n K F G D T j f e way hn hj hf he Z e 0 T1 (by omega) rfl

abbrev rX3_divisor : Room := { frames := 0, cells := 0, slots := 0, locals := 0 }
theorem iX3_divisor : zInfo yX3_divisor wsX3_divisor RX3 11 (some .long) 2 := ⟨_, _, rfl, by decide +kernel⟩
set_option maxHeartbeats 4000000 in
set_option maxRecDepth 100000 in
theorem lX3_divisor (E : zE) (h m1 m2 m3 m4 m5 m6 : Nat) (nb dn : Nat) (T : TB) (a b : Int64)  {J : zJ} (Z : zOk E J RX3 cX3_divisor 11 (some .long) wsX3_divisor rX3_divisor "divisor" (fun _ => True) (zx (some (.long (gcdL a b))) ([cO h 3 [.int (nI nb), .ref m1, .ref m2, .ref m3, .ref m4, .int (nI dn), .ref m5, .ref m6, .long (tg T)]])))  : ∀ (d : Nat) (x y : Int64), eFin d x y → euN d x y = gcdL a b → J 0 0 [cO h 3 [.int (nI nb), .ref m1, .ref m2, .ref m3, .ref m4, .int (nI dn), .ref m5, .ref m6, .long (tg T)]] 28 [(7, .long y), (5, .long x), (0, .ref h), (1, .long a), (3, .long b)] [] := by
  intro d
  induction d with
  | zero =>
    intro x y h1 h2
    have h2 : x = gcdL a b := h2
    refine g_lload Z dX3_divisor_28 0 rfl ?_
    refine g_lconst Z dX3_divisor_30 zl_0 ?_
    refine g_lcmp_eq (tgt := 53) Z dX3_divisor_31 dX3_divisor_32 rfl (by decide) (fun c_32 => ?_) (fun c_32 => absurd c_32 (fun q => q h1))
    refine g_lload Z dX3_divisor_53 1 rfl ?_
    exact g_lret Z dX3_divisor_55 rfl ⟨Nat.zero_le _, Nat.zero_le _⟩ ⟨by rw [h2], rfl⟩
  | succ d ih =>
    intro x y h1 h2
    refine g_lload Z dX3_divisor_28 0 rfl ?_
    refine g_lconst Z dX3_divisor_30 zl_0 ?_
    refine g_lcmp_eq (tgt := 53) Z dX3_divisor_31 dX3_divisor_32 rfl (by decide) (fun c_32 => ?_) (fun c_32 => ?_)
    · rw [euN, if_pos c_32] at h2
      refine g_lload Z dX3_divisor_53 1 rfl ?_
      exact g_lret Z dX3_divisor_55 rfl ⟨Nat.zero_le _, Nat.zero_le _⟩ ⟨by rw [h2], rfl⟩
    · refine g_lload Z dX3_divisor_35 1 rfl ?_
      refine g_lload Z dX3_divisor_37 0 rfl ?_
      rw [euN, if_neg c_32] at h2
      refine g_lrem Z dX3_divisor_39 c_32 ?_
      refine g_lstore (lv' := [(9, .long (x - x / y * y)), (7, .long y), (5, .long x), (0, .ref h), (1, .long a), (3, .long b)]) Z dX3_divisor_40 (by decide) rfl ?_
      refine g_lload Z dX3_divisor_42 1 rfl ?_
      refine g_lstore (lv' := [(5, .long y), (9, .long (x - x / y * y)), (7, .long y), (0, .ref h), (1, .long a), (3, .long b)]) Z dX3_divisor_44 (by decide) rfl ?_
      refine g_lload Z dX3_divisor_46 1 rfl ?_
      refine g_lstore (lv' := [(7, .long (x - x / y * y)), (5, .long y), (9, .long (x - x / y * y)), (0, .ref h), (1, .long a), (3, .long b)]) Z dX3_divisor_48 (by decide) rfl ?_
      refine g_goto (tgt := 28) Z dX3_divisor_50 (by decide) ?_
      refine g_lv (lv2 := [(7, .long (x - x / y * y)), (5, .long y), (0, .ref h), (1, .long a), (3, .long b)]) Z [0, 1, 3, 4, 5] rfl ?_
      exact ih _ _ (h1.resolve_left c_32) h2
set_option maxHeartbeats 4000000 in
set_option maxRecDepth 100000 in
theorem qX3_divisor (E : zE) (h m1 m2 m3 m4 m5 m6 : Nat) (nb dn : Nat) (T : TB) (a b : Int64)  : zF E yX3_divisor wsX3_divisor rX3_divisor [.ref h, .long a, .long b] [cO h 3 [.int (nI nb), .ref m1, .ref m2, .ref m3, .ref m4, .int (nI dn), .ref m5, .ref m6, .long (tg T)]] (zx (some (.long (gcdL a b))) ([cO h 3 [.int (nI nb), .ref m1, .ref m2, .ref m3, .ref m4, .int (nI dn), .ref m5, .ref m6, .long (tg T)]])) := by
  refine z_start RX3 "divisor" (by decide) rfl rfl rfl (Nat.le_of_ble_eq_true rfl) ?_
  intro J Z
  refine g_eq Z (lv2 := [(0, .ref h), (1, .long a), (3, .long b)]) rfl rfl rfl ?_
  refine g_lload_n Z dX3_divisor_0 1 rfl rfl ?_
  refine g_lconst Z dX3_divisor_1 zl_0 ?_
  refine g_lcmp_ge (tgt := 11) Z dX3_divisor_2 dX3_divisor_3 rfl (by decide) (fun c_3 => ?_) (fun c_3 => ?_)
  · refine g_lload_n Z dX3_divisor_11 1 rfl rfl ?_
    refine g_lstore (lv' := [(5, .long a), (0, .ref h), (1, .long a), (3, .long b)]) Z dX3_divisor_12 (by decide) rfl ?_
    refine g_lload_n Z dX3_divisor_14 3 rfl rfl ?_
    refine g_lconst Z dX3_divisor_15 zl_0 ?_
    refine g_lcmp_ge (tgt := 25) Z dX3_divisor_16 dX3_divisor_17 rfl (by decide) (fun c_17 => ?_) (fun c_17 => ?_)
    · refine g_lload_n Z dX3_divisor_25 3 rfl rfl ?_
      refine g_lstore (lv' := [(7, .long b), (5, .long a), (0, .ref h), (1, .long a), (3, .long b)]) Z dX3_divisor_26 (by decide) rfl ?_
      refine g_lv (lv2 := [(7, .long b), (5, .long a), (0, .ref h), (1, .long a), (3, .long b)]) Z [0, 1, 2, 3, 4] rfl ?_
      exact lX3_divisor E h m1 m2 m3 m4 m5 m6 nb dn T a b Z 100 _ _ (eFin_100 _ _) (by rw [gcdL, absL_ge c_3, absL_ge c_17])
    · refine g_lload_n Z dX3_divisor_20 3 rfl rfl ?_
      refine g_lneg Z dX3_divisor_21 ?_
      refine g_goto (tgt := 26) Z dX3_divisor_22 (by decide) ?_
      refine g_lstore (lv' := [(7, .long (-b)), (5, .long a), (0, .ref h), (1, .long a), (3, .long b)]) Z dX3_divisor_26 (by decide) rfl ?_
      refine g_lv (lv2 := [(7, .long (-b)), (5, .long a), (0, .ref h), (1, .long a), (3, .long b)]) Z [0, 1, 2, 3, 4] rfl ?_
      exact lX3_divisor E h m1 m2 m3 m4 m5 m6 nb dn T a b Z 100 _ _ (eFin_100 _ _) (by rw [gcdL, absL_ge c_3, absL_lt c_17])
  · refine g_lload_n Z dX3_divisor_6 1 rfl rfl ?_
    refine g_lneg Z dX3_divisor_7 ?_
    refine g_goto (tgt := 12) Z dX3_divisor_8 (by decide) ?_
    refine g_lstore (lv' := [(5, .long (-a)), (0, .ref h), (1, .long a), (3, .long b)]) Z dX3_divisor_12 (by decide) rfl ?_
    refine g_lload_n Z dX3_divisor_14 3 rfl rfl ?_
    refine g_lconst Z dX3_divisor_15 zl_0 ?_
    refine g_lcmp_ge (tgt := 25) Z dX3_divisor_16 dX3_divisor_17 rfl (by decide) (fun c_17 => ?_) (fun c_17 => ?_)
    · refine g_lload_n Z dX3_divisor_25 3 rfl rfl ?_
      refine g_lstore (lv' := [(7, .long b), (5, .long (-a)), (0, .ref h), (1, .long a), (3, .long b)]) Z dX3_divisor_26 (by decide) rfl ?_
      refine g_lv (lv2 := [(7, .long b), (5, .long (-a)), (0, .ref h), (1, .long a), (3, .long b)]) Z [0, 1, 2, 3, 4] rfl ?_
      exact lX3_divisor E h m1 m2 m3 m4 m5 m6 nb dn T a b Z 100 _ _ (eFin_100 _ _) (by rw [gcdL, absL_lt c_3, absL_ge c_17])
    · refine g_lload_n Z dX3_divisor_20 3 rfl rfl ?_
      refine g_lneg Z dX3_divisor_21 ?_
      refine g_goto (tgt := 26) Z dX3_divisor_22 (by decide) ?_
      refine g_lstore (lv' := [(7, .long (-b)), (5, .long (-a)), (0, .ref h), (1, .long a), (3, .long b)]) Z dX3_divisor_26 (by decide) rfl ?_
      refine g_lv (lv2 := [(7, .long (-b)), (5, .long (-a)), (0, .ref h), (1, .long a), (3, .long b)]) Z [0, 1, 2, 3, 4] rfl ?_
      exact lX3_divisor E h m1 m2 m3 m4 m5 m6 nb dn T a b Z 100 _ _ (eFin_100 _ _) (by rw [gcdL, absL_lt c_3, absL_lt c_17])

abbrev rX3_lowest : Room := { frames := 1, cells := 0, slots := 0, locals := 30 }
theorem iX3_lowest : zInfo yX3_lowest wsX3_lowest RX3 8 (some .long) 3 := ⟨_, _, rfl, by decide +kernel⟩
set_option maxHeartbeats 4000000 in
set_option maxRecDepth 100000 in
theorem qX3_lowest (E : zE) (h m1 m2 m3 m4 m5 m6 : Nat) (nb dn : Nat) (T : TB) (a u : Int64) (wh : Int32)  : zF E yX3_lowest wsX3_lowest rX3_lowest [.ref h, .long a, .long u, .int wh] [cO h 3 [.int (nI nb), .ref m1, .ref m2, .ref m3, .ref m4, .int (nI dn), .ref m5, .ref m6, .long (tg T)]] (zx (some (.long (lowF a u wh))) ([cO h 3 [.int (nI nb), .ref m1, .ref m2, .ref m3, .ref m4, .int (nI dn), .ref m5, .ref m6, .long (tg T)]])) := by
  refine z_start RX3 "lowest" (by decide) rfl rfl rfl (Nat.le_of_ble_eq_true rfl) ?_
  intro J Z
  refine g_eq Z (lv2 := [(0, .ref h), (1, .long a), (3, .long u), (5, .int wh)]) rfl rfl rfl ?_
  refine g_lload_n Z dX3_lowest_0 1 rfl rfl ?_
  refine g_lconst Z dX3_lowest_1 zl_0 ?_
  refine g_lcmp_ne (tgt := 17) Z dX3_lowest_2 dX3_lowest_3 rfl (by decide) (fun c_3 => ?_) (fun c_3 => ?_)
  · refine g_lload_n Z dX3_lowest_17 2 rfl rfl ?_
    refine g_lconst Z dX3_lowest_18 zl_0 ?_
    refine g_lcmp_ge (tgt := 33) Z dX3_lowest_19 dX3_lowest_20 rfl (by decide) (fun c_20 => ?_) (fun c_20 => ?_)
    · refine g_aload_n Z dX3_lowest_33 0 rfl rfl ?_
      refine g_lload_n Z dX3_lowest_34 1 rfl rfl ?_
      refine g_lload_n Z dX3_lowest_35 2 rfl rfl ?_
      refine g_callVx (w' := [cO h 3 [.int (nI nb), .ref m1, .ref m2, .ref m3, .ref m4, .int (nI dn), .ref m5, .ref m6, .long (tg T)]]) Z (qX3_divisor E h m1 m2 m3 m4 m5 m6 nb dn T a u) iX3_divisor gX3_lowest_X3_divisor ⟨rfl, rfl⟩ ⟨Nat.le_of_ble_eq_true rfl, Nat.le_of_ble_eq_true rfl⟩ dX3_lowest_36 rfl rfl (Nat.le_of_ble_eq_true rfl) ⟨Nat.zero_le _, Nat.zero_le _⟩ [0] rfl rfl 0 rfl rfl rfl rfl rfl ?_
      refine g_lstore (lv' := [(6, .long (gcdL a u)), (0, .ref h), (1, .long a), (3, .long u), (5, .int wh)]) Z dX3_lowest_39 (by decide) rfl ?_
      refine g_iload Z dX3_lowest_41 4 rfl ?_
      refine g_if_ne (tgt := 53) Z dX3_lowest_43 (by decide) (fun c_43 => ?_) (fun c_43 => ?_)
      · refine g_lload_n Z dX3_lowest_53 3 rfl rfl ?_
        refine g_lload Z dX3_lowest_54 0 rfl ?_
        refine g_ldiv Z dX3_lowest_56 (gcdL_ne (Or.inl c_3)) ?_
        exact g_lret Z dX3_lowest_57 rfl ⟨Nat.zero_le _, Nat.zero_le _⟩ ⟨congrArg (fun v => some (Value.long v)) (by rw [lowF, if_neg c_3, if_neg c_43, if_pos c_20]), rfl⟩
      · refine g_lload_n Z dX3_lowest_46 2 rfl rfl ?_
        refine g_lload Z dX3_lowest_47 0 rfl ?_
        refine g_ldiv Z dX3_lowest_49 (gcdL_ne (Or.inl c_3)) ?_
        refine g_goto (tgt := 57) Z dX3_lowest_50 (by decide) ?_
        exact g_lret Z dX3_lowest_57 rfl ⟨Nat.zero_le _, Nat.zero_le _⟩ ⟨congrArg (fun v => some (Value.long v)) (by rw [lowF, if_neg c_3, if_pos c_43, if_pos c_20]), rfl⟩
    · refine g_aload_n Z dX3_lowest_23 0 rfl rfl ?_
      refine g_lload_n Z dX3_lowest_24 1 rfl rfl ?_
      refine g_lload_n Z dX3_lowest_25 2 rfl rfl ?_
      refine g_callVx (w' := [cO h 3 [.int (nI nb), .ref m1, .ref m2, .ref m3, .ref m4, .int (nI dn), .ref m5, .ref m6, .long (tg T)]]) Z (qX3_divisor E h m1 m2 m3 m4 m5 m6 nb dn T a u) iX3_divisor gX3_lowest_X3_divisor ⟨rfl, rfl⟩ ⟨Nat.le_of_ble_eq_true rfl, Nat.le_of_ble_eq_true rfl⟩ dX3_lowest_26 rfl rfl (Nat.le_of_ble_eq_true rfl) ⟨Nat.zero_le _, Nat.zero_le _⟩ [0] rfl rfl 0 rfl rfl rfl rfl rfl ?_
      refine g_lneg Z dX3_lowest_29 ?_
      refine g_goto (tgt := 39) Z dX3_lowest_30 (by decide) ?_
      refine g_lstore (lv' := [(6, .long (-(gcdL a u))), (0, .ref h), (1, .long a), (3, .long u), (5, .int wh)]) Z dX3_lowest_39 (by decide) rfl ?_
      refine g_iload Z dX3_lowest_41 4 rfl ?_
      refine g_if_ne (tgt := 53) Z dX3_lowest_43 (by decide) (fun c_43 => ?_) (fun c_43 => ?_)
      · refine g_lload_n Z dX3_lowest_53 3 rfl rfl ?_
        refine g_lload Z dX3_lowest_54 0 rfl ?_
        refine g_ldiv Z dX3_lowest_56 (z_neg0 (gcdL_ne (Or.inl c_3))) ?_
        exact g_lret Z dX3_lowest_57 rfl ⟨Nat.zero_le _, Nat.zero_le _⟩ ⟨congrArg (fun v => some (Value.long v)) (by rw [lowF, if_neg c_3, if_neg c_43, if_neg c_20]), rfl⟩
      · refine g_lload_n Z dX3_lowest_46 2 rfl rfl ?_
        refine g_lload Z dX3_lowest_47 0 rfl ?_
        refine g_ldiv Z dX3_lowest_49 (z_neg0 (gcdL_ne (Or.inl c_3))) ?_
        refine g_goto (tgt := 57) Z dX3_lowest_50 (by decide) ?_
        exact g_lret Z dX3_lowest_57 rfl ⟨Nat.zero_le _, Nat.zero_le _⟩ ⟨congrArg (fun v => some (Value.long v)) (by rw [lowF, if_neg c_3, if_pos c_43, if_neg c_20]), rfl⟩
  · refine g_iload Z dX3_lowest_6 3 rfl ?_
    refine g_if_ne (tgt := 15) Z dX3_lowest_8 (by decide) (fun c_8 => ?_) (fun c_8 => ?_)
    · refine g_lconst Z dX3_lowest_15 zl_1 ?_
      exact g_lret Z dX3_lowest_16 rfl ⟨Nat.zero_le _, Nat.zero_le _⟩ ⟨congrArg (fun v => some (Value.long v)) (by rw [lowF, if_pos c_3, if_neg c_8]), rfl⟩
    · refine g_lconst Z dX3_lowest_11 zl_0 ?_
      refine g_goto (tgt := 16) Z dX3_lowest_12 (by decide) ?_
      exact g_lret Z dX3_lowest_16 rfl ⟨Nat.zero_le _, Nat.zero_le _⟩ ⟨congrArg (fun v => some (Value.long v)) (by rw [lowF, if_pos c_3, if_pos c_8]), rfl⟩

abbrev rX3_traceOf : Room := { frames := 0, cells := 0, slots := 0, locals := 0 }
theorem iX3_traceOf : zInfo yX3_traceOf wsX3_traceOf RX3 1 (some .long) 0 := ⟨_, _, rfl, by decide +kernel⟩
theorem nX3_traceOf_X3 : ∀ w ∈ wsX30, w ∈ wsX3_traceOf := by decide +kernel
theorem fX3_traceOf_32 : Cond.fieldLink RX3 32 (TX3 7).1 (TX3 7).2.1 (TX3 7).2.2.1 ∈ wsX3_traceOf := by decide +kernel
set_option maxHeartbeats 4000000 in
set_option maxRecDepth 100000 in
theorem qX3_traceOf (E : zE) (h m1 m2 m3 m4 m5 m6 : Nat) (nb dn : Nat) (T : TB)  : zF E yX3_traceOf wsX3_traceOf rX3_traceOf [.ref h] [cO h 3 [.int (nI nb), .ref m1, .ref m2, .ref m3, .ref m4, .int (nI dn), .ref m5, .ref m6, .long (tg T)], cJ E m6 6 (tv T)] (zx (some (.long (sumF T))) ([cO h 3 [.int (nI nb), .ref m1, .ref m2, .ref m3, .ref m4, .int (nI dn), .ref m5, .ref m6, .long (tg T)], cJ E m6 6 (tv T)])) := by
  refine z_start RX3 "traceOf" (by decide) rfl rfl rfl (Nat.le_of_ble_eq_true rfl) ?_
  intro J Z
  refine g_eq Z (lv2 := [(0, .ref h)]) rfl rfl rfl ?_
  refine g_aload_n Z dX3_traceOf_0 0 rfl rfl ?_
  refine g_get Z dX3_traceOf_1 0 rfl rfl nX3_traceOf_X3 7 (by decide) fX3_traceOf_32 rfl ?_
  refine g_iconst Z dX3_traceOf_4 zi_0 ?_
  refine g_laldE (v := ta T) Z dX3_traceOf_5 1 rfl 0 rfl (by decide) rfl rfl ?_
  refine g_aload_n Z dX3_traceOf_6 0 rfl rfl ?_
  refine g_get Z dX3_traceOf_7 0 rfl rfl nX3_traceOf_X3 7 (by decide) fX3_traceOf_32 rfl ?_
  refine g_iconst Z dX3_traceOf_10 zi_3 ?_
  refine g_laldE (v := td T) Z dX3_traceOf_11 1 rfl 3 rfl (by decide) rfl rfl ?_
  refine g_ladd Z dX3_traceOf_12 ?_
  exact g_lret Z dX3_traceOf_13 rfl ⟨Nat.zero_le _, Nat.zero_le _⟩ ⟨rfl, rfl⟩

abbrev rX3_isPlain : Room := { frames := 0, cells := 0, slots := 0, locals := 0 }
theorem iX3_isPlain : zInfo yX3_isPlain wsX3_isPlain RX3 3 (some .boolean) 1 := ⟨_, _, rfl, by decide +kernel⟩
theorem nX3_isPlain_X3 : ∀ w ∈ wsX30, w ∈ wsX3_isPlain := by decide +kernel
theorem fX3_isPlain_32 : Cond.fieldLink RX3 32 (TX3 7).1 (TX3 7).2.1 (TX3 7).2.2.1 ∈ wsX3_isPlain := by decide +kernel
theorem fX3_isPlain_36 : Cond.fieldLink RX3 36 (TX3 8).1 (TX3 8).2.1 (TX3 8).2.2.1 ∈ wsX3_isPlain := by decide +kernel
set_option maxHeartbeats 4000000 in
set_option maxRecDepth 100000 in
theorem qX3_isPlain (E : zE) (h m1 m2 m3 m4 m5 m6 : Nat) (nb dn : Nat) (T : TB) (x : Int64)  : zF E yX3_isPlain wsX3_isPlain rX3_isPlain [.ref h, .long x] [cO h 3 [.int (nI nb), .ref m1, .ref m2, .ref m3, .ref m4, .int (nI dn), .ref m5, .ref m6, .long (tg T)], cJ E m6 6 (tv T)] (zx (some (.int (if pln T (x * tg T) then 1 else 0))) ([cO h 3 [.int (nI nb), .ref m1, .ref m2, .ref m3, .ref m4, .int (nI dn), .ref m5, .ref m6, .long (tg T)], cJ E m6 6 (tv T)])) := by
  refine z_start RX3 "isPlain" (by decide) rfl rfl rfl (Nat.le_of_ble_eq_true rfl) ?_
  intro J Z
  refine g_eq Z (lv2 := [(0, .ref h), (1, .long x)]) rfl rfl rfl ?_
  refine g_aload_n Z dX3_isPlain_0 0 rfl rfl ?_
  refine g_get Z dX3_isPlain_1 0 rfl rfl nX3_isPlain_X3 7 (by decide) fX3_isPlain_32 rfl ?_
  refine g_iconst Z dX3_isPlain_4 zi_0 ?_
  refine g_laldE (v := ta T) Z dX3_isPlain_5 1 rfl 0 rfl (by decide) rfl rfl ?_
  refine g_lload_n Z dX3_isPlain_6 1 rfl rfl ?_
  refine g_aload_n Z dX3_isPlain_7 0 rfl rfl ?_
  refine g_get Z dX3_isPlain_8 0 rfl rfl nX3_isPlain_X3 8 (by decide) fX3_isPlain_36 rfl ?_
  refine g_lmul Z dX3_isPlain_11 ?_
  refine g_lcmp_ne (tgt := 58) Z dX3_isPlain_12 dX3_isPlain_13 rfl (by decide) (fun c_13 => ?_) (fun c_13 => ?_)
  · refine g_iconst Z dX3_isPlain_58 zi_0 ?_
    exact g_zret Z dX3_isPlain_59 rfl rfl ⟨Nat.zero_le _, Nat.zero_le _⟩ ⟨z_f (by first | (simp [pln, c_13]; done) | grind), rfl⟩
  · refine g_aload_n Z dX3_isPlain_16 0 rfl rfl ?_
    refine g_get Z dX3_isPlain_17 0 rfl rfl nX3_isPlain_X3 7 (by decide) fX3_isPlain_32 rfl ?_
    refine g_iconst Z dX3_isPlain_20 zi_3 ?_
    refine g_laldE (v := td T) Z dX3_isPlain_21 1 rfl 3 rfl (by decide) rfl rfl ?_
    refine g_lload_n Z dX3_isPlain_22 1 rfl rfl ?_
    refine g_aload_n Z dX3_isPlain_23 0 rfl rfl ?_
    refine g_get Z dX3_isPlain_24 0 rfl rfl nX3_isPlain_X3 8 (by decide) fX3_isPlain_36 rfl ?_
    refine g_lmul Z dX3_isPlain_27 ?_
    refine g_lcmp_ne (tgt := 58) Z dX3_isPlain_28 dX3_isPlain_29 rfl (by decide) (fun c_29 => ?_) (fun c_29 => ?_)
    · refine g_iconst Z dX3_isPlain_58 zi_0 ?_
      exact g_zret Z dX3_isPlain_59 rfl rfl ⟨Nat.zero_le _, Nat.zero_le _⟩ ⟨z_f (by first | (simp [pln, c_13, c_29]; done) | grind), rfl⟩
    · refine g_aload_n Z dX3_isPlain_32 0 rfl rfl ?_
      refine g_get Z dX3_isPlain_33 0 rfl rfl nX3_isPlain_X3 7 (by decide) fX3_isPlain_32 rfl ?_
      refine g_iconst Z dX3_isPlain_36 zi_1 ?_
      refine g_laldE (v := tb T) Z dX3_isPlain_37 1 rfl 1 rfl (by decide) rfl rfl ?_
      refine g_lconst Z dX3_isPlain_38 zl_0 ?_
      refine g_lcmp_ne (tgt := 58) Z dX3_isPlain_39 dX3_isPlain_40 rfl (by decide) (fun c_40 => ?_) (fun c_40 => ?_)
      · refine g_iconst Z dX3_isPlain_58 zi_0 ?_
        exact g_zret Z dX3_isPlain_59 rfl rfl ⟨Nat.zero_le _, Nat.zero_le _⟩ ⟨z_f (by first | (simp [pln, c_13, c_29, c_40]; done) | grind), rfl⟩
      · refine g_aload_n Z dX3_isPlain_43 0 rfl rfl ?_
        refine g_get Z dX3_isPlain_44 0 rfl rfl nX3_isPlain_X3 7 (by decide) fX3_isPlain_32 rfl ?_
        refine g_iconst Z dX3_isPlain_47 zi_2 ?_
        refine g_laldE (v := tc T) Z dX3_isPlain_48 1 rfl 2 rfl (by decide) rfl rfl ?_
        refine g_lconst Z dX3_isPlain_49 zl_0 ?_
        refine g_lcmp_ne (tgt := 58) Z dX3_isPlain_50 dX3_isPlain_51 rfl (by decide) (fun c_51 => ?_) (fun c_51 => ?_)
        · refine g_iconst Z dX3_isPlain_58 zi_0 ?_
          exact g_zret Z dX3_isPlain_59 rfl rfl ⟨Nat.zero_le _, Nat.zero_le _⟩ ⟨z_f (by first | (simp [pln, c_13, c_29, c_40, c_51]; done) | grind), rfl⟩
        · refine g_iconst Z dX3_isPlain_54 zi_1 ?_
          refine g_goto (tgt := 59) Z dX3_isPlain_55 (by decide) ?_
          exact g_zret Z dX3_isPlain_59 rfl rfl ⟨Nat.zero_le _, Nat.zero_le _⟩ ⟨z_t (by first | (simp [pln, c_13, c_29, c_40, c_51]; done) | grind), rfl⟩

abbrev rX3_isBetween : Room := { frames := 1, cells := 0, slots := 0, locals := 20 }
theorem iX3_isBetween : zInfo yX3_isBetween wsX3_isBetween RX3 1 (some .boolean) 0 := ⟨_, _, rfl, by decide +kernel⟩
theorem kX3_isBetween_107 : Cond.constantLong RX3 107 (2) ∈ wsX3_isBetween := by decide +kernel
theorem nX3_isBetween_X3 : ∀ w ∈ wsX30, w ∈ wsX3_isBetween := by decide +kernel
theorem fX3_isBetween_36 : Cond.fieldLink RX3 36 (TX3 8).1 (TX3 8).2.1 (TX3 8).2.2.1 ∈ wsX3_isBetween := by decide +kernel
theorem kX3_isBetween_109 : Cond.constantLong RX3 109 (-2) ∈ wsX3_isBetween := by decide +kernel
set_option maxHeartbeats 4000000 in
set_option maxRecDepth 100000 in
theorem qX3_isBetween (E : zE) (h m1 m2 m3 m4 m5 m6 : Nat) (nb dn : Nat) (T : TB)  : zF E yX3_isBetween wsX3_isBetween rX3_isBetween [.ref h] [cO h 3 [.int (nI nb), .ref m1, .ref m2, .ref m3, .ref m4, .int (nI dn), .ref m5, .ref m6, .long (tg T)], cJ E m6 6 (tv T)] (zx (some (.int (if btw T then 1 else 0))) ([cO h 3 [.int (nI nb), .ref m1, .ref m2, .ref m3, .ref m4, .int (nI dn), .ref m5, .ref m6, .long (tg T)], cJ E m6 6 (tv T)])) := by
  refine z_start RX3 "isBetween" (by decide) rfl rfl rfl (Nat.le_of_ble_eq_true rfl) ?_
  intro J Z
  refine g_eq Z (lv2 := [(0, .ref h)]) rfl rfl rfl ?_
  refine g_aload_n Z dX3_isBetween_0 0 rfl rfl ?_
  refine g_callVx (w' := [cO h 3 [.int (nI nb), .ref m1, .ref m2, .ref m3, .ref m4, .int (nI dn), .ref m5, .ref m6, .long (tg T)], cJ E m6 6 (tv T)]) Z (qX3_traceOf E h m1 m2 m3 m4 m5 m6 nb dn T) iX3_traceOf gX3_isBetween_X3_traceOf ⟨rfl, rfl⟩ ⟨Nat.le_of_ble_eq_true rfl, Nat.le_of_ble_eq_true rfl⟩ dX3_isBetween_1 rfl rfl (Nat.le_of_ble_eq_true rfl) ⟨Nat.zero_le _, Nat.zero_le _⟩ [0, 1] rfl rfl 0 rfl rfl rfl rfl rfl ?_
  refine g_ldc2 Z dX3_isBetween_4 kX3_isBetween_107 ?_
  refine g_aload_n Z dX3_isBetween_7 0 rfl rfl ?_
  refine g_get Z dX3_isBetween_8 0 rfl rfl nX3_isBetween_X3 8 (by decide) fX3_isBetween_36 rfl ?_
  refine g_lmul Z dX3_isBetween_11 ?_
  refine g_lcmp_ge (tgt := 36) Z dX3_isBetween_12 dX3_isBetween_13 rfl (by decide) (fun c_13 => ?_) (fun c_13 => ?_)
  · refine g_iconst Z dX3_isBetween_36 zi_0 ?_
    exact g_zret Z dX3_isBetween_37 rfl rfl ⟨Nat.zero_le _, Nat.zero_le _⟩ ⟨z_f (by first | (simp [btw, c_13]; done) | grind), rfl⟩
  · refine g_aload_n Z dX3_isBetween_16 0 rfl rfl ?_
    refine g_callVx (w' := [cO h 3 [.int (nI nb), .ref m1, .ref m2, .ref m3, .ref m4, .int (nI dn), .ref m5, .ref m6, .long (tg T)], cJ E m6 6 (tv T)]) Z (qX3_traceOf E h m1 m2 m3 m4 m5 m6 nb dn T) iX3_traceOf gX3_isBetween_X3_traceOf ⟨rfl, rfl⟩ ⟨Nat.le_of_ble_eq_true rfl, Nat.le_of_ble_eq_true rfl⟩ dX3_isBetween_17 rfl rfl (Nat.le_of_ble_eq_true rfl) ⟨Nat.zero_le _, Nat.zero_le _⟩ [0, 1] rfl rfl 0 rfl rfl rfl rfl rfl ?_
    refine g_ldc2 Z dX3_isBetween_20 kX3_isBetween_109 ?_
    refine g_aload_n Z dX3_isBetween_23 0 rfl rfl ?_
    refine g_get Z dX3_isBetween_24 0 rfl rfl nX3_isBetween_X3 8 (by decide) fX3_isBetween_36 rfl ?_
    refine g_lmul Z dX3_isBetween_27 ?_
    refine g_lcmp_le (tgt := 36) Z dX3_isBetween_28 dX3_isBetween_29 rfl (by decide) (fun c_29 => ?_) (fun c_29 => ?_)
    · refine g_iconst Z dX3_isBetween_36 zi_0 ?_
      exact g_zret Z dX3_isBetween_37 rfl rfl ⟨Nat.zero_le _, Nat.zero_le _⟩ ⟨z_f (by first | (simp [btw, c_13, c_29]; done) | grind), rfl⟩
    · refine g_iconst Z dX3_isBetween_32 zi_1 ?_
      refine g_goto (tgt := 37) Z dX3_isBetween_33 (by decide) ?_
      exact g_zret Z dX3_isBetween_37 rfl rfl ⟨Nat.zero_le _, Nat.zero_le _⟩ ⟨z_t (by first | (simp [btw, c_13, c_29]; done) | grind), rfl⟩

abbrev rX3_wideAbove : Room := { frames := 0, cells := 0, slots := 0, locals := 0 }
theorem iX3_wideAbove : zInfo yX3_wideAbove wsX3_wideAbove RX3 1 (some .long) 0 := ⟨_, _, rfl, by decide +kernel⟩
theorem kX3_wideAbove_125 : Cond.constantLong RX3 125 (4) ∈ wsX3_wideAbove := by decide +kernel
theorem nX3_wideAbove_X3 : ∀ w ∈ wsX30, w ∈ wsX3_wideAbove := by decide +kernel
theorem fX3_wideAbove_32 : Cond.fieldLink RX3 32 (TX3 7).1 (TX3 7).2.1 (TX3 7).2.2.1 ∈ wsX3_wideAbove := by decide +kernel
set_option maxHeartbeats 4000000 in
set_option maxRecDepth 100000 in
theorem qX3_wideAbove (E : zE) (h m1 m2 m3 m4 m5 m6 : Nat) (nb dn : Nat) (T : TB)  : zF E yX3_wideAbove wsX3_wideAbove rX3_wideAbove [.ref h] [cO h 3 [.int (nI nb), .ref m1, .ref m2, .ref m3, .ref m4, .int (nI dn), .ref m5, .ref m6, .long (tg T)], cJ E m6 6 (tv T)] (zx (some (.long (4 * tb T * tb T))) ([cO h 3 [.int (nI nb), .ref m1, .ref m2, .ref m3, .ref m4, .int (nI dn), .ref m5, .ref m6, .long (tg T)], cJ E m6 6 (tv T)])) := by
  refine z_start RX3 "wideAbove" (by decide) rfl rfl rfl (Nat.le_of_ble_eq_true rfl) ?_
  intro J Z
  refine g_eq Z (lv2 := [(0, .ref h)]) rfl rfl rfl ?_
  refine g_ldc2 Z dX3_wideAbove_0 kX3_wideAbove_125 ?_
  refine g_aload_n Z dX3_wideAbove_3 0 rfl rfl ?_
  refine g_get Z dX3_wideAbove_4 0 rfl rfl nX3_wideAbove_X3 7 (by decide) fX3_wideAbove_32 rfl ?_
  refine g_iconst Z dX3_wideAbove_7 zi_1 ?_
  refine g_laldE (v := tb T) Z dX3_wideAbove_8 1 rfl 1 rfl (by decide) rfl rfl ?_
  refine g_lmul Z dX3_wideAbove_9 ?_
  refine g_aload_n Z dX3_wideAbove_10 0 rfl rfl ?_
  refine g_get Z dX3_wideAbove_11 0 rfl rfl nX3_wideAbove_X3 7 (by decide) fX3_wideAbove_32 rfl ?_
  refine g_iconst Z dX3_wideAbove_14 zi_1 ?_
  refine g_laldE (v := tb T) Z dX3_wideAbove_15 1 rfl 1 rfl (by decide) rfl rfl ?_
  refine g_lmul Z dX3_wideAbove_16 ?_
  exact g_lret Z dX3_wideAbove_17 rfl ⟨Nat.zero_le _, Nat.zero_le _⟩ ⟨rfl, rfl⟩

abbrev rX3_wideBelow : Room := { frames := 1, cells := 0, slots := 0, locals := 20 }
theorem iX3_wideBelow : zInfo yX3_wideBelow wsX3_wideBelow RX3 1 (some .long) 0 := ⟨_, _, rfl, by decide +kernel⟩
theorem kX3_wideBelow_125 : Cond.constantLong RX3 125 (4) ∈ wsX3_wideBelow := by decide +kernel
theorem nX3_wideBelow_X3 : ∀ w ∈ wsX30, w ∈ wsX3_wideBelow := by decide +kernel
theorem fX3_wideBelow_36 : Cond.fieldLink RX3 36 (TX3 8).1 (TX3 8).2.1 (TX3 8).2.2.1 ∈ wsX3_wideBelow := by decide +kernel
set_option maxHeartbeats 4000000 in
set_option maxRecDepth 100000 in
theorem qX3_wideBelow (E : zE) (h m1 m2 m3 m4 m5 m6 : Nat) (nb dn : Nat) (T : TB)  : zF E yX3_wideBelow wsX3_wideBelow rX3_wideBelow [.ref h] [cO h 3 [.int (nI nb), .ref m1, .ref m2, .ref m3, .ref m4, .int (nI dn), .ref m5, .ref m6, .long (tg T)], cJ E m6 6 (tv T)] (zx (some (.long (4 * tg T * tg T - sumF T * sumF T))) ([cO h 3 [.int (nI nb), .ref m1, .ref m2, .ref m3, .ref m4, .int (nI dn), .ref m5, .ref m6, .long (tg T)], cJ E m6 6 (tv T)])) := by
  refine z_start RX3 "wideBelow" (by decide) rfl rfl rfl (Nat.le_of_ble_eq_true rfl) ?_
  intro J Z
  refine g_eq Z (lv2 := [(0, .ref h)]) rfl rfl rfl ?_
  refine g_ldc2 Z dX3_wideBelow_0 kX3_wideBelow_125 ?_
  refine g_aload_n Z dX3_wideBelow_3 0 rfl rfl ?_
  refine g_get Z dX3_wideBelow_4 0 rfl rfl nX3_wideBelow_X3 8 (by decide) fX3_wideBelow_36 rfl ?_
  refine g_lmul Z dX3_wideBelow_7 ?_
  refine g_aload_n Z dX3_wideBelow_8 0 rfl rfl ?_
  refine g_get Z dX3_wideBelow_9 0 rfl rfl nX3_wideBelow_X3 8 (by decide) fX3_wideBelow_36 rfl ?_
  refine g_lmul Z dX3_wideBelow_12 ?_
  refine g_aload_n Z dX3_wideBelow_13 0 rfl rfl ?_
  refine g_callVx (w' := [cO h 3 [.int (nI nb), .ref m1, .ref m2, .ref m3, .ref m4, .int (nI dn), .ref m5, .ref m6, .long (tg T)], cJ E m6 6 (tv T)]) Z (qX3_traceOf E h m1 m2 m3 m4 m5 m6 nb dn T) iX3_traceOf gX3_wideBelow_X3_traceOf ⟨rfl, rfl⟩ ⟨Nat.le_of_ble_eq_true rfl, Nat.le_of_ble_eq_true rfl⟩ dX3_wideBelow_14 rfl rfl (Nat.le_of_ble_eq_true rfl) ⟨Nat.zero_le _, Nat.zero_le _⟩ [0, 1] rfl rfl 0 rfl rfl rfl rfl rfl ?_
  refine g_aload_n Z dX3_wideBelow_17 0 rfl rfl ?_
  refine g_callVx (w' := [cO h 3 [.int (nI nb), .ref m1, .ref m2, .ref m3, .ref m4, .int (nI dn), .ref m5, .ref m6, .long (tg T)], cJ E m6 6 (tv T)]) Z (qX3_traceOf E h m1 m2 m3 m4 m5 m6 nb dn T) iX3_traceOf gX3_wideBelow_X3_traceOf ⟨rfl, rfl⟩ ⟨Nat.le_of_ble_eq_true rfl, Nat.le_of_ble_eq_true rfl⟩ dX3_wideBelow_18 rfl rfl (Nat.le_of_ble_eq_true rfl) ⟨Nat.zero_le _, Nat.zero_le _⟩ [0, 1] rfl rfl 0 rfl rfl rfl rfl rfl ?_
  refine g_lmul Z dX3_wideBelow_21 ?_
  refine g_lsub Z dX3_wideBelow_22 ?_
  exact g_lret Z dX3_wideBelow_23 rfl ⟨Nat.zero_le _, Nat.zero_le _⟩ ⟨rfl, rfl⟩

abbrev rX3_isRay : Room := { frames := 1, cells := 0, slots := 0, locals := 23 }
theorem iX3_isRay : zInfo yX3_isRay wsX3_isRay RX3 3 (some .boolean) 2 := ⟨_, _, rfl, by decide +kernel⟩
set_option maxHeartbeats 4000000 in
set_option maxRecDepth 100000 in
theorem qX3_isRay (E : zE) (h m1 m2 m3 m4 m5 m6 : Nat) (nb dn : Nat) (T : TB) (x y : Int32)  : zF E yX3_isRay wsX3_isRay rX3_isRay [.ref h, .int x, .int y] [cO h 3 [.int (nI nb), .ref m1, .ref m2, .ref m3, .ref m4, .int (nI dn), .ref m5, .ref m6, .long (tg T)]] (zx (some (.int (if ner x ∧ ner y then 1 else 0))) ([cO h 3 [.int (nI nb), .ref m1, .ref m2, .ref m3, .ref m4, .int (nI dn), .ref m5, .ref m6, .long (tg T)]])) := by
  refine z_start RX3 "isRay" (by decide) rfl rfl rfl (Nat.le_of_ble_eq_true rfl) ?_
  intro J Z
  refine g_eq Z (lv2 := [(0, .ref h), (1, .int x), (2, .int y)]) rfl rfl rfl ?_
  refine g_aload_n Z dX3_isRay_0 0 rfl rfl ?_
  refine g_iload_n Z dX3_isRay_1 1 rfl rfl ?_
  refine g_sipush Z dX3_isRay_2 zs_m1000 ?_
  refine g_sipush Z dX3_isRay_5 zs_1000 ?_
  refine g_callVx (w' := [cO h 3 [.int (nI nb), .ref m1, .ref m2, .ref m3, .ref m4, .int (nI dn), .ref m5, .ref m6, .long (tg T)]]) Z (qX3_in E h m1 m2 m3 m4 m5 m6 nb dn T x (-1000) 1000) iX3_in gX3_isRay_X3_in ⟨rfl, rfl⟩ ⟨Nat.le_of_ble_eq_true rfl, Nat.le_of_ble_eq_true rfl⟩ dX3_isRay_8 rfl rfl (Nat.le_of_ble_eq_true rfl) ⟨Nat.zero_le _, Nat.zero_le _⟩ [0] rfl rfl 0 rfl rfl rfl rfl rfl ?_
  refine g_ifb_eq (tgt := 32) Z dX3_isRay_11 (by decide) (fun c_11 => ?_) (fun c_11 => ?_)
  · refine g_iconst Z dX3_isRay_32 zi_0 ?_
    exact g_zret Z dX3_isRay_33 rfl rfl ⟨Nat.zero_le _, Nat.zero_le _⟩ ⟨z_f (by first | (simp [ner, c_11]; done) | grind), rfl⟩
  · refine g_aload_n Z dX3_isRay_14 0 rfl rfl ?_
    refine g_iload_n Z dX3_isRay_15 2 rfl rfl ?_
    refine g_sipush Z dX3_isRay_16 zs_m1000 ?_
    refine g_sipush Z dX3_isRay_19 zs_1000 ?_
    refine g_callVx (w' := [cO h 3 [.int (nI nb), .ref m1, .ref m2, .ref m3, .ref m4, .int (nI dn), .ref m5, .ref m6, .long (tg T)]]) Z (qX3_in E h m1 m2 m3 m4 m5 m6 nb dn T y (-1000) 1000) iX3_in gX3_isRay_X3_in ⟨rfl, rfl⟩ ⟨Nat.le_of_ble_eq_true rfl, Nat.le_of_ble_eq_true rfl⟩ dX3_isRay_22 rfl rfl (Nat.le_of_ble_eq_true rfl) ⟨Nat.zero_le _, Nat.zero_le _⟩ [0] rfl rfl 0 rfl rfl rfl rfl rfl ?_
    refine g_ifb_eq (tgt := 32) Z dX3_isRay_25 (by decide) (fun c_25 => ?_) (fun c_25 => ?_)
    · refine g_iconst Z dX3_isRay_32 zi_0 ?_
      exact g_zret Z dX3_isRay_33 rfl rfl ⟨Nat.zero_le _, Nat.zero_le _⟩ ⟨z_f (by first | (simp [ner, c_11, c_25]; done) | grind), rfl⟩
    · refine g_iconst Z dX3_isRay_28 zi_1 ?_
      refine g_goto (tgt := 33) Z dX3_isRay_29 (by decide) ?_
      exact g_zret Z dX3_isRay_33 rfl rfl ⟨Nat.zero_le _, Nat.zero_le _⟩ ⟨z_t (by first | (simp [ner, c_11, c_25]; done) | grind), rfl⟩
