abbrev rX2_put : Room := { frames := 2, cells := 0, slots := 0, locals := 49 }
theorem iX2_put : zInfo yX2_put wsX2_put RX2 7 (some .int) 5 := ⟨_, _, rfl, by decide +kernel⟩
set_option maxHeartbeats 4000000 in
set_option maxRecDepth 100000 in
theorem qX2_putO (E : zE) (x rw ln t1 t2 : Nat) (nb dn : Nat) (RF : Nat → Option Nat) (D : Nat → Int32) (A B : TB) (b i kd a c : Int32) (hnb : nb ≤ 4) (hb : ¬ inB nb b) : zF E yX2_put wsX2_put rX2_put [.ref x, .int b, .int i, .int kd, .int a, .int c] [cO x 2 [.ref rw, .int (nI nb), .ref ln, .int (nI dn), .ref t1, .ref t2], cQ E rw 4 RF, cI E ln 12 D, cO t1 1 [.long (ta A), .long (tb A), .long (tc A), .long (td A), .long (te A), .long (tf A), .long (tg A)], cO t2 1 [.long (ta B), .long (tb B), .long (tc B), .long (td B), .long (te B), .long (tf B), .long (tg B)]] (zx (some (.int (-1))) ([cO x 2 [.ref rw, .int (nI nb), .ref ln, .int (nI dn), .ref t1, .ref t2], cQ E rw 4 RF, cI E ln 12 D, cO t1 1 [.long (ta A), .long (tb A), .long (tc A), .long (td A), .long (te A), .long (tf A), .long (tg A)], cO t2 1 [.long (ta B), .long (tb B), .long (tc B), .long (td B), .long (te B), .long (tf B), .long (tg B)]])) := by
  refine z_start RX2 "put" (by decide) rfl rfl rfl (Nat.le_of_ble_eq_true rfl) ?_
  intro J Z
  refine g_eq Z (lv2 := [(0, .ref x), (1, .int b), (2, .int i), (3, .int kd), (4, .int a), (5, .int c)]) rfl rfl rfl ?_
  refine g_aload_n Z dX2_put_0 0 rfl rfl ?_
  refine g_iload_n Z dX2_put_1 1 rfl rfl ?_
  refine g_callVx (w' := [cO x 2 [.ref rw, .int (nI nb), .ref ln, .int (nI dn), .ref t1, .ref t2], cQ E rw 4 RF, cI E ln 12 D, cO t1 1 [.long (ta A), .long (tb A), .long (tc A), .long (td A), .long (te A), .long (tf A), .long (tg A)], cO t2 1 [.long (ta B), .long (tb B), .long (tc B), .long (td B), .long (te B), .long (tf B), .long (tg B)]]) Z (qX2_rowAtO E x rw ln t1 t2 nb dn RF b hnb hb) iX2_rowAt gX2_put_X2_rowAt ⟨rfl, rfl⟩ ⟨Nat.le_of_ble_eq_true rfl, Nat.le_of_ble_eq_true rfl⟩ dX2_put_2 rfl rfl (Nat.le_of_ble_eq_true rfl) ⟨Nat.zero_le _, Nat.zero_le _⟩ [0, 1] rfl rfl 0 rfl rfl rfl rfl rfl ?_
  refine g_astoreN (lv' := [(6, .null), (0, .ref x), (1, .int b), (2, .int i), (3, .int kd), (4, .int a), (5, .int c)]) Z dX2_put_5 (by decide) rfl ?_
  refine g_aloadN Z dX2_put_7 0 rfl ?_
  refine g_ifnullN (tgt := 25) Z dX2_put_9 (by decide) ?_
  refine g_iconst Z dX2_put_25 zi_m1 ?_
  exact g_iret Z dX2_put_26 rfl ⟨Nat.zero_le _, Nat.zero_le _⟩ ⟨rfl, rfl⟩

abbrev rX2_take : Room := { frames := 2, cells := 0, slots := 0, locals := 46 }
theorem iX2_take : zInfo yX2_take wsX2_take RX2 5 (some .int) 2 := ⟨_, _, rfl, by decide +kernel⟩
set_option maxHeartbeats 4000000 in
set_option maxRecDepth 100000 in
theorem qX2_takeO (E : zE) (x rw ln t1 t2 : Nat) (nb dn : Nat) (RF : Nat → Option Nat) (D : Nat → Int32) (A B : TB) (b i : Int32) (hnb : nb ≤ 4) (hb : ¬ inB nb b) : zF E yX2_take wsX2_take rX2_take [.ref x, .int b, .int i] [cO x 2 [.ref rw, .int (nI nb), .ref ln, .int (nI dn), .ref t1, .ref t2], cQ E rw 4 RF, cI E ln 12 D, cO t1 1 [.long (ta A), .long (tb A), .long (tc A), .long (td A), .long (te A), .long (tf A), .long (tg A)], cO t2 1 [.long (ta B), .long (tb B), .long (tc B), .long (td B), .long (te B), .long (tf B), .long (tg B)]] (zx (some (.int (-1))) ([cO x 2 [.ref rw, .int (nI nb), .ref ln, .int (nI dn), .ref t1, .ref t2], cQ E rw 4 RF, cI E ln 12 D, cO t1 1 [.long (ta A), .long (tb A), .long (tc A), .long (td A), .long (te A), .long (tf A), .long (tg A)], cO t2 1 [.long (ta B), .long (tb B), .long (tc B), .long (td B), .long (te B), .long (tf B), .long (tg B)]])) := by
  refine z_start RX2 "take" (by decide) rfl rfl rfl (Nat.le_of_ble_eq_true rfl) ?_
  intro J Z
  refine g_eq Z (lv2 := [(0, .ref x), (1, .int b), (2, .int i)]) rfl rfl rfl ?_
  refine g_aload_n Z dX2_take_0 0 rfl rfl ?_
  refine g_iload_n Z dX2_take_1 1 rfl rfl ?_
  refine g_callVx (w' := [cO x 2 [.ref rw, .int (nI nb), .ref ln, .int (nI dn), .ref t1, .ref t2], cQ E rw 4 RF, cI E ln 12 D, cO t1 1 [.long (ta A), .long (tb A), .long (tc A), .long (td A), .long (te A), .long (tf A), .long (tg A)], cO t2 1 [.long (ta B), .long (tb B), .long (tc B), .long (td B), .long (te B), .long (tf B), .long (tg B)]]) Z (qX2_rowAtO E x rw ln t1 t2 nb dn RF b hnb hb) iX2_rowAt gX2_take_X2_rowAt ⟨rfl, rfl⟩ ⟨Nat.le_of_ble_eq_true rfl, Nat.le_of_ble_eq_true rfl⟩ dX2_take_2 rfl rfl (Nat.le_of_ble_eq_true rfl) ⟨Nat.zero_le _, Nat.zero_le _⟩ [0, 1] rfl rfl 0 rfl rfl rfl rfl rfl ?_
  refine g_astore_nN (lv' := [(3, .null), (0, .ref x), (1, .int b), (2, .int i)]) Z dX2_take_5 rfl (by decide) rfl ?_
  refine g_aload_nN Z dX2_take_6 0 rfl rfl ?_
  refine g_ifnullN (tgt := 18) Z dX2_take_7 (by decide) ?_
  refine g_iconst Z dX2_take_18 zi_m1 ?_
  exact g_iret Z dX2_take_19 rfl ⟨Nat.zero_le _, Nat.zero_le _⟩ ⟨rfl, rfl⟩

abbrev rX2_set : Room := { frames := 2, cells := 0, slots := 0, locals := 42 }
theorem iX2_set : zInfo yX2_set wsX2_set RX2 6 (some .int) 4 := ⟨_, _, rfl, by decide +kernel⟩
set_option maxHeartbeats 4000000 in
set_option maxRecDepth 100000 in
theorem qX2_setO (E : zE) (x rw ln t1 t2 : Nat) (nb dn : Nat) (RF : Nat → Option Nat) (D : Nat → Int32) (A B : TB) (b i a c : Int32) (hnb : nb ≤ 4) (hb : ¬ inB nb b) : zF E yX2_set wsX2_set rX2_set [.ref x, .int b, .int i, .int a, .int c] [cO x 2 [.ref rw, .int (nI nb), .ref ln, .int (nI dn), .ref t1, .ref t2], cQ E rw 4 RF, cI E ln 12 D, cO t1 1 [.long (ta A), .long (tb A), .long (tc A), .long (td A), .long (te A), .long (tf A), .long (tg A)], cO t2 1 [.long (ta B), .long (tb B), .long (tc B), .long (td B), .long (te B), .long (tf B), .long (tg B)]] (zx (some (.int (-1))) ([cO x 2 [.ref rw, .int (nI nb), .ref ln, .int (nI dn), .ref t1, .ref t2], cQ E rw 4 RF, cI E ln 12 D, cO t1 1 [.long (ta A), .long (tb A), .long (tc A), .long (td A), .long (te A), .long (tf A), .long (tg A)], cO t2 1 [.long (ta B), .long (tb B), .long (tc B), .long (td B), .long (te B), .long (tf B), .long (tg B)]])) := by
  refine z_start RX2 "set" (by decide) rfl rfl rfl (Nat.le_of_ble_eq_true rfl) ?_
  intro J Z
  refine g_eq Z (lv2 := [(0, .ref x), (1, .int b), (2, .int i), (3, .int a), (4, .int c)]) rfl rfl rfl ?_
  refine g_aload_n Z dX2_set_0 0 rfl rfl ?_
  refine g_iload_n Z dX2_set_1 1 rfl rfl ?_
  refine g_callVx (w' := [cO x 2 [.ref rw, .int (nI nb), .ref ln, .int (nI dn), .ref t1, .ref t2], cQ E rw 4 RF, cI E ln 12 D, cO t1 1 [.long (ta A), .long (tb A), .long (tc A), .long (td A), .long (te A), .long (tf A), .long (tg A)], cO t2 1 [.long (ta B), .long (tb B), .long (tc B), .long (td B), .long (te B), .long (tf B), .long (tg B)]]) Z (qX2_rowAtO E x rw ln t1 t2 nb dn RF b hnb hb) iX2_rowAt gX2_set_X2_rowAt ⟨rfl, rfl⟩ ⟨Nat.le_of_ble_eq_true rfl, Nat.le_of_ble_eq_true rfl⟩ dX2_set_2 rfl rfl (Nat.le_of_ble_eq_true rfl) ⟨Nat.zero_le _, Nat.zero_le _⟩ [0, 1] rfl rfl 0 rfl rfl rfl rfl rfl ?_
  refine g_astoreN (lv' := [(5, .null), (0, .ref x), (1, .int b), (2, .int i), (3, .int a), (4, .int c)]) Z dX2_set_5 (by decide) rfl ?_
  refine g_aloadN Z dX2_set_7 0 rfl ?_
  refine g_ifnullN (tgt := 21) Z dX2_set_9 (by decide) ?_
  refine g_iconst Z dX2_set_21 zi_m1 ?_
  exact g_iret Z dX2_set_22 rfl ⟨Nat.zero_le _, Nat.zero_le _⟩ ⟨rfl, rfl⟩

abbrev rX2_part : Room := { frames := 1, cells := 0, slots := 0, locals := 21 }
theorem iX2_part : zInfo yX2_part wsX2_part RX2 5 (some .int) 3 := ⟨_, _, rfl, by decide +kernel⟩
set_option maxHeartbeats 4000000 in
set_option maxRecDepth 100000 in
theorem qX2_partO (E : zE) (x rw ln t1 t2 : Nat) (nb dn : Nat) (RF : Nat → Option Nat) (D : Nat → Int32) (A B : TB) (b i v : Int32) (hnb : nb ≤ 4) (hb : ¬ inB nb b) : zF E yX2_part wsX2_part rX2_part [.ref x, .int b, .int i, .int v] [cO x 2 [.ref rw, .int (nI nb), .ref ln, .int (nI dn), .ref t1, .ref t2], cQ E rw 4 RF, cI E ln 12 D, cO t1 1 [.long (ta A), .long (tb A), .long (tc A), .long (td A), .long (te A), .long (tf A), .long (tg A)], cO t2 1 [.long (ta B), .long (tb B), .long (tc B), .long (td B), .long (te B), .long (tf B), .long (tg B)]] (zx (some (.int (-100))) ([cO x 2 [.ref rw, .int (nI nb), .ref ln, .int (nI dn), .ref t1, .ref t2], cQ E rw 4 RF, cI E ln 12 D, cO t1 1 [.long (ta A), .long (tb A), .long (tc A), .long (td A), .long (te A), .long (tf A), .long (tg A)], cO t2 1 [.long (ta B), .long (tb B), .long (tc B), .long (td B), .long (te B), .long (tf B), .long (tg B)]])) := by
  refine z_start RX2 "part" (by decide) rfl rfl rfl (Nat.le_of_ble_eq_true rfl) ?_
  intro J Z
  refine g_eq Z (lv2 := [(0, .ref x), (1, .int b), (2, .int i), (3, .int v)]) rfl rfl rfl ?_
  refine g_aload_n Z dX2_part_0 0 rfl rfl ?_
  refine g_iload_n Z dX2_part_1 1 rfl rfl ?_
  refine g_callVx (w' := [cO x 2 [.ref rw, .int (nI nb), .ref ln, .int (nI dn), .ref t1, .ref t2], cQ E rw 4 RF, cI E ln 12 D, cO t1 1 [.long (ta A), .long (tb A), .long (tc A), .long (td A), .long (te A), .long (tf A), .long (tg A)], cO t2 1 [.long (ta B), .long (tb B), .long (tc B), .long (td B), .long (te B), .long (tf B), .long (tg B)]]) Z (qX2_rowAtO E x rw ln t1 t2 nb dn RF b hnb hb) iX2_rowAt gX2_part_X2_rowAt ⟨rfl, rfl⟩ ⟨Nat.le_of_ble_eq_true rfl, Nat.le_of_ble_eq_true rfl⟩ dX2_part_2 rfl rfl (Nat.le_of_ble_eq_true rfl) ⟨Nat.zero_le _, Nat.zero_le _⟩ [0, 1] rfl rfl 0 rfl rfl rfl rfl rfl ?_
  refine g_astoreN (lv' := [(4, .null), (0, .ref x), (1, .int b), (2, .int i), (3, .int v)]) Z dX2_part_5 (by decide) rfl ?_
  refine g_aloadN Z dX2_part_7 0 rfl ?_
  refine g_ifnullN (tgt := 21) Z dX2_part_9 (by decide) ?_
  refine g_bipush Z dX2_part_21 zb_m100 ?_
  exact g_iret Z dX2_part_23 rfl ⟨Nat.zero_le _, Nat.zero_le _⟩ ⟨rfl, rfl⟩

abbrev rX2_turn : Room := { frames := 2, cells := 0, slots := 0, locals := 49 }
theorem iX2_turn : zInfo yX2_turn wsX2_turn RX2 3 (some .int) 1 := ⟨_, _, rfl, by decide +kernel⟩
set_option maxHeartbeats 4000000 in
set_option maxRecDepth 100000 in
theorem qX2_turnO (E : zE) (x rw ln t1 t2 : Nat) (nb dn : Nat) (RF : Nat → Option Nat) (D : Nat → Int32) (A B : TB) (b : Int32) (hnb : nb ≤ 4) (hb : ¬ inB nb b) : zF E yX2_turn wsX2_turn rX2_turn [.ref x, .int b] [cO x 2 [.ref rw, .int (nI nb), .ref ln, .int (nI dn), .ref t1, .ref t2], cQ E rw 4 RF, cI E ln 12 D, cO t1 1 [.long (ta A), .long (tb A), .long (tc A), .long (td A), .long (te A), .long (tf A), .long (tg A)], cO t2 1 [.long (ta B), .long (tb B), .long (tc B), .long (td B), .long (te B), .long (tf B), .long (tg B)]] (zx (some (.int (-1))) ([cO x 2 [.ref rw, .int (nI nb), .ref ln, .int (nI dn), .ref t1, .ref t2], cQ E rw 4 RF, cI E ln 12 D, cO t1 1 [.long (ta A), .long (tb A), .long (tc A), .long (td A), .long (te A), .long (tf A), .long (tg A)], cO t2 1 [.long (ta B), .long (tb B), .long (tc B), .long (td B), .long (te B), .long (tf B), .long (tg B)]])) := by
  refine z_start RX2 "turn" (by decide) rfl rfl rfl (Nat.le_of_ble_eq_true rfl) ?_
  intro J Z
  refine g_eq Z (lv2 := [(0, .ref x), (1, .int b)]) rfl rfl rfl ?_
  refine g_aload_n Z dX2_turn_0 0 rfl rfl ?_
  refine g_iload_n Z dX2_turn_1 1 rfl rfl ?_
  refine g_callVx (w' := [cO x 2 [.ref rw, .int (nI nb), .ref ln, .int (nI dn), .ref t1, .ref t2], cQ E rw 4 RF, cI E ln 12 D, cO t1 1 [.long (ta A), .long (tb A), .long (tc A), .long (td A), .long (te A), .long (tf A), .long (tg A)], cO t2 1 [.long (ta B), .long (tb B), .long (tc B), .long (td B), .long (te B), .long (tf B), .long (tg B)]]) Z (qX2_rowAtO E x rw ln t1 t2 nb dn RF b hnb hb) iX2_rowAt gX2_turn_X2_rowAt ⟨rfl, rfl⟩ ⟨Nat.le_of_ble_eq_true rfl, Nat.le_of_ble_eq_true rfl⟩ dX2_turn_2 rfl rfl (Nat.le_of_ble_eq_true rfl) ⟨Nat.zero_le _, Nat.zero_le _⟩ [0, 1] rfl rfl 0 rfl rfl rfl rfl rfl ?_
  refine g_astore_nN (lv' := [(2, .null), (0, .ref x), (1, .int b)]) Z dX2_turn_5 rfl (by decide) rfl ?_
  refine g_aload_nN Z dX2_turn_6 0 rfl rfl ?_
  refine g_ifnonnullN Z dX2_turn_7 ?_
  refine g_iconst Z dX2_turn_10 zi_m1 ?_
  exact g_iret Z dX2_turn_11 rfl ⟨Nat.zero_le _, Nat.zero_le _⟩ ⟨rfl, rfl⟩

abbrev rX2_table : Room := { frames := 4, cells := 0, slots := 0, locals := 96 }
theorem iX2_table : zInfo yX2_table wsX2_table RX2 6 (some .long) 4 := ⟨_, _, rfl, by decide +kernel⟩
theorem kX2_table_91 : Cond.constantLong RX2 91 (-9223372036854775808) ∈ wsX2_table := by decide +kernel
set_option maxHeartbeats 4000000 in
set_option maxRecDepth 100000 in
theorem qX2_tableO (E : zE) (x rw ln t1 t2 : Nat) (nb dn : Nat) (RF : Nat → Option Nat) (D : Nat → Int32) (A B : TB) (b way e wh : Int32) (hnb : nb ≤ 4) (hb : ¬ inB nb b) : zF E yX2_table wsX2_table rX2_table [.ref x, .int b, .int way, .int e, .int wh] [cO x 2 [.ref rw, .int (nI nb), .ref ln, .int (nI dn), .ref t1, .ref t2], cQ E rw 4 RF, cI E ln 12 D, cO t1 1 [.long (ta A), .long (tb A), .long (tc A), .long (td A), .long (te A), .long (tf A), .long (tg A)], cO t2 1 [.long (ta B), .long (tb B), .long (tc B), .long (td B), .long (te B), .long (tf B), .long (tg B)]] (zx (some (.long (-9223372036854775808))) ([cO x 2 [.ref rw, .int (nI nb), .ref ln, .int (nI dn), .ref t1, .ref t2], cQ E rw 4 RF, cI E ln 12 D, cO t1 1 [.long (ta A), .long (tb A), .long (tc A), .long (td A), .long (te A), .long (tf A), .long (tg A)], cO t2 1 [.long (ta B), .long (tb B), .long (tc B), .long (td B), .long (te B), .long (tf B), .long (tg B)]])) := by
  refine z_start RX2 "table" (by decide) rfl rfl rfl (Nat.le_of_ble_eq_true rfl) ?_
  intro J Z
  refine g_eq Z (lv2 := [(0, .ref x), (1, .int b), (2, .int way), (3, .int e), (4, .int wh)]) rfl rfl rfl ?_
  refine g_aload_n Z dX2_table_0 0 rfl rfl ?_
  refine g_iload_n Z dX2_table_1 1 rfl rfl ?_
  refine g_callVx (w' := [cO x 2 [.ref rw, .int (nI nb), .ref ln, .int (nI dn), .ref t1, .ref t2], cQ E rw 4 RF, cI E ln 12 D, cO t1 1 [.long (ta A), .long (tb A), .long (tc A), .long (td A), .long (te A), .long (tf A), .long (tg A)], cO t2 1 [.long (ta B), .long (tb B), .long (tc B), .long (td B), .long (te B), .long (tf B), .long (tg B)]]) Z (qX2_rowAtO E x rw ln t1 t2 nb dn RF b hnb hb) iX2_rowAt gX2_table_X2_rowAt ⟨rfl, rfl⟩ ⟨Nat.le_of_ble_eq_true rfl, Nat.le_of_ble_eq_true rfl⟩ dX2_table_2 rfl rfl (Nat.le_of_ble_eq_true rfl) ⟨Nat.zero_le _, Nat.zero_le _⟩ [0, 1] rfl rfl 0 rfl rfl rfl rfl rfl ?_
  refine g_astoreN (lv' := [(5, .null), (0, .ref x), (1, .int b), (2, .int way), (3, .int e), (4, .int wh)]) Z dX2_table_5 (by decide) rfl ?_
  refine g_aloadN Z dX2_table_7 0 rfl ?_
  refine g_ifnullN (tgt := 36) Z dX2_table_9 (by decide) ?_
  refine g_ldc2 Z dX2_table_36 kX2_table_91 ?_
  exact g_lret Z dX2_table_39 rfl ⟨Nat.zero_le _, Nat.zero_le _⟩ ⟨rfl, rfl⟩

abbrev rX2_ray : Room := { frames := 3, cells := 0, slots := 0, locals := 74 }
theorem iX2_ray : zInfo yX2_ray wsX2_ray RX2 11 (some .long) 7 := ⟨_, _, rfl, by decide +kernel⟩
theorem kX2_ray_91 : Cond.constantLong RX2 91 (-9223372036854775808) ∈ wsX2_ray := by decide +kernel
set_option maxHeartbeats 4000000 in
set_option maxRecDepth 100000 in
theorem qX2_rayO (E : zE) (x rw ln t1 t2 : Nat) (nb dn : Nat) (RF : Nat → Option Nat) (D : Nat → Int32) (A B : TB) (b way u v y e wh : Int32) (hnb : nb ≤ 4) (hb : ¬ inB nb b) : zF E yX2_ray wsX2_ray rX2_ray [.ref x, .int b, .int way, .int u, .int v, .int y, .int e, .int wh] [cO x 2 [.ref rw, .int (nI nb), .ref ln, .int (nI dn), .ref t1, .ref t2], cQ E rw 4 RF, cI E ln 12 D, cO t1 1 [.long (ta A), .long (tb A), .long (tc A), .long (td A), .long (te A), .long (tf A), .long (tg A)], cO t2 1 [.long (ta B), .long (tb B), .long (tc B), .long (td B), .long (te B), .long (tf B), .long (tg B)]] (zx (some (.long (-9223372036854775808))) ([cO x 2 [.ref rw, .int (nI nb), .ref ln, .int (nI dn), .ref t1, .ref t2], cQ E rw 4 RF, cI E ln 12 D, cO t1 1 [.long (ta A), .long (tb A), .long (tc A), .long (td A), .long (te A), .long (tf A), .long (tg A)], cO t2 1 [.long (ta B), .long (tb B), .long (tc B), .long (td B), .long (te B), .long (tf B), .long (tg B)]])) := by
  refine z_start RX2 "ray" (by decide) rfl rfl rfl (Nat.le_of_ble_eq_true rfl) ?_
  intro J Z
  refine g_eq Z (lv2 := [(0, .ref x), (1, .int b), (2, .int way), (3, .int u), (4, .int v), (5, .int y), (6, .int e), (7, .int wh)]) rfl rfl rfl ?_
  refine g_aload_n Z dX2_ray_0 0 rfl rfl ?_
  refine g_iload_n Z dX2_ray_1 1 rfl rfl ?_
  refine g_callVx (w' := [cO x 2 [.ref rw, .int (nI nb), .ref ln, .int (nI dn), .ref t1, .ref t2], cQ E rw 4 RF, cI E ln 12 D, cO t1 1 [.long (ta A), .long (tb A), .long (tc A), .long (td A), .long (te A), .long (tf A), .long (tg A)], cO t2 1 [.long (ta B), .long (tb B), .long (tc B), .long (td B), .long (te B), .long (tf B), .long (tg B)]]) Z (qX2_rowAtO E x rw ln t1 t2 nb dn RF b hnb hb) iX2_rowAt gX2_ray_X2_rowAt ⟨rfl, rfl⟩ ⟨Nat.le_of_ble_eq_true rfl, Nat.le_of_ble_eq_true rfl⟩ dX2_ray_2 rfl rfl (Nat.le_of_ble_eq_true rfl) ⟨Nat.zero_le _, Nat.zero_le _⟩ [0, 1] rfl rfl 0 rfl rfl rfl rfl rfl ?_
  refine g_astoreN (lv' := [(8, .null), (0, .ref x), (1, .int b), (2, .int way), (3, .int u), (4, .int v), (5, .int y), (6, .int e), (7, .int wh)]) Z dX2_ray_5 (by decide) rfl ?_
  refine g_aloadN Z dX2_ray_7 0 rfl ?_
  refine g_ifnullN (tgt := 35) Z dX2_ray_9 (by decide) ?_
  refine g_ldc2 Z dX2_ray_35 kX2_ray_91 ?_
  exact g_lret Z dX2_ray_38 rfl ⟨Nat.zero_le _, Nat.zero_le _⟩ ⟨rfl, rfl⟩

abbrev rX2_stops : Room := { frames := 2, cells := 0, slots := 0, locals := 48 }
theorem iX2_stops : zInfo yX2_stops wsX2_stops RX2 7 (some .int) 4 := ⟨_, _, rfl, by decide +kernel⟩
set_option maxHeartbeats 4000000 in
set_option maxRecDepth 100000 in
theorem qX2_stopsO (E : zE) (x rw ln t1 t2 : Nat) (nb dn : Nat) (RF : Nat → Option Nat) (D : Nat → Int32) (A B : TB) (b way u v : Int32) (hnb : nb ≤ 4) (hb : ¬ inB nb b) : zF E yX2_stops wsX2_stops rX2_stops [.ref x, .int b, .int way, .int u, .int v] [cO x 2 [.ref rw, .int (nI nb), .ref ln, .int (nI dn), .ref t1, .ref t2], cQ E rw 4 RF, cI E ln 12 D, cO t1 1 [.long (ta A), .long (tb A), .long (tc A), .long (td A), .long (te A), .long (tf A), .long (tg A)], cO t2 1 [.long (ta B), .long (tb B), .long (tc B), .long (td B), .long (te B), .long (tf B), .long (tg B)]] (zx (some (.int (-1))) ([cO x 2 [.ref rw, .int (nI nb), .ref ln, .int (nI dn), .ref t1, .ref t2], cQ E rw 4 RF, cI E ln 12 D, cO t1 1 [.long (ta A), .long (tb A), .long (tc A), .long (td A), .long (te A), .long (tf A), .long (tg A)], cO t2 1 [.long (ta B), .long (tb B), .long (tc B), .long (td B), .long (te B), .long (tf B), .long (tg B)]])) := by
  refine z_start RX2 "stops" (by decide) rfl rfl rfl (Nat.le_of_ble_eq_true rfl) ?_
  intro J Z
  refine g_eq Z (lv2 := [(0, .ref x), (1, .int b), (2, .int way), (3, .int u), (4, .int v)]) rfl rfl rfl ?_
  refine g_aload_n Z dX2_stops_0 0 rfl rfl ?_
  refine g_iload_n Z dX2_stops_1 1 rfl rfl ?_
  refine g_callVx (w' := [cO x 2 [.ref rw, .int (nI nb), .ref ln, .int (nI dn), .ref t1, .ref t2], cQ E rw 4 RF, cI E ln 12 D, cO t1 1 [.long (ta A), .long (tb A), .long (tc A), .long (td A), .long (te A), .long (tf A), .long (tg A)], cO t2 1 [.long (ta B), .long (tb B), .long (tc B), .long (td B), .long (te B), .long (tf B), .long (tg B)]]) Z (qX2_rowAtO E x rw ln t1 t2 nb dn RF b hnb hb) iX2_rowAt gX2_stops_X2_rowAt ⟨rfl, rfl⟩ ⟨Nat.le_of_ble_eq_true rfl, Nat.le_of_ble_eq_true rfl⟩ dX2_stops_2 rfl rfl (Nat.le_of_ble_eq_true rfl) ⟨Nat.zero_le _, Nat.zero_le _⟩ [0, 1] rfl rfl 0 rfl rfl rfl rfl rfl ?_
  refine g_astoreN (lv' := [(5, .null), (0, .ref x), (1, .int b), (2, .int way), (3, .int u), (4, .int v)]) Z dX2_stops_5 (by decide) rfl ?_
  refine g_aloadN Z dX2_stops_7 0 rfl ?_
  refine g_ifnullN (tgt := 34) Z dX2_stops_9 (by decide) ?_
  refine g_iconst Z dX2_stops_34 zi_m1 ?_
  exact g_iret Z dX2_stops_35 rfl ⟨Nat.zero_le _, Nat.zero_le _⟩ ⟨rfl, rfl⟩

abbrev rX2_full : Room := { frames := 2, cells := 0, slots := 0, locals := 48 }
theorem iX2_full : zInfo yX2_full wsX2_full RX2 7 (some .int) 2 := ⟨_, _, rfl, by decide +kernel⟩
set_option maxHeartbeats 4000000 in
set_option maxRecDepth 100000 in
theorem qX2_fullO (E : zE) (x rw ln t1 t2 : Nat) (nb dn : Nat) (RF : Nat → Option Nat) (D : Nat → Int32) (A B : TB) (b way : Int32) (hnb : nb ≤ 4) (hb : ¬ inB nb b) : zF E yX2_full wsX2_full rX2_full [.ref x, .int b, .int way] [cO x 2 [.ref rw, .int (nI nb), .ref ln, .int (nI dn), .ref t1, .ref t2], cQ E rw 4 RF, cI E ln 12 D, cO t1 1 [.long (ta A), .long (tb A), .long (tc A), .long (td A), .long (te A), .long (tf A), .long (tg A)], cO t2 1 [.long (ta B), .long (tb B), .long (tc B), .long (td B), .long (te B), .long (tf B), .long (tg B)]] (zx (some (.int (-1))) ([cO x 2 [.ref rw, .int (nI nb), .ref ln, .int (nI dn), .ref t1, .ref t2], cQ E rw 4 RF, cI E ln 12 D, cO t1 1 [.long (ta A), .long (tb A), .long (tc A), .long (td A), .long (te A), .long (tf A), .long (tg A)], cO t2 1 [.long (ta B), .long (tb B), .long (tc B), .long (td B), .long (te B), .long (tf B), .long (tg B)]])) := by
  refine z_start RX2 "full" (by decide) rfl rfl rfl (Nat.le_of_ble_eq_true rfl) ?_
  intro J Z
  refine g_eq Z (lv2 := [(0, .ref x), (1, .int b), (2, .int way)]) rfl rfl rfl ?_
  refine g_aload_n Z dX2_full_0 0 rfl rfl ?_
  refine g_iload_n Z dX2_full_1 1 rfl rfl ?_
  refine g_callVx (w' := [cO x 2 [.ref rw, .int (nI nb), .ref ln, .int (nI dn), .ref t1, .ref t2], cQ E rw 4 RF, cI E ln 12 D, cO t1 1 [.long (ta A), .long (tb A), .long (tc A), .long (td A), .long (te A), .long (tf A), .long (tg A)], cO t2 1 [.long (ta B), .long (tb B), .long (tc B), .long (td B), .long (te B), .long (tf B), .long (tg B)]]) Z (qX2_rowAtO E x rw ln t1 t2 nb dn RF b hnb hb) iX2_rowAt gX2_full_X2_rowAt ⟨rfl, rfl⟩ ⟨Nat.le_of_ble_eq_true rfl, Nat.le_of_ble_eq_true rfl⟩ dX2_full_2 rfl rfl (Nat.le_of_ble_eq_true rfl) ⟨Nat.zero_le _, Nat.zero_le _⟩ [0, 1] rfl rfl 0 rfl rfl rfl rfl rfl ?_
  refine g_astore_nN (lv' := [(3, .null), (0, .ref x), (1, .int b), (2, .int way)]) Z dX2_full_5 rfl (by decide) rfl ?_
  refine g_aload_nN Z dX2_full_6 0 rfl rfl ?_
  refine g_ifnullN (tgt := 17) Z dX2_full_7 (by decide) ?_
  refine g_iconst Z dX2_full_17 zi_m1 ?_
  exact g_iret Z dX2_full_18 rfl ⟨Nat.zero_le _, Nat.zero_le _⟩ ⟨rfl, rfl⟩

abbrev rX2_image : Room := { frames := 4, cells := 0, slots := 0, locals := 96 }
theorem iX2_image : zInfo yX2_image wsX2_image RX2 6 (some .long) 4 := ⟨_, _, rfl, by decide +kernel⟩
theorem kX2_image_91 : Cond.constantLong RX2 91 (-9223372036854775808) ∈ wsX2_image := by decide +kernel
set_option maxHeartbeats 4000000 in
set_option maxRecDepth 100000 in
theorem qX2_imageO (E : zE) (x rw ln t1 t2 : Nat) (nb dn : Nat) (RF : Nat → Option Nat) (D : Nat → Int32) (A B : TB) (b way e wh : Int32) (hnb : nb ≤ 4) (hb : ¬ inB nb b) : zF E yX2_image wsX2_image rX2_image [.ref x, .int b, .int way, .int e, .int wh] [cO x 2 [.ref rw, .int (nI nb), .ref ln, .int (nI dn), .ref t1, .ref t2], cQ E rw 4 RF, cI E ln 12 D, cO t1 1 [.long (ta A), .long (tb A), .long (tc A), .long (td A), .long (te A), .long (tf A), .long (tg A)], cO t2 1 [.long (ta B), .long (tb B), .long (tc B), .long (td B), .long (te B), .long (tf B), .long (tg B)]] (zx (some (.long (-9223372036854775808))) ([cO x 2 [.ref rw, .int (nI nb), .ref ln, .int (nI dn), .ref t1, .ref t2], cQ E rw 4 RF, cI E ln 12 D, cO t1 1 [.long (ta A), .long (tb A), .long (tc A), .long (td A), .long (te A), .long (tf A), .long (tg A)], cO t2 1 [.long (ta B), .long (tb B), .long (tc B), .long (td B), .long (te B), .long (tf B), .long (tg B)]])) := by
  refine z_start RX2 "image" (by decide) rfl rfl rfl (Nat.le_of_ble_eq_true rfl) ?_
  intro J Z
  refine g_eq Z (lv2 := [(0, .ref x), (1, .int b), (2, .int way), (3, .int e), (4, .int wh)]) rfl rfl rfl ?_
  refine g_aload_n Z dX2_image_0 0 rfl rfl ?_
  refine g_iload_n Z dX2_image_1 1 rfl rfl ?_
  refine g_callVx (w' := [cO x 2 [.ref rw, .int (nI nb), .ref ln, .int (nI dn), .ref t1, .ref t2], cQ E rw 4 RF, cI E ln 12 D, cO t1 1 [.long (ta A), .long (tb A), .long (tc A), .long (td A), .long (te A), .long (tf A), .long (tg A)], cO t2 1 [.long (ta B), .long (tb B), .long (tc B), .long (td B), .long (te B), .long (tf B), .long (tg B)]]) Z (qX2_rowAtO E x rw ln t1 t2 nb dn RF b hnb hb) iX2_rowAt gX2_image_X2_rowAt ⟨rfl, rfl⟩ ⟨Nat.le_of_ble_eq_true rfl, Nat.le_of_ble_eq_true rfl⟩ dX2_image_2 rfl rfl (Nat.le_of_ble_eq_true rfl) ⟨Nat.zero_le _, Nat.zero_le _⟩ [0, 1] rfl rfl 0 rfl rfl rfl rfl rfl ?_
  refine g_astoreN (lv' := [(5, .null), (0, .ref x), (1, .int b), (2, .int way), (3, .int e), (4, .int wh)]) Z dX2_image_5 (by decide) rfl ?_
  refine g_aloadN Z dX2_image_7 0 rfl ?_
  refine g_ifnullN (tgt := 34) Z dX2_image_9 (by decide) ?_
  refine g_ldc2 Z dX2_image_34 kX2_image_91 ?_
  exact g_lret Z dX2_image_37 rfl ⟨Nat.zero_le _, Nat.zero_le _⟩ ⟨rfl, rfl⟩

abbrev rX2_round : Room := { frames := 4, cells := 0, slots := 0, locals := 96 }
theorem iX2_round : zInfo yX2_round wsX2_round RX2 4 (some .int) 2 := ⟨_, _, rfl, by decide +kernel⟩
set_option maxHeartbeats 4000000 in
set_option maxRecDepth 100000 in
theorem qX2_roundO (E : zE) (x rw ln t1 t2 : Nat) (nb dn : Nat) (RF : Nat → Option Nat) (D : Nat → Int32) (A B : TB) (b way : Int32) (hnb : nb ≤ 4) (hb : ¬ inB nb b) : zF E yX2_round wsX2_round rX2_round [.ref x, .int b, .int way] [cO x 2 [.ref rw, .int (nI nb), .ref ln, .int (nI dn), .ref t1, .ref t2], cQ E rw 4 RF, cI E ln 12 D, cO t1 1 [.long (ta A), .long (tb A), .long (tc A), .long (td A), .long (te A), .long (tf A), .long (tg A)], cO t2 1 [.long (ta B), .long (tb B), .long (tc B), .long (td B), .long (te B), .long (tf B), .long (tg B)]] (zx (some (.int (-1))) ([cO x 2 [.ref rw, .int (nI nb), .ref ln, .int (nI dn), .ref t1, .ref t2], cQ E rw 4 RF, cI E ln 12 D, cO t1 1 [.long (ta A), .long (tb A), .long (tc A), .long (td A), .long (te A), .long (tf A), .long (tg A)], cO t2 1 [.long (ta B), .long (tb B), .long (tc B), .long (td B), .long (te B), .long (tf B), .long (tg B)]])) := by
  refine z_start RX2 "round" (by decide) rfl rfl rfl (Nat.le_of_ble_eq_true rfl) ?_
  intro J Z
  refine g_eq Z (lv2 := [(0, .ref x), (1, .int b), (2, .int way)]) rfl rfl rfl ?_
  refine g_aload_n Z dX2_round_0 0 rfl rfl ?_
  refine g_iload_n Z dX2_round_1 1 rfl rfl ?_
  refine g_callVx (w' := [cO x 2 [.ref rw, .int (nI nb), .ref ln, .int (nI dn), .ref t1, .ref t2], cQ E rw 4 RF, cI E ln 12 D, cO t1 1 [.long (ta A), .long (tb A), .long (tc A), .long (td A), .long (te A), .long (tf A), .long (tg A)], cO t2 1 [.long (ta B), .long (tb B), .long (tc B), .long (td B), .long (te B), .long (tf B), .long (tg B)]]) Z (qX2_rowAtO E x rw ln t1 t2 nb dn RF b hnb hb) iX2_rowAt gX2_round_X2_rowAt ⟨rfl, rfl⟩ ⟨Nat.le_of_ble_eq_true rfl, Nat.le_of_ble_eq_true rfl⟩ dX2_round_2 rfl rfl (Nat.le_of_ble_eq_true rfl) ⟨Nat.zero_le _, Nat.zero_le _⟩ [0, 1] rfl rfl 0 rfl rfl rfl rfl rfl ?_
  refine g_astore_nN (lv' := [(3, .null), (0, .ref x), (1, .int b), (2, .int way)]) Z dX2_round_5 rfl (by decide) rfl ?_
  refine g_aload_nN Z dX2_round_6 0 rfl rfl ?_
  refine g_ifnullN (tgt := 17) Z dX2_round_7 (by decide) ?_
  refine g_iconst Z dX2_round_17 zi_m1 ?_
  exact g_iret Z dX2_round_18 rfl ⟨Nat.zero_le _, Nat.zero_le _⟩ ⟨rfl, rfl⟩

abbrev rX2_trace : Room := { frames := 4, cells := 0, slots := 0, locals := 96 }
theorem iX2_trace : zInfo yX2_trace wsX2_trace RX2 5 (some .long) 3 := ⟨_, _, rfl, by decide +kernel⟩
theorem kX2_trace_91 : Cond.constantLong RX2 91 (-9223372036854775808) ∈ wsX2_trace := by decide +kernel
set_option maxHeartbeats 4000000 in
set_option maxRecDepth 100000 in
theorem qX2_traceO (E : zE) (x rw ln t1 t2 : Nat) (nb dn : Nat) (RF : Nat → Option Nat) (D : Nat → Int32) (A B : TB) (b way wh : Int32) (hnb : nb ≤ 4) (hb : ¬ inB nb b) : zF E yX2_trace wsX2_trace rX2_trace [.ref x, .int b, .int way, .int wh] [cO x 2 [.ref rw, .int (nI nb), .ref ln, .int (nI dn), .ref t1, .ref t2], cQ E rw 4 RF, cI E ln 12 D, cO t1 1 [.long (ta A), .long (tb A), .long (tc A), .long (td A), .long (te A), .long (tf A), .long (tg A)], cO t2 1 [.long (ta B), .long (tb B), .long (tc B), .long (td B), .long (te B), .long (tf B), .long (tg B)]] (zx (some (.long (-9223372036854775808))) ([cO x 2 [.ref rw, .int (nI nb), .ref ln, .int (nI dn), .ref t1, .ref t2], cQ E rw 4 RF, cI E ln 12 D, cO t1 1 [.long (ta A), .long (tb A), .long (tc A), .long (td A), .long (te A), .long (tf A), .long (tg A)], cO t2 1 [.long (ta B), .long (tb B), .long (tc B), .long (td B), .long (te B), .long (tf B), .long (tg B)]])) := by
  refine z_start RX2 "trace" (by decide) rfl rfl rfl (Nat.le_of_ble_eq_true rfl) ?_
  intro J Z
  refine g_eq Z (lv2 := [(0, .ref x), (1, .int b), (2, .int way), (3, .int wh)]) rfl rfl rfl ?_
  refine g_aload_n Z dX2_trace_0 0 rfl rfl ?_
  refine g_iload_n Z dX2_trace_1 1 rfl rfl ?_
  refine g_callVx (w' := [cO x 2 [.ref rw, .int (nI nb), .ref ln, .int (nI dn), .ref t1, .ref t2], cQ E rw 4 RF, cI E ln 12 D, cO t1 1 [.long (ta A), .long (tb A), .long (tc A), .long (td A), .long (te A), .long (tf A), .long (tg A)], cO t2 1 [.long (ta B), .long (tb B), .long (tc B), .long (td B), .long (te B), .long (tf B), .long (tg B)]]) Z (qX2_rowAtO E x rw ln t1 t2 nb dn RF b hnb hb) iX2_rowAt gX2_trace_X2_rowAt ⟨rfl, rfl⟩ ⟨Nat.le_of_ble_eq_true rfl, Nat.le_of_ble_eq_true rfl⟩ dX2_trace_2 rfl rfl (Nat.le_of_ble_eq_true rfl) ⟨Nat.zero_le _, Nat.zero_le _⟩ [0, 1] rfl rfl 0 rfl rfl rfl rfl rfl ?_
  refine g_astoreN (lv' := [(4, .null), (0, .ref x), (1, .int b), (2, .int way), (3, .int wh)]) Z dX2_trace_5 (by decide) rfl ?_
  refine g_aloadN Z dX2_trace_7 0 rfl ?_
  refine g_ifnullN (tgt := 26) Z dX2_trace_9 (by decide) ?_
  refine g_ldc2 Z dX2_trace_26 kX2_trace_91 ?_
  exact g_lret Z dX2_trace_29 rfl ⟨Nat.zero_le _, Nat.zero_le _⟩ ⟨rfl, rfl⟩

abbrev rX2_turns : Room := { frames := 4, cells := 0, slots := 0, locals := 96 }
theorem iX2_turns : zInfo yX2_turns wsX2_turns RX2 4 (some .int) 2 := ⟨_, _, rfl, by decide +kernel⟩
set_option maxHeartbeats 4000000 in
set_option maxRecDepth 100000 in
theorem qX2_turnsO (E : zE) (x rw ln t1 t2 : Nat) (nb dn : Nat) (RF : Nat → Option Nat) (D : Nat → Int32) (A B : TB) (b way : Int32) (hnb : nb ≤ 4) (hb : ¬ inB nb b) : zF E yX2_turns wsX2_turns rX2_turns [.ref x, .int b, .int way] [cO x 2 [.ref rw, .int (nI nb), .ref ln, .int (nI dn), .ref t1, .ref t2], cQ E rw 4 RF, cI E ln 12 D, cO t1 1 [.long (ta A), .long (tb A), .long (tc A), .long (td A), .long (te A), .long (tf A), .long (tg A)], cO t2 1 [.long (ta B), .long (tb B), .long (tc B), .long (td B), .long (te B), .long (tf B), .long (tg B)]] (zx (some (.int (-1))) ([cO x 2 [.ref rw, .int (nI nb), .ref ln, .int (nI dn), .ref t1, .ref t2], cQ E rw 4 RF, cI E ln 12 D, cO t1 1 [.long (ta A), .long (tb A), .long (tc A), .long (td A), .long (te A), .long (tf A), .long (tg A)], cO t2 1 [.long (ta B), .long (tb B), .long (tc B), .long (td B), .long (te B), .long (tf B), .long (tg B)]])) := by
  refine z_start RX2 "turns" (by decide) rfl rfl rfl (Nat.le_of_ble_eq_true rfl) ?_
  intro J Z
  refine g_eq Z (lv2 := [(0, .ref x), (1, .int b), (2, .int way)]) rfl rfl rfl ?_
  refine g_aload_n Z dX2_turns_0 0 rfl rfl ?_
  refine g_iload_n Z dX2_turns_1 1 rfl rfl ?_
  refine g_callVx (w' := [cO x 2 [.ref rw, .int (nI nb), .ref ln, .int (nI dn), .ref t1, .ref t2], cQ E rw 4 RF, cI E ln 12 D, cO t1 1 [.long (ta A), .long (tb A), .long (tc A), .long (td A), .long (te A), .long (tf A), .long (tg A)], cO t2 1 [.long (ta B), .long (tb B), .long (tc B), .long (td B), .long (te B), .long (tf B), .long (tg B)]]) Z (qX2_rowAtO E x rw ln t1 t2 nb dn RF b hnb hb) iX2_rowAt gX2_turns_X2_rowAt ⟨rfl, rfl⟩ ⟨Nat.le_of_ble_eq_true rfl, Nat.le_of_ble_eq_true rfl⟩ dX2_turns_2 rfl rfl (Nat.le_of_ble_eq_true rfl) ⟨Nat.zero_le _, Nat.zero_le _⟩ [0, 1] rfl rfl 0 rfl rfl rfl rfl rfl ?_
  refine g_astore_nN (lv' := [(3, .null), (0, .ref x), (1, .int b), (2, .int way)]) Z dX2_turns_5 rfl (by decide) rfl ?_
  refine g_aload_nN Z dX2_turns_6 0 rfl rfl ?_
  refine g_ifnullN (tgt := 17) Z dX2_turns_7 (by decide) ?_
  refine g_iconst Z dX2_turns_17 zi_m1 ?_
  exact g_iret Z dX2_turns_18 rfl ⟨Nat.zero_le _, Nat.zero_le _⟩ ⟨rfl, rfl⟩

abbrev rX2_beam : Room := { frames := 3, cells := 0, slots := 0, locals := 74 }
theorem iX2_beam : zInfo yX2_beam wsX2_beam RX2 9 (some .long) 5 := ⟨_, _, rfl, by decide +kernel⟩
theorem kX2_beam_91 : Cond.constantLong RX2 91 (-9223372036854775808) ∈ wsX2_beam := by decide +kernel
set_option maxHeartbeats 4000000 in
set_option maxRecDepth 100000 in
theorem qX2_beamO (E : zE) (x rw ln t1 t2 : Nat) (nb dn : Nat) (RF : Nat → Option Nat) (D : Nat → Int32) (A B : TB) (b way i e wh : Int32) (hnb : nb ≤ 4) (hb : ¬ inB nb b) : zF E yX2_beam wsX2_beam rX2_beam [.ref x, .int b, .int way, .int i, .int e, .int wh] [cO x 2 [.ref rw, .int (nI nb), .ref ln, .int (nI dn), .ref t1, .ref t2], cQ E rw 4 RF, cI E ln 12 D, cO t1 1 [.long (ta A), .long (tb A), .long (tc A), .long (td A), .long (te A), .long (tf A), .long (tg A)], cO t2 1 [.long (ta B), .long (tb B), .long (tc B), .long (td B), .long (te B), .long (tf B), .long (tg B)]] (zx (some (.long (-9223372036854775808))) ([cO x 2 [.ref rw, .int (nI nb), .ref ln, .int (nI dn), .ref t1, .ref t2], cQ E rw 4 RF, cI E ln 12 D, cO t1 1 [.long (ta A), .long (tb A), .long (tc A), .long (td A), .long (te A), .long (tf A), .long (tg A)], cO t2 1 [.long (ta B), .long (tb B), .long (tc B), .long (td B), .long (te B), .long (tf B), .long (tg B)]])) := by
  refine z_start RX2 "beam" (by decide) rfl rfl rfl (Nat.le_of_ble_eq_true rfl) ?_
  intro J Z
  refine g_eq Z (lv2 := [(0, .ref x), (1, .int b), (2, .int way), (3, .int i), (4, .int e), (5, .int wh)]) rfl rfl rfl ?_
  refine g_aload_n Z dX2_beam_0 0 rfl rfl ?_
  refine g_iload_n Z dX2_beam_1 1 rfl rfl ?_
  refine g_callVx (w' := [cO x 2 [.ref rw, .int (nI nb), .ref ln, .int (nI dn), .ref t1, .ref t2], cQ E rw 4 RF, cI E ln 12 D, cO t1 1 [.long (ta A), .long (tb A), .long (tc A), .long (td A), .long (te A), .long (tf A), .long (tg A)], cO t2 1 [.long (ta B), .long (tb B), .long (tc B), .long (td B), .long (te B), .long (tf B), .long (tg B)]]) Z (qX2_rowAtO E x rw ln t1 t2 nb dn RF b hnb hb) iX2_rowAt gX2_beam_X2_rowAt ⟨rfl, rfl⟩ ⟨Nat.le_of_ble_eq_true rfl, Nat.le_of_ble_eq_true rfl⟩ dX2_beam_2 rfl rfl (Nat.le_of_ble_eq_true rfl) ⟨Nat.zero_le _, Nat.zero_le _⟩ [0, 1] rfl rfl 0 rfl rfl rfl rfl rfl ?_
  refine g_astoreN (lv' := [(6, .null), (0, .ref x), (1, .int b), (2, .int way), (3, .int i), (4, .int e), (5, .int wh)]) Z dX2_beam_5 (by decide) rfl ?_
  refine g_aloadN Z dX2_beam_7 0 rfl ?_
  refine g_ifnullN (tgt := 44) Z dX2_beam_9 (by decide) ?_
  refine g_ldc2 Z dX2_beam_44 kX2_beam_91 ?_
  exact g_lret Z dX2_beam_47 rfl ⟨Nat.zero_le _, Nat.zero_le _⟩ ⟨rfl, rfl⟩

abbrev rX2_waist : Room := { frames := 4, cells := 0, slots := 0, locals := 96 }
theorem iX2_waist : zInfo yX2_waist wsX2_waist RX2 10 (some .int) 2 := ⟨_, _, rfl, by decide +kernel⟩
set_option maxHeartbeats 4000000 in
set_option maxRecDepth 100000 in
theorem qX2_waistO (E : zE) (x rw ln t1 t2 : Nat) (nb dn : Nat) (RF : Nat → Option Nat) (D : Nat → Int32) (A B : TB) (b way : Int32) (hnb : nb ≤ 4) (hb : ¬ inB nb b) : zF E yX2_waist wsX2_waist rX2_waist [.ref x, .int b, .int way] [cO x 2 [.ref rw, .int (nI nb), .ref ln, .int (nI dn), .ref t1, .ref t2], cQ E rw 4 RF, cI E ln 12 D, cO t1 1 [.long (ta A), .long (tb A), .long (tc A), .long (td A), .long (te A), .long (tf A), .long (tg A)], cO t2 1 [.long (ta B), .long (tb B), .long (tc B), .long (td B), .long (te B), .long (tf B), .long (tg B)]] (zx (some (.int (-1))) ([cO x 2 [.ref rw, .int (nI nb), .ref ln, .int (nI dn), .ref t1, .ref t2], cQ E rw 4 RF, cI E ln 12 D, cO t1 1 [.long (ta A), .long (tb A), .long (tc A), .long (td A), .long (te A), .long (tf A), .long (tg A)], cO t2 1 [.long (ta B), .long (tb B), .long (tc B), .long (td B), .long (te B), .long (tf B), .long (tg B)]])) := by
  refine z_start RX2 "waist" (by decide) rfl rfl rfl (Nat.le_of_ble_eq_true rfl) ?_
  intro J Z
  refine g_eq Z (lv2 := [(0, .ref x), (1, .int b), (2, .int way)]) rfl rfl rfl ?_
  refine g_aload_n Z dX2_waist_0 0 rfl rfl ?_
  refine g_iload_n Z dX2_waist_1 1 rfl rfl ?_
  refine g_callVx (w' := [cO x 2 [.ref rw, .int (nI nb), .ref ln, .int (nI dn), .ref t1, .ref t2], cQ E rw 4 RF, cI E ln 12 D, cO t1 1 [.long (ta A), .long (tb A), .long (tc A), .long (td A), .long (te A), .long (tf A), .long (tg A)], cO t2 1 [.long (ta B), .long (tb B), .long (tc B), .long (td B), .long (te B), .long (tf B), .long (tg B)]]) Z (qX2_rowAtO E x rw ln t1 t2 nb dn RF b hnb hb) iX2_rowAt gX2_waist_X2_rowAt ⟨rfl, rfl⟩ ⟨Nat.le_of_ble_eq_true rfl, Nat.le_of_ble_eq_true rfl⟩ dX2_waist_2 rfl rfl (Nat.le_of_ble_eq_true rfl) ⟨Nat.zero_le _, Nat.zero_le _⟩ [0, 1] rfl rfl 0 rfl rfl rfl rfl rfl ?_
  refine g_astore_nN (lv' := [(3, .null), (0, .ref x), (1, .int b), (2, .int way)]) Z dX2_waist_5 rfl (by decide) rfl ?_
  refine g_aload_nN Z dX2_waist_6 0 rfl rfl ?_
  refine g_ifnullN (tgt := 17) Z dX2_waist_7 (by decide) ?_
  refine g_iconst Z dX2_waist_17 zi_m1 ?_
  exact g_iret Z dX2_waist_18 rfl ⟨Nat.zero_le _, Nat.zero_le _⟩ ⟨rfl, rfl⟩

abbrev rX2_axis : Room := { frames := 3, cells := 0, slots := 0, locals := 74 }
theorem iX2_axis : zInfo yX2_axis wsX2_axis RX2 11 (some .long) 5 := ⟨_, _, rfl, by decide +kernel⟩
theorem kX2_axis_91 : Cond.constantLong RX2 91 (-9223372036854775808) ∈ wsX2_axis := by decide +kernel
set_option maxHeartbeats 4000000 in
set_option maxRecDepth 100000 in
theorem qX2_axisO (E : zE) (x rw ln t1 t2 : Nat) (nb dn : Nat) (RF : Nat → Option Nat) (D : Nat → Int32) (A B : TB) (b way i e wh : Int32) (hnb : nb ≤ 4) (hb : ¬ inB nb b) : zF E yX2_axis wsX2_axis rX2_axis [.ref x, .int b, .int way, .int i, .int e, .int wh] [cO x 2 [.ref rw, .int (nI nb), .ref ln, .int (nI dn), .ref t1, .ref t2], cQ E rw 4 RF, cI E ln 12 D, cO t1 1 [.long (ta A), .long (tb A), .long (tc A), .long (td A), .long (te A), .long (tf A), .long (tg A)], cO t2 1 [.long (ta B), .long (tb B), .long (tc B), .long (td B), .long (te B), .long (tf B), .long (tg B)]] (zx (some (.long (-9223372036854775808))) ([cO x 2 [.ref rw, .int (nI nb), .ref ln, .int (nI dn), .ref t1, .ref t2], cQ E rw 4 RF, cI E ln 12 D, cO t1 1 [.long (ta A), .long (tb A), .long (tc A), .long (td A), .long (te A), .long (tf A), .long (tg A)], cO t2 1 [.long (ta B), .long (tb B), .long (tc B), .long (td B), .long (te B), .long (tf B), .long (tg B)]])) := by
  refine z_start RX2 "axis" (by decide) rfl rfl rfl (Nat.le_of_ble_eq_true rfl) ?_
  intro J Z
  refine g_eq Z (lv2 := [(0, .ref x), (1, .int b), (2, .int way), (3, .int i), (4, .int e), (5, .int wh)]) rfl rfl rfl ?_
  refine g_aload_n Z dX2_axis_0 0 rfl rfl ?_
  refine g_iload_n Z dX2_axis_1 1 rfl rfl ?_
  refine g_callVx (w' := [cO x 2 [.ref rw, .int (nI nb), .ref ln, .int (nI dn), .ref t1, .ref t2], cQ E rw 4 RF, cI E ln 12 D, cO t1 1 [.long (ta A), .long (tb A), .long (tc A), .long (td A), .long (te A), .long (tf A), .long (tg A)], cO t2 1 [.long (ta B), .long (tb B), .long (tc B), .long (td B), .long (te B), .long (tf B), .long (tg B)]]) Z (qX2_rowAtO E x rw ln t1 t2 nb dn RF b hnb hb) iX2_rowAt gX2_axis_X2_rowAt ⟨rfl, rfl⟩ ⟨Nat.le_of_ble_eq_true rfl, Nat.le_of_ble_eq_true rfl⟩ dX2_axis_2 rfl rfl (Nat.le_of_ble_eq_true rfl) ⟨Nat.zero_le _, Nat.zero_le _⟩ [0, 1] rfl rfl 0 rfl rfl rfl rfl rfl ?_
  refine g_astoreN (lv' := [(6, .null), (0, .ref x), (1, .int b), (2, .int way), (3, .int i), (4, .int e), (5, .int wh)]) Z dX2_axis_5 (by decide) rfl ?_
  refine g_aloadN Z dX2_axis_7 0 rfl ?_
  refine g_ifnullN (tgt := 44) Z dX2_axis_9 (by decide) ?_
  refine g_ldc2 Z dX2_axis_44 kX2_axis_91 ?_
  exact g_lret Z dX2_axis_47 rfl ⟨Nat.zero_le _, Nat.zero_le _⟩ ⟨rfl, rfl⟩

abbrev rX2_span : Room := { frames := 6, cells := 0, slots := 0, locals := 142 }
theorem iX2_span : zInfo yX2_span wsX2_span RX2 7 (some .int) 3 := ⟨_, _, rfl, by decide +kernel⟩
set_option maxHeartbeats 4000000 in
set_option maxRecDepth 100000 in
theorem qX2_spanO (E : zE) (x rw ln t1 t2 : Nat) (nb dn : Nat) (RF : Nat → Option Nat) (D : Nat → Int32) (A B : TB) (b i v : Int32) (hnb : nb ≤ 4) (hb : ¬ inB nb b) : zF E yX2_span wsX2_span rX2_span [.ref x, .int b, .int i, .int v] [cO x 2 [.ref rw, .int (nI nb), .ref ln, .int (nI dn), .ref t1, .ref t2], cQ E rw 4 RF, cI E ln 12 D, cO t1 1 [.long (ta A), .long (tb A), .long (tc A), .long (td A), .long (te A), .long (tf A), .long (tg A)], cO t2 1 [.long (ta B), .long (tb B), .long (tc B), .long (td B), .long (te B), .long (tf B), .long (tg B)]] (zx (some (.int (-1))) ([cO x 2 [.ref rw, .int (nI nb), .ref ln, .int (nI dn), .ref t1, .ref t2], cQ E rw 4 RF, cI E ln 12 D, cO t1 1 [.long (ta A), .long (tb A), .long (tc A), .long (td A), .long (te A), .long (tf A), .long (tg A)], cO t2 1 [.long (ta B), .long (tb B), .long (tc B), .long (td B), .long (te B), .long (tf B), .long (tg B)]])) := by
  refine z_start RX2 "span" (by decide) rfl rfl rfl (Nat.le_of_ble_eq_true rfl) ?_
  intro J Z
  refine g_eq Z (lv2 := [(0, .ref x), (1, .int b), (2, .int i), (3, .int v)]) rfl rfl rfl ?_
  refine g_aload_n Z dX2_span_0 0 rfl rfl ?_
  refine g_iload_n Z dX2_span_1 1 rfl rfl ?_
  refine g_callVx (w' := [cO x 2 [.ref rw, .int (nI nb), .ref ln, .int (nI dn), .ref t1, .ref t2], cQ E rw 4 RF, cI E ln 12 D, cO t1 1 [.long (ta A), .long (tb A), .long (tc A), .long (td A), .long (te A), .long (tf A), .long (tg A)], cO t2 1 [.long (ta B), .long (tb B), .long (tc B), .long (td B), .long (te B), .long (tf B), .long (tg B)]]) Z (qX2_rowAtO E x rw ln t1 t2 nb dn RF b hnb hb) iX2_rowAt gX2_span_X2_rowAt ⟨rfl, rfl⟩ ⟨Nat.le_of_ble_eq_true rfl, Nat.le_of_ble_eq_true rfl⟩ dX2_span_2 rfl rfl (Nat.le_of_ble_eq_true rfl) ⟨Nat.zero_le _, Nat.zero_le _⟩ [0, 1] rfl rfl 0 rfl rfl rfl rfl rfl ?_
  refine g_astoreN (lv' := [(4, .null), (0, .ref x), (1, .int b), (2, .int i), (3, .int v)]) Z dX2_span_5 (by decide) rfl ?_
  refine g_aloadN Z dX2_span_7 0 rfl ?_
  refine g_ifnullN (tgt := 25) Z dX2_span_9 (by decide) ?_
  refine g_iconst Z dX2_span_25 zi_m1 ?_
  exact g_iret Z dX2_span_26 rfl ⟨Nat.zero_le _, Nat.zero_le _⟩ ⟨rfl, rfl⟩

abbrev rX2_fit : Room := { frames := 6, cells := 0, slots := 0, locals := 142 }
theorem iX2_fit : zInfo yX2_fit wsX2_fit RX2 5 (some .int) 2 := ⟨_, _, rfl, by decide +kernel⟩
set_option maxHeartbeats 4000000 in
set_option maxRecDepth 100000 in
theorem qX2_fitO (E : zE) (x rw ln t1 t2 : Nat) (nb dn : Nat) (RF : Nat → Option Nat) (D : Nat → Int32) (A B : TB) (b i : Int32) (hnb : nb ≤ 4) (hb : ¬ inB nb b) : zF E yX2_fit wsX2_fit rX2_fit [.ref x, .int b, .int i] [cO x 2 [.ref rw, .int (nI nb), .ref ln, .int (nI dn), .ref t1, .ref t2], cQ E rw 4 RF, cI E ln 12 D, cO t1 1 [.long (ta A), .long (tb A), .long (tc A), .long (td A), .long (te A), .long (tf A), .long (tg A)], cO t2 1 [.long (ta B), .long (tb B), .long (tc B), .long (td B), .long (te B), .long (tf B), .long (tg B)]] (zx (some (.int (-1))) ([cO x 2 [.ref rw, .int (nI nb), .ref ln, .int (nI dn), .ref t1, .ref t2], cQ E rw 4 RF, cI E ln 12 D, cO t1 1 [.long (ta A), .long (tb A), .long (tc A), .long (td A), .long (te A), .long (tf A), .long (tg A)], cO t2 1 [.long (ta B), .long (tb B), .long (tc B), .long (td B), .long (te B), .long (tf B), .long (tg B)]])) := by
  refine z_start RX2 "fit" (by decide) rfl rfl rfl (Nat.le_of_ble_eq_true rfl) ?_
  intro J Z
  refine g_eq Z (lv2 := [(0, .ref x), (1, .int b), (2, .int i)]) rfl rfl rfl ?_
  refine g_aload_n Z dX2_fit_0 0 rfl rfl ?_
  refine g_iload_n Z dX2_fit_1 1 rfl rfl ?_
  refine g_callVx (w' := [cO x 2 [.ref rw, .int (nI nb), .ref ln, .int (nI dn), .ref t1, .ref t2], cQ E rw 4 RF, cI E ln 12 D, cO t1 1 [.long (ta A), .long (tb A), .long (tc A), .long (td A), .long (te A), .long (tf A), .long (tg A)], cO t2 1 [.long (ta B), .long (tb B), .long (tc B), .long (td B), .long (te B), .long (tf B), .long (tg B)]]) Z (qX2_rowAtO E x rw ln t1 t2 nb dn RF b hnb hb) iX2_rowAt gX2_fit_X2_rowAt ⟨rfl, rfl⟩ ⟨Nat.le_of_ble_eq_true rfl, Nat.le_of_ble_eq_true rfl⟩ dX2_fit_2 rfl rfl (Nat.le_of_ble_eq_true rfl) ⟨Nat.zero_le _, Nat.zero_le _⟩ [0, 1] rfl rfl 0 rfl rfl rfl rfl rfl ?_
  refine g_astore_nN (lv' := [(3, .null), (0, .ref x), (1, .int b), (2, .int i)]) Z dX2_fit_5 rfl (by decide) rfl ?_
  refine g_aload_nN Z dX2_fit_6 0 rfl rfl ?_
  refine g_ifnullN (tgt := 18) Z dX2_fit_7 (by decide) ?_
  refine g_iconst Z dX2_fit_18 zi_m1 ?_
  exact g_iret Z dX2_fit_19 rfl ⟨Nat.zero_le _, Nat.zero_le _⟩ ⟨rfl, rfl⟩

abbrev rX2_swap : Room := { frames := 1, cells := 0, slots := 0, locals := 21 }
theorem iX2_swap : zInfo yX2_swap wsX2_swap RX2 6 (some .int) 3 := ⟨_, _, rfl, by decide +kernel⟩
set_option maxHeartbeats 4000000 in
set_option maxRecDepth 100000 in
theorem qX2_swapO (E : zE) (x rw ln t1 t2 : Nat) (nb dn : Nat) (RF : Nat → Option Nat) (D : Nat → Int32) (A B : TB) (b i v : Int32) (hnb : nb ≤ 4) (hb : ¬ inB nb b) : zF E yX2_swap wsX2_swap rX2_swap [.ref x, .int b, .int i, .int v] [cO x 2 [.ref rw, .int (nI nb), .ref ln, .int (nI dn), .ref t1, .ref t2], cQ E rw 4 RF, cI E ln 12 D, cO t1 1 [.long (ta A), .long (tb A), .long (tc A), .long (td A), .long (te A), .long (tf A), .long (tg A)], cO t2 1 [.long (ta B), .long (tb B), .long (tc B), .long (td B), .long (te B), .long (tf B), .long (tg B)]] (zx (some (.int (-1))) ([cO x 2 [.ref rw, .int (nI nb), .ref ln, .int (nI dn), .ref t1, .ref t2], cQ E rw 4 RF, cI E ln 12 D, cO t1 1 [.long (ta A), .long (tb A), .long (tc A), .long (td A), .long (te A), .long (tf A), .long (tg A)], cO t2 1 [.long (ta B), .long (tb B), .long (tc B), .long (td B), .long (te B), .long (tf B), .long (tg B)]])) := by
  refine z_start RX2 "swap" (by decide) rfl rfl rfl (Nat.le_of_ble_eq_true rfl) ?_
  intro J Z
  refine g_eq Z (lv2 := [(0, .ref x), (1, .int b), (2, .int i), (3, .int v)]) rfl rfl rfl ?_
  refine g_aload_n Z dX2_swap_0 0 rfl rfl ?_
  refine g_iload_n Z dX2_swap_1 1 rfl rfl ?_
  refine g_callVx (w' := [cO x 2 [.ref rw, .int (nI nb), .ref ln, .int (nI dn), .ref t1, .ref t2], cQ E rw 4 RF, cI E ln 12 D, cO t1 1 [.long (ta A), .long (tb A), .long (tc A), .long (td A), .long (te A), .long (tf A), .long (tg A)], cO t2 1 [.long (ta B), .long (tb B), .long (tc B), .long (td B), .long (te B), .long (tf B), .long (tg B)]]) Z (qX2_rowAtO E x rw ln t1 t2 nb dn RF b hnb hb) iX2_rowAt gX2_swap_X2_rowAt ⟨rfl, rfl⟩ ⟨Nat.le_of_ble_eq_true rfl, Nat.le_of_ble_eq_true rfl⟩ dX2_swap_2 rfl rfl (Nat.le_of_ble_eq_true rfl) ⟨Nat.zero_le _, Nat.zero_le _⟩ [0, 1] rfl rfl 0 rfl rfl rfl rfl rfl ?_
  refine g_astoreN (lv' := [(4, .null), (0, .ref x), (1, .int b), (2, .int i), (3, .int v)]) Z dX2_swap_5 (by decide) rfl ?_
  refine g_aloadN Z dX2_swap_7 0 rfl ?_
  refine g_ifnullN (tgt := 29) Z dX2_swap_9 (by decide) ?_
  refine g_iconst Z dX2_swap_29 zi_m1 ?_
  exact g_iret Z dX2_swap_30 rfl ⟨Nat.zero_le _, Nat.zero_le _⟩ ⟨rfl, rfl⟩

theorem nX2_put_X0 : ∀ w ∈ wsX00, w ∈ wsX2_put := by decide +kernel
theorem fX2_put_43 : Cond.fieldLink RX2 43 (TX0 3).1 (TX0 3).2.1 (TX0 3).2.2.1 ∈ wsX2_put := by decide +kernel
set_option maxHeartbeats 4000000 in
set_option maxRecDepth 100000 in
theorem qX2_putN (E : zE) (x rw ln t1 t2 : Nat) (nb dn : Nat) (RF : Nat → Option Nat) (D : Nat → Int32) (A B : TB) (o k f s : Nat) (K F G : Nat → Int32) (z : Nat) (j : Nat) (i kd a c : Int32) (hnb : nb ≤ 4) (hj : j < nb) (hr : RF j = some o) (hz : z ≤ 8) (hv : ¬ inB (z + 1) i) : zF E yX2_put wsX2_put rX2_put [.ref x, .int (nI j), .int i, .int kd, .int a, .int c] [cO x 2 [.ref rw, .int (nI nb), .ref ln, .int (nI dn), .ref t1, .ref t2], cQ E rw 4 RF, cI E ln 12 D, cO t1 1 [.long (ta A), .long (tb A), .long (tc A), .long (td A), .long (te A), .long (tf A), .long (tg A)], cO t2 1 [.long (ta B), .long (tb B), .long (tc B), .long (td B), .long (te B), .long (tf B), .long (tg B)], cO o 0 [.ref k, .ref f, .ref s, .int (nI z)], cI E k 8 K, cI E f 8 F, cI E s 8 G] (zx (some (.int (-1))) ([cO x 2 [.ref rw, .int (nI nb), .ref ln, .int (nI dn), .ref t1, .ref t2], cQ E rw 4 RF, cI E ln 12 D, cO t1 1 [.long (ta A), .long (tb A), .long (tc A), .long (td A), .long (te A), .long (tf A), .long (tg A)], cO t2 1 [.long (ta B), .long (tb B), .long (tc B), .long (td B), .long (te B), .long (tf B), .long (tg B)], cO o 0 [.ref k, .ref f, .ref s, .int (nI z)], cI E k 8 K, cI E f 8 F, cI E s 8 G])) := by
  refine z_start RX2 "put" (by decide) rfl rfl rfl (Nat.le_of_ble_eq_true rfl) ?_
  intro J Z
  refine g_eq Z (lv2 := [(0, .ref x), (1, .int (nI j)), (2, .int i), (3, .int kd), (4, .int a), (5, .int c)]) rfl rfl rfl ?_
  refine g_aload_n Z dX2_put_0 0 rfl rfl ?_
  refine g_iload_n Z dX2_put_1 1 rfl rfl ?_
  refine g_callVx (w' := [cO x 2 [.ref rw, .int (nI nb), .ref ln, .int (nI dn), .ref t1, .ref t2], cQ E rw 4 RF, cI E ln 12 D, cO t1 1 [.long (ta A), .long (tb A), .long (tc A), .long (td A), .long (te A), .long (tf A), .long (tg A)], cO t2 1 [.long (ta B), .long (tb B), .long (tc B), .long (td B), .long (te B), .long (tf B), .long (tg B)], cO o 0 [.ref k, .ref f, .ref s, .int (nI z)], cI E k 8 K, cI E f 8 F, cI E s 8 G]) Z (qX2_rowAt E x rw ln t1 t2 nb dn RF j o hj hnb hr) iX2_rowAt gX2_put_X2_rowAt ⟨rfl, rfl⟩ ⟨Nat.le_of_ble_eq_true rfl, Nat.le_of_ble_eq_true rfl⟩ dX2_put_2 rfl rfl (Nat.le_of_ble_eq_true rfl) ⟨Nat.zero_le _, Nat.zero_le _⟩ [0, 1] rfl rfl 0 rfl rfl rfl rfl rfl ?_
  refine g_astore (lv' := [(6, .ref o), (0, .ref x), (1, .int (nI j)), (2, .int i), (3, .int kd), (4, .int a), (5, .int c)]) Z dX2_put_5 (by decide) rfl ?_
  refine g_aload Z dX2_put_7 0 rfl ?_
  refine g_ifnull Z dX2_put_9 ?_
  refine g_iload_n Z dX2_put_12 3 rfl rfl ?_
  refine g_if_lt (tgt := 25) Z dX2_put_13 (by decide) (fun c_13 => ?_) (fun c_13 => ?_)
  · refine g_iconst Z dX2_put_25 zi_m1 ?_
    exact g_iret Z dX2_put_26 rfl ⟨Nat.zero_le _, Nat.zero_le _⟩ ⟨rfl, rfl⟩
  · refine g_iload_n Z dX2_put_16 3 rfl rfl ?_
    refine g_aload Z dX2_put_17 0 rfl ?_
    refine g_get Z dX2_put_19 5 rfl rfl nX2_put_X0 3 (by decide) fX2_put_43 rfl ?_
    refine g_icmp_le (tgt := 27) Z dX2_put_22 (by decide) (fun c_22 => ?_) (fun c_22 => ?_)
    · exact absurd ((inB_P (by omega)).mp ⟨c_13, Int32.not_lt.mpr c_22⟩) hv
    · refine g_iconst Z dX2_put_25 zi_m1 ?_
      exact g_iret Z dX2_put_26 rfl ⟨Nat.zero_le _, Nat.zero_le _⟩ ⟨rfl, rfl⟩


set_option maxHeartbeats 4000000 in
set_option maxRecDepth 100000 in
theorem qX2_putB (E : zE) (x rw ln t1 t2 : Nat) (nb dn : Nat) (RF : Nat → Option Nat) (D : Nat → Int32) (A B : TB) (o k f s : Nat) (K F G : Nat → Int32) (z : Nat) (j : Nat) (p : Nat) (kd a c : Int32) (hnb : nb ≤ 4) (hj : j < nb) (hr : RF j = some o) (hz : z ≤ 8) (hp : p ≤ z) (hg : ¬ gdP kd a c) : zF E yX2_put wsX2_put rX2_put [.ref x, .int (nI j), .int (nI p), .int kd, .int a, .int c] [cO x 2 [.ref rw, .int (nI nb), .ref ln, .int (nI dn), .ref t1, .ref t2], cQ E rw 4 RF, cI E ln 12 D, cO t1 1 [.long (ta A), .long (tb A), .long (tc A), .long (td A), .long (te A), .long (tf A), .long (tg A)], cO t2 1 [.long (ta B), .long (tb B), .long (tc B), .long (td B), .long (te B), .long (tf B), .long (tg B)], cO o 0 [.ref k, .ref f, .ref s, .int (nI z)], cI E k 8 K, cI E f 8 F, cI E s 8 G] (zx (some (.int (-2))) ([cO x 2 [.ref rw, .int (nI nb), .ref ln, .int (nI dn), .ref t1, .ref t2], cQ E rw 4 RF, cI E ln 12 D, cO t1 1 [.long (ta A), .long (tb A), .long (tc A), .long (td A), .long (te A), .long (tf A), .long (tg A)], cO t2 1 [.long (ta B), .long (tb B), .long (tc B), .long (td B), .long (te B), .long (tf B), .long (tg B)], cO o 0 [.ref k, .ref f, .ref s, .int (nI z)], cI E k 8 K, cI E f 8 F, cI E s 8 G])) := by
  refine z_start RX2 "put" (by decide) rfl rfl rfl (Nat.le_of_ble_eq_true rfl) ?_
  intro J Z
  refine g_eq Z (lv2 := [(0, .ref x), (1, .int (nI j)), (2, .int (nI p)), (3, .int kd), (4, .int a), (5, .int c)]) rfl rfl rfl ?_
  refine g_aload_n Z dX2_put_0 0 rfl rfl ?_
  refine g_iload_n Z dX2_put_1 1 rfl rfl ?_
  refine g_callVx (w' := [cO x 2 [.ref rw, .int (nI nb), .ref ln, .int (nI dn), .ref t1, .ref t2], cQ E rw 4 RF, cI E ln 12 D, cO t1 1 [.long (ta A), .long (tb A), .long (tc A), .long (td A), .long (te A), .long (tf A), .long (tg A)], cO t2 1 [.long (ta B), .long (tb B), .long (tc B), .long (td B), .long (te B), .long (tf B), .long (tg B)], cO o 0 [.ref k, .ref f, .ref s, .int (nI z)], cI E k 8 K, cI E f 8 F, cI E s 8 G]) Z (qX2_rowAt E x rw ln t1 t2 nb dn RF j o hj hnb hr) iX2_rowAt gX2_put_X2_rowAt ⟨rfl, rfl⟩ ⟨Nat.le_of_ble_eq_true rfl, Nat.le_of_ble_eq_true rfl⟩ dX2_put_2 rfl rfl (Nat.le_of_ble_eq_true rfl) ⟨Nat.zero_le _, Nat.zero_le _⟩ [0, 1] rfl rfl 0 rfl rfl rfl rfl rfl ?_
  refine g_astore (lv' := [(6, .ref o), (0, .ref x), (1, .int (nI j)), (2, .int (nI p)), (3, .int kd), (4, .int a), (5, .int c)]) Z dX2_put_5 (by decide) rfl ?_
  refine g_aload Z dX2_put_7 0 rfl ?_
  refine g_ifnull Z dX2_put_9 ?_
  refine g_iload_n Z dX2_put_12 3 rfl rfl ?_
  refine g_ifN_lt (tgt := 25) Z dX2_put_13 (by decide) p rfl (by omega) (fun c_13 => absurd c_13 id) (fun c_13 => ?_)
  refine g_iload_n Z dX2_put_16 3 rfl rfl ?_
  refine g_aload Z dX2_put_17 0 rfl ?_
  refine g_get Z dX2_put_19 5 rfl rfl nX2_put_X0 3 (by decide) fX2_put_43 rfl ?_
  refine g_icmpN_le (tgt := 27) Z dX2_put_22 (by decide) p z rfl rfl (by omega) (by omega) (fun c_22 => ?_) (fun c_22 => absurd c_22 (by omega))
  refine g_iload_n Z dX2_put_27 4 rfl rfl ?_
  refine g_iload Z dX2_put_28 5 rfl ?_
  refine g_iload Z dX2_put_30 6 rfl ?_
  refine g_callSx (w' := [cO x 2 [.ref rw, .int (nI nb), .ref ln, .int (nI dn), .ref t1, .ref t2], cQ E rw 4 RF, cI E ln 12 D, cO t1 1 [.long (ta A), .long (tb A), .long (tc A), .long (td A), .long (te A), .long (tf A), .long (tg A)], cO t2 1 [.long (ta B), .long (tb B), .long (tc B), .long (td B), .long (te B), .long (tf B), .long (tg B)], cO o 0 [.ref k, .ref f, .ref s, .int (nI z)], cI E k 8 K, cI E f 8 F, cI E s 8 G]) Z (qX2_isPart E kd a c) iX2_isPart gX2_put_X2_isPart ⟨rfl, rfl⟩ ⟨Nat.le_of_ble_eq_true rfl, Nat.le_of_ble_eq_true rfl⟩ dX2_put_32 rfl rfl (Nat.le_of_ble_eq_true rfl) ⟨Nat.zero_le _, Nat.zero_le _⟩ [] rfl rfl rfl rfl ?_
  refine g_ifb_ne (tgt := 41) Z dX2_put_35 (by decide) (fun c_35 => absurd c_35 hg) (fun c_35 => ?_)
  refine g_bipush Z dX2_put_38 zb_m2 ?_
  exact g_iret Z dX2_put_40 rfl ⟨Nat.zero_le _, Nat.zero_le _⟩ ⟨rfl, rfl⟩


set_option maxHeartbeats 4000000 in
set_option maxRecDepth 100000 in
theorem qX2_putF (E : zE) (x rw ln t1 t2 : Nat) (nb dn : Nat) (RF : Nat → Option Nat) (D : Nat → Int32) (A B : TB) (o k f s : Nat) (K F G : Nat → Int32) (z : Nat) (j : Nat) (p : Nat) (kd a c : Int32) (hnb : nb ≤ 4) (hj : j < nb) (hr : RF j = some o) (hz : z ≤ 8) (hp : p ≤ z) (hg : gdP kd a c) (hf : 8 ≤ z ∨ ((kd = 1 ∨ kd = 2) ∧ 3 ≤ nBent K z) ∨ (kd = 3 ∧ 2 ≤ nTilt K z)) : zF E yX2_put wsX2_put rX2_put [.ref x, .int (nI j), .int (nI p), .int kd, .int a, .int c] [cO x 2 [.ref rw, .int (nI nb), .ref ln, .int (nI dn), .ref t1, .ref t2], cQ E rw 4 RF, cI E ln 12 D, cO t1 1 [.long (ta A), .long (tb A), .long (tc A), .long (td A), .long (te A), .long (tf A), .long (tg A)], cO t2 1 [.long (ta B), .long (tb B), .long (tc B), .long (td B), .long (te B), .long (tf B), .long (tg B)], cO o 0 [.ref k, .ref f, .ref s, .int (nI z)], cI E k 8 K, cI E f 8 F, cI E s 8 G] (zx (some (.int (-4))) ([cO x 2 [.ref rw, .int (nI nb), .ref ln, .int (nI dn), .ref t1, .ref t2], cQ E rw 4 RF, cI E ln 12 D, cO t1 1 [.long (ta A), .long (tb A), .long (tc A), .long (td A), .long (te A), .long (tf A), .long (tg A)], cO t2 1 [.long (ta B), .long (tb B), .long (tc B), .long (td B), .long (te B), .long (tf B), .long (tg B)], cO o 0 [.ref k, .ref f, .ref s, .int (nI z)], cI E k 8 K, cI E f 8 F, cI E s 8 G])) := by
  refine z_start RX2 "put" (by decide) rfl rfl rfl (Nat.le_of_ble_eq_true rfl) ?_
  intro J Z
  refine g_eq Z (lv2 := [(0, .ref x), (1, .int (nI j)), (2, .int (nI p)), (3, .int kd), (4, .int a), (5, .int c)]) rfl rfl rfl ?_
  refine g_aload_n Z dX2_put_0 0 rfl rfl ?_
  refine g_iload_n Z dX2_put_1 1 rfl rfl ?_
  refine g_callVx (w' := [cO x 2 [.ref rw, .int (nI nb), .ref ln, .int (nI dn), .ref t1, .ref t2], cQ E rw 4 RF, cI E ln 12 D, cO t1 1 [.long (ta A), .long (tb A), .long (tc A), .long (td A), .long (te A), .long (tf A), .long (tg A)], cO t2 1 [.long (ta B), .long (tb B), .long (tc B), .long (td B), .long (te B), .long (tf B), .long (tg B)], cO o 0 [.ref k, .ref f, .ref s, .int (nI z)], cI E k 8 K, cI E f 8 F, cI E s 8 G]) Z (qX2_rowAt E x rw ln t1 t2 nb dn RF j o hj hnb hr) iX2_rowAt gX2_put_X2_rowAt ⟨rfl, rfl⟩ ⟨Nat.le_of_ble_eq_true rfl, Nat.le_of_ble_eq_true rfl⟩ dX2_put_2 rfl rfl (Nat.le_of_ble_eq_true rfl) ⟨Nat.zero_le _, Nat.zero_le _⟩ [0, 1] rfl rfl 0 rfl rfl rfl rfl rfl ?_
  refine g_astore (lv' := [(6, .ref o), (0, .ref x), (1, .int (nI j)), (2, .int (nI p)), (3, .int kd), (4, .int a), (5, .int c)]) Z dX2_put_5 (by decide) rfl ?_
  refine g_aload Z dX2_put_7 0 rfl ?_
  refine g_ifnull Z dX2_put_9 ?_
  refine g_iload_n Z dX2_put_12 3 rfl rfl ?_
  refine g_ifN_lt (tgt := 25) Z dX2_put_13 (by decide) p rfl (by omega) (fun c_13 => absurd c_13 id) (fun c_13 => ?_)
  refine g_iload_n Z dX2_put_16 3 rfl rfl ?_
  refine g_aload Z dX2_put_17 0 rfl ?_
  refine g_get Z dX2_put_19 5 rfl rfl nX2_put_X0 3 (by decide) fX2_put_43 rfl ?_
  refine g_icmpN_le (tgt := 27) Z dX2_put_22 (by decide) p z rfl rfl (by omega) (by omega) (fun c_22 => ?_) (fun c_22 => absurd c_22 (by omega))
  refine g_iload_n Z dX2_put_27 4 rfl rfl ?_
  refine g_iload Z dX2_put_28 5 rfl ?_
  refine g_iload Z dX2_put_30 6 rfl ?_
  refine g_callSx (w' := [cO x 2 [.ref rw, .int (nI nb), .ref ln, .int (nI dn), .ref t1, .ref t2], cQ E rw 4 RF, cI E ln 12 D, cO t1 1 [.long (ta A), .long (tb A), .long (tc A), .long (td A), .long (te A), .long (tf A), .long (tg A)], cO t2 1 [.long (ta B), .long (tb B), .long (tc B), .long (td B), .long (te B), .long (tf B), .long (tg B)], cO o 0 [.ref k, .ref f, .ref s, .int (nI z)], cI E k 8 K, cI E f 8 F, cI E s 8 G]) Z (qX2_isPart E kd a c) iX2_isPart gX2_put_X2_isPart ⟨rfl, rfl⟩ ⟨Nat.le_of_ble_eq_true rfl, Nat.le_of_ble_eq_true rfl⟩ dX2_put_32 rfl rfl (Nat.le_of_ble_eq_true rfl) ⟨Nat.zero_le _, Nat.zero_le _⟩ [] rfl rfl rfl rfl ?_
  refine g_ifb_ne (tgt := 41) Z dX2_put_35 (by decide) (fun c_35 => ?_) (fun c_35 => absurd c_35 (fun q => q hg))
  refine g_aload Z dX2_put_41 0 rfl ?_
  refine g_get Z dX2_put_43 5 rfl rfl nX2_put_X0 3 (by decide) fX2_put_43 rfl ?_
  refine g_bipush Z dX2_put_46 zb_8 ?_
  refine g_icmpN_ge (tgt := 60) Z dX2_put_48 (by decide) z 8 rfl rfl (by omega) (by omega) (fun c_48 => ?_) (fun c_48 => ?_)
  · refine g_bipush Z dX2_put_60 zb_m4 ?_
    exact g_iret Z dX2_put_62 rfl ⟨Nat.zero_le _, Nat.zero_le _⟩ ⟨rfl, rfl⟩
  · refine g_aload Z dX2_put_51 0 rfl ?_
    refine g_iload_n Z dX2_put_53 4 rfl rfl ?_
    refine g_callVx (w' := [cO x 2 [.ref rw, .int (nI nb), .ref ln, .int (nI dn), .ref t1, .ref t2], cQ E rw 4 RF, cI E ln 12 D, cO t1 1 [.long (ta A), .long (tb A), .long (tc A), .long (td A), .long (te A), .long (tf A), .long (tg A)], cO t2 1 [.long (ta B), .long (tb B), .long (tc B), .long (td B), .long (te B), .long (tf B), .long (tg B)], cO o 0 [.ref k, .ref f, .ref s, .int (nI z)], cI E k 8 K, cI E f 8 F, cI E s 8 G]) Z (qX0_hasRoomFor E o k f s K F G z kd (by omega)) iX0_hasRoomFor gX2_put_X0_hasRoomFor ⟨rfl, rfl⟩ ⟨Nat.le_of_ble_eq_true rfl, Nat.le_of_ble_eq_true rfl⟩ dX2_put_54 rfl rfl (Nat.le_of_ble_eq_true rfl) ⟨Nat.zero_le _, Nat.zero_le _⟩ [5, 6, 7, 8] rfl rfl 0 rfl rfl rfl rfl rfl ?_
    refine g_ifb_ne (tgt := 63) Z dX2_put_57 (by decide) (fun c_57 => absurd c_57 (by grind)) (fun c_57 => ?_)
    refine g_bipush Z dX2_put_60 zb_m4 ?_
    exact g_iret Z dX2_put_62 rfl ⟨Nat.zero_le _, Nat.zero_le _⟩ ⟨rfl, rfl⟩


set_option maxHeartbeats 4000000 in
set_option maxRecDepth 100000 in
theorem qX2_put (E : zE) (x rw ln t1 t2 : Nat) (nb dn : Nat) (RF : Nat → Option Nat) (D : Nat → Int32) (A B : TB) (o k f s : Nat) (K F G : Nat → Int32) (z : Nat) (j : Nat) (p : Nat) (kd a c : Int32) (hnb : nb ≤ 4) (hj : j < nb) (hr : RF j = some o) (hz : z ≤ 8) (hp : p ≤ z) (hg : gdP kd a c) (hf : ¬ (8 ≤ z ∨ ((kd = 1 ∨ kd = 2) ∧ 3 ≤ nBent K z) ∨ (kd = 3 ∧ 2 ≤ nTilt K z))) : zF E yX2_put wsX2_put rX2_put [.ref x, .int (nI j), .int (nI p), .int kd, .int a, .int c] [cO x 2 [.ref rw, .int (nI nb), .ref ln, .int (nI dn), .ref t1, .ref t2], cQ E rw 4 RF, cI E ln 12 D, cO t1 1 [.long (ta A), .long (tb A), .long (tc A), .long (td A), .long (te A), .long (tf A), .long (tg A)], cO t2 1 [.long (ta B), .long (tb B), .long (tc B), .long (td B), .long (te B), .long (tf B), .long (tg B)], cO o 0 [.ref k, .ref f, .ref s, .int (nI z)], cI E k 8 K, cI E f 8 F, cI E s 8 G] (zx (some (.int (nI (z + 1)))) ([cO x 2 [.ref rw, .int (nI nb), .ref ln, .int (nI dn), .ref t1, .ref t2], cQ E rw 4 RF, cI E ln 12 D, cO t1 1 [.long (ta A), .long (tb A), .long (tc A), .long (td A), .long (te A), .long (tf A), .long (tg A)], cO t2 1 [.long (ta B), .long (tb B), .long (tc B), .long (td B), .long (te B), .long (tf B), .long (tg B)], cO o 0 [.ref k, .ref f, .ref s, .int (nI (z + 1))], cI E k 8 (upd (shUp K z (z - p)) p kd), cI E f 8 (upd (shUp F z (z - p)) p a), cI E s 8 (upd (shUp G z (z - p)) p c)])) := by
  refine z_start RX2 "put" (by decide) rfl rfl rfl (Nat.le_of_ble_eq_true rfl) ?_
  intro J Z
  refine g_eq Z (lv2 := [(0, .ref x), (1, .int (nI j)), (2, .int (nI p)), (3, .int kd), (4, .int a), (5, .int c)]) rfl rfl rfl ?_
  have h8 : z < 8 := by omega
  refine g_aload_n Z dX2_put_0 0 rfl rfl ?_
  refine g_iload_n Z dX2_put_1 1 rfl rfl ?_
  refine g_callVx (w' := [cO x 2 [.ref rw, .int (nI nb), .ref ln, .int (nI dn), .ref t1, .ref t2], cQ E rw 4 RF, cI E ln 12 D, cO t1 1 [.long (ta A), .long (tb A), .long (tc A), .long (td A), .long (te A), .long (tf A), .long (tg A)], cO t2 1 [.long (ta B), .long (tb B), .long (tc B), .long (td B), .long (te B), .long (tf B), .long (tg B)], cO o 0 [.ref k, .ref f, .ref s, .int (nI z)], cI E k 8 K, cI E f 8 F, cI E s 8 G]) Z (qX2_rowAt E x rw ln t1 t2 nb dn RF j o hj hnb hr) iX2_rowAt gX2_put_X2_rowAt ⟨rfl, rfl⟩ ⟨Nat.le_of_ble_eq_true rfl, Nat.le_of_ble_eq_true rfl⟩ dX2_put_2 rfl rfl (Nat.le_of_ble_eq_true rfl) ⟨Nat.zero_le _, Nat.zero_le _⟩ [0, 1] rfl rfl 0 rfl rfl rfl rfl rfl ?_
  refine g_astore (lv' := [(6, .ref o), (0, .ref x), (1, .int (nI j)), (2, .int (nI p)), (3, .int kd), (4, .int a), (5, .int c)]) Z dX2_put_5 (by decide) rfl ?_
  refine g_aload Z dX2_put_7 0 rfl ?_
  refine g_ifnull Z dX2_put_9 ?_
  refine g_iload_n Z dX2_put_12 3 rfl rfl ?_
  refine g_ifN_lt (tgt := 25) Z dX2_put_13 (by decide) p rfl (by omega) (fun c_13 => absurd c_13 id) (fun c_13 => ?_)
  refine g_iload_n Z dX2_put_16 3 rfl rfl ?_
  refine g_aload Z dX2_put_17 0 rfl ?_
  refine g_get Z dX2_put_19 5 rfl rfl nX2_put_X0 3 (by decide) fX2_put_43 rfl ?_
  refine g_icmpN_le (tgt := 27) Z dX2_put_22 (by decide) p z rfl rfl (by omega) (by omega) (fun c_22 => ?_) (fun c_22 => absurd c_22 (by omega))
  refine g_iload_n Z dX2_put_27 4 rfl rfl ?_
  refine g_iload Z dX2_put_28 5 rfl ?_
  refine g_iload Z dX2_put_30 6 rfl ?_
  refine g_callSx (w' := [cO x 2 [.ref rw, .int (nI nb), .ref ln, .int (nI dn), .ref t1, .ref t2], cQ E rw 4 RF, cI E ln 12 D, cO t1 1 [.long (ta A), .long (tb A), .long (tc A), .long (td A), .long (te A), .long (tf A), .long (tg A)], cO t2 1 [.long (ta B), .long (tb B), .long (tc B), .long (td B), .long (te B), .long (tf B), .long (tg B)], cO o 0 [.ref k, .ref f, .ref s, .int (nI z)], cI E k 8 K, cI E f 8 F, cI E s 8 G]) Z (qX2_isPart E kd a c) iX2_isPart gX2_put_X2_isPart ⟨rfl, rfl⟩ ⟨Nat.le_of_ble_eq_true rfl, Nat.le_of_ble_eq_true rfl⟩ dX2_put_32 rfl rfl (Nat.le_of_ble_eq_true rfl) ⟨Nat.zero_le _, Nat.zero_le _⟩ [] rfl rfl rfl rfl ?_
  refine g_ifb_ne (tgt := 41) Z dX2_put_35 (by decide) (fun c_35 => ?_) (fun c_35 => absurd c_35 (fun q => q hg))
  refine g_aload Z dX2_put_41 0 rfl ?_
  refine g_get Z dX2_put_43 5 rfl rfl nX2_put_X0 3 (by decide) fX2_put_43 rfl ?_
  refine g_bipush Z dX2_put_46 zb_8 ?_
  refine g_icmpN_ge (tgt := 60) Z dX2_put_48 (by decide) z 8 rfl rfl (by omega) (by omega) (fun c_48 => absurd c_48 (by omega)) (fun c_48 => ?_)
  refine g_aload Z dX2_put_51 0 rfl ?_
  refine g_iload_n Z dX2_put_53 4 rfl rfl ?_
  refine g_callVx (w' := [cO x 2 [.ref rw, .int (nI nb), .ref ln, .int (nI dn), .ref t1, .ref t2], cQ E rw 4 RF, cI E ln 12 D, cO t1 1 [.long (ta A), .long (tb A), .long (tc A), .long (td A), .long (te A), .long (tf A), .long (tg A)], cO t2 1 [.long (ta B), .long (tb B), .long (tc B), .long (td B), .long (te B), .long (tf B), .long (tg B)], cO o 0 [.ref k, .ref f, .ref s, .int (nI z)], cI E k 8 K, cI E f 8 F, cI E s 8 G]) Z (qX0_hasRoomFor E o k f s K F G z kd (by omega)) iX0_hasRoomFor gX2_put_X0_hasRoomFor ⟨rfl, rfl⟩ ⟨Nat.le_of_ble_eq_true rfl, Nat.le_of_ble_eq_true rfl⟩ dX2_put_54 rfl rfl (Nat.le_of_ble_eq_true rfl) ⟨Nat.zero_le _, Nat.zero_le _⟩ [5, 6, 7, 8] rfl rfl 0 rfl rfl rfl rfl rfl ?_
  refine g_ifb_ne (tgt := 63) Z dX2_put_57 (by decide) (fun c_57 => ?_) (fun c_57 => absurd c_57 (by grind))
  refine g_aload Z dX2_put_63 0 rfl ?_
  refine g_iload_n Z dX2_put_65 3 rfl rfl ?_
  refine g_iload_n Z dX2_put_66 4 rfl rfl ?_
  refine g_iload Z dX2_put_67 5 rfl ?_
  refine g_iload Z dX2_put_69 6 rfl ?_
  refine g_callVx (w' := [cO x 2 [.ref rw, .int (nI nb), .ref ln, .int (nI dn), .ref t1, .ref t2], cQ E rw 4 RF, cI E ln 12 D, cO t1 1 [.long (ta A), .long (tb A), .long (tc A), .long (td A), .long (te A), .long (tf A), .long (tg A)], cO t2 1 [.long (ta B), .long (tb B), .long (tc B), .long (td B), .long (te B), .long (tf B), .long (tg B)], cO o 0 [.ref k, .ref f, .ref s, .int (nI (z + 1))], cI E k 8 (upd (shUp K z (z - p)) p kd), cI E f 8 (upd (shUp F z (z - p)) p a), cI E s 8 (upd (shUp G z (z - p)) p c)]) Z (qX0_insert E o k f s K F G z p kd a c (by omega) (by omega)) iX0_insert gX2_put_X0_insert ⟨rfl, rfl⟩ ⟨Nat.le_of_ble_eq_true rfl, Nat.le_of_ble_eq_true rfl⟩ dX2_put_71 rfl rfl (Nat.le_of_ble_eq_true rfl) ⟨Nat.zero_le _, Nat.zero_le _⟩ [5, 6, 7, 8] rfl rfl 0 rfl rfl rfl rfl rfl ?_
  refine g_aload Z dX2_put_74 0 rfl ?_
  refine g_get Z dX2_put_76 5 rfl rfl nX2_put_X0 3 (by decide) fX2_put_43 rfl ?_
  exact g_iret Z dX2_put_79 rfl ⟨Nat.zero_le _, Nat.zero_le _⟩ ⟨rfl, rfl⟩


set_option maxHeartbeats 4000000 in
set_option maxRecDepth 100000 in
theorem qX2_takeN (E : zE) (x rw ln t1 t2 : Nat) (nb dn : Nat) (RF : Nat → Option Nat) (D : Nat → Int32) (A B : TB) (o k f s : Nat) (K F G : Nat → Int32) (z : Nat) (j : Nat) (i : Int32) (hnb : nb ≤ 4) (hj : j < nb) (hr : RF j = some o) (hz : z ≤ 8) (hv : ¬ inB z i) : zF E yX2_take wsX2_take rX2_take [.ref x, .int (nI j), .int i] [cO x 2 [.ref rw, .int (nI nb), .ref ln, .int (nI dn), .ref t1, .ref t2], cQ E rw 4 RF, cI E ln 12 D, cO t1 1 [.long (ta A), .long (tb A), .long (tc A), .long (td A), .long (te A), .long (tf A), .long (tg A)], cO t2 1 [.long (ta B), .long (tb B), .long (tc B), .long (td B), .long (te B), .long (tf B), .long (tg B)], cO o 0 [.ref k, .ref f, .ref s, .int (nI z)], cI E k 8 K, cI E f 8 F, cI E s 8 G] (zx (some (.int (-1))) ([cO x 2 [.ref rw, .int (nI nb), .ref ln, .int (nI dn), .ref t1, .ref t2], cQ E rw 4 RF, cI E ln 12 D, cO t1 1 [.long (ta A), .long (tb A), .long (tc A), .long (td A), .long (te A), .long (tf A), .long (tg A)], cO t2 1 [.long (ta B), .long (tb B), .long (tc B), .long (td B), .long (te B), .long (tf B), .long (tg B)], cO o 0 [.ref k, .ref f, .ref s, .int (nI z)], cI E k 8 K, cI E f 8 F, cI E s 8 G])) := by
  refine z_start RX2 "take" (by decide) rfl rfl rfl (Nat.le_of_ble_eq_true rfl) ?_
  intro J Z
  refine g_eq Z (lv2 := [(0, .ref x), (1, .int (nI j)), (2, .int i)]) rfl rfl rfl ?_
  refine g_aload_n Z dX2_take_0 0 rfl rfl ?_
  refine g_iload_n Z dX2_take_1 1 rfl rfl ?_
  refine g_callVx (w' := [cO x 2 [.ref rw, .int (nI nb), .ref ln, .int (nI dn), .ref t1, .ref t2], cQ E rw 4 RF, cI E ln 12 D, cO t1 1 [.long (ta A), .long (tb A), .long (tc A), .long (td A), .long (te A), .long (tf A), .long (tg A)], cO t2 1 [.long (ta B), .long (tb B), .long (tc B), .long (td B), .long (te B), .long (tf B), .long (tg B)], cO o 0 [.ref k, .ref f, .ref s, .int (nI z)], cI E k 8 K, cI E f 8 F, cI E s 8 G]) Z (qX2_rowAt E x rw ln t1 t2 nb dn RF j o hj hnb hr) iX2_rowAt gX2_take_X2_rowAt ⟨rfl, rfl⟩ ⟨Nat.le_of_ble_eq_true rfl, Nat.le_of_ble_eq_true rfl⟩ dX2_take_2 rfl rfl (Nat.le_of_ble_eq_true rfl) ⟨Nat.zero_le _, Nat.zero_le _⟩ [0, 1] rfl rfl 0 rfl rfl rfl rfl rfl ?_
  refine g_astore_n (lv' := [(3, .ref o), (0, .ref x), (1, .int (nI j)), (2, .int i)]) Z dX2_take_5 rfl (by decide) rfl ?_
  refine g_aload_n Z dX2_take_6 0 rfl rfl ?_
  refine g_ifnull Z dX2_take_7 ?_
  refine g_aload_n Z dX2_take_10 0 rfl rfl ?_
  refine g_iload_n Z dX2_take_11 3 rfl rfl ?_
  refine g_callVx (w' := [cO x 2 [.ref rw, .int (nI nb), .ref ln, .int (nI dn), .ref t1, .ref t2], cQ E rw 4 RF, cI E ln 12 D, cO t1 1 [.long (ta A), .long (tb A), .long (tc A), .long (td A), .long (te A), .long (tf A), .long (tg A)], cO t2 1 [.long (ta B), .long (tb B), .long (tc B), .long (td B), .long (te B), .long (tf B), .long (tg B)], cO o 0 [.ref k, .ref f, .ref s, .int (nI z)], cI E k 8 K, cI E f 8 F, cI E s 8 G]) Z (qX0_has E o k f s (nI z) i) iX0_has gX2_take_X0_has ⟨rfl, rfl⟩ ⟨Nat.le_of_ble_eq_true rfl, Nat.le_of_ble_eq_true rfl⟩ dX2_take_12 rfl rfl (Nat.le_of_ble_eq_true rfl) ⟨Nat.zero_le _, Nat.zero_le _⟩ [5] rfl rfl 0 rfl rfl rfl rfl rfl ?_
  refine g_ifb_ne (tgt := 20) Z dX2_take_15 (by decide) (fun c_15 => absurd c_15 (fun q => hv ((inB_X (by omega)).mp q))) (fun c_15 => ?_)
  refine g_iconst Z dX2_take_18 zi_m1 ?_
  exact g_iret Z dX2_take_19 rfl ⟨Nat.zero_le _, Nat.zero_le _⟩ ⟨rfl, rfl⟩

theorem nX2_take_X0 : ∀ w ∈ wsX00, w ∈ wsX2_take := by decide +kernel
theorem fX2_take_61 : Cond.fieldLink RX2 61 (TX0 0).1 (TX0 0).2.1 (TX0 0).2.2.1 ∈ wsX2_take := by decide +kernel
set_option maxHeartbeats 4000000 in
set_option maxRecDepth 100000 in
theorem qX2_take (E : zE) (x rw ln t1 t2 : Nat) (nb dn : Nat) (RF : Nat → Option Nat) (D : Nat → Int32) (A B : TB) (o k f s : Nat) (K F G : Nat → Int32) (z : Nat) (j : Nat) (p : Nat) (m : Nat) (hnb : nb ≤ 4) (hj : j < nb) (hr : RF j = some o) (hz : z ≤ 8) (hp : p < z) (hm : z = m + 1) : zF E yX2_take wsX2_take rX2_take [.ref x, .int (nI j), .int (nI p)] [cO x 2 [.ref rw, .int (nI nb), .ref ln, .int (nI dn), .ref t1, .ref t2], cQ E rw 4 RF, cI E ln 12 D, cO t1 1 [.long (ta A), .long (tb A), .long (tc A), .long (td A), .long (te A), .long (tf A), .long (tg A)], cO t2 1 [.long (ta B), .long (tb B), .long (tc B), .long (td B), .long (te B), .long (tf B), .long (tg B)], cO o 0 [.ref k, .ref f, .ref s, .int (nI z)], cI E k 8 K, cI E f 8 F, cI E s 8 G] (zx (some (.int (K p))) ([cO x 2 [.ref rw, .int (nI nb), .ref ln, .int (nI dn), .ref t1, .ref t2], cQ E rw 4 RF, cI E ln 12 D, cO t1 1 [.long (ta A), .long (tb A), .long (tc A), .long (td A), .long (te A), .long (tf A), .long (tg A)], cO t2 1 [.long (ta B), .long (tb B), .long (tc B), .long (td B), .long (te B), .long (tf B), .long (tg B)], cO o 0 [.ref k, .ref f, .ref s, .int (nI m)], cI E k 8 (shDn K p (m - p)), cI E f 8 (shDn F p (m - p)), cI E s 8 (shDn G p (m - p))])) := by
  refine z_start RX2 "take" (by decide) rfl rfl rfl (Nat.le_of_ble_eq_true rfl) ?_
  intro J Z
  refine g_eq Z (lv2 := [(0, .ref x), (1, .int (nI j)), (2, .int (nI p))]) rfl rfl rfl ?_
  refine g_aload_n Z dX2_take_0 0 rfl rfl ?_
  refine g_iload_n Z dX2_take_1 1 rfl rfl ?_
  refine g_callVx (w' := [cO x 2 [.ref rw, .int (nI nb), .ref ln, .int (nI dn), .ref t1, .ref t2], cQ E rw 4 RF, cI E ln 12 D, cO t1 1 [.long (ta A), .long (tb A), .long (tc A), .long (td A), .long (te A), .long (tf A), .long (tg A)], cO t2 1 [.long (ta B), .long (tb B), .long (tc B), .long (td B), .long (te B), .long (tf B), .long (tg B)], cO o 0 [.ref k, .ref f, .ref s, .int (nI z)], cI E k 8 K, cI E f 8 F, cI E s 8 G]) Z (qX2_rowAt E x rw ln t1 t2 nb dn RF j o hj hnb hr) iX2_rowAt gX2_take_X2_rowAt ⟨rfl, rfl⟩ ⟨Nat.le_of_ble_eq_true rfl, Nat.le_of_ble_eq_true rfl⟩ dX2_take_2 rfl rfl (Nat.le_of_ble_eq_true rfl) ⟨Nat.zero_le _, Nat.zero_le _⟩ [0, 1] rfl rfl 0 rfl rfl rfl rfl rfl ?_
  refine g_astore_n (lv' := [(3, .ref o), (0, .ref x), (1, .int (nI j)), (2, .int (nI p))]) Z dX2_take_5 rfl (by decide) rfl ?_
  refine g_aload_n Z dX2_take_6 0 rfl rfl ?_
  refine g_ifnull Z dX2_take_7 ?_
  refine g_aload_n Z dX2_take_10 0 rfl rfl ?_
  refine g_iload_n Z dX2_take_11 3 rfl rfl ?_
  refine g_callVx (w' := [cO x 2 [.ref rw, .int (nI nb), .ref ln, .int (nI dn), .ref t1, .ref t2], cQ E rw 4 RF, cI E ln 12 D, cO t1 1 [.long (ta A), .long (tb A), .long (tc A), .long (td A), .long (te A), .long (tf A), .long (tg A)], cO t2 1 [.long (ta B), .long (tb B), .long (tc B), .long (td B), .long (te B), .long (tf B), .long (tg B)], cO o 0 [.ref k, .ref f, .ref s, .int (nI z)], cI E k 8 K, cI E f 8 F, cI E s 8 G]) Z (qX0_hasN E o k f s z p (by omega) (by omega)) iX0_has gX2_take_X0_has ⟨rfl, rfl⟩ ⟨Nat.le_of_ble_eq_true rfl, Nat.le_of_ble_eq_true rfl⟩ dX2_take_12 rfl rfl (Nat.le_of_ble_eq_true rfl) ⟨Nat.zero_le _, Nat.zero_le _⟩ [5] rfl rfl 0 rfl rfl rfl rfl rfl ?_
  refine g_ifb_ne (tgt := 20) Z dX2_take_15 (by decide) (fun c_15 => ?_) (fun c_15 => absurd c_15 (fun q => q hp))
  refine g_aload_n Z dX2_take_20 0 rfl rfl ?_
  refine g_get Z dX2_take_21 5 rfl rfl nX2_take_X0 0 (by decide) fX2_take_61 rfl ?_
  refine g_iload_n Z dX2_take_24 3 rfl rfl ?_
  refine g_iald Z dX2_take_25 6 rfl p rfl (by omega) rfl ?_
  refine g_istore (lv' := [(4, .int (K p)), (3, .ref o), (0, .ref x), (1, .int (nI j)), (2, .int (nI p))]) Z dX2_take_26 (by decide) rfl ?_
  refine g_aload_n Z dX2_take_28 1 rfl rfl ?_
  refine g_iload_n Z dX2_take_29 4 rfl rfl ?_
  refine g_callVx (w' := [cO x 2 [.ref rw, .int (nI nb), .ref ln, .int (nI dn), .ref t1, .ref t2], cQ E rw 4 RF, cI E ln 12 D, cO t1 1 [.long (ta A), .long (tb A), .long (tc A), .long (td A), .long (te A), .long (tf A), .long (tg A)], cO t2 1 [.long (ta B), .long (tb B), .long (tc B), .long (td B), .long (te B), .long (tf B), .long (tg B)], cO o 0 [.ref k, .ref f, .ref s, .int (nI m)], cI E k 8 (shDn K p (m - p)), cI E f 8 (shDn F p (m - p)), cI E s 8 (shDn G p (m - p))]) Z (qX0_remove E o k f s K F G z m p hm (by omega) (by omega)) iX0_remove gX2_take_X0_remove ⟨rfl, rfl⟩ ⟨Nat.le_of_ble_eq_true rfl, Nat.le_of_ble_eq_true rfl⟩ dX2_take_30 rfl rfl (Nat.le_of_ble_eq_true rfl) ⟨Nat.zero_le _, Nat.zero_le _⟩ [5, 6, 7, 8] rfl rfl 0 rfl rfl rfl rfl rfl ?_
  refine g_iload Z dX2_take_33 0 rfl ?_
  exact g_iret Z dX2_take_35 rfl ⟨Nat.zero_le _, Nat.zero_le _⟩ ⟨rfl, rfl⟩


set_option maxHeartbeats 4000000 in
set_option maxRecDepth 100000 in
theorem qX2_setN (E : zE) (x rw ln t1 t2 : Nat) (nb dn : Nat) (RF : Nat → Option Nat) (D : Nat → Int32) (A B : TB) (o k f s : Nat) (K F G : Nat → Int32) (z : Nat) (j : Nat) (i a c : Int32) (hnb : nb ≤ 4) (hj : j < nb) (hr : RF j = some o) (hz : z ≤ 8) (hv : ¬ inB z i) : zF E yX2_set wsX2_set rX2_set [.ref x, .int (nI j), .int i, .int a, .int c] [cO x 2 [.ref rw, .int (nI nb), .ref ln, .int (nI dn), .ref t1, .ref t2], cQ E rw 4 RF, cI E ln 12 D, cO t1 1 [.long (ta A), .long (tb A), .long (tc A), .long (td A), .long (te A), .long (tf A), .long (tg A)], cO t2 1 [.long (ta B), .long (tb B), .long (tc B), .long (td B), .long (te B), .long (tf B), .long (tg B)], cO o 0 [.ref k, .ref f, .ref s, .int (nI z)], cI E k 8 K, cI E f 8 F, cI E s 8 G] (zx (some (.int (-1))) ([cO x 2 [.ref rw, .int (nI nb), .ref ln, .int (nI dn), .ref t1, .ref t2], cQ E rw 4 RF, cI E ln 12 D, cO t1 1 [.long (ta A), .long (tb A), .long (tc A), .long (td A), .long (te A), .long (tf A), .long (tg A)], cO t2 1 [.long (ta B), .long (tb B), .long (tc B), .long (td B), .long (te B), .long (tf B), .long (tg B)], cO o 0 [.ref k, .ref f, .ref s, .int (nI z)], cI E k 8 K, cI E f 8 F, cI E s 8 G])) := by
  refine z_start RX2 "set" (by decide) rfl rfl rfl (Nat.le_of_ble_eq_true rfl) ?_
  intro J Z
  refine g_eq Z (lv2 := [(0, .ref x), (1, .int (nI j)), (2, .int i), (3, .int a), (4, .int c)]) rfl rfl rfl ?_
  refine g_aload_n Z dX2_set_0 0 rfl rfl ?_
  refine g_iload_n Z dX2_set_1 1 rfl rfl ?_
  refine g_callVx (w' := [cO x 2 [.ref rw, .int (nI nb), .ref ln, .int (nI dn), .ref t1, .ref t2], cQ E rw 4 RF, cI E ln 12 D, cO t1 1 [.long (ta A), .long (tb A), .long (tc A), .long (td A), .long (te A), .long (tf A), .long (tg A)], cO t2 1 [.long (ta B), .long (tb B), .long (tc B), .long (td B), .long (te B), .long (tf B), .long (tg B)], cO o 0 [.ref k, .ref f, .ref s, .int (nI z)], cI E k 8 K, cI E f 8 F, cI E s 8 G]) Z (qX2_rowAt E x rw ln t1 t2 nb dn RF j o hj hnb hr) iX2_rowAt gX2_set_X2_rowAt ⟨rfl, rfl⟩ ⟨Nat.le_of_ble_eq_true rfl, Nat.le_of_ble_eq_true rfl⟩ dX2_set_2 rfl rfl (Nat.le_of_ble_eq_true rfl) ⟨Nat.zero_le _, Nat.zero_le _⟩ [0, 1] rfl rfl 0 rfl rfl rfl rfl rfl ?_
  refine g_astore (lv' := [(5, .ref o), (0, .ref x), (1, .int (nI j)), (2, .int i), (3, .int a), (4, .int c)]) Z dX2_set_5 (by decide) rfl ?_
  refine g_aload Z dX2_set_7 0 rfl ?_
  refine g_ifnull Z dX2_set_9 ?_
  refine g_aload Z dX2_set_12 0 rfl ?_
  refine g_iload_n Z dX2_set_14 3 rfl rfl ?_
  refine g_callVx (w' := [cO x 2 [.ref rw, .int (nI nb), .ref ln, .int (nI dn), .ref t1, .ref t2], cQ E rw 4 RF, cI E ln 12 D, cO t1 1 [.long (ta A), .long (tb A), .long (tc A), .long (td A), .long (te A), .long (tf A), .long (tg A)], cO t2 1 [.long (ta B), .long (tb B), .long (tc B), .long (td B), .long (te B), .long (tf B), .long (tg B)], cO o 0 [.ref k, .ref f, .ref s, .int (nI z)], cI E k 8 K, cI E f 8 F, cI E s 8 G]) Z (qX0_has E o k f s (nI z) i) iX0_has gX2_set_X0_has ⟨rfl, rfl⟩ ⟨Nat.le_of_ble_eq_true rfl, Nat.le_of_ble_eq_true rfl⟩ dX2_set_15 rfl rfl (Nat.le_of_ble_eq_true rfl) ⟨Nat.zero_le _, Nat.zero_le _⟩ [5] rfl rfl 0 rfl rfl rfl rfl rfl ?_
  refine g_ifb_ne (tgt := 23) Z dX2_set_18 (by decide) (fun c_18 => absurd c_18 (fun q => hv ((inB_X (by omega)).mp q))) (fun c_18 => ?_)
  refine g_iconst Z dX2_set_21 zi_m1 ?_
  exact g_iret Z dX2_set_22 rfl ⟨Nat.zero_le _, Nat.zero_le _⟩ ⟨rfl, rfl⟩

theorem nX2_set_X0 : ∀ w ∈ wsX00, w ∈ wsX2_set := by decide +kernel
theorem fX2_set_61 : Cond.fieldLink RX2 61 (TX0 0).1 (TX0 0).2.1 (TX0 0).2.2.1 ∈ wsX2_set := by decide +kernel
set_option maxHeartbeats 4000000 in
set_option maxRecDepth 100000 in
theorem qX2_setB (E : zE) (x rw ln t1 t2 : Nat) (nb dn : Nat) (RF : Nat → Option Nat) (D : Nat → Int32) (A B : TB) (o k f s : Nat) (K F G : Nat → Int32) (z : Nat) (j : Nat) (p : Nat) (a c : Int32) (hnb : nb ≤ 4) (hj : j < nb) (hr : RF j = some o) (hz : z ≤ 8) (hp : p < z) (hg : ¬ gdP (K p) a c) : zF E yX2_set wsX2_set rX2_set [.ref x, .int (nI j), .int (nI p), .int a, .int c] [cO x 2 [.ref rw, .int (nI nb), .ref ln, .int (nI dn), .ref t1, .ref t2], cQ E rw 4 RF, cI E ln 12 D, cO t1 1 [.long (ta A), .long (tb A), .long (tc A), .long (td A), .long (te A), .long (tf A), .long (tg A)], cO t2 1 [.long (ta B), .long (tb B), .long (tc B), .long (td B), .long (te B), .long (tf B), .long (tg B)], cO o 0 [.ref k, .ref f, .ref s, .int (nI z)], cI E k 8 K, cI E f 8 F, cI E s 8 G] (zx (some (.int (-2))) ([cO x 2 [.ref rw, .int (nI nb), .ref ln, .int (nI dn), .ref t1, .ref t2], cQ E rw 4 RF, cI E ln 12 D, cO t1 1 [.long (ta A), .long (tb A), .long (tc A), .long (td A), .long (te A), .long (tf A), .long (tg A)], cO t2 1 [.long (ta B), .long (tb B), .long (tc B), .long (td B), .long (te B), .long (tf B), .long (tg B)], cO o 0 [.ref k, .ref f, .ref s, .int (nI z)], cI E k 8 K, cI E f 8 F, cI E s 8 G])) := by
  refine z_start RX2 "set" (by decide) rfl rfl rfl (Nat.le_of_ble_eq_true rfl) ?_
  intro J Z
  refine g_eq Z (lv2 := [(0, .ref x), (1, .int (nI j)), (2, .int (nI p)), (3, .int a), (4, .int c)]) rfl rfl rfl ?_
  refine g_aload_n Z dX2_set_0 0 rfl rfl ?_
  refine g_iload_n Z dX2_set_1 1 rfl rfl ?_
  refine g_callVx (w' := [cO x 2 [.ref rw, .int (nI nb), .ref ln, .int (nI dn), .ref t1, .ref t2], cQ E rw 4 RF, cI E ln 12 D, cO t1 1 [.long (ta A), .long (tb A), .long (tc A), .long (td A), .long (te A), .long (tf A), .long (tg A)], cO t2 1 [.long (ta B), .long (tb B), .long (tc B), .long (td B), .long (te B), .long (tf B), .long (tg B)], cO o 0 [.ref k, .ref f, .ref s, .int (nI z)], cI E k 8 K, cI E f 8 F, cI E s 8 G]) Z (qX2_rowAt E x rw ln t1 t2 nb dn RF j o hj hnb hr) iX2_rowAt gX2_set_X2_rowAt ⟨rfl, rfl⟩ ⟨Nat.le_of_ble_eq_true rfl, Nat.le_of_ble_eq_true rfl⟩ dX2_set_2 rfl rfl (Nat.le_of_ble_eq_true rfl) ⟨Nat.zero_le _, Nat.zero_le _⟩ [0, 1] rfl rfl 0 rfl rfl rfl rfl rfl ?_
  refine g_astore (lv' := [(5, .ref o), (0, .ref x), (1, .int (nI j)), (2, .int (nI p)), (3, .int a), (4, .int c)]) Z dX2_set_5 (by decide) rfl ?_
  refine g_aload Z dX2_set_7 0 rfl ?_
  refine g_ifnull Z dX2_set_9 ?_
  refine g_aload Z dX2_set_12 0 rfl ?_
  refine g_iload_n Z dX2_set_14 3 rfl rfl ?_
  refine g_callVx (w' := [cO x 2 [.ref rw, .int (nI nb), .ref ln, .int (nI dn), .ref t1, .ref t2], cQ E rw 4 RF, cI E ln 12 D, cO t1 1 [.long (ta A), .long (tb A), .long (tc A), .long (td A), .long (te A), .long (tf A), .long (tg A)], cO t2 1 [.long (ta B), .long (tb B), .long (tc B), .long (td B), .long (te B), .long (tf B), .long (tg B)], cO o 0 [.ref k, .ref f, .ref s, .int (nI z)], cI E k 8 K, cI E f 8 F, cI E s 8 G]) Z (qX0_hasN E o k f s z p (by omega) (by omega)) iX0_has gX2_set_X0_has ⟨rfl, rfl⟩ ⟨Nat.le_of_ble_eq_true rfl, Nat.le_of_ble_eq_true rfl⟩ dX2_set_15 rfl rfl (Nat.le_of_ble_eq_true rfl) ⟨Nat.zero_le _, Nat.zero_le _⟩ [5] rfl rfl 0 rfl rfl rfl rfl rfl ?_
  refine g_ifb_ne (tgt := 23) Z dX2_set_18 (by decide) (fun c_18 => ?_) (fun c_18 => absurd c_18 (fun q => q hp))
  refine g_aload Z dX2_set_23 0 rfl ?_
  refine g_get Z dX2_set_25 5 rfl rfl nX2_set_X0 0 (by decide) fX2_set_61 rfl ?_
  refine g_iload_n Z dX2_set_28 3 rfl rfl ?_
  refine g_iald Z dX2_set_29 6 rfl p rfl (by omega) rfl ?_
  refine g_iload_n Z dX2_set_30 4 rfl rfl ?_
  refine g_iload Z dX2_set_31 5 rfl ?_
  refine g_callSx (w' := [cO x 2 [.ref rw, .int (nI nb), .ref ln, .int (nI dn), .ref t1, .ref t2], cQ E rw 4 RF, cI E ln 12 D, cO t1 1 [.long (ta A), .long (tb A), .long (tc A), .long (td A), .long (te A), .long (tf A), .long (tg A)], cO t2 1 [.long (ta B), .long (tb B), .long (tc B), .long (td B), .long (te B), .long (tf B), .long (tg B)], cO o 0 [.ref k, .ref f, .ref s, .int (nI z)], cI E k 8 K, cI E f 8 F, cI E s 8 G]) Z (qX2_isPart E (K p) a c) iX2_isPart gX2_set_X2_isPart ⟨rfl, rfl⟩ ⟨Nat.le_of_ble_eq_true rfl, Nat.le_of_ble_eq_true rfl⟩ dX2_set_33 rfl rfl (Nat.le_of_ble_eq_true rfl) ⟨Nat.zero_le _, Nat.zero_le _⟩ [] rfl rfl rfl rfl ?_
  refine g_ifb_ne (tgt := 42) Z dX2_set_36 (by decide) (fun c_36 => absurd c_36 hg) (fun c_36 => ?_)
  refine g_bipush Z dX2_set_39 zb_m2 ?_
  exact g_iret Z dX2_set_41 rfl ⟨Nat.zero_le _, Nat.zero_le _⟩ ⟨rfl, rfl⟩

theorem fX2_set_68 : Cond.fieldLink RX2 68 (TX0 1).1 (TX0 1).2.1 (TX0 1).2.2.1 ∈ wsX2_set := by decide +kernel
theorem fX2_set_71 : Cond.fieldLink RX2 71 (TX0 2).1 (TX0 2).2.1 (TX0 2).2.2.1 ∈ wsX2_set := by decide +kernel
set_option maxHeartbeats 4000000 in
set_option maxRecDepth 100000 in
theorem qX2_set (E : zE) (x rw ln t1 t2 : Nat) (nb dn : Nat) (RF : Nat → Option Nat) (D : Nat → Int32) (A B : TB) (o k f s : Nat) (K F G : Nat → Int32) (z : Nat) (j : Nat) (p : Nat) (a c : Int32) (hnb : nb ≤ 4) (hj : j < nb) (hr : RF j = some o) (hz : z ≤ 8) (hp : p < z) (hg : gdP (K p) a c) : zF E yX2_set wsX2_set rX2_set [.ref x, .int (nI j), .int (nI p), .int a, .int c] [cO x 2 [.ref rw, .int (nI nb), .ref ln, .int (nI dn), .ref t1, .ref t2], cQ E rw 4 RF, cI E ln 12 D, cO t1 1 [.long (ta A), .long (tb A), .long (tc A), .long (td A), .long (te A), .long (tf A), .long (tg A)], cO t2 1 [.long (ta B), .long (tb B), .long (tc B), .long (td B), .long (te B), .long (tf B), .long (tg B)], cO o 0 [.ref k, .ref f, .ref s, .int (nI z)], cI E k 8 K, cI E f 8 F, cI E s 8 G] (zx (some (.int 0)) ([cO x 2 [.ref rw, .int (nI nb), .ref ln, .int (nI dn), .ref t1, .ref t2], cQ E rw 4 RF, cI E ln 12 D, cO t1 1 [.long (ta A), .long (tb A), .long (tc A), .long (td A), .long (te A), .long (tf A), .long (tg A)], cO t2 1 [.long (ta B), .long (tb B), .long (tc B), .long (td B), .long (te B), .long (tf B), .long (tg B)], cO o 0 [.ref k, .ref f, .ref s, .int (nI z)], cI E k 8 K, cI E f 8 (upd F p a), cI E s 8 (upd G p c)])) := by
  refine z_start RX2 "set" (by decide) rfl rfl rfl (Nat.le_of_ble_eq_true rfl) ?_
  intro J Z
  refine g_eq Z (lv2 := [(0, .ref x), (1, .int (nI j)), (2, .int (nI p)), (3, .int a), (4, .int c)]) rfl rfl rfl ?_
  refine g_aload_n Z dX2_set_0 0 rfl rfl ?_
  refine g_iload_n Z dX2_set_1 1 rfl rfl ?_
  refine g_callVx (w' := [cO x 2 [.ref rw, .int (nI nb), .ref ln, .int (nI dn), .ref t1, .ref t2], cQ E rw 4 RF, cI E ln 12 D, cO t1 1 [.long (ta A), .long (tb A), .long (tc A), .long (td A), .long (te A), .long (tf A), .long (tg A)], cO t2 1 [.long (ta B), .long (tb B), .long (tc B), .long (td B), .long (te B), .long (tf B), .long (tg B)], cO o 0 [.ref k, .ref f, .ref s, .int (nI z)], cI E k 8 K, cI E f 8 F, cI E s 8 G]) Z (qX2_rowAt E x rw ln t1 t2 nb dn RF j o hj hnb hr) iX2_rowAt gX2_set_X2_rowAt ⟨rfl, rfl⟩ ⟨Nat.le_of_ble_eq_true rfl, Nat.le_of_ble_eq_true rfl⟩ dX2_set_2 rfl rfl (Nat.le_of_ble_eq_true rfl) ⟨Nat.zero_le _, Nat.zero_le _⟩ [0, 1] rfl rfl 0 rfl rfl rfl rfl rfl ?_
  refine g_astore (lv' := [(5, .ref o), (0, .ref x), (1, .int (nI j)), (2, .int (nI p)), (3, .int a), (4, .int c)]) Z dX2_set_5 (by decide) rfl ?_
  refine g_aload Z dX2_set_7 0 rfl ?_
  refine g_ifnull Z dX2_set_9 ?_
  refine g_aload Z dX2_set_12 0 rfl ?_
  refine g_iload_n Z dX2_set_14 3 rfl rfl ?_
  refine g_callVx (w' := [cO x 2 [.ref rw, .int (nI nb), .ref ln, .int (nI dn), .ref t1, .ref t2], cQ E rw 4 RF, cI E ln 12 D, cO t1 1 [.long (ta A), .long (tb A), .long (tc A), .long (td A), .long (te A), .long (tf A), .long (tg A)], cO t2 1 [.long (ta B), .long (tb B), .long (tc B), .long (td B), .long (te B), .long (tf B), .long (tg B)], cO o 0 [.ref k, .ref f, .ref s, .int (nI z)], cI E k 8 K, cI E f 8 F, cI E s 8 G]) Z (qX0_hasN E o k f s z p (by omega) (by omega)) iX0_has gX2_set_X0_has ⟨rfl, rfl⟩ ⟨Nat.le_of_ble_eq_true rfl, Nat.le_of_ble_eq_true rfl⟩ dX2_set_15 rfl rfl (Nat.le_of_ble_eq_true rfl) ⟨Nat.zero_le _, Nat.zero_le _⟩ [5] rfl rfl 0 rfl rfl rfl rfl rfl ?_
  refine g_ifb_ne (tgt := 23) Z dX2_set_18 (by decide) (fun c_18 => ?_) (fun c_18 => absurd c_18 (fun q => q hp))
  refine g_aload Z dX2_set_23 0 rfl ?_
  refine g_get Z dX2_set_25 5 rfl rfl nX2_set_X0 0 (by decide) fX2_set_61 rfl ?_
  refine g_iload_n Z dX2_set_28 3 rfl rfl ?_
  refine g_iald Z dX2_set_29 6 rfl p rfl (by omega) rfl ?_
  refine g_iload_n Z dX2_set_30 4 rfl rfl ?_
  refine g_iload Z dX2_set_31 5 rfl ?_
  refine g_callSx (w' := [cO x 2 [.ref rw, .int (nI nb), .ref ln, .int (nI dn), .ref t1, .ref t2], cQ E rw 4 RF, cI E ln 12 D, cO t1 1 [.long (ta A), .long (tb A), .long (tc A), .long (td A), .long (te A), .long (tf A), .long (tg A)], cO t2 1 [.long (ta B), .long (tb B), .long (tc B), .long (td B), .long (te B), .long (tf B), .long (tg B)], cO o 0 [.ref k, .ref f, .ref s, .int (nI z)], cI E k 8 K, cI E f 8 F, cI E s 8 G]) Z (qX2_isPart E (K p) a c) iX2_isPart gX2_set_X2_isPart ⟨rfl, rfl⟩ ⟨Nat.le_of_ble_eq_true rfl, Nat.le_of_ble_eq_true rfl⟩ dX2_set_33 rfl rfl (Nat.le_of_ble_eq_true rfl) ⟨Nat.zero_le _, Nat.zero_le _⟩ [] rfl rfl rfl rfl ?_
  refine g_ifb_ne (tgt := 42) Z dX2_set_36 (by decide) (fun c_36 => ?_) (fun c_36 => absurd c_36 (fun q => q hg))
  refine g_aload Z dX2_set_42 0 rfl ?_
  refine g_get Z dX2_set_44 5 rfl rfl nX2_set_X0 1 (by decide) fX2_set_68 rfl ?_
  refine g_iload_n Z dX2_set_47 3 rfl rfl ?_
  refine g_iload_n Z dX2_set_48 4 rfl rfl ?_
  refine g_iast (w' := [cO x 2 [.ref rw, .int (nI nb), .ref ln, .int (nI dn), .ref t1, .ref t2], cQ E rw 4 RF, cI E ln 12 D, cO t1 1 [.long (ta A), .long (tb A), .long (tc A), .long (td A), .long (te A), .long (tf A), .long (tg A)], cO t2 1 [.long (ta B), .long (tb B), .long (tc B), .long (td B), .long (te B), .long (tf B), .long (tg B)], cO o 0 [.ref k, .ref f, .ref s, .int (nI z)], cI E k 8 K, cI E f 8 (upd F p a), cI E s 8 G]) Z dX2_set_49 7 rfl p rfl (by omega) rfl rfl ?_
  refine g_aload Z dX2_set_50 0 rfl ?_
  refine g_get Z dX2_set_52 5 rfl rfl nX2_set_X0 2 (by decide) fX2_set_71 rfl ?_
  refine g_iload_n Z dX2_set_55 3 rfl rfl ?_
  refine g_iload Z dX2_set_56 5 rfl ?_
  refine g_iast (w' := [cO x 2 [.ref rw, .int (nI nb), .ref ln, .int (nI dn), .ref t1, .ref t2], cQ E rw 4 RF, cI E ln 12 D, cO t1 1 [.long (ta A), .long (tb A), .long (tc A), .long (td A), .long (te A), .long (tf A), .long (tg A)], cO t2 1 [.long (ta B), .long (tb B), .long (tc B), .long (td B), .long (te B), .long (tf B), .long (tg B)], cO o 0 [.ref k, .ref f, .ref s, .int (nI z)], cI E k 8 K, cI E f 8 (upd F p a), cI E s 8 (upd G p c)]) Z dX2_set_58 8 rfl p rfl (by omega) rfl rfl ?_
  refine g_iconst Z dX2_set_59 zi_0 ?_
  exact g_iret Z dX2_set_60 rfl ⟨Nat.zero_le _, Nat.zero_le _⟩ ⟨rfl, rfl⟩


set_option maxHeartbeats 4000000 in
set_option maxRecDepth 100000 in
theorem qX2_partN (E : zE) (x rw ln t1 t2 : Nat) (nb dn : Nat) (RF : Nat → Option Nat) (D : Nat → Int32) (A B : TB) (o k f s : Nat) (K F G : Nat → Int32) (z : Nat) (j : Nat) (i v : Int32) (hnb : nb ≤ 4) (hj : j < nb) (hr : RF j = some o) (hz : z ≤ 8) (hv : ¬ (inB z i ∧ (v = 0 ∨ v = 1 ∨ v = 2))) : zF E yX2_part wsX2_part rX2_part [.ref x, .int (nI j), .int i, .int v] [cO x 2 [.ref rw, .int (nI nb), .ref ln, .int (nI dn), .ref t1, .ref t2], cQ E rw 4 RF, cI E ln 12 D, cO t1 1 [.long (ta A), .long (tb A), .long (tc A), .long (td A), .long (te A), .long (tf A), .long (tg A)], cO t2 1 [.long (ta B), .long (tb B), .long (tc B), .long (td B), .long (te B), .long (tf B), .long (tg B)], cO o 0 [.ref k, .ref f, .ref s, .int (nI z)], cI E k 8 K, cI E f 8 F, cI E s 8 G] (zx (some (.int (-100))) ([cO x 2 [.ref rw, .int (nI nb), .ref ln, .int (nI dn), .ref t1, .ref t2], cQ E rw 4 RF, cI E ln 12 D, cO t1 1 [.long (ta A), .long (tb A), .long (tc A), .long (td A), .long (te A), .long (tf A), .long (tg A)], cO t2 1 [.long (ta B), .long (tb B), .long (tc B), .long (td B), .long (te B), .long (tf B), .long (tg B)], cO o 0 [.ref k, .ref f, .ref s, .int (nI z)], cI E k 8 K, cI E f 8 F, cI E s 8 G])) := by
  refine z_start RX2 "part" (by decide) rfl rfl rfl (Nat.le_of_ble_eq_true rfl) ?_
  intro J Z
  refine g_eq Z (lv2 := [(0, .ref x), (1, .int (nI j)), (2, .int i), (3, .int v)]) rfl rfl rfl ?_
  refine g_aload_n Z dX2_part_0 0 rfl rfl ?_
  refine g_iload_n Z dX2_part_1 1 rfl rfl ?_
  refine g_callVx (w' := [cO x 2 [.ref rw, .int (nI nb), .ref ln, .int (nI dn), .ref t1, .ref t2], cQ E rw 4 RF, cI E ln 12 D, cO t1 1 [.long (ta A), .long (tb A), .long (tc A), .long (td A), .long (te A), .long (tf A), .long (tg A)], cO t2 1 [.long (ta B), .long (tb B), .long (tc B), .long (td B), .long (te B), .long (tf B), .long (tg B)], cO o 0 [.ref k, .ref f, .ref s, .int (nI z)], cI E k 8 K, cI E f 8 F, cI E s 8 G]) Z (qX2_rowAt E x rw ln t1 t2 nb dn RF j o hj hnb hr) iX2_rowAt gX2_part_X2_rowAt ⟨rfl, rfl⟩ ⟨Nat.le_of_ble_eq_true rfl, Nat.le_of_ble_eq_true rfl⟩ dX2_part_2 rfl rfl (Nat.le_of_ble_eq_true rfl) ⟨Nat.zero_le _, Nat.zero_le _⟩ [0, 1] rfl rfl 0 rfl rfl rfl rfl rfl ?_
  refine g_astore (lv' := [(4, .ref o), (0, .ref x), (1, .int (nI j)), (2, .int i), (3, .int v)]) Z dX2_part_5 (by decide) rfl ?_
  refine g_aload Z dX2_part_7 0 rfl ?_
  refine g_ifnull Z dX2_part_9 ?_
  refine g_aload Z dX2_part_12 0 rfl ?_
  refine g_iload_n Z dX2_part_14 3 rfl rfl ?_
  refine g_callVx (w' := [cO x 2 [.ref rw, .int (nI nb), .ref ln, .int (nI dn), .ref t1, .ref t2], cQ E rw 4 RF, cI E ln 12 D, cO t1 1 [.long (ta A), .long (tb A), .long (tc A), .long (td A), .long (te A), .long (tf A), .long (tg A)], cO t2 1 [.long (ta B), .long (tb B), .long (tc B), .long (td B), .long (te B), .long (tf B), .long (tg B)], cO o 0 [.ref k, .ref f, .ref s, .int (nI z)], cI E k 8 K, cI E f 8 F, cI E s 8 G]) Z (qX0_has E o k f s (nI z) i) iX0_has gX2_part_X0_has ⟨rfl, rfl⟩ ⟨Nat.le_of_ble_eq_true rfl, Nat.le_of_ble_eq_true rfl⟩ dX2_part_15 rfl rfl (Nat.le_of_ble_eq_true rfl) ⟨Nat.zero_le _, Nat.zero_le _⟩ [5] rfl rfl 0 rfl rfl rfl rfl rfl ?_
  refine g_ifb_ne (tgt := 24) Z dX2_part_18 (by decide) (fun c_18 => ?_) (fun c_18 => ?_)
  · refine g_iload_n Z dX2_part_24 4 rfl rfl ?_
    rcases z_sw2 v with c_25 | c_25 | c_25 | c_25
    · refine g_tsin (tgt := 52) Z dX2_part_25 0 c_25 (by decide) rfl (by decide) ?_
      exact absurd ⟨(inB_X (by omega)).mp c_18, Or.inl c_25⟩ hv
    · refine g_tsin (tgt := 60) Z dX2_part_25 1 c_25 (by decide) rfl (by decide) ?_
      exact absurd ⟨(inB_X (by omega)).mp c_18, Or.inr (Or.inl c_25)⟩ hv
    · refine g_tsin (tgt := 68) Z dX2_part_25 2 c_25 (by decide) rfl (by decide) ?_
      exact absurd ⟨(inB_X (by omega)).mp c_18, Or.inr (Or.inr (c_25))⟩ hv
    · refine g_tsout (tgt := 76) Z dX2_part_25 c_25.1 (by decide) ?_
      refine g_bipush Z dX2_part_76 zb_m100 ?_
      exact g_iret Z dX2_part_78 rfl ⟨Nat.zero_le _, Nat.zero_le _⟩ ⟨rfl, rfl⟩
  · refine g_bipush Z dX2_part_21 zb_m100 ?_
    exact g_iret Z dX2_part_23 rfl ⟨Nat.zero_le _, Nat.zero_le _⟩ ⟨rfl, rfl⟩

theorem nX2_part_X0 : ∀ w ∈ wsX00, w ∈ wsX2_part := by decide +kernel
theorem fX2_part_61 : Cond.fieldLink RX2 61 (TX0 0).1 (TX0 0).2.1 (TX0 0).2.2.1 ∈ wsX2_part := by decide +kernel
set_option maxHeartbeats 4000000 in
set_option maxRecDepth 100000 in
theorem qX2_part0 (E : zE) (x rw ln t1 t2 : Nat) (nb dn : Nat) (RF : Nat → Option Nat) (D : Nat → Int32) (A B : TB) (o k f s : Nat) (K F G : Nat → Int32) (z : Nat) (j : Nat) (p : Nat) (hnb : nb ≤ 4) (hj : j < nb) (hr : RF j = some o) (hz : z ≤ 8) (hp : p < z) : zF E yX2_part wsX2_part rX2_part [.ref x, .int (nI j), .int (nI p), .int 0] [cO x 2 [.ref rw, .int (nI nb), .ref ln, .int (nI dn), .ref t1, .ref t2], cQ E rw 4 RF, cI E ln 12 D, cO t1 1 [.long (ta A), .long (tb A), .long (tc A), .long (td A), .long (te A), .long (tf A), .long (tg A)], cO t2 1 [.long (ta B), .long (tb B), .long (tc B), .long (td B), .long (te B), .long (tf B), .long (tg B)], cO o 0 [.ref k, .ref f, .ref s, .int (nI z)], cI E k 8 K, cI E f 8 F, cI E s 8 G] (zx (some (.int (K p))) ([cO x 2 [.ref rw, .int (nI nb), .ref ln, .int (nI dn), .ref t1, .ref t2], cQ E rw 4 RF, cI E ln 12 D, cO t1 1 [.long (ta A), .long (tb A), .long (tc A), .long (td A), .long (te A), .long (tf A), .long (tg A)], cO t2 1 [.long (ta B), .long (tb B), .long (tc B), .long (td B), .long (te B), .long (tf B), .long (tg B)], cO o 0 [.ref k, .ref f, .ref s, .int (nI z)], cI E k 8 K, cI E f 8 F, cI E s 8 G])) := by
  refine z_start RX2 "part" (by decide) rfl rfl rfl (Nat.le_of_ble_eq_true rfl) ?_
  intro J Z
  refine g_eq Z (lv2 := [(0, .ref x), (1, .int (nI j)), (2, .int (nI p)), (3, .int 0)]) rfl rfl rfl ?_
  refine g_aload_n Z dX2_part_0 0 rfl rfl ?_
  refine g_iload_n Z dX2_part_1 1 rfl rfl ?_
  refine g_callVx (w' := [cO x 2 [.ref rw, .int (nI nb), .ref ln, .int (nI dn), .ref t1, .ref t2], cQ E rw 4 RF, cI E ln 12 D, cO t1 1 [.long (ta A), .long (tb A), .long (tc A), .long (td A), .long (te A), .long (tf A), .long (tg A)], cO t2 1 [.long (ta B), .long (tb B), .long (tc B), .long (td B), .long (te B), .long (tf B), .long (tg B)], cO o 0 [.ref k, .ref f, .ref s, .int (nI z)], cI E k 8 K, cI E f 8 F, cI E s 8 G]) Z (qX2_rowAt E x rw ln t1 t2 nb dn RF j o hj hnb hr) iX2_rowAt gX2_part_X2_rowAt ⟨rfl, rfl⟩ ⟨Nat.le_of_ble_eq_true rfl, Nat.le_of_ble_eq_true rfl⟩ dX2_part_2 rfl rfl (Nat.le_of_ble_eq_true rfl) ⟨Nat.zero_le _, Nat.zero_le _⟩ [0, 1] rfl rfl 0 rfl rfl rfl rfl rfl ?_
  refine g_astore (lv' := [(4, .ref o), (0, .ref x), (1, .int (nI j)), (2, .int (nI p)), (3, .int 0)]) Z dX2_part_5 (by decide) rfl ?_
  refine g_aload Z dX2_part_7 0 rfl ?_
  refine g_ifnull Z dX2_part_9 ?_
  refine g_aload Z dX2_part_12 0 rfl ?_
  refine g_iload_n Z dX2_part_14 3 rfl rfl ?_
  refine g_callVx (w' := [cO x 2 [.ref rw, .int (nI nb), .ref ln, .int (nI dn), .ref t1, .ref t2], cQ E rw 4 RF, cI E ln 12 D, cO t1 1 [.long (ta A), .long (tb A), .long (tc A), .long (td A), .long (te A), .long (tf A), .long (tg A)], cO t2 1 [.long (ta B), .long (tb B), .long (tc B), .long (td B), .long (te B), .long (tf B), .long (tg B)], cO o 0 [.ref k, .ref f, .ref s, .int (nI z)], cI E k 8 K, cI E f 8 F, cI E s 8 G]) Z (qX0_hasN E o k f s z p (by omega) (by omega)) iX0_has gX2_part_X0_has ⟨rfl, rfl⟩ ⟨Nat.le_of_ble_eq_true rfl, Nat.le_of_ble_eq_true rfl⟩ dX2_part_15 rfl rfl (Nat.le_of_ble_eq_true rfl) ⟨Nat.zero_le _, Nat.zero_le _⟩ [5] rfl rfl 0 rfl rfl rfl rfl rfl ?_
  refine g_ifb_ne (tgt := 24) Z dX2_part_18 (by decide) (fun c_18 => ?_) (fun c_18 => absurd c_18 (fun q => q hp))
  refine g_iload_n Z dX2_part_24 4 rfl rfl ?_
  refine g_tsin (tgt := 52) Z dX2_part_25 0 rfl (by decide) rfl (by decide) ?_
  refine g_aload Z dX2_part_52 0 rfl ?_
  refine g_get Z dX2_part_54 5 rfl rfl nX2_part_X0 0 (by decide) fX2_part_61 rfl ?_
  refine g_iload_n Z dX2_part_57 3 rfl rfl ?_
  refine g_iald Z dX2_part_58 6 rfl p rfl (by omega) rfl ?_
  exact g_iret Z dX2_part_59 rfl ⟨Nat.zero_le _, Nat.zero_le _⟩ ⟨rfl, rfl⟩

theorem fX2_part_68 : Cond.fieldLink RX2 68 (TX0 1).1 (TX0 1).2.1 (TX0 1).2.2.1 ∈ wsX2_part := by decide +kernel
set_option maxHeartbeats 4000000 in
set_option maxRecDepth 100000 in
theorem qX2_part1 (E : zE) (x rw ln t1 t2 : Nat) (nb dn : Nat) (RF : Nat → Option Nat) (D : Nat → Int32) (A B : TB) (o k f s : Nat) (K F G : Nat → Int32) (z : Nat) (j : Nat) (p : Nat) (hnb : nb ≤ 4) (hj : j < nb) (hr : RF j = some o) (hz : z ≤ 8) (hp : p < z) : zF E yX2_part wsX2_part rX2_part [.ref x, .int (nI j), .int (nI p), .int 1] [cO x 2 [.ref rw, .int (nI nb), .ref ln, .int (nI dn), .ref t1, .ref t2], cQ E rw 4 RF, cI E ln 12 D, cO t1 1 [.long (ta A), .long (tb A), .long (tc A), .long (td A), .long (te A), .long (tf A), .long (tg A)], cO t2 1 [.long (ta B), .long (tb B), .long (tc B), .long (td B), .long (te B), .long (tf B), .long (tg B)], cO o 0 [.ref k, .ref f, .ref s, .int (nI z)], cI E k 8 K, cI E f 8 F, cI E s 8 G] (zx (some (.int (F p))) ([cO x 2 [.ref rw, .int (nI nb), .ref ln, .int (nI dn), .ref t1, .ref t2], cQ E rw 4 RF, cI E ln 12 D, cO t1 1 [.long (ta A), .long (tb A), .long (tc A), .long (td A), .long (te A), .long (tf A), .long (tg A)], cO t2 1 [.long (ta B), .long (tb B), .long (tc B), .long (td B), .long (te B), .long (tf B), .long (tg B)], cO o 0 [.ref k, .ref f, .ref s, .int (nI z)], cI E k 8 K, cI E f 8 F, cI E s 8 G])) := by
  refine z_start RX2 "part" (by decide) rfl rfl rfl (Nat.le_of_ble_eq_true rfl) ?_
  intro J Z
  refine g_eq Z (lv2 := [(0, .ref x), (1, .int (nI j)), (2, .int (nI p)), (3, .int 1)]) rfl rfl rfl ?_
  refine g_aload_n Z dX2_part_0 0 rfl rfl ?_
  refine g_iload_n Z dX2_part_1 1 rfl rfl ?_
  refine g_callVx (w' := [cO x 2 [.ref rw, .int (nI nb), .ref ln, .int (nI dn), .ref t1, .ref t2], cQ E rw 4 RF, cI E ln 12 D, cO t1 1 [.long (ta A), .long (tb A), .long (tc A), .long (td A), .long (te A), .long (tf A), .long (tg A)], cO t2 1 [.long (ta B), .long (tb B), .long (tc B), .long (td B), .long (te B), .long (tf B), .long (tg B)], cO o 0 [.ref k, .ref f, .ref s, .int (nI z)], cI E k 8 K, cI E f 8 F, cI E s 8 G]) Z (qX2_rowAt E x rw ln t1 t2 nb dn RF j o hj hnb hr) iX2_rowAt gX2_part_X2_rowAt ⟨rfl, rfl⟩ ⟨Nat.le_of_ble_eq_true rfl, Nat.le_of_ble_eq_true rfl⟩ dX2_part_2 rfl rfl (Nat.le_of_ble_eq_true rfl) ⟨Nat.zero_le _, Nat.zero_le _⟩ [0, 1] rfl rfl 0 rfl rfl rfl rfl rfl ?_
  refine g_astore (lv' := [(4, .ref o), (0, .ref x), (1, .int (nI j)), (2, .int (nI p)), (3, .int 1)]) Z dX2_part_5 (by decide) rfl ?_
  refine g_aload Z dX2_part_7 0 rfl ?_
  refine g_ifnull Z dX2_part_9 ?_
  refine g_aload Z dX2_part_12 0 rfl ?_
  refine g_iload_n Z dX2_part_14 3 rfl rfl ?_
  refine g_callVx (w' := [cO x 2 [.ref rw, .int (nI nb), .ref ln, .int (nI dn), .ref t1, .ref t2], cQ E rw 4 RF, cI E ln 12 D, cO t1 1 [.long (ta A), .long (tb A), .long (tc A), .long (td A), .long (te A), .long (tf A), .long (tg A)], cO t2 1 [.long (ta B), .long (tb B), .long (tc B), .long (td B), .long (te B), .long (tf B), .long (tg B)], cO o 0 [.ref k, .ref f, .ref s, .int (nI z)], cI E k 8 K, cI E f 8 F, cI E s 8 G]) Z (qX0_hasN E o k f s z p (by omega) (by omega)) iX0_has gX2_part_X0_has ⟨rfl, rfl⟩ ⟨Nat.le_of_ble_eq_true rfl, Nat.le_of_ble_eq_true rfl⟩ dX2_part_15 rfl rfl (Nat.le_of_ble_eq_true rfl) ⟨Nat.zero_le _, Nat.zero_le _⟩ [5] rfl rfl 0 rfl rfl rfl rfl rfl ?_
  refine g_ifb_ne (tgt := 24) Z dX2_part_18 (by decide) (fun c_18 => ?_) (fun c_18 => absurd c_18 (fun q => q hp))
  refine g_iload_n Z dX2_part_24 4 rfl rfl ?_
  refine g_tsin (tgt := 60) Z dX2_part_25 1 rfl (by decide) rfl (by decide) ?_
  refine g_aload Z dX2_part_60 0 rfl ?_
  refine g_get Z dX2_part_62 5 rfl rfl nX2_part_X0 1 (by decide) fX2_part_68 rfl ?_
  refine g_iload_n Z dX2_part_65 3 rfl rfl ?_
  refine g_iald Z dX2_part_66 7 rfl p rfl (by omega) rfl ?_
  exact g_iret Z dX2_part_67 rfl ⟨Nat.zero_le _, Nat.zero_le _⟩ ⟨rfl, rfl⟩

theorem fX2_part_71 : Cond.fieldLink RX2 71 (TX0 2).1 (TX0 2).2.1 (TX0 2).2.2.1 ∈ wsX2_part := by decide +kernel
set_option maxHeartbeats 4000000 in
set_option maxRecDepth 100000 in
theorem qX2_part2 (E : zE) (x rw ln t1 t2 : Nat) (nb dn : Nat) (RF : Nat → Option Nat) (D : Nat → Int32) (A B : TB) (o k f s : Nat) (K F G : Nat → Int32) (z : Nat) (j : Nat) (p : Nat) (hnb : nb ≤ 4) (hj : j < nb) (hr : RF j = some o) (hz : z ≤ 8) (hp : p < z) : zF E yX2_part wsX2_part rX2_part [.ref x, .int (nI j), .int (nI p), .int 2] [cO x 2 [.ref rw, .int (nI nb), .ref ln, .int (nI dn), .ref t1, .ref t2], cQ E rw 4 RF, cI E ln 12 D, cO t1 1 [.long (ta A), .long (tb A), .long (tc A), .long (td A), .long (te A), .long (tf A), .long (tg A)], cO t2 1 [.long (ta B), .long (tb B), .long (tc B), .long (td B), .long (te B), .long (tf B), .long (tg B)], cO o 0 [.ref k, .ref f, .ref s, .int (nI z)], cI E k 8 K, cI E f 8 F, cI E s 8 G] (zx (some (.int (G p))) ([cO x 2 [.ref rw, .int (nI nb), .ref ln, .int (nI dn), .ref t1, .ref t2], cQ E rw 4 RF, cI E ln 12 D, cO t1 1 [.long (ta A), .long (tb A), .long (tc A), .long (td A), .long (te A), .long (tf A), .long (tg A)], cO t2 1 [.long (ta B), .long (tb B), .long (tc B), .long (td B), .long (te B), .long (tf B), .long (tg B)], cO o 0 [.ref k, .ref f, .ref s, .int (nI z)], cI E k 8 K, cI E f 8 F, cI E s 8 G])) := by
  refine z_start RX2 "part" (by decide) rfl rfl rfl (Nat.le_of_ble_eq_true rfl) ?_
  intro J Z
  refine g_eq Z (lv2 := [(0, .ref x), (1, .int (nI j)), (2, .int (nI p)), (3, .int 2)]) rfl rfl rfl ?_
  refine g_aload_n Z dX2_part_0 0 rfl rfl ?_
  refine g_iload_n Z dX2_part_1 1 rfl rfl ?_
  refine g_callVx (w' := [cO x 2 [.ref rw, .int (nI nb), .ref ln, .int (nI dn), .ref t1, .ref t2], cQ E rw 4 RF, cI E ln 12 D, cO t1 1 [.long (ta A), .long (tb A), .long (tc A), .long (td A), .long (te A), .long (tf A), .long (tg A)], cO t2 1 [.long (ta B), .long (tb B), .long (tc B), .long (td B), .long (te B), .long (tf B), .long (tg B)], cO o 0 [.ref k, .ref f, .ref s, .int (nI z)], cI E k 8 K, cI E f 8 F, cI E s 8 G]) Z (qX2_rowAt E x rw ln t1 t2 nb dn RF j o hj hnb hr) iX2_rowAt gX2_part_X2_rowAt ⟨rfl, rfl⟩ ⟨Nat.le_of_ble_eq_true rfl, Nat.le_of_ble_eq_true rfl⟩ dX2_part_2 rfl rfl (Nat.le_of_ble_eq_true rfl) ⟨Nat.zero_le _, Nat.zero_le _⟩ [0, 1] rfl rfl 0 rfl rfl rfl rfl rfl ?_
  refine g_astore (lv' := [(4, .ref o), (0, .ref x), (1, .int (nI j)), (2, .int (nI p)), (3, .int 2)]) Z dX2_part_5 (by decide) rfl ?_
  refine g_aload Z dX2_part_7 0 rfl ?_
  refine g_ifnull Z dX2_part_9 ?_
  refine g_aload Z dX2_part_12 0 rfl ?_
  refine g_iload_n Z dX2_part_14 3 rfl rfl ?_
  refine g_callVx (w' := [cO x 2 [.ref rw, .int (nI nb), .ref ln, .int (nI dn), .ref t1, .ref t2], cQ E rw 4 RF, cI E ln 12 D, cO t1 1 [.long (ta A), .long (tb A), .long (tc A), .long (td A), .long (te A), .long (tf A), .long (tg A)], cO t2 1 [.long (ta B), .long (tb B), .long (tc B), .long (td B), .long (te B), .long (tf B), .long (tg B)], cO o 0 [.ref k, .ref f, .ref s, .int (nI z)], cI E k 8 K, cI E f 8 F, cI E s 8 G]) Z (qX0_hasN E o k f s z p (by omega) (by omega)) iX0_has gX2_part_X0_has ⟨rfl, rfl⟩ ⟨Nat.le_of_ble_eq_true rfl, Nat.le_of_ble_eq_true rfl⟩ dX2_part_15 rfl rfl (Nat.le_of_ble_eq_true rfl) ⟨Nat.zero_le _, Nat.zero_le _⟩ [5] rfl rfl 0 rfl rfl rfl rfl rfl ?_
  refine g_ifb_ne (tgt := 24) Z dX2_part_18 (by decide) (fun c_18 => ?_) (fun c_18 => absurd c_18 (fun q => q hp))
  refine g_iload_n Z dX2_part_24 4 rfl rfl ?_
  refine g_tsin (tgt := 68) Z dX2_part_25 2 rfl (by decide) rfl (by decide) ?_
  refine g_aload Z dX2_part_68 0 rfl ?_
  refine g_get Z dX2_part_70 5 rfl rfl nX2_part_X0 2 (by decide) fX2_part_71 rfl ?_
  refine g_iload_n Z dX2_part_73 3 rfl rfl ?_
  refine g_iald Z dX2_part_74 8 rfl p rfl (by omega) rfl ?_
  exact g_iret Z dX2_part_75 rfl ⟨Nat.zero_le _, Nat.zero_le _⟩ ⟨rfl, rfl⟩

theorem nX2_turn_X0 : ∀ w ∈ wsX00, w ∈ wsX2_turn := by decide +kernel
theorem fX2_turn_43 : Cond.fieldLink RX2 43 (TX0 3).1 (TX0 3).2.1 (TX0 3).2.2.1 ∈ wsX2_turn := by decide +kernel
set_option maxHeartbeats 4000000 in
set_option maxRecDepth 100000 in
theorem qX2_turn (E : zE) (x rw ln t1 t2 : Nat) (nb dn : Nat) (RF : Nat → Option Nat) (D : Nat → Int32) (A B : TB) (o k f s : Nat) (K F G : Nat → Int32) (z : Nat) (j : Nat) (hnb : nb ≤ 4) (hj : j < nb) (hr : RF j = some o) (hz : z ≤ 8) : zF E yX2_turn wsX2_turn rX2_turn [.ref x, .int (nI j)] [cO x 2 [.ref rw, .int (nI nb), .ref ln, .int (nI dn), .ref t1, .ref t2], cQ E rw 4 RF, cI E ln 12 D, cO t1 1 [.long (ta A), .long (tb A), .long (tc A), .long (td A), .long (te A), .long (tf A), .long (tg A)], cO t2 1 [.long (ta B), .long (tb B), .long (tc B), .long (td B), .long (te B), .long (tf B), .long (tg B)], cO o 0 [.ref k, .ref f, .ref s, .int (nI z)], cI E k 8 K, cI E f 8 F, cI E s 8 G] (zx (some (.int (nI z))) ([cO x 2 [.ref rw, .int (nI nb), .ref ln, .int (nI dn), .ref t1, .ref t2], cQ E rw 4 RF, cI E ln 12 D, cO t1 1 [.long (ta A), .long (tb A), .long (tc A), .long (td A), .long (te A), .long (tf A), .long (tg A)], cO t2 1 [.long (ta B), .long (tb B), .long (tc B), .long (td B), .long (te B), .long (tf B), .long (tg B)], cO o 0 [.ref k, .ref f, .ref s, .int (nI z)], cI E k 8 (revF K z 0 (z / 2)), cI E f 8 (revF F z 0 (z / 2)), cI E s 8 (revF G z 0 (z / 2))])) := by
  refine z_start RX2 "turn" (by decide) rfl rfl rfl (Nat.le_of_ble_eq_true rfl) ?_
  intro J Z
  refine g_eq Z (lv2 := [(0, .ref x), (1, .int (nI j))]) rfl rfl rfl ?_
  refine g_aload_n Z dX2_turn_0 0 rfl rfl ?_
  refine g_iload_n Z dX2_turn_1 1 rfl rfl ?_
  refine g_callVx (w' := [cO x 2 [.ref rw, .int (nI nb), .ref ln, .int (nI dn), .ref t1, .ref t2], cQ E rw 4 RF, cI E ln 12 D, cO t1 1 [.long (ta A), .long (tb A), .long (tc A), .long (td A), .long (te A), .long (tf A), .long (tg A)], cO t2 1 [.long (ta B), .long (tb B), .long (tc B), .long (td B), .long (te B), .long (tf B), .long (tg B)], cO o 0 [.ref k, .ref f, .ref s, .int (nI z)], cI E k 8 K, cI E f 8 F, cI E s 8 G]) Z (qX2_rowAt E x rw ln t1 t2 nb dn RF j o hj hnb hr) iX2_rowAt gX2_turn_X2_rowAt ⟨rfl, rfl⟩ ⟨Nat.le_of_ble_eq_true rfl, Nat.le_of_ble_eq_true rfl⟩ dX2_turn_2 rfl rfl (Nat.le_of_ble_eq_true rfl) ⟨Nat.zero_le _, Nat.zero_le _⟩ [0, 1] rfl rfl 0 rfl rfl rfl rfl rfl ?_
  refine g_astore_n (lv' := [(2, .ref o), (0, .ref x), (1, .int (nI j))]) Z dX2_turn_5 rfl (by decide) rfl ?_
  refine g_aload_n Z dX2_turn_6 0 rfl rfl ?_
  refine g_ifnonnull (tgt := 12) Z dX2_turn_7 (by decide) ?_
  refine g_aload_n Z dX2_turn_12 0 rfl rfl ?_
  refine g_callVx (w' := [cO x 2 [.ref rw, .int (nI nb), .ref ln, .int (nI dn), .ref t1, .ref t2], cQ E rw 4 RF, cI E ln 12 D, cO t1 1 [.long (ta A), .long (tb A), .long (tc A), .long (td A), .long (te A), .long (tf A), .long (tg A)], cO t2 1 [.long (ta B), .long (tb B), .long (tc B), .long (td B), .long (te B), .long (tf B), .long (tg B)], cO o 0 [.ref k, .ref f, .ref s, .int (nI z)], cI E k 8 (revF K z 0 (z / 2)), cI E f 8 (revF F z 0 (z / 2)), cI E s 8 (revF G z 0 (z / 2))]) Z (qX0_reverse E o k f s K F G z (by omega)) iX0_reverse gX2_turn_X0_reverse ⟨rfl, rfl⟩ ⟨Nat.le_of_ble_eq_true rfl, Nat.le_of_ble_eq_true rfl⟩ dX2_turn_13 rfl rfl (Nat.le_of_ble_eq_true rfl) ⟨Nat.zero_le _, Nat.zero_le _⟩ [5, 6, 7, 8] rfl rfl 0 rfl rfl rfl rfl rfl ?_
  refine g_aload_n Z dX2_turn_16 0 rfl rfl ?_
  refine g_get Z dX2_turn_17 5 rfl rfl nX2_turn_X0 3 (by decide) fX2_turn_43 rfl ?_
  exact g_iret Z dX2_turn_20 rfl ⟨Nat.zero_le _, Nat.zero_le _⟩ ⟨rfl, rfl⟩

abbrev rX2_join : Room := { frames := 2, cells := 0, slots := 0, locals := 47 }
theorem iX2_join : zInfo yX2_join wsX2_join RX2 5 (some .int) 2 := ⟨_, _, rfl, by decide +kernel⟩
set_option maxHeartbeats 4000000 in
set_option maxRecDepth 100000 in
theorem qX2_joinN (E : zE) (x rw ln t1 t2 : Nat) (nb dn : Nat) (RF : Nat → Option Nat) (D : Nat → Int32) (A B : TB) (b c : Int32) (hnb : nb ≤ 4) (hR : ∀ j, j < nb → ∃ o, RF j = some o) (hv : ¬ (inB nb b ∧ inB nb c)) : zF E yX2_join wsX2_join rX2_join [.ref x, .int b, .int c] [cO x 2 [.ref rw, .int (nI nb), .ref ln, .int (nI dn), .ref t1, .ref t2], cQ E rw 4 RF, cI E ln 12 D, cO t1 1 [.long (ta A), .long (tb A), .long (tc A), .long (td A), .long (te A), .long (tf A), .long (tg A)], cO t2 1 [.long (ta B), .long (tb B), .long (tc B), .long (td B), .long (te B), .long (tf B), .long (tg B)]] (zx (some (.int (-1))) ([cO x 2 [.ref rw, .int (nI nb), .ref ln, .int (nI dn), .ref t1, .ref t2], cQ E rw 4 RF, cI E ln 12 D, cO t1 1 [.long (ta A), .long (tb A), .long (tc A), .long (td A), .long (te A), .long (tf A), .long (tg A)], cO t2 1 [.long (ta B), .long (tb B), .long (tc B), .long (td B), .long (te B), .long (tf B), .long (tg B)]])) := by
  refine z_start RX2 "join" (by decide) rfl rfl rfl (Nat.le_of_ble_eq_true rfl) ?_
  intro J Z
  refine g_eq Z (lv2 := [(0, .ref x), (1, .int b), (2, .int c)]) rfl rfl rfl ?_
  by_cases hb : inB nb b
  · obtain ⟨j, hj, rfl⟩ := inB_of hb
    obtain ⟨o, hr⟩ := hR j hj
    have hc : ¬ inB nb c := fun q => hv ⟨hb, q⟩
    refine g_aload_n Z dX2_join_0 0 rfl rfl ?_
    refine g_iload_n Z dX2_join_1 1 rfl rfl ?_
    refine g_callVx (w' := [cO x 2 [.ref rw, .int (nI nb), .ref ln, .int (nI dn), .ref t1, .ref t2], cQ E rw 4 RF, cI E ln 12 D, cO t1 1 [.long (ta A), .long (tb A), .long (tc A), .long (td A), .long (te A), .long (tf A), .long (tg A)], cO t2 1 [.long (ta B), .long (tb B), .long (tc B), .long (td B), .long (te B), .long (tf B), .long (tg B)]]) Z (qX2_rowAt E x rw ln t1 t2 nb dn RF j o hj hnb hr) iX2_rowAt gX2_join_X2_rowAt ⟨rfl, rfl⟩ ⟨Nat.le_of_ble_eq_true rfl, Nat.le_of_ble_eq_true rfl⟩ dX2_join_2 rfl rfl (Nat.le_of_ble_eq_true rfl) ⟨Nat.zero_le _, Nat.zero_le _⟩ [0, 1] rfl rfl 0 rfl rfl rfl rfl rfl ?_
    refine g_astore_n (lv' := [(3, .ref o), (0, .ref x), (1, .int (nI j)), (2, .int c)]) Z dX2_join_5 rfl (by decide) rfl ?_
    refine g_aload_n Z dX2_join_6 1 rfl rfl ?_
    refine g_iload_n Z dX2_join_7 3 rfl rfl ?_
    refine g_callVx (w' := [cO x 2 [.ref rw, .int (nI nb), .ref ln, .int (nI dn), .ref t1, .ref t2], cQ E rw 4 RF, cI E ln 12 D, cO t1 1 [.long (ta A), .long (tb A), .long (tc A), .long (td A), .long (te A), .long (tf A), .long (tg A)], cO t2 1 [.long (ta B), .long (tb B), .long (tc B), .long (td B), .long (te B), .long (tf B), .long (tg B)]]) Z (qX2_rowAtO E x rw ln t1 t2 nb dn RF c hnb hc) iX2_rowAt gX2_join_X2_rowAt ⟨rfl, rfl⟩ ⟨Nat.le_of_ble_eq_true rfl, Nat.le_of_ble_eq_true rfl⟩ dX2_join_8 rfl rfl (Nat.le_of_ble_eq_true rfl) ⟨Nat.zero_le _, Nat.zero_le _⟩ [0, 1] rfl rfl 0 rfl rfl rfl rfl rfl ?_
    refine g_astoreN (lv' := [(4, .null), (3, .ref o), (0, .ref x), (1, .int (nI j)), (2, .int c)]) Z dX2_join_11 (by decide) rfl ?_
    refine g_aload_n Z dX2_join_13 1 rfl rfl ?_
    refine g_ifnull Z dX2_join_14 ?_
    refine g_aloadN Z dX2_join_17 0 rfl ?_
    refine g_ifnonnullN Z dX2_join_19 ?_
    refine g_iconst Z dX2_join_22 zi_m1 ?_
    exact g_iret Z dX2_join_23 rfl ⟨Nat.zero_le _, Nat.zero_le _⟩ ⟨rfl, rfl⟩
  · by_cases hc : inB nb c
    · obtain ⟨q, hq, rfl⟩ := inB_of hc
      obtain ⟨o, hr⟩ := hR q hq
      refine g_aload_n Z dX2_join_0 0 rfl rfl ?_
      refine g_iload_n Z dX2_join_1 1 rfl rfl ?_
      refine g_callVx (w' := [cO x 2 [.ref rw, .int (nI nb), .ref ln, .int (nI dn), .ref t1, .ref t2], cQ E rw 4 RF, cI E ln 12 D, cO t1 1 [.long (ta A), .long (tb A), .long (tc A), .long (td A), .long (te A), .long (tf A), .long (tg A)], cO t2 1 [.long (ta B), .long (tb B), .long (tc B), .long (td B), .long (te B), .long (tf B), .long (tg B)]]) Z (qX2_rowAtO E x rw ln t1 t2 nb dn RF b hnb hb) iX2_rowAt gX2_join_X2_rowAt ⟨rfl, rfl⟩ ⟨Nat.le_of_ble_eq_true rfl, Nat.le_of_ble_eq_true rfl⟩ dX2_join_2 rfl rfl (Nat.le_of_ble_eq_true rfl) ⟨Nat.zero_le _, Nat.zero_le _⟩ [0, 1] rfl rfl 0 rfl rfl rfl rfl rfl ?_
      refine g_astore_nN (lv' := [(3, .null), (0, .ref x), (1, .int b), (2, .int (nI q))]) Z dX2_join_5 rfl (by decide) rfl ?_
      refine g_aload_n Z dX2_join_6 1 rfl rfl ?_
      refine g_iload_n Z dX2_join_7 3 rfl rfl ?_
      refine g_callVx (w' := [cO x 2 [.ref rw, .int (nI nb), .ref ln, .int (nI dn), .ref t1, .ref t2], cQ E rw 4 RF, cI E ln 12 D, cO t1 1 [.long (ta A), .long (tb A), .long (tc A), .long (td A), .long (te A), .long (tf A), .long (tg A)], cO t2 1 [.long (ta B), .long (tb B), .long (tc B), .long (td B), .long (te B), .long (tf B), .long (tg B)]]) Z (qX2_rowAt E x rw ln t1 t2 nb dn RF q o hq hnb hr) iX2_rowAt gX2_join_X2_rowAt ⟨rfl, rfl⟩ ⟨Nat.le_of_ble_eq_true rfl, Nat.le_of_ble_eq_true rfl⟩ dX2_join_8 rfl rfl (Nat.le_of_ble_eq_true rfl) ⟨Nat.zero_le _, Nat.zero_le _⟩ [0, 1] rfl rfl 0 rfl rfl rfl rfl rfl ?_
      refine g_astore (lv' := [(4, .ref o), (3, .null), (0, .ref x), (1, .int b), (2, .int (nI q))]) Z dX2_join_11 (by decide) rfl ?_
      refine g_aload_nN Z dX2_join_13 1 rfl rfl ?_
      refine g_ifnullN (tgt := 22) Z dX2_join_14 (by decide) ?_
      refine g_iconst Z dX2_join_22 zi_m1 ?_
      exact g_iret Z dX2_join_23 rfl ⟨Nat.zero_le _, Nat.zero_le _⟩ ⟨rfl, rfl⟩
    · refine g_aload_n Z dX2_join_0 0 rfl rfl ?_
      refine g_iload_n Z dX2_join_1 1 rfl rfl ?_
      refine g_callVx (w' := [cO x 2 [.ref rw, .int (nI nb), .ref ln, .int (nI dn), .ref t1, .ref t2], cQ E rw 4 RF, cI E ln 12 D, cO t1 1 [.long (ta A), .long (tb A), .long (tc A), .long (td A), .long (te A), .long (tf A), .long (tg A)], cO t2 1 [.long (ta B), .long (tb B), .long (tc B), .long (td B), .long (te B), .long (tf B), .long (tg B)]]) Z (qX2_rowAtO E x rw ln t1 t2 nb dn RF b hnb hb) iX2_rowAt gX2_join_X2_rowAt ⟨rfl, rfl⟩ ⟨Nat.le_of_ble_eq_true rfl, Nat.le_of_ble_eq_true rfl⟩ dX2_join_2 rfl rfl (Nat.le_of_ble_eq_true rfl) ⟨Nat.zero_le _, Nat.zero_le _⟩ [0, 1] rfl rfl 0 rfl rfl rfl rfl rfl ?_
      refine g_astore_nN (lv' := [(3, .null), (0, .ref x), (1, .int b), (2, .int c)]) Z dX2_join_5 rfl (by decide) rfl ?_
      refine g_aload_n Z dX2_join_6 1 rfl rfl ?_
      refine g_iload_n Z dX2_join_7 3 rfl rfl ?_
      refine g_callVx (w' := [cO x 2 [.ref rw, .int (nI nb), .ref ln, .int (nI dn), .ref t1, .ref t2], cQ E rw 4 RF, cI E ln 12 D, cO t1 1 [.long (ta A), .long (tb A), .long (tc A), .long (td A), .long (te A), .long (tf A), .long (tg A)], cO t2 1 [.long (ta B), .long (tb B), .long (tc B), .long (td B), .long (te B), .long (tf B), .long (tg B)]]) Z (qX2_rowAtO E x rw ln t1 t2 nb dn RF c hnb hc) iX2_rowAt gX2_join_X2_rowAt ⟨rfl, rfl⟩ ⟨Nat.le_of_ble_eq_true rfl, Nat.le_of_ble_eq_true rfl⟩ dX2_join_8 rfl rfl (Nat.le_of_ble_eq_true rfl) ⟨Nat.zero_le _, Nat.zero_le _⟩ [0, 1] rfl rfl 0 rfl rfl rfl rfl rfl ?_
      refine g_astoreN (lv' := [(4, .null), (3, .null), (0, .ref x), (1, .int b), (2, .int c)]) Z dX2_join_11 (by decide) rfl ?_
      refine g_aload_nN Z dX2_join_13 1 rfl rfl ?_
      refine g_ifnullN (tgt := 22) Z dX2_join_14 (by decide) ?_
      refine g_iconst Z dX2_join_22 zi_m1 ?_
      exact g_iret Z dX2_join_23 rfl ⟨Nat.zero_le _, Nat.zero_le _⟩ ⟨rfl, rfl⟩

theorem nX2_join_X0 : ∀ w ∈ wsX00, w ∈ wsX2_join := by decide +kernel
theorem fX2_join_43 : Cond.fieldLink RX2 43 (TX0 3).1 (TX0 3).2.1 (TX0 3).2.2.1 ∈ wsX2_join := by decide +kernel
set_option maxHeartbeats 4000000 in
set_option maxRecDepth 100000 in
theorem qX2_joinF (E : zE) (x rw ln t1 t2 : Nat) (nb dn : Nat) (RF : Nat → Option Nat) (D : Nat → Int32) (A B : TB) (o k f s : Nat) (K F G : Nat → Int32) (z : Nat) (o2 k2 f2 s2 : Nat) (K2 F2 G2 : Nat → Int32) (z2 : Nat) (j j2 : Nat) (hnb : nb ≤ 4) (hj : j < nb) (hr : RF j = some o) (hz : z ≤ 8) (hj2 : j2 < nb) (hr2 : RF j2 = some o2) (hz2 : z2 ≤ 8) (hf : 8 < z + z2 ∨ 3 < nBent K z + nBent K2 z2 ∨ 2 < nTilt K z + nTilt K2 z2) : zF E yX2_join wsX2_join rX2_join [.ref x, .int (nI j), .int (nI j2)] [cO x 2 [.ref rw, .int (nI nb), .ref ln, .int (nI dn), .ref t1, .ref t2], cQ E rw 4 RF, cI E ln 12 D, cO t1 1 [.long (ta A), .long (tb A), .long (tc A), .long (td A), .long (te A), .long (tf A), .long (tg A)], cO t2 1 [.long (ta B), .long (tb B), .long (tc B), .long (td B), .long (te B), .long (tf B), .long (tg B)], cO o 0 [.ref k, .ref f, .ref s, .int (nI z)], cI E k 8 K, cI E f 8 F, cI E s 8 G, cO o2 0 [.ref k2, .ref f2, .ref s2, .int (nI z2)], cI E k2 8 K2, cI E f2 8 F2, cI E s2 8 G2] (zx (some (.int (-4))) ([cO x 2 [.ref rw, .int (nI nb), .ref ln, .int (nI dn), .ref t1, .ref t2], cQ E rw 4 RF, cI E ln 12 D, cO t1 1 [.long (ta A), .long (tb A), .long (tc A), .long (td A), .long (te A), .long (tf A), .long (tg A)], cO t2 1 [.long (ta B), .long (tb B), .long (tc B), .long (td B), .long (te B), .long (tf B), .long (tg B)], cO o 0 [.ref k, .ref f, .ref s, .int (nI z)], cI E k 8 K, cI E f 8 F, cI E s 8 G, cO o2 0 [.ref k2, .ref f2, .ref s2, .int (nI z2)], cI E k2 8 K2, cI E f2 8 F2, cI E s2 8 G2])) := by
  refine z_start RX2 "join" (by decide) rfl rfl rfl (Nat.le_of_ble_eq_true rfl) ?_
  intro J Z
  refine g_eq Z (lv2 := [(0, .ref x), (1, .int (nI j)), (2, .int (nI j2))]) rfl rfl rfl ?_
  have hb1 := nBent_le K z
  have hb2 := nTilt_le K z
  have hb3 := nBent_le K2 z2
  have hb4 := nTilt_le K2 z2
  refine g_aload_n Z dX2_join_0 0 rfl rfl ?_
  refine g_iload_n Z dX2_join_1 1 rfl rfl ?_
  refine g_callVx (w' := [cO x 2 [.ref rw, .int (nI nb), .ref ln, .int (nI dn), .ref t1, .ref t2], cQ E rw 4 RF, cI E ln 12 D, cO t1 1 [.long (ta A), .long (tb A), .long (tc A), .long (td A), .long (te A), .long (tf A), .long (tg A)], cO t2 1 [.long (ta B), .long (tb B), .long (tc B), .long (td B), .long (te B), .long (tf B), .long (tg B)], cO o 0 [.ref k, .ref f, .ref s, .int (nI z)], cI E k 8 K, cI E f 8 F, cI E s 8 G, cO o2 0 [.ref k2, .ref f2, .ref s2, .int (nI z2)], cI E k2 8 K2, cI E f2 8 F2, cI E s2 8 G2]) Z (qX2_rowAt E x rw ln t1 t2 nb dn RF j o hj hnb hr) iX2_rowAt gX2_join_X2_rowAt ⟨rfl, rfl⟩ ⟨Nat.le_of_ble_eq_true rfl, Nat.le_of_ble_eq_true rfl⟩ dX2_join_2 rfl rfl (Nat.le_of_ble_eq_true rfl) ⟨Nat.zero_le _, Nat.zero_le _⟩ [0, 1] rfl rfl 0 rfl rfl rfl rfl rfl ?_
  refine g_astore_n (lv' := [(3, .ref o), (0, .ref x), (1, .int (nI j)), (2, .int (nI j2))]) Z dX2_join_5 rfl (by decide) rfl ?_
  refine g_aload_n Z dX2_join_6 1 rfl rfl ?_
  refine g_iload_n Z dX2_join_7 3 rfl rfl ?_
  refine g_callVx (w' := [cO x 2 [.ref rw, .int (nI nb), .ref ln, .int (nI dn), .ref t1, .ref t2], cQ E rw 4 RF, cI E ln 12 D, cO t1 1 [.long (ta A), .long (tb A), .long (tc A), .long (td A), .long (te A), .long (tf A), .long (tg A)], cO t2 1 [.long (ta B), .long (tb B), .long (tc B), .long (td B), .long (te B), .long (tf B), .long (tg B)], cO o 0 [.ref k, .ref f, .ref s, .int (nI z)], cI E k 8 K, cI E f 8 F, cI E s 8 G, cO o2 0 [.ref k2, .ref f2, .ref s2, .int (nI z2)], cI E k2 8 K2, cI E f2 8 F2, cI E s2 8 G2]) Z (qX2_rowAt E x rw ln t1 t2 nb dn RF j2 o2 hj2 hnb hr2) iX2_rowAt gX2_join_X2_rowAt ⟨rfl, rfl⟩ ⟨Nat.le_of_ble_eq_true rfl, Nat.le_of_ble_eq_true rfl⟩ dX2_join_8 rfl rfl (Nat.le_of_ble_eq_true rfl) ⟨Nat.zero_le _, Nat.zero_le _⟩ [0, 1] rfl rfl 0 rfl rfl rfl rfl rfl ?_
  refine g_astore (lv' := [(4, .ref o2), (3, .ref o), (0, .ref x), (1, .int (nI j)), (2, .int (nI j2))]) Z dX2_join_11 (by decide) rfl ?_
  refine g_aload_n Z dX2_join_13 1 rfl rfl ?_
  refine g_ifnull Z dX2_join_14 ?_
  refine g_aload Z dX2_join_17 0 rfl ?_
  refine g_ifnonnull (tgt := 24) Z dX2_join_19 (by decide) ?_
  refine g_aload_n Z dX2_join_24 1 rfl rfl ?_
  refine g_get Z dX2_join_25 5 rfl rfl nX2_join_X0 3 (by decide) fX2_join_43 rfl ?_
  refine g_aload Z dX2_join_28 0 rfl ?_
  refine g_get Z dX2_join_30 9 rfl rfl nX2_join_X0 3 (by decide) fX2_join_43 rfl ?_
  refine g_iaddE (z := nI (z + z2)) Z dX2_join_33 (nI_add z z2) ?_
  refine g_bipush Z dX2_join_34 zb_8 ?_
  refine g_icmpN_gt (tgt := 67) Z dX2_join_36 (by decide) (z + z2) 8 rfl rfl (by omega) (by omega) (fun c_36 => ?_) (fun c_36 => ?_)
  · refine g_bipush Z dX2_join_67 zb_m4 ?_
    exact g_iret Z dX2_join_69 rfl ⟨Nat.zero_le _, Nat.zero_le _⟩ ⟨rfl, rfl⟩
  · refine g_aload_n Z dX2_join_39 1 rfl rfl ?_
    refine g_callVx (w' := [cO x 2 [.ref rw, .int (nI nb), .ref ln, .int (nI dn), .ref t1, .ref t2], cQ E rw 4 RF, cI E ln 12 D, cO t1 1 [.long (ta A), .long (tb A), .long (tc A), .long (td A), .long (te A), .long (tf A), .long (tg A)], cO t2 1 [.long (ta B), .long (tb B), .long (tc B), .long (td B), .long (te B), .long (tf B), .long (tg B)], cO o 0 [.ref k, .ref f, .ref s, .int (nI z)], cI E k 8 K, cI E f 8 F, cI E s 8 G, cO o2 0 [.ref k2, .ref f2, .ref s2, .int (nI z2)], cI E k2 8 K2, cI E f2 8 F2, cI E s2 8 G2]) Z (qX0_bending E o k f s K F G z (by omega)) iX0_bending gX2_join_X0_bending ⟨rfl, rfl⟩ ⟨Nat.le_of_ble_eq_true rfl, Nat.le_of_ble_eq_true rfl⟩ dX2_join_40 rfl rfl (Nat.le_of_ble_eq_true rfl) ⟨Nat.zero_le _, Nat.zero_le _⟩ [5, 6, 7, 8] rfl rfl 0 rfl rfl rfl rfl rfl ?_
    refine g_aload Z dX2_join_43 0 rfl ?_
    refine g_callVx (w' := [cO x 2 [.ref rw, .int (nI nb), .ref ln, .int (nI dn), .ref t1, .ref t2], cQ E rw 4 RF, cI E ln 12 D, cO t1 1 [.long (ta A), .long (tb A), .long (tc A), .long (td A), .long (te A), .long (tf A), .long (tg A)], cO t2 1 [.long (ta B), .long (tb B), .long (tc B), .long (td B), .long (te B), .long (tf B), .long (tg B)], cO o 0 [.ref k, .ref f, .ref s, .int (nI z)], cI E k 8 K, cI E f 8 F, cI E s 8 G, cO o2 0 [.ref k2, .ref f2, .ref s2, .int (nI z2)], cI E k2 8 K2, cI E f2 8 F2, cI E s2 8 G2]) Z (qX0_bending E o2 k2 f2 s2 K2 F2 G2 z2 (by omega)) iX0_bending gX2_join_X0_bending ⟨rfl, rfl⟩ ⟨Nat.le_of_ble_eq_true rfl, Nat.le_of_ble_eq_true rfl⟩ dX2_join_45 rfl rfl (Nat.le_of_ble_eq_true rfl) ⟨Nat.zero_le _, Nat.zero_le _⟩ [9, 10, 11, 12] rfl rfl 0 rfl rfl rfl rfl rfl ?_
    refine g_iaddE (z := nI (nBent K z + (nBent K2 z2))) Z dX2_join_48 (nI_add (nBent K z) (nBent K2 z2)) ?_
    refine g_iconst Z dX2_join_49 zi_3 ?_
    refine g_icmpN_gt (tgt := 67) Z dX2_join_50 (by decide) (nBent K z + (nBent K2 z2)) 3 rfl rfl (by omega) (by omega) (fun c_50 => ?_) (fun c_50 => ?_)
    · refine g_bipush Z dX2_join_67 zb_m4 ?_
      exact g_iret Z dX2_join_69 rfl ⟨Nat.zero_le _, Nat.zero_le _⟩ ⟨rfl, rfl⟩
    · refine g_aload_n Z dX2_join_53 1 rfl rfl ?_
      refine g_callVx (w' := [cO x 2 [.ref rw, .int (nI nb), .ref ln, .int (nI dn), .ref t1, .ref t2], cQ E rw 4 RF, cI E ln 12 D, cO t1 1 [.long (ta A), .long (tb A), .long (tc A), .long (td A), .long (te A), .long (tf A), .long (tg A)], cO t2 1 [.long (ta B), .long (tb B), .long (tc B), .long (td B), .long (te B), .long (tf B), .long (tg B)], cO o 0 [.ref k, .ref f, .ref s, .int (nI z)], cI E k 8 K, cI E f 8 F, cI E s 8 G, cO o2 0 [.ref k2, .ref f2, .ref s2, .int (nI z2)], cI E k2 8 K2, cI E f2 8 F2, cI E s2 8 G2]) Z (qX0_tilts E o k f s K F G z (by omega)) iX0_tilts gX2_join_X0_tilts ⟨rfl, rfl⟩ ⟨Nat.le_of_ble_eq_true rfl, Nat.le_of_ble_eq_true rfl⟩ dX2_join_54 rfl rfl (Nat.le_of_ble_eq_true rfl) ⟨Nat.zero_le _, Nat.zero_le _⟩ [5, 6, 7, 8] rfl rfl 0 rfl rfl rfl rfl rfl ?_
      refine g_aload Z dX2_join_57 0 rfl ?_
      refine g_callVx (w' := [cO x 2 [.ref rw, .int (nI nb), .ref ln, .int (nI dn), .ref t1, .ref t2], cQ E rw 4 RF, cI E ln 12 D, cO t1 1 [.long (ta A), .long (tb A), .long (tc A), .long (td A), .long (te A), .long (tf A), .long (tg A)], cO t2 1 [.long (ta B), .long (tb B), .long (tc B), .long (td B), .long (te B), .long (tf B), .long (tg B)], cO o 0 [.ref k, .ref f, .ref s, .int (nI z)], cI E k 8 K, cI E f 8 F, cI E s 8 G, cO o2 0 [.ref k2, .ref f2, .ref s2, .int (nI z2)], cI E k2 8 K2, cI E f2 8 F2, cI E s2 8 G2]) Z (qX0_tilts E o2 k2 f2 s2 K2 F2 G2 z2 (by omega)) iX0_tilts gX2_join_X0_tilts ⟨rfl, rfl⟩ ⟨Nat.le_of_ble_eq_true rfl, Nat.le_of_ble_eq_true rfl⟩ dX2_join_59 rfl rfl (Nat.le_of_ble_eq_true rfl) ⟨Nat.zero_le _, Nat.zero_le _⟩ [9, 10, 11, 12] rfl rfl 0 rfl rfl rfl rfl rfl ?_
      refine g_iaddE (z := nI (nTilt K z + (nTilt K2 z2))) Z dX2_join_62 (nI_add (nTilt K z) (nTilt K2 z2)) ?_
      refine g_iconst Z dX2_join_63 zi_2 ?_
      refine g_icmpN_le (tgt := 70) Z dX2_join_64 (by decide) (nTilt K z + (nTilt K2 z2)) 2 rfl rfl (by omega) (by omega) (fun c_64 => ?_) (fun c_64 => ?_)
      · exact absurd hf (by omega)
      · refine g_bipush Z dX2_join_67 zb_m4 ?_
        exact g_iret Z dX2_join_69 rfl ⟨Nat.zero_le _, Nat.zero_le _⟩ ⟨rfl, rfl⟩


set_option maxHeartbeats 4000000 in
set_option maxRecDepth 100000 in
theorem qX2_join (E : zE) (x rw ln t1 t2 : Nat) (nb dn : Nat) (RF : Nat → Option Nat) (D : Nat → Int32) (A B : TB) (o k f s : Nat) (K F G : Nat → Int32) (z : Nat) (o2 k2 f2 s2 : Nat) (K2 F2 G2 : Nat → Int32) (z2 : Nat) (j j2 : Nat) (hnb : nb ≤ 4) (hj : j < nb) (hr : RF j = some o) (hz : z ≤ 8) (hj2 : j2 < nb) (hr2 : RF j2 = some o2) (hz2 : z2 ≤ 8) (hf : ¬ (8 < z + z2 ∨ 3 < nBent K z + nBent K2 z2 ∨ 2 < nTilt K z + nTilt K2 z2)) : zF E yX2_join wsX2_join rX2_join [.ref x, .int (nI j), .int (nI j2)] [cO x 2 [.ref rw, .int (nI nb), .ref ln, .int (nI dn), .ref t1, .ref t2], cQ E rw 4 RF, cI E ln 12 D, cO t1 1 [.long (ta A), .long (tb A), .long (tc A), .long (td A), .long (te A), .long (tf A), .long (tg A)], cO t2 1 [.long (ta B), .long (tb B), .long (tc B), .long (td B), .long (te B), .long (tf B), .long (tg B)], cO o 0 [.ref k, .ref f, .ref s, .int (nI z)], cI E k 8 K, cI E f 8 F, cI E s 8 G, cO o2 0 [.ref k2, .ref f2, .ref s2, .int (nI z2)], cI E k2 8 K2, cI E f2 8 F2, cI E s2 8 G2] (zx (some (.int (nI (z + z2)))) ([cO x 2 [.ref rw, .int (nI nb), .ref ln, .int (nI dn), .ref t1, .ref t2], cQ E rw 4 RF, cI E ln 12 D, cO t1 1 [.long (ta A), .long (tb A), .long (tc A), .long (td A), .long (te A), .long (tf A), .long (tg A)], cO t2 1 [.long (ta B), .long (tb B), .long (tc B), .long (td B), .long (te B), .long (tf B), .long (tg B)], cO o 0 [.ref k, .ref f, .ref s, .int (nI (z + z2))], cI E k 8 (appF K K2 z 0 z2), cI E f 8 (appF F F2 z 0 z2), cI E s 8 (appF G G2 z 0 z2), cO o2 0 [.ref k2, .ref f2, .ref s2, .int (nI z2)], cI E k2 8 K2, cI E f2 8 F2, cI E s2 8 G2])) := by
  refine z_start RX2 "join" (by decide) rfl rfl rfl (Nat.le_of_ble_eq_true rfl) ?_
  intro J Z
  refine g_eq Z (lv2 := [(0, .ref x), (1, .int (nI j)), (2, .int (nI j2))]) rfl rfl rfl ?_
  have hb1 := nBent_le K z
  have hb2 := nTilt_le K z
  have hb3 := nBent_le K2 z2
  have hb4 := nTilt_le K2 z2
  refine g_aload_n Z dX2_join_0 0 rfl rfl ?_
  refine g_iload_n Z dX2_join_1 1 rfl rfl ?_
  refine g_callVx (w' := [cO x 2 [.ref rw, .int (nI nb), .ref ln, .int (nI dn), .ref t1, .ref t2], cQ E rw 4 RF, cI E ln 12 D, cO t1 1 [.long (ta A), .long (tb A), .long (tc A), .long (td A), .long (te A), .long (tf A), .long (tg A)], cO t2 1 [.long (ta B), .long (tb B), .long (tc B), .long (td B), .long (te B), .long (tf B), .long (tg B)], cO o 0 [.ref k, .ref f, .ref s, .int (nI z)], cI E k 8 K, cI E f 8 F, cI E s 8 G, cO o2 0 [.ref k2, .ref f2, .ref s2, .int (nI z2)], cI E k2 8 K2, cI E f2 8 F2, cI E s2 8 G2]) Z (qX2_rowAt E x rw ln t1 t2 nb dn RF j o hj hnb hr) iX2_rowAt gX2_join_X2_rowAt ⟨rfl, rfl⟩ ⟨Nat.le_of_ble_eq_true rfl, Nat.le_of_ble_eq_true rfl⟩ dX2_join_2 rfl rfl (Nat.le_of_ble_eq_true rfl) ⟨Nat.zero_le _, Nat.zero_le _⟩ [0, 1] rfl rfl 0 rfl rfl rfl rfl rfl ?_
  refine g_astore_n (lv' := [(3, .ref o), (0, .ref x), (1, .int (nI j)), (2, .int (nI j2))]) Z dX2_join_5 rfl (by decide) rfl ?_
  refine g_aload_n Z dX2_join_6 1 rfl rfl ?_
  refine g_iload_n Z dX2_join_7 3 rfl rfl ?_
  refine g_callVx (w' := [cO x 2 [.ref rw, .int (nI nb), .ref ln, .int (nI dn), .ref t1, .ref t2], cQ E rw 4 RF, cI E ln 12 D, cO t1 1 [.long (ta A), .long (tb A), .long (tc A), .long (td A), .long (te A), .long (tf A), .long (tg A)], cO t2 1 [.long (ta B), .long (tb B), .long (tc B), .long (td B), .long (te B), .long (tf B), .long (tg B)], cO o 0 [.ref k, .ref f, .ref s, .int (nI z)], cI E k 8 K, cI E f 8 F, cI E s 8 G, cO o2 0 [.ref k2, .ref f2, .ref s2, .int (nI z2)], cI E k2 8 K2, cI E f2 8 F2, cI E s2 8 G2]) Z (qX2_rowAt E x rw ln t1 t2 nb dn RF j2 o2 hj2 hnb hr2) iX2_rowAt gX2_join_X2_rowAt ⟨rfl, rfl⟩ ⟨Nat.le_of_ble_eq_true rfl, Nat.le_of_ble_eq_true rfl⟩ dX2_join_8 rfl rfl (Nat.le_of_ble_eq_true rfl) ⟨Nat.zero_le _, Nat.zero_le _⟩ [0, 1] rfl rfl 0 rfl rfl rfl rfl rfl ?_
  refine g_astore (lv' := [(4, .ref o2), (3, .ref o), (0, .ref x), (1, .int (nI j)), (2, .int (nI j2))]) Z dX2_join_11 (by decide) rfl ?_
  refine g_aload_n Z dX2_join_13 1 rfl rfl ?_
  refine g_ifnull Z dX2_join_14 ?_
  refine g_aload Z dX2_join_17 0 rfl ?_
  refine g_ifnonnull (tgt := 24) Z dX2_join_19 (by decide) ?_
  refine g_aload_n Z dX2_join_24 1 rfl rfl ?_
  refine g_get Z dX2_join_25 5 rfl rfl nX2_join_X0 3 (by decide) fX2_join_43 rfl ?_
  refine g_aload Z dX2_join_28 0 rfl ?_
  refine g_get Z dX2_join_30 9 rfl rfl nX2_join_X0 3 (by decide) fX2_join_43 rfl ?_
  refine g_iaddE (z := nI (z + z2)) Z dX2_join_33 (nI_add z z2) ?_
  refine g_bipush Z dX2_join_34 zb_8 ?_
  refine g_icmpN_gt (tgt := 67) Z dX2_join_36 (by decide) (z + z2) 8 rfl rfl (by omega) (by omega) (fun c_36 => absurd c_36 (by omega)) (fun c_36 => ?_)
  refine g_aload_n Z dX2_join_39 1 rfl rfl ?_
  refine g_callVx (w' := [cO x 2 [.ref rw, .int (nI nb), .ref ln, .int (nI dn), .ref t1, .ref t2], cQ E rw 4 RF, cI E ln 12 D, cO t1 1 [.long (ta A), .long (tb A), .long (tc A), .long (td A), .long (te A), .long (tf A), .long (tg A)], cO t2 1 [.long (ta B), .long (tb B), .long (tc B), .long (td B), .long (te B), .long (tf B), .long (tg B)], cO o 0 [.ref k, .ref f, .ref s, .int (nI z)], cI E k 8 K, cI E f 8 F, cI E s 8 G, cO o2 0 [.ref k2, .ref f2, .ref s2, .int (nI z2)], cI E k2 8 K2, cI E f2 8 F2, cI E s2 8 G2]) Z (qX0_bending E o k f s K F G z (by omega)) iX0_bending gX2_join_X0_bending ⟨rfl, rfl⟩ ⟨Nat.le_of_ble_eq_true rfl, Nat.le_of_ble_eq_true rfl⟩ dX2_join_40 rfl rfl (Nat.le_of_ble_eq_true rfl) ⟨Nat.zero_le _, Nat.zero_le _⟩ [5, 6, 7, 8] rfl rfl 0 rfl rfl rfl rfl rfl ?_
  refine g_aload Z dX2_join_43 0 rfl ?_
  refine g_callVx (w' := [cO x 2 [.ref rw, .int (nI nb), .ref ln, .int (nI dn), .ref t1, .ref t2], cQ E rw 4 RF, cI E ln 12 D, cO t1 1 [.long (ta A), .long (tb A), .long (tc A), .long (td A), .long (te A), .long (tf A), .long (tg A)], cO t2 1 [.long (ta B), .long (tb B), .long (tc B), .long (td B), .long (te B), .long (tf B), .long (tg B)], cO o 0 [.ref k, .ref f, .ref s, .int (nI z)], cI E k 8 K, cI E f 8 F, cI E s 8 G, cO o2 0 [.ref k2, .ref f2, .ref s2, .int (nI z2)], cI E k2 8 K2, cI E f2 8 F2, cI E s2 8 G2]) Z (qX0_bending E o2 k2 f2 s2 K2 F2 G2 z2 (by omega)) iX0_bending gX2_join_X0_bending ⟨rfl, rfl⟩ ⟨Nat.le_of_ble_eq_true rfl, Nat.le_of_ble_eq_true rfl⟩ dX2_join_45 rfl rfl (Nat.le_of_ble_eq_true rfl) ⟨Nat.zero_le _, Nat.zero_le _⟩ [9, 10, 11, 12] rfl rfl 0 rfl rfl rfl rfl rfl ?_
  refine g_iaddE (z := nI (nBent K z + (nBent K2 z2))) Z dX2_join_48 (nI_add (nBent K z) (nBent K2 z2)) ?_
  refine g_iconst Z dX2_join_49 zi_3 ?_
  refine g_icmpN_gt (tgt := 67) Z dX2_join_50 (by decide) (nBent K z + (nBent K2 z2)) 3 rfl rfl (by omega) (by omega) (fun c_50 => absurd c_50 (by omega)) (fun c_50 => ?_)
  refine g_aload_n Z dX2_join_53 1 rfl rfl ?_
  refine g_callVx (w' := [cO x 2 [.ref rw, .int (nI nb), .ref ln, .int (nI dn), .ref t1, .ref t2], cQ E rw 4 RF, cI E ln 12 D, cO t1 1 [.long (ta A), .long (tb A), .long (tc A), .long (td A), .long (te A), .long (tf A), .long (tg A)], cO t2 1 [.long (ta B), .long (tb B), .long (tc B), .long (td B), .long (te B), .long (tf B), .long (tg B)], cO o 0 [.ref k, .ref f, .ref s, .int (nI z)], cI E k 8 K, cI E f 8 F, cI E s 8 G, cO o2 0 [.ref k2, .ref f2, .ref s2, .int (nI z2)], cI E k2 8 K2, cI E f2 8 F2, cI E s2 8 G2]) Z (qX0_tilts E o k f s K F G z (by omega)) iX0_tilts gX2_join_X0_tilts ⟨rfl, rfl⟩ ⟨Nat.le_of_ble_eq_true rfl, Nat.le_of_ble_eq_true rfl⟩ dX2_join_54 rfl rfl (Nat.le_of_ble_eq_true rfl) ⟨Nat.zero_le _, Nat.zero_le _⟩ [5, 6, 7, 8] rfl rfl 0 rfl rfl rfl rfl rfl ?_
  refine g_aload Z dX2_join_57 0 rfl ?_
  refine g_callVx (w' := [cO x 2 [.ref rw, .int (nI nb), .ref ln, .int (nI dn), .ref t1, .ref t2], cQ E rw 4 RF, cI E ln 12 D, cO t1 1 [.long (ta A), .long (tb A), .long (tc A), .long (td A), .long (te A), .long (tf A), .long (tg A)], cO t2 1 [.long (ta B), .long (tb B), .long (tc B), .long (td B), .long (te B), .long (tf B), .long (tg B)], cO o 0 [.ref k, .ref f, .ref s, .int (nI z)], cI E k 8 K, cI E f 8 F, cI E s 8 G, cO o2 0 [.ref k2, .ref f2, .ref s2, .int (nI z2)], cI E k2 8 K2, cI E f2 8 F2, cI E s2 8 G2]) Z (qX0_tilts E o2 k2 f2 s2 K2 F2 G2 z2 (by omega)) iX0_tilts gX2_join_X0_tilts ⟨rfl, rfl⟩ ⟨Nat.le_of_ble_eq_true rfl, Nat.le_of_ble_eq_true rfl⟩ dX2_join_59 rfl rfl (Nat.le_of_ble_eq_true rfl) ⟨Nat.zero_le _, Nat.zero_le _⟩ [9, 10, 11, 12] rfl rfl 0 rfl rfl rfl rfl rfl ?_
  refine g_iaddE (z := nI (nTilt K z + (nTilt K2 z2))) Z dX2_join_62 (nI_add (nTilt K z) (nTilt K2 z2)) ?_
  refine g_iconst Z dX2_join_63 zi_2 ?_
  refine g_icmpN_le (tgt := 70) Z dX2_join_64 (by decide) (nTilt K z + (nTilt K2 z2)) 2 rfl rfl (by omega) (by omega) (fun c_64 => ?_) (fun c_64 => absurd c_64 (by omega))
  refine g_aload_n Z dX2_join_70 1 rfl rfl ?_
  refine g_aload Z dX2_join_71 0 rfl ?_
  refine g_callVx (w' := [cO x 2 [.ref rw, .int (nI nb), .ref ln, .int (nI dn), .ref t1, .ref t2], cQ E rw 4 RF, cI E ln 12 D, cO t1 1 [.long (ta A), .long (tb A), .long (tc A), .long (td A), .long (te A), .long (tf A), .long (tg A)], cO t2 1 [.long (ta B), .long (tb B), .long (tc B), .long (td B), .long (te B), .long (tf B), .long (tg B)], cO o 0 [.ref k, .ref f, .ref s, .int (nI (z + z2))], cI E k 8 (appF K K2 z 0 z2), cI E f 8 (appF F F2 z 0 z2), cI E s 8 (appF G G2 z 0 z2), cO o2 0 [.ref k2, .ref f2, .ref s2, .int (nI z2)], cI E k2 8 K2, cI E f2 8 F2, cI E s2 8 G2]) Z (qX0_append E o k f s o2 k2 f2 s2 K F G K2 F2 G2 z z2 (by omega)) iX0_append gX2_join_X0_append ⟨rfl, rfl⟩ ⟨Nat.le_of_ble_eq_true rfl, Nat.le_of_ble_eq_true rfl⟩ dX2_join_73 rfl rfl (Nat.le_of_ble_eq_true rfl) ⟨Nat.zero_le _, Nat.zero_le _⟩ [5, 6, 7, 8, 9, 10, 11, 12] rfl rfl 0 rfl rfl rfl rfl rfl ?_
  refine g_aload_n Z dX2_join_76 1 rfl rfl ?_
  refine g_get Z dX2_join_77 5 rfl rfl nX2_join_X0 3 (by decide) fX2_join_43 rfl ?_
  exact g_iret Z dX2_join_80 rfl ⟨Nat.zero_le _, Nat.zero_le _⟩ ⟨rfl, rfl⟩


set_option maxHeartbeats 4000000 in
set_option maxRecDepth 100000 in
theorem qX2_joinSF (E : zE) (x rw ln t1 t2 : Nat) (nb dn : Nat) (RF : Nat → Option Nat) (D : Nat → Int32) (A B : TB) (o k f s : Nat) (K F G : Nat → Int32) (z : Nat) (j : Nat) (hnb : nb ≤ 4) (hj : j < nb) (hr : RF j = some o) (hz : z ≤ 8) (hf : 8 < z + z ∨ 3 < nBent K z + nBent K z ∨ 2 < nTilt K z + nTilt K z) : zF E yX2_join wsX2_join rX2_join [.ref x, .int (nI j), .int (nI j)] [cO x 2 [.ref rw, .int (nI nb), .ref ln, .int (nI dn), .ref t1, .ref t2], cQ E rw 4 RF, cI E ln 12 D, cO t1 1 [.long (ta A), .long (tb A), .long (tc A), .long (td A), .long (te A), .long (tf A), .long (tg A)], cO t2 1 [.long (ta B), .long (tb B), .long (tc B), .long (td B), .long (te B), .long (tf B), .long (tg B)], cO o 0 [.ref k, .ref f, .ref s, .int (nI z)], cI E k 8 K, cI E f 8 F, cI E s 8 G] (zx (some (.int (-4))) ([cO x 2 [.ref rw, .int (nI nb), .ref ln, .int (nI dn), .ref t1, .ref t2], cQ E rw 4 RF, cI E ln 12 D, cO t1 1 [.long (ta A), .long (tb A), .long (tc A), .long (td A), .long (te A), .long (tf A), .long (tg A)], cO t2 1 [.long (ta B), .long (tb B), .long (tc B), .long (td B), .long (te B), .long (tf B), .long (tg B)], cO o 0 [.ref k, .ref f, .ref s, .int (nI z)], cI E k 8 K, cI E f 8 F, cI E s 8 G])) := by
  refine z_start RX2 "join" (by decide) rfl rfl rfl (Nat.le_of_ble_eq_true rfl) ?_
  intro J Z
  refine g_eq Z (lv2 := [(0, .ref x), (1, .int (nI j)), (2, .int (nI j))]) rfl rfl rfl ?_
  have hb1 := nBent_le K z
  have hb2 := nTilt_le K z
  refine g_aload_n Z dX2_join_0 0 rfl rfl ?_
  refine g_iload_n Z dX2_join_1 1 rfl rfl ?_
  refine g_callVx (w' := [cO x 2 [.ref rw, .int (nI nb), .ref ln, .int (nI dn), .ref t1, .ref t2], cQ E rw 4 RF, cI E ln 12 D, cO t1 1 [.long (ta A), .long (tb A), .long (tc A), .long (td A), .long (te A), .long (tf A), .long (tg A)], cO t2 1 [.long (ta B), .long (tb B), .long (tc B), .long (td B), .long (te B), .long (tf B), .long (tg B)], cO o 0 [.ref k, .ref f, .ref s, .int (nI z)], cI E k 8 K, cI E f 8 F, cI E s 8 G]) Z (qX2_rowAt E x rw ln t1 t2 nb dn RF j o hj hnb hr) iX2_rowAt gX2_join_X2_rowAt ⟨rfl, rfl⟩ ⟨Nat.le_of_ble_eq_true rfl, Nat.le_of_ble_eq_true rfl⟩ dX2_join_2 rfl rfl (Nat.le_of_ble_eq_true rfl) ⟨Nat.zero_le _, Nat.zero_le _⟩ [0, 1] rfl rfl 0 rfl rfl rfl rfl rfl ?_
  refine g_astore_n (lv' := [(3, .ref o), (0, .ref x), (1, .int (nI j)), (2, .int (nI j))]) Z dX2_join_5 rfl (by decide) rfl ?_
  refine g_aload_n Z dX2_join_6 1 rfl rfl ?_
  refine g_iload_n Z dX2_join_7 3 rfl rfl ?_
  refine g_callVx (w' := [cO x 2 [.ref rw, .int (nI nb), .ref ln, .int (nI dn), .ref t1, .ref t2], cQ E rw 4 RF, cI E ln 12 D, cO t1 1 [.long (ta A), .long (tb A), .long (tc A), .long (td A), .long (te A), .long (tf A), .long (tg A)], cO t2 1 [.long (ta B), .long (tb B), .long (tc B), .long (td B), .long (te B), .long (tf B), .long (tg B)], cO o 0 [.ref k, .ref f, .ref s, .int (nI z)], cI E k 8 K, cI E f 8 F, cI E s 8 G]) Z (qX2_rowAt E x rw ln t1 t2 nb dn RF j o hj hnb hr) iX2_rowAt gX2_join_X2_rowAt ⟨rfl, rfl⟩ ⟨Nat.le_of_ble_eq_true rfl, Nat.le_of_ble_eq_true rfl⟩ dX2_join_8 rfl rfl (Nat.le_of_ble_eq_true rfl) ⟨Nat.zero_le _, Nat.zero_le _⟩ [0, 1] rfl rfl 0 rfl rfl rfl rfl rfl ?_
  refine g_astore (lv' := [(4, .ref o), (3, .ref o), (0, .ref x), (1, .int (nI j)), (2, .int (nI j))]) Z dX2_join_11 (by decide) rfl ?_
  refine g_aload_n Z dX2_join_13 1 rfl rfl ?_
  refine g_ifnull Z dX2_join_14 ?_
  refine g_aload Z dX2_join_17 0 rfl ?_
  refine g_ifnonnull (tgt := 24) Z dX2_join_19 (by decide) ?_
  refine g_aload_n Z dX2_join_24 1 rfl rfl ?_
  refine g_get Z dX2_join_25 5 rfl rfl nX2_join_X0 3 (by decide) fX2_join_43 rfl ?_
  refine g_aload Z dX2_join_28 0 rfl ?_
  refine g_get Z dX2_join_30 5 rfl rfl nX2_join_X0 3 (by decide) fX2_join_43 rfl ?_
  refine g_iaddE (z := nI (z + z)) Z dX2_join_33 (nI_add z z) ?_
  refine g_bipush Z dX2_join_34 zb_8 ?_
  refine g_icmpN_gt (tgt := 67) Z dX2_join_36 (by decide) (z + z) 8 rfl rfl (by omega) (by omega) (fun c_36 => ?_) (fun c_36 => ?_)
  · refine g_bipush Z dX2_join_67 zb_m4 ?_
    exact g_iret Z dX2_join_69 rfl ⟨Nat.zero_le _, Nat.zero_le _⟩ ⟨rfl, rfl⟩
  · refine g_aload_n Z dX2_join_39 1 rfl rfl ?_
    refine g_callVx (w' := [cO x 2 [.ref rw, .int (nI nb), .ref ln, .int (nI dn), .ref t1, .ref t2], cQ E rw 4 RF, cI E ln 12 D, cO t1 1 [.long (ta A), .long (tb A), .long (tc A), .long (td A), .long (te A), .long (tf A), .long (tg A)], cO t2 1 [.long (ta B), .long (tb B), .long (tc B), .long (td B), .long (te B), .long (tf B), .long (tg B)], cO o 0 [.ref k, .ref f, .ref s, .int (nI z)], cI E k 8 K, cI E f 8 F, cI E s 8 G]) Z (qX0_bending E o k f s K F G z (by omega)) iX0_bending gX2_join_X0_bending ⟨rfl, rfl⟩ ⟨Nat.le_of_ble_eq_true rfl, Nat.le_of_ble_eq_true rfl⟩ dX2_join_40 rfl rfl (Nat.le_of_ble_eq_true rfl) ⟨Nat.zero_le _, Nat.zero_le _⟩ [5, 6, 7, 8] rfl rfl 0 rfl rfl rfl rfl rfl ?_
    refine g_aload Z dX2_join_43 0 rfl ?_
    refine g_callVx (w' := [cO x 2 [.ref rw, .int (nI nb), .ref ln, .int (nI dn), .ref t1, .ref t2], cQ E rw 4 RF, cI E ln 12 D, cO t1 1 [.long (ta A), .long (tb A), .long (tc A), .long (td A), .long (te A), .long (tf A), .long (tg A)], cO t2 1 [.long (ta B), .long (tb B), .long (tc B), .long (td B), .long (te B), .long (tf B), .long (tg B)], cO o 0 [.ref k, .ref f, .ref s, .int (nI z)], cI E k 8 K, cI E f 8 F, cI E s 8 G]) Z (qX0_bending E o k f s K F G z (by omega)) iX0_bending gX2_join_X0_bending ⟨rfl, rfl⟩ ⟨Nat.le_of_ble_eq_true rfl, Nat.le_of_ble_eq_true rfl⟩ dX2_join_45 rfl rfl (Nat.le_of_ble_eq_true rfl) ⟨Nat.zero_le _, Nat.zero_le _⟩ [5, 6, 7, 8] rfl rfl 0 rfl rfl rfl rfl rfl ?_
    refine g_iaddE (z := nI (nBent K z + (nBent K z))) Z dX2_join_48 (nI_add (nBent K z) (nBent K z)) ?_
    refine g_iconst Z dX2_join_49 zi_3 ?_
    refine g_icmpN_gt (tgt := 67) Z dX2_join_50 (by decide) (nBent K z + (nBent K z)) 3 rfl rfl (by omega) (by omega) (fun c_50 => ?_) (fun c_50 => ?_)
    · refine g_bipush Z dX2_join_67 zb_m4 ?_
      exact g_iret Z dX2_join_69 rfl ⟨Nat.zero_le _, Nat.zero_le _⟩ ⟨rfl, rfl⟩
    · refine g_aload_n Z dX2_join_53 1 rfl rfl ?_
      refine g_callVx (w' := [cO x 2 [.ref rw, .int (nI nb), .ref ln, .int (nI dn), .ref t1, .ref t2], cQ E rw 4 RF, cI E ln 12 D, cO t1 1 [.long (ta A), .long (tb A), .long (tc A), .long (td A), .long (te A), .long (tf A), .long (tg A)], cO t2 1 [.long (ta B), .long (tb B), .long (tc B), .long (td B), .long (te B), .long (tf B), .long (tg B)], cO o 0 [.ref k, .ref f, .ref s, .int (nI z)], cI E k 8 K, cI E f 8 F, cI E s 8 G]) Z (qX0_tilts E o k f s K F G z (by omega)) iX0_tilts gX2_join_X0_tilts ⟨rfl, rfl⟩ ⟨Nat.le_of_ble_eq_true rfl, Nat.le_of_ble_eq_true rfl⟩ dX2_join_54 rfl rfl (Nat.le_of_ble_eq_true rfl) ⟨Nat.zero_le _, Nat.zero_le _⟩ [5, 6, 7, 8] rfl rfl 0 rfl rfl rfl rfl rfl ?_
      refine g_aload Z dX2_join_57 0 rfl ?_
      refine g_callVx (w' := [cO x 2 [.ref rw, .int (nI nb), .ref ln, .int (nI dn), .ref t1, .ref t2], cQ E rw 4 RF, cI E ln 12 D, cO t1 1 [.long (ta A), .long (tb A), .long (tc A), .long (td A), .long (te A), .long (tf A), .long (tg A)], cO t2 1 [.long (ta B), .long (tb B), .long (tc B), .long (td B), .long (te B), .long (tf B), .long (tg B)], cO o 0 [.ref k, .ref f, .ref s, .int (nI z)], cI E k 8 K, cI E f 8 F, cI E s 8 G]) Z (qX0_tilts E o k f s K F G z (by omega)) iX0_tilts gX2_join_X0_tilts ⟨rfl, rfl⟩ ⟨Nat.le_of_ble_eq_true rfl, Nat.le_of_ble_eq_true rfl⟩ dX2_join_59 rfl rfl (Nat.le_of_ble_eq_true rfl) ⟨Nat.zero_le _, Nat.zero_le _⟩ [5, 6, 7, 8] rfl rfl 0 rfl rfl rfl rfl rfl ?_
      refine g_iaddE (z := nI (nTilt K z + (nTilt K z))) Z dX2_join_62 (nI_add (nTilt K z) (nTilt K z)) ?_
      refine g_iconst Z dX2_join_63 zi_2 ?_
      refine g_icmpN_le (tgt := 70) Z dX2_join_64 (by decide) (nTilt K z + (nTilt K z)) 2 rfl rfl (by omega) (by omega) (fun c_64 => ?_) (fun c_64 => ?_)
      · exact absurd hf (by omega)
      · refine g_bipush Z dX2_join_67 zb_m4 ?_
        exact g_iret Z dX2_join_69 rfl ⟨Nat.zero_le _, Nat.zero_le _⟩ ⟨rfl, rfl⟩


set_option maxHeartbeats 4000000 in
set_option maxRecDepth 100000 in
theorem qX2_joinS (E : zE) (x rw ln t1 t2 : Nat) (nb dn : Nat) (RF : Nat → Option Nat) (D : Nat → Int32) (A B : TB) (o k f s : Nat) (K F G : Nat → Int32) (z : Nat) (j : Nat) (hnb : nb ≤ 4) (hj : j < nb) (hr : RF j = some o) (hz : z ≤ 8) (hf : ¬ (8 < z + z ∨ 3 < nBent K z + nBent K z ∨ 2 < nTilt K z + nTilt K z)) : zF E yX2_join wsX2_join rX2_join [.ref x, .int (nI j), .int (nI j)] [cO x 2 [.ref rw, .int (nI nb), .ref ln, .int (nI dn), .ref t1, .ref t2], cQ E rw 4 RF, cI E ln 12 D, cO t1 1 [.long (ta A), .long (tb A), .long (tc A), .long (td A), .long (te A), .long (tf A), .long (tg A)], cO t2 1 [.long (ta B), .long (tb B), .long (tc B), .long (td B), .long (te B), .long (tf B), .long (tg B)], cO o 0 [.ref k, .ref f, .ref s, .int (nI z)], cI E k 8 K, cI E f 8 F, cI E s 8 G] (zx (some (.int (nI (z + z)))) ([cO x 2 [.ref rw, .int (nI nb), .ref ln, .int (nI dn), .ref t1, .ref t2], cQ E rw 4 RF, cI E ln 12 D, cO t1 1 [.long (ta A), .long (tb A), .long (tc A), .long (td A), .long (te A), .long (tf A), .long (tg A)], cO t2 1 [.long (ta B), .long (tb B), .long (tc B), .long (td B), .long (te B), .long (tf B), .long (tg B)], cO o 0 [.ref k, .ref f, .ref s, .int (nI (z + z))], cI E k 8 (appF K K z 0 z), cI E f 8 (appF F F z 0 z), cI E s 8 (appF G G z 0 z)])) := by
  refine z_start RX2 "join" (by decide) rfl rfl rfl (Nat.le_of_ble_eq_true rfl) ?_
  intro J Z
  refine g_eq Z (lv2 := [(0, .ref x), (1, .int (nI j)), (2, .int (nI j))]) rfl rfl rfl ?_
  have hb1 := nBent_le K z
  have hb2 := nTilt_le K z
  refine g_aload_n Z dX2_join_0 0 rfl rfl ?_
  refine g_iload_n Z dX2_join_1 1 rfl rfl ?_
  refine g_callVx (w' := [cO x 2 [.ref rw, .int (nI nb), .ref ln, .int (nI dn), .ref t1, .ref t2], cQ E rw 4 RF, cI E ln 12 D, cO t1 1 [.long (ta A), .long (tb A), .long (tc A), .long (td A), .long (te A), .long (tf A), .long (tg A)], cO t2 1 [.long (ta B), .long (tb B), .long (tc B), .long (td B), .long (te B), .long (tf B), .long (tg B)], cO o 0 [.ref k, .ref f, .ref s, .int (nI z)], cI E k 8 K, cI E f 8 F, cI E s 8 G]) Z (qX2_rowAt E x rw ln t1 t2 nb dn RF j o hj hnb hr) iX2_rowAt gX2_join_X2_rowAt ⟨rfl, rfl⟩ ⟨Nat.le_of_ble_eq_true rfl, Nat.le_of_ble_eq_true rfl⟩ dX2_join_2 rfl rfl (Nat.le_of_ble_eq_true rfl) ⟨Nat.zero_le _, Nat.zero_le _⟩ [0, 1] rfl rfl 0 rfl rfl rfl rfl rfl ?_
  refine g_astore_n (lv' := [(3, .ref o), (0, .ref x), (1, .int (nI j)), (2, .int (nI j))]) Z dX2_join_5 rfl (by decide) rfl ?_
  refine g_aload_n Z dX2_join_6 1 rfl rfl ?_
  refine g_iload_n Z dX2_join_7 3 rfl rfl ?_
  refine g_callVx (w' := [cO x 2 [.ref rw, .int (nI nb), .ref ln, .int (nI dn), .ref t1, .ref t2], cQ E rw 4 RF, cI E ln 12 D, cO t1 1 [.long (ta A), .long (tb A), .long (tc A), .long (td A), .long (te A), .long (tf A), .long (tg A)], cO t2 1 [.long (ta B), .long (tb B), .long (tc B), .long (td B), .long (te B), .long (tf B), .long (tg B)], cO o 0 [.ref k, .ref f, .ref s, .int (nI z)], cI E k 8 K, cI E f 8 F, cI E s 8 G]) Z (qX2_rowAt E x rw ln t1 t2 nb dn RF j o hj hnb hr) iX2_rowAt gX2_join_X2_rowAt ⟨rfl, rfl⟩ ⟨Nat.le_of_ble_eq_true rfl, Nat.le_of_ble_eq_true rfl⟩ dX2_join_8 rfl rfl (Nat.le_of_ble_eq_true rfl) ⟨Nat.zero_le _, Nat.zero_le _⟩ [0, 1] rfl rfl 0 rfl rfl rfl rfl rfl ?_
  refine g_astore (lv' := [(4, .ref o), (3, .ref o), (0, .ref x), (1, .int (nI j)), (2, .int (nI j))]) Z dX2_join_11 (by decide) rfl ?_
  refine g_aload_n Z dX2_join_13 1 rfl rfl ?_
  refine g_ifnull Z dX2_join_14 ?_
  refine g_aload Z dX2_join_17 0 rfl ?_
  refine g_ifnonnull (tgt := 24) Z dX2_join_19 (by decide) ?_
  refine g_aload_n Z dX2_join_24 1 rfl rfl ?_
  refine g_get Z dX2_join_25 5 rfl rfl nX2_join_X0 3 (by decide) fX2_join_43 rfl ?_
  refine g_aload Z dX2_join_28 0 rfl ?_
  refine g_get Z dX2_join_30 5 rfl rfl nX2_join_X0 3 (by decide) fX2_join_43 rfl ?_
  refine g_iaddE (z := nI (z + z)) Z dX2_join_33 (nI_add z z) ?_
  refine g_bipush Z dX2_join_34 zb_8 ?_
  refine g_icmpN_gt (tgt := 67) Z dX2_join_36 (by decide) (z + z) 8 rfl rfl (by omega) (by omega) (fun c_36 => absurd c_36 (by omega)) (fun c_36 => ?_)
  refine g_aload_n Z dX2_join_39 1 rfl rfl ?_
  refine g_callVx (w' := [cO x 2 [.ref rw, .int (nI nb), .ref ln, .int (nI dn), .ref t1, .ref t2], cQ E rw 4 RF, cI E ln 12 D, cO t1 1 [.long (ta A), .long (tb A), .long (tc A), .long (td A), .long (te A), .long (tf A), .long (tg A)], cO t2 1 [.long (ta B), .long (tb B), .long (tc B), .long (td B), .long (te B), .long (tf B), .long (tg B)], cO o 0 [.ref k, .ref f, .ref s, .int (nI z)], cI E k 8 K, cI E f 8 F, cI E s 8 G]) Z (qX0_bending E o k f s K F G z (by omega)) iX0_bending gX2_join_X0_bending ⟨rfl, rfl⟩ ⟨Nat.le_of_ble_eq_true rfl, Nat.le_of_ble_eq_true rfl⟩ dX2_join_40 rfl rfl (Nat.le_of_ble_eq_true rfl) ⟨Nat.zero_le _, Nat.zero_le _⟩ [5, 6, 7, 8] rfl rfl 0 rfl rfl rfl rfl rfl ?_
  refine g_aload Z dX2_join_43 0 rfl ?_
  refine g_callVx (w' := [cO x 2 [.ref rw, .int (nI nb), .ref ln, .int (nI dn), .ref t1, .ref t2], cQ E rw 4 RF, cI E ln 12 D, cO t1 1 [.long (ta A), .long (tb A), .long (tc A), .long (td A), .long (te A), .long (tf A), .long (tg A)], cO t2 1 [.long (ta B), .long (tb B), .long (tc B), .long (td B), .long (te B), .long (tf B), .long (tg B)], cO o 0 [.ref k, .ref f, .ref s, .int (nI z)], cI E k 8 K, cI E f 8 F, cI E s 8 G]) Z (qX0_bending E o k f s K F G z (by omega)) iX0_bending gX2_join_X0_bending ⟨rfl, rfl⟩ ⟨Nat.le_of_ble_eq_true rfl, Nat.le_of_ble_eq_true rfl⟩ dX2_join_45 rfl rfl (Nat.le_of_ble_eq_true rfl) ⟨Nat.zero_le _, Nat.zero_le _⟩ [5, 6, 7, 8] rfl rfl 0 rfl rfl rfl rfl rfl ?_
  refine g_iaddE (z := nI (nBent K z + (nBent K z))) Z dX2_join_48 (nI_add (nBent K z) (nBent K z)) ?_
  refine g_iconst Z dX2_join_49 zi_3 ?_
  refine g_icmpN_gt (tgt := 67) Z dX2_join_50 (by decide) (nBent K z + (nBent K z)) 3 rfl rfl (by omega) (by omega) (fun c_50 => absurd c_50 (by omega)) (fun c_50 => ?_)
  refine g_aload_n Z dX2_join_53 1 rfl rfl ?_
  refine g_callVx (w' := [cO x 2 [.ref rw, .int (nI nb), .ref ln, .int (nI dn), .ref t1, .ref t2], cQ E rw 4 RF, cI E ln 12 D, cO t1 1 [.long (ta A), .long (tb A), .long (tc A), .long (td A), .long (te A), .long (tf A), .long (tg A)], cO t2 1 [.long (ta B), .long (tb B), .long (tc B), .long (td B), .long (te B), .long (tf B), .long (tg B)], cO o 0 [.ref k, .ref f, .ref s, .int (nI z)], cI E k 8 K, cI E f 8 F, cI E s 8 G]) Z (qX0_tilts E o k f s K F G z (by omega)) iX0_tilts gX2_join_X0_tilts ⟨rfl, rfl⟩ ⟨Nat.le_of_ble_eq_true rfl, Nat.le_of_ble_eq_true rfl⟩ dX2_join_54 rfl rfl (Nat.le_of_ble_eq_true rfl) ⟨Nat.zero_le _, Nat.zero_le _⟩ [5, 6, 7, 8] rfl rfl 0 rfl rfl rfl rfl rfl ?_
  refine g_aload Z dX2_join_57 0 rfl ?_
  refine g_callVx (w' := [cO x 2 [.ref rw, .int (nI nb), .ref ln, .int (nI dn), .ref t1, .ref t2], cQ E rw 4 RF, cI E ln 12 D, cO t1 1 [.long (ta A), .long (tb A), .long (tc A), .long (td A), .long (te A), .long (tf A), .long (tg A)], cO t2 1 [.long (ta B), .long (tb B), .long (tc B), .long (td B), .long (te B), .long (tf B), .long (tg B)], cO o 0 [.ref k, .ref f, .ref s, .int (nI z)], cI E k 8 K, cI E f 8 F, cI E s 8 G]) Z (qX0_tilts E o k f s K F G z (by omega)) iX0_tilts gX2_join_X0_tilts ⟨rfl, rfl⟩ ⟨Nat.le_of_ble_eq_true rfl, Nat.le_of_ble_eq_true rfl⟩ dX2_join_59 rfl rfl (Nat.le_of_ble_eq_true rfl) ⟨Nat.zero_le _, Nat.zero_le _⟩ [5, 6, 7, 8] rfl rfl 0 rfl rfl rfl rfl rfl ?_
  refine g_iaddE (z := nI (nTilt K z + (nTilt K z))) Z dX2_join_62 (nI_add (nTilt K z) (nTilt K z)) ?_
  refine g_iconst Z dX2_join_63 zi_2 ?_
  refine g_icmpN_le (tgt := 70) Z dX2_join_64 (by decide) (nTilt K z + (nTilt K z)) 2 rfl rfl (by omega) (by omega) (fun c_64 => ?_) (fun c_64 => absurd c_64 (by omega))
  refine g_aload_n Z dX2_join_70 1 rfl rfl ?_
  refine g_aload Z dX2_join_71 0 rfl ?_
  refine g_callVx (w' := [cO x 2 [.ref rw, .int (nI nb), .ref ln, .int (nI dn), .ref t1, .ref t2], cQ E rw 4 RF, cI E ln 12 D, cO t1 1 [.long (ta A), .long (tb A), .long (tc A), .long (td A), .long (te A), .long (tf A), .long (tg A)], cO t2 1 [.long (ta B), .long (tb B), .long (tc B), .long (td B), .long (te B), .long (tf B), .long (tg B)], cO o 0 [.ref k, .ref f, .ref s, .int (nI (z + z))], cI E k 8 (appF K K z 0 z), cI E f 8 (appF F F z 0 z), cI E s 8 (appF G G z 0 z)]) Z (qX0_appendS E o k f s K F G z (by omega)) iX0_append gX2_join_X0_append ⟨rfl, rfl⟩ ⟨Nat.le_of_ble_eq_true rfl, Nat.le_of_ble_eq_true rfl⟩ dX2_join_73 rfl rfl (Nat.le_of_ble_eq_true rfl) ⟨Nat.zero_le _, Nat.zero_le _⟩ [5, 6, 7, 8] rfl rfl 0 rfl rfl rfl rfl rfl ?_
  refine g_aload_n Z dX2_join_76 1 rfl rfl ?_
  refine g_get Z dX2_join_77 5 rfl rfl nX2_join_X0 3 (by decide) fX2_join_43 rfl ?_
  exact g_iret Z dX2_join_80 rfl ⟨Nat.zero_le _, Nat.zero_le _⟩ ⟨rfl, rfl⟩
