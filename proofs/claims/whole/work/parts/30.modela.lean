abbrev rX3_in : Room := { frames := 0, cells := 0, slots := 0, locals := 0 }
theorem iX3_in : zInfo yX3_in wsX3_in RX3 4 (some .boolean) 3 := ⟨_, _, rfl, by decide +kernel⟩
set_option maxHeartbeats 4000000 in
set_option maxRecDepth 100000 in
theorem qX3_in (E : zE) (h m1 m2 m3 m4 m5 m6 : Nat) (nb dn : Nat) (T : TB) (v lo hi : Int32)  : zF E yX3_in wsX3_in rX3_in [.ref h, .int v, .int lo, .int hi] [cO h 3 [.int (nI nb), .ref m1, .ref m2, .ref m3, .ref m4, .int (nI dn), .ref m5, .ref m6, .long (tg T)]] (zx (some (.int (if ¬ v < lo ∧ ¬ hi < v then 1 else 0))) ([cO h 3 [.int (nI nb), .ref m1, .ref m2, .ref m3, .ref m4, .int (nI dn), .ref m5, .ref m6, .long (tg T)]])) := by
  refine z_start RX3 "in" (by decide) rfl rfl rfl (Nat.le_of_ble_eq_true rfl) ?_
  intro J Z
  refine g_eq Z (lv2 := [(0, .ref h), (1, .int v), (2, .int lo), (3, .int hi)]) rfl rfl rfl ?_
  refine g_iload_n Z dX3_in_0 1 rfl rfl ?_
  refine g_iload_n Z dX3_in_1 2 rfl rfl ?_
  refine g_icmp_lt (tgt := 14) Z dX3_in_2 (by decide) (fun c_2 => ?_) (fun c_2 => ?_)
  · refine g_iconst Z dX3_in_14 zi_0 ?_
    exact g_zret Z dX3_in_15 rfl rfl ⟨Nat.zero_le _, Nat.zero_le _⟩ ⟨z_f (by first | (simp [c_2]; done) | grind), rfl⟩
  · refine g_iload_n Z dX3_in_5 1 rfl rfl ?_
    refine g_iload_n Z dX3_in_6 3 rfl rfl ?_
    refine g_icmp_gt (tgt := 14) Z dX3_in_7 (by decide) (fun c_7 => ?_) (fun c_7 => ?_)
    · refine g_iconst Z dX3_in_14 zi_0 ?_
      exact g_zret Z dX3_in_15 rfl rfl ⟨Nat.zero_le _, Nat.zero_le _⟩ ⟨z_f (by first | (simp [c_2, c_7]; done) | grind), rfl⟩
    · refine g_iconst Z dX3_in_10 zi_1 ?_
      refine g_goto (tgt := 15) Z dX3_in_11 (by decide) ?_
      exact g_zret Z dX3_in_15 rfl rfl ⟨Nat.zero_le _, Nat.zero_le _⟩ ⟨z_t (by first | (simp [c_2, c_7]; done) | grind), rfl⟩

abbrev rX3_isBench : Room := { frames := 1, cells := 0, slots := 0, locals := 23 }
theorem iX3_isBench : zInfo yX3_isBench wsX3_isBench RX3 2 (some .boolean) 1 := ⟨_, _, rfl, by decide +kernel⟩
theorem nX3_isBench_X3 : ∀ w ∈ wsX30, w ∈ wsX3_isBench := by decide +kernel
theorem fX3_isBench_7 : Cond.fieldLink RX3 7 (TX3 0).1 (TX3 0).2.1 (TX3 0).2.2.1 ∈ wsX3_isBench := by decide +kernel
set_option maxHeartbeats 4000000 in
set_option maxRecDepth 100000 in
theorem qX3_isBench (E : zE) (h m1 m2 m3 m4 m5 m6 : Nat) (nb dn : Nat) (T : TB) (b : Int32) (hnb : nb ≤ 4) : zF E yX3_isBench wsX3_isBench rX3_isBench [.ref h, .int b] [cO h 3 [.int (nI nb), .ref m1, .ref m2, .ref m3, .ref m4, .int (nI dn), .ref m5, .ref m6, .long (tg T)]] (zx (some (.int (if inB nb b then 1 else 0))) ([cO h 3 [.int (nI nb), .ref m1, .ref m2, .ref m3, .ref m4, .int (nI dn), .ref m5, .ref m6, .long (tg T)]])) := by
  refine z_start RX3 "isBench" (by decide) rfl rfl rfl (Nat.le_of_ble_eq_true rfl) ?_
  intro J Z
  refine g_eq Z (lv2 := [(0, .ref h), (1, .int b)]) rfl rfl rfl ?_
  refine g_aload_n Z dX3_isBench_0 0 rfl rfl ?_
  refine g_iload_n Z dX3_isBench_1 1 rfl rfl ?_
  refine g_iconst Z dX3_isBench_2 zi_0 ?_
  refine g_aload_n Z dX3_isBench_3 0 rfl rfl ?_
  refine g_get Z dX3_isBench_4 0 rfl rfl nX3_isBench_X3 0 (by decide) fX3_isBench_7 rfl ?_
  refine g_iconst Z dX3_isBench_7 zi_1 ?_
  refine g_isub Z dX3_isBench_8 ?_
  refine g_callVx (w' := [cO h 3 [.int (nI nb), .ref m1, .ref m2, .ref m3, .ref m4, .int (nI dn), .ref m5, .ref m6, .long (tg T)]]) Z (qX3_in E h m1 m2 m3 m4 m5 m6 nb dn T b 0 ((nI nb) - 1)) iX3_in gX3_isBench_X3_in ⟨rfl, rfl⟩ ⟨Nat.le_of_ble_eq_true rfl, Nat.le_of_ble_eq_true rfl⟩ dX3_isBench_9 rfl rfl (Nat.le_of_ble_eq_true rfl) ⟨Nat.zero_le _, Nat.zero_le _⟩ [0] rfl rfl 0 rfl rfl rfl rfl rfl ?_
  exact g_zret Z dX3_isBench_12 rfl z_nb ⟨Nat.zero_le _, Nat.zero_le _⟩ ⟨z_bcong (inB_M (by omega)), rfl⟩

abbrev rX3_isWay : Room := { frames := 0, cells := 0, slots := 0, locals := 0 }
theorem iX3_isWay : zInfo yX3_isWay wsX3_isWay RX3 2 (some .boolean) 1 := ⟨_, _, rfl, by decide +kernel⟩
set_option maxHeartbeats 4000000 in
set_option maxRecDepth 100000 in
theorem qX3_isWay (E : zE) (h m1 m2 m3 m4 m5 m6 : Nat) (nb dn : Nat) (T : TB) (v : Int32)  : zF E yX3_isWay wsX3_isWay rX3_isWay [.ref h, .int v] [cO h 3 [.int (nI nb), .ref m1, .ref m2, .ref m3, .ref m4, .int (nI dn), .ref m5, .ref m6, .long (tg T)]] (zx (some (.int (if v = 0 ∨ v = 1 then 1 else 0))) ([cO h 3 [.int (nI nb), .ref m1, .ref m2, .ref m3, .ref m4, .int (nI dn), .ref m5, .ref m6, .long (tg T)]])) := by
  refine z_start RX3 "isWay" (by decide) rfl rfl rfl (Nat.le_of_ble_eq_true rfl) ?_
  intro J Z
  refine g_eq Z (lv2 := [(0, .ref h), (1, .int v)]) rfl rfl rfl ?_
  refine g_iload_n Z dX3_isWay_0 1 rfl rfl ?_
  refine g_if_eq (tgt := 9) Z dX3_isWay_1 (by decide) (fun c_1 => ?_) (fun c_1 => ?_)
  · refine g_iconst Z dX3_isWay_9 zi_1 ?_
    refine g_goto (tgt := 14) Z dX3_isWay_10 (by decide) ?_
    exact g_zret Z dX3_isWay_14 rfl rfl ⟨Nat.zero_le _, Nat.zero_le _⟩ ⟨z_t (by first | (simp [c_1]; done) | grind), rfl⟩
  · refine g_iload_n Z dX3_isWay_4 1 rfl rfl ?_
    refine g_iconst Z dX3_isWay_5 zi_1 ?_
    refine g_icmp_ne (tgt := 13) Z dX3_isWay_6 (by decide) (fun c_6 => ?_) (fun c_6 => ?_)
    · refine g_iconst Z dX3_isWay_13 zi_0 ?_
      exact g_zret Z dX3_isWay_14 rfl rfl ⟨Nat.zero_le _, Nat.zero_le _⟩ ⟨z_f (by first | (simp [c_1, c_6]; done) | grind), rfl⟩
    · refine g_iconst Z dX3_isWay_9 zi_1 ?_
      refine g_goto (tgt := 14) Z dX3_isWay_10 (by decide) ?_
      exact g_zret Z dX3_isWay_14 rfl rfl ⟨Nat.zero_le _, Nat.zero_le _⟩ ⟨z_t (by first | (simp [c_1, c_6]; done) | grind), rfl⟩

abbrev rX3_isBent : Room := { frames := 1, cells := 0, slots := 0, locals := 23 }
theorem iX3_isBent : zInfo yX3_isBent wsX3_isBent RX3 2 (some .boolean) 1 := ⟨_, _, rfl, by decide +kernel⟩
set_option maxHeartbeats 4000000 in
set_option maxRecDepth 100000 in
theorem qX3_isBent (E : zE) (h m1 m2 m3 m4 m5 m6 : Nat) (nb dn : Nat) (T : TB) (a : Int32)  : zF E yX3_isBent wsX3_isBent rX3_isBent [.ref h, .int a] [cO h 3 [.int (nI nb), .ref m1, .ref m2, .ref m3, .ref m4, .int (nI dn), .ref m5, .ref m6, .long (tg T)]] (zx (some (.int (if bnt a then 1 else 0))) ([cO h 3 [.int (nI nb), .ref m1, .ref m2, .ref m3, .ref m4, .int (nI dn), .ref m5, .ref m6, .long (tg T)]])) := by
  refine z_start RX3 "isBent" (by decide) rfl rfl rfl (Nat.le_of_ble_eq_true rfl) ?_
  intro J Z
  refine g_eq Z (lv2 := [(0, .ref h), (1, .int a)]) rfl rfl rfl ?_
  refine g_aload_n Z dX3_isBent_0 0 rfl rfl ?_
  refine g_iload_n Z dX3_isBent_1 1 rfl rfl ?_
  refine g_bipush Z dX3_isBent_2 zb_m9 ?_
  refine g_bipush Z dX3_isBent_4 zb_9 ?_
  refine g_callVx (w' := [cO h 3 [.int (nI nb), .ref m1, .ref m2, .ref m3, .ref m4, .int (nI dn), .ref m5, .ref m6, .long (tg T)]]) Z (qX3_in E h m1 m2 m3 m4 m5 m6 nb dn T a (-9) 9) iX3_in gX3_isBent_X3_in ⟨rfl, rfl⟩ ⟨Nat.le_of_ble_eq_true rfl, Nat.le_of_ble_eq_true rfl⟩ dX3_isBent_6 rfl rfl (Nat.le_of_ble_eq_true rfl) ⟨Nat.zero_le _, Nat.zero_le _⟩ [0] rfl rfl 0 rfl rfl rfl rfl rfl ?_
  refine g_ifb_eq (tgt := 20) Z dX3_isBent_9 (by decide) (fun c_9 => ?_) (fun c_9 => ?_)
  · refine g_iconst Z dX3_isBent_20 zi_0 ?_
    exact g_zret Z dX3_isBent_21 rfl rfl ⟨Nat.zero_le _, Nat.zero_le _⟩ ⟨z_f (by first | (simp [bnt, c_9]; done) | grind), rfl⟩
  · refine g_iload_n Z dX3_isBent_12 1 rfl rfl ?_
    refine g_if_eq (tgt := 20) Z dX3_isBent_13 (by decide) (fun c_13 => ?_) (fun c_13 => ?_)
    · refine g_iconst Z dX3_isBent_20 zi_0 ?_
      exact g_zret Z dX3_isBent_21 rfl rfl ⟨Nat.zero_le _, Nat.zero_le _⟩ ⟨z_f (by first | (simp [bnt, c_9, c_13]; done) | grind), rfl⟩
    · refine g_iconst Z dX3_isBent_16 zi_1 ?_
      refine g_goto (tgt := 21) Z dX3_isBent_17 (by decide) ?_
      exact g_zret Z dX3_isBent_21 rfl rfl ⟨Nat.zero_le _, Nat.zero_le _⟩ ⟨z_t (by first | (simp [bnt, c_9, c_13]; done) | grind), rfl⟩

abbrev rX3_isGood : Room := { frames := 2, cells := 0, slots := 0, locals := 44 }
theorem iX3_isGood : zInfo yX3_isGood wsX3_isGood RX3 4 (some .boolean) 3 := ⟨_, _, rfl, by decide +kernel⟩
set_option maxHeartbeats 4000000 in
set_option maxRecDepth 100000 in
theorem qX3_isGood (E : zE) (h m1 m2 m3 m4 m5 m6 : Nat) (nb dn : Nat) (T : TB) (kd a b : Int32)  : zF E yX3_isGood wsX3_isGood rX3_isGood [.ref h, .int kd, .int a, .int b] [cO h 3 [.int (nI nb), .ref m1, .ref m2, .ref m3, .ref m4, .int (nI dn), .ref m5, .ref m6, .long (tg T)]] (zx (some (.int (if gdP kd a b then 1 else 0))) ([cO h 3 [.int (nI nb), .ref m1, .ref m2, .ref m3, .ref m4, .int (nI dn), .ref m5, .ref m6, .long (tg T)]])) := by
  refine z_start RX3 "isGood" (by decide) rfl rfl rfl (Nat.le_of_ble_eq_true rfl) ?_
  intro J Z
  refine g_eq Z (lv2 := [(0, .ref h), (1, .int kd), (2, .int a), (3, .int b)]) rfl rfl rfl ?_
  refine g_iload_n Z dX3_isGood_0 1 rfl rfl ?_
  rcases z_sw4 kd with c_1 | c_1 | c_1 | c_1 | c_1 | c_1
  · refine g_tsin (tgt := 36) Z dX3_isGood_1 0 c_1 (by decide) rfl (by decide) ?_
    refine g_aload_n Z dX3_isGood_36 0 rfl rfl ?_
    refine g_iload_n Z dX3_isGood_37 2 rfl rfl ?_
    refine g_iconst Z dX3_isGood_38 zi_0 ?_
    refine g_bipush Z dX3_isGood_39 zb_20 ?_
    refine g_callVx (w' := [cO h 3 [.int (nI nb), .ref m1, .ref m2, .ref m3, .ref m4, .int (nI dn), .ref m5, .ref m6, .long (tg T)]]) Z (qX3_in E h m1 m2 m3 m4 m5 m6 nb dn T a 0 20) iX3_in gX3_isGood_X3_in ⟨rfl, rfl⟩ ⟨Nat.le_of_ble_eq_true rfl, Nat.le_of_ble_eq_true rfl⟩ dX3_isGood_41 rfl rfl (Nat.le_of_ble_eq_true rfl) ⟨Nat.zero_le _, Nat.zero_le _⟩ [0] rfl rfl 0 rfl rfl rfl rfl rfl ?_
    refine g_ifb_eq (tgt := 55) Z dX3_isGood_44 (by decide) (fun c_44 => ?_) (fun c_44 => ?_)
    · refine g_iconst Z dX3_isGood_55 zi_0 ?_
      exact g_zret Z dX3_isGood_56 rfl rfl ⟨Nat.zero_le _, Nat.zero_le _⟩ ⟨z_f (gdP_n0 c_1 (by first | (simp [c_44]; done) | grind)), rfl⟩
    · refine g_iload_n Z dX3_isGood_47 3 rfl rfl ?_
      refine g_if_ne (tgt := 55) Z dX3_isGood_48 (by decide) (fun c_48 => ?_) (fun c_48 => ?_)
      · refine g_iconst Z dX3_isGood_55 zi_0 ?_
        exact g_zret Z dX3_isGood_56 rfl rfl ⟨Nat.zero_le _, Nat.zero_le _⟩ ⟨z_f (gdP_n0 c_1 (by first | (simp [c_44, c_48]; done) | grind)), rfl⟩
      · refine g_iconst Z dX3_isGood_51 zi_1 ?_
        refine g_goto (tgt := 56) Z dX3_isGood_52 (by decide) ?_
        exact g_zret Z dX3_isGood_56 rfl rfl ⟨Nat.zero_le _, Nat.zero_le _⟩ ⟨z_t (gdP_0 c_1 (by first | (simp [c_44, c_48]; done) | grind)), rfl⟩
  · refine g_tsin (tgt := 57) Z dX3_isGood_1 1 c_1 (by decide) rfl (by decide) ?_
    refine g_aload_n Z dX3_isGood_57 0 rfl rfl ?_
    refine g_iload_n Z dX3_isGood_58 2 rfl rfl ?_
    refine g_callVx (w' := [cO h 3 [.int (nI nb), .ref m1, .ref m2, .ref m3, .ref m4, .int (nI dn), .ref m5, .ref m6, .long (tg T)]]) Z (qX3_isBent E h m1 m2 m3 m4 m5 m6 nb dn T a) iX3_isBent gX3_isGood_X3_isBent ⟨rfl, rfl⟩ ⟨Nat.le_of_ble_eq_true rfl, Nat.le_of_ble_eq_true rfl⟩ dX3_isGood_59 rfl rfl (Nat.le_of_ble_eq_true rfl) ⟨Nat.zero_le _, Nat.zero_le _⟩ [0] rfl rfl 0 rfl rfl rfl rfl rfl ?_
    refine g_ifb_eq (tgt := 73) Z dX3_isGood_62 (by decide) (fun c_62 => ?_) (fun c_62 => ?_)
    · refine g_iconst Z dX3_isGood_73 zi_0 ?_
      exact g_zret Z dX3_isGood_74 rfl rfl ⟨Nat.zero_le _, Nat.zero_le _⟩ ⟨z_f (gdP_n1 c_1 (by first | (simp [c_62]; done) | grind)), rfl⟩
    · refine g_iload_n Z dX3_isGood_65 3 rfl rfl ?_
      refine g_if_ne (tgt := 73) Z dX3_isGood_66 (by decide) (fun c_66 => ?_) (fun c_66 => ?_)
      · refine g_iconst Z dX3_isGood_73 zi_0 ?_
        exact g_zret Z dX3_isGood_74 rfl rfl ⟨Nat.zero_le _, Nat.zero_le _⟩ ⟨z_f (gdP_n1 c_1 (by first | (simp [c_62, c_66]; done) | grind)), rfl⟩
      · refine g_iconst Z dX3_isGood_69 zi_1 ?_
        refine g_goto (tgt := 74) Z dX3_isGood_70 (by decide) ?_
        exact g_zret Z dX3_isGood_74 rfl rfl ⟨Nat.zero_le _, Nat.zero_le _⟩ ⟨z_t (gdP_1 c_1 (by first | (simp [c_62, c_66]; done) | grind)), rfl⟩
  · refine g_tsin (tgt := 75) Z dX3_isGood_1 2 c_1 (by decide) rfl (by decide) ?_
    refine g_aload_n Z dX3_isGood_75 0 rfl rfl ?_
    refine g_iload_n Z dX3_isGood_76 2 rfl rfl ?_
    refine g_callVx (w' := [cO h 3 [.int (nI nb), .ref m1, .ref m2, .ref m3, .ref m4, .int (nI dn), .ref m5, .ref m6, .long (tg T)]]) Z (qX3_isBent E h m1 m2 m3 m4 m5 m6 nb dn T a) iX3_isBent gX3_isGood_X3_isBent ⟨rfl, rfl⟩ ⟨Nat.le_of_ble_eq_true rfl, Nat.le_of_ble_eq_true rfl⟩ dX3_isGood_77 rfl rfl (Nat.le_of_ble_eq_true rfl) ⟨Nat.zero_le _, Nat.zero_le _⟩ [0] rfl rfl 0 rfl rfl rfl rfl rfl ?_
    refine g_ifb_eq (tgt := 95) Z dX3_isGood_80 (by decide) (fun c_80 => ?_) (fun c_80 => ?_)
    · refine g_iconst Z dX3_isGood_95 zi_0 ?_
      exact g_zret Z dX3_isGood_96 rfl rfl ⟨Nat.zero_le _, Nat.zero_le _⟩ ⟨z_f (gdP_n2 c_1 (by first | (simp [c_80]; done) | grind)), rfl⟩
    · refine g_aload_n Z dX3_isGood_83 0 rfl rfl ?_
      refine g_iload_n Z dX3_isGood_84 3 rfl rfl ?_
      refine g_callVx (w' := [cO h 3 [.int (nI nb), .ref m1, .ref m2, .ref m3, .ref m4, .int (nI dn), .ref m5, .ref m6, .long (tg T)]]) Z (qX3_isBent E h m1 m2 m3 m4 m5 m6 nb dn T b) iX3_isBent gX3_isGood_X3_isBent ⟨rfl, rfl⟩ ⟨Nat.le_of_ble_eq_true rfl, Nat.le_of_ble_eq_true rfl⟩ dX3_isGood_85 rfl rfl (Nat.le_of_ble_eq_true rfl) ⟨Nat.zero_le _, Nat.zero_le _⟩ [0] rfl rfl 0 rfl rfl rfl rfl rfl ?_
      refine g_ifb_eq (tgt := 95) Z dX3_isGood_88 (by decide) (fun c_88 => ?_) (fun c_88 => ?_)
      · refine g_iconst Z dX3_isGood_95 zi_0 ?_
        exact g_zret Z dX3_isGood_96 rfl rfl ⟨Nat.zero_le _, Nat.zero_le _⟩ ⟨z_f (gdP_n2 c_1 (by first | (simp [c_80, c_88]; done) | grind)), rfl⟩
      · refine g_iconst Z dX3_isGood_91 zi_1 ?_
        refine g_goto (tgt := 96) Z dX3_isGood_92 (by decide) ?_
        exact g_zret Z dX3_isGood_96 rfl rfl ⟨Nat.zero_le _, Nat.zero_le _⟩ ⟨z_t (gdP_2 c_1 (by first | (simp [c_80, c_88]; done) | grind)), rfl⟩
  · refine g_tsin (tgt := 97) Z dX3_isGood_1 3 c_1 (by decide) rfl (by decide) ?_
    refine g_aload_n Z dX3_isGood_97 0 rfl rfl ?_
    refine g_iload_n Z dX3_isGood_98 2 rfl rfl ?_
    refine g_bipush Z dX3_isGood_99 zb_m3 ?_
    refine g_iconst Z dX3_isGood_101 zi_3 ?_
    refine g_callVx (w' := [cO h 3 [.int (nI nb), .ref m1, .ref m2, .ref m3, .ref m4, .int (nI dn), .ref m5, .ref m6, .long (tg T)]]) Z (qX3_in E h m1 m2 m3 m4 m5 m6 nb dn T a (-3) 3) iX3_in gX3_isGood_X3_in ⟨rfl, rfl⟩ ⟨Nat.le_of_ble_eq_true rfl, Nat.le_of_ble_eq_true rfl⟩ dX3_isGood_102 rfl rfl (Nat.le_of_ble_eq_true rfl) ⟨Nat.zero_le _, Nat.zero_le _⟩ [0] rfl rfl 0 rfl rfl rfl rfl rfl ?_
    refine g_ifb_eq (tgt := 116) Z dX3_isGood_105 (by decide) (fun c_105 => ?_) (fun c_105 => ?_)
    · refine g_iconst Z dX3_isGood_116 zi_0 ?_
      exact g_zret Z dX3_isGood_117 rfl rfl ⟨Nat.zero_le _, Nat.zero_le _⟩ ⟨z_f (gdP_n3 c_1 (by first | (simp [c_105]; done) | grind)), rfl⟩
    · refine g_iload_n Z dX3_isGood_108 3 rfl rfl ?_
      refine g_if_ne (tgt := 116) Z dX3_isGood_109 (by decide) (fun c_109 => ?_) (fun c_109 => ?_)
      · refine g_iconst Z dX3_isGood_116 zi_0 ?_
        exact g_zret Z dX3_isGood_117 rfl rfl ⟨Nat.zero_le _, Nat.zero_le _⟩ ⟨z_f (gdP_n3 c_1 (by first | (simp [c_105, c_109]; done) | grind)), rfl⟩
      · refine g_iconst Z dX3_isGood_112 zi_1 ?_
        refine g_goto (tgt := 117) Z dX3_isGood_113 (by decide) ?_
        exact g_zret Z dX3_isGood_117 rfl rfl ⟨Nat.zero_le _, Nat.zero_le _⟩ ⟨z_t (gdP_3 c_1 (by first | (simp [c_105, c_109]; done) | grind)), rfl⟩
  · refine g_tsin (tgt := 118) Z dX3_isGood_1 4 c_1 (by decide) rfl (by decide) ?_
    refine g_aload_n Z dX3_isGood_118 0 rfl rfl ?_
    refine g_iload_n Z dX3_isGood_119 2 rfl rfl ?_
    refine g_iconst Z dX3_isGood_120 zi_1 ?_
    refine g_sipush Z dX3_isGood_121 zs_1000 ?_
    refine g_callVx (w' := [cO h 3 [.int (nI nb), .ref m1, .ref m2, .ref m3, .ref m4, .int (nI dn), .ref m5, .ref m6, .long (tg T)]]) Z (qX3_in E h m1 m2 m3 m4 m5 m6 nb dn T a 1 1000) iX3_in gX3_isGood_X3_in ⟨rfl, rfl⟩ ⟨Nat.le_of_ble_eq_true rfl, Nat.le_of_ble_eq_true rfl⟩ dX3_isGood_124 rfl rfl (Nat.le_of_ble_eq_true rfl) ⟨Nat.zero_le _, Nat.zero_le _⟩ [0] rfl rfl 0 rfl rfl rfl rfl rfl ?_
    refine g_ifb_eq (tgt := 138) Z dX3_isGood_127 (by decide) (fun c_127 => ?_) (fun c_127 => ?_)
    · refine g_iconst Z dX3_isGood_138 zi_0 ?_
      exact g_zret Z dX3_isGood_139 rfl rfl ⟨Nat.zero_le _, Nat.zero_le _⟩ ⟨z_f (gdP_n4 c_1 (by first | (simp [c_127]; done) | grind)), rfl⟩
    · refine g_iload_n Z dX3_isGood_130 3 rfl rfl ?_
      refine g_if_ne (tgt := 138) Z dX3_isGood_131 (by decide) (fun c_131 => ?_) (fun c_131 => ?_)
      · refine g_iconst Z dX3_isGood_138 zi_0 ?_
        exact g_zret Z dX3_isGood_139 rfl rfl ⟨Nat.zero_le _, Nat.zero_le _⟩ ⟨z_f (gdP_n4 c_1 (by first | (simp [c_127, c_131]; done) | grind)), rfl⟩
      · refine g_iconst Z dX3_isGood_134 zi_1 ?_
        refine g_goto (tgt := 139) Z dX3_isGood_135 (by decide) ?_
        exact g_zret Z dX3_isGood_139 rfl rfl ⟨Nat.zero_le _, Nat.zero_le _⟩ ⟨z_t (gdP_4 c_1 (by first | (simp [c_127, c_131]; done) | grind)), rfl⟩
  · refine g_tsout (tgt := 140) Z dX3_isGood_1 c_1.1 (by decide) ?_
    refine g_iconst Z dX3_isGood_140 zi_0 ?_
    exact g_zret Z dX3_isGood_141 rfl rfl ⟨Nat.zero_le _, Nat.zero_le _⟩ ⟨z_f (by simp [gdP, c_1.2.1, c_1.2.2.1, c_1.2.2.2.1, c_1.2.2.2.2.1, c_1.2.2.2.2.2]), rfl⟩
