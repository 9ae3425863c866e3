theorem z_bne {k a b : Int32} (h : ¬ k = 2) (hb : ¬ b = 0) : ¬ gdP k a b := by
  rintro (q | q | q | q | q)
  · exact hb q.2.2
  · exact hb q.2.2
  · exact h q.1
  · exact hb q.2.2
  · exact hb q.2.2
abbrev rX2_rowAt : Room := { frames := 0, cells := 0, slots := 0, locals := 0 }
theorem iX2_rowAt : zInfo yX2_rowAt wsX2_rowAt RX2 2 (some (.object "LightRound$Row")) 1 := ⟨_, _, rfl, by decide +kernel⟩
theorem nX2_rowAt_X2 : ∀ w ∈ wsX20, w ∈ wsX2_rowAt := by decide +kernel
theorem fX2_rowAt_17 : Cond.fieldLink RX2 17 (TX2 1).1 (TX2 1).2.1 (TX2 1).2.2.1 ∈ wsX2_rowAt := by decide +kernel
theorem fX2_rowAt_13 : Cond.fieldLink RX2 13 (TX2 0).1 (TX2 0).2.1 (TX2 0).2.2.1 ∈ wsX2_rowAt := by decide +kernel
set_option maxHeartbeats 4000000 in
set_option maxRecDepth 100000 in
theorem qX2_rowAt (E : zE) (x rw ln t1 t2 : Nat) (nb dn : Nat) (RF : Nat → Option Nat) (j o : Nat) (hj : j < nb) (hnb : nb ≤ 4) (hr : RF j = some o) : zF E yX2_rowAt wsX2_rowAt rX2_rowAt [.ref x, .int (nI j)] [cO x 2 [.ref rw, .int (nI nb), .ref ln, .int (nI dn), .ref t1, .ref t2], cQ E rw 4 RF] (zx (some (.ref o)) ([cO x 2 [.ref rw, .int (nI nb), .ref ln, .int (nI dn), .ref t1, .ref t2], cQ E rw 4 RF])) := by
  refine z_start RX2 "rowAt" (by decide) rfl rfl rfl (Nat.le_of_ble_eq_true rfl) ?_
  intro J Z
  refine g_eq Z (lv2 := [(0, .ref x), (1, .int (nI j))]) rfl rfl rfl ?_
  refine g_iload_n Z dX2_rowAt_0 1 rfl rfl ?_
  refine g_ifN_lt (tgt := 21) Z dX2_rowAt_1 (by decide) j rfl (by omega) (fun c_1 => absurd c_1 id) (fun c_1 => ?_)
  refine g_iload_n Z dX2_rowAt_4 1 rfl rfl ?_
  refine g_aload_n Z dX2_rowAt_5 0 rfl rfl ?_
  refine g_get Z dX2_rowAt_6 0 rfl rfl nX2_rowAt_X2 1 (by decide) fX2_rowAt_17 rfl ?_
  refine g_icmpN_ge (tgt := 21) Z dX2_rowAt_9 (by decide) j nb rfl rfl (by omega) (by omega) (fun c_9 => absurd c_9 (by omega)) (fun c_9 => ?_)
  refine g_aload_n Z dX2_rowAt_12 0 rfl rfl ?_
  refine g_get Z dX2_rowAt_13 0 rfl rfl nX2_rowAt_X2 0 (by decide) fX2_rowAt_13 rfl ?_
  refine g_iload_n Z dX2_rowAt_16 1 rfl rfl ?_
  refine g_aaldE (v := .ref o) Z dX2_rowAt_17 1 rfl j rfl (by omega) rfl (by rw [hr]; rfl) ?_
  refine g_goto (tgt := 22) Z dX2_rowAt_18 (by decide) ?_
  exact g_aret Z dX2_rowAt_22 rfl (Or.inr ⟨_, rfl⟩) ⟨Nat.zero_le _, Nat.zero_le _⟩ ⟨rfl, rfl⟩


set_option maxHeartbeats 4000000 in
set_option maxRecDepth 100000 in
theorem qX2_rowAtO (E : zE) (x rw ln t1 t2 : Nat) (nb dn : Nat) (RF : Nat → Option Nat) (b : Int32) (hnb : nb ≤ 4) (hb : ¬ inB nb b) : zF E yX2_rowAt wsX2_rowAt rX2_rowAt [.ref x, .int b] [cO x 2 [.ref rw, .int (nI nb), .ref ln, .int (nI dn), .ref t1, .ref t2], cQ E rw 4 RF] (zx (some (.null)) ([cO x 2 [.ref rw, .int (nI nb), .ref ln, .int (nI dn), .ref t1, .ref t2], cQ E rw 4 RF])) := by
  refine z_start RX2 "rowAt" (by decide) rfl rfl rfl (Nat.le_of_ble_eq_true rfl) ?_
  intro J Z
  refine g_eq Z (lv2 := [(0, .ref x), (1, .int b)]) rfl rfl rfl ?_
  refine g_iload_n Z dX2_rowAt_0 1 rfl rfl ?_
  refine g_if_lt (tgt := 21) Z dX2_rowAt_1 (by decide) (fun c_1 => ?_) (fun c_1 => ?_)
  · refine g_null Z dX2_rowAt_21 ?_
    exact g_aret Z dX2_rowAt_22 rfl (Or.inl rfl) ⟨Nat.zero_le _, Nat.zero_le _⟩ ⟨rfl, rfl⟩
  · refine g_iload_n Z dX2_rowAt_4 1 rfl rfl ?_
    refine g_aload_n Z dX2_rowAt_5 0 rfl rfl ?_
    refine g_get Z dX2_rowAt_6 0 rfl rfl nX2_rowAt_X2 1 (by decide) fX2_rowAt_17 rfl ?_
    refine g_icmp_ge (tgt := 21) Z dX2_rowAt_9 (by decide) (fun c_9 => ?_) (fun c_9 => ?_)
    · refine g_null Z dX2_rowAt_21 ?_
      exact g_aret Z dX2_rowAt_22 rfl (Or.inl rfl) ⟨Nat.zero_le _, Nat.zero_le _⟩ ⟨rfl, rfl⟩
    · exact absurd ((inB_X (by omega)).mp ⟨c_1, c_9⟩) hb

abbrev rX2_isPlace : Room := { frames := 0, cells := 0, slots := 0, locals := 0 }
theorem iX2_isPlace : zInfo yX2_isPlace wsX2_isPlace RX2 2 (some .boolean) 1 := ⟨_, _, rfl, by decide +kernel⟩
theorem nX2_isPlace_X2 : ∀ w ∈ wsX20, w ∈ wsX2_isPlace := by decide +kernel
theorem fX2_isPlace_25 : Cond.fieldLink RX2 25 (TX2 3).1 (TX2 3).2.1 (TX2 3).2.2.1 ∈ wsX2_isPlace := by decide +kernel
set_option maxHeartbeats 4000000 in
set_option maxRecDepth 100000 in
theorem qX2_isPlace (E : zE) (x rw ln t1 t2 : Nat) (nb dn : Nat) (RF : Nat → Option Nat) (v : Int32) (hd : dn ≤ 12) : zF E yX2_isPlace wsX2_isPlace rX2_isPlace [.ref x, .int v] [cO x 2 [.ref rw, .int (nI nb), .ref ln, .int (nI dn), .ref t1, .ref t2]] (zx (some (.int (if inB dn v then 1 else 0))) ([cO x 2 [.ref rw, .int (nI nb), .ref ln, .int (nI dn), .ref t1, .ref t2]])) := by
  refine z_start RX2 "isPlace" (by decide) rfl rfl rfl (Nat.le_of_ble_eq_true rfl) ?_
  intro J Z
  refine g_eq Z (lv2 := [(0, .ref x), (1, .int v)]) rfl rfl rfl ?_
  refine g_iload_n Z dX2_isPlace_0 1 rfl rfl ?_
  refine g_if_lt (tgt := 16) Z dX2_isPlace_1 (by decide) (fun c_1 => ?_) (fun c_1 => ?_)
  · refine g_iconst Z dX2_isPlace_16 zi_0 ?_
    exact g_zret Z dX2_isPlace_17 rfl rfl ⟨Nat.zero_le _, Nat.zero_le _⟩ ⟨z_f (fun q => absurd ((inB_X (by omega)).mpr q) (by grind)), rfl⟩
  · refine g_iload_n Z dX2_isPlace_4 1 rfl rfl ?_
    refine g_aload_n Z dX2_isPlace_5 0 rfl rfl ?_
    refine g_get Z dX2_isPlace_6 0 rfl rfl nX2_isPlace_X2 3 (by decide) fX2_isPlace_25 rfl ?_
    refine g_icmp_ge (tgt := 16) Z dX2_isPlace_9 (by decide) (fun c_9 => ?_) (fun c_9 => ?_)
    · refine g_iconst Z dX2_isPlace_16 zi_0 ?_
      exact g_zret Z dX2_isPlace_17 rfl rfl ⟨Nat.zero_le _, Nat.zero_le _⟩ ⟨z_f (fun q => absurd ((inB_X (by omega)).mpr q) (by grind)), rfl⟩
    · refine g_iconst Z dX2_isPlace_12 zi_1 ?_
      refine g_goto (tgt := 17) Z dX2_isPlace_13 (by decide) ?_
      exact g_zret Z dX2_isPlace_17 rfl rfl ⟨Nat.zero_le _, Nat.zero_le _⟩ ⟨z_t ((inB_X (by omega)).mp ⟨c_1, c_9⟩), rfl⟩

abbrev rX2_isEither : Room := { frames := 0, cells := 0, slots := 0, locals := 0 }
theorem iX2_isEither : zInfo yX2_isEither wsX2_isEither RX2 1 (some .boolean) 1 := ⟨_, _, rfl, by decide +kernel⟩
set_option maxHeartbeats 4000000 in
set_option maxRecDepth 100000 in
theorem qX2_isEither (E : zE) (v : Int32)  : zF E yX2_isEither wsX2_isEither rX2_isEither [.int v] [] (zx (some (.int (if v = 0 ∨ v = 1 then 1 else 0))) ([])) := by
  refine z_start RX2 "isEither" (by decide) rfl rfl rfl (Nat.le_of_ble_eq_true rfl) ?_
  intro J Z
  refine g_eq Z (lv2 := [(0, .int v)]) rfl rfl rfl ?_
  refine g_iload_n Z dX2_isEither_0 0 rfl rfl ?_
  refine g_if_eq (tgt := 9) Z dX2_isEither_1 (by decide) (fun c_1 => ?_) (fun c_1 => ?_)
  · refine g_iconst Z dX2_isEither_9 zi_1 ?_
    refine g_goto (tgt := 14) Z dX2_isEither_10 (by decide) ?_
    exact g_zret Z dX2_isEither_14 rfl rfl ⟨Nat.zero_le _, Nat.zero_le _⟩ ⟨z_t (by first | (simp [c_1]; done) | grind), rfl⟩
  · refine g_iload_n Z dX2_isEither_4 0 rfl rfl ?_
    refine g_iconst Z dX2_isEither_5 zi_1 ?_
    refine g_icmp_ne (tgt := 13) Z dX2_isEither_6 (by decide) (fun c_6 => ?_) (fun c_6 => ?_)
    · refine g_iconst Z dX2_isEither_13 zi_0 ?_
      exact g_zret Z dX2_isEither_14 rfl rfl ⟨Nat.zero_le _, Nat.zero_le _⟩ ⟨z_f (by first | (simp [c_1, c_6]; done) | grind), rfl⟩
    · refine g_iconst Z dX2_isEither_9 zi_1 ?_
      refine g_goto (tgt := 14) Z dX2_isEither_10 (by decide) ?_
      exact g_zret Z dX2_isEither_14 rfl rfl ⟨Nat.zero_le _, Nat.zero_le _⟩ ⟨z_t (by first | (simp [c_1, c_6]; done) | grind), rfl⟩

abbrev rX2_isNear : Room := { frames := 0, cells := 0, slots := 0, locals := 0 }
theorem iX2_isNear : zInfo yX2_isNear wsX2_isNear RX2 1 (some .boolean) 1 := ⟨_, _, rfl, by decide +kernel⟩
set_option maxHeartbeats 4000000 in
set_option maxRecDepth 100000 in
theorem qX2_isNear (E : zE) (v : Int32)  : zF E yX2_isNear wsX2_isNear rX2_isNear [.int v] [] (zx (some (.int (if ner v then 1 else 0))) ([])) := by
  refine z_start RX2 "isNear" (by decide) rfl rfl rfl (Nat.le_of_ble_eq_true rfl) ?_
  intro J Z
  refine g_eq Z (lv2 := [(0, .int v)]) rfl rfl rfl ?_
  refine g_iload_n Z dX2_isNear_0 0 rfl rfl ?_
  refine g_sipush Z dX2_isNear_1 zs_m1000 ?_
  refine g_icmp_lt (tgt := 18) Z dX2_isNear_4 (by decide) (fun c_4 => ?_) (fun c_4 => ?_)
  · refine g_iconst Z dX2_isNear_18 zi_0 ?_
    exact g_zret Z dX2_isNear_19 rfl rfl ⟨Nat.zero_le _, Nat.zero_le _⟩ ⟨z_f (by first | (simp [ner, c_4]; done) | grind), rfl⟩
  · refine g_iload_n Z dX2_isNear_7 0 rfl rfl ?_
    refine g_sipush Z dX2_isNear_8 zs_1000 ?_
    refine g_icmp_gt (tgt := 18) Z dX2_isNear_11 (by decide) (fun c_11 => ?_) (fun c_11 => ?_)
    · refine g_iconst Z dX2_isNear_18 zi_0 ?_
      exact g_zret Z dX2_isNear_19 rfl rfl ⟨Nat.zero_le _, Nat.zero_le _⟩ ⟨z_f (by first | (simp [ner, c_4, c_11]; done) | grind), rfl⟩
    · refine g_iconst Z dX2_isNear_14 zi_1 ?_
      refine g_goto (tgt := 19) Z dX2_isNear_15 (by decide) ?_
      exact g_zret Z dX2_isNear_19 rfl rfl ⟨Nat.zero_le _, Nat.zero_le _⟩ ⟨z_t (by first | (simp [ner, c_4, c_11]; done) | grind), rfl⟩

abbrev rX2_isStrength : Room := { frames := 0, cells := 0, slots := 0, locals := 0 }
theorem iX2_isStrength : zInfo yX2_isStrength wsX2_isStrength RX2 1 (some .boolean) 1 := ⟨_, _, rfl, by decide +kernel⟩
set_option maxHeartbeats 4000000 in
set_option maxRecDepth 100000 in
theorem qX2_isStrength (E : zE) (a : Int32)  : zF E yX2_isStrength wsX2_isStrength rX2_isStrength [.int a] [] (zx (some (.int (if bnt a then 1 else 0))) ([])) := by
  refine z_start RX2 "isStrength" (by decide) rfl rfl rfl (Nat.le_of_ble_eq_true rfl) ?_
  intro J Z
  refine g_eq Z (lv2 := [(0, .int a)]) rfl rfl rfl ?_
  refine g_iload_n Z dX2_isStrength_0 0 rfl rfl ?_
  refine g_bipush Z dX2_isStrength_1 zb_m9 ?_
  refine g_icmp_lt (tgt := 20) Z dX2_isStrength_3 (by decide) (fun c_3 => ?_) (fun c_3 => ?_)
  · refine g_iconst Z dX2_isStrength_20 zi_0 ?_
    exact g_zret Z dX2_isStrength_21 rfl rfl ⟨Nat.zero_le _, Nat.zero_le _⟩ ⟨z_f (by first | (simp [bnt, c_3]; done) | grind), rfl⟩
  · refine g_iload_n Z dX2_isStrength_6 0 rfl rfl ?_
    refine g_bipush Z dX2_isStrength_7 zb_9 ?_
    refine g_icmp_gt (tgt := 20) Z dX2_isStrength_9 (by decide) (fun c_9 => ?_) (fun c_9 => ?_)
    · refine g_iconst Z dX2_isStrength_20 zi_0 ?_
      exact g_zret Z dX2_isStrength_21 rfl rfl ⟨Nat.zero_le _, Nat.zero_le _⟩ ⟨z_f (by first | (simp [bnt, c_3, c_9]; done) | grind), rfl⟩
    · refine g_iload_n Z dX2_isStrength_12 0 rfl rfl ?_
      refine g_if_eq (tgt := 20) Z dX2_isStrength_13 (by decide) (fun c_13 => ?_) (fun c_13 => ?_)
      · refine g_iconst Z dX2_isStrength_20 zi_0 ?_
        exact g_zret Z dX2_isStrength_21 rfl rfl ⟨Nat.zero_le _, Nat.zero_le _⟩ ⟨z_f (by first | (simp [bnt, c_3, c_9, c_13]; done) | grind), rfl⟩
      · refine g_iconst Z dX2_isStrength_16 zi_1 ?_
        refine g_goto (tgt := 21) Z dX2_isStrength_17 (by decide) ?_
        exact g_zret Z dX2_isStrength_21 rfl rfl ⟨Nat.zero_le _, Nat.zero_le _⟩ ⟨z_t (by first | (simp [bnt, c_3, c_9, c_13]; done) | grind), rfl⟩

abbrev rX2_isPart : Room := { frames := 1, cells := 0, slots := 0, locals := 20 }
theorem iX2_isPart : zInfo yX2_isPart wsX2_isPart RX2 3 (some .boolean) 3 := ⟨_, _, rfl, by decide +kernel⟩
set_option maxHeartbeats 4000000 in
set_option maxRecDepth 100000 in
theorem qX2_isPart (E : zE) (kd a b : Int32)  : zF E yX2_isPart wsX2_isPart rX2_isPart [.int kd, .int a, .int b] [] (zx (some (.int (if gdP kd a b then 1 else 0))) ([])) := by
  refine z_start RX2 "isPart" (by decide) rfl rfl rfl (Nat.le_of_ble_eq_true rfl) ?_
  intro J Z
  refine g_eq Z (lv2 := [(0, .int kd), (1, .int a), (2, .int b)]) rfl rfl rfl ?_
  refine g_iload_n Z dX2_isPart_0 0 rfl rfl ?_
  refine g_iconst Z dX2_isPart_1 zi_2 ?_
  refine g_icmp_ne (tgt := 25) Z dX2_isPart_2 (by decide) (fun c_2 => ?_) (fun c_2 => ?_)
  · refine g_iload_n Z dX2_isPart_25 2 rfl rfl ?_
    refine g_if_eq (tgt := 31) Z dX2_isPart_26 (by decide) (fun c_26 => ?_) (fun c_26 => ?_)
    · refine g_iload_n Z dX2_isPart_31 0 rfl rfl ?_
      rcases z_sw4 kd with c_32 | c_32 | c_32 | c_32 | c_32 | c_32
      · refine g_tsin (tgt := 68) Z dX2_isPart_32 0 c_32 (by decide) rfl (by decide) ?_
        refine g_iload_n Z dX2_isPart_68 1 rfl rfl ?_
        refine g_if_lt (tgt := 82) Z dX2_isPart_69 (by decide) (fun c_69 => ?_) (fun c_69 => ?_)
        · refine g_iconst Z dX2_isPart_82 zi_0 ?_
          exact g_zret Z dX2_isPart_83 rfl rfl ⟨Nat.zero_le _, Nat.zero_le _⟩ ⟨z_f (gdP_n0 c_32 (by first | (simp [c_69]; done) | grind)), rfl⟩
        · refine g_iload_n Z dX2_isPart_72 1 rfl rfl ?_
          refine g_bipush Z dX2_isPart_73 zb_20 ?_
          refine g_icmp_gt (tgt := 82) Z dX2_isPart_75 (by decide) (fun c_75 => ?_) (fun c_75 => ?_)
          · refine g_iconst Z dX2_isPart_82 zi_0 ?_
            exact g_zret Z dX2_isPart_83 rfl rfl ⟨Nat.zero_le _, Nat.zero_le _⟩ ⟨z_f (gdP_n0 c_32 (by first | (simp [c_69, c_75]; done) | grind)), rfl⟩
          · refine g_iconst Z dX2_isPart_78 zi_1 ?_
            refine g_goto (tgt := 83) Z dX2_isPart_79 (by decide) ?_
            exact g_zret Z dX2_isPart_83 rfl rfl ⟨Nat.zero_le _, Nat.zero_le _⟩ ⟨z_t (gdP_0 c_32 ⟨by first | (simp [c_69, c_75]; done) | grind, c_26⟩), rfl⟩
      · refine g_tsin (tgt := 84) Z dX2_isPart_32 1 c_32 (by decide) rfl (by decide) ?_
        refine g_iload_n Z dX2_isPart_84 1 rfl rfl ?_
        refine g_callSx (w' := []) Z (qX2_isStrength E a) iX2_isStrength gX2_isPart_X2_isStrength ⟨rfl, rfl⟩ ⟨Nat.le_of_ble_eq_true rfl, Nat.le_of_ble_eq_true rfl⟩ dX2_isPart_85 rfl rfl (Nat.le_of_ble_eq_true rfl) ⟨Nat.zero_le _, Nat.zero_le _⟩ [] rfl rfl rfl rfl ?_
        exact g_zret Z dX2_isPart_88 rfl z_nb ⟨Nat.zero_le _, Nat.zero_le _⟩ ⟨z_bcong ⟨fun q => gdP_1 c_32 ⟨q, c_26⟩, fun q => Decidable.of_not_not (fun z => gdP_n1 c_32 (fun y => z y.1) q)⟩, rfl⟩
      · refine g_tsin (tgt := 124) Z dX2_isPart_32 2 c_32 (by decide) rfl (by decide) ?_
        refine g_iconst Z dX2_isPart_124 zi_0 ?_
        exact g_zret Z dX2_isPart_125 rfl rfl ⟨Nat.zero_le _, Nat.zero_le _⟩ ⟨z_f (absurd c_32 c_2), rfl⟩
      · refine g_tsin (tgt := 89) Z dX2_isPart_32 3 c_32 (by decide) rfl (by decide) ?_
        refine g_iload_n Z dX2_isPart_89 1 rfl rfl ?_
        refine g_bipush Z dX2_isPart_90 zb_m3 ?_
        refine g_icmp_lt (tgt := 104) Z dX2_isPart_92 (by decide) (fun c_92 => ?_) (fun c_92 => ?_)
        · refine g_iconst Z dX2_isPart_104 zi_0 ?_
          exact g_zret Z dX2_isPart_105 rfl rfl ⟨Nat.zero_le _, Nat.zero_le _⟩ ⟨z_f (gdP_n3 c_32 (by first | (simp [c_92]; done) | grind)), rfl⟩
        · refine g_iload_n Z dX2_isPart_95 1 rfl rfl ?_
          refine g_iconst Z dX2_isPart_96 zi_3 ?_
          refine g_icmp_gt (tgt := 104) Z dX2_isPart_97 (by decide) (fun c_97 => ?_) (fun c_97 => ?_)
          · refine g_iconst Z dX2_isPart_104 zi_0 ?_
            exact g_zret Z dX2_isPart_105 rfl rfl ⟨Nat.zero_le _, Nat.zero_le _⟩ ⟨z_f (gdP_n3 c_32 (by first | (simp [c_92, c_97]; done) | grind)), rfl⟩
          · refine g_iconst Z dX2_isPart_100 zi_1 ?_
            refine g_goto (tgt := 105) Z dX2_isPart_101 (by decide) ?_
            exact g_zret Z dX2_isPart_105 rfl rfl ⟨Nat.zero_le _, Nat.zero_le _⟩ ⟨z_t (gdP_3 c_32 ⟨by first | (simp [c_92, c_97]; done) | grind, c_26⟩), rfl⟩
      · refine g_tsin (tgt := 106) Z dX2_isPart_32 4 c_32 (by decide) rfl (by decide) ?_
        refine g_iload_n Z dX2_isPart_106 1 rfl rfl ?_
        refine g_iconst Z dX2_isPart_107 zi_1 ?_
        refine g_icmp_lt (tgt := 122) Z dX2_isPart_108 (by decide) (fun c_108 => ?_) (fun c_108 => ?_)
        · refine g_iconst Z dX2_isPart_122 zi_0 ?_
          exact g_zret Z dX2_isPart_123 rfl rfl ⟨Nat.zero_le _, Nat.zero_le _⟩ ⟨z_f (gdP_n4 c_32 (by first | (simp [c_108]; done) | grind)), rfl⟩
        · refine g_iload_n Z dX2_isPart_111 1 rfl rfl ?_
          refine g_sipush Z dX2_isPart_112 zs_1000 ?_
          refine g_icmp_gt (tgt := 122) Z dX2_isPart_115 (by decide) (fun c_115 => ?_) (fun c_115 => ?_)
          · refine g_iconst Z dX2_isPart_122 zi_0 ?_
            exact g_zret Z dX2_isPart_123 rfl rfl ⟨Nat.zero_le _, Nat.zero_le _⟩ ⟨z_f (gdP_n4 c_32 (by first | (simp [c_108, c_115]; done) | grind)), rfl⟩
          · refine g_iconst Z dX2_isPart_118 zi_1 ?_
            refine g_goto (tgt := 123) Z dX2_isPart_119 (by decide) ?_
            exact g_zret Z dX2_isPart_123 rfl rfl ⟨Nat.zero_le _, Nat.zero_le _⟩ ⟨z_t (gdP_4 c_32 ⟨by first | (simp [c_108, c_115]; done) | grind, c_26⟩), rfl⟩
      · refine g_tsout (tgt := 124) Z dX2_isPart_32 c_32.1 (by decide) ?_
        refine g_iconst Z dX2_isPart_124 zi_0 ?_
        exact g_zret Z dX2_isPart_125 rfl rfl ⟨Nat.zero_le _, Nat.zero_le _⟩ ⟨z_f (by simp [gdP, c_32.2.1, c_32.2.2.1, c_32.2.2.2.1, c_32.2.2.2.2.1, c_32.2.2.2.2.2]), rfl⟩
    · refine g_iconst Z dX2_isPart_29 zi_0 ?_
      exact g_zret Z dX2_isPart_30 rfl rfl ⟨Nat.zero_le _, Nat.zero_le _⟩ ⟨z_f (z_bne c_2 c_26), rfl⟩
  · refine g_iload_n Z dX2_isPart_5 1 rfl rfl ?_
    refine g_callSx (w' := []) Z (qX2_isStrength E a) iX2_isStrength gX2_isPart_X2_isStrength ⟨rfl, rfl⟩ ⟨Nat.le_of_ble_eq_true rfl, Nat.le_of_ble_eq_true rfl⟩ dX2_isPart_6 rfl rfl (Nat.le_of_ble_eq_true rfl) ⟨Nat.zero_le _, Nat.zero_le _⟩ [] rfl rfl rfl rfl ?_
    refine g_ifb_eq (tgt := 23) Z dX2_isPart_9 (by decide) (fun c_9 => ?_) (fun c_9 => ?_)
    · refine g_iconst Z dX2_isPart_23 zi_0 ?_
      exact g_zret Z dX2_isPart_24 rfl rfl ⟨Nat.zero_le _, Nat.zero_le _⟩ ⟨z_f (gdP_n2 c_2 (by grind)), rfl⟩
    · refine g_iload_n Z dX2_isPart_12 2 rfl rfl ?_
      refine g_callSx (w' := []) Z (qX2_isStrength E b) iX2_isStrength gX2_isPart_X2_isStrength ⟨rfl, rfl⟩ ⟨Nat.le_of_ble_eq_true rfl, Nat.le_of_ble_eq_true rfl⟩ dX2_isPart_13 rfl rfl (Nat.le_of_ble_eq_true rfl) ⟨Nat.zero_le _, Nat.zero_le _⟩ [] rfl rfl rfl rfl ?_
      refine g_ifb_eq (tgt := 23) Z dX2_isPart_16 (by decide) (fun c_16 => ?_) (fun c_16 => ?_)
      · refine g_iconst Z dX2_isPart_23 zi_0 ?_
        exact g_zret Z dX2_isPart_24 rfl rfl ⟨Nat.zero_le _, Nat.zero_le _⟩ ⟨z_f (gdP_n2 c_2 (by grind)), rfl⟩
      · refine g_iconst Z dX2_isPart_19 zi_1 ?_
        refine g_goto (tgt := 24) Z dX2_isPart_20 (by decide) ?_
        exact g_zret Z dX2_isPart_24 rfl rfl ⟨Nat.zero_le _, Nat.zero_le _⟩ ⟨z_t (gdP_2 c_2 ⟨c_9, c_16⟩), rfl⟩

abbrev rX2_commonDivisor : Room := { frames := 0, cells := 0, slots := 0, locals := 0 }
theorem iX2_commonDivisor : zInfo yX2_commonDivisor wsX2_commonDivisor RX2 11 (some .long) 2 := ⟨_, _, rfl, by decide +kernel⟩
set_option maxHeartbeats 4000000 in
set_option maxRecDepth 100000 in
theorem lX2_commonDivisor (E : zE) (a b : Int64)  {J : zJ} (Z : zOk E J RX2 cX2_commonDivisor 11 (some .long) wsX2_commonDivisor rX2_commonDivisor "commonDivisor" (fun _ => True) (zx (some (.long (euN 100 a b))) ([])))  : ∀ (d : Nat) (q : Nat) (x y : Int64), q + d = 100 → euN d x y = euN 100 a b → J 0 0 [] 9 [(8, .int (nI q)), (6, .long y), (4, .long x), (0, .long a), (2, .long b)] [] := by
  intro d
  induction d with
  | zero =>
    intro q x y h1 h2
    have h2 : x = euN 100 a b := h2
    refine g_iload Z dX2_commonDivisor_9 0 rfl ?_
    refine g_bipush Z dX2_commonDivisor_11 zb_100 ?_
    refine g_icmpN_ge (tgt := 44) Z dX2_commonDivisor_13 (by decide) q 100 rfl rfl (by omega) (by omega) (fun c_13 => ?_) (fun c_13 => absurd c_13 (by omega))
    refine g_lload Z dX2_commonDivisor_44 2 rfl ?_
    exact g_lret Z dX2_commonDivisor_46 rfl ⟨Nat.zero_le _, Nat.zero_le _⟩ ⟨by rw [h2], rfl⟩
  | succ d ih =>
    intro q x y h1 h2
    refine g_iload Z dX2_commonDivisor_9 0 rfl ?_
    refine g_bipush Z dX2_commonDivisor_11 zb_100 ?_
    refine g_icmpN_ge (tgt := 44) Z dX2_commonDivisor_13 (by decide) q 100 rfl rfl (by omega) (by omega) (fun c_13 => absurd c_13 (by omega)) (fun c_13 => ?_)
    refine g_lload Z dX2_commonDivisor_16 1 rfl ?_
    refine g_lconst Z dX2_commonDivisor_18 zl_0 ?_
    refine g_lcmp_eq (tgt := 44) Z dX2_commonDivisor_19 dX2_commonDivisor_20 rfl (by decide) (fun c_20 => ?_) (fun c_20 => ?_)
    · rw [euN, if_pos c_20] at h2
      refine g_lload Z dX2_commonDivisor_44 2 rfl ?_
      exact g_lret Z dX2_commonDivisor_46 rfl ⟨Nat.zero_le _, Nat.zero_le _⟩ ⟨by rw [h2], rfl⟩
    · rw [euN, if_neg c_20] at h2
      refine g_lload Z dX2_commonDivisor_23 2 rfl ?_
      refine g_lload Z dX2_commonDivisor_25 1 rfl ?_
      refine g_lrem Z dX2_commonDivisor_27 c_20 ?_
      refine g_lstore (lv' := [(9, .long (x - x / y * y)), (8, .int (nI q)), (6, .long y), (4, .long x), (0, .long a), (2, .long b)]) Z dX2_commonDivisor_28 (by decide) rfl ?_
      refine g_lload Z dX2_commonDivisor_30 2 rfl ?_
      refine g_lstore (lv' := [(4, .long y), (9, .long (x - x / y * y)), (8, .int (nI q)), (6, .long y), (0, .long a), (2, .long b)]) Z dX2_commonDivisor_32 (by decide) rfl ?_
      refine g_lload Z dX2_commonDivisor_34 1 rfl ?_
      refine g_lstore (lv' := [(6, .long (x - x / y * y)), (4, .long y), (9, .long (x - x / y * y)), (8, .int (nI q)), (0, .long a), (2, .long b)]) Z dX2_commonDivisor_36 (by decide) rfl ?_
      refine g_iinc (lv' := [(8, .int (nI (q + 1))), (6, .long (x - x / y * y)), (4, .long y), (9, .long (x - x / y * y)), (0, .long a), (2, .long b)]) Z dX2_commonDivisor_38 3 rfl (zinc _) (by decide) rfl ?_
      refine g_goto (tgt := 9) Z dX2_commonDivisor_41 (by decide) ?_
      refine g_lv (lv2 := [(8, .int (nI (q + 1))), (6, .long (x - x / y * y)), (4, .long y), (0, .long a), (2, .long b)]) Z [0, 1, 2, 4, 5] rfl ?_
      exact ih (q + 1) _ _ (by omega) h2
set_option maxHeartbeats 4000000 in
set_option maxRecDepth 100000 in
theorem qX2_commonDivisor (E : zE) (a b : Int64)  : zF E yX2_commonDivisor wsX2_commonDivisor rX2_commonDivisor [.long a, .long b] [] (zx (some (.long (euN 100 a b))) ([])) := by
  refine z_start RX2 "commonDivisor" (by decide) rfl rfl rfl (Nat.le_of_ble_eq_true rfl) ?_
  intro J Z
  refine g_eq Z (lv2 := [(0, .long a), (2, .long b)]) rfl rfl rfl ?_
  refine g_lload_n Z dX2_commonDivisor_0 0 rfl rfl ?_
  refine g_lstore (lv' := [(4, .long a), (0, .long a), (2, .long b)]) Z dX2_commonDivisor_1 (by decide) rfl ?_
  refine g_lload_n Z dX2_commonDivisor_3 2 rfl rfl ?_
  refine g_lstore (lv' := [(6, .long b), (4, .long a), (0, .long a), (2, .long b)]) Z dX2_commonDivisor_4 (by decide) rfl ?_
  refine g_iconst Z dX2_commonDivisor_6 zi_0 ?_
  refine g_istore (lv' := [(8, .int 0), (6, .long b), (4, .long a), (0, .long a), (2, .long b)]) Z dX2_commonDivisor_7 (by decide) rfl ?_
  exact lX2_commonDivisor E a b Z 100 0 a b rfl rfl

set_option maxHeartbeats 4000000 in
set_option maxRecDepth 100000 in
theorem qX2_commonDivisorG (E : zE) (a b : Int64)  : zF E yX2_commonDivisor wsX2_commonDivisor rX2_commonDivisor [.long (absL a), .long (absL b)] [] (zx (some (.long (gcdL a b))) ([])) := qX2_commonDivisor E (absL a) (absL b)

abbrev rX2_told : Room := { frames := 1, cells := 0, slots := 0, locals := 30 }
theorem iX2_told : zInfo yX2_told wsX2_told RX2 9 (some .long) 3 := ⟨_, _, rfl, by decide +kernel⟩
theorem mX2_told_134_l : Cond.methodLink RX2 134 Lib.MathLoose.abs_long.x ∈ wsX2_told := by decide +kernel
theorem mX2_told_134_s : Cond.static Lib.MathLoose.abs_long.x ∈ wsX2_told := by decide +kernel
theorem mX2_told_134_i : Cond.initialized "java/lang/Math" ∈ wsX2_told := by decide +kernel
theorem mX2_told_134_c : Cond.code Lib.MathLoose.abs_long.x Lib.MathLoose.abs_long.code 2 (some .long) ∈ wsX2_told := by decide +kernel
theorem kX2_told_91 : Cond.constantLong RX2 91 (-9223372036854775808) ∈ wsX2_told := by decide +kernel
set_option maxHeartbeats 4000000 in
set_option maxRecDepth 100000 in
theorem qX2_told (E : zE) (a u : Int64) (wh : Int32)  : zF E yX2_told wsX2_told rX2_told [.long a, .long u, .int wh] [] (zx (some (.long (tolF a u wh))) ([])) := by
  refine z_start RX2 "told" (by decide) rfl rfl rfl (Nat.le_of_ble_eq_true rfl) ?_
  intro J Z
  refine g_eq Z (lv2 := [(0, .long a), (2, .long u), (4, .int wh)]) rfl rfl rfl ?_
  refine g_lload_n Z dX2_told_0 0 rfl rfl ?_
  refine g_mabsL Z dX2_told_1 mX2_told_134_l mX2_told_134_s mX2_told_134_i mX2_told_134_c (Nat.le_of_ble_eq_true rfl) (Nat.le_of_ble_eq_true rfl) ⟨Nat.zero_le _, Nat.zero_le _⟩ ?_
  refine g_lload_n Z dX2_told_4 1 rfl rfl ?_
  refine g_mabsL Z dX2_told_5 mX2_told_134_l mX2_told_134_s mX2_told_134_i mX2_told_134_c (Nat.le_of_ble_eq_true rfl) (Nat.le_of_ble_eq_true rfl) ⟨Nat.zero_le _, Nat.zero_le _⟩ ?_
  refine g_callSx (w' := []) Z (qX2_commonDivisorG E a u) iX2_commonDivisor gX2_told_X2_commonDivisor ⟨rfl, rfl⟩ ⟨Nat.le_of_ble_eq_true rfl, Nat.le_of_ble_eq_true rfl⟩ dX2_told_8 rfl rfl (Nat.le_of_ble_eq_true rfl) ⟨Nat.zero_le _, Nat.zero_le _⟩ [] rfl rfl rfl rfl ?_
  refine g_lstore (lv' := [(5, .long (gcdL a u)), (0, .long a), (2, .long u), (4, .int wh)]) Z dX2_told_11 (by decide) rfl ?_
  refine g_lload_n Z dX2_told_13 2 rfl rfl ?_
  refine g_lconst Z dX2_told_14 zl_0 ?_
  refine g_lcmp_eq (tgt := 26) Z dX2_told_15 dX2_told_16 rfl (by decide) (fun c_16 => ?_) (fun c_16 => ?_)
  · refine g_ldc2 Z dX2_told_26 kX2_told_91 ?_
    exact g_lret Z dX2_told_29 rfl ⟨Nat.zero_le _, Nat.zero_le _⟩ ⟨congrArg (fun v => some (Value.long v)) (by rw [tolF, if_pos (Or.inl c_16)]), rfl⟩
  · refine g_lload Z dX2_told_19 0 rfl ?_
    refine g_lconst Z dX2_told_21 zl_0 ?_
    refine g_lcmp_ne (tgt := 30) Z dX2_told_22 dX2_told_23 rfl (by decide) (fun c_23 => ?_) (fun c_23 => ?_)
    · refine g_iload Z dX2_told_30 3 rfl ?_
      refine g_if_ne (tgt := 39) Z dX2_told_32 (by decide) (fun c_32 => ?_) (fun c_32 => ?_)
      · refine g_lload_n Z dX2_told_39 2 rfl rfl ?_
        refine g_lload Z dX2_told_40 0 rfl ?_
        refine g_ldiv Z dX2_told_42 c_23 ?_
        refine g_lstore (lv' := [(7, .long (u / (gcdL a u))), (5, .long (gcdL a u)), (0, .long a), (2, .long u), (4, .int wh)]) Z dX2_told_43 (by decide) rfl ?_
        refine g_lload_n Z dX2_told_45 3 rfl rfl ?_
        refine g_lconst Z dX2_told_46 zl_0 ?_
        refine g_lcmp_ge (tgt := 57) Z dX2_told_47 dX2_told_48 rfl (by decide) (fun c_48 => ?_) (fun c_48 => ?_)
        · refine g_lload Z dX2_told_57 0 rfl ?_
          exact g_lret Z dX2_told_59 rfl ⟨Nat.zero_le _, Nat.zero_le _⟩ ⟨congrArg (fun v => some (Value.long v)) (by rw [tolF, if_neg (not_or.mpr ⟨c_16, c_23⟩), if_neg (Int64.not_lt.mpr c_48), if_neg c_32]), rfl⟩
        · refine g_lload Z dX2_told_51 0 rfl ?_
          refine g_lneg Z dX2_told_53 ?_
          refine g_goto (tgt := 59) Z dX2_told_54 (by decide) ?_
          exact g_lret Z dX2_told_59 rfl ⟨Nat.zero_le _, Nat.zero_le _⟩ ⟨congrArg (fun v => some (Value.long v)) (by rw [tolF, if_neg (not_or.mpr ⟨c_16, c_23⟩), if_pos (Int64.not_le.mp c_48), if_neg c_32]), rfl⟩
      · refine g_lload_n Z dX2_told_35 1 rfl rfl ?_
        refine g_goto (tgt := 40) Z dX2_told_36 (by decide) ?_
        refine g_lload Z dX2_told_40 0 rfl ?_
        refine g_ldiv Z dX2_told_42 c_23 ?_
        refine g_lstore (lv' := [(7, .long (a / (gcdL a u))), (5, .long (gcdL a u)), (0, .long a), (2, .long u), (4, .int wh)]) Z dX2_told_43 (by decide) rfl ?_
        refine g_lload_n Z dX2_told_45 3 rfl rfl ?_
        refine g_lconst Z dX2_told_46 zl_0 ?_
        refine g_lcmp_ge (tgt := 57) Z dX2_told_47 dX2_told_48 rfl (by decide) (fun c_48 => ?_) (fun c_48 => ?_)
        · refine g_lload Z dX2_told_57 0 rfl ?_
          exact g_lret Z dX2_told_59 rfl ⟨Nat.zero_le _, Nat.zero_le _⟩ ⟨congrArg (fun v => some (Value.long v)) (by rw [tolF, if_neg (not_or.mpr ⟨c_16, c_23⟩), if_neg (Int64.not_lt.mpr c_48), if_pos c_32]), rfl⟩
        · refine g_lload Z dX2_told_51 0 rfl ?_
          refine g_lneg Z dX2_told_53 ?_
          refine g_goto (tgt := 59) Z dX2_told_54 (by decide) ?_
          exact g_lret Z dX2_told_59 rfl ⟨Nat.zero_le _, Nat.zero_le _⟩ ⟨congrArg (fun v => some (Value.long v)) (by rw [tolF, if_neg (not_or.mpr ⟨c_16, c_23⟩), if_pos (Int64.not_le.mp c_48), if_pos c_32]), rfl⟩
    · refine g_ldc2 Z dX2_told_26 kX2_told_91 ?_
      exact g_lret Z dX2_told_29 rfl ⟨Nat.zero_le _, Nat.zero_le _⟩ ⟨congrArg (fun v => some (Value.long v)) (by rw [tolF, if_pos (Or.inr c_23)]), rfl⟩
