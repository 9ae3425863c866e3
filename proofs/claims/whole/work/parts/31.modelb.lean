abbrev rX3_isPart : Room := { frames := 2, cells := 0, slots := 0, locals := 44 }
theorem iX3_isPart : zInfo yX3_isPart wsX3_isPart RX3 3 (some .boolean) 2 := ⟨_, _, rfl, by decide +kernel⟩
theorem nX3_isPart_X3 : ∀ w ∈ wsX30, w ∈ wsX3_isPart := by decide +kernel
theorem fX3_isPart_13 : Cond.fieldLink RX3 13 (TX3 1).1 (TX3 1).2.1 (TX3 1).2.2.1 ∈ wsX3_isPart := by decide +kernel
set_option maxHeartbeats 4000000 in
set_option maxRecDepth 100000 in
theorem qX3_isPart (E : zE) (h m1 m2 m3 m4 m5 m6 : Nat) (nb dn : Nat) (T : TB) (n : Nat → Nat) (j : Nat) (i : Int32) (hnb : nb ≤ 4) (hn : ∀ b, n b ≤ 8) (hj : j < nb) : zF E yX3_isPart wsX3_isPart rX3_isPart [.ref h, .int (nI j), .int i] [cO h 3 [.int (nI nb), .ref m1, .ref m2, .ref m3, .ref m4, .int (nI dn), .ref m5, .ref m6, .long (tg T)], cI E m1 4 (mN n)] (zx (some (.int (if inB (n j) i then 1 else 0))) ([cO h 3 [.int (nI nb), .ref m1, .ref m2, .ref m3, .ref m4, .int (nI dn), .ref m5, .ref m6, .long (tg T)], cI E m1 4 (mN n)])) := by
  refine z_start RX3 "isPart" (by decide) rfl rfl rfl (Nat.le_of_ble_eq_true rfl) ?_
  intro J Z
  refine g_eq Z (lv2 := [(0, .ref h), (1, .int (nI j)), (2, .int i)]) rfl rfl rfl ?_
  have hnj := hn j
  refine g_aload_n Z dX3_isPart_0 0 rfl rfl ?_
  refine g_iload_n Z dX3_isPart_1 1 rfl rfl ?_
  refine g_callVx (w' := [cO h 3 [.int (nI nb), .ref m1, .ref m2, .ref m3, .ref m4, .int (nI dn), .ref m5, .ref m6, .long (tg T)], cI E m1 4 (mN n)]) Z (qX3_isBench E h m1 m2 m3 m4 m5 m6 nb dn T (nI j) (by omega)) iX3_isBench gX3_isPart_X3_isBench ⟨rfl, rfl⟩ ⟨Nat.le_of_ble_eq_true rfl, Nat.le_of_ble_eq_true rfl⟩ dX3_isPart_2 rfl rfl (Nat.le_of_ble_eq_true rfl) ⟨Nat.zero_le _, Nat.zero_le _⟩ [0] rfl rfl 0 rfl rfl rfl rfl rfl ?_
  refine g_ifb_eq (tgt := 29) Z dX3_isPart_5 (by decide) (fun c_5 => absurd c_5 (fun q => q (inB_nI hj (by omega)))) (fun c_5 => ?_)
  refine g_aload_n Z dX3_isPart_8 0 rfl rfl ?_
  refine g_iload_n Z dX3_isPart_9 2 rfl rfl ?_
  refine g_iconst Z dX3_isPart_10 zi_0 ?_
  refine g_aload_n Z dX3_isPart_11 0 rfl rfl ?_
  refine g_get Z dX3_isPart_12 0 rfl rfl nX3_isPart_X3 1 (by decide) fX3_isPart_13 rfl ?_
  refine g_iload_n Z dX3_isPart_15 1 rfl rfl ?_
  refine g_ialdE (v := nI (n j)) Z dX3_isPart_16 1 rfl j rfl (by omega) rfl rfl ?_
  refine g_iconst Z dX3_isPart_17 zi_1 ?_
  refine g_isub Z dX3_isPart_18 ?_
  refine g_callVx (w' := [cO h 3 [.int (nI nb), .ref m1, .ref m2, .ref m3, .ref m4, .int (nI dn), .ref m5, .ref m6, .long (tg T)], cI E m1 4 (mN n)]) Z (qX3_in E h m1 m2 m3 m4 m5 m6 nb dn T i 0 ((nI (n j)) - 1)) iX3_in gX3_isPart_X3_in ⟨rfl, rfl⟩ ⟨Nat.le_of_ble_eq_true rfl, Nat.le_of_ble_eq_true rfl⟩ dX3_isPart_19 rfl rfl (Nat.le_of_ble_eq_true rfl) ⟨Nat.zero_le _, Nat.zero_le _⟩ [0] rfl rfl 0 rfl rfl rfl rfl rfl ?_
  refine g_ifb_eq (tgt := 29) Z dX3_isPart_22 (by decide) (fun c_22 => ?_) (fun c_22 => ?_)
  · refine g_iconst Z dX3_isPart_29 zi_0 ?_
    exact g_zret Z dX3_isPart_30 rfl rfl ⟨Nat.zero_le _, Nat.zero_le _⟩ ⟨z_f (fun q => c_22 ((inB_M (by omega)).mpr q)), rfl⟩
  · refine g_iconst Z dX3_isPart_25 zi_1 ?_
    refine g_goto (tgt := 30) Z dX3_isPart_26 (by decide) ?_
    exact g_zret Z dX3_isPart_30 rfl rfl ⟨Nat.zero_le _, Nat.zero_le _⟩ ⟨z_t ((inB_M (by omega)).mp c_22), rfl⟩


set_option maxHeartbeats 4000000 in
set_option maxRecDepth 100000 in
theorem qX3_isPartO (E : zE) (h m1 m2 m3 m4 m5 m6 : Nat) (nb dn : Nat) (T : TB) (n : Nat → Nat) (b i : Int32) (hnb : nb ≤ 4) (hn : ∀ b, n b ≤ 8) (hb : ¬ inB nb b) : zF E yX3_isPart wsX3_isPart rX3_isPart [.ref h, .int b, .int i] [cO h 3 [.int (nI nb), .ref m1, .ref m2, .ref m3, .ref m4, .int (nI dn), .ref m5, .ref m6, .long (tg T)], cI E m1 4 (mN n)] (zx (some (.int (if False then 1 else 0))) ([cO h 3 [.int (nI nb), .ref m1, .ref m2, .ref m3, .ref m4, .int (nI dn), .ref m5, .ref m6, .long (tg T)], cI E m1 4 (mN n)])) := by
  refine z_start RX3 "isPart" (by decide) rfl rfl rfl (Nat.le_of_ble_eq_true rfl) ?_
  intro J Z
  refine g_eq Z (lv2 := [(0, .ref h), (1, .int b), (2, .int i)]) rfl rfl rfl ?_
  refine g_aload_n Z dX3_isPart_0 0 rfl rfl ?_
  refine g_iload_n Z dX3_isPart_1 1 rfl rfl ?_
  refine g_callVx (w' := [cO h 3 [.int (nI nb), .ref m1, .ref m2, .ref m3, .ref m4, .int (nI dn), .ref m5, .ref m6, .long (tg T)], cI E m1 4 (mN n)]) Z (qX3_isBench E h m1 m2 m3 m4 m5 m6 nb dn T b (by omega)) iX3_isBench gX3_isPart_X3_isBench ⟨rfl, rfl⟩ ⟨Nat.le_of_ble_eq_true rfl, Nat.le_of_ble_eq_true rfl⟩ dX3_isPart_2 rfl rfl (Nat.le_of_ble_eq_true rfl) ⟨Nat.zero_le _, Nat.zero_le _⟩ [0] rfl rfl 0 rfl rfl rfl rfl rfl ?_
  refine g_ifb_eq (tgt := 29) Z dX3_isPart_5 (by decide) (fun c_5 => ?_) (fun c_5 => absurd c_5 hb)
  refine g_iconst Z dX3_isPart_29 zi_0 ?_
  exact g_zret Z dX3_isPart_30 rfl rfl ⟨Nat.zero_le _, Nat.zero_le _⟩ ⟨z_f id, rfl⟩

abbrev rX3_bench : Room := { frames := 0, cells := 0, slots := 0, locals := 0 }
theorem iX3_bench : zInfo yX3_bench wsX3_bench RX3 1 (some .int) 0 := ⟨_, _, rfl, by decide +kernel⟩
theorem nX3_bench_X3 : ∀ w ∈ wsX30, w ∈ wsX3_bench := by decide +kernel
theorem fX3_bench_7 : Cond.fieldLink RX3 7 (TX3 0).1 (TX3 0).2.1 (TX3 0).2.2.1 ∈ wsX3_bench := by decide +kernel
theorem fX3_bench_13 : Cond.fieldLink RX3 13 (TX3 1).1 (TX3 1).2.1 (TX3 1).2.2.1 ∈ wsX3_bench := by decide +kernel
set_option maxHeartbeats 4000000 in
set_option maxRecDepth 100000 in
theorem qX3_bench (E : zE) (h m1 m2 m3 m4 m5 m6 : Nat) (nb dn : Nat) (n : Nat → Nat) (K F G : Nat → Nat → Int32) (D : Nat → Int32) (T : TB) (hnb : nb < 4) (h0 : n nb = 0) : zF E yX3_bench wsX3_bench rX3_bench [.ref h] [cO h 3 [.int (nI nb), .ref m1, .ref m2, .ref m3, .ref m4, .int (nI dn), .ref m5, .ref m6, .long (tg T)], cI E m1 4 (mN n), cI E m2 32 (gl K), cI E m3 32 (gl F), cI E m4 32 (gl G), cI E m5 12 D, cJ E m6 6 (tv T)] (zx (some (.int (nI nb))) ([cO h 3 [.int (nI (nb + 1)), .ref m1, .ref m2, .ref m3, .ref m4, .int (nI dn), .ref m5, .ref m6, .long (tg T)], cI E m1 4 (mN n), cI E m2 32 (gl K), cI E m3 32 (gl F), cI E m4 32 (gl G), cI E m5 12 D, cJ E m6 6 (tv T)])) := by
  refine z_start RX3 "bench" (by decide) rfl rfl rfl (Nat.le_of_ble_eq_true rfl) ?_
  intro J Z
  refine g_eq Z (lv2 := [(0, .ref h)]) rfl rfl rfl ?_
  refine g_aload_n Z dX3_bench_0 0 rfl rfl ?_
  refine g_get Z dX3_bench_1 0 rfl rfl nX3_bench_X3 0 (by decide) fX3_bench_7 rfl ?_
  refine g_iconst Z dX3_bench_4 zi_4 ?_
  refine g_icmpN_ne (tgt := 11) Z dX3_bench_5 (by decide) nb 4 rfl rfl (by omega) (by omega) (fun c_5 => ?_) (fun c_5 => absurd c_5 (by omega))
  refine g_aload_n Z dX3_bench_11 0 rfl rfl ?_
  refine g_get Z dX3_bench_12 0 rfl rfl nX3_bench_X3 1 (by decide) fX3_bench_13 rfl ?_
  refine g_aload_n Z dX3_bench_15 0 rfl rfl ?_
  refine g_get Z dX3_bench_16 0 rfl rfl nX3_bench_X3 0 (by decide) fX3_bench_7 rfl ?_
  refine g_iconst Z dX3_bench_19 zi_0 ?_
  refine g_iastE (w' := [cO h 3 [.int (nI nb), .ref m1, .ref m2, .ref m3, .ref m4, .int (nI dn), .ref m5, .ref m6, .long (tg T)], cI E m1 4 (mN (va_up n nb 0)), cI E m2 32 (gl K), cI E m3 32 (gl F), cI E m4 32 (gl G), cI E m5 12 D, cJ E m6 6 (tv T)]) Z dX3_bench_20 1 rfl nb rfl (by omega) rfl (mN_set _ _ 0) rfl ?_
  refine g_aload_n Z dX3_bench_21 0 rfl rfl ?_
  refine g_dup Z dX3_bench_22 rfl ?_
  refine g_get Z dX3_bench_23 0 rfl rfl nX3_bench_X3 0 (by decide) fX3_bench_7 rfl ?_
  refine g_iconst Z dX3_bench_26 zi_1 ?_
  refine g_iaddE (z := nI (nb + 1)) Z dX3_bench_27 (nI_add nb 1) ?_
  refine g_put (w' := [cO h 3 [.int (nI (nb + 1)), .ref m1, .ref m2, .ref m3, .ref m4, .int (nI dn), .ref m5, .ref m6, .long (tg T)], cI E m1 4 (mN (va_up n nb 0)), cI E m2 32 (gl K), cI E m3 32 (gl F), cI E m4 32 (gl G), cI E m5 12 D, cJ E m6 6 (tv T)]) Z dX3_bench_28 0 rfl rfl nX3_bench_X3 tyX3 tyX3_ok nmX3 0 (by decide) fX3_bench_7 rfl rfl rfl rfl (Nat.le_of_ble_eq_true rfl) rfl ?_
  refine g_aload_n Z dX3_bench_31 0 rfl rfl ?_
  refine g_get Z dX3_bench_32 0 rfl rfl nX3_bench_X3 0 (by decide) fX3_bench_7 rfl ?_
  refine g_iconst Z dX3_bench_35 zi_1 ?_
  refine g_isubE (z := nI (nb)) Z dX3_bench_36 (nI_pred nb) ?_
  exact g_iret Z dX3_bench_37 rfl ⟨Nat.zero_le _, Nat.zero_le _⟩ ⟨rfl, by rw [show va_up n nb 0 = n by have q := vu_self n nb; rw [h0] at q; exact q]⟩


set_option maxHeartbeats 4000000 in
set_option maxRecDepth 100000 in
theorem qX3_benchF (E : zE) (h m1 m2 m3 m4 m5 m6 : Nat) (nb dn : Nat) (n : Nat → Nat) (K F G : Nat → Nat → Int32) (D : Nat → Int32) (T : TB) (hnb : nb = 4) : zF E yX3_bench wsX3_bench rX3_bench [.ref h] [cO h 3 [.int (nI nb), .ref m1, .ref m2, .ref m3, .ref m4, .int (nI dn), .ref m5, .ref m6, .long (tg T)], cI E m1 4 (mN n), cI E m2 32 (gl K), cI E m3 32 (gl F), cI E m4 32 (gl G), cI E m5 12 D, cJ E m6 6 (tv T)] (zx (some (.int (-4))) ([cO h 3 [.int (nI nb), .ref m1, .ref m2, .ref m3, .ref m4, .int (nI dn), .ref m5, .ref m6, .long (tg T)], cI E m1 4 (mN n), cI E m2 32 (gl K), cI E m3 32 (gl F), cI E m4 32 (gl G), cI E m5 12 D, cJ E m6 6 (tv T)])) := by
  refine z_start RX3 "bench" (by decide) rfl rfl rfl (Nat.le_of_ble_eq_true rfl) ?_
  intro J Z
  refine g_eq Z (lv2 := [(0, .ref h)]) rfl rfl rfl ?_
  refine g_aload_n Z dX3_bench_0 0 rfl rfl ?_
  refine g_get Z dX3_bench_1 0 rfl rfl nX3_bench_X3 0 (by decide) fX3_bench_7 rfl ?_
  refine g_iconst Z dX3_bench_4 zi_4 ?_
  refine g_icmpN_ne (tgt := 11) Z dX3_bench_5 (by decide) nb 4 rfl rfl (by omega) (by omega) (fun c_5 => absurd c_5 (by omega)) (fun c_5 => ?_)
  refine g_bipush Z dX3_bench_8 zb_m4 ?_
  exact g_iret Z dX3_bench_10 rfl ⟨Nat.zero_le _, Nat.zero_le _⟩ ⟨rfl, rfl⟩

abbrev rX3_bent : Room := { frames := 0, cells := 0, slots := 0, locals := 0 }
theorem iX3_bent : zInfo yX3_bent wsX3_bent RX3 4 (some .int) 1 := ⟨_, _, rfl, by decide +kernel⟩
theorem nX3_bent_X3 : ∀ w ∈ wsX30, w ∈ wsX3_bent := by decide +kernel
theorem fX3_bent_13 : Cond.fieldLink RX3 13 (TX3 1).1 (TX3 1).2.1 (TX3 1).2.2.1 ∈ wsX3_bent := by decide +kernel
theorem fX3_bent_17 : Cond.fieldLink RX3 17 (TX3 2).1 (TX3 2).2.1 (TX3 2).2.2.1 ∈ wsX3_bent := by decide +kernel
set_option maxHeartbeats 4000000 in
set_option maxRecDepth 100000 in
theorem lX3_bent (E : zE) (h m1 m2 m3 m4 m5 m6 : Nat) (nb dn : Nat) (n : Nat → Nat) (K F G : Nat → Nat → Int32) (D : Nat → Int32) (T : TB) (j : Nat) (hnb : nb ≤ 4) (hn : ∀ b, n b ≤ 8) (hj : j < 4) {J : zJ} (Z : zOk E J RX3 cX3_bent 4 (some .int) wsX3_bent rX3_bent "bent" (fun _ => True) (zx (some (.int (nI (nBent (K j) (n j))))) ([cO h 3 [.int (nI nb), .ref m1, .ref m2, .ref m3, .ref m4, .int (nI dn), .ref m5, .ref m6, .long (tg T)], cI E m1 4 (mN n), cI E m2 32 (gl K), cI E m3 32 (gl F), cI E m4 32 (gl G), cI E m5 12 D, cJ E m6 6 (tv T)])))  : ∀ (d : Nat) (q : Nat), q + d = n j → J 0 0 [cO h 3 [.int (nI nb), .ref m1, .ref m2, .ref m3, .ref m4, .int (nI dn), .ref m5, .ref m6, .long (tg T)], cI E m1 4 (mN n), cI E m2 32 (gl K), cI E m3 32 (gl F), cI E m4 32 (gl G), cI E m5 12 D, cJ E m6 6 (tv T)] 4 [(3, .int (nI q)), (2, .int (nI (nBent (K j) q))), (0, .ref h), (1, .int (nI j))] [] := by
  intro d
  induction d with
  | zero =>
    intro q h1
    have hnj := hn j
    have e_q : q = n j := by omega
    refine g_iload_n Z dX3_bent_4 0 rfl rfl ?_
    refine g_aload_n Z dX3_bent_5 2 rfl rfl ?_
    refine g_get Z dX3_bent_6 0 rfl rfl nX3_bent_X3 1 (by decide) fX3_bent_13 rfl ?_
    refine g_iload_n Z dX3_bent_9 3 rfl rfl ?_
    refine g_ialdE (v := nI (n j)) Z dX3_bent_10 1 rfl j rfl (by omega) rfl rfl ?_
    refine g_icmpN_ge (tgt := 58) Z dX3_bent_11 (by decide) q (n j) rfl rfl (by omega) (by omega) (fun c_11 => ?_) (fun c_11 => absurd c_11 (by omega))
    refine g_iload_n Z dX3_bent_58 1 rfl rfl ?_
    exact g_iret Z dX3_bent_59 rfl ⟨Nat.zero_le _, Nat.zero_le _⟩ ⟨by rw [e_q], rfl⟩
  | succ d ih =>
    intro q h1
    have hnj := hn j
    refine g_iload_n Z dX3_bent_4 0 rfl rfl ?_
    refine g_aload_n Z dX3_bent_5 2 rfl rfl ?_
    refine g_get Z dX3_bent_6 0 rfl rfl nX3_bent_X3 1 (by decide) fX3_bent_13 rfl ?_
    refine g_iload_n Z dX3_bent_9 3 rfl rfl ?_
    refine g_ialdE (v := nI (n j)) Z dX3_bent_10 1 rfl j rfl (by omega) rfl rfl ?_
    refine g_icmpN_ge (tgt := 58) Z dX3_bent_11 (by decide) q (n j) rfl rfl (by omega) (by omega) (fun c_11 => absurd c_11 (by omega)) (fun c_11 => ?_)
    refine g_iload_n Z dX3_bent_14 1 rfl rfl ?_
    refine g_aload_n Z dX3_bent_15 2 rfl rfl ?_
    refine g_get Z dX3_bent_16 0 rfl rfl nX3_bent_X3 2 (by decide) fX3_bent_17 rfl ?_
    refine g_bipush Z dX3_bent_19 zb_8 ?_
    refine g_iload_n Z dX3_bent_21 3 rfl rfl ?_
    refine g_imulE (z := nI (8 * j)) Z dX3_bent_22 (pk_mul 8 j) ?_
    refine g_iload_n Z dX3_bent_23 0 rfl rfl ?_
    refine g_iaddE (z := nI (8 * j + q)) Z dX3_bent_24 (nI_add (8 * j) q) ?_
    refine g_ialdE (v := K j q) Z dX3_bent_25 2 rfl (8 * j + q) rfl (by omega) rfl (gl_at _ (j := j) (p := q) (by omega) (by omega)) ?_
    refine g_iconst Z dX3_bent_26 zi_1 ?_
    refine g_icmp_eq (tgt := 45) Z dX3_bent_27 (by decide) (fun c_27 => ?_) (fun c_27 => ?_)
    · refine g_iconst Z dX3_bent_45 zi_1 ?_
      refine g_goto (tgt := 50) Z dX3_bent_46 (by decide) ?_
      refine g_iaddE (z := nI (nBent (K j) q + 1)) Z dX3_bent_50 (nI_add (nBent (K j) q) 1) ?_
      refine g_istore_n (lv' := [(2, .int (nI (nBent (K j) q + 1))), (3, .int (nI q)), (0, .ref h), (1, .int (nI j))]) Z dX3_bent_51 rfl (by decide) rfl ?_
      refine g_iinc (lv' := [(3, .int (nI (q + 1))), (2, .int (nI (nBent (K j) q + 1))), (0, .ref h), (1, .int (nI j))]) Z dX3_bent_52 1 rfl (zinc _) (by decide) rfl ?_
      refine g_goto (tgt := 4) Z dX3_bent_55 (by decide) ?_
      have e_b : nBent (K j) (q + 1) = nBent (K j) q + 1 := by simp only [nBent]; rw [if_pos (by simp [c_11, c_27])]
      refine g_lv (lv2 := [(3, .int (nI (q + 1))), (2, .int (nI (nBent (K j) q + 1))), (0, .ref h), (1, .int (nI j))]) Z [0, 1, 2, 3] rfl ?_
      rw [← e_b]
      exact ih (q + 1) (by omega)
    · refine g_aload_n Z dX3_bent_30 2 rfl rfl ?_
      refine g_get Z dX3_bent_31 0 rfl rfl nX3_bent_X3 2 (by decide) fX3_bent_17 rfl ?_
      refine g_bipush Z dX3_bent_34 zb_8 ?_
      refine g_iload_n Z dX3_bent_36 3 rfl rfl ?_
      refine g_imulE (z := nI (8 * j)) Z dX3_bent_37 (pk_mul 8 j) ?_
      refine g_iload_n Z dX3_bent_38 0 rfl rfl ?_
      refine g_iaddE (z := nI (8 * j + q)) Z dX3_bent_39 (nI_add (8 * j) q) ?_
      refine g_ialdE (v := K j q) Z dX3_bent_40 2 rfl (8 * j + q) rfl (by omega) rfl (gl_at _ (j := j) (p := q) (by omega) (by omega)) ?_
      refine g_iconst Z dX3_bent_41 zi_2 ?_
      refine g_icmp_ne (tgt := 49) Z dX3_bent_42 (by decide) (fun c_42 => ?_) (fun c_42 => ?_)
      · refine g_iconst Z dX3_bent_49 zi_0 ?_
        refine g_iaddE (z := nI (nBent (K j) q)) Z dX3_bent_50 (nI_add (nBent (K j) q) 0) ?_
        refine g_istore_n (lv' := [(2, .int (nI (nBent (K j) q))), (3, .int (nI q)), (0, .ref h), (1, .int (nI j))]) Z dX3_bent_51 rfl (by decide) rfl ?_
        refine g_iinc (lv' := [(3, .int (nI (q + 1))), (2, .int (nI (nBent (K j) q))), (0, .ref h), (1, .int (nI j))]) Z dX3_bent_52 1 rfl (zinc _) (by decide) rfl ?_
        refine g_goto (tgt := 4) Z dX3_bent_55 (by decide) ?_
        have e_b : nBent (K j) (q + 1) = nBent (K j) q := by simp only [nBent]; rw [if_neg (by simp [c_11, c_27, c_42])]; rfl
        refine g_lv (lv2 := [(3, .int (nI (q + 1))), (2, .int (nI (nBent (K j) q))), (0, .ref h), (1, .int (nI j))]) Z [0, 1, 2, 3] rfl ?_
        rw [← e_b]
        exact ih (q + 1) (by omega)
      · refine g_iconst Z dX3_bent_45 zi_1 ?_
        refine g_goto (tgt := 50) Z dX3_bent_46 (by decide) ?_
        refine g_iaddE (z := nI (nBent (K j) q + 1)) Z dX3_bent_50 (nI_add (nBent (K j) q) 1) ?_
        refine g_istore_n (lv' := [(2, .int (nI (nBent (K j) q + 1))), (3, .int (nI q)), (0, .ref h), (1, .int (nI j))]) Z dX3_bent_51 rfl (by decide) rfl ?_
        refine g_iinc (lv' := [(3, .int (nI (q + 1))), (2, .int (nI (nBent (K j) q + 1))), (0, .ref h), (1, .int (nI j))]) Z dX3_bent_52 1 rfl (zinc _) (by decide) rfl ?_
        refine g_goto (tgt := 4) Z dX3_bent_55 (by decide) ?_
        have e_b : nBent (K j) (q + 1) = nBent (K j) q + 1 := by simp only [nBent]; rw [if_pos (by simp [c_11, c_27, c_42])]
        refine g_lv (lv2 := [(3, .int (nI (q + 1))), (2, .int (nI (nBent (K j) q + 1))), (0, .ref h), (1, .int (nI j))]) Z [0, 1, 2, 3] rfl ?_
        rw [← e_b]
        exact ih (q + 1) (by omega)
set_option maxHeartbeats 4000000 in
set_option maxRecDepth 100000 in
theorem qX3_bent (E : zE) (h m1 m2 m3 m4 m5 m6 : Nat) (nb dn : Nat) (n : Nat → Nat) (K F G : Nat → Nat → Int32) (D : Nat → Int32) (T : TB) (j : Nat) (hnb : nb ≤ 4) (hn : ∀ b, n b ≤ 8) (hj : j < 4) : zF E yX3_bent wsX3_bent rX3_bent [.ref h, .int (nI j)] [cO h 3 [.int (nI nb), .ref m1, .ref m2, .ref m3, .ref m4, .int (nI dn), .ref m5, .ref m6, .long (tg T)], cI E m1 4 (mN n), cI E m2 32 (gl K), cI E m3 32 (gl F), cI E m4 32 (gl G), cI E m5 12 D, cJ E m6 6 (tv T)] (zx (some (.int (nI (nBent (K j) (n j))))) ([cO h 3 [.int (nI nb), .ref m1, .ref m2, .ref m3, .ref m4, .int (nI dn), .ref m5, .ref m6, .long (tg T)], cI E m1 4 (mN n), cI E m2 32 (gl K), cI E m3 32 (gl F), cI E m4 32 (gl G), cI E m5 12 D, cJ E m6 6 (tv T)])) := by
  refine z_start RX3 "bent" (by decide) rfl rfl rfl (Nat.le_of_ble_eq_true rfl) ?_
  intro J Z
  refine g_eq Z (lv2 := [(0, .ref h), (1, .int (nI j))]) rfl rfl rfl ?_
  refine g_iconst Z dX3_bent_0 zi_0 ?_
  refine g_istore_n (lv' := [(2, .int 0), (0, .ref h), (1, .int (nI j))]) Z dX3_bent_1 rfl (by decide) rfl ?_
  refine g_iconst Z dX3_bent_2 zi_0 ?_
  refine g_istore_n (lv' := [(3, .int 0), (2, .int 0), (0, .ref h), (1, .int (nI j))]) Z dX3_bent_3 rfl (by decide) rfl ?_
  exact lX3_bent E h m1 m2 m3 m4 m5 m6 nb dn n K F G D T j hnb hn hj Z (n j) 0 (by omega)

abbrev rX3_tilts : Room := { frames := 0, cells := 0, slots := 0, locals := 0 }
theorem iX3_tilts : zInfo yX3_tilts wsX3_tilts RX3 4 (some .int) 1 := ⟨_, _, rfl, by decide +kernel⟩
theorem nX3_tilts_X3 : ∀ w ∈ wsX30, w ∈ wsX3_tilts := by decide +kernel
theorem fX3_tilts_13 : Cond.fieldLink RX3 13 (TX3 1).1 (TX3 1).2.1 (TX3 1).2.2.1 ∈ wsX3_tilts := by decide +kernel
theorem fX3_tilts_17 : Cond.fieldLink RX3 17 (TX3 2).1 (TX3 2).2.1 (TX3 2).2.2.1 ∈ wsX3_tilts := by decide +kernel
set_option maxHeartbeats 4000000 in
set_option maxRecDepth 100000 in
theorem lX3_tilts (E : zE) (h m1 m2 m3 m4 m5 m6 : Nat) (nb dn : Nat) (n : Nat → Nat) (K F G : Nat → Nat → Int32) (D : Nat → Int32) (T : TB) (j : Nat) (hnb : nb ≤ 4) (hn : ∀ b, n b ≤ 8) (hj : j < 4) {J : zJ} (Z : zOk E J RX3 cX3_tilts 4 (some .int) wsX3_tilts rX3_tilts "tilts" (fun _ => True) (zx (some (.int (nI (nTilt (K j) (n j))))) ([cO h 3 [.int (nI nb), .ref m1, .ref m2, .ref m3, .ref m4, .int (nI dn), .ref m5, .ref m6, .long (tg T)], cI E m1 4 (mN n), cI E m2 32 (gl K), cI E m3 32 (gl F), cI E m4 32 (gl G), cI E m5 12 D, cJ E m6 6 (tv T)])))  : ∀ (d : Nat) (q : Nat), q + d = n j → J 0 0 [cO h 3 [.int (nI nb), .ref m1, .ref m2, .ref m3, .ref m4, .int (nI dn), .ref m5, .ref m6, .long (tg T)], cI E m1 4 (mN n), cI E m2 32 (gl K), cI E m3 32 (gl F), cI E m4 32 (gl G), cI E m5 12 D, cJ E m6 6 (tv T)] 4 [(3, .int (nI q)), (2, .int (nI (nTilt (K j) q))), (0, .ref h), (1, .int (nI j))] [] := by
  intro d
  induction d with
  | zero =>
    intro q h1
    have hnj := hn j
    have e_q : q = n j := by omega
    refine g_iload_n Z dX3_tilts_4 0 rfl rfl ?_
    refine g_aload_n Z dX3_tilts_5 2 rfl rfl ?_
    refine g_get Z dX3_tilts_6 0 rfl rfl nX3_tilts_X3 1 (by decide) fX3_tilts_13 rfl ?_
    refine g_iload_n Z dX3_tilts_9 3 rfl rfl ?_
    refine g_ialdE (v := nI (n j)) Z dX3_tilts_10 1 rfl j rfl (by omega) rfl rfl ?_
    refine g_icmpN_ge (tgt := 43) Z dX3_tilts_11 (by decide) q (n j) rfl rfl (by omega) (by omega) (fun c_11 => ?_) (fun c_11 => absurd c_11 (by omega))
    refine g_iload_n Z dX3_tilts_43 1 rfl rfl ?_
    exact g_iret Z dX3_tilts_44 rfl ⟨Nat.zero_le _, Nat.zero_le _⟩ ⟨by rw [e_q], rfl⟩
  | succ d ih =>
    intro q h1
    have hnj := hn j
    refine g_iload_n Z dX3_tilts_4 0 rfl rfl ?_
    refine g_aload_n Z dX3_tilts_5 2 rfl rfl ?_
    refine g_get Z dX3_tilts_6 0 rfl rfl nX3_tilts_X3 1 (by decide) fX3_tilts_13 rfl ?_
    refine g_iload_n Z dX3_tilts_9 3 rfl rfl ?_
    refine g_ialdE (v := nI (n j)) Z dX3_tilts_10 1 rfl j rfl (by omega) rfl rfl ?_
    refine g_icmpN_ge (tgt := 43) Z dX3_tilts_11 (by decide) q (n j) rfl rfl (by omega) (by omega) (fun c_11 => absurd c_11 (by omega)) (fun c_11 => ?_)
    refine g_iload_n Z dX3_tilts_14 1 rfl rfl ?_
    refine g_aload_n Z dX3_tilts_15 2 rfl rfl ?_
    refine g_get Z dX3_tilts_16 0 rfl rfl nX3_tilts_X3 2 (by decide) fX3_tilts_17 rfl ?_
    refine g_bipush Z dX3_tilts_19 zb_8 ?_
    refine g_iload_n Z dX3_tilts_21 3 rfl rfl ?_
    refine g_imulE (z := nI (8 * j)) Z dX3_tilts_22 (pk_mul 8 j) ?_
    refine g_iload_n Z dX3_tilts_23 0 rfl rfl ?_
    refine g_iaddE (z := nI (8 * j + q)) Z dX3_tilts_24 (nI_add (8 * j) q) ?_
    refine g_ialdE (v := K j q) Z dX3_tilts_25 2 rfl (8 * j + q) rfl (by omega) rfl (gl_at _ (j := j) (p := q) (by omega) (by omega)) ?_
    refine g_iconst Z dX3_tilts_26 zi_3 ?_
    refine g_icmp_ne (tgt := 34) Z dX3_tilts_27 (by decide) (fun c_27 => ?_) (fun c_27 => ?_)
    · refine g_iconst Z dX3_tilts_34 zi_0 ?_
      refine g_iaddE (z := nI (nTilt (K j) q)) Z dX3_tilts_35 (nI_add (nTilt (K j) q) 0) ?_
      refine g_istore_n (lv' := [(2, .int (nI (nTilt (K j) q))), (3, .int (nI q)), (0, .ref h), (1, .int (nI j))]) Z dX3_tilts_36 rfl (by decide) rfl ?_
      refine g_iinc (lv' := [(3, .int (nI (q + 1))), (2, .int (nI (nTilt (K j) q))), (0, .ref h), (1, .int (nI j))]) Z dX3_tilts_37 1 rfl (zinc _) (by decide) rfl ?_
      refine g_goto (tgt := 4) Z dX3_tilts_40 (by decide) ?_
      have e_b : nTilt (K j) (q + 1) = nTilt (K j) q := by simp only [nTilt]; rw [if_neg (by simp [c_11, c_27])]; rfl
      refine g_lv (lv2 := [(3, .int (nI (q + 1))), (2, .int (nI (nTilt (K j) q))), (0, .ref h), (1, .int (nI j))]) Z [0, 1, 2, 3] rfl ?_
      rw [← e_b]
      exact ih (q + 1) (by omega)
    · refine g_iconst Z dX3_tilts_30 zi_1 ?_
      refine g_goto (tgt := 35) Z dX3_tilts_31 (by decide) ?_
      refine g_iaddE (z := nI (nTilt (K j) q + 1)) Z dX3_tilts_35 (nI_add (nTilt (K j) q) 1) ?_
      refine g_istore_n (lv' := [(2, .int (nI (nTilt (K j) q + 1))), (3, .int (nI q)), (0, .ref h), (1, .int (nI j))]) Z dX3_tilts_36 rfl (by decide) rfl ?_
      refine g_iinc (lv' := [(3, .int (nI (q + 1))), (2, .int (nI (nTilt (K j) q + 1))), (0, .ref h), (1, .int (nI j))]) Z dX3_tilts_37 1 rfl (zinc _) (by decide) rfl ?_
      refine g_goto (tgt := 4) Z dX3_tilts_40 (by decide) ?_
      have e_b : nTilt (K j) (q + 1) = nTilt (K j) q + 1 := by simp only [nTilt]; rw [if_pos (by simp [c_11, c_27])]
      refine g_lv (lv2 := [(3, .int (nI (q + 1))), (2, .int (nI (nTilt (K j) q + 1))), (0, .ref h), (1, .int (nI j))]) Z [0, 1, 2, 3] rfl ?_
      rw [← e_b]
      exact ih (q + 1) (by omega)
set_option maxHeartbeats 4000000 in
set_option maxRecDepth 100000 in
theorem qX3_tilts (E : zE) (h m1 m2 m3 m4 m5 m6 : Nat) (nb dn : Nat) (n : Nat → Nat) (K F G : Nat → Nat → Int32) (D : Nat → Int32) (T : TB) (j : Nat) (hnb : nb ≤ 4) (hn : ∀ b, n b ≤ 8) (hj : j < 4) : zF E yX3_tilts wsX3_tilts rX3_tilts [.ref h, .int (nI j)] [cO h 3 [.int (nI nb), .ref m1, .ref m2, .ref m3, .ref m4, .int (nI dn), .ref m5, .ref m6, .long (tg T)], cI E m1 4 (mN n), cI E m2 32 (gl K), cI E m3 32 (gl F), cI E m4 32 (gl G), cI E m5 12 D, cJ E m6 6 (tv T)] (zx (some (.int (nI (nTilt (K j) (n j))))) ([cO h 3 [.int (nI nb), .ref m1, .ref m2, .ref m3, .ref m4, .int (nI dn), .ref m5, .ref m6, .long (tg T)], cI E m1 4 (mN n), cI E m2 32 (gl K), cI E m3 32 (gl F), cI E m4 32 (gl G), cI E m5 12 D, cJ E m6 6 (tv T)])) := by
  refine z_start RX3 "tilts" (by decide) rfl rfl rfl (Nat.le_of_ble_eq_true rfl) ?_
  intro J Z
  refine g_eq Z (lv2 := [(0, .ref h), (1, .int (nI j))]) rfl rfl rfl ?_
  refine g_iconst Z dX3_tilts_0 zi_0 ?_
  refine g_istore_n (lv' := [(2, .int 0), (0, .ref h), (1, .int (nI j))]) Z dX3_tilts_1 rfl (by decide) rfl ?_
  refine g_iconst Z dX3_tilts_2 zi_0 ?_
  refine g_istore_n (lv' := [(3, .int 0), (2, .int 0), (0, .ref h), (1, .int (nI j))]) Z dX3_tilts_3 rfl (by decide) rfl ?_
  exact lX3_tilts E h m1 m2 m3 m4 m5 m6 nb dn n K F G D T j hnb hn hj Z (n j) 0 (by omega)

abbrev rX3_lay : Room := { frames := 0, cells := 0, slots := 0, locals := 0 }
theorem iX3_lay : zInfo yX3_lay wsX3_lay RX3 5 none 4 := ⟨_, _, rfl, by decide +kernel⟩
theorem nX3_lay_X3 : ∀ w ∈ wsX30, w ∈ wsX3_lay := by decide +kernel
theorem fX3_lay_17 : Cond.fieldLink RX3 17 (TX3 2).1 (TX3 2).2.1 (TX3 2).2.2.1 ∈ wsX3_lay := by decide +kernel
theorem fX3_lay_20 : Cond.fieldLink RX3 20 (TX3 3).1 (TX3 3).2.1 (TX3 3).2.2.1 ∈ wsX3_lay := by decide +kernel
theorem fX3_lay_23 : Cond.fieldLink RX3 23 (TX3 4).1 (TX3 4).2.1 (TX3 4).2.2.1 ∈ wsX3_lay := by decide +kernel
set_option maxHeartbeats 4000000 in
set_option maxRecDepth 100000 in
theorem qX3_lay (E : zE) (h m1 m2 m3 m4 m5 m6 : Nat) (nb dn : Nat) (n : Nat → Nat) (K F G : Nat → Nat → Int32) (D : Nat → Int32) (T : TB) (R S U : Nat → Int32) (j p q : Nat) (kd a b : Int32) (hq : q = 8 * j + p) (hp : p < 8) (hj : j < 4) : zF E yX3_lay wsX3_lay rX3_lay [.ref h, .int (nI q), .int kd, .int a, .int b] [cO h 3 [.int (nI nb), .ref m1, .ref m2, .ref m3, .ref m4, .int (nI dn), .ref m5, .ref m6, .long (tg T)], cI E m1 4 (mN n), cI E m2 32 (gl (va_up K j R)), cI E m3 32 (gl (va_up F j S)), cI E m4 32 (gl (va_up G j U)), cI E m5 12 D, cJ E m6 6 (tv T)] (zx none ([cO h 3 [.int (nI nb), .ref m1, .ref m2, .ref m3, .ref m4, .int (nI dn), .ref m5, .ref m6, .long (tg T)], cI E m1 4 (mN n), cI E m2 32 (gl (va_up K j (upd R p kd))), cI E m3 32 (gl (va_up F j (upd S p a))), cI E m4 32 (gl (va_up G j (upd U p b))), cI E m5 12 D, cJ E m6 6 (tv T)])) := by
  refine z_start RX3 "lay" (by decide) rfl rfl rfl (Nat.le_of_ble_eq_true rfl) ?_
  intro J Z
  refine g_eq Z (lv2 := [(0, .ref h), (1, .int (nI q)), (2, .int kd), (3, .int a), (4, .int b)]) rfl rfl rfl ?_
  refine g_aload_n Z dX3_lay_0 0 rfl rfl ?_
  refine g_get Z dX3_lay_1 0 rfl rfl nX3_lay_X3 2 (by decide) fX3_lay_17 rfl ?_
  refine g_iload_n Z dX3_lay_4 1 rfl rfl ?_
  refine g_iload_n Z dX3_lay_5 2 rfl rfl ?_
  refine g_iastE (w' := [cO h 3 [.int (nI nb), .ref m1, .ref m2, .ref m3, .ref m4, .int (nI dn), .ref m5, .ref m6, .long (tg T)], cI E m1 4 (mN n), cI E m2 32 (gl (va_up K j (upd R p kd))), cI E m3 32 (gl (va_up F j S)), cI E m4 32 (gl (va_up G j U)), cI E m5 12 D, cJ E m6 6 (tv T)]) Z dX3_lay_6 2 rfl q rfl (by omega) rfl (gl_setU _ _ (j := j) (p := p) _ hq hp) rfl ?_
  refine g_aload_n Z dX3_lay_7 0 rfl rfl ?_
  refine g_get Z dX3_lay_8 0 rfl rfl nX3_lay_X3 3 (by decide) fX3_lay_20 rfl ?_
  refine g_iload_n Z dX3_lay_11 1 rfl rfl ?_
  refine g_iload_n Z dX3_lay_12 3 rfl rfl ?_
  refine g_iastE (w' := [cO h 3 [.int (nI nb), .ref m1, .ref m2, .ref m3, .ref m4, .int (nI dn), .ref m5, .ref m6, .long (tg T)], cI E m1 4 (mN n), cI E m2 32 (gl (va_up K j (upd R p kd))), cI E m3 32 (gl (va_up F j (upd S p a))), cI E m4 32 (gl (va_up G j U)), cI E m5 12 D, cJ E m6 6 (tv T)]) Z dX3_lay_13 3 rfl q rfl (by omega) rfl (gl_setU _ _ (j := j) (p := p) _ hq hp) rfl ?_
  refine g_aload_n Z dX3_lay_14 0 rfl rfl ?_
  refine g_get Z dX3_lay_15 0 rfl rfl nX3_lay_X3 4 (by decide) fX3_lay_23 rfl ?_
  refine g_iload_n Z dX3_lay_18 1 rfl rfl ?_
  refine g_iload Z dX3_lay_19 4 rfl ?_
  refine g_iastE (w' := [cO h 3 [.int (nI nb), .ref m1, .ref m2, .ref m3, .ref m4, .int (nI dn), .ref m5, .ref m6, .long (tg T)], cI E m1 4 (mN n), cI E m2 32 (gl (va_up K j (upd R p kd))), cI E m3 32 (gl (va_up F j (upd S p a))), cI E m4 32 (gl (va_up G j (upd U p b))), cI E m5 12 D, cJ E m6 6 (tv T)]) Z dX3_lay_21 4 rfl q rfl (by omega) rfl (gl_setU _ _ (j := j) (p := p) _ hq hp) rfl ?_
  exact g_vret Z dX3_lay_22 rfl ⟨Nat.zero_le _, Nat.zero_le _⟩ ⟨rfl, rfl⟩

abbrev rX3_put : Room := { frames := 3, cells := 0, slots := 0, locals := 67 }
theorem iX3_put : zInfo yX3_put wsX3_put RX3 7 (some .int) 5 := ⟨_, _, rfl, by decide +kernel⟩
theorem nX3_put_X3 : ∀ w ∈ wsX30, w ∈ wsX3_put := by decide +kernel
theorem fX3_put_13 : Cond.fieldLink RX3 13 (TX3 1).1 (TX3 1).2.1 (TX3 1).2.2.1 ∈ wsX3_put := by decide +kernel
set_option maxHeartbeats 4000000 in
set_option maxRecDepth 100000 in
theorem qX3_putN (E : zE) (h m1 m2 m3 m4 m5 m6 : Nat) (nb dn : Nat) (n : Nat → Nat) (K F G : Nat → Nat → Int32) (D : Nat → Int32) (T : TB) (b i kd a c : Int32) (hnb : nb ≤ 4) (hn : ∀ b, n b ≤ 8) (hv : ¬ ∃ j, j < nb ∧ b = nI j ∧ inB (n j + 1) i) : zF E yX3_put wsX3_put rX3_put [.ref h, .int b, .int i, .int kd, .int a, .int c] [cO h 3 [.int (nI nb), .ref m1, .ref m2, .ref m3, .ref m4, .int (nI dn), .ref m5, .ref m6, .long (tg T)], cI E m1 4 (mN n), cI E m2 32 (gl K), cI E m3 32 (gl F), cI E m4 32 (gl G), cI E m5 12 D, cJ E m6 6 (tv T)] (zx (some (.int (-1))) ([cO h 3 [.int (nI nb), .ref m1, .ref m2, .ref m3, .ref m4, .int (nI dn), .ref m5, .ref m6, .long (tg T)], cI E m1 4 (mN n), cI E m2 32 (gl K), cI E m3 32 (gl F), cI E m4 32 (gl G), cI E m5 12 D, cJ E m6 6 (tv T)])) := by
  refine z_start RX3 "put" (by decide) rfl rfl rfl (Nat.le_of_ble_eq_true rfl) ?_
  intro J Z
  refine g_eq Z (lv2 := [(0, .ref h), (1, .int b), (2, .int i), (3, .int kd), (4, .int a), (5, .int c)]) rfl rfl rfl ?_
  refine g_aload_n Z dX3_put_0 0 rfl rfl ?_
  refine g_iload_n Z dX3_put_1 1 rfl rfl ?_
  refine g_callVx (w' := [cO h 3 [.int (nI nb), .ref m1, .ref m2, .ref m3, .ref m4, .int (nI dn), .ref m5, .ref m6, .long (tg T)], cI E m1 4 (mN n), cI E m2 32 (gl K), cI E m3 32 (gl F), cI E m4 32 (gl G), cI E m5 12 D, cJ E m6 6 (tv T)]) Z (qX3_isBench E h m1 m2 m3 m4 m5 m6 nb dn T b (by omega)) iX3_isBench gX3_put_X3_isBench ⟨rfl, rfl⟩ ⟨Nat.le_of_ble_eq_true rfl, Nat.le_of_ble_eq_true rfl⟩ dX3_put_2 rfl rfl (Nat.le_of_ble_eq_true rfl) ⟨Nat.zero_le _, Nat.zero_le _⟩ [0] rfl rfl 0 rfl rfl rfl rfl rfl ?_
  refine g_ifb_eq (tgt := 23) Z dX3_put_5 (by decide) (fun c_5 => ?_) (fun c_5 => ?_)
  · refine g_iconst Z dX3_put_23 zi_m1 ?_
    exact g_iret Z dX3_put_24 rfl ⟨Nat.zero_le _, Nat.zero_le _⟩ ⟨rfl, rfl⟩
  · obtain ⟨j, hj, rfl⟩ := inB_of c_5
    have hnj := hn j
    refine g_aload_n Z dX3_put_8 0 rfl rfl ?_
    refine g_iload_n Z dX3_put_9 2 rfl rfl ?_
    refine g_iconst Z dX3_put_10 zi_0 ?_
    refine g_aload_n Z dX3_put_11 0 rfl rfl ?_
    refine g_get Z dX3_put_12 0 rfl rfl nX3_put_X3 1 (by decide) fX3_put_13 rfl ?_
    refine g_iload_n Z dX3_put_15 1 rfl rfl ?_
    refine g_ialdE (v := nI (n j)) Z dX3_put_16 1 rfl j rfl (by omega) rfl rfl ?_
    refine g_callVx (w' := [cO h 3 [.int (nI nb), .ref m1, .ref m2, .ref m3, .ref m4, .int (nI dn), .ref m5, .ref m6, .long (tg T)], cI E m1 4 (mN n), cI E m2 32 (gl K), cI E m3 32 (gl F), cI E m4 32 (gl G), cI E m5 12 D, cJ E m6 6 (tv T)]) Z (qX3_in E h m1 m2 m3 m4 m5 m6 nb dn T i 0 (nI (n j))) iX3_in gX3_put_X3_in ⟨rfl, rfl⟩ ⟨Nat.le_of_ble_eq_true rfl, Nat.le_of_ble_eq_true rfl⟩ dX3_put_17 rfl rfl (Nat.le_of_ble_eq_true rfl) ⟨Nat.zero_le _, Nat.zero_le _⟩ [0] rfl rfl 0 rfl rfl rfl rfl rfl ?_
    refine g_ifb_ne (tgt := 25) Z dX3_put_20 (by decide) (fun c_20 => ?_) (fun c_20 => ?_)
    · exact absurd ⟨j, hj, rfl, (inB_P (by omega)).mp c_20⟩ hv
    · refine g_iconst Z dX3_put_23 zi_m1 ?_
      exact g_iret Z dX3_put_24 rfl ⟨Nat.zero_le _, Nat.zero_le _⟩ ⟨rfl, rfl⟩


set_option maxHeartbeats 4000000 in
set_option maxRecDepth 100000 in
theorem qX3_putB (E : zE) (h m1 m2 m3 m4 m5 m6 : Nat) (nb dn : Nat) (n : Nat → Nat) (K F G : Nat → Nat → Int32) (D : Nat → Int32) (T : TB) (j p : Nat) (kd a c : Int32) (hnb : nb ≤ 4) (hn : ∀ b, n b ≤ 8) (hj : j < nb) (hp : p ≤ n j) (hg : ¬ gdP kd a c) : zF E yX3_put wsX3_put rX3_put [.ref h, .int (nI j), .int (nI p), .int kd, .int a, .int c] [cO h 3 [.int (nI nb), .ref m1, .ref m2, .ref m3, .ref m4, .int (nI dn), .ref m5, .ref m6, .long (tg T)], cI E m1 4 (mN n), cI E m2 32 (gl K), cI E m3 32 (gl F), cI E m4 32 (gl G), cI E m5 12 D, cJ E m6 6 (tv T)] (zx (some (.int (-2))) ([cO h 3 [.int (nI nb), .ref m1, .ref m2, .ref m3, .ref m4, .int (nI dn), .ref m5, .ref m6, .long (tg T)], cI E m1 4 (mN n), cI E m2 32 (gl K), cI E m3 32 (gl F), cI E m4 32 (gl G), cI E m5 12 D, cJ E m6 6 (tv T)])) := by
  refine z_start RX3 "put" (by decide) rfl rfl rfl (Nat.le_of_ble_eq_true rfl) ?_
  intro J Z
  refine g_eq Z (lv2 := [(0, .ref h), (1, .int (nI j)), (2, .int (nI p)), (3, .int kd), (4, .int a), (5, .int c)]) rfl rfl rfl ?_
  have hnj := hn j
  refine g_aload_n Z dX3_put_0 0 rfl rfl ?_
  refine g_iload_n Z dX3_put_1 1 rfl rfl ?_
  refine g_callVx (w' := [cO h 3 [.int (nI nb), .ref m1, .ref m2, .ref m3, .ref m4, .int (nI dn), .ref m5, .ref m6, .long (tg T)], cI E m1 4 (mN n), cI E m2 32 (gl K), cI E m3 32 (gl F), cI E m4 32 (gl G), cI E m5 12 D, cJ E m6 6 (tv T)]) Z (qX3_isBench E h m1 m2 m3 m4 m5 m6 nb dn T (nI j) (by omega)) iX3_isBench gX3_put_X3_isBench ⟨rfl, rfl⟩ ⟨Nat.le_of_ble_eq_true rfl, Nat.le_of_ble_eq_true rfl⟩ dX3_put_2 rfl rfl (Nat.le_of_ble_eq_true rfl) ⟨Nat.zero_le _, Nat.zero_le _⟩ [0] rfl rfl 0 rfl rfl rfl rfl rfl ?_
  refine g_ifb_eq (tgt := 23) Z dX3_put_5 (by decide) (fun c_5 => absurd c_5 (fun q => q (inB_nI hj (by omega)))) (fun c_5 => ?_)
  refine g_aload_n Z dX3_put_8 0 rfl rfl ?_
  refine g_iload_n Z dX3_put_9 2 rfl rfl ?_
  refine g_iconst Z dX3_put_10 zi_0 ?_
  refine g_aload_n Z dX3_put_11 0 rfl rfl ?_
  refine g_get Z dX3_put_12 0 rfl rfl nX3_put_X3 1 (by decide) fX3_put_13 rfl ?_
  refine g_iload_n Z dX3_put_15 1 rfl rfl ?_
  refine g_ialdE (v := nI (n j)) Z dX3_put_16 1 rfl j rfl (by omega) rfl rfl ?_
  refine g_callVx (w' := [cO h 3 [.int (nI nb), .ref m1, .ref m2, .ref m3, .ref m4, .int (nI dn), .ref m5, .ref m6, .long (tg T)], cI E m1 4 (mN n), cI E m2 32 (gl K), cI E m3 32 (gl F), cI E m4 32 (gl G), cI E m5 12 D, cJ E m6 6 (tv T)]) Z (qX3_in E h m1 m2 m3 m4 m5 m6 nb dn T (nI p) 0 (nI (n j))) iX3_in gX3_put_X3_in ⟨rfl, rfl⟩ ⟨Nat.le_of_ble_eq_true rfl, Nat.le_of_ble_eq_true rfl⟩ dX3_put_17 rfl rfl (Nat.le_of_ble_eq_true rfl) ⟨Nat.zero_le _, Nat.zero_le _⟩ [0] rfl rfl 0 rfl rfl rfl rfl rfl ?_
  refine g_ifb_ne (tgt := 25) Z dX3_put_20 (by decide) (fun c_20 => ?_) (fun c_20 => absurd c_20 (fun q => q ((inB_P (by omega)).mpr (inB_nI (by omega) (by omega)))))
  refine g_aload_n Z dX3_put_25 0 rfl rfl ?_
  refine g_iload_n Z dX3_put_26 3 rfl rfl ?_
  refine g_iload Z dX3_put_27 4 rfl ?_
  refine g_iload Z dX3_put_29 5 rfl ?_
  refine g_callVx (w' := [cO h 3 [.int (nI nb), .ref m1, .ref m2, .ref m3, .ref m4, .int (nI dn), .ref m5, .ref m6, .long (tg T)], cI E m1 4 (mN n), cI E m2 32 (gl K), cI E m3 32 (gl F), cI E m4 32 (gl G), cI E m5 12 D, cJ E m6 6 (tv T)]) Z (qX3_isGood E h m1 m2 m3 m4 m5 m6 nb dn T kd a c) iX3_isGood gX3_put_X3_isGood ⟨rfl, rfl⟩ ⟨Nat.le_of_ble_eq_true rfl, Nat.le_of_ble_eq_true rfl⟩ dX3_put_31 rfl rfl (Nat.le_of_ble_eq_true rfl) ⟨Nat.zero_le _, Nat.zero_le _⟩ [0] rfl rfl 0 rfl rfl rfl rfl rfl ?_
  refine g_ifb_ne (tgt := 40) Z dX3_put_34 (by decide) (fun c_34 => absurd c_34 hg) (fun c_34 => ?_)
  refine g_bipush Z dX3_put_37 zb_m2 ?_
  exact g_iret Z dX3_put_39 rfl ⟨Nat.zero_le _, Nat.zero_le _⟩ ⟨rfl, rfl⟩


set_option maxHeartbeats 4000000 in
set_option maxRecDepth 100000 in
theorem qX3_putF (E : zE) (h m1 m2 m3 m4 m5 m6 : Nat) (nb dn : Nat) (n : Nat → Nat) (K F G : Nat → Nat → Int32) (D : Nat → Int32) (T : TB) (j p : Nat) (kd a c : Int32) (hnb : nb ≤ 4) (hn : ∀ b, n b ≤ 8) (hj : j < nb) (hp : p ≤ n j) (hg : gdP kd a c) (hB : nBent (K j) (n j) ≤ 3) (hT : nTilt (K j) (n j) ≤ 2) (hf : 8 ≤ n j ∨ ((kd = 1 ∨ kd = 2) ∧ 3 ≤ nBent (K j) (n j)) ∨ (kd = 3 ∧ 2 ≤ nTilt (K j) (n j))) : zF E yX3_put wsX3_put rX3_put [.ref h, .int (nI j), .int (nI p), .int kd, .int a, .int c] [cO h 3 [.int (nI nb), .ref m1, .ref m2, .ref m3, .ref m4, .int (nI dn), .ref m5, .ref m6, .long (tg T)], cI E m1 4 (mN n), cI E m2 32 (gl K), cI E m3 32 (gl F), cI E m4 32 (gl G), cI E m5 12 D, cJ E m6 6 (tv T)] (zx (some (.int (-4))) ([cO h 3 [.int (nI nb), .ref m1, .ref m2, .ref m3, .ref m4, .int (nI dn), .ref m5, .ref m6, .long (tg T)], cI E m1 4 (mN n), cI E m2 32 (gl K), cI E m3 32 (gl F), cI E m4 32 (gl G), cI E m5 12 D, cJ E m6 6 (tv T)])) := by
  refine z_start RX3 "put" (by decide) rfl rfl rfl (Nat.le_of_ble_eq_true rfl) ?_
  intro J Z
  refine g_eq Z (lv2 := [(0, .ref h), (1, .int (nI j)), (2, .int (nI p)), (3, .int kd), (4, .int a), (5, .int c)]) rfl rfl rfl ?_
  have hnj := hn j
  refine g_aload_n Z dX3_put_0 0 rfl rfl ?_
  refine g_iload_n Z dX3_put_1 1 rfl rfl ?_
  refine g_callVx (w' := [cO h 3 [.int (nI nb), .ref m1, .ref m2, .ref m3, .ref m4, .int (nI dn), .ref m5, .ref m6, .long (tg T)], cI E m1 4 (mN n), cI E m2 32 (gl K), cI E m3 32 (gl F), cI E m4 32 (gl G), cI E m5 12 D, cJ E m6 6 (tv T)]) Z (qX3_isBench E h m1 m2 m3 m4 m5 m6 nb dn T (nI j) (by omega)) iX3_isBench gX3_put_X3_isBench ⟨rfl, rfl⟩ ⟨Nat.le_of_ble_eq_true rfl, Nat.le_of_ble_eq_true rfl⟩ dX3_put_2 rfl rfl (Nat.le_of_ble_eq_true rfl) ⟨Nat.zero_le _, Nat.zero_le _⟩ [0] rfl rfl 0 rfl rfl rfl rfl rfl ?_
  refine g_ifb_eq (tgt := 23) Z dX3_put_5 (by decide) (fun c_5 => absurd c_5 (fun q => q (inB_nI hj (by omega)))) (fun c_5 => ?_)
  refine g_aload_n Z dX3_put_8 0 rfl rfl ?_
  refine g_iload_n Z dX3_put_9 2 rfl rfl ?_
  refine g_iconst Z dX3_put_10 zi_0 ?_
  refine g_aload_n Z dX3_put_11 0 rfl rfl ?_
  refine g_get Z dX3_put_12 0 rfl rfl nX3_put_X3 1 (by decide) fX3_put_13 rfl ?_
  refine g_iload_n Z dX3_put_15 1 rfl rfl ?_
  refine g_ialdE (v := nI (n j)) Z dX3_put_16 1 rfl j rfl (by omega) rfl rfl ?_
  refine g_callVx (w' := [cO h 3 [.int (nI nb), .ref m1, .ref m2, .ref m3, .ref m4, .int (nI dn), .ref m5, .ref m6, .long (tg T)], cI E m1 4 (mN n), cI E m2 32 (gl K), cI E m3 32 (gl F), cI E m4 32 (gl G), cI E m5 12 D, cJ E m6 6 (tv T)]) Z (qX3_in E h m1 m2 m3 m4 m5 m6 nb dn T (nI p) 0 (nI (n j))) iX3_in gX3_put_X3_in ⟨rfl, rfl⟩ ⟨Nat.le_of_ble_eq_true rfl, Nat.le_of_ble_eq_true rfl⟩ dX3_put_17 rfl rfl (Nat.le_of_ble_eq_true rfl) ⟨Nat.zero_le _, Nat.zero_le _⟩ [0] rfl rfl 0 rfl rfl rfl rfl rfl ?_
  refine g_ifb_ne (tgt := 25) Z dX3_put_20 (by decide) (fun c_20 => ?_) (fun c_20 => absurd c_20 (fun q => q ((inB_P (by omega)).mpr (inB_nI (by omega) (by omega)))))
  refine g_aload_n Z dX3_put_25 0 rfl rfl ?_
  refine g_iload_n Z dX3_put_26 3 rfl rfl ?_
  refine g_iload Z dX3_put_27 4 rfl ?_
  refine g_iload Z dX3_put_29 5 rfl ?_
  refine g_callVx (w' := [cO h 3 [.int (nI nb), .ref m1, .ref m2, .ref m3, .ref m4, .int (nI dn), .ref m5, .ref m6, .long (tg T)], cI E m1 4 (mN n), cI E m2 32 (gl K), cI E m3 32 (gl F), cI E m4 32 (gl G), cI E m5 12 D, cJ E m6 6 (tv T)]) Z (qX3_isGood E h m1 m2 m3 m4 m5 m6 nb dn T kd a c) iX3_isGood gX3_put_X3_isGood ⟨rfl, rfl⟩ ⟨Nat.le_of_ble_eq_true rfl, Nat.le_of_ble_eq_true rfl⟩ dX3_put_31 rfl rfl (Nat.le_of_ble_eq_true rfl) ⟨Nat.zero_le _, Nat.zero_le _⟩ [0] rfl rfl 0 rfl rfl rfl rfl rfl ?_
  refine g_ifb_ne (tgt := 40) Z dX3_put_34 (by decide) (fun c_34 => ?_) (fun c_34 => absurd c_34 (fun q => q hg))
  refine g_aload_n Z dX3_put_40 0 rfl rfl ?_
  refine g_get Z dX3_put_41 0 rfl rfl nX3_put_X3 1 (by decide) fX3_put_13 rfl ?_
  refine g_iload_n Z dX3_put_44 1 rfl rfl ?_
  refine g_ialdE (v := nI (n j)) Z dX3_put_45 1 rfl j rfl (by omega) rfl rfl ?_
  refine g_bipush Z dX3_put_46 zb_8 ?_
  refine g_icmpN_eq (tgt := 84) Z dX3_put_48 (by decide) (n j) 8 rfl rfl (by omega) (by omega) (fun c_48 => ?_) (fun c_48 => ?_)
  · refine g_bipush Z dX3_put_84 zb_m4 ?_
    exact g_iret Z dX3_put_86 rfl ⟨Nat.zero_le _, Nat.zero_le _⟩ ⟨rfl, rfl⟩
  · refine g_iload_n Z dX3_put_51 3 rfl rfl ?_
    refine g_iconst Z dX3_put_52 zi_1 ?_
    refine g_icmp_eq (tgt := 61) Z dX3_put_53 (by decide) (fun c_53 => ?_) (fun c_53 => ?_)
    · refine g_aload_n Z dX3_put_61 0 rfl rfl ?_
      refine g_iload_n Z dX3_put_62 1 rfl rfl ?_
      refine g_callVx (w' := [cO h 3 [.int (nI nb), .ref m1, .ref m2, .ref m3, .ref m4, .int (nI dn), .ref m5, .ref m6, .long (tg T)], cI E m1 4 (mN n), cI E m2 32 (gl K), cI E m3 32 (gl F), cI E m4 32 (gl G), cI E m5 12 D, cJ E m6 6 (tv T)]) Z (qX3_bent E h m1 m2 m3 m4 m5 m6 nb dn n K F G D T j hnb hn (by omega)) iX3_bent gX3_put_X3_bent ⟨rfl, rfl⟩ ⟨Nat.le_of_ble_eq_true rfl, Nat.le_of_ble_eq_true rfl⟩ dX3_put_63 rfl rfl (Nat.le_of_ble_eq_true rfl) ⟨Nat.zero_le _, Nat.zero_le _⟩ [0, 1, 2, 3, 4, 5, 6] rfl rfl 0 rfl rfl rfl rfl rfl ?_
      refine g_iconst Z dX3_put_66 zi_3 ?_
      refine g_icmpN_eq (tgt := 84) Z dX3_put_67 (by decide) (nBent (K j) (n j)) 3 rfl rfl (by omega) (by omega) (fun c_67 => ?_) (fun c_67 => ?_)
      · refine g_bipush Z dX3_put_84 zb_m4 ?_
        exact g_iret Z dX3_put_86 rfl ⟨Nat.zero_le _, Nat.zero_le _⟩ ⟨rfl, rfl⟩
      · refine g_iload_n Z dX3_put_70 3 rfl rfl ?_
        refine g_iconst Z dX3_put_71 zi_3 ?_
        refine g_icmp_ne (tgt := 87) Z dX3_put_72 (by decide) (fun c_72 => ?_) (fun c_72 => ?_)
        · exfalso
          have : ¬ 8 ≤ n j := by omega
          grind
        · refine g_aload_n Z dX3_put_75 0 rfl rfl ?_
          refine g_iload_n Z dX3_put_76 1 rfl rfl ?_
          refine g_callVx (w' := [cO h 3 [.int (nI nb), .ref m1, .ref m2, .ref m3, .ref m4, .int (nI dn), .ref m5, .ref m6, .long (tg T)], cI E m1 4 (mN n), cI E m2 32 (gl K), cI E m3 32 (gl F), cI E m4 32 (gl G), cI E m5 12 D, cJ E m6 6 (tv T)]) Z (qX3_tilts E h m1 m2 m3 m4 m5 m6 nb dn n K F G D T j hnb hn (by omega)) iX3_tilts gX3_put_X3_tilts ⟨rfl, rfl⟩ ⟨Nat.le_of_ble_eq_true rfl, Nat.le_of_ble_eq_true rfl⟩ dX3_put_77 rfl rfl (Nat.le_of_ble_eq_true rfl) ⟨Nat.zero_le _, Nat.zero_le _⟩ [0, 1, 2, 3, 4, 5, 6] rfl rfl 0 rfl rfl rfl rfl rfl ?_
          refine g_iconst Z dX3_put_80 zi_2 ?_
          refine g_icmpN_ne (tgt := 87) Z dX3_put_81 (by decide) (nTilt (K j) (n j)) 2 rfl rfl (by omega) (by omega) (fun c_81 => ?_) (fun c_81 => ?_)
          · exfalso
            have : ¬ 8 ≤ n j := by omega
            grind
          · refine g_bipush Z dX3_put_84 zb_m4 ?_
            exact g_iret Z dX3_put_86 rfl ⟨Nat.zero_le _, Nat.zero_le _⟩ ⟨rfl, rfl⟩
    · refine g_iload_n Z dX3_put_56 3 rfl rfl ?_
      refine g_iconst Z dX3_put_57 zi_2 ?_
      refine g_icmp_ne (tgt := 70) Z dX3_put_58 (by decide) (fun c_58 => ?_) (fun c_58 => ?_)
      · refine g_iload_n Z dX3_put_70 3 rfl rfl ?_
        refine g_iconst Z dX3_put_71 zi_3 ?_
        refine g_icmp_ne (tgt := 87) Z dX3_put_72 (by decide) (fun c_72 => ?_) (fun c_72 => ?_)
        · exfalso
          have : ¬ 8 ≤ n j := by omega
          grind
        · refine g_aload_n Z dX3_put_75 0 rfl rfl ?_
          refine g_iload_n Z dX3_put_76 1 rfl rfl ?_
          refine g_callVx (w' := [cO h 3 [.int (nI nb), .ref m1, .ref m2, .ref m3, .ref m4, .int (nI dn), .ref m5, .ref m6, .long (tg T)], cI E m1 4 (mN n), cI E m2 32 (gl K), cI E m3 32 (gl F), cI E m4 32 (gl G), cI E m5 12 D, cJ E m6 6 (tv T)]) Z (qX3_tilts E h m1 m2 m3 m4 m5 m6 nb dn n K F G D T j hnb hn (by omega)) iX3_tilts gX3_put_X3_tilts ⟨rfl, rfl⟩ ⟨Nat.le_of_ble_eq_true rfl, Nat.le_of_ble_eq_true rfl⟩ dX3_put_77 rfl rfl (Nat.le_of_ble_eq_true rfl) ⟨Nat.zero_le _, Nat.zero_le _⟩ [0, 1, 2, 3, 4, 5, 6] rfl rfl 0 rfl rfl rfl rfl rfl ?_
          refine g_iconst Z dX3_put_80 zi_2 ?_
          refine g_icmpN_ne (tgt := 87) Z dX3_put_81 (by decide) (nTilt (K j) (n j)) 2 rfl rfl (by omega) (by omega) (fun c_81 => ?_) (fun c_81 => ?_)
          · exfalso
            have : ¬ 8 ≤ n j := by omega
            grind
          · refine g_bipush Z dX3_put_84 zb_m4 ?_
            exact g_iret Z dX3_put_86 rfl ⟨Nat.zero_le _, Nat.zero_le _⟩ ⟨rfl, rfl⟩
      · refine g_aload_n Z dX3_put_61 0 rfl rfl ?_
        refine g_iload_n Z dX3_put_62 1 rfl rfl ?_
        refine g_callVx (w' := [cO h 3 [.int (nI nb), .ref m1, .ref m2, .ref m3, .ref m4, .int (nI dn), .ref m5, .ref m6, .long (tg T)], cI E m1 4 (mN n), cI E m2 32 (gl K), cI E m3 32 (gl F), cI E m4 32 (gl G), cI E m5 12 D, cJ E m6 6 (tv T)]) Z (qX3_bent E h m1 m2 m3 m4 m5 m6 nb dn n K F G D T j hnb hn (by omega)) iX3_bent gX3_put_X3_bent ⟨rfl, rfl⟩ ⟨Nat.le_of_ble_eq_true rfl, Nat.le_of_ble_eq_true rfl⟩ dX3_put_63 rfl rfl (Nat.le_of_ble_eq_true rfl) ⟨Nat.zero_le _, Nat.zero_le _⟩ [0, 1, 2, 3, 4, 5, 6] rfl rfl 0 rfl rfl rfl rfl rfl ?_
        refine g_iconst Z dX3_put_66 zi_3 ?_
        refine g_icmpN_eq (tgt := 84) Z dX3_put_67 (by decide) (nBent (K j) (n j)) 3 rfl rfl (by omega) (by omega) (fun c_67 => ?_) (fun c_67 => ?_)
        · refine g_bipush Z dX3_put_84 zb_m4 ?_
          exact g_iret Z dX3_put_86 rfl ⟨Nat.zero_le _, Nat.zero_le _⟩ ⟨rfl, rfl⟩
        · refine g_iload_n Z dX3_put_70 3 rfl rfl ?_
          refine g_iconst Z dX3_put_71 zi_3 ?_
          refine g_icmp_ne (tgt := 87) Z dX3_put_72 (by decide) (fun c_72 => ?_) (fun c_72 => ?_)
          · exfalso
            have : ¬ 8 ≤ n j := by omega
            grind
          · refine g_aload_n Z dX3_put_75 0 rfl rfl ?_
            refine g_iload_n Z dX3_put_76 1 rfl rfl ?_
            refine g_callVx (w' := [cO h 3 [.int (nI nb), .ref m1, .ref m2, .ref m3, .ref m4, .int (nI dn), .ref m5, .ref m6, .long (tg T)], cI E m1 4 (mN n), cI E m2 32 (gl K), cI E m3 32 (gl F), cI E m4 32 (gl G), cI E m5 12 D, cJ E m6 6 (tv T)]) Z (qX3_tilts E h m1 m2 m3 m4 m5 m6 nb dn n K F G D T j hnb hn (by omega)) iX3_tilts gX3_put_X3_tilts ⟨rfl, rfl⟩ ⟨Nat.le_of_ble_eq_true rfl, Nat.le_of_ble_eq_true rfl⟩ dX3_put_77 rfl rfl (Nat.le_of_ble_eq_true rfl) ⟨Nat.zero_le _, Nat.zero_le _⟩ [0, 1, 2, 3, 4, 5, 6] rfl rfl 0 rfl rfl rfl rfl rfl ?_
            refine g_iconst Z dX3_put_80 zi_2 ?_
            refine g_icmpN_ne (tgt := 87) Z dX3_put_81 (by decide) (nTilt (K j) (n j)) 2 rfl rfl (by omega) (by omega) (fun c_81 => ?_) (fun c_81 => ?_)
            · exfalso
              have : ¬ 8 ≤ n j := by omega
              grind
            · refine g_bipush Z dX3_put_84 zb_m4 ?_
              exact g_iret Z dX3_put_86 rfl ⟨Nat.zero_le _, Nat.zero_le _⟩ ⟨rfl, rfl⟩

theorem fX3_put_17 : Cond.fieldLink RX3 17 (TX3 2).1 (TX3 2).2.1 (TX3 2).2.2.1 ∈ wsX3_put := by decide +kernel
theorem fX3_put_20 : Cond.fieldLink RX3 20 (TX3 3).1 (TX3 3).2.1 (TX3 3).2.2.1 ∈ wsX3_put := by decide +kernel
theorem fX3_put_23 : Cond.fieldLink RX3 23 (TX3 4).1 (TX3 4).2.1 (TX3 4).2.2.1 ∈ wsX3_put := by decide +kernel
set_option maxHeartbeats 4000000 in
set_option maxRecDepth 100000 in
theorem lX3_put (E : zE) (h m1 m2 m3 m4 m5 m6 : Nat) (nb dn : Nat) (n : Nat → Nat) (K F G : Nat → Nat → Int32) (D : Nat → Int32) (T : TB) (j p : Nat) (kd a c : Int32) (hnb : nb ≤ 4) (hn : ∀ b, n b ≤ 8) (hj : j < nb) (hp : p ≤ n j) (hg : gdP kd a c) (hf : ¬ (8 ≤ n j ∨ ((kd = 1 ∨ kd = 2) ∧ 3 ≤ nBent (K j) (n j)) ∨ (kd = 3 ∧ 2 ≤ nTilt (K j) (n j)))) {J : zJ} (Z : zOk E J RX3 cX3_put 7 (some .int) wsX3_put rX3_put "put" (fun _ => True) (zx (some (.int (nI (n j + 1)))) ([cO h 3 [.int (nI nb), .ref m1, .ref m2, .ref m3, .ref m4, .int (nI dn), .ref m5, .ref m6, .long (tg T)], cI E m1 4 (mN (va_up n j (n j + 1))), cI E m2 32 (gl (va_up K j (upd (shUp (K j) (n j) (n j - p)) p kd))), cI E m3 32 (gl (va_up F j (upd (shUp (F j) (n j) (n j - p)) p a))), cI E m4 32 (gl (va_up G j (upd (shUp (G j) (n j) (n j - p)) p c))), cI E m5 12 D, cJ E m6 6 (tv T)])))  : ∀ (d : Nat) (q : Nat) (K2 F2 G2 : Nat → Int32), q = p + d → q ≤ n j → shUp K2 q d = shUp (K j) (n j) (n j - p) → shUp F2 q d = shUp (F j) (n j) (n j - p) → shUp G2 q d = shUp (G j) (n j) (n j - p) → J 0 0 [cO h 3 [.int (nI nb), .ref m1, .ref m2, .ref m3, .ref m4, .int (nI dn), .ref m5, .ref m6, .long (tg T)], cI E m1 4 (mN n), cI E m2 32 (gl (va_up K j K2)), cI E m3 32 (gl (va_up F j F2)), cI E m4 32 (gl (va_up G j G2)), cI E m5 12 D, cJ E m6 6 (tv T)] 100 [(6, .int (nI (8 * j + q))), (0, .ref h), (1, .int (nI j)), (2, .int (nI p)), (3, .int kd), (4, .int a), (5, .int c)] [] := by
  intro d
  induction d with
  | zero =>
    intro q K2 F2 G2 h1 h2 h3 h4 h5
    have hnj := hn j
    have hn8 : n j < 8 := by omega
    simp only [shUp] at h3 h4 h5
    refine g_iload Z dX3_put_100 0 rfl ?_
    refine g_bipush Z dX3_put_102 zb_8 ?_
    refine g_iload_n Z dX3_put_104 2 rfl rfl ?_
    refine g_imulE (z := nI (8 * j)) Z dX3_put_105 (pk_mul 8 j) ?_
    refine g_iload_n Z dX3_put_106 3 rfl rfl ?_
    refine g_iaddE (z := nI (8 * j + p)) Z dX3_put_107 (nI_add (8 * j) p) ?_
    refine g_icmpN_le (tgt := 150) Z dX3_put_108 (by decide) (8 * j + q) (8 * j + p) rfl rfl (by omega) (by omega) (fun c_108 => ?_) (fun c_108 => absurd c_108 (by omega))
    refine g_aload_n Z dX3_put_150 1 rfl rfl ?_
    refine g_bipush Z dX3_put_151 zb_8 ?_
    refine g_iload_n Z dX3_put_153 2 rfl rfl ?_
    refine g_imulE (z := nI (8 * j)) Z dX3_put_154 (pk_mul 8 j) ?_
    refine g_iload_n Z dX3_put_155 3 rfl rfl ?_
    refine g_iaddE (z := nI (8 * j + p)) Z dX3_put_156 (nI_add (8 * j) p) ?_
    refine g_iload_n Z dX3_put_157 4 rfl rfl ?_
    refine g_iload Z dX3_put_158 5 rfl ?_
    refine g_iload Z dX3_put_160 6 rfl ?_
    refine g_callVx (w' := [cO h 3 [.int (nI nb), .ref m1, .ref m2, .ref m3, .ref m4, .int (nI dn), .ref m5, .ref m6, .long (tg T)], cI E m1 4 (mN n), cI E m2 32 (gl (va_up K j (upd K2 p kd))), cI E m3 32 (gl (va_up F j (upd F2 p a))), cI E m4 32 (gl (va_up G j (upd G2 p c))), cI E m5 12 D, cJ E m6 6 (tv T)]) Z (qX3_lay E h m1 m2 m3 m4 m5 m6 nb dn n K F G D T K2 F2 G2 j p (8 * j + p) kd a c (by omega) (by omega) (by omega)) iX3_lay gX3_put_X3_lay ⟨rfl, rfl⟩ ⟨Nat.le_of_ble_eq_true rfl, Nat.le_of_ble_eq_true rfl⟩ dX3_put_162 rfl rfl (Nat.le_of_ble_eq_true rfl) ⟨Nat.zero_le _, Nat.zero_le _⟩ [0, 1, 2, 3, 4, 5, 6] rfl rfl 0 rfl rfl rfl rfl rfl ?_
    refine g_aload_n Z dX3_put_165 1 rfl rfl ?_
    refine g_get Z dX3_put_166 0 rfl rfl nX3_put_X3 1 (by decide) fX3_put_13 rfl ?_
    refine g_iload_n Z dX3_put_169 2 rfl rfl ?_
    refine g_dup2_11 Z dX3_put_170 rfl rfl ?_
    refine g_ialdE (v := nI (n j)) Z dX3_put_171 1 rfl j rfl (by omega) rfl rfl ?_
    refine g_iconst Z dX3_put_172 zi_1 ?_
    refine g_iaddE (z := nI (n j + 1)) Z dX3_put_173 (nI_add (n j) 1) ?_
    refine g_iastE (w' := [cO h 3 [.int (nI nb), .ref m1, .ref m2, .ref m3, .ref m4, .int (nI dn), .ref m5, .ref m6, .long (tg T)], cI E m1 4 (mN (va_up n j (n j + 1))), cI E m2 32 (gl (va_up K j (upd K2 p kd))), cI E m3 32 (gl (va_up F j (upd F2 p a))), cI E m4 32 (gl (va_up G j (upd G2 p c))), cI E m5 12 D, cJ E m6 6 (tv T)]) Z dX3_put_174 1 rfl j rfl (by omega) rfl (mN_set _ _ (n j + 1)) rfl ?_
    refine g_aload_n Z dX3_put_175 1 rfl rfl ?_
    refine g_get Z dX3_put_176 0 rfl rfl nX3_put_X3 1 (by decide) fX3_put_13 rfl ?_
    refine g_iload_n Z dX3_put_179 2 rfl rfl ?_
    refine g_ialdE (v := nI ((va_up n j (n j + 1)) j)) Z dX3_put_180 1 rfl j rfl (by omega) rfl rfl ?_
    exact g_iret Z dX3_put_181 rfl ⟨Nat.zero_le _, Nat.zero_le _⟩ ⟨by rw [vu_at], by rw [h3, h4, h5]⟩
  | succ d ih =>
    intro q K2 F2 G2 h1 h2 h3 h4 h5
    have hnj := hn j
    have hn8 : n j < 8 := by omega
    obtain ⟨e, e_q⟩ : ∃ e, q = e + 1 := ⟨q - 1, by omega⟩
    have e_p : q - 1 = e := by omega
    simp only [shUp, e_p] at h3 h4 h5
    refine g_iload Z dX3_put_100 0 rfl ?_
    refine g_bipush Z dX3_put_102 zb_8 ?_
    refine g_iload_n Z dX3_put_104 2 rfl rfl ?_
    refine g_imulE (z := nI (8 * j)) Z dX3_put_105 (pk_mul 8 j) ?_
    refine g_iload_n Z dX3_put_106 3 rfl rfl ?_
    refine g_iaddE (z := nI (8 * j + p)) Z dX3_put_107 (nI_add (8 * j) p) ?_
    refine g_icmpN_le (tgt := 150) Z dX3_put_108 (by decide) (8 * j + q) (8 * j + p) rfl rfl (by omega) (by omega) (fun c_108 => absurd c_108 (by omega)) (fun c_108 => ?_)
    refine g_aload_n Z dX3_put_111 1 rfl rfl ?_
    refine g_iload Z dX3_put_112 0 rfl ?_
    refine g_aload_n Z dX3_put_114 1 rfl rfl ?_
    refine g_get Z dX3_put_115 0 rfl rfl nX3_put_X3 2 (by decide) fX3_put_17 rfl ?_
    refine g_iload Z dX3_put_118 0 rfl ?_
    refine g_iconst Z dX3_put_120 zi_1 ?_
    refine g_isubE (z := nI (8 * j + e)) Z dX3_put_121 (by rw [e_q]; exact nI_pred (8 * j + e)) ?_
    refine g_ialdE (v := K2 e) Z dX3_put_122 2 rfl (8 * j + e) rfl (by omega) rfl (gl_atU _ _ (j := j) (p := e) (by omega) (by omega)) ?_
    refine g_aload_n Z dX3_put_123 1 rfl rfl ?_
    refine g_get Z dX3_put_124 0 rfl rfl nX3_put_X3 3 (by decide) fX3_put_20 rfl ?_
    refine g_iload Z dX3_put_127 0 rfl ?_
    refine g_iconst Z dX3_put_129 zi_1 ?_
    refine g_isubE (z := nI (8 * j + e)) Z dX3_put_130 (by rw [e_q]; exact nI_pred (8 * j + e)) ?_
    refine g_ialdE (v := F2 e) Z dX3_put_131 3 rfl (8 * j + e) rfl (by omega) rfl (gl_atU _ _ (j := j) (p := e) (by omega) (by omega)) ?_
    refine g_aload_n Z dX3_put_132 1 rfl rfl ?_
    refine g_get Z dX3_put_133 0 rfl rfl nX3_put_X3 4 (by decide) fX3_put_23 rfl ?_
    refine g_iload Z dX3_put_136 0 rfl ?_
    refine g_iconst Z dX3_put_138 zi_1 ?_
    refine g_isubE (z := nI (8 * j + e)) Z dX3_put_139 (by rw [e_q]; exact nI_pred (8 * j + e)) ?_
    refine g_ialdE (v := G2 e) Z dX3_put_140 4 rfl (8 * j + e) rfl (by omega) rfl (gl_atU _ _ (j := j) (p := e) (by omega) (by omega)) ?_
    refine g_callVx (w' := [cO h 3 [.int (nI nb), .ref m1, .ref m2, .ref m3, .ref m4, .int (nI dn), .ref m5, .ref m6, .long (tg T)], cI E m1 4 (mN n), cI E m2 32 (gl (va_up K j (upd K2 q (K2 e)))), cI E m3 32 (gl (va_up F j (upd F2 q (F2 e)))), cI E m4 32 (gl (va_up G j (upd G2 q (G2 e)))), cI E m5 12 D, cJ E m6 6 (tv T)]) Z (qX3_lay E h m1 m2 m3 m4 m5 m6 nb dn n K F G D T K2 F2 G2 j q (8 * j + q) (K2 e) (F2 e) (G2 e) (by omega) (by omega) (by omega)) iX3_lay gX3_put_X3_lay ⟨rfl, rfl⟩ ⟨Nat.le_of_ble_eq_true rfl, Nat.le_of_ble_eq_true rfl⟩ dX3_put_141 rfl rfl (Nat.le_of_ble_eq_true rfl) ⟨Nat.zero_le _, Nat.zero_le _⟩ [0, 1, 2, 3, 4, 5, 6] rfl rfl 0 rfl rfl rfl rfl rfl ?_
    refine g_iinc (lv' := [(6, .int (nI (8 * j + e))), (0, .ref h), (1, .int (nI j)), (2, .int (nI p)), (3, .int kd), (4, .int a), (5, .int c)]) Z dX3_put_144 0 rfl (by rw [e_q]; exact zdec (8 * j + e)) (by decide) rfl ?_
    refine g_goto (tgt := 100) Z dX3_put_147 (by decide) ?_
    refine g_lv (lv2 := [(6, .int (nI (8 * j + e))), (0, .ref h), (1, .int (nI j)), (2, .int (nI p)), (3, .int kd), (4, .int a), (5, .int c)]) Z [0, 1, 2, 3, 4, 5, 6] rfl ?_
    exact ih e _ _ _ (by omega) (by omega) h3 h4 h5
set_option maxHeartbeats 4000000 in
set_option maxRecDepth 100000 in
theorem qX3_put (E : zE) (h m1 m2 m3 m4 m5 m6 : Nat) (nb dn : Nat) (n : Nat → Nat) (K F G : Nat → Nat → Int32) (D : Nat → Int32) (T : TB) (j p : Nat) (kd a c : Int32) (hnb : nb ≤ 4) (hn : ∀ b, n b ≤ 8) (hj : j < nb) (hp : p ≤ n j) (hg : gdP kd a c) (hf : ¬ (8 ≤ n j ∨ ((kd = 1 ∨ kd = 2) ∧ 3 ≤ nBent (K j) (n j)) ∨ (kd = 3 ∧ 2 ≤ nTilt (K j) (n j)))) : zF E yX3_put wsX3_put rX3_put [.ref h, .int (nI j), .int (nI p), .int kd, .int a, .int c] [cO h 3 [.int (nI nb), .ref m1, .ref m2, .ref m3, .ref m4, .int (nI dn), .ref m5, .ref m6, .long (tg T)], cI E m1 4 (mN n), cI E m2 32 (gl K), cI E m3 32 (gl F), cI E m4 32 (gl G), cI E m5 12 D, cJ E m6 6 (tv T)] (zx (some (.int (nI (n j + 1)))) ([cO h 3 [.int (nI nb), .ref m1, .ref m2, .ref m3, .ref m4, .int (nI dn), .ref m5, .ref m6, .long (tg T)], cI E m1 4 (mN (va_up n j (n j + 1))), cI E m2 32 (gl (va_up K j (upd (shUp (K j) (n j) (n j - p)) p kd))), cI E m3 32 (gl (va_up F j (upd (shUp (F j) (n j) (n j - p)) p a))), cI E m4 32 (gl (va_up G j (upd (shUp (G j) (n j) (n j - p)) p c))), cI E m5 12 D, cJ E m6 6 (tv T)])) := by
  refine z_start RX3 "put" (by decide) rfl rfl rfl (Nat.le_of_ble_eq_true rfl) ?_
  intro J Z
  refine g_eq Z (lv2 := [(0, .ref h), (1, .int (nI j)), (2, .int (nI p)), (3, .int kd), (4, .int a), (5, .int c)]) rfl rfl rfl ?_
  have hnj := hn j
  have hn8 : n j < 8 := by omega
  have hb1 := nBent_le (K j) (n j)
  have hb2 := nTilt_le (K j) (n j)
  refine g_aload_n Z dX3_put_0 0 rfl rfl ?_
  refine g_iload_n Z dX3_put_1 1 rfl rfl ?_
  refine g_callVx (w' := [cO h 3 [.int (nI nb), .ref m1, .ref m2, .ref m3, .ref m4, .int (nI dn), .ref m5, .ref m6, .long (tg T)], cI E m1 4 (mN n), cI E m2 32 (gl K), cI E m3 32 (gl F), cI E m4 32 (gl G), cI E m5 12 D, cJ E m6 6 (tv T)]) Z (qX3_isBench E h m1 m2 m3 m4 m5 m6 nb dn T (nI j) (by omega)) iX3_isBench gX3_put_X3_isBench ⟨rfl, rfl⟩ ⟨Nat.le_of_ble_eq_true rfl, Nat.le_of_ble_eq_true rfl⟩ dX3_put_2 rfl rfl (Nat.le_of_ble_eq_true rfl) ⟨Nat.zero_le _, Nat.zero_le _⟩ [0] rfl rfl 0 rfl rfl rfl rfl rfl ?_
  refine g_ifb_eq (tgt := 23) Z dX3_put_5 (by decide) (fun c_5 => absurd c_5 (fun q => q (inB_nI hj (by omega)))) (fun c_5 => ?_)
  refine g_aload_n Z dX3_put_8 0 rfl rfl ?_
  refine g_iload_n Z dX3_put_9 2 rfl rfl ?_
  refine g_iconst Z dX3_put_10 zi_0 ?_
  refine g_aload_n Z dX3_put_11 0 rfl rfl ?_
  refine g_get Z dX3_put_12 0 rfl rfl nX3_put_X3 1 (by decide) fX3_put_13 rfl ?_
  refine g_iload_n Z dX3_put_15 1 rfl rfl ?_
  refine g_ialdE (v := nI (n j)) Z dX3_put_16 1 rfl j rfl (by omega) rfl rfl ?_
  refine g_callVx (w' := [cO h 3 [.int (nI nb), .ref m1, .ref m2, .ref m3, .ref m4, .int (nI dn), .ref m5, .ref m6, .long (tg T)], cI E m1 4 (mN n), cI E m2 32 (gl K), cI E m3 32 (gl F), cI E m4 32 (gl G), cI E m5 12 D, cJ E m6 6 (tv T)]) Z (qX3_in E h m1 m2 m3 m4 m5 m6 nb dn T (nI p) 0 (nI (n j))) iX3_in gX3_put_X3_in ⟨rfl, rfl⟩ ⟨Nat.le_of_ble_eq_true rfl, Nat.le_of_ble_eq_true rfl⟩ dX3_put_17 rfl rfl (Nat.le_of_ble_eq_true rfl) ⟨Nat.zero_le _, Nat.zero_le _⟩ [0] rfl rfl 0 rfl rfl rfl rfl rfl ?_
  refine g_ifb_ne (tgt := 25) Z dX3_put_20 (by decide) (fun c_20 => ?_) (fun c_20 => absurd c_20 (fun q => q ((inB_P (by omega)).mpr (inB_nI (by omega) (by omega)))))
  refine g_aload_n Z dX3_put_25 0 rfl rfl ?_
  refine g_iload_n Z dX3_put_26 3 rfl rfl ?_
  refine g_iload Z dX3_put_27 4 rfl ?_
  refine g_iload Z dX3_put_29 5 rfl ?_
  refine g_callVx (w' := [cO h 3 [.int (nI nb), .ref m1, .ref m2, .ref m3, .ref m4, .int (nI dn), .ref m5, .ref m6, .long (tg T)], cI E m1 4 (mN n), cI E m2 32 (gl K), cI E m3 32 (gl F), cI E m4 32 (gl G), cI E m5 12 D, cJ E m6 6 (tv T)]) Z (qX3_isGood E h m1 m2 m3 m4 m5 m6 nb dn T kd a c) iX3_isGood gX3_put_X3_isGood ⟨rfl, rfl⟩ ⟨Nat.le_of_ble_eq_true rfl, Nat.le_of_ble_eq_true rfl⟩ dX3_put_31 rfl rfl (Nat.le_of_ble_eq_true rfl) ⟨Nat.zero_le _, Nat.zero_le _⟩ [0] rfl rfl 0 rfl rfl rfl rfl rfl ?_
  refine g_ifb_ne (tgt := 40) Z dX3_put_34 (by decide) (fun c_34 => ?_) (fun c_34 => absurd c_34 (fun q => q hg))
  refine g_aload_n Z dX3_put_40 0 rfl rfl ?_
  refine g_get Z dX3_put_41 0 rfl rfl nX3_put_X3 1 (by decide) fX3_put_13 rfl ?_
  refine g_iload_n Z dX3_put_44 1 rfl rfl ?_
  refine g_ialdE (v := nI (n j)) Z dX3_put_45 1 rfl j rfl (by omega) rfl rfl ?_
  refine g_bipush Z dX3_put_46 zb_8 ?_
  refine g_icmpN_eq (tgt := 84) Z dX3_put_48 (by decide) (n j) 8 rfl rfl (by omega) (by omega) (fun c_48 => absurd c_48 (by omega)) (fun c_48 => ?_)
  refine g_iload_n Z dX3_put_51 3 rfl rfl ?_
  refine g_iconst Z dX3_put_52 zi_1 ?_
  refine g_icmp_eq (tgt := 61) Z dX3_put_53 (by decide) (fun c_53 => ?_) (fun c_53 => ?_)
  · refine g_aload_n Z dX3_put_61 0 rfl rfl ?_
    refine g_iload_n Z dX3_put_62 1 rfl rfl ?_
    refine g_callVx (w' := [cO h 3 [.int (nI nb), .ref m1, .ref m2, .ref m3, .ref m4, .int (nI dn), .ref m5, .ref m6, .long (tg T)], cI E m1 4 (mN n), cI E m2 32 (gl K), cI E m3 32 (gl F), cI E m4 32 (gl G), cI E m5 12 D, cJ E m6 6 (tv T)]) Z (qX3_bent E h m1 m2 m3 m4 m5 m6 nb dn n K F G D T j hnb hn (by omega)) iX3_bent gX3_put_X3_bent ⟨rfl, rfl⟩ ⟨Nat.le_of_ble_eq_true rfl, Nat.le_of_ble_eq_true rfl⟩ dX3_put_63 rfl rfl (Nat.le_of_ble_eq_true rfl) ⟨Nat.zero_le _, Nat.zero_le _⟩ [0, 1, 2, 3, 4, 5, 6] rfl rfl 0 rfl rfl rfl rfl rfl ?_
    refine g_iconst Z dX3_put_66 zi_3 ?_
    refine g_icmpN_eq (tgt := 84) Z dX3_put_67 (by decide) (nBent (K j) (n j)) 3 rfl rfl (by omega) (by omega) (fun c_67 => absurd c_67 (by grind)) (fun c_67 => ?_)
    refine g_iload_n Z dX3_put_70 3 rfl rfl ?_
    refine g_iconst Z dX3_put_71 zi_3 ?_
    refine g_icmp_ne (tgt := 87) Z dX3_put_72 (by decide) (fun c_72 => ?_) (fun c_72 => ?_)
    · refine g_eq Z (w2 := [cO h 3 [.int (nI nb), .ref m1, .ref m2, .ref m3, .ref m4, .int (nI dn), .ref m5, .ref m6, .long (tg T)], cI E m1 4 (mN n), cI E m2 32 (gl (va_up K j (K j))), cI E m3 32 (gl (va_up F j (F j))), cI E m4 32 (gl (va_up G j (G j))), cI E m5 12 D, cJ E m6 6 (tv T)]) (by simp only [vu_self]) rfl rfl ?_
      refine g_bipush Z dX3_put_87 zb_8 ?_
      refine g_iload_n Z dX3_put_89 1 rfl rfl ?_
      refine g_imulE (z := nI (8 * j)) Z dX3_put_90 (pk_mul 8 j) ?_
      refine g_aload_n Z dX3_put_91 0 rfl rfl ?_
      refine g_get Z dX3_put_92 0 rfl rfl nX3_put_X3 1 (by decide) fX3_put_13 rfl ?_
      refine g_iload_n Z dX3_put_95 1 rfl rfl ?_
      refine g_ialdE (v := nI (n j)) Z dX3_put_96 1 rfl j rfl (by omega) rfl rfl ?_
      refine g_iaddE (z := nI (8 * j + (n j))) Z dX3_put_97 (nI_add (8 * j) (n j)) ?_
      refine g_istore (lv' := [(6, .int (nI (8 * j + (n j)))), (0, .ref h), (1, .int (nI j)), (2, .int (nI p)), (3, .int kd), (4, .int a), (5, .int c)]) Z dX3_put_98 (by decide) rfl ?_
      exact lX3_put E h m1 m2 m3 m4 m5 m6 nb dn n K F G D T j p kd a c hnb hn hj hp hg hf Z (n j - p) (n j) (K j) (F j) (G j) (by omega) (by omega) rfl rfl rfl
    · refine g_aload_n Z dX3_put_75 0 rfl rfl ?_
      refine g_iload_n Z dX3_put_76 1 rfl rfl ?_
      refine g_callVx (w' := [cO h 3 [.int (nI nb), .ref m1, .ref m2, .ref m3, .ref m4, .int (nI dn), .ref m5, .ref m6, .long (tg T)], cI E m1 4 (mN n), cI E m2 32 (gl K), cI E m3 32 (gl F), cI E m4 32 (gl G), cI E m5 12 D, cJ E m6 6 (tv T)]) Z (qX3_tilts E h m1 m2 m3 m4 m5 m6 nb dn n K F G D T j hnb hn (by omega)) iX3_tilts gX3_put_X3_tilts ⟨rfl, rfl⟩ ⟨Nat.le_of_ble_eq_true rfl, Nat.le_of_ble_eq_true rfl⟩ dX3_put_77 rfl rfl (Nat.le_of_ble_eq_true rfl) ⟨Nat.zero_le _, Nat.zero_le _⟩ [0, 1, 2, 3, 4, 5, 6] rfl rfl 0 rfl rfl rfl rfl rfl ?_
      refine g_iconst Z dX3_put_80 zi_2 ?_
      refine g_icmpN_ne (tgt := 87) Z dX3_put_81 (by decide) (nTilt (K j) (n j)) 2 rfl rfl (by omega) (by omega) (fun c_81 => ?_) (fun c_81 => absurd c_81 (by grind))
      refine g_eq Z (w2 := [cO h 3 [.int (nI nb), .ref m1, .ref m2, .ref m3, .ref m4, .int (nI dn), .ref m5, .ref m6, .long (tg T)], cI E m1 4 (mN n), cI E m2 32 (gl (va_up K j (K j))), cI E m3 32 (gl (va_up F j (F j))), cI E m4 32 (gl (va_up G j (G j))), cI E m5 12 D, cJ E m6 6 (tv T)]) (by simp only [vu_self]) rfl rfl ?_
      refine g_bipush Z dX3_put_87 zb_8 ?_
      refine g_iload_n Z dX3_put_89 1 rfl rfl ?_
      refine g_imulE (z := nI (8 * j)) Z dX3_put_90 (pk_mul 8 j) ?_
      refine g_aload_n Z dX3_put_91 0 rfl rfl ?_
      refine g_get Z dX3_put_92 0 rfl rfl nX3_put_X3 1 (by decide) fX3_put_13 rfl ?_
      refine g_iload_n Z dX3_put_95 1 rfl rfl ?_
      refine g_ialdE (v := nI (n j)) Z dX3_put_96 1 rfl j rfl (by omega) rfl rfl ?_
      refine g_iaddE (z := nI (8 * j + (n j))) Z dX3_put_97 (nI_add (8 * j) (n j)) ?_
      refine g_istore (lv' := [(6, .int (nI (8 * j + (n j)))), (0, .ref h), (1, .int (nI j)), (2, .int (nI p)), (3, .int kd), (4, .int a), (5, .int c)]) Z dX3_put_98 (by decide) rfl ?_
      exact lX3_put E h m1 m2 m3 m4 m5 m6 nb dn n K F G D T j p kd a c hnb hn hj hp hg hf Z (n j - p) (n j) (K j) (F j) (G j) (by omega) (by omega) rfl rfl rfl
  · refine g_iload_n Z dX3_put_56 3 rfl rfl ?_
    refine g_iconst Z dX3_put_57 zi_2 ?_
    refine g_icmp_ne (tgt := 70) Z dX3_put_58 (by decide) (fun c_58 => ?_) (fun c_58 => ?_)
    · refine g_iload_n Z dX3_put_70 3 rfl rfl ?_
      refine g_iconst Z dX3_put_71 zi_3 ?_
      refine g_icmp_ne (tgt := 87) Z dX3_put_72 (by decide) (fun c_72 => ?_) (fun c_72 => ?_)
      · refine g_eq Z (w2 := [cO h 3 [.int (nI nb), .ref m1, .ref m2, .ref m3, .ref m4, .int (nI dn), .ref m5, .ref m6, .long (tg T)], cI E m1 4 (mN n), cI E m2 32 (gl (va_up K j (K j))), cI E m3 32 (gl (va_up F j (F j))), cI E m4 32 (gl (va_up G j (G j))), cI E m5 12 D, cJ E m6 6 (tv T)]) (by simp only [vu_self]) rfl rfl ?_
        refine g_bipush Z dX3_put_87 zb_8 ?_
        refine g_iload_n Z dX3_put_89 1 rfl rfl ?_
        refine g_imulE (z := nI (8 * j)) Z dX3_put_90 (pk_mul 8 j) ?_
        refine g_aload_n Z dX3_put_91 0 rfl rfl ?_
        refine g_get Z dX3_put_92 0 rfl rfl nX3_put_X3 1 (by decide) fX3_put_13 rfl ?_
        refine g_iload_n Z dX3_put_95 1 rfl rfl ?_
        refine g_ialdE (v := nI (n j)) Z dX3_put_96 1 rfl j rfl (by omega) rfl rfl ?_
        refine g_iaddE (z := nI (8 * j + (n j))) Z dX3_put_97 (nI_add (8 * j) (n j)) ?_
        refine g_istore (lv' := [(6, .int (nI (8 * j + (n j)))), (0, .ref h), (1, .int (nI j)), (2, .int (nI p)), (3, .int kd), (4, .int a), (5, .int c)]) Z dX3_put_98 (by decide) rfl ?_
        exact lX3_put E h m1 m2 m3 m4 m5 m6 nb dn n K F G D T j p kd a c hnb hn hj hp hg hf Z (n j - p) (n j) (K j) (F j) (G j) (by omega) (by omega) rfl rfl rfl
      · refine g_aload_n Z dX3_put_75 0 rfl rfl ?_
        refine g_iload_n Z dX3_put_76 1 rfl rfl ?_
        refine g_callVx (w' := [cO h 3 [.int (nI nb), .ref m1, .ref m2, .ref m3, .ref m4, .int (nI dn), .ref m5, .ref m6, .long (tg T)], cI E m1 4 (mN n), cI E m2 32 (gl K), cI E m3 32 (gl F), cI E m4 32 (gl G), cI E m5 12 D, cJ E m6 6 (tv T)]) Z (qX3_tilts E h m1 m2 m3 m4 m5 m6 nb dn n K F G D T j hnb hn (by omega)) iX3_tilts gX3_put_X3_tilts ⟨rfl, rfl⟩ ⟨Nat.le_of_ble_eq_true rfl, Nat.le_of_ble_eq_true rfl⟩ dX3_put_77 rfl rfl (Nat.le_of_ble_eq_true rfl) ⟨Nat.zero_le _, Nat.zero_le _⟩ [0, 1, 2, 3, 4, 5, 6] rfl rfl 0 rfl rfl rfl rfl rfl ?_
        refine g_iconst Z dX3_put_80 zi_2 ?_
        refine g_icmpN_ne (tgt := 87) Z dX3_put_81 (by decide) (nTilt (K j) (n j)) 2 rfl rfl (by omega) (by omega) (fun c_81 => ?_) (fun c_81 => absurd c_81 (by grind))
        refine g_eq Z (w2 := [cO h 3 [.int (nI nb), .ref m1, .ref m2, .ref m3, .ref m4, .int (nI dn), .ref m5, .ref m6, .long (tg T)], cI E m1 4 (mN n), cI E m2 32 (gl (va_up K j (K j))), cI E m3 32 (gl (va_up F j (F j))), cI E m4 32 (gl (va_up G j (G j))), cI E m5 12 D, cJ E m6 6 (tv T)]) (by simp only [vu_self]) rfl rfl ?_
        refine g_bipush Z dX3_put_87 zb_8 ?_
        refine g_iload_n Z dX3_put_89 1 rfl rfl ?_
        refine g_imulE (z := nI (8 * j)) Z dX3_put_90 (pk_mul 8 j) ?_
        refine g_aload_n Z dX3_put_91 0 rfl rfl ?_
        refine g_get Z dX3_put_92 0 rfl rfl nX3_put_X3 1 (by decide) fX3_put_13 rfl ?_
        refine g_iload_n Z dX3_put_95 1 rfl rfl ?_
        refine g_ialdE (v := nI (n j)) Z dX3_put_96 1 rfl j rfl (by omega) rfl rfl ?_
        refine g_iaddE (z := nI (8 * j + (n j))) Z dX3_put_97 (nI_add (8 * j) (n j)) ?_
        refine g_istore (lv' := [(6, .int (nI (8 * j + (n j)))), (0, .ref h), (1, .int (nI j)), (2, .int (nI p)), (3, .int kd), (4, .int a), (5, .int c)]) Z dX3_put_98 (by decide) rfl ?_
        exact lX3_put E h m1 m2 m3 m4 m5 m6 nb dn n K F G D T j p kd a c hnb hn hj hp hg hf Z (n j - p) (n j) (K j) (F j) (G j) (by omega) (by omega) rfl rfl rfl
    · refine g_aload_n Z dX3_put_61 0 rfl rfl ?_
      refine g_iload_n Z dX3_put_62 1 rfl rfl ?_
      refine g_callVx (w' := [cO h 3 [.int (nI nb), .ref m1, .ref m2, .ref m3, .ref m4, .int (nI dn), .ref m5, .ref m6, .long (tg T)], cI E m1 4 (mN n), cI E m2 32 (gl K), cI E m3 32 (gl F), cI E m4 32 (gl G), cI E m5 12 D, cJ E m6 6 (tv T)]) Z (qX3_bent E h m1 m2 m3 m4 m5 m6 nb dn n K F G D T j hnb hn (by omega)) iX3_bent gX3_put_X3_bent ⟨rfl, rfl⟩ ⟨Nat.le_of_ble_eq_true rfl, Nat.le_of_ble_eq_true rfl⟩ dX3_put_63 rfl rfl (Nat.le_of_ble_eq_true rfl) ⟨Nat.zero_le _, Nat.zero_le _⟩ [0, 1, 2, 3, 4, 5, 6] rfl rfl 0 rfl rfl rfl rfl rfl ?_
      refine g_iconst Z dX3_put_66 zi_3 ?_
      refine g_icmpN_eq (tgt := 84) Z dX3_put_67 (by decide) (nBent (K j) (n j)) 3 rfl rfl (by omega) (by omega) (fun c_67 => absurd c_67 (by grind)) (fun c_67 => ?_)
      refine g_iload_n Z dX3_put_70 3 rfl rfl ?_
      refine g_iconst Z dX3_put_71 zi_3 ?_
      refine g_icmp_ne (tgt := 87) Z dX3_put_72 (by decide) (fun c_72 => ?_) (fun c_72 => ?_)
      · refine g_eq Z (w2 := [cO h 3 [.int (nI nb), .ref m1, .ref m2, .ref m3, .ref m4, .int (nI dn), .ref m5, .ref m6, .long (tg T)], cI E m1 4 (mN n), cI E m2 32 (gl (va_up K j (K j))), cI E m3 32 (gl (va_up F j (F j))), cI E m4 32 (gl (va_up G j (G j))), cI E m5 12 D, cJ E m6 6 (tv T)]) (by simp only [vu_self]) rfl rfl ?_
        refine g_bipush Z dX3_put_87 zb_8 ?_
        refine g_iload_n Z dX3_put_89 1 rfl rfl ?_
        refine g_imulE (z := nI (8 * j)) Z dX3_put_90 (pk_mul 8 j) ?_
        refine g_aload_n Z dX3_put_91 0 rfl rfl ?_
        refine g_get Z dX3_put_92 0 rfl rfl nX3_put_X3 1 (by decide) fX3_put_13 rfl ?_
        refine g_iload_n Z dX3_put_95 1 rfl rfl ?_
        refine g_ialdE (v := nI (n j)) Z dX3_put_96 1 rfl j rfl (by omega) rfl rfl ?_
        refine g_iaddE (z := nI (8 * j + (n j))) Z dX3_put_97 (nI_add (8 * j) (n j)) ?_
        refine g_istore (lv' := [(6, .int (nI (8 * j + (n j)))), (0, .ref h), (1, .int (nI j)), (2, .int (nI p)), (3, .int kd), (4, .int a), (5, .int c)]) Z dX3_put_98 (by decide) rfl ?_
        exact lX3_put E h m1 m2 m3 m4 m5 m6 nb dn n K F G D T j p kd a c hnb hn hj hp hg hf Z (n j - p) (n j) (K j) (F j) (G j) (by omega) (by omega) rfl rfl rfl
      · refine g_aload_n Z dX3_put_75 0 rfl rfl ?_
        refine g_iload_n Z dX3_put_76 1 rfl rfl ?_
        refine g_callVx (w' := [cO h 3 [.int (nI nb), .ref m1, .ref m2, .ref m3, .ref m4, .int (nI dn), .ref m5, .ref m6, .long (tg T)], cI E m1 4 (mN n), cI E m2 32 (gl K), cI E m3 32 (gl F), cI E m4 32 (gl G), cI E m5 12 D, cJ E m6 6 (tv T)]) Z (qX3_tilts E h m1 m2 m3 m4 m5 m6 nb dn n K F G D T j hnb hn (by omega)) iX3_tilts gX3_put_X3_tilts ⟨rfl, rfl⟩ ⟨Nat.le_of_ble_eq_true rfl, Nat.le_of_ble_eq_true rfl⟩ dX3_put_77 rfl rfl (Nat.le_of_ble_eq_true rfl) ⟨Nat.zero_le _, Nat.zero_le _⟩ [0, 1, 2, 3, 4, 5, 6] rfl rfl 0 rfl rfl rfl rfl rfl ?_
        refine g_iconst Z dX3_put_80 zi_2 ?_
        refine g_icmpN_ne (tgt := 87) Z dX3_put_81 (by decide) (nTilt (K j) (n j)) 2 rfl rfl (by omega) (by omega) (fun c_81 => ?_) (fun c_81 => absurd c_81 (by grind))
        refine g_eq Z (w2 := [cO h 3 [.int (nI nb), .ref m1, .ref m2, .ref m3, .ref m4, .int (nI dn), .ref m5, .ref m6, .long (tg T)], cI E m1 4 (mN n), cI E m2 32 (gl (va_up K j (K j))), cI E m3 32 (gl (va_up F j (F j))), cI E m4 32 (gl (va_up G j (G j))), cI E m5 12 D, cJ E m6 6 (tv T)]) (by simp only [vu_self]) rfl rfl ?_
        refine g_bipush Z dX3_put_87 zb_8 ?_
        refine g_iload_n Z dX3_put_89 1 rfl rfl ?_
        refine g_imulE (z := nI (8 * j)) Z dX3_put_90 (pk_mul 8 j) ?_
        refine g_aload_n Z dX3_put_91 0 rfl rfl ?_
        refine g_get Z dX3_put_92 0 rfl rfl nX3_put_X3 1 (by decide) fX3_put_13 rfl ?_
        refine g_iload_n Z dX3_put_95 1 rfl rfl ?_
        refine g_ialdE (v := nI (n j)) Z dX3_put_96 1 rfl j rfl (by omega) rfl rfl ?_
        refine g_iaddE (z := nI (8 * j + (n j))) Z dX3_put_97 (nI_add (8 * j) (n j)) ?_
        refine g_istore (lv' := [(6, .int (nI (8 * j + (n j)))), (0, .ref h), (1, .int (nI j)), (2, .int (nI p)), (3, .int kd), (4, .int a), (5, .int c)]) Z dX3_put_98 (by decide) rfl ?_
        exact lX3_put E h m1 m2 m3 m4 m5 m6 nb dn n K F G D T j p kd a c hnb hn hj hp hg hf Z (n j - p) (n j) (K j) (F j) (G j) (by omega) (by omega) rfl rfl rfl

abbrev rX3_take : Room := { frames := 3, cells := 0, slots := 0, locals := 66 }
theorem iX3_take : zInfo yX3_take wsX3_take RX3 5 (some .int) 2 := ⟨_, _, rfl, by decide +kernel⟩
set_option maxHeartbeats 4000000 in
set_option maxRecDepth 100000 in
theorem qX3_takeN (E : zE) (h m1 m2 m3 m4 m5 m6 : Nat) (nb dn : Nat) (n : Nat → Nat) (K F G : Nat → Nat → Int32) (D : Nat → Int32) (T : TB) (b i  : Int32) (hnb : nb ≤ 4) (hn : ∀ b, n b ≤ 8) (hv : ¬ ∃ j, j < nb ∧ b = nI j ∧ inB (n j) i) : zF E yX3_take wsX3_take rX3_take [.ref h, .int b, .int i] [cO h 3 [.int (nI nb), .ref m1, .ref m2, .ref m3, .ref m4, .int (nI dn), .ref m5, .ref m6, .long (tg T)], cI E m1 4 (mN n), cI E m2 32 (gl K), cI E m3 32 (gl F), cI E m4 32 (gl G), cI E m5 12 D, cJ E m6 6 (tv T)] (zx (some (.int (-1))) ([cO h 3 [.int (nI nb), .ref m1, .ref m2, .ref m3, .ref m4, .int (nI dn), .ref m5, .ref m6, .long (tg T)], cI E m1 4 (mN n), cI E m2 32 (gl K), cI E m3 32 (gl F), cI E m4 32 (gl G), cI E m5 12 D, cJ E m6 6 (tv T)])) := by
  refine z_start RX3 "take" (by decide) rfl rfl rfl (Nat.le_of_ble_eq_true rfl) ?_
  intro J Z
  refine g_eq Z (lv2 := [(0, .ref h), (1, .int b), (2, .int i)]) rfl rfl rfl ?_
  by_cases hb : inB nb b
  · obtain ⟨j, hj, rfl⟩ := inB_of hb
    have hnj := hn j
    refine g_aload_n Z dX3_take_0 0 rfl rfl ?_
    refine g_iload_n Z dX3_take_1 1 rfl rfl ?_
    refine g_iload_n Z dX3_take_2 2 rfl rfl ?_
    refine g_callVx (w' := [cO h 3 [.int (nI nb), .ref m1, .ref m2, .ref m3, .ref m4, .int (nI dn), .ref m5, .ref m6, .long (tg T)], cI E m1 4 (mN n), cI E m2 32 (gl K), cI E m3 32 (gl F), cI E m4 32 (gl G), cI E m5 12 D, cJ E m6 6 (tv T)]) Z (qX3_isPart E h m1 m2 m3 m4 m5 m6 nb dn T n j i hnb hn (by omega)) iX3_isPart gX3_take_X3_isPart ⟨rfl, rfl⟩ ⟨Nat.le_of_ble_eq_true rfl, Nat.le_of_ble_eq_true rfl⟩ dX3_take_3 rfl rfl (Nat.le_of_ble_eq_true rfl) ⟨Nat.zero_le _, Nat.zero_le _⟩ [0, 1] rfl rfl 0 rfl rfl rfl rfl rfl ?_
    refine g_ifb_ne (tgt := 11) Z dX3_take_6 (by decide) (fun c_6 => absurd c_6 (fun q => hv ⟨j, hj, rfl, q⟩)) (fun c_6 => ?_)
    refine g_iconst Z dX3_take_9 zi_m1 ?_
    exact g_iret Z dX3_take_10 rfl ⟨Nat.zero_le _, Nat.zero_le _⟩ ⟨rfl, rfl⟩
  · refine g_aload_n Z dX3_take_0 0 rfl rfl ?_
    refine g_iload_n Z dX3_take_1 1 rfl rfl ?_
    refine g_iload_n Z dX3_take_2 2 rfl rfl ?_
    refine g_callVx (w' := [cO h 3 [.int (nI nb), .ref m1, .ref m2, .ref m3, .ref m4, .int (nI dn), .ref m5, .ref m6, .long (tg T)], cI E m1 4 (mN n), cI E m2 32 (gl K), cI E m3 32 (gl F), cI E m4 32 (gl G), cI E m5 12 D, cJ E m6 6 (tv T)]) Z (qX3_isPartO E h m1 m2 m3 m4 m5 m6 nb dn T n b i hnb hn hb) iX3_isPart gX3_take_X3_isPart ⟨rfl, rfl⟩ ⟨Nat.le_of_ble_eq_true rfl, Nat.le_of_ble_eq_true rfl⟩ dX3_take_3 rfl rfl (Nat.le_of_ble_eq_true rfl) ⟨Nat.zero_le _, Nat.zero_le _⟩ [0, 1] rfl rfl 0 rfl rfl rfl rfl rfl ?_
    refine g_ifb_ne (tgt := 11) Z dX3_take_6 (by decide) (fun c_6 => absurd c_6 id) (fun c_6 => ?_)
    refine g_iconst Z dX3_take_9 zi_m1 ?_
    exact g_iret Z dX3_take_10 rfl ⟨Nat.zero_le _, Nat.zero_le _⟩ ⟨rfl, rfl⟩

theorem nX3_take_X3 : ∀ w ∈ wsX30, w ∈ wsX3_take := by decide +kernel
theorem fX3_take_13 : Cond.fieldLink RX3 13 (TX3 1).1 (TX3 1).2.1 (TX3 1).2.2.1 ∈ wsX3_take := by decide +kernel
theorem fX3_take_17 : Cond.fieldLink RX3 17 (TX3 2).1 (TX3 2).2.1 (TX3 2).2.2.1 ∈ wsX3_take := by decide +kernel
theorem fX3_take_20 : Cond.fieldLink RX3 20 (TX3 3).1 (TX3 3).2.1 (TX3 3).2.2.1 ∈ wsX3_take := by decide +kernel
theorem fX3_take_23 : Cond.fieldLink RX3 23 (TX3 4).1 (TX3 4).2.1 (TX3 4).2.2.1 ∈ wsX3_take := by decide +kernel
set_option maxHeartbeats 4000000 in
set_option maxRecDepth 100000 in
theorem lX3_take (E : zE) (h m1 m2 m3 m4 m5 m6 : Nat) (nb dn : Nat) (n : Nat → Nat) (K F G : Nat → Nat → Int32) (D : Nat → Int32) (T : TB) (j p : Nat) (m : Nat) (hnb : nb ≤ 4) (hn : ∀ b, n b ≤ 8) (hj : j < nb) (hp : p < n j) (hm : n j = m + 1) {J : zJ} (Z : zOk E J RX3 cX3_take 5 (some .int) wsX3_take rX3_take "take" (fun _ => True) (zx (some (.int (K j p))) ([cO h 3 [.int (nI nb), .ref m1, .ref m2, .ref m3, .ref m4, .int (nI dn), .ref m5, .ref m6, .long (tg T)], cI E m1 4 (mN (va_up n j m)), cI E m2 32 (gl (va_up K j (shDn (K j) p (m - p)))), cI E m3 32 (gl (va_up F j (shDn (F j) p (m - p)))), cI E m4 32 (gl (va_up G j (shDn (G j) p (m - p)))), cI E m5 12 D, cJ E m6 6 (tv T)])))  : ∀ (d : Nat) (q : Nat) (K2 F2 G2 : Nat → Int32), q + d = m → shDn K2 q d = shDn (K j) p (m - p) → shDn F2 q d = shDn (F j) p (m - p) → shDn G2 q d = shDn (G j) p (m - p) → J 0 0 [cO h 3 [.int (nI nb), .ref m1, .ref m2, .ref m3, .ref m4, .int (nI dn), .ref m5, .ref m6, .long (tg T)], cI E m1 4 (mN (va_up n j m)), cI E m2 32 (gl (va_up K j K2)), cI E m3 32 (gl (va_up F j F2)), cI E m4 32 (gl (va_up G j G2)), cI E m5 12 D, cJ E m6 6 (tv T)] 41 [(4, .int (nI (8 * j + q))), (3, .int (K j p)), (0, .ref h), (1, .int (nI j)), (2, .int (nI p))] [] := by
  intro d
  induction d with
  | zero =>
    intro q K2 F2 G2 h1 h2 h3 h4
    have hnj := hn j
    simp only [shDn] at h2 h3 h4
    refine g_iload Z dX3_take_41 0 rfl ?_
    refine g_bipush Z dX3_take_43 zb_8 ?_
    refine g_iload_n Z dX3_take_45 3 rfl rfl ?_
    refine g_imulE (z := nI (8 * j)) Z dX3_take_46 (pk_mul 8 j) ?_
    refine g_aload_n Z dX3_take_47 2 rfl rfl ?_
    refine g_get Z dX3_take_48 0 rfl rfl nX3_take_X3 1 (by decide) fX3_take_13 rfl ?_
    refine g_iload_n Z dX3_take_51 3 rfl rfl ?_
    refine g_ialdE (v := nI m) Z dX3_take_52 1 rfl j rfl (by omega) rfl (by show nI (va_up n j m j) = nI m; rw [vu_at]) ?_
    refine g_iaddE (z := nI (8 * j + m)) Z dX3_take_53 (nI_add (8 * j) m) ?_
    refine g_icmpN_ge (tgt := 96) Z dX3_take_54 (by decide) (8 * j + q) (8 * j + m) rfl rfl (by omega) (by omega) (fun c_54 => ?_) (fun c_54 => absurd c_54 (by omega))
    refine g_iload_n Z dX3_take_96 1 rfl rfl ?_
    exact g_iret Z dX3_take_97 rfl ⟨Nat.zero_le _, Nat.zero_le _⟩ ⟨rfl, by rw [h2, h3, h4]⟩
  | succ d ih =>
    intro q K2 F2 G2 h1 h2 h3 h4
    have hnj := hn j
    simp only [shDn] at h2 h3 h4
    refine g_iload Z dX3_take_41 0 rfl ?_
    refine g_bipush Z dX3_take_43 zb_8 ?_
    refine g_iload_n Z dX3_take_45 3 rfl rfl ?_
    refine g_imulE (z := nI (8 * j)) Z dX3_take_46 (pk_mul 8 j) ?_
    refine g_aload_n Z dX3_take_47 2 rfl rfl ?_
    refine g_get Z dX3_take_48 0 rfl rfl nX3_take_X3 1 (by decide) fX3_take_13 rfl ?_
    refine g_iload_n Z dX3_take_51 3 rfl rfl ?_
    refine g_ialdE (v := nI m) Z dX3_take_52 1 rfl j rfl (by omega) rfl (by show nI (va_up n j m j) = nI m; rw [vu_at]) ?_
    refine g_iaddE (z := nI (8 * j + m)) Z dX3_take_53 (nI_add (8 * j) m) ?_
    refine g_icmpN_ge (tgt := 96) Z dX3_take_54 (by decide) (8 * j + q) (8 * j + m) rfl rfl (by omega) (by omega) (fun c_54 => absurd c_54 (by omega)) (fun c_54 => ?_)
    refine g_aload_n Z dX3_take_57 2 rfl rfl ?_
    refine g_iload Z dX3_take_58 0 rfl ?_
    refine g_aload_n Z dX3_take_60 2 rfl rfl ?_
    refine g_get Z dX3_take_61 0 rfl rfl nX3_take_X3 2 (by decide) fX3_take_17 rfl ?_
    refine g_iload Z dX3_take_64 0 rfl ?_
    refine g_iconst Z dX3_take_66 zi_1 ?_
    refine g_iaddE (z := nI (8 * j + q + 1)) Z dX3_take_67 (nI_add (8 * j + q) 1) ?_
    refine g_ialdE (v := K2 (q + 1)) Z dX3_take_68 2 rfl (8 * j + q + 1) rfl (by omega) rfl (gl_atU _ _ (j := j) (p := q + 1) (by omega) (by omega)) ?_
    refine g_aload_n Z dX3_take_69 2 rfl rfl ?_
    refine g_get Z dX3_take_70 0 rfl rfl nX3_take_X3 3 (by decide) fX3_take_20 rfl ?_
    refine g_iload Z dX3_take_73 0 rfl ?_
    refine g_iconst Z dX3_take_75 zi_1 ?_
    refine g_iaddE (z := nI (8 * j + q + 1)) Z dX3_take_76 (nI_add (8 * j + q) 1) ?_
    refine g_ialdE (v := F2 (q + 1)) Z dX3_take_77 3 rfl (8 * j + q + 1) rfl (by omega) rfl (gl_atU _ _ (j := j) (p := q + 1) (by omega) (by omega)) ?_
    refine g_aload_n Z dX3_take_78 2 rfl rfl ?_
    refine g_get Z dX3_take_79 0 rfl rfl nX3_take_X3 4 (by decide) fX3_take_23 rfl ?_
    refine g_iload Z dX3_take_82 0 rfl ?_
    refine g_iconst Z dX3_take_84 zi_1 ?_
    refine g_iaddE (z := nI (8 * j + q + 1)) Z dX3_take_85 (nI_add (8 * j + q) 1) ?_
    refine g_ialdE (v := G2 (q + 1)) Z dX3_take_86 4 rfl (8 * j + q + 1) rfl (by omega) rfl (gl_atU _ _ (j := j) (p := q + 1) (by omega) (by omega)) ?_
    refine g_callVx (w' := [cO h 3 [.int (nI nb), .ref m1, .ref m2, .ref m3, .ref m4, .int (nI dn), .ref m5, .ref m6, .long (tg T)], cI E m1 4 (mN (va_up n j m)), cI E m2 32 (gl (va_up K j (upd K2 q (K2 (q + 1))))), cI E m3 32 (gl (va_up F j (upd F2 q (F2 (q + 1))))), cI E m4 32 (gl (va_up G j (upd G2 q (G2 (q + 1))))), cI E m5 12 D, cJ E m6 6 (tv T)]) Z (qX3_lay E h m1 m2 m3 m4 m5 m6 nb dn (va_up n j m) K F G D T K2 F2 G2 j q (8 * j + q) (K2 (q + 1)) (F2 (q + 1)) (G2 (q + 1)) (by omega) (by omega) (by omega)) iX3_lay gX3_take_X3_lay ⟨rfl, rfl⟩ ⟨Nat.le_of_ble_eq_true rfl, Nat.le_of_ble_eq_true rfl⟩ dX3_take_87 rfl rfl (Nat.le_of_ble_eq_true rfl) ⟨Nat.zero_le _, Nat.zero_le _⟩ [0, 1, 2, 3, 4, 5, 6] rfl rfl 0 rfl rfl rfl rfl rfl ?_
    refine g_iinc (lv' := [(4, .int (nI (8 * j + q + 1))), (3, .int (K j p)), (0, .ref h), (1, .int (nI j)), (2, .int (nI p))]) Z dX3_take_90 0 rfl (zinc _) (by decide) rfl ?_
    refine g_goto (tgt := 41) Z dX3_take_93 (by decide) ?_
    refine g_lv (lv2 := [(4, .int (nI (8 * j + q + 1))), (3, .int (K j p)), (0, .ref h), (1, .int (nI j)), (2, .int (nI p))]) Z [0, 1, 2, 3, 4] rfl ?_
    exact ih (q + 1) _ _ _ (by omega) h2 h3 h4
set_option maxHeartbeats 4000000 in
set_option maxRecDepth 100000 in
theorem qX3_take (E : zE) (h m1 m2 m3 m4 m5 m6 : Nat) (nb dn : Nat) (n : Nat → Nat) (K F G : Nat → Nat → Int32) (D : Nat → Int32) (T : TB) (j p : Nat) (m : Nat) (hnb : nb ≤ 4) (hn : ∀ b, n b ≤ 8) (hj : j < nb) (hp : p < n j) (hm : n j = m + 1) : zF E yX3_take wsX3_take rX3_take [.ref h, .int (nI j), .int (nI p)] [cO h 3 [.int (nI nb), .ref m1, .ref m2, .ref m3, .ref m4, .int (nI dn), .ref m5, .ref m6, .long (tg T)], cI E m1 4 (mN n), cI E m2 32 (gl K), cI E m3 32 (gl F), cI E m4 32 (gl G), cI E m5 12 D, cJ E m6 6 (tv T)] (zx (some (.int (K j p))) ([cO h 3 [.int (nI nb), .ref m1, .ref m2, .ref m3, .ref m4, .int (nI dn), .ref m5, .ref m6, .long (tg T)], cI E m1 4 (mN (va_up n j m)), cI E m2 32 (gl (va_up K j (shDn (K j) p (m - p)))), cI E m3 32 (gl (va_up F j (shDn (F j) p (m - p)))), cI E m4 32 (gl (va_up G j (shDn (G j) p (m - p)))), cI E m5 12 D, cJ E m6 6 (tv T)])) := by
  refine z_start RX3 "take" (by decide) rfl rfl rfl (Nat.le_of_ble_eq_true rfl) ?_
  intro J Z
  refine g_eq Z (lv2 := [(0, .ref h), (1, .int (nI j)), (2, .int (nI p))]) rfl rfl rfl ?_
  have hnj := hn j
  refine g_aload_n Z dX3_take_0 0 rfl rfl ?_
  refine g_iload_n Z dX3_take_1 1 rfl rfl ?_
  refine g_iload_n Z dX3_take_2 2 rfl rfl ?_
  refine g_callVx (w' := [cO h 3 [.int (nI nb), .ref m1, .ref m2, .ref m3, .ref m4, .int (nI dn), .ref m5, .ref m6, .long (tg T)], cI E m1 4 (mN n), cI E m2 32 (gl K), cI E m3 32 (gl F), cI E m4 32 (gl G), cI E m5 12 D, cJ E m6 6 (tv T)]) Z (qX3_isPart E h m1 m2 m3 m4 m5 m6 nb dn T n j (nI p) hnb hn (by omega)) iX3_isPart gX3_take_X3_isPart ⟨rfl, rfl⟩ ⟨Nat.le_of_ble_eq_true rfl, Nat.le_of_ble_eq_true rfl⟩ dX3_take_3 rfl rfl (Nat.le_of_ble_eq_true rfl) ⟨Nat.zero_le _, Nat.zero_le _⟩ [0, 1] rfl rfl 0 rfl rfl rfl rfl rfl ?_
  refine g_ifb_ne (tgt := 11) Z dX3_take_6 (by decide) (fun c_6 => ?_) (fun c_6 => absurd c_6 (fun q => q (inB_nI hp (by omega))))
  refine g_aload_n Z dX3_take_11 0 rfl rfl ?_
  refine g_get Z dX3_take_12 0 rfl rfl nX3_take_X3 2 (by decide) fX3_take_17 rfl ?_
  refine g_bipush Z dX3_take_15 zb_8 ?_
  refine g_iload_n Z dX3_take_17 1 rfl rfl ?_
  refine g_imulE (z := nI (8 * j)) Z dX3_take_18 (pk_mul 8 j) ?_
  refine g_iload_n Z dX3_take_19 2 rfl rfl ?_
  refine g_iaddE (z := nI (8 * j + p)) Z dX3_take_20 (nI_add (8 * j) p) ?_
  refine g_ialdE (v := K j p) Z dX3_take_21 2 rfl (8 * j + p) rfl (by omega) rfl (gl_at _ (j := j) (p := p) (by omega) (by omega)) ?_
  refine g_istore_n (lv' := [(3, .int (K j p)), (0, .ref h), (1, .int (nI j)), (2, .int (nI p))]) Z dX3_take_22 rfl (by decide) rfl ?_
  refine g_aload_n Z dX3_take_23 1 rfl rfl ?_
  refine g_get Z dX3_take_24 0 rfl rfl nX3_take_X3 1 (by decide) fX3_take_13 rfl ?_
  refine g_iload_n Z dX3_take_27 2 rfl rfl ?_
  refine g_dup2_11 Z dX3_take_28 rfl rfl ?_
  refine g_ialdE (v := nI (n j)) Z dX3_take_29 1 rfl j rfl (by omega) rfl rfl ?_
  refine g_iconst Z dX3_take_30 zi_1 ?_
  refine g_isubE (z := nI m) Z dX3_take_31 (by rw [hm]; exact nI_pred m) ?_
  refine g_iastE (w' := [cO h 3 [.int (nI nb), .ref m1, .ref m2, .ref m3, .ref m4, .int (nI dn), .ref m5, .ref m6, .long (tg T)], cI E m1 4 (mN (va_up n j m)), cI E m2 32 (gl K), cI E m3 32 (gl F), cI E m4 32 (gl G), cI E m5 12 D, cJ E m6 6 (tv T)]) Z dX3_take_32 1 rfl j rfl (by omega) rfl (mN_set _ _ m) rfl ?_
  refine g_bipush Z dX3_take_33 zb_8 ?_
  refine g_iload_n Z dX3_take_35 2 rfl rfl ?_
  refine g_imulE (z := nI (8 * j)) Z dX3_take_36 (pk_mul 8 j) ?_
  refine g_iload_n Z dX3_take_37 3 rfl rfl ?_
  refine g_iaddE (z := nI (8 * j + p)) Z dX3_take_38 (nI_add (8 * j) p) ?_
  refine g_istore (lv' := [(4, .int (nI (8 * j + p))), (3, .int (K j p)), (0, .ref h), (1, .int (nI j)), (2, .int (nI p))]) Z dX3_take_39 (by decide) rfl ?_
  refine g_eq Z (w2 := [cO h 3 [.int (nI nb), .ref m1, .ref m2, .ref m3, .ref m4, .int (nI dn), .ref m5, .ref m6, .long (tg T)], cI E m1 4 (mN (va_up n j m)), cI E m2 32 (gl (va_up K j (K j))), cI E m3 32 (gl (va_up F j (F j))), cI E m4 32 (gl (va_up G j (G j))), cI E m5 12 D, cJ E m6 6 (tv T)]) (by simp only [vu_self]) rfl rfl ?_
  exact lX3_take E h m1 m2 m3 m4 m5 m6 nb dn n K F G D T j p m hnb hn hj hp hm Z (m - p) p (K j) (F j) (G j) (by omega) rfl rfl rfl

abbrev rX3_set : Room := { frames := 3, cells := 0, slots := 0, locals := 67 }
theorem iX3_set : zInfo yX3_set wsX3_set RX3 5 (some .int) 4 := ⟨_, _, rfl, by decide +kernel⟩
set_option maxHeartbeats 4000000 in
set_option maxRecDepth 100000 in
theorem qX3_setN (E : zE) (h m1 m2 m3 m4 m5 m6 : Nat) (nb dn : Nat) (n : Nat → Nat) (K F G : Nat → Nat → Int32) (D : Nat → Int32) (T : TB) (b i a c : Int32) (hnb : nb ≤ 4) (hn : ∀ b, n b ≤ 8) (hv : ¬ ∃ j, j < nb ∧ b = nI j ∧ inB (n j) i) : zF E yX3_set wsX3_set rX3_set [.ref h, .int b, .int i, .int a, .int c] [cO h 3 [.int (nI nb), .ref m1, .ref m2, .ref m3, .ref m4, .int (nI dn), .ref m5, .ref m6, .long (tg T)], cI E m1 4 (mN n), cI E m2 32 (gl K), cI E m3 32 (gl F), cI E m4 32 (gl G), cI E m5 12 D, cJ E m6 6 (tv T)] (zx (some (.int (-1))) ([cO h 3 [.int (nI nb), .ref m1, .ref m2, .ref m3, .ref m4, .int (nI dn), .ref m5, .ref m6, .long (tg T)], cI E m1 4 (mN n), cI E m2 32 (gl K), cI E m3 32 (gl F), cI E m4 32 (gl G), cI E m5 12 D, cJ E m6 6 (tv T)])) := by
  refine z_start RX3 "set" (by decide) rfl rfl rfl (Nat.le_of_ble_eq_true rfl) ?_
  intro J Z
  refine g_eq Z (lv2 := [(0, .ref h), (1, .int b), (2, .int i), (3, .int a), (4, .int c)]) rfl rfl rfl ?_
  by_cases hb : inB nb b
  · obtain ⟨j, hj, rfl⟩ := inB_of hb
    have hnj := hn j
    refine g_aload_n Z dX3_set_0 0 rfl rfl ?_
    refine g_iload_n Z dX3_set_1 1 rfl rfl ?_
    refine g_iload_n Z dX3_set_2 2 rfl rfl ?_
    refine g_callVx (w' := [cO h 3 [.int (nI nb), .ref m1, .ref m2, .ref m3, .ref m4, .int (nI dn), .ref m5, .ref m6, .long (tg T)], cI E m1 4 (mN n), cI E m2 32 (gl K), cI E m3 32 (gl F), cI E m4 32 (gl G), cI E m5 12 D, cJ E m6 6 (tv T)]) Z (qX3_isPart E h m1 m2 m3 m4 m5 m6 nb dn T n j i hnb hn (by omega)) iX3_isPart gX3_set_X3_isPart ⟨rfl, rfl⟩ ⟨Nat.le_of_ble_eq_true rfl, Nat.le_of_ble_eq_true rfl⟩ dX3_set_3 rfl rfl (Nat.le_of_ble_eq_true rfl) ⟨Nat.zero_le _, Nat.zero_le _⟩ [0, 1] rfl rfl 0 rfl rfl rfl rfl rfl ?_
    refine g_ifb_ne (tgt := 11) Z dX3_set_6 (by decide) (fun c_6 => absurd c_6 (fun q => hv ⟨j, hj, rfl, q⟩)) (fun c_6 => ?_)
    refine g_iconst Z dX3_set_9 zi_m1 ?_
    exact g_iret Z dX3_set_10 rfl ⟨Nat.zero_le _, Nat.zero_le _⟩ ⟨rfl, rfl⟩
  · refine g_aload_n Z dX3_set_0 0 rfl rfl ?_
    refine g_iload_n Z dX3_set_1 1 rfl rfl ?_
    refine g_iload_n Z dX3_set_2 2 rfl rfl ?_
    refine g_callVx (w' := [cO h 3 [.int (nI nb), .ref m1, .ref m2, .ref m3, .ref m4, .int (nI dn), .ref m5, .ref m6, .long (tg T)], cI E m1 4 (mN n), cI E m2 32 (gl K), cI E m3 32 (gl F), cI E m4 32 (gl G), cI E m5 12 D, cJ E m6 6 (tv T)]) Z (qX3_isPartO E h m1 m2 m3 m4 m5 m6 nb dn T n b i hnb hn hb) iX3_isPart gX3_set_X3_isPart ⟨rfl, rfl⟩ ⟨Nat.le_of_ble_eq_true rfl, Nat.le_of_ble_eq_true rfl⟩ dX3_set_3 rfl rfl (Nat.le_of_ble_eq_true rfl) ⟨Nat.zero_le _, Nat.zero_le _⟩ [0, 1] rfl rfl 0 rfl rfl rfl rfl rfl ?_
    refine g_ifb_ne (tgt := 11) Z dX3_set_6 (by decide) (fun c_6 => absurd c_6 id) (fun c_6 => ?_)
    refine g_iconst Z dX3_set_9 zi_m1 ?_
    exact g_iret Z dX3_set_10 rfl ⟨Nat.zero_le _, Nat.zero_le _⟩ ⟨rfl, rfl⟩

theorem nX3_set_X3 : ∀ w ∈ wsX30, w ∈ wsX3_set := by decide +kernel
theorem fX3_set_17 : Cond.fieldLink RX3 17 (TX3 2).1 (TX3 2).2.1 (TX3 2).2.2.1 ∈ wsX3_set := by decide +kernel
set_option maxHeartbeats 4000000 in
set_option maxRecDepth 100000 in
theorem qX3_setB (E : zE) (h m1 m2 m3 m4 m5 m6 : Nat) (nb dn : Nat) (n : Nat → Nat) (K F G : Nat → Nat → Int32) (D : Nat → Int32) (T : TB) (j p : Nat) (a c : Int32) (hnb : nb ≤ 4) (hn : ∀ b, n b ≤ 8) (hj : j < nb) (hp : p < n j) (hg : ¬ gdP (K j p) a c) : zF E yX3_set wsX3_set rX3_set [.ref h, .int (nI j), .int (nI p), .int a, .int c] [cO h 3 [.int (nI nb), .ref m1, .ref m2, .ref m3, .ref m4, .int (nI dn), .ref m5, .ref m6, .long (tg T)], cI E m1 4 (mN n), cI E m2 32 (gl K), cI E m3 32 (gl F), cI E m4 32 (gl G), cI E m5 12 D, cJ E m6 6 (tv T)] (zx (some (.int (-2))) ([cO h 3 [.int (nI nb), .ref m1, .ref m2, .ref m3, .ref m4, .int (nI dn), .ref m5, .ref m6, .long (tg T)], cI E m1 4 (mN n), cI E m2 32 (gl K), cI E m3 32 (gl F), cI E m4 32 (gl G), cI E m5 12 D, cJ E m6 6 (tv T)])) := by
  refine z_start RX3 "set" (by decide) rfl rfl rfl (Nat.le_of_ble_eq_true rfl) ?_
  intro J Z
  refine g_eq Z (lv2 := [(0, .ref h), (1, .int (nI j)), (2, .int (nI p)), (3, .int a), (4, .int c)]) rfl rfl rfl ?_
  have hnj := hn j
  refine g_aload_n Z dX3_set_0 0 rfl rfl ?_
  refine g_iload_n Z dX3_set_1 1 rfl rfl ?_
  refine g_iload_n Z dX3_set_2 2 rfl rfl ?_
  refine g_callVx (w' := [cO h 3 [.int (nI nb), .ref m1, .ref m2, .ref m3, .ref m4, .int (nI dn), .ref m5, .ref m6, .long (tg T)], cI E m1 4 (mN n), cI E m2 32 (gl K), cI E m3 32 (gl F), cI E m4 32 (gl G), cI E m5 12 D, cJ E m6 6 (tv T)]) Z (qX3_isPart E h m1 m2 m3 m4 m5 m6 nb dn T n j (nI p) hnb hn (by omega)) iX3_isPart gX3_set_X3_isPart ⟨rfl, rfl⟩ ⟨Nat.le_of_ble_eq_true rfl, Nat.le_of_ble_eq_true rfl⟩ dX3_set_3 rfl rfl (Nat.le_of_ble_eq_true rfl) ⟨Nat.zero_le _, Nat.zero_le _⟩ [0, 1] rfl rfl 0 rfl rfl rfl rfl rfl ?_
  refine g_ifb_ne (tgt := 11) Z dX3_set_6 (by decide) (fun c_6 => ?_) (fun c_6 => absurd c_6 (fun q => q (inB_nI hp (by omega))))
  refine g_aload_n Z dX3_set_11 0 rfl rfl ?_
  refine g_aload_n Z dX3_set_12 0 rfl rfl ?_
  refine g_get Z dX3_set_13 0 rfl rfl nX3_set_X3 2 (by decide) fX3_set_17 rfl ?_
  refine g_bipush Z dX3_set_16 zb_8 ?_
  refine g_iload_n Z dX3_set_18 1 rfl rfl ?_
  refine g_imulE (z := nI (8 * j)) Z dX3_set_19 (pk_mul 8 j) ?_
  refine g_iload_n Z dX3_set_20 2 rfl rfl ?_
  refine g_iaddE (z := nI (8 * j + p)) Z dX3_set_21 (nI_add (8 * j) p) ?_
  refine g_ialdE (v := K j p) Z dX3_set_22 2 rfl (8 * j + p) rfl (by omega) rfl (gl_at _ (j := j) (p := p) (by omega) (by omega)) ?_
  refine g_iload_n Z dX3_set_23 3 rfl rfl ?_
  refine g_iload Z dX3_set_24 4 rfl ?_
  refine g_callVx (w' := [cO h 3 [.int (nI nb), .ref m1, .ref m2, .ref m3, .ref m4, .int (nI dn), .ref m5, .ref m6, .long (tg T)], cI E m1 4 (mN n), cI E m2 32 (gl K), cI E m3 32 (gl F), cI E m4 32 (gl G), cI E m5 12 D, cJ E m6 6 (tv T)]) Z (qX3_isGood E h m1 m2 m3 m4 m5 m6 nb dn T (K j p) a c) iX3_isGood gX3_set_X3_isGood ⟨rfl, rfl⟩ ⟨Nat.le_of_ble_eq_true rfl, Nat.le_of_ble_eq_true rfl⟩ dX3_set_26 rfl rfl (Nat.le_of_ble_eq_true rfl) ⟨Nat.zero_le _, Nat.zero_le _⟩ [0] rfl rfl 0 rfl rfl rfl rfl rfl ?_
  refine g_ifb_ne (tgt := 35) Z dX3_set_29 (by decide) (fun c_29 => absurd c_29 hg) (fun c_29 => ?_)
  refine g_bipush Z dX3_set_32 zb_m2 ?_
  exact g_iret Z dX3_set_34 rfl ⟨Nat.zero_le _, Nat.zero_le _⟩ ⟨rfl, rfl⟩

theorem fX3_set_20 : Cond.fieldLink RX3 20 (TX3 3).1 (TX3 3).2.1 (TX3 3).2.2.1 ∈ wsX3_set := by decide +kernel
theorem fX3_set_23 : Cond.fieldLink RX3 23 (TX3 4).1 (TX3 4).2.1 (TX3 4).2.2.1 ∈ wsX3_set := by decide +kernel
set_option maxHeartbeats 4000000 in
set_option maxRecDepth 100000 in
theorem qX3_set (E : zE) (h m1 m2 m3 m4 m5 m6 : Nat) (nb dn : Nat) (n : Nat → Nat) (K F G : Nat → Nat → Int32) (D : Nat → Int32) (T : TB) (j p : Nat) (a c : Int32) (hnb : nb ≤ 4) (hn : ∀ b, n b ≤ 8) (hj : j < nb) (hp : p < n j) (hg : gdP (K j p) a c) : zF E yX3_set wsX3_set rX3_set [.ref h, .int (nI j), .int (nI p), .int a, .int c] [cO h 3 [.int (nI nb), .ref m1, .ref m2, .ref m3, .ref m4, .int (nI dn), .ref m5, .ref m6, .long (tg T)], cI E m1 4 (mN n), cI E m2 32 (gl K), cI E m3 32 (gl F), cI E m4 32 (gl G), cI E m5 12 D, cJ E m6 6 (tv T)] (zx (some (.int 0)) ([cO h 3 [.int (nI nb), .ref m1, .ref m2, .ref m3, .ref m4, .int (nI dn), .ref m5, .ref m6, .long (tg T)], cI E m1 4 (mN n), cI E m2 32 (gl K), cI E m3 32 (gl (va_up F j (upd (F j) p a))), cI E m4 32 (gl (va_up G j (upd (G j) p c))), cI E m5 12 D, cJ E m6 6 (tv T)])) := by
  refine z_start RX3 "set" (by decide) rfl rfl rfl (Nat.le_of_ble_eq_true rfl) ?_
  intro J Z
  refine g_eq Z (lv2 := [(0, .ref h), (1, .int (nI j)), (2, .int (nI p)), (3, .int a), (4, .int c)]) rfl rfl rfl ?_
  have hnj := hn j
  refine g_aload_n Z dX3_set_0 0 rfl rfl ?_
  refine g_iload_n Z dX3_set_1 1 rfl rfl ?_
  refine g_iload_n Z dX3_set_2 2 rfl rfl ?_
  refine g_callVx (w' := [cO h 3 [.int (nI nb), .ref m1, .ref m2, .ref m3, .ref m4, .int (nI dn), .ref m5, .ref m6, .long (tg T)], cI E m1 4 (mN n), cI E m2 32 (gl K), cI E m3 32 (gl F), cI E m4 32 (gl G), cI E m5 12 D, cJ E m6 6 (tv T)]) Z (qX3_isPart E h m1 m2 m3 m4 m5 m6 nb dn T n j (nI p) hnb hn (by omega)) iX3_isPart gX3_set_X3_isPart ⟨rfl, rfl⟩ ⟨Nat.le_of_ble_eq_true rfl, Nat.le_of_ble_eq_true rfl⟩ dX3_set_3 rfl rfl (Nat.le_of_ble_eq_true rfl) ⟨Nat.zero_le _, Nat.zero_le _⟩ [0, 1] rfl rfl 0 rfl rfl rfl rfl rfl ?_
  refine g_ifb_ne (tgt := 11) Z dX3_set_6 (by decide) (fun c_6 => ?_) (fun c_6 => absurd c_6 (fun q => q (inB_nI hp (by omega))))
  refine g_aload_n Z dX3_set_11 0 rfl rfl ?_
  refine g_aload_n Z dX3_set_12 0 rfl rfl ?_
  refine g_get Z dX3_set_13 0 rfl rfl nX3_set_X3 2 (by decide) fX3_set_17 rfl ?_
  refine g_bipush Z dX3_set_16 zb_8 ?_
  refine g_iload_n Z dX3_set_18 1 rfl rfl ?_
  refine g_imulE (z := nI (8 * j)) Z dX3_set_19 (pk_mul 8 j) ?_
  refine g_iload_n Z dX3_set_20 2 rfl rfl ?_
  refine g_iaddE (z := nI (8 * j + p)) Z dX3_set_21 (nI_add (8 * j) p) ?_
  refine g_ialdE (v := K j p) Z dX3_set_22 2 rfl (8 * j + p) rfl (by omega) rfl (gl_at _ (j := j) (p := p) (by omega) (by omega)) ?_
  refine g_iload_n Z dX3_set_23 3 rfl rfl ?_
  refine g_iload Z dX3_set_24 4 rfl ?_
  refine g_callVx (w' := [cO h 3 [.int (nI nb), .ref m1, .ref m2, .ref m3, .ref m4, .int (nI dn), .ref m5, .ref m6, .long (tg T)], cI E m1 4 (mN n), cI E m2 32 (gl K), cI E m3 32 (gl F), cI E m4 32 (gl G), cI E m5 12 D, cJ E m6 6 (tv T)]) Z (qX3_isGood E h m1 m2 m3 m4 m5 m6 nb dn T (K j p) a c) iX3_isGood gX3_set_X3_isGood ⟨rfl, rfl⟩ ⟨Nat.le_of_ble_eq_true rfl, Nat.le_of_ble_eq_true rfl⟩ dX3_set_26 rfl rfl (Nat.le_of_ble_eq_true rfl) ⟨Nat.zero_le _, Nat.zero_le _⟩ [0] rfl rfl 0 rfl rfl rfl rfl rfl ?_
  refine g_ifb_ne (tgt := 35) Z dX3_set_29 (by decide) (fun c_29 => ?_) (fun c_29 => absurd c_29 (fun q => q hg))
  refine g_aload_n Z dX3_set_35 0 rfl rfl ?_
  refine g_get Z dX3_set_36 0 rfl rfl nX3_set_X3 3 (by decide) fX3_set_20 rfl ?_
  refine g_bipush Z dX3_set_39 zb_8 ?_
  refine g_iload_n Z dX3_set_41 1 rfl rfl ?_
  refine g_imulE (z := nI (8 * j)) Z dX3_set_42 (pk_mul 8 j) ?_
  refine g_iload_n Z dX3_set_43 2 rfl rfl ?_
  refine g_iaddE (z := nI (8 * j + p)) Z dX3_set_44 (nI_add (8 * j) p) ?_
  refine g_iload_n Z dX3_set_45 3 rfl rfl ?_
  refine g_iastE (w' := [cO h 3 [.int (nI nb), .ref m1, .ref m2, .ref m3, .ref m4, .int (nI dn), .ref m5, .ref m6, .long (tg T)], cI E m1 4 (mN n), cI E m2 32 (gl K), cI E m3 32 (gl (va_up F j (upd (F j) p a))), cI E m4 32 (gl G), cI E m5 12 D, cJ E m6 6 (tv T)]) Z dX3_set_46 3 rfl (8 * j + p) rfl (by omega) rfl (gl_set _ (j := j) (p := p) _ (by omega) (by omega)) rfl ?_
  refine g_aload_n Z dX3_set_47 0 rfl rfl ?_
  refine g_get Z dX3_set_48 0 rfl rfl nX3_set_X3 4 (by decide) fX3_set_23 rfl ?_
  refine g_bipush Z dX3_set_51 zb_8 ?_
  refine g_iload_n Z dX3_set_53 1 rfl rfl ?_
  refine g_imulE (z := nI (8 * j)) Z dX3_set_54 (pk_mul 8 j) ?_
  refine g_iload_n Z dX3_set_55 2 rfl rfl ?_
  refine g_iaddE (z := nI (8 * j + p)) Z dX3_set_56 (nI_add (8 * j) p) ?_
  refine g_iload Z dX3_set_57 4 rfl ?_
  refine g_iastE (w' := [cO h 3 [.int (nI nb), .ref m1, .ref m2, .ref m3, .ref m4, .int (nI dn), .ref m5, .ref m6, .long (tg T)], cI E m1 4 (mN n), cI E m2 32 (gl K), cI E m3 32 (gl (va_up F j (upd (F j) p a))), cI E m4 32 (gl (va_up G j (upd (G j) p c))), cI E m5 12 D, cJ E m6 6 (tv T)]) Z dX3_set_59 4 rfl (8 * j + p) rfl (by omega) rfl (gl_set _ (j := j) (p := p) _ (by omega) (by omega)) rfl ?_
  refine g_iconst Z dX3_set_60 zi_0 ?_
  exact g_iret Z dX3_set_61 rfl ⟨Nat.zero_le _, Nat.zero_le _⟩ ⟨rfl, rfl⟩

abbrev rX3_part : Room := { frames := 3, cells := 0, slots := 0, locals := 66 }
theorem iX3_part : zInfo yX3_part wsX3_part RX3 4 (some .int) 3 := ⟨_, _, rfl, by decide +kernel⟩
set_option maxHeartbeats 4000000 in
set_option maxRecDepth 100000 in
theorem qX3_partN (E : zE) (h m1 m2 m3 m4 m5 m6 : Nat) (nb dn : Nat) (n : Nat → Nat) (K F G : Nat → Nat → Int32) (D : Nat → Int32) (T : TB) (b i v : Int32) (hnb : nb ≤ 4) (hn : ∀ b, n b ≤ 8) (hv : ¬ ∃ j, j < nb ∧ b = nI j ∧ inB (n j) i ∧ (v = 0 ∨ v = 1 ∨ v = 2)) : zF E yX3_part wsX3_part rX3_part [.ref h, .int b, .int i, .int v] [cO h 3 [.int (nI nb), .ref m1, .ref m2, .ref m3, .ref m4, .int (nI dn), .ref m5, .ref m6, .long (tg T)], cI E m1 4 (mN n), cI E m2 32 (gl K), cI E m3 32 (gl F), cI E m4 32 (gl G), cI E m5 12 D, cJ E m6 6 (tv T)] (zx (some (.int (-100))) ([cO h 3 [.int (nI nb), .ref m1, .ref m2, .ref m3, .ref m4, .int (nI dn), .ref m5, .ref m6, .long (tg T)], cI E m1 4 (mN n), cI E m2 32 (gl K), cI E m3 32 (gl F), cI E m4 32 (gl G), cI E m5 12 D, cJ E m6 6 (tv T)])) := by
  refine z_start RX3 "part" (by decide) rfl rfl rfl (Nat.le_of_ble_eq_true rfl) ?_
  intro J Z
  refine g_eq Z (lv2 := [(0, .ref h), (1, .int b), (2, .int i), (3, .int v)]) rfl rfl rfl ?_
  by_cases hb : inB nb b
  · obtain ⟨j, hj, rfl⟩ := inB_of hb
    have hnj := hn j
    refine g_aload_n Z dX3_part_0 0 rfl rfl ?_
    refine g_iload_n Z dX3_part_1 1 rfl rfl ?_
    refine g_iload_n Z dX3_part_2 2 rfl rfl ?_
    refine g_callVx (w' := [cO h 3 [.int (nI nb), .ref m1, .ref m2, .ref m3, .ref m4, .int (nI dn), .ref m5, .ref m6, .long (tg T)], cI E m1 4 (mN n), cI E m2 32 (gl K), cI E m3 32 (gl F), cI E m4 32 (gl G), cI E m5 12 D, cJ E m6 6 (tv T)]) Z (qX3_isPart E h m1 m2 m3 m4 m5 m6 nb dn T n j i hnb hn (by omega)) iX3_isPart gX3_part_X3_isPart ⟨rfl, rfl⟩ ⟨Nat.le_of_ble_eq_true rfl, Nat.le_of_ble_eq_true rfl⟩ dX3_part_3 rfl rfl (Nat.le_of_ble_eq_true rfl) ⟨Nat.zero_le _, Nat.zero_le _⟩ [0, 1] rfl rfl 0 rfl rfl rfl rfl rfl ?_
    refine g_ifb_eq (tgt := 19) Z dX3_part_6 (by decide) (fun c_6 => ?_) (fun c_6 => ?_)
    · refine g_bipush Z dX3_part_19 zb_m100 ?_
      exact g_iret Z dX3_part_21 rfl ⟨Nat.zero_le _, Nat.zero_le _⟩ ⟨rfl, rfl⟩
    · refine g_aload_n Z dX3_part_9 0 rfl rfl ?_
      refine g_iload_n Z dX3_part_10 3 rfl rfl ?_
      refine g_iconst Z dX3_part_11 zi_0 ?_
      refine g_iconst Z dX3_part_12 zi_2 ?_
      refine g_callVx (w' := [cO h 3 [.int (nI nb), .ref m1, .ref m2, .ref m3, .ref m4, .int (nI dn), .ref m5, .ref m6, .long (tg T)], cI E m1 4 (mN n), cI E m2 32 (gl K), cI E m3 32 (gl F), cI E m4 32 (gl G), cI E m5 12 D, cJ E m6 6 (tv T)]) Z (qX3_in E h m1 m2 m3 m4 m5 m6 nb dn T v 0 2) iX3_in gX3_part_X3_in ⟨rfl, rfl⟩ ⟨Nat.le_of_ble_eq_true rfl, Nat.le_of_ble_eq_true rfl⟩ dX3_part_13 rfl rfl (Nat.le_of_ble_eq_true rfl) ⟨Nat.zero_le _, Nat.zero_le _⟩ [0] rfl rfl 0 rfl rfl rfl rfl rfl ?_
      refine g_ifb_ne (tgt := 22) Z dX3_part_16 (by decide) (fun c_16 => ?_) (fun c_16 => ?_)
      · exact absurd ⟨j, hj, rfl, c_6, z_in2 c_16⟩ hv
      · refine g_bipush Z dX3_part_19 zb_m100 ?_
        exact g_iret Z dX3_part_21 rfl ⟨Nat.zero_le _, Nat.zero_le _⟩ ⟨rfl, rfl⟩
  · refine g_aload_n Z dX3_part_0 0 rfl rfl ?_
    refine g_iload_n Z dX3_part_1 1 rfl rfl ?_
    refine g_iload_n Z dX3_part_2 2 rfl rfl ?_
    refine g_callVx (w' := [cO h 3 [.int (nI nb), .ref m1, .ref m2, .ref m3, .ref m4, .int (nI dn), .ref m5, .ref m6, .long (tg T)], cI E m1 4 (mN n), cI E m2 32 (gl K), cI E m3 32 (gl F), cI E m4 32 (gl G), cI E m5 12 D, cJ E m6 6 (tv T)]) Z (qX3_isPartO E h m1 m2 m3 m4 m5 m6 nb dn T n b i hnb hn hb) iX3_isPart gX3_part_X3_isPart ⟨rfl, rfl⟩ ⟨Nat.le_of_ble_eq_true rfl, Nat.le_of_ble_eq_true rfl⟩ dX3_part_3 rfl rfl (Nat.le_of_ble_eq_true rfl) ⟨Nat.zero_le _, Nat.zero_le _⟩ [0, 1] rfl rfl 0 rfl rfl rfl rfl rfl ?_
    refine g_ifb_eq (tgt := 19) Z dX3_part_6 (by decide) (fun c_6 => ?_) (fun c_6 => absurd c_6 id)
    refine g_bipush Z dX3_part_19 zb_m100 ?_
    exact g_iret Z dX3_part_21 rfl ⟨Nat.zero_le _, Nat.zero_le _⟩ ⟨rfl, rfl⟩

theorem nX3_part_X3 : ∀ w ∈ wsX30, w ∈ wsX3_part := by decide +kernel
theorem fX3_part_17 : Cond.fieldLink RX3 17 (TX3 2).1 (TX3 2).2.1 (TX3 2).2.2.1 ∈ wsX3_part := by decide +kernel
set_option maxHeartbeats 4000000 in
set_option maxRecDepth 100000 in
theorem qX3_part0 (E : zE) (h m1 m2 m3 m4 m5 m6 : Nat) (nb dn : Nat) (n : Nat → Nat) (K F G : Nat → Nat → Int32) (D : Nat → Int32) (T : TB) (j p : Nat) (hnb : nb ≤ 4) (hn : ∀ b, n b ≤ 8) (hj : j < nb) (hp : p < n j) : zF E yX3_part wsX3_part rX3_part [.ref h, .int (nI j), .int (nI p), .int 0] [cO h 3 [.int (nI nb), .ref m1, .ref m2, .ref m3, .ref m4, .int (nI dn), .ref m5, .ref m6, .long (tg T)], cI E m1 4 (mN n), cI E m2 32 (gl K), cI E m3 32 (gl F), cI E m4 32 (gl G), cI E m5 12 D, cJ E m6 6 (tv T)] (zx (some (.int (K j p))) ([cO h 3 [.int (nI nb), .ref m1, .ref m2, .ref m3, .ref m4, .int (nI dn), .ref m5, .ref m6, .long (tg T)], cI E m1 4 (mN n), cI E m2 32 (gl K), cI E m3 32 (gl F), cI E m4 32 (gl G), cI E m5 12 D, cJ E m6 6 (tv T)])) := by
  refine z_start RX3 "part" (by decide) rfl rfl rfl (Nat.le_of_ble_eq_true rfl) ?_
  intro J Z
  refine g_eq Z (lv2 := [(0, .ref h), (1, .int (nI j)), (2, .int (nI p)), (3, .int 0)]) rfl rfl rfl ?_
  have hnj := hn j
  refine g_aload_n Z dX3_part_0 0 rfl rfl ?_
  refine g_iload_n Z dX3_part_1 1 rfl rfl ?_
  refine g_iload_n Z dX3_part_2 2 rfl rfl ?_
  refine g_callVx (w' := [cO h 3 [.int (nI nb), .ref m1, .ref m2, .ref m3, .ref m4, .int (nI dn), .ref m5, .ref m6, .long (tg T)], cI E m1 4 (mN n), cI E m2 32 (gl K), cI E m3 32 (gl F), cI E m4 32 (gl G), cI E m5 12 D, cJ E m6 6 (tv T)]) Z (qX3_isPart E h m1 m2 m3 m4 m5 m6 nb dn T n j (nI p) hnb hn (by omega)) iX3_isPart gX3_part_X3_isPart ⟨rfl, rfl⟩ ⟨Nat.le_of_ble_eq_true rfl, Nat.le_of_ble_eq_true rfl⟩ dX3_part_3 rfl rfl (Nat.le_of_ble_eq_true rfl) ⟨Nat.zero_le _, Nat.zero_le _⟩ [0, 1] rfl rfl 0 rfl rfl rfl rfl rfl ?_
  refine g_ifb_eq (tgt := 19) Z dX3_part_6 (by decide) (fun c_6 => absurd c_6 (fun q => q (inB_nI hp (by omega)))) (fun c_6 => ?_)
  refine g_aload_n Z dX3_part_9 0 rfl rfl ?_
  refine g_iload_n Z dX3_part_10 3 rfl rfl ?_
  refine g_iconst Z dX3_part_11 zi_0 ?_
  refine g_iconst Z dX3_part_12 zi_2 ?_
  refine g_callVx (w' := [cO h 3 [.int (nI nb), .ref m1, .ref m2, .ref m3, .ref m4, .int (nI dn), .ref m5, .ref m6, .long (tg T)], cI E m1 4 (mN n), cI E m2 32 (gl K), cI E m3 32 (gl F), cI E m4 32 (gl G), cI E m5 12 D, cJ E m6 6 (tv T)]) Z (qX3_in E h m1 m2 m3 m4 m5 m6 nb dn T 0 0 2) iX3_in gX3_part_X3_in ⟨rfl, rfl⟩ ⟨Nat.le_of_ble_eq_true rfl, Nat.le_of_ble_eq_true rfl⟩ dX3_part_13 rfl rfl (Nat.le_of_ble_eq_true rfl) ⟨Nat.zero_le _, Nat.zero_le _⟩ [0] rfl rfl 0 rfl rfl rfl rfl rfl ?_
  refine g_ifb_ne (tgt := 22) Z dX3_part_16 (by decide) (fun c_16 => ?_) (fun c_16 => absurd c_16 (by decide))
  refine g_iload_n Z dX3_part_22 3 rfl rfl ?_
  refine g_if_ne (tgt := 40) Z dX3_part_23 (by decide) (fun c_23 => absurd c_23 (by decide)) (fun c_23 => ?_)
  refine g_aload_n Z dX3_part_26 0 rfl rfl ?_
  refine g_get Z dX3_part_27 0 rfl rfl nX3_part_X3 2 (by decide) fX3_part_17 rfl ?_
  refine g_bipush Z dX3_part_30 zb_8 ?_
  refine g_iload_n Z dX3_part_32 1 rfl rfl ?_
  refine g_imulE (z := nI (8 * j)) Z dX3_part_33 (pk_mul 8 j) ?_
  refine g_iload_n Z dX3_part_34 2 rfl rfl ?_
  refine g_iaddE (z := nI (8 * j + p)) Z dX3_part_35 (nI_add (8 * j) p) ?_
  refine g_ialdE (v := K j p) Z dX3_part_36 2 rfl (8 * j + p) rfl (by omega) rfl (gl_at _ (j := j) (p := p) (by omega) (by omega)) ?_
  refine g_goto (tgt := 70) Z dX3_part_37 (by decide) ?_
  exact g_iret Z dX3_part_70 rfl ⟨Nat.zero_le _, Nat.zero_le _⟩ ⟨rfl, rfl⟩

theorem fX3_part_20 : Cond.fieldLink RX3 20 (TX3 3).1 (TX3 3).2.1 (TX3 3).2.2.1 ∈ wsX3_part := by decide +kernel
set_option maxHeartbeats 4000000 in
set_option maxRecDepth 100000 in
theorem qX3_part1 (E : zE) (h m1 m2 m3 m4 m5 m6 : Nat) (nb dn : Nat) (n : Nat → Nat) (K F G : Nat → Nat → Int32) (D : Nat → Int32) (T : TB) (j p : Nat) (hnb : nb ≤ 4) (hn : ∀ b, n b ≤ 8) (hj : j < nb) (hp : p < n j) : zF E yX3_part wsX3_part rX3_part [.ref h, .int (nI j), .int (nI p), .int 1] [cO h 3 [.int (nI nb), .ref m1, .ref m2, .ref m3, .ref m4, .int (nI dn), .ref m5, .ref m6, .long (tg T)], cI E m1 4 (mN n), cI E m2 32 (gl K), cI E m3 32 (gl F), cI E m4 32 (gl G), cI E m5 12 D, cJ E m6 6 (tv T)] (zx (some (.int (F j p))) ([cO h 3 [.int (nI nb), .ref m1, .ref m2, .ref m3, .ref m4, .int (nI dn), .ref m5, .ref m6, .long (tg T)], cI E m1 4 (mN n), cI E m2 32 (gl K), cI E m3 32 (gl F), cI E m4 32 (gl G), cI E m5 12 D, cJ E m6 6 (tv T)])) := by
  refine z_start RX3 "part" (by decide) rfl rfl rfl (Nat.le_of_ble_eq_true rfl) ?_
  intro J Z
  refine g_eq Z (lv2 := [(0, .ref h), (1, .int (nI j)), (2, .int (nI p)), (3, .int 1)]) rfl rfl rfl ?_
  have hnj := hn j
  refine g_aload_n Z dX3_part_0 0 rfl rfl ?_
  refine g_iload_n Z dX3_part_1 1 rfl rfl ?_
  refine g_iload_n Z dX3_part_2 2 rfl rfl ?_
  refine g_callVx (w' := [cO h 3 [.int (nI nb), .ref m1, .ref m2, .ref m3, .ref m4, .int (nI dn), .ref m5, .ref m6, .long (tg T)], cI E m1 4 (mN n), cI E m2 32 (gl K), cI E m3 32 (gl F), cI E m4 32 (gl G), cI E m5 12 D, cJ E m6 6 (tv T)]) Z (qX3_isPart E h m1 m2 m3 m4 m5 m6 nb dn T n j (nI p) hnb hn (by omega)) iX3_isPart gX3_part_X3_isPart ⟨rfl, rfl⟩ ⟨Nat.le_of_ble_eq_true rfl, Nat.le_of_ble_eq_true rfl⟩ dX3_part_3 rfl rfl (Nat.le_of_ble_eq_true rfl) ⟨Nat.zero_le _, Nat.zero_le _⟩ [0, 1] rfl rfl 0 rfl rfl rfl rfl rfl ?_
  refine g_ifb_eq (tgt := 19) Z dX3_part_6 (by decide) (fun c_6 => absurd c_6 (fun q => q (inB_nI hp (by omega)))) (fun c_6 => ?_)
  refine g_aload_n Z dX3_part_9 0 rfl rfl ?_
  refine g_iload_n Z dX3_part_10 3 rfl rfl ?_
  refine g_iconst Z dX3_part_11 zi_0 ?_
  refine g_iconst Z dX3_part_12 zi_2 ?_
  refine g_callVx (w' := [cO h 3 [.int (nI nb), .ref m1, .ref m2, .ref m3, .ref m4, .int (nI dn), .ref m5, .ref m6, .long (tg T)], cI E m1 4 (mN n), cI E m2 32 (gl K), cI E m3 32 (gl F), cI E m4 32 (gl G), cI E m5 12 D, cJ E m6 6 (tv T)]) Z (qX3_in E h m1 m2 m3 m4 m5 m6 nb dn T 1 0 2) iX3_in gX3_part_X3_in ⟨rfl, rfl⟩ ⟨Nat.le_of_ble_eq_true rfl, Nat.le_of_ble_eq_true rfl⟩ dX3_part_13 rfl rfl (Nat.le_of_ble_eq_true rfl) ⟨Nat.zero_le _, Nat.zero_le _⟩ [0] rfl rfl 0 rfl rfl rfl rfl rfl ?_
  refine g_ifb_ne (tgt := 22) Z dX3_part_16 (by decide) (fun c_16 => ?_) (fun c_16 => absurd c_16 (by decide))
  refine g_iload_n Z dX3_part_22 3 rfl rfl ?_
  refine g_if_ne (tgt := 40) Z dX3_part_23 (by decide) (fun c_23 => ?_) (fun c_23 => absurd c_23 (by decide))
  refine g_iload_n Z dX3_part_40 3 rfl rfl ?_
  refine g_iconst Z dX3_part_41 zi_1 ?_
  refine g_icmp_ne (tgt := 59) Z dX3_part_42 (by decide) (fun c_42 => absurd c_42 (by decide)) (fun c_42 => ?_)
  refine g_aload_n Z dX3_part_45 0 rfl rfl ?_
  refine g_get Z dX3_part_46 0 rfl rfl nX3_part_X3 3 (by decide) fX3_part_20 rfl ?_
  refine g_bipush Z dX3_part_49 zb_8 ?_
  refine g_iload_n Z dX3_part_51 1 rfl rfl ?_
  refine g_imulE (z := nI (8 * j)) Z dX3_part_52 (pk_mul 8 j) ?_
  refine g_iload_n Z dX3_part_53 2 rfl rfl ?_
  refine g_iaddE (z := nI (8 * j + p)) Z dX3_part_54 (nI_add (8 * j) p) ?_
  refine g_ialdE (v := F j p) Z dX3_part_55 3 rfl (8 * j + p) rfl (by omega) rfl (gl_at _ (j := j) (p := p) (by omega) (by omega)) ?_
  refine g_goto (tgt := 70) Z dX3_part_56 (by decide) ?_
  exact g_iret Z dX3_part_70 rfl ⟨Nat.zero_le _, Nat.zero_le _⟩ ⟨rfl, rfl⟩

theorem fX3_part_23 : Cond.fieldLink RX3 23 (TX3 4).1 (TX3 4).2.1 (TX3 4).2.2.1 ∈ wsX3_part := by decide +kernel
set_option maxHeartbeats 4000000 in
set_option maxRecDepth 100000 in
theorem qX3_part2 (E : zE) (h m1 m2 m3 m4 m5 m6 : Nat) (nb dn : Nat) (n : Nat → Nat) (K F G : Nat → Nat → Int32) (D : Nat → Int32) (T : TB) (j p : Nat) (hnb : nb ≤ 4) (hn : ∀ b, n b ≤ 8) (hj : j < nb) (hp : p < n j) : zF E yX3_part wsX3_part rX3_part [.ref h, .int (nI j), .int (nI p), .int 2] [cO h 3 [.int (nI nb), .ref m1, .ref m2, .ref m3, .ref m4, .int (nI dn), .ref m5, .ref m6, .long (tg T)], cI E m1 4 (mN n), cI E m2 32 (gl K), cI E m3 32 (gl F), cI E m4 32 (gl G), cI E m5 12 D, cJ E m6 6 (tv T)] (zx (some (.int (G j p))) ([cO h 3 [.int (nI nb), .ref m1, .ref m2, .ref m3, .ref m4, .int (nI dn), .ref m5, .ref m6, .long (tg T)], cI E m1 4 (mN n), cI E m2 32 (gl K), cI E m3 32 (gl F), cI E m4 32 (gl G), cI E m5 12 D, cJ E m6 6 (tv T)])) := by
  refine z_start RX3 "part" (by decide) rfl rfl rfl (Nat.le_of_ble_eq_true rfl) ?_
  intro J Z
  refine g_eq Z (lv2 := [(0, .ref h), (1, .int (nI j)), (2, .int (nI p)), (3, .int 2)]) rfl rfl rfl ?_
  have hnj := hn j
  refine g_aload_n Z dX3_part_0 0 rfl rfl ?_
  refine g_iload_n Z dX3_part_1 1 rfl rfl ?_
  refine g_iload_n Z dX3_part_2 2 rfl rfl ?_
  refine g_callVx (w' := [cO h 3 [.int (nI nb), .ref m1, .ref m2, .ref m3, .ref m4, .int (nI dn), .ref m5, .ref m6, .long (tg T)], cI E m1 4 (mN n), cI E m2 32 (gl K), cI E m3 32 (gl F), cI E m4 32 (gl G), cI E m5 12 D, cJ E m6 6 (tv T)]) Z (qX3_isPart E h m1 m2 m3 m4 m5 m6 nb dn T n j (nI p) hnb hn (by omega)) iX3_isPart gX3_part_X3_isPart ⟨rfl, rfl⟩ ⟨Nat.le_of_ble_eq_true rfl, Nat.le_of_ble_eq_true rfl⟩ dX3_part_3 rfl rfl (Nat.le_of_ble_eq_true rfl) ⟨Nat.zero_le _, Nat.zero_le _⟩ [0, 1] rfl rfl 0 rfl rfl rfl rfl rfl ?_
  refine g_ifb_eq (tgt := 19) Z dX3_part_6 (by decide) (fun c_6 => absurd c_6 (fun q => q (inB_nI hp (by omega)))) (fun c_6 => ?_)
  refine g_aload_n Z dX3_part_9 0 rfl rfl ?_
  refine g_iload_n Z dX3_part_10 3 rfl rfl ?_
  refine g_iconst Z dX3_part_11 zi_0 ?_
  refine g_iconst Z dX3_part_12 zi_2 ?_
  refine g_callVx (w' := [cO h 3 [.int (nI nb), .ref m1, .ref m2, .ref m3, .ref m4, .int (nI dn), .ref m5, .ref m6, .long (tg T)], cI E m1 4 (mN n), cI E m2 32 (gl K), cI E m3 32 (gl F), cI E m4 32 (gl G), cI E m5 12 D, cJ E m6 6 (tv T)]) Z (qX3_in E h m1 m2 m3 m4 m5 m6 nb dn T 2 0 2) iX3_in gX3_part_X3_in ⟨rfl, rfl⟩ ⟨Nat.le_of_ble_eq_true rfl, Nat.le_of_ble_eq_true rfl⟩ dX3_part_13 rfl rfl (Nat.le_of_ble_eq_true rfl) ⟨Nat.zero_le _, Nat.zero_le _⟩ [0] rfl rfl 0 rfl rfl rfl rfl rfl ?_
  refine g_ifb_ne (tgt := 22) Z dX3_part_16 (by decide) (fun c_16 => ?_) (fun c_16 => absurd c_16 (by decide))
  refine g_iload_n Z dX3_part_22 3 rfl rfl ?_
  refine g_if_ne (tgt := 40) Z dX3_part_23 (by decide) (fun c_23 => ?_) (fun c_23 => absurd c_23 (by decide))
  refine g_iload_n Z dX3_part_40 3 rfl rfl ?_
  refine g_iconst Z dX3_part_41 zi_1 ?_
  refine g_icmp_ne (tgt := 59) Z dX3_part_42 (by decide) (fun c_42 => ?_) (fun c_42 => absurd c_42 (by decide))
  refine g_aload_n Z dX3_part_59 0 rfl rfl ?_
  refine g_get Z dX3_part_60 0 rfl rfl nX3_part_X3 4 (by decide) fX3_part_23 rfl ?_
  refine g_bipush Z dX3_part_63 zb_8 ?_
  refine g_iload_n Z dX3_part_65 1 rfl rfl ?_
  refine g_imulE (z := nI (8 * j)) Z dX3_part_66 (pk_mul 8 j) ?_
  refine g_iload_n Z dX3_part_67 2 rfl rfl ?_
  refine g_iaddE (z := nI (8 * j + p)) Z dX3_part_68 (nI_add (8 * j) p) ?_
  refine g_ialdE (v := G j p) Z dX3_part_69 4 rfl (8 * j + p) rfl (by omega) rfl (gl_at _ (j := j) (p := p) (by omega) (by omega)) ?_
  exact g_iret Z dX3_part_70 rfl ⟨Nat.zero_le _, Nat.zero_le _⟩ ⟨rfl, rfl⟩

abbrev rX3_turn : Room := { frames := 2, cells := 0, slots := 0, locals := 44 }
theorem iX3_turn : zInfo yX3_turn wsX3_turn RX3 8 (some .int) 1 := ⟨_, _, rfl, by decide +kernel⟩
set_option maxHeartbeats 4000000 in
set_option maxRecDepth 100000 in
theorem qX3_turnN (E : zE) (h m1 m2 m3 m4 m5 m6 : Nat) (nb dn : Nat) (n : Nat → Nat) (K F G : Nat → Nat → Int32) (D : Nat → Int32) (T : TB) (b : Int32) (hnb : nb ≤ 4) (hn : ∀ b, n b ≤ 8) (hb : ¬ inB nb b) : zF E yX3_turn wsX3_turn rX3_turn [.ref h, .int b] [cO h 3 [.int (nI nb), .ref m1, .ref m2, .ref m3, .ref m4, .int (nI dn), .ref m5, .ref m6, .long (tg T)], cI E m1 4 (mN n), cI E m2 32 (gl K), cI E m3 32 (gl F), cI E m4 32 (gl G), cI E m5 12 D, cJ E m6 6 (tv T)] (zx (some (.int (-1))) ([cO h 3 [.int (nI nb), .ref m1, .ref m2, .ref m3, .ref m4, .int (nI dn), .ref m5, .ref m6, .long (tg T)], cI E m1 4 (mN n), cI E m2 32 (gl K), cI E m3 32 (gl F), cI E m4 32 (gl G), cI E m5 12 D, cJ E m6 6 (tv T)])) := by
  refine z_start RX3 "turn" (by decide) rfl rfl rfl (Nat.le_of_ble_eq_true rfl) ?_
  intro J Z
  refine g_eq Z (lv2 := [(0, .ref h), (1, .int b)]) rfl rfl rfl ?_
  refine g_aload_n Z dX3_turn_0 0 rfl rfl ?_
  refine g_iload_n Z dX3_turn_1 1 rfl rfl ?_
  refine g_callVx (w' := [cO h 3 [.int (nI nb), .ref m1, .ref m2, .ref m3, .ref m4, .int (nI dn), .ref m5, .ref m6, .long (tg T)], cI E m1 4 (mN n), cI E m2 32 (gl K), cI E m3 32 (gl F), cI E m4 32 (gl G), cI E m5 12 D, cJ E m6 6 (tv T)]) Z (qX3_isBench E h m1 m2 m3 m4 m5 m6 nb dn T b (by omega)) iX3_isBench gX3_turn_X3_isBench ⟨rfl, rfl⟩ ⟨Nat.le_of_ble_eq_true rfl, Nat.le_of_ble_eq_true rfl⟩ dX3_turn_2 rfl rfl (Nat.le_of_ble_eq_true rfl) ⟨Nat.zero_le _, Nat.zero_le _⟩ [0] rfl rfl 0 rfl rfl rfl rfl rfl ?_
  refine g_ifb_ne (tgt := 10) Z dX3_turn_5 (by decide) (fun c_5 => absurd c_5 hb) (fun c_5 => ?_)
  refine g_iconst Z dX3_turn_8 zi_m1 ?_
  exact g_iret Z dX3_turn_9 rfl ⟨Nat.zero_le _, Nat.zero_le _⟩ ⟨rfl, rfl⟩

theorem nX3_turn_X3 : ∀ w ∈ wsX30, w ∈ wsX3_turn := by decide +kernel
theorem fX3_turn_13 : Cond.fieldLink RX3 13 (TX3 1).1 (TX3 1).2.1 (TX3 1).2.2.1 ∈ wsX3_turn := by decide +kernel
theorem fX3_turn_17 : Cond.fieldLink RX3 17 (TX3 2).1 (TX3 2).2.1 (TX3 2).2.2.1 ∈ wsX3_turn := by decide +kernel
theorem fX3_turn_20 : Cond.fieldLink RX3 20 (TX3 3).1 (TX3 3).2.1 (TX3 3).2.2.1 ∈ wsX3_turn := by decide +kernel
theorem fX3_turn_23 : Cond.fieldLink RX3 23 (TX3 4).1 (TX3 4).2.1 (TX3 4).2.2.1 ∈ wsX3_turn := by decide +kernel
set_option maxHeartbeats 4000000 in
set_option maxRecDepth 100000 in
theorem lX3_turn (E : zE) (h m1 m2 m3 m4 m5 m6 : Nat) (nb dn : Nat) (n : Nat → Nat) (K F G : Nat → Nat → Int32) (D : Nat → Int32) (T : TB) (j : Nat) (hnb : nb ≤ 4) (hn : ∀ b, n b ≤ 8) (hj : j < nb) {J : zJ} (Z : zOk E J RX3 cX3_turn 8 (some .int) wsX3_turn rX3_turn "turn" (fun _ => True) (zx (some (.int (nI (n j)))) ([cO h 3 [.int (nI nb), .ref m1, .ref m2, .ref m3, .ref m4, .int (nI dn), .ref m5, .ref m6, .long (tg T)], cI E m1 4 (mN n), cI E m2 32 (gl (va_up K j (revF (K j) (n j) 0 (n j / 2)))), cI E m3 32 (gl (va_up F j (revF (F j) (n j) 0 (n j / 2)))), cI E m4 32 (gl (va_up G j (revF (G j) (n j) 0 (n j / 2)))), cI E m5 12 D, cJ E m6 6 (tv T)]))) (hpos : 0 < n j) : ∀ (d : Nat) (q : Nat) (K2 F2 G2 : Nat → Int32), q + d = n j / 2 → revF K2 (n j) q d = revF (K j) (n j) 0 (n j / 2) → revF F2 (n j) q d = revF (F j) (n j) 0 (n j / 2) → revF G2 (n j) q d = revF (G j) (n j) 0 (n j / 2) → J 0 0 [cO h 3 [.int (nI nb), .ref m1, .ref m2, .ref m3, .ref m4, .int (nI dn), .ref m5, .ref m6, .long (tg T)], cI E m1 4 (mN n), cI E m2 32 (gl (va_up K j K2)), cI E m3 32 (gl (va_up F j F2)), cI E m4 32 (gl (va_up G j G2)), cI E m5 12 D, cJ E m6 6 (tv T)] 12 [(2, .int (nI q)), (0, .ref h), (1, .int (nI j))] [] := by
  intro d
  induction d with
  | zero =>
    intro q K2 F2 G2 h1 h2 h3 h4
    have hnj := hn j
    simp only [revF] at h2 h3 h4
    refine g_iconst Z dX3_turn_12 zi_2 ?_
    refine g_iload_n Z dX3_turn_13 0 rfl rfl ?_
    refine g_imulE (z := nI (2 * q)) Z dX3_turn_14 (pk_mul 2 q) ?_
    refine g_aload_n Z dX3_turn_15 1 rfl rfl ?_
    refine g_get Z dX3_turn_16 0 rfl rfl nX3_turn_X3 1 (by decide) fX3_turn_13 rfl ?_
    refine g_iload_n Z dX3_turn_19 2 rfl rfl ?_
    refine g_ialdE (v := nI (n j)) Z dX3_turn_20 1 rfl j rfl (by omega) rfl rfl ?_
    refine g_iconst Z dX3_turn_21 zi_1 ?_
    refine g_isubE (z := nI (n j - 1)) Z dX3_turn_22 (pk_sub (a := n j) (b := 1) (by omega)) ?_
    refine g_icmpN_ge (tgt := 118) Z dX3_turn_23 (by decide) (2 * q) (n j - 1) rfl rfl (by omega) (by omega) (fun c_23 => ?_) (fun c_23 => absurd c_23 (by omega))
    refine g_aload_n Z dX3_turn_118 1 rfl rfl ?_
    refine g_get Z dX3_turn_119 0 rfl rfl nX3_turn_X3 1 (by decide) fX3_turn_13 rfl ?_
    refine g_iload_n Z dX3_turn_122 2 rfl rfl ?_
    refine g_ialdE (v := nI (n j)) Z dX3_turn_123 1 rfl j rfl (by omega) rfl rfl ?_
    exact g_iret Z dX3_turn_124 rfl ⟨Nat.zero_le _, Nat.zero_le _⟩ ⟨rfl, by rw [h2, h3, h4]⟩
  | succ d ih =>
    intro q K2 F2 G2 h1 h2 h3 h4
    have hnj := hn j
    simp only [revF] at h2 h3 h4
    refine g_iconst Z dX3_turn_12 zi_2 ?_
    refine g_iload_n Z dX3_turn_13 0 rfl rfl ?_
    refine g_imulE (z := nI (2 * q)) Z dX3_turn_14 (pk_mul 2 q) ?_
    refine g_aload_n Z dX3_turn_15 1 rfl rfl ?_
    refine g_get Z dX3_turn_16 0 rfl rfl nX3_turn_X3 1 (by decide) fX3_turn_13 rfl ?_
    refine g_iload_n Z dX3_turn_19 2 rfl rfl ?_
    refine g_ialdE (v := nI (n j)) Z dX3_turn_20 1 rfl j rfl (by omega) rfl rfl ?_
    refine g_iconst Z dX3_turn_21 zi_1 ?_
    refine g_isubE (z := nI (n j - 1)) Z dX3_turn_22 (pk_sub (a := n j) (b := 1) (by omega)) ?_
    refine g_icmpN_ge (tgt := 118) Z dX3_turn_23 (by decide) (2 * q) (n j - 1) rfl rfl (by omega) (by omega) (fun c_23 => absurd c_23 (by omega)) (fun c_23 => ?_)
    refine g_bipush Z dX3_turn_26 zb_8 ?_
    refine g_iload_n Z dX3_turn_28 2 rfl rfl ?_
    refine g_imulE (z := nI (8 * j)) Z dX3_turn_29 (pk_mul 8 j) ?_
    refine g_iload_n Z dX3_turn_30 0 rfl rfl ?_
    refine g_iaddE (z := nI (8 * j + q)) Z dX3_turn_31 (nI_add (8 * j) q) ?_
    refine g_istore_n (lv' := [(3, .int (nI (8 * j + q))), (2, .int (nI q)), (0, .ref h), (1, .int (nI j))]) Z dX3_turn_32 rfl (by decide) rfl ?_
    refine g_bipush Z dX3_turn_33 zb_8 ?_
    refine g_iload_n Z dX3_turn_35 3 rfl rfl ?_
    refine g_imulE (z := nI (8 * j)) Z dX3_turn_36 (pk_mul 8 j) ?_
    refine g_aload_n Z dX3_turn_37 2 rfl rfl ?_
    refine g_get Z dX3_turn_38 0 rfl rfl nX3_turn_X3 1 (by decide) fX3_turn_13 rfl ?_
    refine g_iload_n Z dX3_turn_41 3 rfl rfl ?_
    refine g_ialdE (v := nI (n j)) Z dX3_turn_42 1 rfl j rfl (by omega) rfl rfl ?_
    refine g_iaddE (z := nI (8 * j + (n j))) Z dX3_turn_43 (nI_add (8 * j) (n j)) ?_
    refine g_iconst Z dX3_turn_44 zi_1 ?_
    refine g_isub Z dX3_turn_45 ?_
    refine g_iload_n Z dX3_turn_46 1 rfl rfl ?_
    refine g_isubE (z := nI (8 * j + (n j - 1 - q))) Z dX3_turn_47 (z_rev (by omega)) ?_
    refine g_istore (lv' := [(4, .int (nI (8 * j + (n j - 1 - q)))), (3, .int (nI (8 * j + q))), (2, .int (nI q)), (0, .ref h), (1, .int (nI j))]) Z dX3_turn_48 (by decide) rfl ?_
    refine g_aload_n Z dX3_turn_50 3 rfl rfl ?_
    refine g_get Z dX3_turn_51 0 rfl rfl nX3_turn_X3 2 (by decide) fX3_turn_17 rfl ?_
    refine g_iload_n Z dX3_turn_54 1 rfl rfl ?_
    refine g_ialdE (v := K2 q) Z dX3_turn_55 2 rfl (8 * j + q) rfl (by omega) rfl (gl_atU _ _ (j := j) (p := q) (by omega) (by omega)) ?_
    refine g_istore (lv' := [(5, .int (K2 q)), (4, .int (nI (8 * j + (n j - 1 - q)))), (3, .int (nI (8 * j + q))), (2, .int (nI q)), (0, .ref h), (1, .int (nI j))]) Z dX3_turn_56 (by decide) rfl ?_
    refine g_aload_n Z dX3_turn_58 4 rfl rfl ?_
    refine g_get Z dX3_turn_59 0 rfl rfl nX3_turn_X3 3 (by decide) fX3_turn_20 rfl ?_
    refine g_iload_n Z dX3_turn_62 2 rfl rfl ?_
    refine g_ialdE (v := F2 q) Z dX3_turn_63 3 rfl (8 * j + q) rfl (by omega) rfl (gl_atU _ _ (j := j) (p := q) (by omega) (by omega)) ?_
    refine g_istore (lv' := [(6, .int (F2 q)), (5, .int (K2 q)), (4, .int (nI (8 * j + (n j - 1 - q)))), (3, .int (nI (8 * j + q))), (2, .int (nI q)), (0, .ref h), (1, .int (nI j))]) Z dX3_turn_64 (by decide) rfl ?_
    refine g_aload_n Z dX3_turn_66 5 rfl rfl ?_
    refine g_get Z dX3_turn_67 0 rfl rfl nX3_turn_X3 4 (by decide) fX3_turn_23 rfl ?_
    refine g_iload_n Z dX3_turn_70 3 rfl rfl ?_
    refine g_ialdE (v := G2 q) Z dX3_turn_71 4 rfl (8 * j + q) rfl (by omega) rfl (gl_atU _ _ (j := j) (p := q) (by omega) (by omega)) ?_
    refine g_istore (lv' := [(7, .int (G2 q)), (6, .int (F2 q)), (5, .int (K2 q)), (4, .int (nI (8 * j + (n j - 1 - q)))), (3, .int (nI (8 * j + q))), (2, .int (nI q)), (0, .ref h), (1, .int (nI j))]) Z dX3_turn_72 (by decide) rfl ?_
    refine g_aload_n Z dX3_turn_74 6 rfl rfl ?_
    refine g_iload_n Z dX3_turn_75 4 rfl rfl ?_
    refine g_aload_n Z dX3_turn_76 6 rfl rfl ?_
    refine g_get Z dX3_turn_77 0 rfl rfl nX3_turn_X3 2 (by decide) fX3_turn_17 rfl ?_
    refine g_iload Z dX3_turn_80 3 rfl ?_
    refine g_ialdE (v := K2 ((n j - 1 - q))) Z dX3_turn_82 2 rfl (8 * j + (n j - 1 - q)) rfl (by omega) rfl (gl_atU _ _ (j := j) (p := (n j - 1 - q)) (by omega) (by omega)) ?_
    refine g_aload_n Z dX3_turn_83 6 rfl rfl ?_
    refine g_get Z dX3_turn_84 0 rfl rfl nX3_turn_X3 3 (by decide) fX3_turn_20 rfl ?_
    refine g_iload Z dX3_turn_87 3 rfl ?_
    refine g_ialdE (v := F2 ((n j - 1 - q))) Z dX3_turn_89 3 rfl (8 * j + (n j - 1 - q)) rfl (by omega) rfl (gl_atU _ _ (j := j) (p := (n j - 1 - q)) (by omega) (by omega)) ?_
    refine g_aload_n Z dX3_turn_90 6 rfl rfl ?_
    refine g_get Z dX3_turn_91 0 rfl rfl nX3_turn_X3 4 (by decide) fX3_turn_23 rfl ?_
    refine g_iload Z dX3_turn_94 3 rfl ?_
    refine g_ialdE (v := G2 ((n j - 1 - q))) Z dX3_turn_96 4 rfl (8 * j + (n j - 1 - q)) rfl (by omega) rfl (gl_atU _ _ (j := j) (p := (n j - 1 - q)) (by omega) (by omega)) ?_
    refine g_callVx (w' := [cO h 3 [.int (nI nb), .ref m1, .ref m2, .ref m3, .ref m4, .int (nI dn), .ref m5, .ref m6, .long (tg T)], cI E m1 4 (mN n), cI E m2 32 (gl (va_up K j (upd K2 q (K2 ((n j - 1 - q)))))), cI E m3 32 (gl (va_up F j (upd F2 q (F2 ((n j - 1 - q)))))), cI E m4 32 (gl (va_up G j (upd G2 q (G2 ((n j - 1 - q)))))), cI E m5 12 D, cJ E m6 6 (tv T)]) Z (qX3_lay E h m1 m2 m3 m4 m5 m6 nb dn n K F G D T K2 F2 G2 j q (8 * j + q) (K2 ((n j - 1 - q))) (F2 ((n j - 1 - q))) (G2 ((n j - 1 - q))) (by omega) (by omega) (by omega)) iX3_lay gX3_turn_X3_lay ⟨rfl, rfl⟩ ⟨Nat.le_of_ble_eq_true rfl, Nat.le_of_ble_eq_true rfl⟩ dX3_turn_97 rfl rfl (Nat.le_of_ble_eq_true rfl) ⟨Nat.zero_le _, Nat.zero_le _⟩ [0, 1, 2, 3, 4, 5, 6] rfl rfl 0 rfl rfl rfl rfl rfl ?_
    refine g_aload_n Z dX3_turn_100 6 rfl rfl ?_
    refine g_iload Z dX3_turn_101 3 rfl ?_
    refine g_iload Z dX3_turn_103 2 rfl ?_
    refine g_iload Z dX3_turn_105 1 rfl ?_
    refine g_iload Z dX3_turn_107 0 rfl ?_
    refine g_callVx (w' := [cO h 3 [.int (nI nb), .ref m1, .ref m2, .ref m3, .ref m4, .int (nI dn), .ref m5, .ref m6, .long (tg T)], cI E m1 4 (mN n), cI E m2 32 (gl (va_up K j (upd (upd K2 q (K2 ((n j - 1 - q)))) (n j - 1 - q) (K2 q)))), cI E m3 32 (gl (va_up F j (upd (upd F2 q (F2 ((n j - 1 - q)))) (n j - 1 - q) (F2 q)))), cI E m4 32 (gl (va_up G j (upd (upd G2 q (G2 ((n j - 1 - q)))) (n j - 1 - q) (G2 q)))), cI E m5 12 D, cJ E m6 6 (tv T)]) Z (qX3_lay E h m1 m2 m3 m4 m5 m6 nb dn n K F G D T (upd K2 q (K2 ((n j - 1 - q)))) (upd F2 q (F2 ((n j - 1 - q)))) (upd G2 q (G2 ((n j - 1 - q)))) j (n j - 1 - q) (8 * j + (n j - 1 - q)) (K2 q) (F2 q) (G2 q) (by omega) (by omega) (by omega)) iX3_lay gX3_turn_X3_lay ⟨rfl, rfl⟩ ⟨Nat.le_of_ble_eq_true rfl, Nat.le_of_ble_eq_true rfl⟩ dX3_turn_109 rfl rfl (Nat.le_of_ble_eq_true rfl) ⟨Nat.zero_le _, Nat.zero_le _⟩ [0, 1, 2, 3, 4, 5, 6] rfl rfl 0 rfl rfl rfl rfl rfl ?_
    refine g_iinc (lv' := [(2, .int (nI (q + 1))), (7, .int (G2 q)), (6, .int (F2 q)), (5, .int (K2 q)), (4, .int (nI (8 * j + (n j - 1 - q)))), (3, .int (nI (8 * j + q))), (0, .ref h), (1, .int (nI j))]) Z dX3_turn_112 5 rfl (zinc _) (by decide) rfl ?_
    refine g_goto (tgt := 12) Z dX3_turn_115 (by decide) ?_
    refine g_lv (lv2 := [(2, .int (nI (q + 1))), (0, .ref h), (1, .int (nI j))]) Z [0, 6, 7] rfl ?_
    exact ih (q + 1) _ _ _ (by omega) h2 h3 h4
set_option maxHeartbeats 4000000 in
set_option maxRecDepth 100000 in
theorem qX3_turn (E : zE) (h m1 m2 m3 m4 m5 m6 : Nat) (nb dn : Nat) (n : Nat → Nat) (K F G : Nat → Nat → Int32) (D : Nat → Int32) (T : TB) (j : Nat) (hnb : nb ≤ 4) (hn : ∀ b, n b ≤ 8) (hj : j < nb) : zF E yX3_turn wsX3_turn rX3_turn [.ref h, .int (nI j)] [cO h 3 [.int (nI nb), .ref m1, .ref m2, .ref m3, .ref m4, .int (nI dn), .ref m5, .ref m6, .long (tg T)], cI E m1 4 (mN n), cI E m2 32 (gl K), cI E m3 32 (gl F), cI E m4 32 (gl G), cI E m5 12 D, cJ E m6 6 (tv T)] (zx (some (.int (nI (n j)))) ([cO h 3 [.int (nI nb), .ref m1, .ref m2, .ref m3, .ref m4, .int (nI dn), .ref m5, .ref m6, .long (tg T)], cI E m1 4 (mN n), cI E m2 32 (gl (va_up K j (revF (K j) (n j) 0 (n j / 2)))), cI E m3 32 (gl (va_up F j (revF (F j) (n j) 0 (n j / 2)))), cI E m4 32 (gl (va_up G j (revF (G j) (n j) 0 (n j / 2)))), cI E m5 12 D, cJ E m6 6 (tv T)])) := by
  refine z_start RX3 "turn" (by decide) rfl rfl rfl (Nat.le_of_ble_eq_true rfl) ?_
  intro J Z
  refine g_eq Z (lv2 := [(0, .ref h), (1, .int (nI j))]) rfl rfl rfl ?_
  have hnj := hn j
  rcases Nat.eq_zero_or_pos (n j) with e_0 | e_0
  · refine g_aload_n Z dX3_turn_0 0 rfl rfl ?_
    refine g_iload_n Z dX3_turn_1 1 rfl rfl ?_
    refine g_callVx (w' := [cO h 3 [.int (nI nb), .ref m1, .ref m2, .ref m3, .ref m4, .int (nI dn), .ref m5, .ref m6, .long (tg T)], cI E m1 4 (mN n), cI E m2 32 (gl K), cI E m3 32 (gl F), cI E m4 32 (gl G), cI E m5 12 D, cJ E m6 6 (tv T)]) Z (qX3_isBench E h m1 m2 m3 m4 m5 m6 nb dn T (nI j) (by omega)) iX3_isBench gX3_turn_X3_isBench ⟨rfl, rfl⟩ ⟨Nat.le_of_ble_eq_true rfl, Nat.le_of_ble_eq_true rfl⟩ dX3_turn_2 rfl rfl (Nat.le_of_ble_eq_true rfl) ⟨Nat.zero_le _, Nat.zero_le _⟩ [0] rfl rfl 0 rfl rfl rfl rfl rfl ?_
    refine g_ifb_ne (tgt := 10) Z dX3_turn_5 (by decide) (fun c_5 => ?_) (fun c_5 => absurd c_5 (fun q => q (inB_nI hj (by omega))))
    refine g_iconst Z dX3_turn_10 zi_0 ?_
    refine g_istore_n (lv' := [(2, .int 0), (0, .ref h), (1, .int (nI j))]) Z dX3_turn_11 rfl (by decide) rfl ?_
    refine g_iconst Z dX3_turn_12 zi_2 ?_
    refine g_iload_n Z dX3_turn_13 0 rfl rfl ?_
    refine g_imul Z dX3_turn_14 ?_
    refine g_aload_n Z dX3_turn_15 1 rfl rfl ?_
    refine g_get Z dX3_turn_16 0 rfl rfl nX3_turn_X3 1 (by decide) fX3_turn_13 rfl ?_
    refine g_iload_n Z dX3_turn_19 2 rfl rfl ?_
    refine g_ialdE (v := nI (n j)) Z dX3_turn_20 1 rfl j rfl (by omega) rfl rfl ?_
    refine g_iconst Z dX3_turn_21 zi_1 ?_
    refine g_isub Z dX3_turn_22 ?_
    refine g_icmp_ge (tgt := 118) Z dX3_turn_23 (by decide) (fun c_23 => ?_) (fun c_23 => absurd c_23 (by rw [e_0]; decide))
    refine g_aload_n Z dX3_turn_118 1 rfl rfl ?_
    refine g_get Z dX3_turn_119 0 rfl rfl nX3_turn_X3 1 (by decide) fX3_turn_13 rfl ?_
    refine g_iload_n Z dX3_turn_122 2 rfl rfl ?_
    refine g_ialdE (v := nI (n j)) Z dX3_turn_123 1 rfl j rfl (by omega) rfl rfl ?_
    exact g_iret Z dX3_turn_124 rfl ⟨Nat.zero_le _, Nat.zero_le _⟩ ⟨rfl, by rw [e_0]; simp [revF, vu_self]⟩
  · refine g_aload_n Z dX3_turn_0 0 rfl rfl ?_
    refine g_iload_n Z dX3_turn_1 1 rfl rfl ?_
    refine g_callVx (w' := [cO h 3 [.int (nI nb), .ref m1, .ref m2, .ref m3, .ref m4, .int (nI dn), .ref m5, .ref m6, .long (tg T)], cI E m1 4 (mN n), cI E m2 32 (gl K), cI E m3 32 (gl F), cI E m4 32 (gl G), cI E m5 12 D, cJ E m6 6 (tv T)]) Z (qX3_isBench E h m1 m2 m3 m4 m5 m6 nb dn T (nI j) (by omega)) iX3_isBench gX3_turn_X3_isBench ⟨rfl, rfl⟩ ⟨Nat.le_of_ble_eq_true rfl, Nat.le_of_ble_eq_true rfl⟩ dX3_turn_2 rfl rfl (Nat.le_of_ble_eq_true rfl) ⟨Nat.zero_le _, Nat.zero_le _⟩ [0] rfl rfl 0 rfl rfl rfl rfl rfl ?_
    refine g_ifb_ne (tgt := 10) Z dX3_turn_5 (by decide) (fun c_5 => ?_) (fun c_5 => absurd c_5 (fun q => q (inB_nI hj (by omega))))
    refine g_eq Z (w2 := [cO h 3 [.int (nI nb), .ref m1, .ref m2, .ref m3, .ref m4, .int (nI dn), .ref m5, .ref m6, .long (tg T)], cI E m1 4 (mN n), cI E m2 32 (gl (va_up K j (K j))), cI E m3 32 (gl (va_up F j (F j))), cI E m4 32 (gl (va_up G j (G j))), cI E m5 12 D, cJ E m6 6 (tv T)]) (by simp only [vu_self]) rfl rfl ?_
    refine g_iconst Z dX3_turn_10 zi_0 ?_
    refine g_istore_n (lv' := [(2, .int 0), (0, .ref h), (1, .int (nI j))]) Z dX3_turn_11 rfl (by decide) rfl ?_
    exact lX3_turn E h m1 m2 m3 m4 m5 m6 nb dn n K F G D T j hnb hn hj Z e_0 (n j / 2) 0 (K j) (F j) (G j) (by omega) rfl rfl rfl

abbrev rX3_join : Room := { frames := 2, cells := 0, slots := 0, locals := 44 }
theorem iX3_join : zInfo yX3_join wsX3_join RX3 5 (some .int) 2 := ⟨_, _, rfl, by decide +kernel⟩
set_option maxHeartbeats 4000000 in
set_option maxRecDepth 100000 in
theorem qX3_joinN (E : zE) (h m1 m2 m3 m4 m5 m6 : Nat) (nb dn : Nat) (n : Nat → Nat) (K F G : Nat → Nat → Int32) (D : Nat → Int32) (T : TB) (b i : Int32) (hnb : nb ≤ 4) (hn : ∀ b, n b ≤ 8) (hv : ¬ (inB nb b ∧ inB nb i)) : zF E yX3_join wsX3_join rX3_join [.ref h, .int b, .int i] [cO h 3 [.int (nI nb), .ref m1, .ref m2, .ref m3, .ref m4, .int (nI dn), .ref m5, .ref m6, .long (tg T)], cI E m1 4 (mN n), cI E m2 32 (gl K), cI E m3 32 (gl F), cI E m4 32 (gl G), cI E m5 12 D, cJ E m6 6 (tv T)] (zx (some (.int (-1))) ([cO h 3 [.int (nI nb), .ref m1, .ref m2, .ref m3, .ref m4, .int (nI dn), .ref m5, .ref m6, .long (tg T)], cI E m1 4 (mN n), cI E m2 32 (gl K), cI E m3 32 (gl F), cI E m4 32 (gl G), cI E m5 12 D, cJ E m6 6 (tv T)])) := by
  refine z_start RX3 "join" (by decide) rfl rfl rfl (Nat.le_of_ble_eq_true rfl) ?_
  intro J Z
  refine g_eq Z (lv2 := [(0, .ref h), (1, .int b), (2, .int i)]) rfl rfl rfl ?_
  refine g_aload_n Z dX3_join_0 0 rfl rfl ?_
  refine g_iload_n Z dX3_join_1 1 rfl rfl ?_
  refine g_callVx (w' := [cO h 3 [.int (nI nb), .ref m1, .ref m2, .ref m3, .ref m4, .int (nI dn), .ref m5, .ref m6, .long (tg T)], cI E m1 4 (mN n), cI E m2 32 (gl K), cI E m3 32 (gl F), cI E m4 32 (gl G), cI E m5 12 D, cJ E m6 6 (tv T)]) Z (qX3_isBench E h m1 m2 m3 m4 m5 m6 nb dn T b (by omega)) iX3_isBench gX3_join_X3_isBench ⟨rfl, rfl⟩ ⟨Nat.le_of_ble_eq_true rfl, Nat.le_of_ble_eq_true rfl⟩ dX3_join_2 rfl rfl (Nat.le_of_ble_eq_true rfl) ⟨Nat.zero_le _, Nat.zero_le _⟩ [0] rfl rfl 0 rfl rfl rfl rfl rfl ?_
  refine g_ifb_eq (tgt := 16) Z dX3_join_5 (by decide) (fun c_5 => ?_) (fun c_5 => ?_)
  · refine g_iconst Z dX3_join_16 zi_m1 ?_
    exact g_iret Z dX3_join_17 rfl ⟨Nat.zero_le _, Nat.zero_le _⟩ ⟨rfl, rfl⟩
  · refine g_aload_n Z dX3_join_8 0 rfl rfl ?_
    refine g_iload_n Z dX3_join_9 2 rfl rfl ?_
    refine g_callVx (w' := [cO h 3 [.int (nI nb), .ref m1, .ref m2, .ref m3, .ref m4, .int (nI dn), .ref m5, .ref m6, .long (tg T)], cI E m1 4 (mN n), cI E m2 32 (gl K), cI E m3 32 (gl F), cI E m4 32 (gl G), cI E m5 12 D, cJ E m6 6 (tv T)]) Z (qX3_isBench E h m1 m2 m3 m4 m5 m6 nb dn T i (by omega)) iX3_isBench gX3_join_X3_isBench ⟨rfl, rfl⟩ ⟨Nat.le_of_ble_eq_true rfl, Nat.le_of_ble_eq_true rfl⟩ dX3_join_10 rfl rfl (Nat.le_of_ble_eq_true rfl) ⟨Nat.zero_le _, Nat.zero_le _⟩ [0] rfl rfl 0 rfl rfl rfl rfl rfl ?_
    refine g_ifb_ne (tgt := 18) Z dX3_join_13 (by decide) (fun c_13 => ?_) (fun c_13 => ?_)
    · exact absurd ⟨c_5, c_13⟩ hv
    · refine g_iconst Z dX3_join_16 zi_m1 ?_
      exact g_iret Z dX3_join_17 rfl ⟨Nat.zero_le _, Nat.zero_le _⟩ ⟨rfl, rfl⟩

theorem nX3_join_X3 : ∀ w ∈ wsX30, w ∈ wsX3_join := by decide +kernel
theorem fX3_join_13 : Cond.fieldLink RX3 13 (TX3 1).1 (TX3 1).2.1 (TX3 1).2.2.1 ∈ wsX3_join := by decide +kernel
set_option maxHeartbeats 4000000 in
set_option maxRecDepth 100000 in
theorem qX3_joinF (E : zE) (h m1 m2 m3 m4 m5 m6 : Nat) (nb dn : Nat) (n : Nat → Nat) (K F G : Nat → Nat → Int32) (D : Nat → Int32) (T : TB) (j o : Nat) (hnb : nb ≤ 4) (hn : ∀ b, n b ≤ 8) (hj : j < nb) (ho : o < nb) (hf : 8 < n j + n o ∨ 3 < nBent (K j) (n j) + nBent (K o) (n o) ∨ 2 < nTilt (K j) (n j) + nTilt (K o) (n o)) : zF E yX3_join wsX3_join rX3_join [.ref h, .int (nI j), .int (nI o)] [cO h 3 [.int (nI nb), .ref m1, .ref m2, .ref m3, .ref m4, .int (nI dn), .ref m5, .ref m6, .long (tg T)], cI E m1 4 (mN n), cI E m2 32 (gl K), cI E m3 32 (gl F), cI E m4 32 (gl G), cI E m5 12 D, cJ E m6 6 (tv T)] (zx (some (.int (-4))) ([cO h 3 [.int (nI nb), .ref m1, .ref m2, .ref m3, .ref m4, .int (nI dn), .ref m5, .ref m6, .long (tg T)], cI E m1 4 (mN n), cI E m2 32 (gl K), cI E m3 32 (gl F), cI E m4 32 (gl G), cI E m5 12 D, cJ E m6 6 (tv T)])) := by
  refine z_start RX3 "join" (by decide) rfl rfl rfl (Nat.le_of_ble_eq_true rfl) ?_
  intro J Z
  refine g_eq Z (lv2 := [(0, .ref h), (1, .int (nI j)), (2, .int (nI o))]) rfl rfl rfl ?_
  have hnj := hn j
  have hno := hn o
  have hb1 := nBent_le (K j) (n j)
  have hb2 := nTilt_le (K j) (n j)
  have hb3 := nBent_le (K o) (n o)
  have hb4 := nTilt_le (K o) (n o)
  refine g_aload_n Z dX3_join_0 0 rfl rfl ?_
  refine g_iload_n Z dX3_join_1 1 rfl rfl ?_
  refine g_callVx (w' := [cO h 3 [.int (nI nb), .ref m1, .ref m2, .ref m3, .ref m4, .int (nI dn), .ref m5, .ref m6, .long (tg T)], cI E m1 4 (mN n), cI E m2 32 (gl K), cI E m3 32 (gl F), cI E m4 32 (gl G), cI E m5 12 D, cJ E m6 6 (tv T)]) Z (qX3_isBench E h m1 m2 m3 m4 m5 m6 nb dn T (nI j) (by omega)) iX3_isBench gX3_join_X3_isBench ⟨rfl, rfl⟩ ⟨Nat.le_of_ble_eq_true rfl, Nat.le_of_ble_eq_true rfl⟩ dX3_join_2 rfl rfl (Nat.le_of_ble_eq_true rfl) ⟨Nat.zero_le _, Nat.zero_le _⟩ [0] rfl rfl 0 rfl rfl rfl rfl rfl ?_
  refine g_ifb_eq (tgt := 16) Z dX3_join_5 (by decide) (fun c_5 => absurd c_5 (fun q => q (inB_nI hj (by omega)))) (fun c_5 => ?_)
  refine g_aload_n Z dX3_join_8 0 rfl rfl ?_
  refine g_iload_n Z dX3_join_9 2 rfl rfl ?_
  refine g_callVx (w' := [cO h 3 [.int (nI nb), .ref m1, .ref m2, .ref m3, .ref m4, .int (nI dn), .ref m5, .ref m6, .long (tg T)], cI E m1 4 (mN n), cI E m2 32 (gl K), cI E m3 32 (gl F), cI E m4 32 (gl G), cI E m5 12 D, cJ E m6 6 (tv T)]) Z (qX3_isBench E h m1 m2 m3 m4 m5 m6 nb dn T (nI o) (by omega)) iX3_isBench gX3_join_X3_isBench ⟨rfl, rfl⟩ ⟨Nat.le_of_ble_eq_true rfl, Nat.le_of_ble_eq_true rfl⟩ dX3_join_10 rfl rfl (Nat.le_of_ble_eq_true rfl) ⟨Nat.zero_le _, Nat.zero_le _⟩ [0] rfl rfl 0 rfl rfl rfl rfl rfl ?_
  refine g_ifb_ne (tgt := 18) Z dX3_join_13 (by decide) (fun c_13 => ?_) (fun c_13 => absurd c_13 (fun q => q (inB_nI ho (by omega))))
  refine g_aload_n Z dX3_join_18 0 rfl rfl ?_
  refine g_get Z dX3_join_19 0 rfl rfl nX3_join_X3 1 (by decide) fX3_join_13 rfl ?_
  refine g_iload_n Z dX3_join_22 1 rfl rfl ?_
  refine g_ialdE (v := nI (n j)) Z dX3_join_23 1 rfl j rfl (by omega) rfl rfl ?_
  refine g_aload_n Z dX3_join_24 0 rfl rfl ?_
  refine g_get Z dX3_join_25 0 rfl rfl nX3_join_X3 1 (by decide) fX3_join_13 rfl ?_
  refine g_iload_n Z dX3_join_28 2 rfl rfl ?_
  refine g_ialdE (v := nI (n o)) Z dX3_join_29 1 rfl o rfl (by omega) rfl rfl ?_
  refine g_iaddE (z := nI (n j + (n o))) Z dX3_join_30 (nI_add (n j) (n o)) ?_
  refine g_bipush Z dX3_join_31 zb_8 ?_
  refine g_icmpN_gt (tgt := 66) Z dX3_join_33 (by decide) (n j + (n o)) 8 rfl rfl (by omega) (by omega) (fun c_33 => ?_) (fun c_33 => ?_)
  · refine g_bipush Z dX3_join_66 zb_m4 ?_
    exact g_iret Z dX3_join_68 rfl ⟨Nat.zero_le _, Nat.zero_le _⟩ ⟨rfl, rfl⟩
  · refine g_aload_n Z dX3_join_36 0 rfl rfl ?_
    refine g_iload_n Z dX3_join_37 1 rfl rfl ?_
    refine g_callVx (w' := [cO h 3 [.int (nI nb), .ref m1, .ref m2, .ref m3, .ref m4, .int (nI dn), .ref m5, .ref m6, .long (tg T)], cI E m1 4 (mN n), cI E m2 32 (gl K), cI E m3 32 (gl F), cI E m4 32 (gl G), cI E m5 12 D, cJ E m6 6 (tv T)]) Z (qX3_bent E h m1 m2 m3 m4 m5 m6 nb dn n K F G D T j hnb hn (by omega)) iX3_bent gX3_join_X3_bent ⟨rfl, rfl⟩ ⟨Nat.le_of_ble_eq_true rfl, Nat.le_of_ble_eq_true rfl⟩ dX3_join_38 rfl rfl (Nat.le_of_ble_eq_true rfl) ⟨Nat.zero_le _, Nat.zero_le _⟩ [0, 1, 2, 3, 4, 5, 6] rfl rfl 0 rfl rfl rfl rfl rfl ?_
    refine g_aload_n Z dX3_join_41 0 rfl rfl ?_
    refine g_iload_n Z dX3_join_42 2 rfl rfl ?_
    refine g_callVx (w' := [cO h 3 [.int (nI nb), .ref m1, .ref m2, .ref m3, .ref m4, .int (nI dn), .ref m5, .ref m6, .long (tg T)], cI E m1 4 (mN n), cI E m2 32 (gl K), cI E m3 32 (gl F), cI E m4 32 (gl G), cI E m5 12 D, cJ E m6 6 (tv T)]) Z (qX3_bent E h m1 m2 m3 m4 m5 m6 nb dn n K F G D T o hnb hn (by omega)) iX3_bent gX3_join_X3_bent ⟨rfl, rfl⟩ ⟨Nat.le_of_ble_eq_true rfl, Nat.le_of_ble_eq_true rfl⟩ dX3_join_43 rfl rfl (Nat.le_of_ble_eq_true rfl) ⟨Nat.zero_le _, Nat.zero_le _⟩ [0, 1, 2, 3, 4, 5, 6] rfl rfl 0 rfl rfl rfl rfl rfl ?_
    refine g_iaddE (z := nI (nBent (K j) (n j) + (nBent (K o) (n o)))) Z dX3_join_46 (nI_add (nBent (K j) (n j)) (nBent (K o) (n o))) ?_
    refine g_iconst Z dX3_join_47 zi_3 ?_
    refine g_icmpN_gt (tgt := 66) Z dX3_join_48 (by decide) (nBent (K j) (n j) + (nBent (K o) (n o))) 3 rfl rfl (by omega) (by omega) (fun c_48 => ?_) (fun c_48 => ?_)
    · refine g_bipush Z dX3_join_66 zb_m4 ?_
      exact g_iret Z dX3_join_68 rfl ⟨Nat.zero_le _, Nat.zero_le _⟩ ⟨rfl, rfl⟩
    · refine g_aload_n Z dX3_join_51 0 rfl rfl ?_
      refine g_iload_n Z dX3_join_52 1 rfl rfl ?_
      refine g_callVx (w' := [cO h 3 [.int (nI nb), .ref m1, .ref m2, .ref m3, .ref m4, .int (nI dn), .ref m5, .ref m6, .long (tg T)], cI E m1 4 (mN n), cI E m2 32 (gl K), cI E m3 32 (gl F), cI E m4 32 (gl G), cI E m5 12 D, cJ E m6 6 (tv T)]) Z (qX3_tilts E h m1 m2 m3 m4 m5 m6 nb dn n K F G D T j hnb hn (by omega)) iX3_tilts gX3_join_X3_tilts ⟨rfl, rfl⟩ ⟨Nat.le_of_ble_eq_true rfl, Nat.le_of_ble_eq_true rfl⟩ dX3_join_53 rfl rfl (Nat.le_of_ble_eq_true rfl) ⟨Nat.zero_le _, Nat.zero_le _⟩ [0, 1, 2, 3, 4, 5, 6] rfl rfl 0 rfl rfl rfl rfl rfl ?_
      refine g_aload_n Z dX3_join_56 0 rfl rfl ?_
      refine g_iload_n Z dX3_join_57 2 rfl rfl ?_
      refine g_callVx (w' := [cO h 3 [.int (nI nb), .ref m1, .ref m2, .ref m3, .ref m4, .int (nI dn), .ref m5, .ref m6, .long (tg T)], cI E m1 4 (mN n), cI E m2 32 (gl K), cI E m3 32 (gl F), cI E m4 32 (gl G), cI E m5 12 D, cJ E m6 6 (tv T)]) Z (qX3_tilts E h m1 m2 m3 m4 m5 m6 nb dn n K F G D T o hnb hn (by omega)) iX3_tilts gX3_join_X3_tilts ⟨rfl, rfl⟩ ⟨Nat.le_of_ble_eq_true rfl, Nat.le_of_ble_eq_true rfl⟩ dX3_join_58 rfl rfl (Nat.le_of_ble_eq_true rfl) ⟨Nat.zero_le _, Nat.zero_le _⟩ [0, 1, 2, 3, 4, 5, 6] rfl rfl 0 rfl rfl rfl rfl rfl ?_
      refine g_iaddE (z := nI (nTilt (K j) (n j) + (nTilt (K o) (n o)))) Z dX3_join_61 (nI_add (nTilt (K j) (n j)) (nTilt (K o) (n o))) ?_
      refine g_iconst Z dX3_join_62 zi_2 ?_
      refine g_icmpN_le (tgt := 69) Z dX3_join_63 (by decide) (nTilt (K j) (n j) + (nTilt (K o) (n o))) 2 rfl rfl (by omega) (by omega) (fun c_63 => ?_) (fun c_63 => ?_)
      · exact absurd hf (by omega)
      · refine g_bipush Z dX3_join_66 zb_m4 ?_
        exact g_iret Z dX3_join_68 rfl ⟨Nat.zero_le _, Nat.zero_le _⟩ ⟨rfl, rfl⟩

theorem fX3_join_17 : Cond.fieldLink RX3 17 (TX3 2).1 (TX3 2).2.1 (TX3 2).2.2.1 ∈ wsX3_join := by decide +kernel
theorem fX3_join_20 : Cond.fieldLink RX3 20 (TX3 3).1 (TX3 3).2.1 (TX3 3).2.2.1 ∈ wsX3_join := by decide +kernel
theorem fX3_join_23 : Cond.fieldLink RX3 23 (TX3 4).1 (TX3 4).2.1 (TX3 4).2.2.1 ∈ wsX3_join := by decide +kernel
set_option maxHeartbeats 4000000 in
set_option maxRecDepth 100000 in
theorem lX3_join (E : zE) (h m1 m2 m3 m4 m5 m6 : Nat) (nb dn : Nat) (n : Nat → Nat) (K F G : Nat → Nat → Int32) (D : Nat → Int32) (T : TB) (j o : Nat) (hnb : nb ≤ 4) (hn : ∀ b, n b ≤ 8) (hj : j < nb) (ho : o < nb) (hf : ¬ (8 < n j + n o ∨ 3 < nBent (K j) (n j) + nBent (K o) (n o) ∨ 2 < nTilt (K j) (n j) + nTilt (K o) (n o))) {J : zJ} (Z : zOk E J RX3 cX3_join 5 (some .int) wsX3_join rX3_join "join" (fun _ => True) (zx (some (.int (nI (n j + n o)))) ([cO h 3 [.int (nI nb), .ref m1, .ref m2, .ref m3, .ref m4, .int (nI dn), .ref m5, .ref m6, .long (tg T)], cI E m1 4 (mN (va_up n j (n j + n o))), cI E m2 32 (gl (va_up K j (appF (K j) (K o) (n j) 0 (n o)))), cI E m3 32 (gl (va_up F j (appF (F j) (F o) (n j) 0 (n o)))), cI E m4 32 (gl (va_up G j (appF (G j) (G o) (n j) 0 (n o)))), cI E m5 12 D, cJ E m6 6 (tv T)]))) (h8 : n j + n o ≤ 8) : ∀ (d : Nat) (q : Nat) (K2 F2 G2 : Nat → Int32), q + d = n o → (∀ x, x < n j → K2 x = K j x) → (∀ x, x < n j → F2 x = F j x) → (∀ x, x < n j → G2 x = G j x) → appF K2 (K o) (n j + q) q d = appF (K j) (K o) (n j) 0 (n o) → appF F2 (F o) (n j + q) q d = appF (F j) (F o) (n j) 0 (n o) → appF G2 (G o) (n j + q) q d = appF (G j) (G o) (n j) 0 (n o) → J 0 0 [cO h 3 [.int (nI nb), .ref m1, .ref m2, .ref m3, .ref m4, .int (nI dn), .ref m5, .ref m6, .long (tg T)], cI E m1 4 (mN n), cI E m2 32 (gl (va_up K j K2)), cI E m3 32 (gl (va_up F j F2)), cI E m4 32 (gl (va_up G j G2)), cI E m5 12 D, cJ E m6 6 (tv T)] 79 [(4, .int (nI q)), (3, .int (nI (n o))), (0, .ref h), (1, .int (nI j)), (2, .int (nI o))] [] := by
  intro d
  induction d with
  | zero =>
    intro q K2 F2 G2 h1 h2 h3 h4 h5 h6 h7
    have hnj := hn j
    have hno := hn o
    have hb1 := nBent_le (K j) (n j)
    have hb2 := nTilt_le (K j) (n j)
    have hb3 := nBent_le (K o) (n o)
    have hb4 := nTilt_le (K o) (n o)
    simp only [appF] at h5 h6 h7
    refine g_iload Z dX3_join_79 0 rfl ?_
    refine g_iload_n Z dX3_join_81 1 rfl rfl ?_
    refine g_icmpN_ge (tgt := 145) Z dX3_join_82 (by decide) q (n o) rfl rfl (by omega) (by omega) (fun c_82 => ?_) (fun c_82 => absurd c_82 (by omega))
    refine g_aload_n Z dX3_join_145 2 rfl rfl ?_
    refine g_get Z dX3_join_146 0 rfl rfl nX3_join_X3 1 (by decide) fX3_join_13 rfl ?_
    refine g_iload_n Z dX3_join_149 3 rfl rfl ?_
    refine g_dup2_11 Z dX3_join_150 rfl rfl ?_
    refine g_ialdE (v := nI (n j)) Z dX3_join_151 1 rfl j rfl (by omega) rfl rfl ?_
    refine g_iload_n Z dX3_join_152 1 rfl rfl ?_
    refine g_iaddE (z := nI (n j + (n o))) Z dX3_join_153 (nI_add (n j) (n o)) ?_
    refine g_iastE (w' := [cO h 3 [.int (nI nb), .ref m1, .ref m2, .ref m3, .ref m4, .int (nI dn), .ref m5, .ref m6, .long (tg T)], cI E m1 4 (mN (va_up n j (n j + (n o)))), cI E m2 32 (gl (va_up K j K2)), cI E m3 32 (gl (va_up F j F2)), cI E m4 32 (gl (va_up G j G2)), cI E m5 12 D, cJ E m6 6 (tv T)]) Z dX3_join_154 1 rfl j rfl (by omega) rfl (mN_set _ _ (n j + (n o))) rfl ?_
    refine g_aload_n Z dX3_join_155 2 rfl rfl ?_
    refine g_get Z dX3_join_156 0 rfl rfl nX3_join_X3 1 (by decide) fX3_join_13 rfl ?_
    refine g_iload_n Z dX3_join_159 3 rfl rfl ?_
    refine g_ialdE (v := nI ((va_up n j (n j + (n o))) j)) Z dX3_join_160 1 rfl j rfl (by omega) rfl rfl ?_
    exact g_iret Z dX3_join_161 rfl ⟨Nat.zero_le _, Nat.zero_le _⟩ ⟨by rw [vu_at], by rw [h5, h6, h7]⟩
  | succ d ih =>
    intro q K2 F2 G2 h1 h2 h3 h4 h5 h6 h7
    have hnj := hn j
    have hno := hn o
    have hb1 := nBent_le (K j) (n j)
    have hb2 := nTilt_le (K j) (n j)
    have hb3 := nBent_le (K o) (n o)
    have hb4 := nTilt_le (K o) (n o)
    refine g_iload Z dX3_join_79 0 rfl ?_
    refine g_iload_n Z dX3_join_81 1 rfl rfl ?_
    refine g_icmpN_ge (tgt := 145) Z dX3_join_82 (by decide) q (n o) rfl rfl (by omega) (by omega) (fun c_82 => absurd c_82 (by omega)) (fun c_82 => ?_)
    refine g_aload_n Z dX3_join_85 2 rfl rfl ?_
    refine g_bipush Z dX3_join_86 zb_8 ?_
    refine g_iload_n Z dX3_join_88 3 rfl rfl ?_
    refine g_imulE (z := nI (8 * j)) Z dX3_join_89 (pk_mul 8 j) ?_
    refine g_aload_n Z dX3_join_90 2 rfl rfl ?_
    refine g_get Z dX3_join_91 0 rfl rfl nX3_join_X3 1 (by decide) fX3_join_13 rfl ?_
    refine g_iload_n Z dX3_join_94 3 rfl rfl ?_
    refine g_ialdE (v := nI (n j)) Z dX3_join_95 1 rfl j rfl (by omega) rfl rfl ?_
    refine g_iaddE (z := nI (8 * j + (n j))) Z dX3_join_96 (nI_add (8 * j) (n j)) ?_
    refine g_iload Z dX3_join_97 0 rfl ?_
    refine g_iaddE (z := nI (8 * j + (n j) + q)) Z dX3_join_99 (nI_add (8 * j + (n j)) q) ?_
    refine g_aload_n Z dX3_join_100 2 rfl rfl ?_
    refine g_get Z dX3_join_101 0 rfl rfl nX3_join_X3 2 (by decide) fX3_join_17 rfl ?_
    refine g_bipush Z dX3_join_104 zb_8 ?_
    refine g_iload_n Z dX3_join_106 4 rfl rfl ?_
    refine g_imulE (z := nI (8 * o)) Z dX3_join_107 (pk_mul 8 o) ?_
    refine g_iload Z dX3_join_108 0 rfl ?_
    refine g_iaddE (z := nI (8 * o + q)) Z dX3_join_110 (nI_add (8 * o) q) ?_
    refine g_ialdE (v := K o q) Z dX3_join_111 2 rfl (8 * o + q) rfl (by omega) rfl (by rw [gl_at _ (j := o) (p := q) (by omega) (by omega)]; exact z_other h2 (fun e => by subst e; omega)) ?_
    refine g_aload_n Z dX3_join_112 2 rfl rfl ?_
    refine g_get Z dX3_join_113 0 rfl rfl nX3_join_X3 3 (by decide) fX3_join_20 rfl ?_
    refine g_bipush Z dX3_join_116 zb_8 ?_
    refine g_iload_n Z dX3_join_118 4 rfl rfl ?_
    refine g_imulE (z := nI (8 * o)) Z dX3_join_119 (pk_mul 8 o) ?_
    refine g_iload Z dX3_join_120 0 rfl ?_
    refine g_iaddE (z := nI (8 * o + q)) Z dX3_join_122 (nI_add (8 * o) q) ?_
    refine g_ialdE (v := F o q) Z dX3_join_123 3 rfl (8 * o + q) rfl (by omega) rfl (by rw [gl_at _ (j := o) (p := q) (by omega) (by omega)]; exact z_other h3 (fun e => by subst e; omega)) ?_
    refine g_aload_n Z dX3_join_124 2 rfl rfl ?_
    refine g_get Z dX3_join_125 0 rfl rfl nX3_join_X3 4 (by decide) fX3_join_23 rfl ?_
    refine g_bipush Z dX3_join_128 zb_8 ?_
    refine g_iload_n Z dX3_join_130 4 rfl rfl ?_
    refine g_imulE (z := nI (8 * o)) Z dX3_join_131 (pk_mul 8 o) ?_
    refine g_iload Z dX3_join_132 0 rfl ?_
    refine g_iaddE (z := nI (8 * o + q)) Z dX3_join_134 (nI_add (8 * o) q) ?_
    refine g_ialdE (v := G o q) Z dX3_join_135 4 rfl (8 * o + q) rfl (by omega) rfl (by rw [gl_at _ (j := o) (p := q) (by omega) (by omega)]; exact z_other h4 (fun e => by subst e; omega)) ?_
    refine g_callVx (w' := [cO h 3 [.int (nI nb), .ref m1, .ref m2, .ref m3, .ref m4, .int (nI dn), .ref m5, .ref m6, .long (tg T)], cI E m1 4 (mN n), cI E m2 32 (gl (va_up K j (upd K2 ((n j) + q) (K o q)))), cI E m3 32 (gl (va_up F j (upd F2 ((n j) + q) (F o q)))), cI E m4 32 (gl (va_up G j (upd G2 ((n j) + q) (G o q)))), cI E m5 12 D, cJ E m6 6 (tv T)]) Z (qX3_lay E h m1 m2 m3 m4 m5 m6 nb dn n K F G D T K2 F2 G2 j ((n j) + q) (8 * j + (n j) + q) (K o q) (F o q) (G o q) (by omega) (by omega) (by omega)) iX3_lay gX3_join_X3_lay ⟨rfl, rfl⟩ ⟨Nat.le_of_ble_eq_true rfl, Nat.le_of_ble_eq_true rfl⟩ dX3_join_136 rfl rfl (Nat.le_of_ble_eq_true rfl) ⟨Nat.zero_le _, Nat.zero_le _⟩ [0, 1, 2, 3, 4, 5, 6] rfl rfl 0 rfl rfl rfl rfl rfl ?_
    refine g_iinc (lv' := [(4, .int (nI (q + 1))), (3, .int (nI (n o))), (0, .ref h), (1, .int (nI j)), (2, .int (nI o))]) Z dX3_join_139 0 rfl (zinc _) (by decide) rfl ?_
    refine g_goto (tgt := 79) Z dX3_join_142 (by decide) ?_
    refine g_lv (lv2 := [(4, .int (nI (q + 1))), (3, .int (nI (n o))), (0, .ref h), (1, .int (nI j)), (2, .int (nI o))]) Z [0, 1, 2, 3, 4] rfl ?_
    exact ih (q + 1) _ _ _ (by omega) (fun x hx => by rw [pk_un (by omega)]; exact h2 x hx) (fun x hx => by rw [pk_un (by omega)]; exact h3 x hx) (fun x hx => by rw [pk_un (by omega)]; exact h4 x hx) (by rw [← h5]; rfl) (by rw [← h6]; rfl) (by rw [← h7]; rfl)
set_option maxHeartbeats 4000000 in
set_option maxRecDepth 100000 in
theorem qX3_join (E : zE) (h m1 m2 m3 m4 m5 m6 : Nat) (nb dn : Nat) (n : Nat → Nat) (K F G : Nat → Nat → Int32) (D : Nat → Int32) (T : TB) (j o : Nat) (hnb : nb ≤ 4) (hn : ∀ b, n b ≤ 8) (hj : j < nb) (ho : o < nb) (hf : ¬ (8 < n j + n o ∨ 3 < nBent (K j) (n j) + nBent (K o) (n o) ∨ 2 < nTilt (K j) (n j) + nTilt (K o) (n o))) : zF E yX3_join wsX3_join rX3_join [.ref h, .int (nI j), .int (nI o)] [cO h 3 [.int (nI nb), .ref m1, .ref m2, .ref m3, .ref m4, .int (nI dn), .ref m5, .ref m6, .long (tg T)], cI E m1 4 (mN n), cI E m2 32 (gl K), cI E m3 32 (gl F), cI E m4 32 (gl G), cI E m5 12 D, cJ E m6 6 (tv T)] (zx (some (.int (nI (n j + n o)))) ([cO h 3 [.int (nI nb), .ref m1, .ref m2, .ref m3, .ref m4, .int (nI dn), .ref m5, .ref m6, .long (tg T)], cI E m1 4 (mN (va_up n j (n j + n o))), cI E m2 32 (gl (va_up K j (appF (K j) (K o) (n j) 0 (n o)))), cI E m3 32 (gl (va_up F j (appF (F j) (F o) (n j) 0 (n o)))), cI E m4 32 (gl (va_up G j (appF (G j) (G o) (n j) 0 (n o)))), cI E m5 12 D, cJ E m6 6 (tv T)])) := by
  refine z_start RX3 "join" (by decide) rfl rfl rfl (Nat.le_of_ble_eq_true rfl) ?_
  intro J Z
  refine g_eq Z (lv2 := [(0, .ref h), (1, .int (nI j)), (2, .int (nI o))]) rfl rfl rfl ?_
  have hnj := hn j
  have hno := hn o
  have hb1 := nBent_le (K j) (n j)
  have hb2 := nTilt_le (K j) (n j)
  have hb3 := nBent_le (K o) (n o)
  have hb4 := nTilt_le (K o) (n o)
  refine g_aload_n Z dX3_join_0 0 rfl rfl ?_
  refine g_iload_n Z dX3_join_1 1 rfl rfl ?_
  refine g_callVx (w' := [cO h 3 [.int (nI nb), .ref m1, .ref m2, .ref m3, .ref m4, .int (nI dn), .ref m5, .ref m6, .long (tg T)], cI E m1 4 (mN n), cI E m2 32 (gl K), cI E m3 32 (gl F), cI E m4 32 (gl G), cI E m5 12 D, cJ E m6 6 (tv T)]) Z (qX3_isBench E h m1 m2 m3 m4 m5 m6 nb dn T (nI j) (by omega)) iX3_isBench gX3_join_X3_isBench ⟨rfl, rfl⟩ ⟨Nat.le_of_ble_eq_true rfl, Nat.le_of_ble_eq_true rfl⟩ dX3_join_2 rfl rfl (Nat.le_of_ble_eq_true rfl) ⟨Nat.zero_le _, Nat.zero_le _⟩ [0] rfl rfl 0 rfl rfl rfl rfl rfl ?_
  refine g_ifb_eq (tgt := 16) Z dX3_join_5 (by decide) (fun c_5 => absurd c_5 (fun q => q (inB_nI hj (by omega)))) (fun c_5 => ?_)
  refine g_aload_n Z dX3_join_8 0 rfl rfl ?_
  refine g_iload_n Z dX3_join_9 2 rfl rfl ?_
  refine g_callVx (w' := [cO h 3 [.int (nI nb), .ref m1, .ref m2, .ref m3, .ref m4, .int (nI dn), .ref m5, .ref m6, .long (tg T)], cI E m1 4 (mN n), cI E m2 32 (gl K), cI E m3 32 (gl F), cI E m4 32 (gl G), cI E m5 12 D, cJ E m6 6 (tv T)]) Z (qX3_isBench E h m1 m2 m3 m4 m5 m6 nb dn T (nI o) (by omega)) iX3_isBench gX3_join_X3_isBench ⟨rfl, rfl⟩ ⟨Nat.le_of_ble_eq_true rfl, Nat.le_of_ble_eq_true rfl⟩ dX3_join_10 rfl rfl (Nat.le_of_ble_eq_true rfl) ⟨Nat.zero_le _, Nat.zero_le _⟩ [0] rfl rfl 0 rfl rfl rfl rfl rfl ?_
  refine g_ifb_ne (tgt := 18) Z dX3_join_13 (by decide) (fun c_13 => ?_) (fun c_13 => absurd c_13 (fun q => q (inB_nI ho (by omega))))
  refine g_aload_n Z dX3_join_18 0 rfl rfl ?_
  refine g_get Z dX3_join_19 0 rfl rfl nX3_join_X3 1 (by decide) fX3_join_13 rfl ?_
  refine g_iload_n Z dX3_join_22 1 rfl rfl ?_
  refine g_ialdE (v := nI (n j)) Z dX3_join_23 1 rfl j rfl (by omega) rfl rfl ?_
  refine g_aload_n Z dX3_join_24 0 rfl rfl ?_
  refine g_get Z dX3_join_25 0 rfl rfl nX3_join_X3 1 (by decide) fX3_join_13 rfl ?_
  refine g_iload_n Z dX3_join_28 2 rfl rfl ?_
  refine g_ialdE (v := nI (n o)) Z dX3_join_29 1 rfl o rfl (by omega) rfl rfl ?_
  refine g_iaddE (z := nI (n j + (n o))) Z dX3_join_30 (nI_add (n j) (n o)) ?_
  refine g_bipush Z dX3_join_31 zb_8 ?_
  refine g_icmpN_gt (tgt := 66) Z dX3_join_33 (by decide) (n j + (n o)) 8 rfl rfl (by omega) (by omega) (fun c_33 => absurd c_33 (by omega)) (fun c_33 => ?_)
  refine g_aload_n Z dX3_join_36 0 rfl rfl ?_
  refine g_iload_n Z dX3_join_37 1 rfl rfl ?_
  refine g_callVx (w' := [cO h 3 [.int (nI nb), .ref m1, .ref m2, .ref m3, .ref m4, .int (nI dn), .ref m5, .ref m6, .long (tg T)], cI E m1 4 (mN n), cI E m2 32 (gl K), cI E m3 32 (gl F), cI E m4 32 (gl G), cI E m5 12 D, cJ E m6 6 (tv T)]) Z (qX3_bent E h m1 m2 m3 m4 m5 m6 nb dn n K F G D T j hnb hn (by omega)) iX3_bent gX3_join_X3_bent ⟨rfl, rfl⟩ ⟨Nat.le_of_ble_eq_true rfl, Nat.le_of_ble_eq_true rfl⟩ dX3_join_38 rfl rfl (Nat.le_of_ble_eq_true rfl) ⟨Nat.zero_le _, Nat.zero_le _⟩ [0, 1, 2, 3, 4, 5, 6] rfl rfl 0 rfl rfl rfl rfl rfl ?_
  refine g_aload_n Z dX3_join_41 0 rfl rfl ?_
  refine g_iload_n Z dX3_join_42 2 rfl rfl ?_
  refine g_callVx (w' := [cO h 3 [.int (nI nb), .ref m1, .ref m2, .ref m3, .ref m4, .int (nI dn), .ref m5, .ref m6, .long (tg T)], cI E m1 4 (mN n), cI E m2 32 (gl K), cI E m3 32 (gl F), cI E m4 32 (gl G), cI E m5 12 D, cJ E m6 6 (tv T)]) Z (qX3_bent E h m1 m2 m3 m4 m5 m6 nb dn n K F G D T o hnb hn (by omega)) iX3_bent gX3_join_X3_bent ⟨rfl, rfl⟩ ⟨Nat.le_of_ble_eq_true rfl, Nat.le_of_ble_eq_true rfl⟩ dX3_join_43 rfl rfl (Nat.le_of_ble_eq_true rfl) ⟨Nat.zero_le _, Nat.zero_le _⟩ [0, 1, 2, 3, 4, 5, 6] rfl rfl 0 rfl rfl rfl rfl rfl ?_
  refine g_iaddE (z := nI (nBent (K j) (n j) + (nBent (K o) (n o)))) Z dX3_join_46 (nI_add (nBent (K j) (n j)) (nBent (K o) (n o))) ?_
  refine g_iconst Z dX3_join_47 zi_3 ?_
  refine g_icmpN_gt (tgt := 66) Z dX3_join_48 (by decide) (nBent (K j) (n j) + (nBent (K o) (n o))) 3 rfl rfl (by omega) (by omega) (fun c_48 => absurd c_48 (by omega)) (fun c_48 => ?_)
  refine g_aload_n Z dX3_join_51 0 rfl rfl ?_
  refine g_iload_n Z dX3_join_52 1 rfl rfl ?_
  refine g_callVx (w' := [cO h 3 [.int (nI nb), .ref m1, .ref m2, .ref m3, .ref m4, .int (nI dn), .ref m5, .ref m6, .long (tg T)], cI E m1 4 (mN n), cI E m2 32 (gl K), cI E m3 32 (gl F), cI E m4 32 (gl G), cI E m5 12 D, cJ E m6 6 (tv T)]) Z (qX3_tilts E h m1 m2 m3 m4 m5 m6 nb dn n K F G D T j hnb hn (by omega)) iX3_tilts gX3_join_X3_tilts ⟨rfl, rfl⟩ ⟨Nat.le_of_ble_eq_true rfl, Nat.le_of_ble_eq_true rfl⟩ dX3_join_53 rfl rfl (Nat.le_of_ble_eq_true rfl) ⟨Nat.zero_le _, Nat.zero_le _⟩ [0, 1, 2, 3, 4, 5, 6] rfl rfl 0 rfl rfl rfl rfl rfl ?_
  refine g_aload_n Z dX3_join_56 0 rfl rfl ?_
  refine g_iload_n Z dX3_join_57 2 rfl rfl ?_
  refine g_callVx (w' := [cO h 3 [.int (nI nb), .ref m1, .ref m2, .ref m3, .ref m4, .int (nI dn), .ref m5, .ref m6, .long (tg T)], cI E m1 4 (mN n), cI E m2 32 (gl K), cI E m3 32 (gl F), cI E m4 32 (gl G), cI E m5 12 D, cJ E m6 6 (tv T)]) Z (qX3_tilts E h m1 m2 m3 m4 m5 m6 nb dn n K F G D T o hnb hn (by omega)) iX3_tilts gX3_join_X3_tilts ⟨rfl, rfl⟩ ⟨Nat.le_of_ble_eq_true rfl, Nat.le_of_ble_eq_true rfl⟩ dX3_join_58 rfl rfl (Nat.le_of_ble_eq_true rfl) ⟨Nat.zero_le _, Nat.zero_le _⟩ [0, 1, 2, 3, 4, 5, 6] rfl rfl 0 rfl rfl rfl rfl rfl ?_
  refine g_iaddE (z := nI (nTilt (K j) (n j) + (nTilt (K o) (n o)))) Z dX3_join_61 (nI_add (nTilt (K j) (n j)) (nTilt (K o) (n o))) ?_
  refine g_iconst Z dX3_join_62 zi_2 ?_
  refine g_icmpN_le (tgt := 69) Z dX3_join_63 (by decide) (nTilt (K j) (n j) + (nTilt (K o) (n o))) 2 rfl rfl (by omega) (by omega) (fun c_63 => ?_) (fun c_63 => absurd c_63 (by omega))
  refine g_eq Z (w2 := [cO h 3 [.int (nI nb), .ref m1, .ref m2, .ref m3, .ref m4, .int (nI dn), .ref m5, .ref m6, .long (tg T)], cI E m1 4 (mN n), cI E m2 32 (gl (va_up K j (K j))), cI E m3 32 (gl (va_up F j (F j))), cI E m4 32 (gl (va_up G j (G j))), cI E m5 12 D, cJ E m6 6 (tv T)]) (by simp only [vu_self]) rfl rfl ?_
  refine g_aload_n Z dX3_join_69 0 rfl rfl ?_
  refine g_get Z dX3_join_70 0 rfl rfl nX3_join_X3 1 (by decide) fX3_join_13 rfl ?_
  refine g_iload_n Z dX3_join_73 2 rfl rfl ?_
  refine g_ialdE (v := nI (n o)) Z dX3_join_74 1 rfl o rfl (by omega) rfl rfl ?_
  refine g_istore_n (lv' := [(3, .int (nI (n o))), (0, .ref h), (1, .int (nI j)), (2, .int (nI o))]) Z dX3_join_75 rfl (by decide) rfl ?_
  refine g_iconst Z dX3_join_76 zi_0 ?_
  refine g_istore (lv' := [(4, .int 0), (3, .int (nI (n o))), (0, .ref h), (1, .int (nI j)), (2, .int (nI o))]) Z dX3_join_77 (by decide) rfl ?_
  exact lX3_join E h m1 m2 m3 m4 m5 m6 nb dn n K F G D T j o hnb hn hj ho hf Z (by omega) (n o) 0 (K j) (F j) (G j) (by omega) (fun _ _ => rfl) (fun _ _ => rfl) (fun _ _ => rfl) rfl rfl rfl
