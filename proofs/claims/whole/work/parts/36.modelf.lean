def spnR (K F G : Nat → Int32) (z p left : Nat) : Int32 := spnM K F G z p 0 left 21
abbrev rX3_span : Room := { frames := 6, cells := 0, slots := 0, locals := 146 }
theorem iX3_span : zInfo yX3_span wsX3_span RX3 6 (some .int) 3 := ⟨_, _, rfl, by decide +kernel⟩
set_option maxHeartbeats 4000000 in
set_option maxRecDepth 100000 in
theorem qX3_spanN (E : zE) (h m1 m2 m3 m4 m5 m6 : Nat) (nb dn : Nat) (n : Nat → Nat) (K F G : Nat → Nat → Int32) (D : Nat → Int32) (T : TB) (b i v : Int32) (hnb : nb ≤ 4) (hn : ∀ b, n b ≤ 8) (hv : ¬ ∃ j, j < nb ∧ b = nI j ∧ inB (n j) i ∧ 0 ≤ v) : zF E yX3_span wsX3_span rX3_span [.ref h, .int b, .int i, .int v] [cO h 3 [.int (nI nb), .ref m1, .ref m2, .ref m3, .ref m4, .int (nI dn), .ref m5, .ref m6, .long (tg T)], cI E m1 4 (mN n), cI E m2 32 (gl K), cI E m3 32 (gl F), cI E m4 32 (gl G), cI E m5 12 D, cJ E m6 6 (tv T)] (zx (some (.int (-1))) ([cO h 3 [.int (nI nb), .ref m1, .ref m2, .ref m3, .ref m4, .int (nI dn), .ref m5, .ref m6, .long (tg T)], cI E m1 4 (mN n), cI E m2 32 (gl K), cI E m3 32 (gl F), cI E m4 32 (gl G), cI E m5 12 D, cJ E m6 6 (tv T)])) := by
  refine z_start RX3 "span" (by decide) rfl rfl rfl (Nat.le_of_ble_eq_true rfl) ?_
  intro J Z
  refine g_eq Z (lv2 := [(0, .ref h), (1, .int b), (2, .int i), (3, .int v)]) rfl rfl rfl ?_
  by_cases hb : inB nb b
  · obtain ⟨j, hj, rfl⟩ := inB_of hb
    have hnj := hn j
    refine g_aload_n Z dX3_span_0 0 rfl rfl ?_
    refine g_iload_n Z dX3_span_1 1 rfl rfl ?_
    refine g_iload_n Z dX3_span_2 2 rfl rfl ?_
    refine g_callVx (w' := [cO h 3 [.int (nI nb), .ref m1, .ref m2, .ref m3, .ref m4, .int (nI dn), .ref m5, .ref m6, .long (tg T)], cI E m1 4 (mN n), cI E m2 32 (gl K), cI E m3 32 (gl F), cI E m4 32 (gl G), cI E m5 12 D, cJ E m6 6 (tv T)]) Z (qX3_isPart E h m1 m2 m3 m4 m5 m6 nb dn T n j i hnb hn (by omega)) iX3_isPart gX3_span_X3_isPart ⟨rfl, rfl⟩ ⟨Nat.le_of_ble_eq_true rfl, Nat.le_of_ble_eq_true rfl⟩ dX3_span_3 rfl rfl (Nat.le_of_ble_eq_true rfl) ⟨Nat.zero_le _, Nat.zero_le _⟩ [0, 1] rfl rfl 0 rfl rfl rfl rfl rfl ?_
    refine g_ifb_eq (tgt := 13) Z dX3_span_6 (by decide) (fun c_6 => ?_) (fun c_6 => ?_)
    · refine g_iconst Z dX3_span_13 zi_m1 ?_
      exact g_iret Z dX3_span_14 rfl ⟨Nat.zero_le _, Nat.zero_le _⟩ ⟨rfl, rfl⟩
    · refine g_iload_n Z dX3_span_9 3 rfl rfl ?_
      refine g_if_ge (tgt := 15) Z dX3_span_10 (by decide) (fun c_10 => ?_) (fun c_10 => ?_)
      · exact absurd ⟨j, hj, rfl, c_6, c_10⟩ hv
      · refine g_iconst Z dX3_span_13 zi_m1 ?_
        exact g_iret Z dX3_span_14 rfl ⟨Nat.zero_le _, Nat.zero_le _⟩ ⟨rfl, rfl⟩
  · refine g_aload_n Z dX3_span_0 0 rfl rfl ?_
    refine g_iload_n Z dX3_span_1 1 rfl rfl ?_
    refine g_iload_n Z dX3_span_2 2 rfl rfl ?_
    refine g_callVx (w' := [cO h 3 [.int (nI nb), .ref m1, .ref m2, .ref m3, .ref m4, .int (nI dn), .ref m5, .ref m6, .long (tg T)], cI E m1 4 (mN n), cI E m2 32 (gl K), cI E m3 32 (gl F), cI E m4 32 (gl G), cI E m5 12 D, cJ E m6 6 (tv T)]) Z (qX3_isPartO E h m1 m2 m3 m4 m5 m6 nb dn T n b i hnb hn hb) iX3_isPart gX3_span_X3_isPart ⟨rfl, rfl⟩ ⟨Nat.le_of_ble_eq_true rfl, Nat.le_of_ble_eq_true rfl⟩ dX3_span_3 rfl rfl (Nat.le_of_ble_eq_true rfl) ⟨Nat.zero_le _, Nat.zero_le _⟩ [0, 1] rfl rfl 0 rfl rfl rfl rfl rfl ?_
    refine g_ifb_eq (tgt := 13) Z dX3_span_6 (by decide) (fun c_6 => ?_) (fun c_6 => absurd c_6 id)
    refine g_iconst Z dX3_span_13 zi_m1 ?_
    exact g_iret Z dX3_span_14 rfl ⟨Nat.zero_le _, Nat.zero_le _⟩ ⟨rfl, rfl⟩

theorem nX3_span_X3 : ∀ w ∈ wsX30, w ∈ wsX3_span := by decide +kernel
theorem fX3_span_17 : Cond.fieldLink RX3 17 (TX3 2).1 (TX3 2).2.1 (TX3 2).2.2.1 ∈ wsX3_span := by decide +kernel
set_option maxHeartbeats 4000000 in
set_option maxRecDepth 100000 in
theorem qX3_spanS (E : zE) (h m1 m2 m3 m4 m5 m6 : Nat) (nb dn : Nat) (n : Nat → Nat) (K F G : Nat → Nat → Int32) (D : Nat → Int32) (T : TB) (j p : Nat) (v : Int32) (hnb : nb ≤ 4) (hn : ∀ b, n b ≤ 8) (hj : j < nb) (hp : p < n j) (h0 : 0 ≤ v) (hk : ¬ K j p = 0) : zF E yX3_span wsX3_span rX3_span [.ref h, .int (nI j), .int (nI p), .int v] [cO h 3 [.int (nI nb), .ref m1, .ref m2, .ref m3, .ref m4, .int (nI dn), .ref m5, .ref m6, .long (tg T)], cI E m1 4 (mN n), cI E m2 32 (gl K), cI E m3 32 (gl F), cI E m4 32 (gl G), cI E m5 12 D, cJ E m6 6 (tv T)] (zx (some (.int (-3))) ([cO h 3 [.int (nI nb), .ref m1, .ref m2, .ref m3, .ref m4, .int (nI dn), .ref m5, .ref m6, .long (tg T)], cI E m1 4 (mN n), cI E m2 32 (gl K), cI E m3 32 (gl F), cI E m4 32 (gl G), cI E m5 12 D, cJ E m6 6 (tv T)])) := by
  refine z_start RX3 "span" (by decide) rfl rfl rfl (Nat.le_of_ble_eq_true rfl) ?_
  intro J Z
  refine g_eq Z (lv2 := [(0, .ref h), (1, .int (nI j)), (2, .int (nI p)), (3, .int v)]) rfl rfl rfl ?_
  have hnj := hn j
  refine g_aload_n Z dX3_span_0 0 rfl rfl ?_
  refine g_iload_n Z dX3_span_1 1 rfl rfl ?_
  refine g_iload_n Z dX3_span_2 2 rfl rfl ?_
  refine g_callVx (w' := [cO h 3 [.int (nI nb), .ref m1, .ref m2, .ref m3, .ref m4, .int (nI dn), .ref m5, .ref m6, .long (tg T)], cI E m1 4 (mN n), cI E m2 32 (gl K), cI E m3 32 (gl F), cI E m4 32 (gl G), cI E m5 12 D, cJ E m6 6 (tv T)]) Z (qX3_isPart E h m1 m2 m3 m4 m5 m6 nb dn T n j (nI p) hnb hn (by omega)) iX3_isPart gX3_span_X3_isPart ⟨rfl, rfl⟩ ⟨Nat.le_of_ble_eq_true rfl, Nat.le_of_ble_eq_true rfl⟩ dX3_span_3 rfl rfl (Nat.le_of_ble_eq_true rfl) ⟨Nat.zero_le _, Nat.zero_le _⟩ [0, 1] rfl rfl 0 rfl rfl rfl rfl rfl ?_
  refine g_ifb_eq (tgt := 13) Z dX3_span_6 (by decide) (fun c_6 => absurd c_6 (fun q => q (inB_nI hp (by omega)))) (fun c_6 => ?_)
  refine g_iload_n Z dX3_span_9 3 rfl rfl ?_
  refine g_if_ge (tgt := 15) Z dX3_span_10 (by decide) (fun c_10 => ?_) (fun c_10 => absurd c_10 (fun q => q h0))
  refine g_aload_n Z dX3_span_15 0 rfl rfl ?_
  refine g_get Z dX3_span_16 0 rfl rfl nX3_span_X3 2 (by decide) fX3_span_17 rfl ?_
  refine g_bipush Z dX3_span_19 zb_8 ?_
  refine g_iload_n Z dX3_span_21 1 rfl rfl ?_
  refine g_imulE (z := nI (8 * j)) Z dX3_span_22 (pk_mul 8 j) ?_
  refine g_iload_n Z dX3_span_23 2 rfl rfl ?_
  refine g_iaddE (z := nI (8 * j + p)) Z dX3_span_24 (nI_add (8 * j) p) ?_
  refine g_ialdE (v := K j p) Z dX3_span_25 2 rfl (8 * j + p) rfl (by omega) rfl (gl_at _ (j := j) (p := p) (by omega) (by omega)) ?_
  refine g_if_eq (tgt := 32) Z dX3_span_26 (by decide) (fun c_26 => absurd c_26 hk) (fun c_26 => ?_)
  refine g_bipush Z dX3_span_29 zb_m3 ?_
  exact g_iret Z dX3_span_31 rfl ⟨Nat.zero_le _, Nat.zero_le _⟩ ⟨rfl, rfl⟩

set_option maxHeartbeats 4000000 in
set_option maxRecDepth 100000 in
theorem lX3_span (E : zE) (h m1 m2 m3 m4 m5 m6 : Nat) (nb dn : Nat) (n : Nat → Nat) (K F G : Nat → Nat → Int32) (D : Nat → Int32) (T : TB) (j p : Nat) (lf : Nat) (hnb : nb ≤ 4) (hn : ∀ b, n b ≤ 8) (hj : j < nb) (hp : p < n j) (hl : lf < 2 ^ 31) (hk : K j p = 0) {J : zJ} (Z : zOk E J RX3 cX3_span 6 (some .int) wsX3_span rX3_span "span" (fun _ => True) (fun ov wv => ov = some (.int (spnR (K j) (F j) (G j) (n j) p lf)) ∧ ∃ T2 : TB, wv = [cO h 3 [.int (nI nb), .ref m1, .ref m2, .ref m3, .ref m4, .int (nI dn), .ref m5, .ref m6, .long (tg T2)], cI E m1 4 (mN n), cI E m2 32 (gl K), cI E m3 32 (gl F), cI E m4 32 (gl G), cI E m5 12 D, cJ E m6 6 (tv T2)]))  : ∀ (d : Nat) (q L : Nat) (T2 : TB), q + d = 21 → L < 2 ^ 31 → spnM (K j) (F j) (G j) (n j) p q L d = spnR (K j) (F j) (G j) (n j) p lf → J 0 0 [cO h 3 [.int (nI nb), .ref m1, .ref m2, .ref m3, .ref m4, .int (nI dn), .ref m5, .ref m6, .long (tg T2)], cI E m1 4 (mN n), cI E m2 32 (gl K), cI E m3 32 (gl F), cI E m4 32 (gl G), cI E m5 12 D, cJ E m6 6 (tv T2)] 38 [(5, .int (nI q)), (4, .int (nI L)), (0, .ref h), (1, .int (nI j)), (2, .int (nI p)), (3, .int (nI lf))] [] := by
  intro d
  induction d with
  | zero =>
    intro q L T2 h1 h2 h3
    have hnj := hn j
    refine g_iload Z dX3_span_38 0 rfl ?_
    refine g_bipush Z dX3_span_40 zb_20 ?_
    refine g_icmpN_gt (tgt := 80) Z dX3_span_42 (by decide) q 20 rfl rfl (by omega) (by omega) (fun c_42 => ?_) (fun c_42 => absurd c_42 (by omega))
    refine g_iconst Z dX3_span_80 zi_m1 ?_
    exact g_iret Z dX3_span_81 rfl ⟨Nat.zero_le _, Nat.zero_le _⟩ ⟨by rw [← h3]; rfl, _, rfl⟩
  | succ d ih =>
    intro q L T2 h1 h2 h3
    have hnj := hn j
    refine g_iload Z dX3_span_38 0 rfl ?_
    refine g_bipush Z dX3_span_40 zb_20 ?_
    refine g_icmpN_gt (tgt := 80) Z dX3_span_42 (by decide) q 20 rfl rfl (by omega) (by omega) (fun c_42 => absurd c_42 (by omega)) (fun c_42 => ?_)
    refine g_iload_n Z dX3_span_45 5 rfl rfl ?_
    refine g_ifN_lt (tgt := 80) Z dX3_span_46 (by decide) lf rfl (by omega) (fun c_46 => absurd c_46 id) (fun c_46 => ?_)
    refine g_aload_n Z dX3_span_49 2 rfl rfl ?_
    refine g_iload_n Z dX3_span_50 3 rfl rfl ?_
    refine g_iload_n Z dX3_span_51 4 rfl rfl ?_
    refine g_iload Z dX3_span_52 0 rfl ?_
    refine g_callVx (w' := [cO h 3 [.int (nI nb), .ref m1, .ref m2, .ref m3, .ref m4, .int (nI dn), .ref m5, .ref m6, .long (tg (hbT (tabM (K j) (upd (F j) p (nI q)) (G j) 0 (n j)) (tabM (K j) (upd (F j) p (nI q)) (G j) 1 (n j))))], cI E m1 4 (mN n), cI E m2 32 (gl K), cI E m3 32 (gl F), cI E m4 32 (gl G), cI E m5 12 D, cJ E m6 6 (tv (hbT (tabM (K j) (upd (F j) p (nI q)) (G j) 0 (n j)) (tabM (K j) (upd (F j) p (nI q)) (G j) 1 (n j))))]) Z (qX3_holdsWith E h m1 m2 m3 m4 m5 m6 nb dn n K F G D T2 j p (nI q) hnj (by omega) (by omega)) iX3_holdsWith gX3_span_X3_holdsWith ⟨rfl, rfl⟩ ⟨Nat.le_of_ble_eq_true rfl, Nat.le_of_ble_eq_true rfl⟩ dX3_span_54 rfl rfl (Nat.le_of_ble_eq_true rfl) ⟨Nat.zero_le _, Nat.zero_le _⟩ [0, 1, 2, 3, 4, 5, 6] rfl rfl 0 rfl rfl rfl rfl rfl ?_
    refine g_ifb_ne (tgt := 63) Z dX3_span_57 (by decide) (fun c_57 => ?_) (fun c_57 => ?_)
    · refine g_iload Z dX3_span_63 1 rfl ?_
      refine g_ifN_ne (tgt := 71) Z dX3_span_65 (by decide) L rfl (by omega) (fun c_65 => ?_) (fun c_65 => ?_)
      · obtain ⟨L2, e_L2⟩ : ∃ L2, L = L2 + 1 := ⟨L - 1, by omega⟩
        have e_L : L - 1 = L2 := by omega
        refine g_iinc (lv' := [(4, .int (nI L2)), (5, .int (nI q)), (0, .ref h), (1, .int (nI j)), (2, .int (nI p)), (3, .int (nI lf))]) Z dX3_span_71 1 rfl (by rw [e_L2]; exact zdec L2) (by decide) rfl ?_
        refine g_iinc (lv' := [(5, .int (nI (q + 1))), (4, .int (nI L2)), (0, .ref h), (1, .int (nI j)), (2, .int (nI p)), (3, .int (nI lf))]) Z dX3_span_74 1 rfl (zinc _) (by decide) rfl ?_
        refine g_goto (tgt := 38) Z dX3_span_77 (by decide) ?_
        rw [spnM, if_pos c_57, if_neg c_65, e_L] at h3
        refine g_lv (lv2 := [(5, .int (nI (q + 1))), (4, .int (nI L2)), (0, .ref h), (1, .int (nI j)), (2, .int (nI p)), (3, .int (nI lf))]) Z [0, 1, 2, 3, 4, 5] rfl ?_
        exact ih (q + 1) L2 _ (by omega) (by omega) h3
      · rw [spnM, if_pos c_57, if_pos c_65] at h3
        refine g_iload Z dX3_span_68 0 rfl ?_
        exact g_iret Z dX3_span_70 rfl ⟨Nat.zero_le _, Nat.zero_le _⟩ ⟨by rw [← h3], _, rfl⟩
    · refine g_goto (tgt := 74) Z dX3_span_60 (by decide) ?_
      refine g_iinc (lv' := [(5, .int (nI (q + 1))), (4, .int (nI L)), (0, .ref h), (1, .int (nI j)), (2, .int (nI p)), (3, .int (nI lf))]) Z dX3_span_74 0 rfl (zinc _) (by decide) rfl ?_
      refine g_goto (tgt := 38) Z dX3_span_77 (by decide) ?_
      rw [spnM, if_neg c_57] at h3
      refine g_lv (lv2 := [(5, .int (nI (q + 1))), (4, .int (nI L)), (0, .ref h), (1, .int (nI j)), (2, .int (nI p)), (3, .int (nI lf))]) Z [0, 1, 2, 3, 4, 5] rfl ?_
      exact ih (q + 1) L _ (by omega) (by omega) h3
set_option maxHeartbeats 4000000 in
set_option maxRecDepth 100000 in
theorem qX3_span (E : zE) (h m1 m2 m3 m4 m5 m6 : Nat) (nb dn : Nat) (n : Nat → Nat) (K F G : Nat → Nat → Int32) (D : Nat → Int32) (T : TB) (j p : Nat) (lf : Nat) (hnb : nb ≤ 4) (hn : ∀ b, n b ≤ 8) (hj : j < nb) (hp : p < n j) (hl : lf < 2 ^ 31) (hk : K j p = 0) : zF E yX3_span wsX3_span rX3_span [.ref h, .int (nI j), .int (nI p), .int (nI lf)] [cO h 3 [.int (nI nb), .ref m1, .ref m2, .ref m3, .ref m4, .int (nI dn), .ref m5, .ref m6, .long (tg T)], cI E m1 4 (mN n), cI E m2 32 (gl K), cI E m3 32 (gl F), cI E m4 32 (gl G), cI E m5 12 D, cJ E m6 6 (tv T)] (fun ov wv => ov = some (.int (spnR (K j) (F j) (G j) (n j) p lf)) ∧ ∃ T2 : TB, wv = [cO h 3 [.int (nI nb), .ref m1, .ref m2, .ref m3, .ref m4, .int (nI dn), .ref m5, .ref m6, .long (tg T2)], cI E m1 4 (mN n), cI E m2 32 (gl K), cI E m3 32 (gl F), cI E m4 32 (gl G), cI E m5 12 D, cJ E m6 6 (tv T2)]) := by
  refine z_start RX3 "span" (by decide) rfl rfl rfl (Nat.le_of_ble_eq_true rfl) ?_
  intro J Z
  refine g_eq Z (lv2 := [(0, .ref h), (1, .int (nI j)), (2, .int (nI p)), (3, .int (nI lf))]) rfl rfl rfl ?_
  have hnj := hn j
  refine g_aload_n Z dX3_span_0 0 rfl rfl ?_
  refine g_iload_n Z dX3_span_1 1 rfl rfl ?_
  refine g_iload_n Z dX3_span_2 2 rfl rfl ?_
  refine g_callVx (w' := [cO h 3 [.int (nI nb), .ref m1, .ref m2, .ref m3, .ref m4, .int (nI dn), .ref m5, .ref m6, .long (tg T)], cI E m1 4 (mN n), cI E m2 32 (gl K), cI E m3 32 (gl F), cI E m4 32 (gl G), cI E m5 12 D, cJ E m6 6 (tv T)]) Z (qX3_isPart E h m1 m2 m3 m4 m5 m6 nb dn T n j (nI p) hnb hn (by omega)) iX3_isPart gX3_span_X3_isPart ⟨rfl, rfl⟩ ⟨Nat.le_of_ble_eq_true rfl, Nat.le_of_ble_eq_true rfl⟩ dX3_span_3 rfl rfl (Nat.le_of_ble_eq_true rfl) ⟨Nat.zero_le _, Nat.zero_le _⟩ [0, 1] rfl rfl 0 rfl rfl rfl rfl rfl ?_
  refine g_ifb_eq (tgt := 13) Z dX3_span_6 (by decide) (fun c_6 => absurd c_6 (fun q => q (inB_nI hp (by omega)))) (fun c_6 => ?_)
  refine g_iload_n Z dX3_span_9 3 rfl rfl ?_
  refine g_ifN_ge (tgt := 15) Z dX3_span_10 (by decide) lf rfl (by omega) (fun c_10 => ?_) (fun c_10 => absurd c_10 id)
  refine g_aload_n Z dX3_span_15 0 rfl rfl ?_
  refine g_get Z dX3_span_16 0 rfl rfl nX3_span_X3 2 (by decide) fX3_span_17 rfl ?_
  refine g_bipush Z dX3_span_19 zb_8 ?_
  refine g_iload_n Z dX3_span_21 1 rfl rfl ?_
  refine g_imulE (z := nI (8 * j)) Z dX3_span_22 (pk_mul 8 j) ?_
  refine g_iload_n Z dX3_span_23 2 rfl rfl ?_
  refine g_iaddE (z := nI (8 * j + p)) Z dX3_span_24 (nI_add (8 * j) p) ?_
  refine g_ialdE (v := K j p) Z dX3_span_25 2 rfl (8 * j + p) rfl (by omega) rfl (gl_at _ (j := j) (p := p) (by omega) (by omega)) ?_
  refine g_if_eq (tgt := 32) Z dX3_span_26 (by decide) (fun c_26 => ?_) (fun c_26 => absurd c_26 (fun q => q hk))
  refine g_iload_n Z dX3_span_32 3 rfl rfl ?_
  refine g_istore (lv' := [(4, .int (nI lf)), (0, .ref h), (1, .int (nI j)), (2, .int (nI p)), (3, .int (nI lf))]) Z dX3_span_33 (by decide) rfl ?_
  refine g_iconst Z dX3_span_35 zi_0 ?_
  refine g_istore (lv' := [(5, .int 0), (4, .int (nI lf)), (0, .ref h), (1, .int (nI j)), (2, .int (nI p)), (3, .int (nI lf))]) Z dX3_span_36 (by decide) rfl ?_
  exact lX3_span E h m1 m2 m3 m4 m5 m6 nb dn n K F G D T j p lf hnb hn hj hp hl hk Z 21 0 lf T rfl hl rfl

abbrev rX3_own : Room := { frames := 2, cells := 0, slots := 0, locals := 44 }
theorem iX3_own : zInfo yX3_own wsX3_own RX3 2 (some .int) 1 := ⟨_, _, rfl, by decide +kernel⟩
set_option maxHeartbeats 4000000 in
set_option maxRecDepth 100000 in
theorem qX3_ownB (E : zE) (h m1 m2 m3 m4 m5 m6 : Nat) (nb dn : Nat) (n : Nat → Nat) (K F G : Nat → Nat → Int32) (D : Nat → Int32) (T : TB) (a : Int32) (ha : ¬ bnt a) : zF E yX3_own wsX3_own rX3_own [.ref h, .int a] [cO h 3 [.int (nI nb), .ref m1, .ref m2, .ref m3, .ref m4, .int (nI dn), .ref m5, .ref m6, .long (tg T)], cI E m1 4 (mN n), cI E m2 32 (gl K), cI E m3 32 (gl F), cI E m4 32 (gl G), cI E m5 12 D, cJ E m6 6 (tv T)] (zx (some (.int (-2))) ([cO h 3 [.int (nI nb), .ref m1, .ref m2, .ref m3, .ref m4, .int (nI dn), .ref m5, .ref m6, .long (tg T)], cI E m1 4 (mN n), cI E m2 32 (gl K), cI E m3 32 (gl F), cI E m4 32 (gl G), cI E m5 12 D, cJ E m6 6 (tv T)])) := by
  refine z_start RX3 "own" (by decide) rfl rfl rfl (Nat.le_of_ble_eq_true rfl) ?_
  intro J Z
  refine g_eq Z (lv2 := [(0, .ref h), (1, .int a)]) rfl rfl rfl ?_
  refine g_aload_n Z dX3_own_0 0 rfl rfl ?_
  refine g_iload_n Z dX3_own_1 1 rfl rfl ?_
  refine g_callVx (w' := [cO h 3 [.int (nI nb), .ref m1, .ref m2, .ref m3, .ref m4, .int (nI dn), .ref m5, .ref m6, .long (tg T)], cI E m1 4 (mN n), cI E m2 32 (gl K), cI E m3 32 (gl F), cI E m4 32 (gl G), cI E m5 12 D, cJ E m6 6 (tv T)]) Z (qX3_isBent E h m1 m2 m3 m4 m5 m6 nb dn T a) iX3_isBent gX3_own_X3_isBent ⟨rfl, rfl⟩ ⟨Nat.le_of_ble_eq_true rfl, Nat.le_of_ble_eq_true rfl⟩ dX3_own_2 rfl rfl (Nat.le_of_ble_eq_true rfl) ⟨Nat.zero_le _, Nat.zero_le _⟩ [0] rfl rfl 0 rfl rfl rfl rfl rfl ?_
  refine g_ifb_ne (tgt := 11) Z dX3_own_5 (by decide) (fun c_5 => absurd c_5 ha) (fun c_5 => ?_)
  refine g_bipush Z dX3_own_8 zb_m2 ?_
  exact g_iret Z dX3_own_10 rfl ⟨Nat.zero_le _, Nat.zero_le _⟩ ⟨rfl, rfl⟩

theorem nX3_own_X3 : ∀ w ∈ wsX30, w ∈ wsX3_own := by decide +kernel
theorem fX3_own_26 : Cond.fieldLink RX3 26 (TX3 5).1 (TX3 5).2.1 (TX3 5).2.2.1 ∈ wsX3_own := by decide +kernel
set_option maxHeartbeats 4000000 in
set_option maxRecDepth 100000 in
theorem qX3_ownF (E : zE) (h m1 m2 m3 m4 m5 m6 : Nat) (nb dn : Nat) (n : Nat → Nat) (K F G : Nat → Nat → Int32) (D : Nat → Int32) (T : TB) (a : Int32) (ha : bnt a) (hd : dn = 12) : zF E yX3_own wsX3_own rX3_own [.ref h, .int a] [cO h 3 [.int (nI nb), .ref m1, .ref m2, .ref m3, .ref m4, .int (nI dn), .ref m5, .ref m6, .long (tg T)], cI E m1 4 (mN n), cI E m2 32 (gl K), cI E m3 32 (gl F), cI E m4 32 (gl G), cI E m5 12 D, cJ E m6 6 (tv T)] (zx (some (.int (-4))) ([cO h 3 [.int (nI nb), .ref m1, .ref m2, .ref m3, .ref m4, .int (nI dn), .ref m5, .ref m6, .long (tg T)], cI E m1 4 (mN n), cI E m2 32 (gl K), cI E m3 32 (gl F), cI E m4 32 (gl G), cI E m5 12 D, cJ E m6 6 (tv T)])) := by
  refine z_start RX3 "own" (by decide) rfl rfl rfl (Nat.le_of_ble_eq_true rfl) ?_
  intro J Z
  refine g_eq Z (lv2 := [(0, .ref h), (1, .int a)]) rfl rfl rfl ?_
  refine g_aload_n Z dX3_own_0 0 rfl rfl ?_
  refine g_iload_n Z dX3_own_1 1 rfl rfl ?_
  refine g_callVx (w' := [cO h 3 [.int (nI nb), .ref m1, .ref m2, .ref m3, .ref m4, .int (nI dn), .ref m5, .ref m6, .long (tg T)], cI E m1 4 (mN n), cI E m2 32 (gl K), cI E m3 32 (gl F), cI E m4 32 (gl G), cI E m5 12 D, cJ E m6 6 (tv T)]) Z (qX3_isBent E h m1 m2 m3 m4 m5 m6 nb dn T a) iX3_isBent gX3_own_X3_isBent ⟨rfl, rfl⟩ ⟨Nat.le_of_ble_eq_true rfl, Nat.le_of_ble_eq_true rfl⟩ dX3_own_2 rfl rfl (Nat.le_of_ble_eq_true rfl) ⟨Nat.zero_le _, Nat.zero_le _⟩ [0] rfl rfl 0 rfl rfl rfl rfl rfl ?_
  refine g_ifb_ne (tgt := 11) Z dX3_own_5 (by decide) (fun c_5 => ?_) (fun c_5 => absurd c_5 (fun q => q ha))
  refine g_aload_n Z dX3_own_11 0 rfl rfl ?_
  refine g_get Z dX3_own_12 0 rfl rfl nX3_own_X3 5 (by decide) fX3_own_26 rfl ?_
  refine g_bipush Z dX3_own_15 zb_12 ?_
  refine g_icmpN_ne (tgt := 23) Z dX3_own_17 (by decide) dn 12 rfl rfl (by omega) (by omega) (fun c_17 => absurd c_17 (by omega)) (fun c_17 => ?_)
  refine g_bipush Z dX3_own_20 zb_m4 ?_
  exact g_iret Z dX3_own_22 rfl ⟨Nat.zero_le _, Nat.zero_le _⟩ ⟨rfl, rfl⟩

theorem fX3_own_29 : Cond.fieldLink RX3 29 (TX3 6).1 (TX3 6).2.1 (TX3 6).2.2.1 ∈ wsX3_own := by decide +kernel
set_option maxHeartbeats 4000000 in
set_option maxRecDepth 100000 in
theorem qX3_own (E : zE) (h m1 m2 m3 m4 m5 m6 : Nat) (nb dn : Nat) (n : Nat → Nat) (K F G : Nat → Nat → Int32) (D : Nat → Int32) (T : TB) (a : Int32) (ha : bnt a) (hd : dn < 12) : zF E yX3_own wsX3_own rX3_own [.ref h, .int a] [cO h 3 [.int (nI nb), .ref m1, .ref m2, .ref m3, .ref m4, .int (nI dn), .ref m5, .ref m6, .long (tg T)], cI E m1 4 (mN n), cI E m2 32 (gl K), cI E m3 32 (gl F), cI E m4 32 (gl G), cI E m5 12 D, cJ E m6 6 (tv T)] (zx (some (.int (nI (dn + 1)))) ([cO h 3 [.int (nI nb), .ref m1, .ref m2, .ref m3, .ref m4, .int (nI (dn + 1)), .ref m5, .ref m6, .long (tg T)], cI E m1 4 (mN n), cI E m2 32 (gl K), cI E m3 32 (gl F), cI E m4 32 (gl G), cI E m5 12 (upd D dn a), cJ E m6 6 (tv T)])) := by
  refine z_start RX3 "own" (by decide) rfl rfl rfl (Nat.le_of_ble_eq_true rfl) ?_
  intro J Z
  refine g_eq Z (lv2 := [(0, .ref h), (1, .int a)]) rfl rfl rfl ?_
  refine g_aload_n Z dX3_own_0 0 rfl rfl ?_
  refine g_iload_n Z dX3_own_1 1 rfl rfl ?_
  refine g_callVx (w' := [cO h 3 [.int (nI nb), .ref m1, .ref m2, .ref m3, .ref m4, .int (nI dn), .ref m5, .ref m6, .long (tg T)], cI E m1 4 (mN n), cI E m2 32 (gl K), cI E m3 32 (gl F), cI E m4 32 (gl G), cI E m5 12 D, cJ E m6 6 (tv T)]) Z (qX3_isBent E h m1 m2 m3 m4 m5 m6 nb dn T a) iX3_isBent gX3_own_X3_isBent ⟨rfl, rfl⟩ ⟨Nat.le_of_ble_eq_true rfl, Nat.le_of_ble_eq_true rfl⟩ dX3_own_2 rfl rfl (Nat.le_of_ble_eq_true rfl) ⟨Nat.zero_le _, Nat.zero_le _⟩ [0] rfl rfl 0 rfl rfl rfl rfl rfl ?_
  refine g_ifb_ne (tgt := 11) Z dX3_own_5 (by decide) (fun c_5 => ?_) (fun c_5 => absurd c_5 (fun q => q ha))
  refine g_aload_n Z dX3_own_11 0 rfl rfl ?_
  refine g_get Z dX3_own_12 0 rfl rfl nX3_own_X3 5 (by decide) fX3_own_26 rfl ?_
  refine g_bipush Z dX3_own_15 zb_12 ?_
  refine g_icmpN_ne (tgt := 23) Z dX3_own_17 (by decide) dn 12 rfl rfl (by omega) (by omega) (fun c_17 => ?_) (fun c_17 => absurd c_17 (by omega))
  refine g_aload_n Z dX3_own_23 0 rfl rfl ?_
  refine g_get Z dX3_own_24 0 rfl rfl nX3_own_X3 6 (by decide) fX3_own_29 rfl ?_
  refine g_aload_n Z dX3_own_27 0 rfl rfl ?_
  refine g_get Z dX3_own_28 0 rfl rfl nX3_own_X3 5 (by decide) fX3_own_26 rfl ?_
  refine g_iload_n Z dX3_own_31 1 rfl rfl ?_
  refine g_iast (w' := [cO h 3 [.int (nI nb), .ref m1, .ref m2, .ref m3, .ref m4, .int (nI dn), .ref m5, .ref m6, .long (tg T)], cI E m1 4 (mN n), cI E m2 32 (gl K), cI E m3 32 (gl F), cI E m4 32 (gl G), cI E m5 12 (upd D dn a), cJ E m6 6 (tv T)]) Z dX3_own_32 5 rfl dn rfl (by omega) rfl rfl ?_
  refine g_aload_n Z dX3_own_33 0 rfl rfl ?_
  refine g_dup Z dX3_own_34 rfl ?_
  refine g_get Z dX3_own_35 0 rfl rfl nX3_own_X3 5 (by decide) fX3_own_26 rfl ?_
  refine g_iconst Z dX3_own_38 zi_1 ?_
  refine g_iaddE (z := nI (dn + 1)) Z dX3_own_39 (nI_add dn 1) ?_
  refine g_put (w' := [cO h 3 [.int (nI nb), .ref m1, .ref m2, .ref m3, .ref m4, .int (nI (dn + 1)), .ref m5, .ref m6, .long (tg T)], cI E m1 4 (mN n), cI E m2 32 (gl K), cI E m3 32 (gl F), cI E m4 32 (gl G), cI E m5 12 (upd D dn a), cJ E m6 6 (tv T)]) Z dX3_own_40 0 rfl rfl nX3_own_X3 tyX3 tyX3_ok nmX3 5 (by decide) fX3_own_26 rfl rfl rfl rfl (Nat.le_of_ble_eq_true rfl) rfl ?_
  refine g_aload_n Z dX3_own_43 0 rfl rfl ?_
  refine g_get Z dX3_own_44 0 rfl rfl nX3_own_X3 5 (by decide) fX3_own_26 rfl ?_
  exact g_iret Z dX3_own_47 rfl ⟨Nat.zero_le _, Nat.zero_le _⟩ ⟨rfl, rfl⟩

abbrev rX3_fit : Room := { frames := 6, cells := 0, slots := 0, locals := 146 }
theorem iX3_fit : zInfo yX3_fit wsX3_fit RX3 4 (some .int) 2 := ⟨_, _, rfl, by decide +kernel⟩
set_option maxHeartbeats 4000000 in
set_option maxRecDepth 100000 in
theorem qX3_fitN (E : zE) (h m1 m2 m3 m4 m5 m6 : Nat) (nb dn : Nat) (n : Nat → Nat) (K F G : Nat → Nat → Int32) (D : Nat → Int32) (T : TB) (b i : Int32) (hnb : nb ≤ 4) (hn : ∀ b, n b ≤ 8) (hv : ¬ ∃ j, j < nb ∧ b = nI j ∧ inB (n j) i) : zF E yX3_fit wsX3_fit rX3_fit [.ref h, .int b, .int i] [cO h 3 [.int (nI nb), .ref m1, .ref m2, .ref m3, .ref m4, .int (nI dn), .ref m5, .ref m6, .long (tg T)], cI E m1 4 (mN n), cI E m2 32 (gl K), cI E m3 32 (gl F), cI E m4 32 (gl G), cI E m5 12 D, cJ E m6 6 (tv T)] (zx (some (.int (-1))) ([cO h 3 [.int (nI nb), .ref m1, .ref m2, .ref m3, .ref m4, .int (nI dn), .ref m5, .ref m6, .long (tg T)], cI E m1 4 (mN n), cI E m2 32 (gl K), cI E m3 32 (gl F), cI E m4 32 (gl G), cI E m5 12 D, cJ E m6 6 (tv T)])) := by
  refine z_start RX3 "fit" (by decide) rfl rfl rfl (Nat.le_of_ble_eq_true rfl) ?_
  intro J Z
  refine g_eq Z (lv2 := [(0, .ref h), (1, .int b), (2, .int i)]) rfl rfl rfl ?_
  by_cases hb : inB nb b
  · obtain ⟨j, hj, rfl⟩ := inB_of hb
    have hnj := hn j
    refine g_aload_n Z dX3_fit_0 0 rfl rfl ?_
    refine g_iload_n Z dX3_fit_1 1 rfl rfl ?_
    refine g_iload_n Z dX3_fit_2 2 rfl rfl ?_
    refine g_callVx (w' := [cO h 3 [.int (nI nb), .ref m1, .ref m2, .ref m3, .ref m4, .int (nI dn), .ref m5, .ref m6, .long (tg T)], cI E m1 4 (mN n), cI E m2 32 (gl K), cI E m3 32 (gl F), cI E m4 32 (gl G), cI E m5 12 D, cJ E m6 6 (tv T)]) Z (qX3_isPart E h m1 m2 m3 m4 m5 m6 nb dn T n j i hnb hn (by omega)) iX3_isPart gX3_fit_X3_isPart ⟨rfl, rfl⟩ ⟨Nat.le_of_ble_eq_true rfl, Nat.le_of_ble_eq_true rfl⟩ dX3_fit_3 rfl rfl (Nat.le_of_ble_eq_true rfl) ⟨Nat.zero_le _, Nat.zero_le _⟩ [0, 1] rfl rfl 0 rfl rfl rfl rfl rfl ?_
    refine g_ifb_ne (tgt := 11) Z dX3_fit_6 (by decide) (fun c_6 => absurd c_6 (fun q => hv ⟨j, hj, rfl, q⟩)) (fun c_6 => ?_)
    refine g_iconst Z dX3_fit_9 zi_m1 ?_
    exact g_iret Z dX3_fit_10 rfl ⟨Nat.zero_le _, Nat.zero_le _⟩ ⟨rfl, rfl⟩
  · refine g_aload_n Z dX3_fit_0 0 rfl rfl ?_
    refine g_iload_n Z dX3_fit_1 1 rfl rfl ?_
    refine g_iload_n Z dX3_fit_2 2 rfl rfl ?_
    refine g_callVx (w' := [cO h 3 [.int (nI nb), .ref m1, .ref m2, .ref m3, .ref m4, .int (nI dn), .ref m5, .ref m6, .long (tg T)], cI E m1 4 (mN n), cI E m2 32 (gl K), cI E m3 32 (gl F), cI E m4 32 (gl G), cI E m5 12 D, cJ E m6 6 (tv T)]) Z (qX3_isPartO E h m1 m2 m3 m4 m5 m6 nb dn T n b i hnb hn hb) iX3_isPart gX3_fit_X3_isPart ⟨rfl, rfl⟩ ⟨Nat.le_of_ble_eq_true rfl, Nat.le_of_ble_eq_true rfl⟩ dX3_fit_3 rfl rfl (Nat.le_of_ble_eq_true rfl) ⟨Nat.zero_le _, Nat.zero_le _⟩ [0, 1] rfl rfl 0 rfl rfl rfl rfl rfl ?_
    refine g_ifb_ne (tgt := 11) Z dX3_fit_6 (by decide) (fun c_6 => absurd c_6 id) (fun c_6 => ?_)
    refine g_iconst Z dX3_fit_9 zi_m1 ?_
    exact g_iret Z dX3_fit_10 rfl ⟨Nat.zero_le _, Nat.zero_le _⟩ ⟨rfl, rfl⟩

theorem nX3_fit_X3 : ∀ w ∈ wsX30, w ∈ wsX3_fit := by decide +kernel
theorem fX3_fit_17 : Cond.fieldLink RX3 17 (TX3 2).1 (TX3 2).2.1 (TX3 2).2.2.1 ∈ wsX3_fit := by decide +kernel
set_option maxHeartbeats 4000000 in
set_option maxRecDepth 100000 in
theorem qX3_fitS (E : zE) (h m1 m2 m3 m4 m5 m6 : Nat) (nb dn : Nat) (n : Nat → Nat) (K F G : Nat → Nat → Int32) (D : Nat → Int32) (T : TB) (j p : Nat) (hnb : nb ≤ 4) (hn : ∀ b, n b ≤ 8) (hj : j < nb) (hp : p < n j) (hk : ¬ K j p = 1) : zF E yX3_fit wsX3_fit rX3_fit [.ref h, .int (nI j), .int (nI p)] [cO h 3 [.int (nI nb), .ref m1, .ref m2, .ref m3, .ref m4, .int (nI dn), .ref m5, .ref m6, .long (tg T)], cI E m1 4 (mN n), cI E m2 32 (gl K), cI E m3 32 (gl F), cI E m4 32 (gl G), cI E m5 12 D, cJ E m6 6 (tv T)] (zx (some (.int (-3))) ([cO h 3 [.int (nI nb), .ref m1, .ref m2, .ref m3, .ref m4, .int (nI dn), .ref m5, .ref m6, .long (tg T)], cI E m1 4 (mN n), cI E m2 32 (gl K), cI E m3 32 (gl F), cI E m4 32 (gl G), cI E m5 12 D, cJ E m6 6 (tv T)])) := by
  refine z_start RX3 "fit" (by decide) rfl rfl rfl (Nat.le_of_ble_eq_true rfl) ?_
  intro J Z
  refine g_eq Z (lv2 := [(0, .ref h), (1, .int (nI j)), (2, .int (nI p))]) rfl rfl rfl ?_
  have hnj := hn j
  refine g_aload_n Z dX3_fit_0 0 rfl rfl ?_
  refine g_iload_n Z dX3_fit_1 1 rfl rfl ?_
  refine g_iload_n Z dX3_fit_2 2 rfl rfl ?_
  refine g_callVx (w' := [cO h 3 [.int (nI nb), .ref m1, .ref m2, .ref m3, .ref m4, .int (nI dn), .ref m5, .ref m6, .long (tg T)], cI E m1 4 (mN n), cI E m2 32 (gl K), cI E m3 32 (gl F), cI E m4 32 (gl G), cI E m5 12 D, cJ E m6 6 (tv T)]) Z (qX3_isPart E h m1 m2 m3 m4 m5 m6 nb dn T n j (nI p) hnb hn (by omega)) iX3_isPart gX3_fit_X3_isPart ⟨rfl, rfl⟩ ⟨Nat.le_of_ble_eq_true rfl, Nat.le_of_ble_eq_true rfl⟩ dX3_fit_3 rfl rfl (Nat.le_of_ble_eq_true rfl) ⟨Nat.zero_le _, Nat.zero_le _⟩ [0, 1] rfl rfl 0 rfl rfl rfl rfl rfl ?_
  refine g_ifb_ne (tgt := 11) Z dX3_fit_6 (by decide) (fun c_6 => ?_) (fun c_6 => absurd c_6 (fun q => q (inB_nI hp (by omega))))
  refine g_aload_n Z dX3_fit_11 0 rfl rfl ?_
  refine g_get Z dX3_fit_12 0 rfl rfl nX3_fit_X3 2 (by decide) fX3_fit_17 rfl ?_
  refine g_bipush Z dX3_fit_15 zb_8 ?_
  refine g_iload_n Z dX3_fit_17 1 rfl rfl ?_
  refine g_imulE (z := nI (8 * j)) Z dX3_fit_18 (pk_mul 8 j) ?_
  refine g_iload_n Z dX3_fit_19 2 rfl rfl ?_
  refine g_iaddE (z := nI (8 * j + p)) Z dX3_fit_20 (nI_add (8 * j) p) ?_
  refine g_ialdE (v := K j p) Z dX3_fit_21 2 rfl (8 * j + p) rfl (by omega) rfl (gl_at _ (j := j) (p := p) (by omega) (by omega)) ?_
  refine g_iconst Z dX3_fit_22 zi_1 ?_
  refine g_icmp_eq (tgt := 29) Z dX3_fit_23 (by decide) (fun c_23 => absurd c_23 hk) (fun c_23 => ?_)
  refine g_bipush Z dX3_fit_26 zb_m3 ?_
  exact g_iret Z dX3_fit_28 rfl ⟨Nat.zero_le _, Nat.zero_le _⟩ ⟨rfl, rfl⟩

theorem fX3_fit_26 : Cond.fieldLink RX3 26 (TX3 5).1 (TX3 5).2.1 (TX3 5).2.2.1 ∈ wsX3_fit := by decide +kernel
theorem fX3_fit_29 : Cond.fieldLink RX3 29 (TX3 6).1 (TX3 6).2.1 (TX3 6).2.2.1 ∈ wsX3_fit := by decide +kernel
set_option maxHeartbeats 4000000 in
set_option maxRecDepth 100000 in
theorem lX3_fit (E : zE) (h m1 m2 m3 m4 m5 m6 : Nat) (nb dn : Nat) (n : Nat → Nat) (K F G : Nat → Nat → Int32) (D : Nat → Int32) (T : TB) (j p : Nat) (hnb : nb ≤ 4) (hn : ∀ b, n b ≤ 8) (hj : j < nb) (hp : p < n j) (hd : dn ≤ 12) (hk : K j p = 1) {J : zJ} (Z : zOk E J RX3 cX3_fit 4 (some .int) wsX3_fit rX3_fit "fit" (fun _ => True) (fun ov wv => ov = some (.int (fitM (K j) (F j) (G j) D (n j) p 0 dn)) ∧ ∃ T2 : TB, wv = [cO h 3 [.int (nI nb), .ref m1, .ref m2, .ref m3, .ref m4, .int (nI dn), .ref m5, .ref m6, .long (tg T2)], cI E m1 4 (mN n), cI E m2 32 (gl K), cI E m3 32 (gl F), cI E m4 32 (gl G), cI E m5 12 D, cJ E m6 6 (tv T2)]))  : ∀ (d : Nat) (q : Nat) (T2 : TB), q + d = dn → fitM (K j) (F j) (G j) D (n j) p q d = fitM (K j) (F j) (G j) D (n j) p 0 dn → J 0 0 [cO h 3 [.int (nI nb), .ref m1, .ref m2, .ref m3, .ref m4, .int (nI dn), .ref m5, .ref m6, .long (tg T2)], cI E m1 4 (mN n), cI E m2 32 (gl K), cI E m3 32 (gl F), cI E m4 32 (gl G), cI E m5 12 D, cJ E m6 6 (tv T2)] 31 [(3, .int (nI q)), (0, .ref h), (1, .int (nI j)), (2, .int (nI p))] [] := by
  intro d
  induction d with
  | zero =>
    intro q T2 h1 h2
    have hnj := hn j
    refine g_iload_n Z dX3_fit_31 0 rfl rfl ?_
    refine g_aload_n Z dX3_fit_32 1 rfl rfl ?_
    refine g_get Z dX3_fit_33 0 rfl rfl nX3_fit_X3 5 (by decide) fX3_fit_26 rfl ?_
    refine g_icmpN_ge (tgt := 62) Z dX3_fit_36 (by decide) q dn rfl rfl (by omega) (by omega) (fun c_36 => ?_) (fun c_36 => absurd c_36 (by omega))
    refine g_iconst Z dX3_fit_62 zi_m1 ?_
    exact g_iret Z dX3_fit_63 rfl ⟨Nat.zero_le _, Nat.zero_le _⟩ ⟨by rw [← h2]; rfl, _, rfl⟩
  | succ d ih =>
    intro q T2 h1 h2
    have hnj := hn j
    refine g_iload_n Z dX3_fit_31 0 rfl rfl ?_
    refine g_aload_n Z dX3_fit_32 1 rfl rfl ?_
    refine g_get Z dX3_fit_33 0 rfl rfl nX3_fit_X3 5 (by decide) fX3_fit_26 rfl ?_
    refine g_icmpN_ge (tgt := 62) Z dX3_fit_36 (by decide) q dn rfl rfl (by omega) (by omega) (fun c_36 => absurd c_36 (by omega)) (fun c_36 => ?_)
    refine g_aload_n Z dX3_fit_39 1 rfl rfl ?_
    refine g_iload_n Z dX3_fit_40 2 rfl rfl ?_
    refine g_iload_n Z dX3_fit_41 3 rfl rfl ?_
    refine g_aload_n Z dX3_fit_42 1 rfl rfl ?_
    refine g_get Z dX3_fit_43 0 rfl rfl nX3_fit_X3 6 (by decide) fX3_fit_29 rfl ?_
    refine g_iload_n Z dX3_fit_46 0 rfl rfl ?_
    refine g_iald Z dX3_fit_47 5 rfl q rfl (by omega) rfl ?_
    refine g_callVx (w' := [cO h 3 [.int (nI nb), .ref m1, .ref m2, .ref m3, .ref m4, .int (nI dn), .ref m5, .ref m6, .long (tg (hbT (tabM (K j) (upd (F j) p (D q)) (G j) 0 (n j)) (tabM (K j) (upd (F j) p (D q)) (G j) 1 (n j))))], cI E m1 4 (mN n), cI E m2 32 (gl K), cI E m3 32 (gl F), cI E m4 32 (gl G), cI E m5 12 D, cJ E m6 6 (tv (hbT (tabM (K j) (upd (F j) p (D q)) (G j) 0 (n j)) (tabM (K j) (upd (F j) p (D q)) (G j) 1 (n j))))]) Z (qX3_holdsWith E h m1 m2 m3 m4 m5 m6 nb dn n K F G D T2 j p (D q) hnj (by omega) (by omega)) iX3_holdsWith gX3_fit_X3_holdsWith ⟨rfl, rfl⟩ ⟨Nat.le_of_ble_eq_true rfl, Nat.le_of_ble_eq_true rfl⟩ dX3_fit_48 rfl rfl (Nat.le_of_ble_eq_true rfl) ⟨Nat.zero_le _, Nat.zero_le _⟩ [0, 1, 2, 3, 4, 5, 6] rfl rfl 0 rfl rfl rfl rfl rfl ?_
    refine g_ifb_eq (tgt := 56) Z dX3_fit_51 (by decide) (fun c_51 => ?_) (fun c_51 => ?_)
    · refine g_iinc (lv' := [(3, .int (nI (q + 1))), (0, .ref h), (1, .int (nI j)), (2, .int (nI p))]) Z dX3_fit_56 0 rfl (zinc _) (by decide) rfl ?_
      refine g_goto (tgt := 31) Z dX3_fit_59 (by decide) ?_
      rw [fitM, if_neg c_51] at h2
      refine g_lv (lv2 := [(3, .int (nI (q + 1))), (0, .ref h), (1, .int (nI j)), (2, .int (nI p))]) Z [0, 1, 2, 3] rfl ?_
      exact ih (q + 1) _ (by omega) h2
    · rw [fitM, if_pos c_51] at h2
      refine g_iload_n Z dX3_fit_54 0 rfl rfl ?_
      exact g_iret Z dX3_fit_55 rfl ⟨Nat.zero_le _, Nat.zero_le _⟩ ⟨by rw [← h2], _, rfl⟩
set_option maxHeartbeats 4000000 in
set_option maxRecDepth 100000 in
theorem qX3_fit (E : zE) (h m1 m2 m3 m4 m5 m6 : Nat) (nb dn : Nat) (n : Nat → Nat) (K F G : Nat → Nat → Int32) (D : Nat → Int32) (T : TB) (j p : Nat) (hnb : nb ≤ 4) (hn : ∀ b, n b ≤ 8) (hj : j < nb) (hp : p < n j) (hd : dn ≤ 12) (hk : K j p = 1) : zF E yX3_fit wsX3_fit rX3_fit [.ref h, .int (nI j), .int (nI p)] [cO h 3 [.int (nI nb), .ref m1, .ref m2, .ref m3, .ref m4, .int (nI dn), .ref m5, .ref m6, .long (tg T)], cI E m1 4 (mN n), cI E m2 32 (gl K), cI E m3 32 (gl F), cI E m4 32 (gl G), cI E m5 12 D, cJ E m6 6 (tv T)] (fun ov wv => ov = some (.int (fitM (K j) (F j) (G j) D (n j) p 0 dn)) ∧ ∃ T2 : TB, wv = [cO h 3 [.int (nI nb), .ref m1, .ref m2, .ref m3, .ref m4, .int (nI dn), .ref m5, .ref m6, .long (tg T2)], cI E m1 4 (mN n), cI E m2 32 (gl K), cI E m3 32 (gl F), cI E m4 32 (gl G), cI E m5 12 D, cJ E m6 6 (tv T2)]) := by
  refine z_start RX3 "fit" (by decide) rfl rfl rfl (Nat.le_of_ble_eq_true rfl) ?_
  intro J Z
  refine g_eq Z (lv2 := [(0, .ref h), (1, .int (nI j)), (2, .int (nI p))]) rfl rfl rfl ?_
  have hnj := hn j
  refine g_aload_n Z dX3_fit_0 0 rfl rfl ?_
  refine g_iload_n Z dX3_fit_1 1 rfl rfl ?_
  refine g_iload_n Z dX3_fit_2 2 rfl rfl ?_
  refine g_callVx (w' := [cO h 3 [.int (nI nb), .ref m1, .ref m2, .ref m3, .ref m4, .int (nI dn), .ref m5, .ref m6, .long (tg T)], cI E m1 4 (mN n), cI E m2 32 (gl K), cI E m3 32 (gl F), cI E m4 32 (gl G), cI E m5 12 D, cJ E m6 6 (tv T)]) Z (qX3_isPart E h m1 m2 m3 m4 m5 m6 nb dn T n j (nI p) hnb hn (by omega)) iX3_isPart gX3_fit_X3_isPart ⟨rfl, rfl⟩ ⟨Nat.le_of_ble_eq_true rfl, Nat.le_of_ble_eq_true rfl⟩ dX3_fit_3 rfl rfl (Nat.le_of_ble_eq_true rfl) ⟨Nat.zero_le _, Nat.zero_le _⟩ [0, 1] rfl rfl 0 rfl rfl rfl rfl rfl ?_
  refine g_ifb_ne (tgt := 11) Z dX3_fit_6 (by decide) (fun c_6 => ?_) (fun c_6 => absurd c_6 (fun q => q (inB_nI hp (by omega))))
  refine g_aload_n Z dX3_fit_11 0 rfl rfl ?_
  refine g_get Z dX3_fit_12 0 rfl rfl nX3_fit_X3 2 (by decide) fX3_fit_17 rfl ?_
  refine g_bipush Z dX3_fit_15 zb_8 ?_
  refine g_iload_n Z dX3_fit_17 1 rfl rfl ?_
  refine g_imulE (z := nI (8 * j)) Z dX3_fit_18 (pk_mul 8 j) ?_
  refine g_iload_n Z dX3_fit_19 2 rfl rfl ?_
  refine g_iaddE (z := nI (8 * j + p)) Z dX3_fit_20 (nI_add (8 * j) p) ?_
  refine g_ialdE (v := K j p) Z dX3_fit_21 2 rfl (8 * j + p) rfl (by omega) rfl (gl_at _ (j := j) (p := p) (by omega) (by omega)) ?_
  refine g_iconst Z dX3_fit_22 zi_1 ?_
  refine g_icmp_eq (tgt := 29) Z dX3_fit_23 (by decide) (fun c_23 => ?_) (fun c_23 => absurd c_23 (fun q => q hk))
  refine g_iconst Z dX3_fit_29 zi_0 ?_
  refine g_istore_n (lv' := [(3, .int 0), (0, .ref h), (1, .int (nI j)), (2, .int (nI p))]) Z dX3_fit_30 rfl (by decide) rfl ?_
  exact lX3_fit E h m1 m2 m3 m4 m5 m6 nb dn n K F G D T j p hnb hn hj hp hd hk Z dn 0 T (by omega) rfl

abbrev rX3_swap : Room := { frames := 3, cells := 0, slots := 0, locals := 66 }
theorem iX3_swap : zInfo yX3_swap wsX3_swap RX3 5 (some .int) 3 := ⟨_, _, rfl, by decide +kernel⟩
theorem nX3_swap_X3 : ∀ w ∈ wsX30, w ∈ wsX3_swap := by decide +kernel
theorem fX3_swap_26 : Cond.fieldLink RX3 26 (TX3 5).1 (TX3 5).2.1 (TX3 5).2.2.1 ∈ wsX3_swap := by decide +kernel
set_option maxHeartbeats 4000000 in
set_option maxRecDepth 100000 in
theorem qX3_swapN (E : zE) (h m1 m2 m3 m4 m5 m6 : Nat) (nb dn : Nat) (n : Nat → Nat) (K F G : Nat → Nat → Int32) (D : Nat → Int32) (T : TB) (b i v : Int32) (hnb : nb ≤ 4) (hn : ∀ b, n b ≤ 8) (hd : dn ≤ 12) (hv : ¬ ∃ j, j < nb ∧ b = nI j ∧ inB (n j) i ∧ inB dn v) : zF E yX3_swap wsX3_swap rX3_swap [.ref h, .int b, .int i, .int v] [cO h 3 [.int (nI nb), .ref m1, .ref m2, .ref m3, .ref m4, .int (nI dn), .ref m5, .ref m6, .long (tg T)], cI E m1 4 (mN n), cI E m2 32 (gl K), cI E m3 32 (gl F), cI E m4 32 (gl G), cI E m5 12 D, cJ E m6 6 (tv T)] (zx (some (.int (-1))) ([cO h 3 [.int (nI nb), .ref m1, .ref m2, .ref m3, .ref m4, .int (nI dn), .ref m5, .ref m6, .long (tg T)], cI E m1 4 (mN n), cI E m2 32 (gl K), cI E m3 32 (gl F), cI E m4 32 (gl G), cI E m5 12 D, cJ E m6 6 (tv T)])) := by
  refine z_start RX3 "swap" (by decide) rfl rfl rfl (Nat.le_of_ble_eq_true rfl) ?_
  intro J Z
  refine g_eq Z (lv2 := [(0, .ref h), (1, .int b), (2, .int i), (3, .int v)]) rfl rfl rfl ?_
  by_cases hb : inB nb b
  · obtain ⟨j, hj, rfl⟩ := inB_of hb
    have hnj := hn j
    refine g_aload_n Z dX3_swap_0 0 rfl rfl ?_
    refine g_iload_n Z dX3_swap_1 1 rfl rfl ?_
    refine g_iload_n Z dX3_swap_2 2 rfl rfl ?_
    refine g_callVx (w' := [cO h 3 [.int (nI nb), .ref m1, .ref m2, .ref m3, .ref m4, .int (nI dn), .ref m5, .ref m6, .long (tg T)], cI E m1 4 (mN n), cI E m2 32 (gl K), cI E m3 32 (gl F), cI E m4 32 (gl G), cI E m5 12 D, cJ E m6 6 (tv T)]) Z (qX3_isPart E h m1 m2 m3 m4 m5 m6 nb dn T n j i hnb hn (by omega)) iX3_isPart gX3_swap_X3_isPart ⟨rfl, rfl⟩ ⟨Nat.le_of_ble_eq_true rfl, Nat.le_of_ble_eq_true rfl⟩ dX3_swap_3 rfl rfl (Nat.le_of_ble_eq_true rfl) ⟨Nat.zero_le _, Nat.zero_le _⟩ [0, 1] rfl rfl 0 rfl rfl rfl rfl rfl ?_
    refine g_ifb_eq (tgt := 24) Z dX3_swap_6 (by decide) (fun c_6 => ?_) (fun c_6 => ?_)
    · refine g_iconst Z dX3_swap_24 zi_m1 ?_
      exact g_iret Z dX3_swap_25 rfl ⟨Nat.zero_le _, Nat.zero_le _⟩ ⟨rfl, rfl⟩
    · refine g_aload_n Z dX3_swap_9 0 rfl rfl ?_
      refine g_iload_n Z dX3_swap_10 3 rfl rfl ?_
      refine g_iconst Z dX3_swap_11 zi_0 ?_
      refine g_aload_n Z dX3_swap_12 0 rfl rfl ?_
      refine g_get Z dX3_swap_13 0 rfl rfl nX3_swap_X3 5 (by decide) fX3_swap_26 rfl ?_
      refine g_iconst Z dX3_swap_16 zi_1 ?_
      refine g_isub Z dX3_swap_17 ?_
      refine g_callVx (w' := [cO h 3 [.int (nI nb), .ref m1, .ref m2, .ref m3, .ref m4, .int (nI dn), .ref m5, .ref m6, .long (tg T)], cI E m1 4 (mN n), cI E m2 32 (gl K), cI E m3 32 (gl F), cI E m4 32 (gl G), cI E m5 12 D, cJ E m6 6 (tv T)]) Z (qX3_in E h m1 m2 m3 m4 m5 m6 nb dn T v 0 ((nI dn) - 1)) iX3_in gX3_swap_X3_in ⟨rfl, rfl⟩ ⟨Nat.le_of_ble_eq_true rfl, Nat.le_of_ble_eq_true rfl⟩ dX3_swap_18 rfl rfl (Nat.le_of_ble_eq_true rfl) ⟨Nat.zero_le _, Nat.zero_le _⟩ [0] rfl rfl 0 rfl rfl rfl rfl rfl ?_
      refine g_ifb_ne (tgt := 26) Z dX3_swap_21 (by decide) (fun c_21 => ?_) (fun c_21 => ?_)
      · exact absurd ⟨j, hj, rfl, c_6, (inB_M (by omega)).mp c_21⟩ hv
      · refine g_iconst Z dX3_swap_24 zi_m1 ?_
        exact g_iret Z dX3_swap_25 rfl ⟨Nat.zero_le _, Nat.zero_le _⟩ ⟨rfl, rfl⟩
  · refine g_aload_n Z dX3_swap_0 0 rfl rfl ?_
    refine g_iload_n Z dX3_swap_1 1 rfl rfl ?_
    refine g_iload_n Z dX3_swap_2 2 rfl rfl ?_
    refine g_callVx (w' := [cO h 3 [.int (nI nb), .ref m1, .ref m2, .ref m3, .ref m4, .int (nI dn), .ref m5, .ref m6, .long (tg T)], cI E m1 4 (mN n), cI E m2 32 (gl K), cI E m3 32 (gl F), cI E m4 32 (gl G), cI E m5 12 D, cJ E m6 6 (tv T)]) Z (qX3_isPartO E h m1 m2 m3 m4 m5 m6 nb dn T n b i hnb hn hb) iX3_isPart gX3_swap_X3_isPart ⟨rfl, rfl⟩ ⟨Nat.le_of_ble_eq_true rfl, Nat.le_of_ble_eq_true rfl⟩ dX3_swap_3 rfl rfl (Nat.le_of_ble_eq_true rfl) ⟨Nat.zero_le _, Nat.zero_le _⟩ [0, 1] rfl rfl 0 rfl rfl rfl rfl rfl ?_
    refine g_ifb_eq (tgt := 24) Z dX3_swap_6 (by decide) (fun c_6 => ?_) (fun c_6 => absurd c_6 id)
    refine g_iconst Z dX3_swap_24 zi_m1 ?_
    exact g_iret Z dX3_swap_25 rfl ⟨Nat.zero_le _, Nat.zero_le _⟩ ⟨rfl, rfl⟩

theorem fX3_swap_17 : Cond.fieldLink RX3 17 (TX3 2).1 (TX3 2).2.1 (TX3 2).2.2.1 ∈ wsX3_swap := by decide +kernel
set_option maxHeartbeats 4000000 in
set_option maxRecDepth 100000 in
theorem qX3_swapS (E : zE) (h m1 m2 m3 m4 m5 m6 : Nat) (nb dn : Nat) (n : Nat → Nat) (K F G : Nat → Nat → Int32) (D : Nat → Int32) (T : TB) (j p : Nat) (q : Nat) (hnb : nb ≤ 4) (hn : ∀ b, n b ≤ 8) (hj : j < nb) (hp : p < n j) (hd : dn ≤ 12) (hq : q < dn) (hk : ¬ K j p = 1) : zF E yX3_swap wsX3_swap rX3_swap [.ref h, .int (nI j), .int (nI p), .int (nI q)] [cO h 3 [.int (nI nb), .ref m1, .ref m2, .ref m3, .ref m4, .int (nI dn), .ref m5, .ref m6, .long (tg T)], cI E m1 4 (mN n), cI E m2 32 (gl K), cI E m3 32 (gl F), cI E m4 32 (gl G), cI E m5 12 D, cJ E m6 6 (tv T)] (zx (some (.int (-3))) ([cO h 3 [.int (nI nb), .ref m1, .ref m2, .ref m3, .ref m4, .int (nI dn), .ref m5, .ref m6, .long (tg T)], cI E m1 4 (mN n), cI E m2 32 (gl K), cI E m3 32 (gl F), cI E m4 32 (gl G), cI E m5 12 D, cJ E m6 6 (tv T)])) := by
  refine z_start RX3 "swap" (by decide) rfl rfl rfl (Nat.le_of_ble_eq_true rfl) ?_
  intro J Z
  refine g_eq Z (lv2 := [(0, .ref h), (1, .int (nI j)), (2, .int (nI p)), (3, .int (nI q))]) rfl rfl rfl ?_
  have hnj := hn j
  refine g_aload_n Z dX3_swap_0 0 rfl rfl ?_
  refine g_iload_n Z dX3_swap_1 1 rfl rfl ?_
  refine g_iload_n Z dX3_swap_2 2 rfl rfl ?_
  refine g_callVx (w' := [cO h 3 [.int (nI nb), .ref m1, .ref m2, .ref m3, .ref m4, .int (nI dn), .ref m5, .ref m6, .long (tg T)], cI E m1 4 (mN n), cI E m2 32 (gl K), cI E m3 32 (gl F), cI E m4 32 (gl G), cI E m5 12 D, cJ E m6 6 (tv T)]) Z (qX3_isPart E h m1 m2 m3 m4 m5 m6 nb dn T n j (nI p) hnb hn (by omega)) iX3_isPart gX3_swap_X3_isPart ⟨rfl, rfl⟩ ⟨Nat.le_of_ble_eq_true rfl, Nat.le_of_ble_eq_true rfl⟩ dX3_swap_3 rfl rfl (Nat.le_of_ble_eq_true rfl) ⟨Nat.zero_le _, Nat.zero_le _⟩ [0, 1] rfl rfl 0 rfl rfl rfl rfl rfl ?_
  refine g_ifb_eq (tgt := 24) Z dX3_swap_6 (by decide) (fun c_6 => absurd c_6 (fun q => q (inB_nI hp (by omega)))) (fun c_6 => ?_)
  refine g_aload_n Z dX3_swap_9 0 rfl rfl ?_
  refine g_iload_n Z dX3_swap_10 3 rfl rfl ?_
  refine g_iconst Z dX3_swap_11 zi_0 ?_
  refine g_aload_n Z dX3_swap_12 0 rfl rfl ?_
  refine g_get Z dX3_swap_13 0 rfl rfl nX3_swap_X3 5 (by decide) fX3_swap_26 rfl ?_
  refine g_iconst Z dX3_swap_16 zi_1 ?_
  refine g_isub Z dX3_swap_17 ?_
  refine g_callVx (w' := [cO h 3 [.int (nI nb), .ref m1, .ref m2, .ref m3, .ref m4, .int (nI dn), .ref m5, .ref m6, .long (tg T)], cI E m1 4 (mN n), cI E m2 32 (gl K), cI E m3 32 (gl F), cI E m4 32 (gl G), cI E m5 12 D, cJ E m6 6 (tv T)]) Z (qX3_in E h m1 m2 m3 m4 m5 m6 nb dn T (nI q) 0 ((nI dn) - 1)) iX3_in gX3_swap_X3_in ⟨rfl, rfl⟩ ⟨Nat.le_of_ble_eq_true rfl, Nat.le_of_ble_eq_true rfl⟩ dX3_swap_18 rfl rfl (Nat.le_of_ble_eq_true rfl) ⟨Nat.zero_le _, Nat.zero_le _⟩ [0] rfl rfl 0 rfl rfl rfl rfl rfl ?_
  refine g_ifb_ne (tgt := 26) Z dX3_swap_21 (by decide) (fun c_21 => ?_) (fun c_21 => absurd c_21 (fun z => z ((inB_M (by omega)).mpr (inB_nI hq (by omega)))))
  refine g_aload_n Z dX3_swap_26 0 rfl rfl ?_
  refine g_get Z dX3_swap_27 0 rfl rfl nX3_swap_X3 2 (by decide) fX3_swap_17 rfl ?_
  refine g_bipush Z dX3_swap_30 zb_8 ?_
  refine g_iload_n Z dX3_swap_32 1 rfl rfl ?_
  refine g_imulE (z := nI (8 * j)) Z dX3_swap_33 (pk_mul 8 j) ?_
  refine g_iload_n Z dX3_swap_34 2 rfl rfl ?_
  refine g_iaddE (z := nI (8 * j + p)) Z dX3_swap_35 (nI_add (8 * j) p) ?_
  refine g_ialdE (v := K j p) Z dX3_swap_36 2 rfl (8 * j + p) rfl (by omega) rfl (gl_at _ (j := j) (p := p) (by omega) (by omega)) ?_
  refine g_iconst Z dX3_swap_37 zi_1 ?_
  refine g_icmp_eq (tgt := 44) Z dX3_swap_38 (by decide) (fun c_38 => absurd c_38 hk) (fun c_38 => ?_)
  refine g_bipush Z dX3_swap_41 zb_m3 ?_
  exact g_iret Z dX3_swap_43 rfl ⟨Nat.zero_le _, Nat.zero_le _⟩ ⟨rfl, rfl⟩

theorem fX3_swap_20 : Cond.fieldLink RX3 20 (TX3 3).1 (TX3 3).2.1 (TX3 3).2.2.1 ∈ wsX3_swap := by decide +kernel
theorem fX3_swap_29 : Cond.fieldLink RX3 29 (TX3 6).1 (TX3 6).2.1 (TX3 6).2.2.1 ∈ wsX3_swap := by decide +kernel
set_option maxHeartbeats 4000000 in
set_option maxRecDepth 100000 in
theorem qX3_swap (E : zE) (h m1 m2 m3 m4 m5 m6 : Nat) (nb dn : Nat) (n : Nat → Nat) (K F G : Nat → Nat → Int32) (D : Nat → Int32) (T : TB) (j p : Nat) (q : Nat) (hnb : nb ≤ 4) (hn : ∀ b, n b ≤ 8) (hj : j < nb) (hp : p < n j) (hd : dn ≤ 12) (hq : q < dn) (hk : K j p = 1) : zF E yX3_swap wsX3_swap rX3_swap [.ref h, .int (nI j), .int (nI p), .int (nI q)] [cO h 3 [.int (nI nb), .ref m1, .ref m2, .ref m3, .ref m4, .int (nI dn), .ref m5, .ref m6, .long (tg T)], cI E m1 4 (mN n), cI E m2 32 (gl K), cI E m3 32 (gl F), cI E m4 32 (gl G), cI E m5 12 D, cJ E m6 6 (tv T)] (zx (some (.int (F j p))) ([cO h 3 [.int (nI nb), .ref m1, .ref m2, .ref m3, .ref m4, .int (nI dn), .ref m5, .ref m6, .long (tg T)], cI E m1 4 (mN n), cI E m2 32 (gl K), cI E m3 32 (gl (va_up F j (upd (F j) p (D q)))), cI E m4 32 (gl G), cI E m5 12 (upd D q (F j p)), cJ E m6 6 (tv T)])) := by
  refine z_start RX3 "swap" (by decide) rfl rfl rfl (Nat.le_of_ble_eq_true rfl) ?_
  intro J Z
  refine g_eq Z (lv2 := [(0, .ref h), (1, .int (nI j)), (2, .int (nI p)), (3, .int (nI q))]) rfl rfl rfl ?_
  have hnj := hn j
  refine g_aload_n Z dX3_swap_0 0 rfl rfl ?_
  refine g_iload_n Z dX3_swap_1 1 rfl rfl ?_
  refine g_iload_n Z dX3_swap_2 2 rfl rfl ?_
  refine g_callVx (w' := [cO h 3 [.int (nI nb), .ref m1, .ref m2, .ref m3, .ref m4, .int (nI dn), .ref m5, .ref m6, .long (tg T)], cI E m1 4 (mN n), cI E m2 32 (gl K), cI E m3 32 (gl F), cI E m4 32 (gl G), cI E m5 12 D, cJ E m6 6 (tv T)]) Z (qX3_isPart E h m1 m2 m3 m4 m5 m6 nb dn T n j (nI p) hnb hn (by omega)) iX3_isPart gX3_swap_X3_isPart ⟨rfl, rfl⟩ ⟨Nat.le_of_ble_eq_true rfl, Nat.le_of_ble_eq_true rfl⟩ dX3_swap_3 rfl rfl (Nat.le_of_ble_eq_true rfl) ⟨Nat.zero_le _, Nat.zero_le _⟩ [0, 1] rfl rfl 0 rfl rfl rfl rfl rfl ?_
  refine g_ifb_eq (tgt := 24) Z dX3_swap_6 (by decide) (fun c_6 => absurd c_6 (fun q => q (inB_nI hp (by omega)))) (fun c_6 => ?_)
  refine g_aload_n Z dX3_swap_9 0 rfl rfl ?_
  refine g_iload_n Z dX3_swap_10 3 rfl rfl ?_
  refine g_iconst Z dX3_swap_11 zi_0 ?_
  refine g_aload_n Z dX3_swap_12 0 rfl rfl ?_
  refine g_get Z dX3_swap_13 0 rfl rfl nX3_swap_X3 5 (by decide) fX3_swap_26 rfl ?_
  refine g_iconst Z dX3_swap_16 zi_1 ?_
  refine g_isub Z dX3_swap_17 ?_
  refine g_callVx (w' := [cO h 3 [.int (nI nb), .ref m1, .ref m2, .ref m3, .ref m4, .int (nI dn), .ref m5, .ref m6, .long (tg T)], cI E m1 4 (mN n), cI E m2 32 (gl K), cI E m3 32 (gl F), cI E m4 32 (gl G), cI E m5 12 D, cJ E m6 6 (tv T)]) Z (qX3_in E h m1 m2 m3 m4 m5 m6 nb dn T (nI q) 0 ((nI dn) - 1)) iX3_in gX3_swap_X3_in ⟨rfl, rfl⟩ ⟨Nat.le_of_ble_eq_true rfl, Nat.le_of_ble_eq_true rfl⟩ dX3_swap_18 rfl rfl (Nat.le_of_ble_eq_true rfl) ⟨Nat.zero_le _, Nat.zero_le _⟩ [0] rfl rfl 0 rfl rfl rfl rfl rfl ?_
  refine g_ifb_ne (tgt := 26) Z dX3_swap_21 (by decide) (fun c_21 => ?_) (fun c_21 => absurd c_21 (fun z => z ((inB_M (by omega)).mpr (inB_nI hq (by omega)))))
  refine g_aload_n Z dX3_swap_26 0 rfl rfl ?_
  refine g_get Z dX3_swap_27 0 rfl rfl nX3_swap_X3 2 (by decide) fX3_swap_17 rfl ?_
  refine g_bipush Z dX3_swap_30 zb_8 ?_
  refine g_iload_n Z dX3_swap_32 1 rfl rfl ?_
  refine g_imulE (z := nI (8 * j)) Z dX3_swap_33 (pk_mul 8 j) ?_
  refine g_iload_n Z dX3_swap_34 2 rfl rfl ?_
  refine g_iaddE (z := nI (8 * j + p)) Z dX3_swap_35 (nI_add (8 * j) p) ?_
  refine g_ialdE (v := K j p) Z dX3_swap_36 2 rfl (8 * j + p) rfl (by omega) rfl (gl_at _ (j := j) (p := p) (by omega) (by omega)) ?_
  refine g_iconst Z dX3_swap_37 zi_1 ?_
  refine g_icmp_eq (tgt := 44) Z dX3_swap_38 (by decide) (fun c_38 => ?_) (fun c_38 => absurd c_38 (fun z => z hk))
  refine g_aload_n Z dX3_swap_44 0 rfl rfl ?_
  refine g_get Z dX3_swap_45 0 rfl rfl nX3_swap_X3 3 (by decide) fX3_swap_20 rfl ?_
  refine g_bipush Z dX3_swap_48 zb_8 ?_
  refine g_iload_n Z dX3_swap_50 1 rfl rfl ?_
  refine g_imulE (z := nI (8 * j)) Z dX3_swap_51 (pk_mul 8 j) ?_
  refine g_iload_n Z dX3_swap_52 2 rfl rfl ?_
  refine g_iaddE (z := nI (8 * j + p)) Z dX3_swap_53 (nI_add (8 * j) p) ?_
  refine g_ialdE (v := F j p) Z dX3_swap_54 3 rfl (8 * j + p) rfl (by omega) rfl (gl_at _ (j := j) (p := p) (by omega) (by omega)) ?_
  refine g_istore (lv' := [(4, .int (F j p)), (0, .ref h), (1, .int (nI j)), (2, .int (nI p)), (3, .int (nI q))]) Z dX3_swap_55 (by decide) rfl ?_
  refine g_aload_n Z dX3_swap_57 1 rfl rfl ?_
  refine g_get Z dX3_swap_58 0 rfl rfl nX3_swap_X3 3 (by decide) fX3_swap_20 rfl ?_
  refine g_bipush Z dX3_swap_61 zb_8 ?_
  refine g_iload_n Z dX3_swap_63 2 rfl rfl ?_
  refine g_imulE (z := nI (8 * j)) Z dX3_swap_64 (pk_mul 8 j) ?_
  refine g_iload_n Z dX3_swap_65 3 rfl rfl ?_
  refine g_iaddE (z := nI (8 * j + p)) Z dX3_swap_66 (nI_add (8 * j) p) ?_
  refine g_aload_n Z dX3_swap_67 1 rfl rfl ?_
  refine g_get Z dX3_swap_68 0 rfl rfl nX3_swap_X3 6 (by decide) fX3_swap_29 rfl ?_
  refine g_iload_n Z dX3_swap_71 4 rfl rfl ?_
  refine g_iald Z dX3_swap_72 5 rfl q rfl (by omega) rfl ?_
  refine g_iastE (w' := [cO h 3 [.int (nI nb), .ref m1, .ref m2, .ref m3, .ref m4, .int (nI dn), .ref m5, .ref m6, .long (tg T)], cI E m1 4 (mN n), cI E m2 32 (gl K), cI E m3 32 (gl (va_up F j (upd (F j) p (D q)))), cI E m4 32 (gl G), cI E m5 12 D, cJ E m6 6 (tv T)]) Z dX3_swap_73 3 rfl (8 * j + p) rfl (by omega) rfl (gl_set _ (j := j) (p := p) _ (by omega) (by omega)) rfl ?_
  refine g_aload_n Z dX3_swap_74 1 rfl rfl ?_
  refine g_get Z dX3_swap_75 0 rfl rfl nX3_swap_X3 6 (by decide) fX3_swap_29 rfl ?_
  refine g_iload_n Z dX3_swap_78 4 rfl rfl ?_
  refine g_iload Z dX3_swap_79 0 rfl ?_
  refine g_iast (w' := [cO h 3 [.int (nI nb), .ref m1, .ref m2, .ref m3, .ref m4, .int (nI dn), .ref m5, .ref m6, .long (tg T)], cI E m1 4 (mN n), cI E m2 32 (gl K), cI E m3 32 (gl (va_up F j (upd (F j) p (D q)))), cI E m4 32 (gl G), cI E m5 12 (upd D q (F j p)), cJ E m6 6 (tv T)]) Z dX3_swap_81 5 rfl q rfl (by omega) rfl rfl ?_
  refine g_iload Z dX3_swap_82 0 rfl ?_
  exact g_iret Z dX3_swap_84 rfl ⟨Nat.zero_le _, Nat.zero_le _⟩ ⟨rfl, rfl⟩

abbrev rX3_count : Room := { frames := 5, cells := 0, slots := 0, locals := 121 }
theorem iX3_count : zInfo yX3_count wsX3_count RX3 4 (some .int) 1 := ⟨_, _, rfl, by decide +kernel⟩
set_option maxHeartbeats 4000000 in
set_option maxRecDepth 100000 in
theorem qX3_countN (E : zE) (h m1 m2 m3 m4 m5 m6 : Nat) (nb dn : Nat) (n : Nat → Nat) (K F G : Nat → Nat → Int32) (D : Nat → Int32) (T : TB) (v : Int32) (hv : ¬ (v = 0 ∨ v = 1 ∨ v = 2 ∨ v = 3)) : zF E yX3_count wsX3_count rX3_count [.ref h, .int v] [cO h 3 [.int (nI nb), .ref m1, .ref m2, .ref m3, .ref m4, .int (nI dn), .ref m5, .ref m6, .long (tg T)], cI E m1 4 (mN n), cI E m2 32 (gl K), cI E m3 32 (gl F), cI E m4 32 (gl G), cI E m5 12 D, cJ E m6 6 (tv T)] (zx (some (.int (-1))) ([cO h 3 [.int (nI nb), .ref m1, .ref m2, .ref m3, .ref m4, .int (nI dn), .ref m5, .ref m6, .long (tg T)], cI E m1 4 (mN n), cI E m2 32 (gl K), cI E m3 32 (gl F), cI E m4 32 (gl G), cI E m5 12 D, cJ E m6 6 (tv T)])) := by
  refine z_start RX3 "count" (by decide) rfl rfl rfl (Nat.le_of_ble_eq_true rfl) ?_
  intro J Z
  refine g_eq Z (lv2 := [(0, .ref h), (1, .int v)]) rfl rfl rfl ?_
  refine g_iconst Z dX3_count_0 zi_0 ?_
  refine g_istore_n (lv' := [(2, .int 0), (0, .ref h), (1, .int v)]) Z dX3_count_1 rfl (by decide) rfl ?_
  refine g_iload_n Z dX3_count_2 2 rfl rfl ?_
  rcases z_sw3 v with c_3 | c_3 | c_3 | c_3 | c_3
  · refine g_tsin (tgt := 32) Z dX3_count_3 0 c_3 (by decide) rfl (by decide) ?_
    exact absurd (Or.inl c_3) hv
  · refine g_tsin (tgt := 37) Z dX3_count_3 1 c_3 (by decide) rfl (by decide) ?_
    exact absurd (Or.inr (Or.inl c_3)) hv
  · refine g_tsin (tgt := 64) Z dX3_count_3 2 c_3 (by decide) rfl (by decide) ?_
    exact absurd (Or.inr (Or.inr (Or.inl c_3))) hv
  · refine g_tsin (tgt := 69) Z dX3_count_3 3 c_3 (by decide) rfl (by decide) ?_
    exact absurd (Or.inr (Or.inr (Or.inr (c_3)))) hv
  · refine g_tsout (tgt := 103) Z dX3_count_3 c_3.1 (by decide) ?_
    refine g_iconst Z dX3_count_103 zi_m1 ?_
    exact g_iret Z dX3_count_104 rfl ⟨Nat.zero_le _, Nat.zero_le _⟩ ⟨rfl, rfl⟩

theorem nX3_count_X3 : ∀ w ∈ wsX30, w ∈ wsX3_count := by decide +kernel
theorem fX3_count_7 : Cond.fieldLink RX3 7 (TX3 0).1 (TX3 0).2.1 (TX3 0).2.2.1 ∈ wsX3_count := by decide +kernel
set_option maxHeartbeats 4000000 in
set_option maxRecDepth 100000 in
theorem qX3_count0 (E : zE) (h m1 m2 m3 m4 m5 m6 : Nat) (nb dn : Nat) (n : Nat → Nat) (K F G : Nat → Nat → Int32) (D : Nat → Int32) (T : TB)  : zF E yX3_count wsX3_count rX3_count [.ref h, .int 0] [cO h 3 [.int (nI nb), .ref m1, .ref m2, .ref m3, .ref m4, .int (nI dn), .ref m5, .ref m6, .long (tg T)], cI E m1 4 (mN n), cI E m2 32 (gl K), cI E m3 32 (gl F), cI E m4 32 (gl G), cI E m5 12 D, cJ E m6 6 (tv T)] (zx (some (.int (nI nb))) ([cO h 3 [.int (nI nb), .ref m1, .ref m2, .ref m3, .ref m4, .int (nI dn), .ref m5, .ref m6, .long (tg T)], cI E m1 4 (mN n), cI E m2 32 (gl K), cI E m3 32 (gl F), cI E m4 32 (gl G), cI E m5 12 D, cJ E m6 6 (tv T)])) := by
  refine z_start RX3 "count" (by decide) rfl rfl rfl (Nat.le_of_ble_eq_true rfl) ?_
  intro J Z
  refine g_eq Z (lv2 := [(0, .ref h), (1, .int 0)]) rfl rfl rfl ?_
  refine g_iconst Z dX3_count_0 zi_0 ?_
  refine g_istore_n (lv' := [(2, .int 0), (0, .ref h), (1, .int 0)]) Z dX3_count_1 rfl (by decide) rfl ?_
  refine g_iload_n Z dX3_count_2 2 rfl rfl ?_
  refine g_tsin (tgt := 32) Z dX3_count_3 0 rfl (by decide) rfl (by decide) ?_
  refine g_aload_n Z dX3_count_32 1 rfl rfl ?_
  refine g_get Z dX3_count_33 0 rfl rfl nX3_count_X3 0 (by decide) fX3_count_7 rfl ?_
  exact g_iret Z dX3_count_36 rfl ⟨Nat.zero_le _, Nat.zero_le _⟩ ⟨rfl, rfl⟩

theorem fX3_count_26 : Cond.fieldLink RX3 26 (TX3 5).1 (TX3 5).2.1 (TX3 5).2.2.1 ∈ wsX3_count := by decide +kernel
set_option maxHeartbeats 4000000 in
set_option maxRecDepth 100000 in
theorem qX3_count2 (E : zE) (h m1 m2 m3 m4 m5 m6 : Nat) (nb dn : Nat) (n : Nat → Nat) (K F G : Nat → Nat → Int32) (D : Nat → Int32) (T : TB)  : zF E yX3_count wsX3_count rX3_count [.ref h, .int 2] [cO h 3 [.int (nI nb), .ref m1, .ref m2, .ref m3, .ref m4, .int (nI dn), .ref m5, .ref m6, .long (tg T)], cI E m1 4 (mN n), cI E m2 32 (gl K), cI E m3 32 (gl F), cI E m4 32 (gl G), cI E m5 12 D, cJ E m6 6 (tv T)] (zx (some (.int (nI dn))) ([cO h 3 [.int (nI nb), .ref m1, .ref m2, .ref m3, .ref m4, .int (nI dn), .ref m5, .ref m6, .long (tg T)], cI E m1 4 (mN n), cI E m2 32 (gl K), cI E m3 32 (gl F), cI E m4 32 (gl G), cI E m5 12 D, cJ E m6 6 (tv T)])) := by
  refine z_start RX3 "count" (by decide) rfl rfl rfl (Nat.le_of_ble_eq_true rfl) ?_
  intro J Z
  refine g_eq Z (lv2 := [(0, .ref h), (1, .int 2)]) rfl rfl rfl ?_
  refine g_iconst Z dX3_count_0 zi_0 ?_
  refine g_istore_n (lv' := [(2, .int 0), (0, .ref h), (1, .int 2)]) Z dX3_count_1 rfl (by decide) rfl ?_
  refine g_iload_n Z dX3_count_2 2 rfl rfl ?_
  refine g_tsin (tgt := 64) Z dX3_count_3 2 rfl (by decide) rfl (by decide) ?_
  refine g_aload_n Z dX3_count_64 1 rfl rfl ?_
  refine g_get Z dX3_count_65 0 rfl rfl nX3_count_X3 5 (by decide) fX3_count_26 rfl ?_
  exact g_iret Z dX3_count_68 rfl ⟨Nat.zero_le _, Nat.zero_le _⟩ ⟨rfl, rfl⟩

theorem fX3_count_13 : Cond.fieldLink RX3 13 (TX3 1).1 (TX3 1).2.1 (TX3 1).2.2.1 ∈ wsX3_count := by decide +kernel
set_option maxHeartbeats 4000000 in
set_option maxRecDepth 100000 in
theorem lX3_count1 (E : zE) (h m1 m2 m3 m4 m5 m6 : Nat) (nb dn : Nat) (n : Nat → Nat) (K F G : Nat → Nat → Int32) (D : Nat → Int32) (T : TB) (hnb : nb ≤ 4) {J : zJ} (Z : zOk E J RX3 cX3_count 4 (some .int) wsX3_count rX3_count "count" (fun _ => True) (zx (some (.int (nI (sumN n nb)))) ([cO h 3 [.int (nI nb), .ref m1, .ref m2, .ref m3, .ref m4, .int (nI dn), .ref m5, .ref m6, .long (tg T)], cI E m1 4 (mN n), cI E m2 32 (gl K), cI E m3 32 (gl F), cI E m4 32 (gl G), cI E m5 12 D, cJ E m6 6 (tv T)])))  : ∀ (d : Nat) (q : Nat), q + d = nb → J 0 0 [cO h 3 [.int (nI nb), .ref m1, .ref m2, .ref m3, .ref m4, .int (nI dn), .ref m5, .ref m6, .long (tg T)], cI E m1 4 (mN n), cI E m2 32 (gl K), cI E m3 32 (gl F), cI E m4 32 (gl G), cI E m5 12 D, cJ E m6 6 (tv T)] 39 [(3, .int (nI q)), (2, .int (nI (sumN n q))), (0, .ref h), (1, .int 1)] [] := by
  intro d
  induction d with
  | zero =>
    intro q h1
    have e_q : q = nb := by omega
    refine g_iload_n Z dX3_count_39 0 rfl rfl ?_
    refine g_aload_n Z dX3_count_40 2 rfl rfl ?_
    refine g_get Z dX3_count_41 0 rfl rfl nX3_count_X3 0 (by decide) fX3_count_7 rfl ?_
    refine g_icmpN_ge (tgt := 62) Z dX3_count_44 (by decide) q nb rfl rfl (by omega) (by omega) (fun c_44 => ?_) (fun c_44 => absurd c_44 (by omega))
    refine g_iload_n Z dX3_count_62 1 rfl rfl ?_
    exact g_iret Z dX3_count_63 rfl ⟨Nat.zero_le _, Nat.zero_le _⟩ ⟨by rw [e_q], rfl⟩
  | succ d ih =>
    intro q h1
    refine g_iload_n Z dX3_count_39 0 rfl rfl ?_
    refine g_aload_n Z dX3_count_40 2 rfl rfl ?_
    refine g_get Z dX3_count_41 0 rfl rfl nX3_count_X3 0 (by decide) fX3_count_7 rfl ?_
    refine g_icmpN_ge (tgt := 62) Z dX3_count_44 (by decide) q nb rfl rfl (by omega) (by omega) (fun c_44 => absurd c_44 (by omega)) (fun c_44 => ?_)
    refine g_iload_n Z dX3_count_47 1 rfl rfl ?_
    refine g_aload_n Z dX3_count_48 2 rfl rfl ?_
    refine g_get Z dX3_count_49 0 rfl rfl nX3_count_X3 1 (by decide) fX3_count_13 rfl ?_
    refine g_iload_n Z dX3_count_52 0 rfl rfl ?_
    refine g_ialdE (v := nI (n q)) Z dX3_count_53 1 rfl q rfl (by omega) rfl rfl ?_
    refine g_iaddE (z := nI (sumN n q + (n q))) Z dX3_count_54 (nI_add (sumN n q) (n q)) ?_
    refine g_istore_n (lv' := [(2, .int (nI (sumN n q + (n q)))), (3, .int (nI q)), (0, .ref h), (1, .int 1)]) Z dX3_count_55 rfl (by decide) rfl ?_
    refine g_iinc (lv' := [(3, .int (nI (q + 1))), (2, .int (nI (sumN n q + (n q)))), (0, .ref h), (1, .int 1)]) Z dX3_count_56 1 rfl (zinc _) (by decide) rfl ?_
    refine g_goto (tgt := 39) Z dX3_count_59 (by decide) ?_
    refine g_lv (lv2 := [(3, .int (nI (q + 1))), (2, .int (nI (sumN n q + (n q)))), (0, .ref h), (1, .int 1)]) Z [0, 1, 2, 3] rfl ?_
    exact ih (q + 1) (by omega)
set_option maxHeartbeats 4000000 in
set_option maxRecDepth 100000 in
theorem qX3_count1 (E : zE) (h m1 m2 m3 m4 m5 m6 : Nat) (nb dn : Nat) (n : Nat → Nat) (K F G : Nat → Nat → Int32) (D : Nat → Int32) (T : TB) (hnb : nb ≤ 4) : zF E yX3_count wsX3_count rX3_count [.ref h, .int 1] [cO h 3 [.int (nI nb), .ref m1, .ref m2, .ref m3, .ref m4, .int (nI dn), .ref m5, .ref m6, .long (tg T)], cI E m1 4 (mN n), cI E m2 32 (gl K), cI E m3 32 (gl F), cI E m4 32 (gl G), cI E m5 12 D, cJ E m6 6 (tv T)] (zx (some (.int (nI (sumN n nb)))) ([cO h 3 [.int (nI nb), .ref m1, .ref m2, .ref m3, .ref m4, .int (nI dn), .ref m5, .ref m6, .long (tg T)], cI E m1 4 (mN n), cI E m2 32 (gl K), cI E m3 32 (gl F), cI E m4 32 (gl G), cI E m5 12 D, cJ E m6 6 (tv T)])) := by
  refine z_start RX3 "count" (by decide) rfl rfl rfl (Nat.le_of_ble_eq_true rfl) ?_
  intro J Z
  refine g_eq Z (lv2 := [(0, .ref h), (1, .int 1)]) rfl rfl rfl ?_
  refine g_iconst Z dX3_count_0 zi_0 ?_
  refine g_istore_n (lv' := [(2, .int 0), (0, .ref h), (1, .int 1)]) Z dX3_count_1 rfl (by decide) rfl ?_
  refine g_iload_n Z dX3_count_2 2 rfl rfl ?_
  refine g_tsin (tgt := 37) Z dX3_count_3 1 rfl (by decide) rfl (by decide) ?_
  refine g_iconst Z dX3_count_37 zi_0 ?_
  refine g_istore_n (lv' := [(3, .int 0), (2, .int 0), (0, .ref h), (1, .int 1)]) Z dX3_count_38 rfl (by decide) rfl ?_
  refine g_lv (lv2 := [(3, .int 0), (2, .int 0), (0, .ref h), (1, .int 1)]) Z [0, 1, 2, 3] rfl ?_
  exact lX3_count1 E h m1 m2 m3 m4 m5 m6 nb dn n K F G D T hnb Z nb 0 (by omega)

set_option maxHeartbeats 4000000 in
set_option maxRecDepth 100000 in
theorem lX3_count3 (E : zE) (h m1 m2 m3 m4 m5 m6 : Nat) (nb dn : Nat) (n : Nat → Nat) (K F G : Nat → Nat → Int32) (D : Nat → Int32) (T : TB) (hnb : nb ≤ 4) (hn : ∀ b, n b ≤ 8) {J : zJ} (Z : zOk E J RX3 cX3_count 4 (some .int) wsX3_count rX3_count "count" (fun _ => True) (fun ov wv => ov = some (.int (nI (cntM K F G n nb))) ∧ ∃ T2 : TB, wv = [cO h 3 [.int (nI nb), .ref m1, .ref m2, .ref m3, .ref m4, .int (nI dn), .ref m5, .ref m6, .long (tg T2)], cI E m1 4 (mN n), cI E m2 32 (gl K), cI E m3 32 (gl F), cI E m4 32 (gl G), cI E m5 12 D, cJ E m6 6 (tv T2)]))  : ∀ (d : Nat) (q : Nat) (T2 : TB), q + d = nb → J 0 0 [cO h 3 [.int (nI nb), .ref m1, .ref m2, .ref m3, .ref m4, .int (nI dn), .ref m5, .ref m6, .long (tg T2)], cI E m1 4 (mN n), cI E m2 32 (gl K), cI E m3 32 (gl F), cI E m4 32 (gl G), cI E m5 12 D, cJ E m6 6 (tv T2)] 71 [(3, .int (nI q)), (2, .int (nI (cntM K F G n q))), (0, .ref h), (1, .int 3)] [] := by
  intro d
  induction d with
  | zero =>
    intro q T2 h1
    have e_q : q = nb := by omega
    refine g_iload_n Z dX3_count_71 0 rfl rfl ?_
    refine g_aload_n Z dX3_count_72 2 rfl rfl ?_
    refine g_get Z dX3_count_73 0 rfl rfl nX3_count_X3 0 (by decide) fX3_count_7 rfl ?_
    refine g_icmpN_ge (tgt := 101) Z dX3_count_76 (by decide) q nb rfl rfl (by omega) (by omega) (fun c_76 => ?_) (fun c_76 => absurd c_76 (by omega))
    refine g_iload_n Z dX3_count_101 1 rfl rfl ?_
    exact g_iret Z dX3_count_102 rfl ⟨Nat.zero_le _, Nat.zero_le _⟩ ⟨by rw [e_q], _, rfl⟩
  | succ d ih =>
    intro q T2 h1
    refine g_iload_n Z dX3_count_71 0 rfl rfl ?_
    refine g_aload_n Z dX3_count_72 2 rfl rfl ?_
    refine g_get Z dX3_count_73 0 rfl rfl nX3_count_X3 0 (by decide) fX3_count_7 rfl ?_
    refine g_icmpN_ge (tgt := 101) Z dX3_count_76 (by decide) q nb rfl rfl (by omega) (by omega) (fun c_76 => absurd c_76 (by omega)) (fun c_76 => ?_)
    refine g_iload_n Z dX3_count_79 1 rfl rfl ?_
    refine g_aload_n Z dX3_count_80 2 rfl rfl ?_
    refine g_iload_n Z dX3_count_81 0 rfl rfl ?_
    refine g_callVx (w' := [cO h 3 [.int (nI nb), .ref m1, .ref m2, .ref m3, .ref m4, .int (nI dn), .ref m5, .ref m6, .long (tg (hbT (tabM (K q) (F q) (G q) 0 (n q)) (tabM (K q) (F q) (G q) 1 (n q))))], cI E m1 4 (mN n), cI E m2 32 (gl K), cI E m3 32 (gl F), cI E m4 32 (gl G), cI E m5 12 D, cJ E m6 6 (tv (hbT (tabM (K q) (F q) (G q) 0 (n q)) (tabM (K q) (F q) (G q) 1 (n q))))]) Z (qX3_holdsBoth E h m1 m2 m3 m4 m5 m6 nb dn n K F G D T2 q (hn q) (by omega)) iX3_holdsBoth gX3_count_X3_holdsBoth ⟨rfl, rfl⟩ ⟨Nat.le_of_ble_eq_true rfl, Nat.le_of_ble_eq_true rfl⟩ dX3_count_82 rfl rfl (Nat.le_of_ble_eq_true rfl) ⟨Nat.zero_le _, Nat.zero_le _⟩ [0, 1, 2, 3, 4, 5, 6] rfl rfl 0 rfl rfl rfl rfl rfl ?_
    refine g_ifb_eq (tgt := 92) Z dX3_count_85 (by decide) (fun c_85 => ?_) (fun c_85 => ?_)
    · refine g_iconst Z dX3_count_92 zi_0 ?_
      refine g_iaddE (z := nI (cntM K F G n q)) Z dX3_count_93 (nI_add (cntM K F G n q) 0) ?_
      refine g_istore_n (lv' := [(2, .int (nI (cntM K F G n q))), (3, .int (nI q)), (0, .ref h), (1, .int 3)]) Z dX3_count_94 rfl (by decide) rfl ?_
      refine g_iinc (lv' := [(3, .int (nI (q + 1))), (2, .int (nI (cntM K F G n q))), (0, .ref h), (1, .int 3)]) Z dX3_count_95 1 rfl (zinc _) (by decide) rfl ?_
      refine g_goto (tgt := 71) Z dX3_count_98 (by decide) ?_
      have e_c : cntM K F G n (q + 1) = cntM K F G n q := by simp only [cntM]; rw [if_neg c_85]; rfl
      refine g_lv (lv2 := [(3, .int (nI (q + 1))), (2, .int (nI (cntM K F G n q))), (0, .ref h), (1, .int 3)]) Z [0, 1, 2, 3] rfl ?_
      rw [← e_c]
      exact ih (q + 1) _ (by omega)
    · refine g_iconst Z dX3_count_88 zi_1 ?_
      refine g_goto (tgt := 93) Z dX3_count_89 (by decide) ?_
      refine g_iaddE (z := nI (cntM K F G n q + 1)) Z dX3_count_93 (nI_add (cntM K F G n q) 1) ?_
      refine g_istore_n (lv' := [(2, .int (nI (cntM K F G n q + 1))), (3, .int (nI q)), (0, .ref h), (1, .int 3)]) Z dX3_count_94 rfl (by decide) rfl ?_
      refine g_iinc (lv' := [(3, .int (nI (q + 1))), (2, .int (nI (cntM K F G n q + 1))), (0, .ref h), (1, .int 3)]) Z dX3_count_95 1 rfl (zinc _) (by decide) rfl ?_
      refine g_goto (tgt := 71) Z dX3_count_98 (by decide) ?_
      have e_c : cntM K F G n (q + 1) = cntM K F G n q + 1 := by simp only [cntM]; rw [if_pos c_85]
      refine g_lv (lv2 := [(3, .int (nI (q + 1))), (2, .int (nI (cntM K F G n q + 1))), (0, .ref h), (1, .int 3)]) Z [0, 1, 2, 3] rfl ?_
      rw [← e_c]
      exact ih (q + 1) _ (by omega)
set_option maxHeartbeats 4000000 in
set_option maxRecDepth 100000 in
theorem qX3_count3 (E : zE) (h m1 m2 m3 m4 m5 m6 : Nat) (nb dn : Nat) (n : Nat → Nat) (K F G : Nat → Nat → Int32) (D : Nat → Int32) (T : TB) (hnb : nb ≤ 4) (hn : ∀ b, n b ≤ 8) : zF E yX3_count wsX3_count rX3_count [.ref h, .int 3] [cO h 3 [.int (nI nb), .ref m1, .ref m2, .ref m3, .ref m4, .int (nI dn), .ref m5, .ref m6, .long (tg T)], cI E m1 4 (mN n), cI E m2 32 (gl K), cI E m3 32 (gl F), cI E m4 32 (gl G), cI E m5 12 D, cJ E m6 6 (tv T)] (fun ov wv => ov = some (.int (nI (cntM K F G n nb))) ∧ ∃ T2 : TB, wv = [cO h 3 [.int (nI nb), .ref m1, .ref m2, .ref m3, .ref m4, .int (nI dn), .ref m5, .ref m6, .long (tg T2)], cI E m1 4 (mN n), cI E m2 32 (gl K), cI E m3 32 (gl F), cI E m4 32 (gl G), cI E m5 12 D, cJ E m6 6 (tv T2)]) := by
  refine z_start RX3 "count" (by decide) rfl rfl rfl (Nat.le_of_ble_eq_true rfl) ?_
  intro J Z
  refine g_eq Z (lv2 := [(0, .ref h), (1, .int 3)]) rfl rfl rfl ?_
  refine g_iconst Z dX3_count_0 zi_0 ?_
  refine g_istore_n (lv' := [(2, .int 0), (0, .ref h), (1, .int 3)]) Z dX3_count_1 rfl (by decide) rfl ?_
  refine g_iload_n Z dX3_count_2 2 rfl rfl ?_
  refine g_tsin (tgt := 69) Z dX3_count_3 3 rfl (by decide) rfl (by decide) ?_
  refine g_iconst Z dX3_count_69 zi_0 ?_
  refine g_istore_n (lv' := [(3, .int 0), (2, .int 0), (0, .ref h), (1, .int 3)]) Z dX3_count_70 rfl (by decide) rfl ?_
  refine g_lv (lv2 := [(3, .int 0), (2, .int 0), (0, .ref h), (1, .int 3)]) Z [0, 1, 2, 3] rfl ?_
  exact lX3_count3 E h m1 m2 m3 m4 m5 m6 nb dn n K F G D T hnb hn Z nb 0 T (by omega)

abbrev rX3_drawer : Room := { frames := 1, cells := 0, slots := 0, locals := 23 }
theorem iX3_drawer : zInfo yX3_drawer wsX3_drawer RX3 2 (some .int) 1 := ⟨_, _, rfl, by decide +kernel⟩
theorem nX3_drawer_X3 : ∀ w ∈ wsX30, w ∈ wsX3_drawer := by decide +kernel
theorem fX3_drawer_26 : Cond.fieldLink RX3 26 (TX3 5).1 (TX3 5).2.1 (TX3 5).2.2.1 ∈ wsX3_drawer := by decide +kernel
set_option maxHeartbeats 4000000 in
set_option maxRecDepth 100000 in
theorem qX3_drawerN (E : zE) (h m1 m2 m3 m4 m5 m6 : Nat) (nb dn : Nat) (n : Nat → Nat) (K F G : Nat → Nat → Int32) (D : Nat → Int32) (T : TB) (v : Int32) (hd : dn ≤ 12) (hv : ¬ inB dn v) : zF E yX3_drawer wsX3_drawer rX3_drawer [.ref h, .int v] [cO h 3 [.int (nI nb), .ref m1, .ref m2, .ref m3, .ref m4, .int (nI dn), .ref m5, .ref m6, .long (tg T)], cI E m1 4 (mN n), cI E m2 32 (gl K), cI E m3 32 (gl F), cI E m4 32 (gl G), cI E m5 12 D, cJ E m6 6 (tv T)] (zx (some (.int 0)) ([cO h 3 [.int (nI nb), .ref m1, .ref m2, .ref m3, .ref m4, .int (nI dn), .ref m5, .ref m6, .long (tg T)], cI E m1 4 (mN n), cI E m2 32 (gl K), cI E m3 32 (gl F), cI E m4 32 (gl G), cI E m5 12 D, cJ E m6 6 (tv T)])) := by
  refine z_start RX3 "drawer" (by decide) rfl rfl rfl (Nat.le_of_ble_eq_true rfl) ?_
  intro J Z
  refine g_eq Z (lv2 := [(0, .ref h), (1, .int v)]) rfl rfl rfl ?_
  refine g_aload_n Z dX3_drawer_0 0 rfl rfl ?_
  refine g_iload_n Z dX3_drawer_1 1 rfl rfl ?_
  refine g_iconst Z dX3_drawer_2 zi_0 ?_
  refine g_aload_n Z dX3_drawer_3 0 rfl rfl ?_
  refine g_get Z dX3_drawer_4 0 rfl rfl nX3_drawer_X3 5 (by decide) fX3_drawer_26 rfl ?_
  refine g_iconst Z dX3_drawer_7 zi_1 ?_
  refine g_isub Z dX3_drawer_8 ?_
  refine g_callVx (w' := [cO h 3 [.int (nI nb), .ref m1, .ref m2, .ref m3, .ref m4, .int (nI dn), .ref m5, .ref m6, .long (tg T)], cI E m1 4 (mN n), cI E m2 32 (gl K), cI E m3 32 (gl F), cI E m4 32 (gl G), cI E m5 12 D, cJ E m6 6 (tv T)]) Z (qX3_in E h m1 m2 m3 m4 m5 m6 nb dn T v 0 ((nI dn) - 1)) iX3_in gX3_drawer_X3_in ⟨rfl, rfl⟩ ⟨Nat.le_of_ble_eq_true rfl, Nat.le_of_ble_eq_true rfl⟩ dX3_drawer_9 rfl rfl (Nat.le_of_ble_eq_true rfl) ⟨Nat.zero_le _, Nat.zero_le _⟩ [0] rfl rfl 0 rfl rfl rfl rfl rfl ?_
  refine g_ifb_eq (tgt := 24) Z dX3_drawer_12 (by decide) (fun c_12 => ?_) (fun c_12 => absurd c_12 (fun z => hv ((inB_M (by omega)).mp z)))
  refine g_iconst Z dX3_drawer_24 zi_0 ?_
  exact g_iret Z dX3_drawer_25 rfl ⟨Nat.zero_le _, Nat.zero_le _⟩ ⟨rfl, rfl⟩

theorem fX3_drawer_29 : Cond.fieldLink RX3 29 (TX3 6).1 (TX3 6).2.1 (TX3 6).2.2.1 ∈ wsX3_drawer := by decide +kernel
set_option maxHeartbeats 4000000 in
set_option maxRecDepth 100000 in
theorem qX3_drawer (E : zE) (h m1 m2 m3 m4 m5 m6 : Nat) (nb dn : Nat) (n : Nat → Nat) (K F G : Nat → Nat → Int32) (D : Nat → Int32) (T : TB) (q : Nat) (hd : dn ≤ 12) (hq : q < dn) : zF E yX3_drawer wsX3_drawer rX3_drawer [.ref h, .int (nI q)] [cO h 3 [.int (nI nb), .ref m1, .ref m2, .ref m3, .ref m4, .int (nI dn), .ref m5, .ref m6, .long (tg T)], cI E m1 4 (mN n), cI E m2 32 (gl K), cI E m3 32 (gl F), cI E m4 32 (gl G), cI E m5 12 D, cJ E m6 6 (tv T)] (zx (some (.int (D q))) ([cO h 3 [.int (nI nb), .ref m1, .ref m2, .ref m3, .ref m4, .int (nI dn), .ref m5, .ref m6, .long (tg T)], cI E m1 4 (mN n), cI E m2 32 (gl K), cI E m3 32 (gl F), cI E m4 32 (gl G), cI E m5 12 D, cJ E m6 6 (tv T)])) := by
  refine z_start RX3 "drawer" (by decide) rfl rfl rfl (Nat.le_of_ble_eq_true rfl) ?_
  intro J Z
  refine g_eq Z (lv2 := [(0, .ref h), (1, .int (nI q))]) rfl rfl rfl ?_
  refine g_aload_n Z dX3_drawer_0 0 rfl rfl ?_
  refine g_iload_n Z dX3_drawer_1 1 rfl rfl ?_
  refine g_iconst Z dX3_drawer_2 zi_0 ?_
  refine g_aload_n Z dX3_drawer_3 0 rfl rfl ?_
  refine g_get Z dX3_drawer_4 0 rfl rfl nX3_drawer_X3 5 (by decide) fX3_drawer_26 rfl ?_
  refine g_iconst Z dX3_drawer_7 zi_1 ?_
  refine g_isub Z dX3_drawer_8 ?_
  refine g_callVx (w' := [cO h 3 [.int (nI nb), .ref m1, .ref m2, .ref m3, .ref m4, .int (nI dn), .ref m5, .ref m6, .long (tg T)], cI E m1 4 (mN n), cI E m2 32 (gl K), cI E m3 32 (gl F), cI E m4 32 (gl G), cI E m5 12 D, cJ E m6 6 (tv T)]) Z (qX3_in E h m1 m2 m3 m4 m5 m6 nb dn T (nI q) 0 ((nI dn) - 1)) iX3_in gX3_drawer_X3_in ⟨rfl, rfl⟩ ⟨Nat.le_of_ble_eq_true rfl, Nat.le_of_ble_eq_true rfl⟩ dX3_drawer_9 rfl rfl (Nat.le_of_ble_eq_true rfl) ⟨Nat.zero_le _, Nat.zero_le _⟩ [0] rfl rfl 0 rfl rfl rfl rfl rfl ?_
  refine g_ifb_eq (tgt := 24) Z dX3_drawer_12 (by decide) (fun c_12 => absurd c_12 (fun z => z ((inB_M (by omega)).mpr (inB_nI hq (by omega))))) (fun c_12 => ?_)
  refine g_aload_n Z dX3_drawer_15 0 rfl rfl ?_
  refine g_get Z dX3_drawer_16 0 rfl rfl nX3_drawer_X3 6 (by decide) fX3_drawer_29 rfl ?_
  refine g_iload_n Z dX3_drawer_19 1 rfl rfl ?_
  refine g_iald Z dX3_drawer_20 5 rfl q rfl (by omega) rfl ?_
  refine g_goto (tgt := 25) Z dX3_drawer_21 (by decide) ?_
  exact g_iret Z dX3_drawer_25 rfl ⟨Nat.zero_le _, Nat.zero_le _⟩ ⟨rfl, rfl⟩
