abbrev rX3_same : Room := { frames := 3, cells := 0, slots := 0, locals := 78 }
theorem iX3_same : zInfo yX3_same wsX3_same RX3 9 (some .int) 3 := ⟨_, _, rfl, by decide +kernel⟩
set_option maxHeartbeats 4000000 in
set_option maxRecDepth 100000 in
theorem qX3_sameN (E : zE) (h m1 m2 m3 m4 m5 m6 : Nat) (nb dn : Nat) (n : Nat → Nat) (K F G : Nat → Nat → Int32) (D : Nat → Int32) (T : TB) (b i way : Int32) (hnb : nb ≤ 4) (hn : ∀ b, n b ≤ 8) (hv : ¬ (inB nb b ∧ inB nb i ∧ (way = 0 ∨ way = 1))) : zF E yX3_same wsX3_same rX3_same [.ref h, .int b, .int i, .int way] [cO h 3 [.int (nI nb), .ref m1, .ref m2, .ref m3, .ref m4, .int (nI dn), .ref m5, .ref m6, .long (tg T)], cI E m1 4 (mN n), cI E m2 32 (gl K), cI E m3 32 (gl F), cI E m4 32 (gl G), cI E m5 12 D, cJ E m6 6 (tv T)] (zx (some (.int (-1))) ([cO h 3 [.int (nI nb), .ref m1, .ref m2, .ref m3, .ref m4, .int (nI dn), .ref m5, .ref m6, .long (tg T)], cI E m1 4 (mN n), cI E m2 32 (gl K), cI E m3 32 (gl F), cI E m4 32 (gl G), cI E m5 12 D, cJ E m6 6 (tv T)])) := by
  refine z_start RX3 "same" (by decide) rfl rfl rfl (Nat.le_of_ble_eq_true rfl) ?_
  intro J Z
  refine g_eq Z (lv2 := [(0, .ref h), (1, .int b), (2, .int i), (3, .int way)]) rfl rfl rfl ?_
  refine g_aload_n Z dX3_same_0 0 rfl rfl ?_
  refine g_iload_n Z dX3_same_1 1 rfl rfl ?_
  refine g_callVx (w' := [cO h 3 [.int (nI nb), .ref m1, .ref m2, .ref m3, .ref m4, .int (nI dn), .ref m5, .ref m6, .long (tg T)], cI E m1 4 (mN n), cI E m2 32 (gl K), cI E m3 32 (gl F), cI E m4 32 (gl G), cI E m5 12 D, cJ E m6 6 (tv T)]) Z (qX3_isBench E h m1 m2 m3 m4 m5 m6 nb dn T b (by omega)) iX3_isBench gX3_same_X3_isBench ⟨rfl, rfl⟩ ⟨Nat.le_of_ble_eq_true rfl, Nat.le_of_ble_eq_true rfl⟩ dX3_same_2 rfl rfl (Nat.le_of_ble_eq_true rfl) ⟨Nat.zero_le _, Nat.zero_le _⟩ [0] rfl rfl 0 rfl rfl rfl rfl rfl ?_
  refine g_ifb_eq (tgt := 24) Z dX3_same_5 (by decide) (fun c_5 => ?_) (fun c_5 => ?_)
  · refine g_iconst Z dX3_same_24 zi_m1 ?_
    exact g_iret Z dX3_same_25 rfl ⟨Nat.zero_le _, Nat.zero_le _⟩ ⟨rfl, rfl⟩
  · refine g_aload_n Z dX3_same_8 0 rfl rfl ?_
    refine g_iload_n Z dX3_same_9 2 rfl rfl ?_
    refine g_callVx (w' := [cO h 3 [.int (nI nb), .ref m1, .ref m2, .ref m3, .ref m4, .int (nI dn), .ref m5, .ref m6, .long (tg T)], cI E m1 4 (mN n), cI E m2 32 (gl K), cI E m3 32 (gl F), cI E m4 32 (gl G), cI E m5 12 D, cJ E m6 6 (tv T)]) Z (qX3_isBench E h m1 m2 m3 m4 m5 m6 nb dn T i (by omega)) iX3_isBench gX3_same_X3_isBench ⟨rfl, rfl⟩ ⟨Nat.le_of_ble_eq_true rfl, Nat.le_of_ble_eq_true rfl⟩ dX3_same_10 rfl rfl (Nat.le_of_ble_eq_true rfl) ⟨Nat.zero_le _, Nat.zero_le _⟩ [0] rfl rfl 0 rfl rfl rfl rfl rfl ?_
    refine g_ifb_eq (tgt := 24) Z dX3_same_13 (by decide) (fun c_13 => ?_) (fun c_13 => ?_)
    · refine g_iconst Z dX3_same_24 zi_m1 ?_
      exact g_iret Z dX3_same_25 rfl ⟨Nat.zero_le _, Nat.zero_le _⟩ ⟨rfl, rfl⟩
    · refine g_aload_n Z dX3_same_16 0 rfl rfl ?_
      refine g_iload_n Z dX3_same_17 3 rfl rfl ?_
      refine g_callVx (w' := [cO h 3 [.int (nI nb), .ref m1, .ref m2, .ref m3, .ref m4, .int (nI dn), .ref m5, .ref m6, .long (tg T)], cI E m1 4 (mN n), cI E m2 32 (gl K), cI E m3 32 (gl F), cI E m4 32 (gl G), cI E m5 12 D, cJ E m6 6 (tv T)]) Z (qX3_isWay E h m1 m2 m3 m4 m5 m6 nb dn T way) iX3_isWay gX3_same_X3_isWay ⟨rfl, rfl⟩ ⟨Nat.le_of_ble_eq_true rfl, Nat.le_of_ble_eq_true rfl⟩ dX3_same_18 rfl rfl (Nat.le_of_ble_eq_true rfl) ⟨Nat.zero_le _, Nat.zero_le _⟩ [0] rfl rfl 0 rfl rfl rfl rfl rfl ?_
      refine g_ifb_ne (tgt := 26) Z dX3_same_21 (by decide) (fun c_21 => ?_) (fun c_21 => ?_)
      · exact absurd ⟨c_5, c_13, c_21⟩ hv
      · refine g_iconst Z dX3_same_24 zi_m1 ?_
        exact g_iret Z dX3_same_25 rfl ⟨Nat.zero_le _, Nat.zero_le _⟩ ⟨rfl, rfl⟩

theorem nX3_same_X3 : ∀ w ∈ wsX30, w ∈ wsX3_same := by decide +kernel
theorem fX3_same_13 : Cond.fieldLink RX3 13 (TX3 1).1 (TX3 1).2.1 (TX3 1).2.2.1 ∈ wsX3_same := by decide +kernel
theorem fX3_same_32 : Cond.fieldLink RX3 32 (TX3 7).1 (TX3 7).2.1 (TX3 7).2.2.1 ∈ wsX3_same := by decide +kernel
theorem fX3_same_36 : Cond.fieldLink RX3 36 (TX3 8).1 (TX3 8).2.1 (TX3 8).2.2.1 ∈ wsX3_same := by decide +kernel
set_option maxHeartbeats 4000000 in
set_option maxRecDepth 100000 in
theorem lX3_same (E : zE) (h m1 m2 m3 m4 m5 m6 : Nat) (nb dn : Nat) (n : Nat → Nat) (K F G : Nat → Nat → Int32) (D : Nat → Int32) (T : TB) (j : Nat) (o : Nat) (way : Int32) (hnb : nb ≤ 4) (hn : ∀ b, n b ≤ 8) (hj : j < nb) (ho : o < nb) (hw : way = 0 ∨ way = 1) {J : zJ} (Z : zOk E J RX3 cX3_same 9 (some .int) wsX3_same rX3_same "same" (fun _ => True) (fun ov wv => ov = some (.int (samR (tabM (K j) (F j) (G j) way (n j)) (tabM (K o) (F o) (G o) way (n o)))) ∧ ∃ T2 : TB, wv = [cO h 3 [.int (nI nb), .ref m1, .ref m2, .ref m3, .ref m4, .int (nI dn), .ref m5, .ref m6, .long (tg T2)], cI E m1 4 (mN n), cI E m2 32 (gl K), cI E m3 32 (gl F), cI E m4 32 (gl G), cI E m5 12 D, cJ E m6 6 (tv T2)]))  : ∀ (d : Nat) (q : Nat) (T2 : TB), q + d = 6 → samM (tabM (K j) (F j) (G j) way (n j)) (tabM (K o) (F o) (G o) way (n o)) q d = samR (tabM (K j) (F j) (G j) way (n j)) (tabM (K o) (F o) (G o) way (n o)) → J 0 0 [cO h 3 [.int (nI nb), .ref m1, .ref m2, .ref m3, .ref m4, .int (nI dn), .ref m5, .ref m6, .long (tg T2)], cI E m1 4 (mN n), cI E m2 32 (gl K), cI E m3 32 (gl F), cI E m4 32 (gl G), cI E m5 12 D, cJ E m6 6 (tv T2)] 29 [(4, .int (nI q)), (0, .ref h), (1, .int (nI j)), (2, .int (nI o)), (3, .int way)] [] := by
  intro d
  induction d with
  | zero =>
    intro q T2 h1 h2
    have hnj := hn j
    refine g_iload Z dX3_same_29 0 rfl ?_
    refine g_bipush Z dX3_same_31 zb_6 ?_
    refine g_icmpN_ge (tgt := 106) Z dX3_same_33 (by decide) q 6 rfl rfl (by omega) (by omega) (fun c_33 => ?_) (fun c_33 => absurd c_33 (by omega))
    refine g_iconst Z dX3_same_106 zi_1 ?_
    exact g_iret Z dX3_same_107 rfl ⟨Nat.zero_le _, Nat.zero_le _⟩ ⟨by rw [← h2]; rfl, _, rfl⟩
  | succ d ih =>
    intro q T2 h1 h2
    have hnj := hn j
    have hno := hn o
    refine g_iload Z dX3_same_29 0 rfl ?_
    refine g_bipush Z dX3_same_31 zb_6 ?_
    refine g_icmpN_ge (tgt := 106) Z dX3_same_33 (by decide) q 6 rfl rfl (by omega) (by omega) (fun c_33 => absurd c_33 (by omega)) (fun c_33 => ?_)
    refine g_aload_n Z dX3_same_36 1 rfl rfl ?_
    refine g_iload_n Z dX3_same_37 2 rfl rfl ?_
    refine g_iload_n Z dX3_same_38 4 rfl rfl ?_
    refine g_iconst Z dX3_same_39 zi_0 ?_
    refine g_aload_n Z dX3_same_40 1 rfl rfl ?_
    refine g_get Z dX3_same_41 0 rfl rfl nX3_same_X3 1 (by decide) fX3_same_13 rfl ?_
    refine g_iload_n Z dX3_same_44 2 rfl rfl ?_
    refine g_ialdE (v := nI (n j)) Z dX3_same_45 1 rfl j rfl (by omega) rfl rfl ?_
    refine g_callVx (w' := [cO h 3 [.int (nI nb), .ref m1, .ref m2, .ref m3, .ref m4, .int (nI dn), .ref m5, .ref m6, .long (tg (tabM (K j) (F j) (G j) way (n j)))], cI E m1 4 (mN n), cI E m2 32 (gl K), cI E m3 32 (gl F), cI E m4 32 (gl G), cI E m5 12 D, cJ E m6 6 (tv (tabM (K j) (F j) (G j) way (n j)))]) Z (qX3_workT E h m1 m2 m3 m4 m5 m6 nb dn n K F G D T2 j way hnj (by omega)) iX3_work gX3_same_X3_work ⟨rfl, rfl⟩ ⟨Nat.le_of_ble_eq_true rfl, Nat.le_of_ble_eq_true rfl⟩ dX3_same_46 rfl rfl (Nat.le_of_ble_eq_true rfl) ⟨Nat.zero_le _, Nat.zero_le _⟩ [0, 1, 2, 3, 4, 5, 6] rfl rfl 0 rfl rfl rfl rfl rfl ?_
    obtain ⟨A, e_A⟩ : ∃ A : TB, tabM (K j) (F j) (G j) way (n j) = A := ⟨_, rfl⟩
    rw [e_A]
    refine g_aload_n Z dX3_same_49 1 rfl rfl ?_
    refine g_get Z dX3_same_50 0 rfl rfl nX3_same_X3 7 (by decide) fX3_same_32 rfl ?_
    refine g_iload Z dX3_same_53 0 rfl ?_
    refine g_lald Z dX3_same_55 6 rfl q rfl (by omega) rfl ?_
    refine g_lstore (lv' := [(5, .long ((tv A) q)), (4, .int (nI q)), (0, .ref h), (1, .int (nI j)), (2, .int (nI o)), (3, .int way)]) Z dX3_same_56 (by decide) rfl ?_
    refine g_aload_n Z dX3_same_58 2 rfl rfl ?_
    refine g_get Z dX3_same_59 0 rfl rfl nX3_same_X3 8 (by decide) fX3_same_36 rfl ?_
    refine g_lstore (lv' := [(7, .long (tg A)), (5, .long ((tv A) q)), (4, .int (nI q)), (0, .ref h), (1, .int (nI j)), (2, .int (nI o)), (3, .int way)]) Z dX3_same_62 (by decide) rfl ?_
    refine g_aload_n Z dX3_same_64 3 rfl rfl ?_
    refine g_iload_n Z dX3_same_65 5 rfl rfl ?_
    refine g_iload_n Z dX3_same_66 6 rfl rfl ?_
    refine g_iconst Z dX3_same_67 zi_0 ?_
    refine g_aload_n Z dX3_same_68 3 rfl rfl ?_
    refine g_get Z dX3_same_69 0 rfl rfl nX3_same_X3 1 (by decide) fX3_same_13 rfl ?_
    refine g_iload_n Z dX3_same_72 5 rfl rfl ?_
    refine g_ialdE (v := nI (n o)) Z dX3_same_73 1 rfl o rfl (by omega) rfl rfl ?_
    refine g_callVx (w' := [cO h 3 [.int (nI nb), .ref m1, .ref m2, .ref m3, .ref m4, .int (nI dn), .ref m5, .ref m6, .long (tg (tabM (K o) (F o) (G o) way (n o)))], cI E m1 4 (mN n), cI E m2 32 (gl K), cI E m3 32 (gl F), cI E m4 32 (gl G), cI E m5 12 D, cJ E m6 6 (tv (tabM (K o) (F o) (G o) way (n o)))]) Z (qX3_workT E h m1 m2 m3 m4 m5 m6 nb dn n K F G D A o way hno (by omega)) iX3_work gX3_same_X3_work ⟨rfl, rfl⟩ ⟨Nat.le_of_ble_eq_true rfl, Nat.le_of_ble_eq_true rfl⟩ dX3_same_74 rfl rfl (Nat.le_of_ble_eq_true rfl) ⟨Nat.zero_le _, Nat.zero_le _⟩ [0, 1, 2, 3, 4, 5, 6] rfl rfl 0 rfl rfl rfl rfl rfl ?_
    obtain ⟨B, e_B⟩ : ∃ B : TB, tabM (K o) (F o) (G o) way (n o) = B := ⟨_, rfl⟩
    rw [e_B]
    rw [samM, e_A, e_B] at h2
    refine g_lload Z dX3_same_77 1 rfl ?_
    refine g_aload_n Z dX3_same_79 3 rfl rfl ?_
    refine g_get Z dX3_same_80 0 rfl rfl nX3_same_X3 8 (by decide) fX3_same_36 rfl ?_
    refine g_lmul Z dX3_same_83 ?_
    refine g_aload_n Z dX3_same_84 3 rfl rfl ?_
    refine g_get Z dX3_same_85 0 rfl rfl nX3_same_X3 7 (by decide) fX3_same_32 rfl ?_
    refine g_iload Z dX3_same_88 2 rfl ?_
    refine g_lald Z dX3_same_90 6 rfl q rfl (by omega) rfl ?_
    refine g_lload Z dX3_same_91 0 rfl ?_
    refine g_lmul Z dX3_same_93 ?_
    refine g_lcmp_eq (tgt := 100) Z dX3_same_94 dX3_same_95 rfl (by decide) (fun c_95 => ?_) (fun c_95 => ?_)
    · refine g_iinc (lv' := [(4, .int (nI (q + 1))), (7, .long (tg A)), (5, .long ((tv A) q)), (0, .ref h), (1, .int (nI j)), (2, .int (nI o)), (3, .int way)]) Z dX3_same_100 2 rfl (zinc _) (by decide) rfl ?_
      refine g_goto (tgt := 29) Z dX3_same_103 (by decide) ?_
      rw [if_pos c_95, ← e_A, ← e_B] at h2
      refine g_lv (lv2 := [(4, .int (nI (q + 1))), (0, .ref h), (1, .int (nI j)), (2, .int (nI o)), (3, .int way)]) Z [0, 3, 4, 5, 6] rfl ?_
      exact ih (q + 1) _ (by omega) h2
    · rw [if_neg c_95] at h2
      refine g_iconst Z dX3_same_98 zi_0 ?_
      exact g_iret Z dX3_same_99 rfl ⟨Nat.zero_le _, Nat.zero_le _⟩ ⟨by rw [e_A, e_B, ← h2], _, rfl⟩
set_option maxHeartbeats 4000000 in
set_option maxRecDepth 100000 in
theorem qX3_same (E : zE) (h m1 m2 m3 m4 m5 m6 : Nat) (nb dn : Nat) (n : Nat → Nat) (K F G : Nat → Nat → Int32) (D : Nat → Int32) (T : TB) (j : Nat) (o : Nat) (way : Int32) (hnb : nb ≤ 4) (hn : ∀ b, n b ≤ 8) (hj : j < nb) (ho : o < nb) (hw : way = 0 ∨ way = 1) : zF E yX3_same wsX3_same rX3_same [.ref h, .int (nI j), .int (nI o), .int way] [cO h 3 [.int (nI nb), .ref m1, .ref m2, .ref m3, .ref m4, .int (nI dn), .ref m5, .ref m6, .long (tg T)], cI E m1 4 (mN n), cI E m2 32 (gl K), cI E m3 32 (gl F), cI E m4 32 (gl G), cI E m5 12 D, cJ E m6 6 (tv T)] (fun ov wv => ov = some (.int (samR (tabM (K j) (F j) (G j) way (n j)) (tabM (K o) (F o) (G o) way (n o)))) ∧ ∃ T2 : TB, wv = [cO h 3 [.int (nI nb), .ref m1, .ref m2, .ref m3, .ref m4, .int (nI dn), .ref m5, .ref m6, .long (tg T2)], cI E m1 4 (mN n), cI E m2 32 (gl K), cI E m3 32 (gl F), cI E m4 32 (gl G), cI E m5 12 D, cJ E m6 6 (tv T2)]) := by
  refine z_start RX3 "same" (by decide) rfl rfl rfl (Nat.le_of_ble_eq_true rfl) ?_
  intro J Z
  refine g_eq Z (lv2 := [(0, .ref h), (1, .int (nI j)), (2, .int (nI o)), (3, .int way)]) rfl rfl rfl ?_
  have hnj := hn j
  refine g_aload_n Z dX3_same_0 0 rfl rfl ?_
  refine g_iload_n Z dX3_same_1 1 rfl rfl ?_
  refine g_callVx (w' := [cO h 3 [.int (nI nb), .ref m1, .ref m2, .ref m3, .ref m4, .int (nI dn), .ref m5, .ref m6, .long (tg T)], cI E m1 4 (mN n), cI E m2 32 (gl K), cI E m3 32 (gl F), cI E m4 32 (gl G), cI E m5 12 D, cJ E m6 6 (tv T)]) Z (qX3_isBench E h m1 m2 m3 m4 m5 m6 nb dn T (nI j) (by omega)) iX3_isBench gX3_same_X3_isBench ⟨rfl, rfl⟩ ⟨Nat.le_of_ble_eq_true rfl, Nat.le_of_ble_eq_true rfl⟩ dX3_same_2 rfl rfl (Nat.le_of_ble_eq_true rfl) ⟨Nat.zero_le _, Nat.zero_le _⟩ [0] rfl rfl 0 rfl rfl rfl rfl rfl ?_
  refine g_ifb_eq (tgt := 24) Z dX3_same_5 (by decide) (fun c_5 => absurd c_5 (fun q => q (inB_nI hj (by omega)))) (fun c_5 => ?_)
  refine g_aload_n Z dX3_same_8 0 rfl rfl ?_
  refine g_iload_n Z dX3_same_9 2 rfl rfl ?_
  refine g_callVx (w' := [cO h 3 [.int (nI nb), .ref m1, .ref m2, .ref m3, .ref m4, .int (nI dn), .ref m5, .ref m6, .long (tg T)], cI E m1 4 (mN n), cI E m2 32 (gl K), cI E m3 32 (gl F), cI E m4 32 (gl G), cI E m5 12 D, cJ E m6 6 (tv T)]) Z (qX3_isBench E h m1 m2 m3 m4 m5 m6 nb dn T (nI o) (by omega)) iX3_isBench gX3_same_X3_isBench ⟨rfl, rfl⟩ ⟨Nat.le_of_ble_eq_true rfl, Nat.le_of_ble_eq_true rfl⟩ dX3_same_10 rfl rfl (Nat.le_of_ble_eq_true rfl) ⟨Nat.zero_le _, Nat.zero_le _⟩ [0] rfl rfl 0 rfl rfl rfl rfl rfl ?_
  refine g_ifb_eq (tgt := 24) Z dX3_same_13 (by decide) (fun c_13 => absurd c_13 (fun q => q (inB_nI ho (by omega)))) (fun c_13 => ?_)
  refine g_aload_n Z dX3_same_16 0 rfl rfl ?_
  refine g_iload_n Z dX3_same_17 3 rfl rfl ?_
  refine g_callVx (w' := [cO h 3 [.int (nI nb), .ref m1, .ref m2, .ref m3, .ref m4, .int (nI dn), .ref m5, .ref m6, .long (tg T)], cI E m1 4 (mN n), cI E m2 32 (gl K), cI E m3 32 (gl F), cI E m4 32 (gl G), cI E m5 12 D, cJ E m6 6 (tv T)]) Z (qX3_isWay E h m1 m2 m3 m4 m5 m6 nb dn T way) iX3_isWay gX3_same_X3_isWay ⟨rfl, rfl⟩ ⟨Nat.le_of_ble_eq_true rfl, Nat.le_of_ble_eq_true rfl⟩ dX3_same_18 rfl rfl (Nat.le_of_ble_eq_true rfl) ⟨Nat.zero_le _, Nat.zero_le _⟩ [0] rfl rfl 0 rfl rfl rfl rfl rfl ?_
  refine g_ifb_ne (tgt := 26) Z dX3_same_21 (by decide) (fun c_21 => ?_) (fun c_21 => absurd c_21 (fun q => q hw))
  refine g_iconst Z dX3_same_26 zi_0 ?_
  refine g_istore (lv' := [(4, .int 0), (0, .ref h), (1, .int (nI j)), (2, .int (nI o)), (3, .int way)]) Z dX3_same_27 (by decide) rfl ?_
  exact lX3_same E h m1 m2 m3 m4 m5 m6 nb dn n K F G D T j o way hnb hn hj ho hw Z 6 0 T rfl rfl
