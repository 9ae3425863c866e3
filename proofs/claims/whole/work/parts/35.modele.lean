theorem fa_upd_same {f : Nat → Int32} {i : Nat} {x : Int32} (h : f i = x) : upd f i x = f := by
  funext k
  by_cases e : k = i
  · subst e
    rw [pk_us, h]
  · rw [pk_un e]
theorem fa_upd_twice (f : Nat → Int32) (i : Nat) (x y : Int32) : upd (upd f i x) i y = upd f i y := by
  funext k
  by_cases e : k = i
  · subst e
    rw [pk_us, pk_us]
  · rw [pk_un e, pk_un e, pk_un e]
abbrev rX3_beam : Room := { frames := 3, cells := 0, slots := 0, locals := 78 }
theorem iX3_beam : zInfo yX3_beam wsX3_beam RX3 6 (some .long) 5 := ⟨_, _, rfl, by decide +kernel⟩
theorem kX3_beam_87 : Cond.constantLong RX3 87 (-9223372036854775808) ∈ wsX3_beam := by decide +kernel
set_option maxHeartbeats 4000000 in
set_option maxRecDepth 100000 in
theorem qX3_beamN (E : zE) (h m1 m2 m3 m4 m5 m6 : Nat) (nb dn : Nat) (n : Nat → Nat) (K F G : Nat → Nat → Int32) (D : Nat → Int32) (T : TB) (b way i e wh : Int32) (hnb : nb ≤ 4) (hn : ∀ b, n b ≤ 8) (hv : ¬ ∃ j, j < nb ∧ b = nI j ∧ inB (n j) i ∧ (way = 0 ∨ way = 1) ∧ (e = 0 ∨ e = 1) ∧ (wh = 0 ∨ wh = 1)) : zF E yX3_beam wsX3_beam rX3_beam [.ref h, .int b, .int way, .int i, .int e, .int wh] [cO h 3 [.int (nI nb), .ref m1, .ref m2, .ref m3, .ref m4, .int (nI dn), .ref m5, .ref m6, .long (tg T)], cI E m1 4 (mN n), cI E m2 32 (gl K), cI E m3 32 (gl F), cI E m4 32 (gl G), cI E m5 12 D, cJ E m6 6 (tv T)] (zx (some (.long (-9223372036854775808))) ([cO h 3 [.int (nI nb), .ref m1, .ref m2, .ref m3, .ref m4, .int (nI dn), .ref m5, .ref m6, .long (tg T)], cI E m1 4 (mN n), cI E m2 32 (gl K), cI E m3 32 (gl F), cI E m4 32 (gl G), cI E m5 12 D, cJ E m6 6 (tv T)])) := by
  refine z_start RX3 "beam" (by decide) rfl rfl rfl (Nat.le_of_ble_eq_true rfl) ?_
  intro J Z
  refine g_eq Z (lv2 := [(0, .ref h), (1, .int b), (2, .int way), (3, .int i), (4, .int e), (5, .int wh)]) rfl rfl rfl ?_
  by_cases hb : inB nb b
  · obtain ⟨j, hj, rfl⟩ := inB_of hb
    have hnj := hn j
    refine g_aload_n Z dX3_beam_0 0 rfl rfl ?_
    refine g_iload_n Z dX3_beam_1 1 rfl rfl ?_
    refine g_iload_n Z dX3_beam_2 3 rfl rfl ?_
    refine g_callVx (w' := [cO h 3 [.int (nI nb), .ref m1, .ref m2, .ref m3, .ref m4, .int (nI dn), .ref m5, .ref m6, .long (tg T)], cI E m1 4 (mN n), cI E m2 32 (gl K), cI E m3 32 (gl F), cI E m4 32 (gl G), cI E m5 12 D, cJ E m6 6 (tv T)]) Z (qX3_isPart E h m1 m2 m3 m4 m5 m6 nb dn T n j i hnb hn (by omega)) iX3_isPart gX3_beam_X3_isPart ⟨rfl, rfl⟩ ⟨Nat.le_of_ble_eq_true rfl, Nat.le_of_ble_eq_true rfl⟩ dX3_beam_3 rfl rfl (Nat.le_of_ble_eq_true rfl) ⟨Nat.zero_le _, Nat.zero_le _⟩ [0, 1] rfl rfl 0 rfl rfl rfl rfl rfl ?_
    refine g_ifb_eq (tgt := 39) Z dX3_beam_6 (by decide) (fun c_6 => ?_) (fun c_6 => ?_)
    · refine g_ldc2 Z dX3_beam_39 kX3_beam_87 ?_
      exact g_lret Z dX3_beam_42 rfl ⟨Nat.zero_le _, Nat.zero_le _⟩ ⟨rfl, rfl⟩
    · refine g_aload_n Z dX3_beam_9 0 rfl rfl ?_
      refine g_iload_n Z dX3_beam_10 2 rfl rfl ?_
      refine g_callVx (w' := [cO h 3 [.int (nI nb), .ref m1, .ref m2, .ref m3, .ref m4, .int (nI dn), .ref m5, .ref m6, .long (tg T)], cI E m1 4 (mN n), cI E m2 32 (gl K), cI E m3 32 (gl F), cI E m4 32 (gl G), cI E m5 12 D, cJ E m6 6 (tv T)]) Z (qX3_isWay E h m1 m2 m3 m4 m5 m6 nb dn T way) iX3_isWay gX3_beam_X3_isWay ⟨rfl, rfl⟩ ⟨Nat.le_of_ble_eq_true rfl, Nat.le_of_ble_eq_true rfl⟩ dX3_beam_11 rfl rfl (Nat.le_of_ble_eq_true rfl) ⟨Nat.zero_le _, Nat.zero_le _⟩ [0] rfl rfl 0 rfl rfl rfl rfl rfl ?_
      refine g_ifb_eq (tgt := 39) Z dX3_beam_14 (by decide) (fun c_14 => ?_) (fun c_14 => ?_)
      · refine g_ldc2 Z dX3_beam_39 kX3_beam_87 ?_
        exact g_lret Z dX3_beam_42 rfl ⟨Nat.zero_le _, Nat.zero_le _⟩ ⟨rfl, rfl⟩
      · refine g_aload_n Z dX3_beam_17 0 rfl rfl ?_
        refine g_iload Z dX3_beam_18 4 rfl ?_
        refine g_iconst Z dX3_beam_20 zi_0 ?_
        refine g_iconst Z dX3_beam_21 zi_1 ?_
        refine g_callVx (w' := [cO h 3 [.int (nI nb), .ref m1, .ref m2, .ref m3, .ref m4, .int (nI dn), .ref m5, .ref m6, .long (tg T)], cI E m1 4 (mN n), cI E m2 32 (gl K), cI E m3 32 (gl F), cI E m4 32 (gl G), cI E m5 12 D, cJ E m6 6 (tv T)]) Z (qX3_in E h m1 m2 m3 m4 m5 m6 nb dn T e 0 1) iX3_in gX3_beam_X3_in ⟨rfl, rfl⟩ ⟨Nat.le_of_ble_eq_true rfl, Nat.le_of_ble_eq_true rfl⟩ dX3_beam_22 rfl rfl (Nat.le_of_ble_eq_true rfl) ⟨Nat.zero_le _, Nat.zero_le _⟩ [0] rfl rfl 0 rfl rfl rfl rfl rfl ?_
        refine g_ifb_eq (tgt := 39) Z dX3_beam_25 (by decide) (fun c_25 => ?_) (fun c_25 => ?_)
        · refine g_ldc2 Z dX3_beam_39 kX3_beam_87 ?_
          exact g_lret Z dX3_beam_42 rfl ⟨Nat.zero_le _, Nat.zero_le _⟩ ⟨rfl, rfl⟩
        · refine g_aload_n Z dX3_beam_28 0 rfl rfl ?_
          refine g_iload Z dX3_beam_29 5 rfl ?_
          refine g_iconst Z dX3_beam_31 zi_0 ?_
          refine g_iconst Z dX3_beam_32 zi_1 ?_
          refine g_callVx (w' := [cO h 3 [.int (nI nb), .ref m1, .ref m2, .ref m3, .ref m4, .int (nI dn), .ref m5, .ref m6, .long (tg T)], cI E m1 4 (mN n), cI E m2 32 (gl K), cI E m3 32 (gl F), cI E m4 32 (gl G), cI E m5 12 D, cJ E m6 6 (tv T)]) Z (qX3_in E h m1 m2 m3 m4 m5 m6 nb dn T wh 0 1) iX3_in gX3_beam_X3_in ⟨rfl, rfl⟩ ⟨Nat.le_of_ble_eq_true rfl, Nat.le_of_ble_eq_true rfl⟩ dX3_beam_33 rfl rfl (Nat.le_of_ble_eq_true rfl) ⟨Nat.zero_le _, Nat.zero_le _⟩ [0] rfl rfl 0 rfl rfl rfl rfl rfl ?_
          refine g_ifb_ne (tgt := 43) Z dX3_beam_36 (by decide) (fun c_36 => ?_) (fun c_36 => ?_)
          · exact absurd ⟨j, hj, rfl, c_6, c_14, in01' c_25, in01' c_36⟩ hv
          · refine g_ldc2 Z dX3_beam_39 kX3_beam_87 ?_
            exact g_lret Z dX3_beam_42 rfl ⟨Nat.zero_le _, Nat.zero_le _⟩ ⟨rfl, rfl⟩
  · refine g_aload_n Z dX3_beam_0 0 rfl rfl ?_
    refine g_iload_n Z dX3_beam_1 1 rfl rfl ?_
    refine g_iload_n Z dX3_beam_2 3 rfl rfl ?_
    refine g_callVx (w' := [cO h 3 [.int (nI nb), .ref m1, .ref m2, .ref m3, .ref m4, .int (nI dn), .ref m5, .ref m6, .long (tg T)], cI E m1 4 (mN n), cI E m2 32 (gl K), cI E m3 32 (gl F), cI E m4 32 (gl G), cI E m5 12 D, cJ E m6 6 (tv T)]) Z (qX3_isPartO E h m1 m2 m3 m4 m5 m6 nb dn T n b i hnb hn hb) iX3_isPart gX3_beam_X3_isPart ⟨rfl, rfl⟩ ⟨Nat.le_of_ble_eq_true rfl, Nat.le_of_ble_eq_true rfl⟩ dX3_beam_3 rfl rfl (Nat.le_of_ble_eq_true rfl) ⟨Nat.zero_le _, Nat.zero_le _⟩ [0, 1] rfl rfl 0 rfl rfl rfl rfl rfl ?_
    refine g_ifb_eq (tgt := 39) Z dX3_beam_6 (by decide) (fun c_6 => ?_) (fun c_6 => absurd c_6 id)
    refine g_ldc2 Z dX3_beam_39 kX3_beam_87 ?_
    exact g_lret Z dX3_beam_42 rfl ⟨Nat.zero_le _, Nat.zero_le _⟩ ⟨rfl, rfl⟩

theorem nX3_beam_X3 : ∀ w ∈ wsX30, w ∈ wsX3_beam := by decide +kernel
theorem fX3_beam_13 : Cond.fieldLink RX3 13 (TX3 1).1 (TX3 1).2.1 (TX3 1).2.2.1 ∈ wsX3_beam := by decide +kernel
theorem fX3_beam_32 : Cond.fieldLink RX3 32 (TX3 7).1 (TX3 7).2.1 (TX3 7).2.2.1 ∈ wsX3_beam := by decide +kernel
theorem kX3_beam_107 : Cond.constantLong RX3 107 (2) ∈ wsX3_beam := by decide +kernel
set_option maxHeartbeats 4000000 in
set_option maxRecDepth 100000 in
theorem qX3_beam (E : zE) (h m1 m2 m3 m4 m5 m6 : Nat) (nb dn : Nat) (n : Nat → Nat) (K F G : Nat → Nat → Int32) (D : Nat → Int32) (T : TB) (j p : Nat) (way e wh : Int32) (hnb : nb ≤ 4) (hn : ∀ b, n b ≤ 8) (hj : j < nb) (hp : p < n j) (hw : way = 0 ∨ way = 1) (he : e = 0 ∨ e = 1) (hh : wh = 0 ∨ wh = 1) : zF E yX3_beam wsX3_beam rX3_beam [.ref h, .int (nI j), .int way, .int (nI p), .int e, .int wh] [cO h 3 [.int (nI nb), .ref m1, .ref m2, .ref m3, .ref m4, .int (nI dn), .ref m5, .ref m6, .long (tg T)], cI E m1 4 (mN n), cI E m2 32 (gl K), cI E m3 32 (gl F), cI E m4 32 (gl G), cI E m5 12 D, cJ E m6 6 (tv T)] (fun ov wv => ov = some (.long (bemM (rotM (K j) (F j) (G j) way (n j) p) e wh)) ∧ ∃ T2 : TB, wv = [cO h 3 [.int (nI nb), .ref m1, .ref m2, .ref m3, .ref m4, .int (nI dn), .ref m5, .ref m6, .long (tg T2)], cI E m1 4 (mN n), cI E m2 32 (gl K), cI E m3 32 (gl F), cI E m4 32 (gl G), cI E m5 12 D, cJ E m6 6 (tv T2)]) := by
  refine z_start RX3 "beam" (by decide) rfl rfl rfl (Nat.le_of_ble_eq_true rfl) ?_
  intro J Z
  refine g_eq Z (lv2 := [(0, .ref h), (1, .int (nI j)), (2, .int way), (3, .int (nI p)), (4, .int e), (5, .int wh)]) rfl rfl rfl ?_
  have hnj := hn j
  refine g_aload_n Z dX3_beam_0 0 rfl rfl ?_
  refine g_iload_n Z dX3_beam_1 1 rfl rfl ?_
  refine g_iload_n Z dX3_beam_2 3 rfl rfl ?_
  refine g_callVx (w' := [cO h 3 [.int (nI nb), .ref m1, .ref m2, .ref m3, .ref m4, .int (nI dn), .ref m5, .ref m6, .long (tg T)], cI E m1 4 (mN n), cI E m2 32 (gl K), cI E m3 32 (gl F), cI E m4 32 (gl G), cI E m5 12 D, cJ E m6 6 (tv T)]) Z (qX3_isPart E h m1 m2 m3 m4 m5 m6 nb dn T n j (nI p) hnb hn (by omega)) iX3_isPart gX3_beam_X3_isPart ⟨rfl, rfl⟩ ⟨Nat.le_of_ble_eq_true rfl, Nat.le_of_ble_eq_true rfl⟩ dX3_beam_3 rfl rfl (Nat.le_of_ble_eq_true rfl) ⟨Nat.zero_le _, Nat.zero_le _⟩ [0, 1] rfl rfl 0 rfl rfl rfl rfl rfl ?_
  refine g_ifb_eq (tgt := 39) Z dX3_beam_6 (by decide) (fun c_6 => absurd c_6 (fun q => q (inB_nI hp (by omega)))) (fun c_6 => ?_)
  refine g_aload_n Z dX3_beam_9 0 rfl rfl ?_
  refine g_iload_n Z dX3_beam_10 2 rfl rfl ?_
  refine g_callVx (w' := [cO h 3 [.int (nI nb), .ref m1, .ref m2, .ref m3, .ref m4, .int (nI dn), .ref m5, .ref m6, .long (tg T)], cI E m1 4 (mN n), cI E m2 32 (gl K), cI E m3 32 (gl F), cI E m4 32 (gl G), cI E m5 12 D, cJ E m6 6 (tv T)]) Z (qX3_isWay E h m1 m2 m3 m4 m5 m6 nb dn T way) iX3_isWay gX3_beam_X3_isWay ⟨rfl, rfl⟩ ⟨Nat.le_of_ble_eq_true rfl, Nat.le_of_ble_eq_true rfl⟩ dX3_beam_11 rfl rfl (Nat.le_of_ble_eq_true rfl) ⟨Nat.zero_le _, Nat.zero_le _⟩ [0] rfl rfl 0 rfl rfl rfl rfl rfl ?_
  refine g_ifb_eq (tgt := 39) Z dX3_beam_14 (by decide) (fun c_14 => absurd c_14 (fun q => q hw)) (fun c_14 => ?_)
  refine g_aload_n Z dX3_beam_17 0 rfl rfl ?_
  refine g_iload Z dX3_beam_18 4 rfl ?_
  refine g_iconst Z dX3_beam_20 zi_0 ?_
  refine g_iconst Z dX3_beam_21 zi_1 ?_
  refine g_callVx (w' := [cO h 3 [.int (nI nb), .ref m1, .ref m2, .ref m3, .ref m4, .int (nI dn), .ref m5, .ref m6, .long (tg T)], cI E m1 4 (mN n), cI E m2 32 (gl K), cI E m3 32 (gl F), cI E m4 32 (gl G), cI E m5 12 D, cJ E m6 6 (tv T)]) Z (qX3_in E h m1 m2 m3 m4 m5 m6 nb dn T e 0 1) iX3_in gX3_beam_X3_in ⟨rfl, rfl⟩ ⟨Nat.le_of_ble_eq_true rfl, Nat.le_of_ble_eq_true rfl⟩ dX3_beam_22 rfl rfl (Nat.le_of_ble_eq_true rfl) ⟨Nat.zero_le _, Nat.zero_le _⟩ [0] rfl rfl 0 rfl rfl rfl rfl rfl ?_
  refine g_ifb_eq (tgt := 39) Z dX3_beam_25 (by decide) (fun c_25 => absurd c_25 (fun z => z (in01 he))) (fun c_25 => ?_)
  refine g_aload_n Z dX3_beam_28 0 rfl rfl ?_
  refine g_iload Z dX3_beam_29 5 rfl ?_
  refine g_iconst Z dX3_beam_31 zi_0 ?_
  refine g_iconst Z dX3_beam_32 zi_1 ?_
  refine g_callVx (w' := [cO h 3 [.int (nI nb), .ref m1, .ref m2, .ref m3, .ref m4, .int (nI dn), .ref m5, .ref m6, .long (tg T)], cI E m1 4 (mN n), cI E m2 32 (gl K), cI E m3 32 (gl F), cI E m4 32 (gl G), cI E m5 12 D, cJ E m6 6 (tv T)]) Z (qX3_in E h m1 m2 m3 m4 m5 m6 nb dn T wh 0 1) iX3_in gX3_beam_X3_in ⟨rfl, rfl⟩ ⟨Nat.le_of_ble_eq_true rfl, Nat.le_of_ble_eq_true rfl⟩ dX3_beam_33 rfl rfl (Nat.le_of_ble_eq_true rfl) ⟨Nat.zero_le _, Nat.zero_le _⟩ [0] rfl rfl 0 rfl rfl rfl rfl rfl ?_
  refine g_ifb_ne (tgt := 43) Z dX3_beam_36 (by decide) (fun c_36 => ?_) (fun c_36 => absurd c_36 (fun z => z (in01 hh)))
  refine g_aload_n Z dX3_beam_43 0 rfl rfl ?_
  refine g_iload_n Z dX3_beam_44 1 rfl rfl ?_
  refine g_iload_n Z dX3_beam_45 2 rfl rfl ?_
  refine g_iload_n Z dX3_beam_46 3 rfl rfl ?_
  refine g_aload_n Z dX3_beam_47 0 rfl rfl ?_
  refine g_get Z dX3_beam_48 0 rfl rfl nX3_beam_X3 1 (by decide) fX3_beam_13 rfl ?_
  refine g_iload_n Z dX3_beam_51 1 rfl rfl ?_
  refine g_ialdE (v := nI (n j)) Z dX3_beam_52 1 rfl j rfl (by omega) rfl rfl ?_
  refine g_callVx (w' := [cO h 3 [.int (nI nb), .ref m1, .ref m2, .ref m3, .ref m4, .int (nI dn), .ref m5, .ref m6, .long (tg (rotM (K j) (F j) (G j) way (n j) p))], cI E m1 4 (mN n), cI E m2 32 (gl K), cI E m3 32 (gl F), cI E m4 32 (gl G), cI E m5 12 D, cJ E m6 6 (tv (rotM (K j) (F j) (G j) way (n j) p))]) Z (qX3_workR E h m1 m2 m3 m4 m5 m6 nb dn n K F G D T j p way hnj (by omega) (by omega)) iX3_work gX3_beam_X3_work ⟨rfl, rfl⟩ ⟨Nat.le_of_ble_eq_true rfl, Nat.le_of_ble_eq_true rfl⟩ dX3_beam_53 rfl rfl (Nat.le_of_ble_eq_true rfl) ⟨Nat.zero_le _, Nat.zero_le _⟩ [0, 1, 2, 3, 4, 5, 6] rfl rfl 0 rfl rfl rfl rfl rfl ?_
  obtain ⟨A, e_A⟩ : ∃ A : TB, rotM (K j) (F j) (G j) way (n j) p = A := ⟨_, rfl⟩
  rw [e_A]
  refine g_aload_n Z dX3_beam_56 0 rfl rfl ?_
  refine g_callVx (w' := [cO h 3 [.int (nI nb), .ref m1, .ref m2, .ref m3, .ref m4, .int (nI dn), .ref m5, .ref m6, .long (tg A)], cI E m1 4 (mN n), cI E m2 32 (gl K), cI E m3 32 (gl F), cI E m4 32 (gl G), cI E m5 12 D, cJ E m6 6 (tv A)]) Z (qX3_isBetween E h m1 m2 m3 m4 m5 m6 nb dn A) iX3_isBetween gX3_beam_X3_isBetween ⟨rfl, rfl⟩ ⟨Nat.le_of_ble_eq_true rfl, Nat.le_of_ble_eq_true rfl⟩ dX3_beam_57 rfl rfl (Nat.le_of_ble_eq_true rfl) ⟨Nat.zero_le _, Nat.zero_le _⟩ [0, 6] rfl rfl 0 rfl rfl rfl rfl rfl ?_
  refine g_ifb_ne (tgt := 67) Z dX3_beam_60 (by decide) (fun c_60 => ?_) (fun c_60 => ?_)
  · refine g_iload Z dX3_beam_67 4 rfl ?_
    refine g_if_ne (tgt := 89) Z dX3_beam_69 (by decide) (fun c_69 => ?_) (fun c_69 => ?_)
    · refine g_aload_n Z dX3_beam_89 0 rfl rfl ?_
      refine g_aload_n Z dX3_beam_90 0 rfl rfl ?_
      refine g_get Z dX3_beam_91 0 rfl rfl nX3_beam_X3 7 (by decide) fX3_beam_32 rfl ?_
      refine g_iconst Z dX3_beam_94 zi_3 ?_
      refine g_laldE (v := td A) Z dX3_beam_95 6 rfl 3 rfl (by decide) rfl rfl ?_
      refine g_aload_n Z dX3_beam_96 0 rfl rfl ?_
      refine g_get Z dX3_beam_97 0 rfl rfl nX3_beam_X3 7 (by decide) fX3_beam_32 rfl ?_
      refine g_iconst Z dX3_beam_100 zi_0 ?_
      refine g_laldE (v := ta A) Z dX3_beam_101 6 rfl 0 rfl (by decide) rfl rfl ?_
      refine g_lsub Z dX3_beam_102 ?_
      refine g_ldc2 Z dX3_beam_103 kX3_beam_107 ?_
      refine g_aload_n Z dX3_beam_106 0 rfl rfl ?_
      refine g_get Z dX3_beam_107 0 rfl rfl nX3_beam_X3 7 (by decide) fX3_beam_32 rfl ?_
      refine g_iconst Z dX3_beam_110 zi_1 ?_
      refine g_laldE (v := tb A) Z dX3_beam_111 6 rfl 1 rfl (by decide) rfl rfl ?_
      refine g_lmul Z dX3_beam_112 ?_
      refine g_iload Z dX3_beam_113 5 rfl ?_
      refine g_callVx (w' := [cO h 3 [.int (nI nb), .ref m1, .ref m2, .ref m3, .ref m4, .int (nI dn), .ref m5, .ref m6, .long (tg A)], cI E m1 4 (mN n), cI E m2 32 (gl K), cI E m3 32 (gl F), cI E m4 32 (gl G), cI E m5 12 D, cJ E m6 6 (tv A)]) Z (qX3_lowest E h m1 m2 m3 m4 m5 m6 nb dn A ((td A) - (ta A)) (2 * (tb A)) wh) iX3_lowest gX3_beam_X3_lowest ⟨rfl, rfl⟩ ⟨Nat.le_of_ble_eq_true rfl, Nat.le_of_ble_eq_true rfl⟩ dX3_beam_115 rfl rfl (Nat.le_of_ble_eq_true rfl) ⟨Nat.zero_le _, Nat.zero_le _⟩ [0] rfl rfl 0 rfl rfl rfl rfl rfl ?_
      exact g_lret Z dX3_beam_118 rfl ⟨Nat.zero_le _, Nat.zero_le _⟩ ⟨congrArg (fun v => some (Value.long v)) (by rw [e_A, bemM, if_pos c_60, if_neg c_69]), _, rfl⟩
    · refine g_aload_n Z dX3_beam_72 0 rfl rfl ?_
      refine g_aload_n Z dX3_beam_73 0 rfl rfl ?_
      refine g_callVx (w' := [cO h 3 [.int (nI nb), .ref m1, .ref m2, .ref m3, .ref m4, .int (nI dn), .ref m5, .ref m6, .long (tg A)], cI E m1 4 (mN n), cI E m2 32 (gl K), cI E m3 32 (gl F), cI E m4 32 (gl G), cI E m5 12 D, cJ E m6 6 (tv A)]) Z (qX3_wideAbove E h m1 m2 m3 m4 m5 m6 nb dn A) iX3_wideAbove gX3_beam_X3_wideAbove ⟨rfl, rfl⟩ ⟨Nat.le_of_ble_eq_true rfl, Nat.le_of_ble_eq_true rfl⟩ dX3_beam_74 rfl rfl (Nat.le_of_ble_eq_true rfl) ⟨Nat.zero_le _, Nat.zero_le _⟩ [0, 6] rfl rfl 0 rfl rfl rfl rfl rfl ?_
      refine g_aload_n Z dX3_beam_77 0 rfl rfl ?_
      refine g_callVx (w' := [cO h 3 [.int (nI nb), .ref m1, .ref m2, .ref m3, .ref m4, .int (nI dn), .ref m5, .ref m6, .long (tg A)], cI E m1 4 (mN n), cI E m2 32 (gl K), cI E m3 32 (gl F), cI E m4 32 (gl G), cI E m5 12 D, cJ E m6 6 (tv A)]) Z (qX3_wideBelow E h m1 m2 m3 m4 m5 m6 nb dn A) iX3_wideBelow gX3_beam_X3_wideBelow ⟨rfl, rfl⟩ ⟨Nat.le_of_ble_eq_true rfl, Nat.le_of_ble_eq_true rfl⟩ dX3_beam_78 rfl rfl (Nat.le_of_ble_eq_true rfl) ⟨Nat.zero_le _, Nat.zero_le _⟩ [0, 6] rfl rfl 0 rfl rfl rfl rfl rfl ?_
      refine g_iload Z dX3_beam_81 5 rfl ?_
      refine g_callVx (w' := [cO h 3 [.int (nI nb), .ref m1, .ref m2, .ref m3, .ref m4, .int (nI dn), .ref m5, .ref m6, .long (tg A)], cI E m1 4 (mN n), cI E m2 32 (gl K), cI E m3 32 (gl F), cI E m4 32 (gl G), cI E m5 12 D, cJ E m6 6 (tv A)]) Z (qX3_lowest E h m1 m2 m3 m4 m5 m6 nb dn A (4 * tb A * tb A) (4 * tg A * tg A - sumF A * sumF A) wh) iX3_lowest gX3_beam_X3_lowest ⟨rfl, rfl⟩ ⟨Nat.le_of_ble_eq_true rfl, Nat.le_of_ble_eq_true rfl⟩ dX3_beam_83 rfl rfl (Nat.le_of_ble_eq_true rfl) ⟨Nat.zero_le _, Nat.zero_le _⟩ [0] rfl rfl 0 rfl rfl rfl rfl rfl ?_
      refine g_goto (tgt := 118) Z dX3_beam_86 (by decide) ?_
      exact g_lret Z dX3_beam_118 rfl ⟨Nat.zero_le _, Nat.zero_le _⟩ ⟨congrArg (fun v => some (Value.long v)) (by rw [e_A, bemM, if_pos c_60, if_pos c_69]), _, rfl⟩
  · refine g_ldc2 Z dX3_beam_63 kX3_beam_87 ?_
    exact g_lret Z dX3_beam_66 rfl ⟨Nat.zero_le _, Nat.zero_le _⟩ ⟨congrArg (fun v => some (Value.long v)) (by rw [e_A, bemM, if_neg c_60]), _, rfl⟩

abbrev rX3_axis : Room := { frames := 3, cells := 0, slots := 0, locals := 78 }
theorem iX3_axis : zInfo yX3_axis wsX3_axis RX3 8 (some .long) 5 := ⟨_, _, rfl, by decide +kernel⟩
theorem kX3_axis_87 : Cond.constantLong RX3 87 (-9223372036854775808) ∈ wsX3_axis := by decide +kernel
set_option maxHeartbeats 4000000 in
set_option maxRecDepth 100000 in
theorem qX3_axisN (E : zE) (h m1 m2 m3 m4 m5 m6 : Nat) (nb dn : Nat) (n : Nat → Nat) (K F G : Nat → Nat → Int32) (D : Nat → Int32) (T : TB) (b way i e wh : Int32) (hnb : nb ≤ 4) (hn : ∀ b, n b ≤ 8) (hv : ¬ ∃ j, j < nb ∧ b = nI j ∧ inB (n j) i ∧ (way = 0 ∨ way = 1) ∧ (e = 0 ∨ e = 1) ∧ (wh = 0 ∨ wh = 1)) : zF E yX3_axis wsX3_axis rX3_axis [.ref h, .int b, .int way, .int i, .int e, .int wh] [cO h 3 [.int (nI nb), .ref m1, .ref m2, .ref m3, .ref m4, .int (nI dn), .ref m5, .ref m6, .long (tg T)], cI E m1 4 (mN n), cI E m2 32 (gl K), cI E m3 32 (gl F), cI E m4 32 (gl G), cI E m5 12 D, cJ E m6 6 (tv T)] (zx (some (.long (-9223372036854775808))) ([cO h 3 [.int (nI nb), .ref m1, .ref m2, .ref m3, .ref m4, .int (nI dn), .ref m5, .ref m6, .long (tg T)], cI E m1 4 (mN n), cI E m2 32 (gl K), cI E m3 32 (gl F), cI E m4 32 (gl G), cI E m5 12 D, cJ E m6 6 (tv T)])) := by
  refine z_start RX3 "axis" (by decide) rfl rfl rfl (Nat.le_of_ble_eq_true rfl) ?_
  intro J Z
  refine g_eq Z (lv2 := [(0, .ref h), (1, .int b), (2, .int way), (3, .int i), (4, .int e), (5, .int wh)]) rfl rfl rfl ?_
  by_cases hb : inB nb b
  · obtain ⟨j, hj, rfl⟩ := inB_of hb
    have hnj := hn j
    refine g_aload_n Z dX3_axis_0 0 rfl rfl ?_
    refine g_iload_n Z dX3_axis_1 1 rfl rfl ?_
    refine g_iload_n Z dX3_axis_2 3 rfl rfl ?_
    refine g_callVx (w' := [cO h 3 [.int (nI nb), .ref m1, .ref m2, .ref m3, .ref m4, .int (nI dn), .ref m5, .ref m6, .long (tg T)], cI E m1 4 (mN n), cI E m2 32 (gl K), cI E m3 32 (gl F), cI E m4 32 (gl G), cI E m5 12 D, cJ E m6 6 (tv T)]) Z (qX3_isPart E h m1 m2 m3 m4 m5 m6 nb dn T n j i hnb hn (by omega)) iX3_isPart gX3_axis_X3_isPart ⟨rfl, rfl⟩ ⟨Nat.le_of_ble_eq_true rfl, Nat.le_of_ble_eq_true rfl⟩ dX3_axis_3 rfl rfl (Nat.le_of_ble_eq_true rfl) ⟨Nat.zero_le _, Nat.zero_le _⟩ [0, 1] rfl rfl 0 rfl rfl rfl rfl rfl ?_
    refine g_ifb_eq (tgt := 39) Z dX3_axis_6 (by decide) (fun c_6 => ?_) (fun c_6 => ?_)
    · refine g_ldc2 Z dX3_axis_39 kX3_axis_87 ?_
      exact g_lret Z dX3_axis_42 rfl ⟨Nat.zero_le _, Nat.zero_le _⟩ ⟨rfl, rfl⟩
    · refine g_aload_n Z dX3_axis_9 0 rfl rfl ?_
      refine g_iload_n Z dX3_axis_10 2 rfl rfl ?_
      refine g_callVx (w' := [cO h 3 [.int (nI nb), .ref m1, .ref m2, .ref m3, .ref m4, .int (nI dn), .ref m5, .ref m6, .long (tg T)], cI E m1 4 (mN n), cI E m2 32 (gl K), cI E m3 32 (gl F), cI E m4 32 (gl G), cI E m5 12 D, cJ E m6 6 (tv T)]) Z (qX3_isWay E h m1 m2 m3 m4 m5 m6 nb dn T way) iX3_isWay gX3_axis_X3_isWay ⟨rfl, rfl⟩ ⟨Nat.le_of_ble_eq_true rfl, Nat.le_of_ble_eq_true rfl⟩ dX3_axis_11 rfl rfl (Nat.le_of_ble_eq_true rfl) ⟨Nat.zero_le _, Nat.zero_le _⟩ [0] rfl rfl 0 rfl rfl rfl rfl rfl ?_
      refine g_ifb_eq (tgt := 39) Z dX3_axis_14 (by decide) (fun c_14 => ?_) (fun c_14 => ?_)
      · refine g_ldc2 Z dX3_axis_39 kX3_axis_87 ?_
        exact g_lret Z dX3_axis_42 rfl ⟨Nat.zero_le _, Nat.zero_le _⟩ ⟨rfl, rfl⟩
      · refine g_aload_n Z dX3_axis_17 0 rfl rfl ?_
        refine g_iload Z dX3_axis_18 4 rfl ?_
        refine g_iconst Z dX3_axis_20 zi_0 ?_
        refine g_iconst Z dX3_axis_21 zi_1 ?_
        refine g_callVx (w' := [cO h 3 [.int (nI nb), .ref m1, .ref m2, .ref m3, .ref m4, .int (nI dn), .ref m5, .ref m6, .long (tg T)], cI E m1 4 (mN n), cI E m2 32 (gl K), cI E m3 32 (gl F), cI E m4 32 (gl G), cI E m5 12 D, cJ E m6 6 (tv T)]) Z (qX3_in E h m1 m2 m3 m4 m5 m6 nb dn T e 0 1) iX3_in gX3_axis_X3_in ⟨rfl, rfl⟩ ⟨Nat.le_of_ble_eq_true rfl, Nat.le_of_ble_eq_true rfl⟩ dX3_axis_22 rfl rfl (Nat.le_of_ble_eq_true rfl) ⟨Nat.zero_le _, Nat.zero_le _⟩ [0] rfl rfl 0 rfl rfl rfl rfl rfl ?_
        refine g_ifb_eq (tgt := 39) Z dX3_axis_25 (by decide) (fun c_25 => ?_) (fun c_25 => ?_)
        · refine g_ldc2 Z dX3_axis_39 kX3_axis_87 ?_
          exact g_lret Z dX3_axis_42 rfl ⟨Nat.zero_le _, Nat.zero_le _⟩ ⟨rfl, rfl⟩
        · refine g_aload_n Z dX3_axis_28 0 rfl rfl ?_
          refine g_iload Z dX3_axis_29 5 rfl ?_
          refine g_iconst Z dX3_axis_31 zi_0 ?_
          refine g_iconst Z dX3_axis_32 zi_1 ?_
          refine g_callVx (w' := [cO h 3 [.int (nI nb), .ref m1, .ref m2, .ref m3, .ref m4, .int (nI dn), .ref m5, .ref m6, .long (tg T)], cI E m1 4 (mN n), cI E m2 32 (gl K), cI E m3 32 (gl F), cI E m4 32 (gl G), cI E m5 12 D, cJ E m6 6 (tv T)]) Z (qX3_in E h m1 m2 m3 m4 m5 m6 nb dn T wh 0 1) iX3_in gX3_axis_X3_in ⟨rfl, rfl⟩ ⟨Nat.le_of_ble_eq_true rfl, Nat.le_of_ble_eq_true rfl⟩ dX3_axis_33 rfl rfl (Nat.le_of_ble_eq_true rfl) ⟨Nat.zero_le _, Nat.zero_le _⟩ [0] rfl rfl 0 rfl rfl rfl rfl rfl ?_
          refine g_ifb_ne (tgt := 43) Z dX3_axis_36 (by decide) (fun c_36 => ?_) (fun c_36 => ?_)
          · exact absurd ⟨j, hj, rfl, c_6, c_14, in01' c_25, in01' c_36⟩ hv
          · refine g_ldc2 Z dX3_axis_39 kX3_axis_87 ?_
            exact g_lret Z dX3_axis_42 rfl ⟨Nat.zero_le _, Nat.zero_le _⟩ ⟨rfl, rfl⟩
  · refine g_aload_n Z dX3_axis_0 0 rfl rfl ?_
    refine g_iload_n Z dX3_axis_1 1 rfl rfl ?_
    refine g_iload_n Z dX3_axis_2 3 rfl rfl ?_
    refine g_callVx (w' := [cO h 3 [.int (nI nb), .ref m1, .ref m2, .ref m3, .ref m4, .int (nI dn), .ref m5, .ref m6, .long (tg T)], cI E m1 4 (mN n), cI E m2 32 (gl K), cI E m3 32 (gl F), cI E m4 32 (gl G), cI E m5 12 D, cJ E m6 6 (tv T)]) Z (qX3_isPartO E h m1 m2 m3 m4 m5 m6 nb dn T n b i hnb hn hb) iX3_isPart gX3_axis_X3_isPart ⟨rfl, rfl⟩ ⟨Nat.le_of_ble_eq_true rfl, Nat.le_of_ble_eq_true rfl⟩ dX3_axis_3 rfl rfl (Nat.le_of_ble_eq_true rfl) ⟨Nat.zero_le _, Nat.zero_le _⟩ [0, 1] rfl rfl 0 rfl rfl rfl rfl rfl ?_
    refine g_ifb_eq (tgt := 39) Z dX3_axis_6 (by decide) (fun c_6 => ?_) (fun c_6 => absurd c_6 id)
    refine g_ldc2 Z dX3_axis_39 kX3_axis_87 ?_
    exact g_lret Z dX3_axis_42 rfl ⟨Nat.zero_le _, Nat.zero_le _⟩ ⟨rfl, rfl⟩

theorem nX3_axis_X3 : ∀ w ∈ wsX30, w ∈ wsX3_axis := by decide +kernel
theorem fX3_axis_13 : Cond.fieldLink RX3 13 (TX3 1).1 (TX3 1).2.1 (TX3 1).2.2.1 ∈ wsX3_axis := by decide +kernel
theorem kX3_axis_107 : Cond.constantLong RX3 107 (2) ∈ wsX3_axis := by decide +kernel
theorem fX3_axis_36 : Cond.fieldLink RX3 36 (TX3 8).1 (TX3 8).2.1 (TX3 8).2.2.1 ∈ wsX3_axis := by decide +kernel
theorem fX3_axis_32 : Cond.fieldLink RX3 32 (TX3 7).1 (TX3 7).2.1 (TX3 7).2.2.1 ∈ wsX3_axis := by decide +kernel
set_option maxHeartbeats 4000000 in
set_option maxRecDepth 100000 in
theorem qX3_axis (E : zE) (h m1 m2 m3 m4 m5 m6 : Nat) (nb dn : Nat) (n : Nat → Nat) (K F G : Nat → Nat → Int32) (D : Nat → Int32) (T : TB) (j p : Nat) (way e wh : Int32) (hnb : nb ≤ 4) (hn : ∀ b, n b ≤ 8) (hj : j < nb) (hp : p < n j) (hw : way = 0 ∨ way = 1) (he : e = 0 ∨ e = 1) (hh : wh = 0 ∨ wh = 1) : zF E yX3_axis wsX3_axis rX3_axis [.ref h, .int (nI j), .int way, .int (nI p), .int e, .int wh] [cO h 3 [.int (nI nb), .ref m1, .ref m2, .ref m3, .ref m4, .int (nI dn), .ref m5, .ref m6, .long (tg T)], cI E m1 4 (mN n), cI E m2 32 (gl K), cI E m3 32 (gl F), cI E m4 32 (gl G), cI E m5 12 D, cJ E m6 6 (tv T)] (fun ov wv => ov = some (.long (axiM (rotM (K j) (F j) (G j) way (n j) p) e wh)) ∧ ∃ T2 : TB, wv = [cO h 3 [.int (nI nb), .ref m1, .ref m2, .ref m3, .ref m4, .int (nI dn), .ref m5, .ref m6, .long (tg T2)], cI E m1 4 (mN n), cI E m2 32 (gl K), cI E m3 32 (gl F), cI E m4 32 (gl G), cI E m5 12 D, cJ E m6 6 (tv T2)]) := by
  refine z_start RX3 "axis" (by decide) rfl rfl rfl (Nat.le_of_ble_eq_true rfl) ?_
  intro J Z
  refine g_eq Z (lv2 := [(0, .ref h), (1, .int (nI j)), (2, .int way), (3, .int (nI p)), (4, .int e), (5, .int wh)]) rfl rfl rfl ?_
  have hnj := hn j
  refine g_aload_n Z dX3_axis_0 0 rfl rfl ?_
  refine g_iload_n Z dX3_axis_1 1 rfl rfl ?_
  refine g_iload_n Z dX3_axis_2 3 rfl rfl ?_
  refine g_callVx (w' := [cO h 3 [.int (nI nb), .ref m1, .ref m2, .ref m3, .ref m4, .int (nI dn), .ref m5, .ref m6, .long (tg T)], cI E m1 4 (mN n), cI E m2 32 (gl K), cI E m3 32 (gl F), cI E m4 32 (gl G), cI E m5 12 D, cJ E m6 6 (tv T)]) Z (qX3_isPart E h m1 m2 m3 m4 m5 m6 nb dn T n j (nI p) hnb hn (by omega)) iX3_isPart gX3_axis_X3_isPart ⟨rfl, rfl⟩ ⟨Nat.le_of_ble_eq_true rfl, Nat.le_of_ble_eq_true rfl⟩ dX3_axis_3 rfl rfl (Nat.le_of_ble_eq_true rfl) ⟨Nat.zero_le _, Nat.zero_le _⟩ [0, 1] rfl rfl 0 rfl rfl rfl rfl rfl ?_
  refine g_ifb_eq (tgt := 39) Z dX3_axis_6 (by decide) (fun c_6 => absurd c_6 (fun q => q (inB_nI hp (by omega)))) (fun c_6 => ?_)
  refine g_aload_n Z dX3_axis_9 0 rfl rfl ?_
  refine g_iload_n Z dX3_axis_10 2 rfl rfl ?_
  refine g_callVx (w' := [cO h 3 [.int (nI nb), .ref m1, .ref m2, .ref m3, .ref m4, .int (nI dn), .ref m5, .ref m6, .long (tg T)], cI E m1 4 (mN n), cI E m2 32 (gl K), cI E m3 32 (gl F), cI E m4 32 (gl G), cI E m5 12 D, cJ E m6 6 (tv T)]) Z (qX3_isWay E h m1 m2 m3 m4 m5 m6 nb dn T way) iX3_isWay gX3_axis_X3_isWay ⟨rfl, rfl⟩ ⟨Nat.le_of_ble_eq_true rfl, Nat.le_of_ble_eq_true rfl⟩ dX3_axis_11 rfl rfl (Nat.le_of_ble_eq_true rfl) ⟨Nat.zero_le _, Nat.zero_le _⟩ [0] rfl rfl 0 rfl rfl rfl rfl rfl ?_
  refine g_ifb_eq (tgt := 39) Z dX3_axis_14 (by decide) (fun c_14 => absurd c_14 (fun q => q hw)) (fun c_14 => ?_)
  refine g_aload_n Z dX3_axis_17 0 rfl rfl ?_
  refine g_iload Z dX3_axis_18 4 rfl ?_
  refine g_iconst Z dX3_axis_20 zi_0 ?_
  refine g_iconst Z dX3_axis_21 zi_1 ?_
  refine g_callVx (w' := [cO h 3 [.int (nI nb), .ref m1, .ref m2, .ref m3, .ref m4, .int (nI dn), .ref m5, .ref m6, .long (tg T)], cI E m1 4 (mN n), cI E m2 32 (gl K), cI E m3 32 (gl F), cI E m4 32 (gl G), cI E m5 12 D, cJ E m6 6 (tv T)]) Z (qX3_in E h m1 m2 m3 m4 m5 m6 nb dn T e 0 1) iX3_in gX3_axis_X3_in ⟨rfl, rfl⟩ ⟨Nat.le_of_ble_eq_true rfl, Nat.le_of_ble_eq_true rfl⟩ dX3_axis_22 rfl rfl (Nat.le_of_ble_eq_true rfl) ⟨Nat.zero_le _, Nat.zero_le _⟩ [0] rfl rfl 0 rfl rfl rfl rfl rfl ?_
  refine g_ifb_eq (tgt := 39) Z dX3_axis_25 (by decide) (fun c_25 => absurd c_25 (fun z => z (in01 he))) (fun c_25 => ?_)
  refine g_aload_n Z dX3_axis_28 0 rfl rfl ?_
  refine g_iload Z dX3_axis_29 5 rfl ?_
  refine g_iconst Z dX3_axis_31 zi_0 ?_
  refine g_iconst Z dX3_axis_32 zi_1 ?_
  refine g_callVx (w' := [cO h 3 [.int (nI nb), .ref m1, .ref m2, .ref m3, .ref m4, .int (nI dn), .ref m5, .ref m6, .long (tg T)], cI E m1 4 (mN n), cI E m2 32 (gl K), cI E m3 32 (gl F), cI E m4 32 (gl G), cI E m5 12 D, cJ E m6 6 (tv T)]) Z (qX3_in E h m1 m2 m3 m4 m5 m6 nb dn T wh 0 1) iX3_in gX3_axis_X3_in ⟨rfl, rfl⟩ ⟨Nat.le_of_ble_eq_true rfl, Nat.le_of_ble_eq_true rfl⟩ dX3_axis_33 rfl rfl (Nat.le_of_ble_eq_true rfl) ⟨Nat.zero_le _, Nat.zero_le _⟩ [0] rfl rfl 0 rfl rfl rfl rfl rfl ?_
  refine g_ifb_ne (tgt := 43) Z dX3_axis_36 (by decide) (fun c_36 => ?_) (fun c_36 => absurd c_36 (fun z => z (in01 hh)))
  refine g_aload_n Z dX3_axis_43 0 rfl rfl ?_
  refine g_iload_n Z dX3_axis_44 1 rfl rfl ?_
  refine g_iload_n Z dX3_axis_45 2 rfl rfl ?_
  refine g_iload_n Z dX3_axis_46 3 rfl rfl ?_
  refine g_aload_n Z dX3_axis_47 0 rfl rfl ?_
  refine g_get Z dX3_axis_48 0 rfl rfl nX3_axis_X3 1 (by decide) fX3_axis_13 rfl ?_
  refine g_iload_n Z dX3_axis_51 1 rfl rfl ?_
  refine g_ialdE (v := nI (n j)) Z dX3_axis_52 1 rfl j rfl (by omega) rfl rfl ?_
  refine g_callVx (w' := [cO h 3 [.int (nI nb), .ref m1, .ref m2, .ref m3, .ref m4, .int (nI dn), .ref m5, .ref m6, .long (tg (rotM (K j) (F j) (G j) way (n j) p))], cI E m1 4 (mN n), cI E m2 32 (gl K), cI E m3 32 (gl F), cI E m4 32 (gl G), cI E m5 12 D, cJ E m6 6 (tv (rotM (K j) (F j) (G j) way (n j) p))]) Z (qX3_workR E h m1 m2 m3 m4 m5 m6 nb dn n K F G D T j p way hnj (by omega) (by omega)) iX3_work gX3_axis_X3_work ⟨rfl, rfl⟩ ⟨Nat.le_of_ble_eq_true rfl, Nat.le_of_ble_eq_true rfl⟩ dX3_axis_53 rfl rfl (Nat.le_of_ble_eq_true rfl) ⟨Nat.zero_le _, Nat.zero_le _⟩ [0, 1, 2, 3, 4, 5, 6] rfl rfl 0 rfl rfl rfl rfl rfl ?_
  obtain ⟨A, e_A⟩ : ∃ A : TB, rotM (K j) (F j) (G j) way (n j) p = A := ⟨_, rfl⟩
  rw [e_A]
  refine g_aload_n Z dX3_axis_56 0 rfl rfl ?_
  refine g_callVx (w' := [cO h 3 [.int (nI nb), .ref m1, .ref m2, .ref m3, .ref m4, .int (nI dn), .ref m5, .ref m6, .long (tg A)], cI E m1 4 (mN n), cI E m2 32 (gl K), cI E m3 32 (gl F), cI E m4 32 (gl G), cI E m5 12 D, cJ E m6 6 (tv A)]) Z (qX3_traceOf E h m1 m2 m3 m4 m5 m6 nb dn A) iX3_traceOf gX3_axis_X3_traceOf ⟨rfl, rfl⟩ ⟨Nat.le_of_ble_eq_true rfl, Nat.le_of_ble_eq_true rfl⟩ dX3_axis_57 rfl rfl (Nat.le_of_ble_eq_true rfl) ⟨Nat.zero_le _, Nat.zero_le _⟩ [0, 6] rfl rfl 0 rfl rfl rfl rfl rfl ?_
  refine g_ldc2 Z dX3_axis_60 kX3_axis_107 ?_
  refine g_aload_n Z dX3_axis_63 0 rfl rfl ?_
  refine g_get Z dX3_axis_64 0 rfl rfl nX3_axis_X3 8 (by decide) fX3_axis_36 rfl ?_
  refine g_lmul Z dX3_axis_67 ?_
  refine g_lcmp_ne (tgt := 76) Z dX3_axis_68 dX3_axis_69 rfl (by decide) (fun c_69 => ?_) (fun c_69 => ?_)
  · refine g_iload Z dX3_axis_76 4 rfl ?_
    refine g_if_ne (tgt := 116) Z dX3_axis_78 (by decide) (fun c_78 => ?_) (fun c_78 => ?_)
    · refine g_aload_n Z dX3_axis_116 0 rfl rfl ?_
      refine g_get Z dX3_axis_117 0 rfl rfl nX3_axis_X3 7 (by decide) fX3_axis_32 rfl ?_
      refine g_iconst Z dX3_axis_120 zi_2 ?_
      refine g_laldE (v := tc A) Z dX3_axis_121 6 rfl 2 rfl (by decide) rfl rfl ?_
      refine g_aload_n Z dX3_axis_122 0 rfl rfl ?_
      refine g_get Z dX3_axis_123 0 rfl rfl nX3_axis_X3 7 (by decide) fX3_axis_32 rfl ?_
      refine g_iconst Z dX3_axis_126 zi_4 ?_
      refine g_laldE (v := te A) Z dX3_axis_127 6 rfl 4 rfl (by decide) rfl rfl ?_
      refine g_lmul Z dX3_axis_128 ?_
      refine g_aload_n Z dX3_axis_129 0 rfl rfl ?_
      refine g_get Z dX3_axis_130 0 rfl rfl nX3_axis_X3 7 (by decide) fX3_axis_32 rfl ?_
      refine g_iconst Z dX3_axis_133 zi_5 ?_
      refine g_laldE (v := tf A) Z dX3_axis_134 6 rfl 5 rfl (by decide) rfl rfl ?_
      refine g_aload_n Z dX3_axis_135 0 rfl rfl ?_
      refine g_get Z dX3_axis_136 0 rfl rfl nX3_axis_X3 7 (by decide) fX3_axis_32 rfl ?_
      refine g_iconst Z dX3_axis_139 zi_0 ?_
      refine g_laldE (v := ta A) Z dX3_axis_140 6 rfl 0 rfl (by decide) rfl rfl ?_
      refine g_aload_n Z dX3_axis_141 0 rfl rfl ?_
      refine g_get Z dX3_axis_142 0 rfl rfl nX3_axis_X3 8 (by decide) fX3_axis_36 rfl ?_
      refine g_lsub Z dX3_axis_145 ?_
      refine g_lmul Z dX3_axis_146 ?_
      refine g_lsub Z dX3_axis_147 ?_
      refine g_lstore (lv' := [(6, .long (((tc A) * (te A)) - ((tf A) * ((ta A) - (tg A))))), (0, .ref h), (1, .int (nI j)), (2, .int way), (3, .int (nI p)), (4, .int e), (5, .int wh)]) Z dX3_axis_148 (by decide) rfl ?_
      refine g_aload_n Z dX3_axis_150 1 rfl rfl ?_
      refine g_lload Z dX3_axis_151 0 rfl ?_
      refine g_aload_n Z dX3_axis_153 1 rfl rfl ?_
      refine g_get Z dX3_axis_154 0 rfl rfl nX3_axis_X3 8 (by decide) fX3_axis_36 rfl ?_
      refine g_ldc2 Z dX3_axis_157 kX3_axis_107 ?_
      refine g_aload_n Z dX3_axis_160 1 rfl rfl ?_
      refine g_get Z dX3_axis_161 0 rfl rfl nX3_axis_X3 8 (by decide) fX3_axis_36 rfl ?_
      refine g_lmul Z dX3_axis_164 ?_
      refine g_aload_n Z dX3_axis_165 1 rfl rfl ?_
      refine g_callVx (w' := [cO h 3 [.int (nI nb), .ref m1, .ref m2, .ref m3, .ref m4, .int (nI dn), .ref m5, .ref m6, .long (tg A)], cI E m1 4 (mN n), cI E m2 32 (gl K), cI E m3 32 (gl F), cI E m4 32 (gl G), cI E m5 12 D, cJ E m6 6 (tv A)]) Z (qX3_traceOf E h m1 m2 m3 m4 m5 m6 nb dn A) iX3_traceOf gX3_axis_X3_traceOf ⟨rfl, rfl⟩ ⟨Nat.le_of_ble_eq_true rfl, Nat.le_of_ble_eq_true rfl⟩ dX3_axis_166 rfl rfl (Nat.le_of_ble_eq_true rfl) ⟨Nat.zero_le _, Nat.zero_le _⟩ [0, 6] rfl rfl 0 rfl rfl rfl rfl rfl ?_
      refine g_lsub Z dX3_axis_169 ?_
      refine g_lmul Z dX3_axis_170 ?_
      refine g_iload Z dX3_axis_171 6 rfl ?_
      refine g_callVx (w' := [cO h 3 [.int (nI nb), .ref m1, .ref m2, .ref m3, .ref m4, .int (nI dn), .ref m5, .ref m6, .long (tg A)], cI E m1 4 (mN n), cI E m2 32 (gl K), cI E m3 32 (gl F), cI E m4 32 (gl G), cI E m5 12 D, cJ E m6 6 (tv A)]) Z (qX3_lowest E h m1 m2 m3 m4 m5 m6 nb dn A (((tc A) * (te A)) - ((tf A) * ((ta A) - (tg A)))) ((tg A) * ((2 * (tg A)) - (sumF A))) wh) iX3_lowest gX3_axis_X3_lowest ⟨rfl, rfl⟩ ⟨Nat.le_of_ble_eq_true rfl, Nat.le_of_ble_eq_true rfl⟩ dX3_axis_173 rfl rfl (Nat.le_of_ble_eq_true rfl) ⟨Nat.zero_le _, Nat.zero_le _⟩ [0] rfl rfl 0 rfl rfl rfl rfl rfl ?_
      exact g_lret Z dX3_axis_176 rfl ⟨Nat.zero_le _, Nat.zero_le _⟩ ⟨congrArg (fun v => some (Value.long v)) (by rw [e_A, axiM, if_neg c_69, if_neg c_78]), _, rfl⟩
    · refine g_aload_n Z dX3_axis_81 0 rfl rfl ?_
      refine g_get Z dX3_axis_82 0 rfl rfl nX3_axis_X3 7 (by decide) fX3_axis_32 rfl ?_
      refine g_iconst Z dX3_axis_85 zi_1 ?_
      refine g_laldE (v := tb A) Z dX3_axis_86 6 rfl 1 rfl (by decide) rfl rfl ?_
      refine g_aload_n Z dX3_axis_87 0 rfl rfl ?_
      refine g_get Z dX3_axis_88 0 rfl rfl nX3_axis_X3 7 (by decide) fX3_axis_32 rfl ?_
      refine g_iconst Z dX3_axis_91 zi_5 ?_
      refine g_laldE (v := tf A) Z dX3_axis_92 6 rfl 5 rfl (by decide) rfl rfl ?_
      refine g_lmul Z dX3_axis_93 ?_
      refine g_aload_n Z dX3_axis_94 0 rfl rfl ?_
      refine g_get Z dX3_axis_95 0 rfl rfl nX3_axis_X3 7 (by decide) fX3_axis_32 rfl ?_
      refine g_iconst Z dX3_axis_98 zi_4 ?_
      refine g_laldE (v := te A) Z dX3_axis_99 6 rfl 4 rfl (by decide) rfl rfl ?_
      refine g_aload_n Z dX3_axis_100 0 rfl rfl ?_
      refine g_get Z dX3_axis_101 0 rfl rfl nX3_axis_X3 7 (by decide) fX3_axis_32 rfl ?_
      refine g_iconst Z dX3_axis_104 zi_3 ?_
      refine g_laldE (v := td A) Z dX3_axis_105 6 rfl 3 rfl (by decide) rfl rfl ?_
      refine g_aload_n Z dX3_axis_106 0 rfl rfl ?_
      refine g_get Z dX3_axis_107 0 rfl rfl nX3_axis_X3 8 (by decide) fX3_axis_36 rfl ?_
      refine g_lsub Z dX3_axis_110 ?_
      refine g_lmul Z dX3_axis_111 ?_
      refine g_lsub Z dX3_axis_112 ?_
      refine g_goto (tgt := 148) Z dX3_axis_113 (by decide) ?_
      refine g_lstore (lv' := [(6, .long (((tb A) * (tf A)) - ((te A) * ((td A) - (tg A))))), (0, .ref h), (1, .int (nI j)), (2, .int way), (3, .int (nI p)), (4, .int e), (5, .int wh)]) Z dX3_axis_148 (by decide) rfl ?_
      refine g_aload_n Z dX3_axis_150 1 rfl rfl ?_
      refine g_lload Z dX3_axis_151 0 rfl ?_
      refine g_aload_n Z dX3_axis_153 1 rfl rfl ?_
      refine g_get Z dX3_axis_154 0 rfl rfl nX3_axis_X3 8 (by decide) fX3_axis_36 rfl ?_
      refine g_ldc2 Z dX3_axis_157 kX3_axis_107 ?_
      refine g_aload_n Z dX3_axis_160 1 rfl rfl ?_
      refine g_get Z dX3_axis_161 0 rfl rfl nX3_axis_X3 8 (by decide) fX3_axis_36 rfl ?_
      refine g_lmul Z dX3_axis_164 ?_
      refine g_aload_n Z dX3_axis_165 1 rfl rfl ?_
      refine g_callVx (w' := [cO h 3 [.int (nI nb), .ref m1, .ref m2, .ref m3, .ref m4, .int (nI dn), .ref m5, .ref m6, .long (tg A)], cI E m1 4 (mN n), cI E m2 32 (gl K), cI E m3 32 (gl F), cI E m4 32 (gl G), cI E m5 12 D, cJ E m6 6 (tv A)]) Z (qX3_traceOf E h m1 m2 m3 m4 m5 m6 nb dn A) iX3_traceOf gX3_axis_X3_traceOf ⟨rfl, rfl⟩ ⟨Nat.le_of_ble_eq_true rfl, Nat.le_of_ble_eq_true rfl⟩ dX3_axis_166 rfl rfl (Nat.le_of_ble_eq_true rfl) ⟨Nat.zero_le _, Nat.zero_le _⟩ [0, 6] rfl rfl 0 rfl rfl rfl rfl rfl ?_
      refine g_lsub Z dX3_axis_169 ?_
      refine g_lmul Z dX3_axis_170 ?_
      refine g_iload Z dX3_axis_171 6 rfl ?_
      refine g_callVx (w' := [cO h 3 [.int (nI nb), .ref m1, .ref m2, .ref m3, .ref m4, .int (nI dn), .ref m5, .ref m6, .long (tg A)], cI E m1 4 (mN n), cI E m2 32 (gl K), cI E m3 32 (gl F), cI E m4 32 (gl G), cI E m5 12 D, cJ E m6 6 (tv A)]) Z (qX3_lowest E h m1 m2 m3 m4 m5 m6 nb dn A (((tb A) * (tf A)) - ((te A) * ((td A) - (tg A)))) ((tg A) * ((2 * (tg A)) - (sumF A))) wh) iX3_lowest gX3_axis_X3_lowest ⟨rfl, rfl⟩ ⟨Nat.le_of_ble_eq_true rfl, Nat.le_of_ble_eq_true rfl⟩ dX3_axis_173 rfl rfl (Nat.le_of_ble_eq_true rfl) ⟨Nat.zero_le _, Nat.zero_le _⟩ [0] rfl rfl 0 rfl rfl rfl rfl rfl ?_
      exact g_lret Z dX3_axis_176 rfl ⟨Nat.zero_le _, Nat.zero_le _⟩ ⟨congrArg (fun v => some (Value.long v)) (by rw [e_A, axiM, if_neg c_69, if_pos c_78]), _, rfl⟩
  · refine g_ldc2 Z dX3_axis_72 kX3_axis_87 ?_
    exact g_lret Z dX3_axis_75 rfl ⟨Nat.zero_le _, Nat.zero_le _⟩ ⟨congrArg (fun v => some (Value.long v)) (by rw [e_A, axiM, if_pos c_69]), _, rfl⟩

abbrev rX3_waist : Room := { frames := 3, cells := 0, slots := 0, locals := 78 }
theorem iX3_waist : zInfo yX3_waist wsX3_waist RX3 9 (some .int) 2 := ⟨_, _, rfl, by decide +kernel⟩
theorem nX3_waist_X3 : ∀ w ∈ wsX30, w ∈ wsX3_waist := by decide +kernel
theorem fX3_waist_13 : Cond.fieldLink RX3 13 (TX3 1).1 (TX3 1).2.1 (TX3 1).2.2.1 ∈ wsX3_waist := by decide +kernel
set_option maxHeartbeats 4000000 in
set_option maxRecDepth 100000 in
theorem qX3_waistN (E : zE) (h m1 m2 m3 m4 m5 m6 : Nat) (nb dn : Nat) (n : Nat → Nat) (K F G : Nat → Nat → Int32) (D : Nat → Int32) (T : TB) (b way : Int32) (hnb : nb ≤ 4) (hn : ∀ b, n b ≤ 8) (hv : ¬ ∃ j, j < nb ∧ b = nI j ∧ (way = 0 ∨ way = 1) ∧ 0 < n j) : zF E yX3_waist wsX3_waist rX3_waist [.ref h, .int b, .int way] [cO h 3 [.int (nI nb), .ref m1, .ref m2, .ref m3, .ref m4, .int (nI dn), .ref m5, .ref m6, .long (tg T)], cI E m1 4 (mN n), cI E m2 32 (gl K), cI E m3 32 (gl F), cI E m4 32 (gl G), cI E m5 12 D, cJ E m6 6 (tv T)] (zx (some (.int (-1))) ([cO h 3 [.int (nI nb), .ref m1, .ref m2, .ref m3, .ref m4, .int (nI dn), .ref m5, .ref m6, .long (tg T)], cI E m1 4 (mN n), cI E m2 32 (gl K), cI E m3 32 (gl F), cI E m4 32 (gl G), cI E m5 12 D, cJ E m6 6 (tv T)])) := by
  refine z_start RX3 "waist" (by decide) rfl rfl rfl (Nat.le_of_ble_eq_true rfl) ?_
  intro J Z
  refine g_eq Z (lv2 := [(0, .ref h), (1, .int b), (2, .int way)]) rfl rfl rfl ?_
  refine g_aload_n Z dX3_waist_0 0 rfl rfl ?_
  refine g_iload_n Z dX3_waist_1 1 rfl rfl ?_
  refine g_callVx (w' := [cO h 3 [.int (nI nb), .ref m1, .ref m2, .ref m3, .ref m4, .int (nI dn), .ref m5, .ref m6, .long (tg T)], cI E m1 4 (mN n), cI E m2 32 (gl K), cI E m3 32 (gl F), cI E m4 32 (gl G), cI E m5 12 D, cJ E m6 6 (tv T)]) Z (qX3_isBench E h m1 m2 m3 m4 m5 m6 nb dn T b (by omega)) iX3_isBench gX3_waist_X3_isBench ⟨rfl, rfl⟩ ⟨Nat.le_of_ble_eq_true rfl, Nat.le_of_ble_eq_true rfl⟩ dX3_waist_2 rfl rfl (Nat.le_of_ble_eq_true rfl) ⟨Nat.zero_le _, Nat.zero_le _⟩ [0] rfl rfl 0 rfl rfl rfl rfl rfl ?_
  refine g_ifb_eq (tgt := 25) Z dX3_waist_5 (by decide) (fun c_5 => ?_) (fun c_5 => ?_)
  · refine g_iconst Z dX3_waist_25 zi_m1 ?_
    exact g_iret Z dX3_waist_26 rfl ⟨Nat.zero_le _, Nat.zero_le _⟩ ⟨rfl, rfl⟩
  · obtain ⟨j, hj, rfl⟩ := inB_of c_5
    have hnj := hn j
    refine g_aload_n Z dX3_waist_8 0 rfl rfl ?_
    refine g_iload_n Z dX3_waist_9 2 rfl rfl ?_
    refine g_callVx (w' := [cO h 3 [.int (nI nb), .ref m1, .ref m2, .ref m3, .ref m4, .int (nI dn), .ref m5, .ref m6, .long (tg T)], cI E m1 4 (mN n), cI E m2 32 (gl K), cI E m3 32 (gl F), cI E m4 32 (gl G), cI E m5 12 D, cJ E m6 6 (tv T)]) Z (qX3_isWay E h m1 m2 m3 m4 m5 m6 nb dn T way) iX3_isWay gX3_waist_X3_isWay ⟨rfl, rfl⟩ ⟨Nat.le_of_ble_eq_true rfl, Nat.le_of_ble_eq_true rfl⟩ dX3_waist_10 rfl rfl (Nat.le_of_ble_eq_true rfl) ⟨Nat.zero_le _, Nat.zero_le _⟩ [0] rfl rfl 0 rfl rfl rfl rfl rfl ?_
    refine g_ifb_eq (tgt := 25) Z dX3_waist_13 (by decide) (fun c_13 => ?_) (fun c_13 => ?_)
    · refine g_iconst Z dX3_waist_25 zi_m1 ?_
      exact g_iret Z dX3_waist_26 rfl ⟨Nat.zero_le _, Nat.zero_le _⟩ ⟨rfl, rfl⟩
    · refine g_aload_n Z dX3_waist_16 0 rfl rfl ?_
      refine g_get Z dX3_waist_17 0 rfl rfl nX3_waist_X3 1 (by decide) fX3_waist_13 rfl ?_
      refine g_iload_n Z dX3_waist_20 1 rfl rfl ?_
      refine g_ialdE (v := nI (n j)) Z dX3_waist_21 1 rfl j rfl (by omega) rfl rfl ?_
      refine g_ifN_ne (tgt := 27) Z dX3_waist_22 (by decide) (n j) rfl (by omega) (fun c_22 => ?_) (fun c_22 => ?_)
      · exact absurd ⟨j, hj, rfl, c_13, by omega⟩ hv
      · refine g_iconst Z dX3_waist_25 zi_m1 ?_
        exact g_iret Z dX3_waist_26 rfl ⟨Nat.zero_le _, Nat.zero_le _⟩ ⟨rfl, rfl⟩

theorem fX3_waist_32 : Cond.fieldLink RX3 32 (TX3 7).1 (TX3 7).2.1 (TX3 7).2.2.1 ∈ wsX3_waist := by decide +kernel
set_option maxHeartbeats 4000000 in
set_option maxRecDepth 100000 in
theorem lX3_waist (E : zE) (h m1 m2 m3 m4 m5 m6 : Nat) (nb dn : Nat) (n : Nat → Nat) (K F G : Nat → Nat → Int32) (D : Nat → Int32) (T : TB) (j : Nat) (way : Int32) (hnb : nb ≤ 4) (hn : ∀ b, n b ≤ 8) (hj : j < nb) (hw : way = 0 ∨ way = 1) (hz : 0 < n j) {J : zJ} (Z : zOk E J RX3 cX3_waist 9 (some .int) wsX3_waist rX3_waist "waist" (fun _ => True) (fun ov wv => ov = some (.int (waiM (K j) (F j) (G j) way (n j) (-1) 0 0 (n j))) ∧ ∃ T2 : TB, wv = [cO h 3 [.int (nI nb), .ref m1, .ref m2, .ref m3, .ref m4, .int (nI dn), .ref m5, .ref m6, .long (tg T2)], cI E m1 4 (mN n), cI E m2 32 (gl K), cI E m3 32 (gl F), cI E m4 32 (gl G), cI E m5 12 D, cJ E m6 6 (tv T2)]))  : ∀ (d : Nat) (q : Nat) (ls : Int64) (bs : Int32) (T2 : TB), q + d = n j → waiM (K j) (F j) (G j) way (n j) bs ls q d = waiM (K j) (F j) (G j) way (n j) (-1) 0 0 (n j) → J 0 0 [cO h 3 [.int (nI nb), .ref m1, .ref m2, .ref m3, .ref m4, .int (nI dn), .ref m5, .ref m6, .long (tg T2)], cI E m1 4 (mN n), cI E m2 32 (gl K), cI E m3 32 (gl F), cI E m4 32 (gl G), cI E m5 12 D, cJ E m6 6 (tv T2)] 35 [(6, .int (nI q)), (4, .long ls), (3, .int bs), (0, .ref h), (1, .int (nI j)), (2, .int way)] [] := by
  intro d
  induction d with
  | zero =>
    intro q ls bs T2 h1 h2
    have hnj := hn j
    refine g_iload Z dX3_waist_35 0 rfl ?_
    refine g_aload_n Z dX3_waist_37 3 rfl rfl ?_
    refine g_get Z dX3_waist_38 0 rfl rfl nX3_waist_X3 1 (by decide) fX3_waist_13 rfl ?_
    refine g_iload_n Z dX3_waist_41 4 rfl rfl ?_
    refine g_ialdE (v := nI (n j)) Z dX3_waist_42 1 rfl j rfl (by omega) rfl rfl ?_
    refine g_icmpN_ge (tgt := 126) Z dX3_waist_43 (by decide) q (n j) rfl rfl (by omega) (by omega) (fun c_43 => ?_) (fun c_43 => absurd c_43 (by omega))
    refine g_iload_n Z dX3_waist_126 2 rfl rfl ?_
    exact g_iret Z dX3_waist_127 rfl ⟨Nat.zero_le _, Nat.zero_le _⟩ ⟨by rw [← h2]; rfl, _, rfl⟩
  | succ d ih =>
    intro q ls bs T2 h1 h2
    have hnj := hn j
    refine g_iload Z dX3_waist_35 0 rfl ?_
    refine g_aload_n Z dX3_waist_37 3 rfl rfl ?_
    refine g_get Z dX3_waist_38 0 rfl rfl nX3_waist_X3 1 (by decide) fX3_waist_13 rfl ?_
    refine g_iload_n Z dX3_waist_41 4 rfl rfl ?_
    refine g_ialdE (v := nI (n j)) Z dX3_waist_42 1 rfl j rfl (by omega) rfl rfl ?_
    refine g_icmpN_ge (tgt := 126) Z dX3_waist_43 (by decide) q (n j) rfl rfl (by omega) (by omega) (fun c_43 => absurd c_43 (by omega)) (fun c_43 => ?_)
    refine g_aload_n Z dX3_waist_46 3 rfl rfl ?_
    refine g_iload_n Z dX3_waist_47 4 rfl rfl ?_
    refine g_iload_n Z dX3_waist_48 5 rfl rfl ?_
    refine g_iload Z dX3_waist_49 0 rfl ?_
    refine g_aload_n Z dX3_waist_51 3 rfl rfl ?_
    refine g_get Z dX3_waist_52 0 rfl rfl nX3_waist_X3 1 (by decide) fX3_waist_13 rfl ?_
    refine g_iload_n Z dX3_waist_55 4 rfl rfl ?_
    refine g_ialdE (v := nI (n j)) Z dX3_waist_56 1 rfl j rfl (by omega) rfl rfl ?_
    refine g_callVx (w' := [cO h 3 [.int (nI nb), .ref m1, .ref m2, .ref m3, .ref m4, .int (nI dn), .ref m5, .ref m6, .long (tg (rotM (K j) (F j) (G j) way (n j) q))], cI E m1 4 (mN n), cI E m2 32 (gl K), cI E m3 32 (gl F), cI E m4 32 (gl G), cI E m5 12 D, cJ E m6 6 (tv (rotM (K j) (F j) (G j) way (n j) q))]) Z (qX3_workR E h m1 m2 m3 m4 m5 m6 nb dn n K F G D T2 j q way hnj (by omega) (by omega)) iX3_work gX3_waist_X3_work ⟨rfl, rfl⟩ ⟨Nat.le_of_ble_eq_true rfl, Nat.le_of_ble_eq_true rfl⟩ dX3_waist_57 rfl rfl (Nat.le_of_ble_eq_true rfl) ⟨Nat.zero_le _, Nat.zero_le _⟩ [0, 1, 2, 3, 4, 5, 6] rfl rfl 0 rfl rfl rfl rfl rfl ?_
    obtain ⟨A, e_A⟩ : ∃ A : TB, rotM (K j) (F j) (G j) way (n j) q = A := ⟨_, rfl⟩
    rw [e_A]
    refine g_aload_n Z dX3_waist_60 3 rfl rfl ?_
    refine g_callVx (w' := [cO h 3 [.int (nI nb), .ref m1, .ref m2, .ref m3, .ref m4, .int (nI dn), .ref m5, .ref m6, .long (tg A)], cI E m1 4 (mN n), cI E m2 32 (gl K), cI E m3 32 (gl F), cI E m4 32 (gl G), cI E m5 12 D, cJ E m6 6 (tv A)]) Z (qX3_isBetween E h m1 m2 m3 m4 m5 m6 nb dn A) iX3_isBetween gX3_waist_X3_isBetween ⟨rfl, rfl⟩ ⟨Nat.le_of_ble_eq_true rfl, Nat.le_of_ble_eq_true rfl⟩ dX3_waist_61 rfl rfl (Nat.le_of_ble_eq_true rfl) ⟨Nat.zero_le _, Nat.zero_le _⟩ [0, 6] rfl rfl 0 rfl rfl rfl rfl rfl ?_
    refine g_ifb_ne (tgt := 69) Z dX3_waist_64 (by decide) (fun c_64 => ?_) (fun c_64 => ?_)
    · refine g_aload_n Z dX3_waist_69 3 rfl rfl ?_
      refine g_get Z dX3_waist_70 0 rfl rfl nX3_waist_X3 7 (by decide) fX3_waist_32 rfl ?_
      refine g_iconst Z dX3_waist_73 zi_1 ?_
      refine g_laldE (v := tb A) Z dX3_waist_74 6 rfl 1 rfl (by decide) rfl rfl ?_
      refine g_lconst Z dX3_waist_75 zl_0 ?_
      refine g_lcmp_ge (tgt := 90) Z dX3_waist_76 dX3_waist_77 rfl (by decide) (fun c_77 => ?_) (fun c_77 => ?_)
      · refine g_aload_n Z dX3_waist_90 3 rfl rfl ?_
        refine g_get Z dX3_waist_91 0 rfl rfl nX3_waist_X3 7 (by decide) fX3_waist_32 rfl ?_
        refine g_iconst Z dX3_waist_94 zi_1 ?_
        refine g_laldE (v := tb A) Z dX3_waist_95 6 rfl 1 rfl (by decide) rfl rfl ?_
        refine g_lstore (lv' := [(7, .long (tb A)), (6, .int (nI q)), (4, .long ls), (3, .int bs), (0, .ref h), (1, .int (nI j)), (2, .int way)]) Z dX3_waist_96 (by decide) rfl ?_
        refine g_iload_n Z dX3_waist_98 3 rfl rfl ?_
        refine g_if_lt (tgt := 113) Z dX3_waist_99 (by decide) (fun c_99 => ?_) (fun c_99 => ?_)
        · refine g_iload Z dX3_waist_113 1 rfl ?_
          refine g_istore_n (lv' := [(3, .int (nI q)), (7, .long (tb A)), (6, .int (nI q)), (4, .long ls), (0, .ref h), (1, .int (nI j)), (2, .int way)]) Z dX3_waist_115 rfl (by decide) rfl ?_
          refine g_lload Z dX3_waist_116 1 rfl ?_
          refine g_lstore (lv' := [(4, .long (tb A)), (3, .int (nI q)), (7, .long (tb A)), (6, .int (nI q)), (0, .ref h), (1, .int (nI j)), (2, .int way)]) Z dX3_waist_118 (by decide) rfl ?_
          refine g_iinc (lv' := [(6, .int (nI (q + 1))), (4, .long (tb A)), (3, .int (nI q)), (7, .long (tb A)), (0, .ref h), (1, .int (nI j)), (2, .int way)]) Z dX3_waist_120 3 rfl (zinc _) (by decide) rfl ?_
          refine g_goto (tgt := 35) Z dX3_waist_123 (by decide) ?_
          have e_b : absL (tb A) = tb A := absL_ge c_77
          rw [waiM, e_A, if_pos c_64, if_pos c_99] at h2
          rw [e_b] at h2
          refine g_lv (lv2 := [(6, .int (nI (q + 1))), (4, .long (tb A)), (3, .int (nI q)), (0, .ref h), (1, .int (nI j)), (2, .int way)]) Z [0, 1, 2, 4, 5, 6] rfl ?_
          exact ih (q + 1) _ _ _ (by omega) h2
        · refine g_lload Z dX3_waist_102 0 rfl ?_
          refine g_lload Z dX3_waist_104 2 rfl ?_
          refine g_lcmp_lt (tgt := 113) Z dX3_waist_106 dX3_waist_107 rfl (by decide) (fun c_107 => ?_) (fun c_107 => ?_)
          · refine g_iload Z dX3_waist_113 1 rfl ?_
            refine g_istore_n (lv' := [(3, .int (nI q)), (7, .long (tb A)), (6, .int (nI q)), (4, .long ls), (0, .ref h), (1, .int (nI j)), (2, .int way)]) Z dX3_waist_115 rfl (by decide) rfl ?_
            refine g_lload Z dX3_waist_116 1 rfl ?_
            refine g_lstore (lv' := [(4, .long (tb A)), (3, .int (nI q)), (7, .long (tb A)), (6, .int (nI q)), (0, .ref h), (1, .int (nI j)), (2, .int way)]) Z dX3_waist_118 (by decide) rfl ?_
            refine g_iinc (lv' := [(6, .int (nI (q + 1))), (4, .long (tb A)), (3, .int (nI q)), (7, .long (tb A)), (0, .ref h), (1, .int (nI j)), (2, .int way)]) Z dX3_waist_120 3 rfl (zinc _) (by decide) rfl ?_
            refine g_goto (tgt := 35) Z dX3_waist_123 (by decide) ?_
            have e_b : absL (tb A) = tb A := absL_ge c_77
            rw [waiM, e_A, if_pos c_64, if_neg c_99, if_pos (by rw [e_b]; exact c_107)] at h2
            rw [e_b] at h2
            refine g_lv (lv2 := [(6, .int (nI (q + 1))), (4, .long (tb A)), (3, .int (nI q)), (0, .ref h), (1, .int (nI j)), (2, .int way)]) Z [0, 1, 2, 4, 5, 6] rfl ?_
            exact ih (q + 1) _ _ _ (by omega) h2
          · refine g_goto (tgt := 120) Z dX3_waist_110 (by decide) ?_
            refine g_iinc (lv' := [(6, .int (nI (q + 1))), (7, .long (tb A)), (4, .long ls), (3, .int bs), (0, .ref h), (1, .int (nI j)), (2, .int way)]) Z dX3_waist_120 1 rfl (zinc _) (by decide) rfl ?_
            refine g_goto (tgt := 35) Z dX3_waist_123 (by decide) ?_
            have e_b : absL (tb A) = tb A := absL_ge c_77
            rw [waiM, e_A, if_pos c_64, if_neg c_99, if_neg (by rw [e_b]; exact c_107)] at h2
            refine g_lv (lv2 := [(6, .int (nI (q + 1))), (4, .long ls), (3, .int bs), (0, .ref h), (1, .int (nI j)), (2, .int way)]) Z [0, 2, 3, 4, 5, 6] rfl ?_
            exact ih (q + 1) _ _ _ (by omega) h2
      · refine g_aload_n Z dX3_waist_80 3 rfl rfl ?_
        refine g_get Z dX3_waist_81 0 rfl rfl nX3_waist_X3 7 (by decide) fX3_waist_32 rfl ?_
        refine g_iconst Z dX3_waist_84 zi_1 ?_
        refine g_laldE (v := tb A) Z dX3_waist_85 6 rfl 1 rfl (by decide) rfl rfl ?_
        refine g_lneg Z dX3_waist_86 ?_
        refine g_goto (tgt := 96) Z dX3_waist_87 (by decide) ?_
        refine g_lstore (lv' := [(7, .long (-(tb A))), (6, .int (nI q)), (4, .long ls), (3, .int bs), (0, .ref h), (1, .int (nI j)), (2, .int way)]) Z dX3_waist_96 (by decide) rfl ?_
        refine g_iload_n Z dX3_waist_98 3 rfl rfl ?_
        refine g_if_lt (tgt := 113) Z dX3_waist_99 (by decide) (fun c_99 => ?_) (fun c_99 => ?_)
        · refine g_iload Z dX3_waist_113 1 rfl ?_
          refine g_istore_n (lv' := [(3, .int (nI q)), (7, .long (-(tb A))), (6, .int (nI q)), (4, .long ls), (0, .ref h), (1, .int (nI j)), (2, .int way)]) Z dX3_waist_115 rfl (by decide) rfl ?_
          refine g_lload Z dX3_waist_116 1 rfl ?_
          refine g_lstore (lv' := [(4, .long (-(tb A))), (3, .int (nI q)), (7, .long (-(tb A))), (6, .int (nI q)), (0, .ref h), (1, .int (nI j)), (2, .int way)]) Z dX3_waist_118 (by decide) rfl ?_
          refine g_iinc (lv' := [(6, .int (nI (q + 1))), (4, .long (-(tb A))), (3, .int (nI q)), (7, .long (-(tb A))), (0, .ref h), (1, .int (nI j)), (2, .int way)]) Z dX3_waist_120 3 rfl (zinc _) (by decide) rfl ?_
          refine g_goto (tgt := 35) Z dX3_waist_123 (by decide) ?_
          have e_b : absL (tb A) = -(tb A) := absL_lt c_77
          rw [waiM, e_A, if_pos c_64, if_pos c_99] at h2
          rw [e_b] at h2
          refine g_lv (lv2 := [(6, .int (nI (q + 1))), (4, .long (-(tb A))), (3, .int (nI q)), (0, .ref h), (1, .int (nI j)), (2, .int way)]) Z [0, 1, 2, 4, 5, 6] rfl ?_
          exact ih (q + 1) _ _ _ (by omega) h2
        · refine g_lload Z dX3_waist_102 0 rfl ?_
          refine g_lload Z dX3_waist_104 2 rfl ?_
          refine g_lcmp_lt (tgt := 113) Z dX3_waist_106 dX3_waist_107 rfl (by decide) (fun c_107 => ?_) (fun c_107 => ?_)
          · refine g_iload Z dX3_waist_113 1 rfl ?_
            refine g_istore_n (lv' := [(3, .int (nI q)), (7, .long (-(tb A))), (6, .int (nI q)), (4, .long ls), (0, .ref h), (1, .int (nI j)), (2, .int way)]) Z dX3_waist_115 rfl (by decide) rfl ?_
            refine g_lload Z dX3_waist_116 1 rfl ?_
            refine g_lstore (lv' := [(4, .long (-(tb A))), (3, .int (nI q)), (7, .long (-(tb A))), (6, .int (nI q)), (0, .ref h), (1, .int (nI j)), (2, .int way)]) Z dX3_waist_118 (by decide) rfl ?_
            refine g_iinc (lv' := [(6, .int (nI (q + 1))), (4, .long (-(tb A))), (3, .int (nI q)), (7, .long (-(tb A))), (0, .ref h), (1, .int (nI j)), (2, .int way)]) Z dX3_waist_120 3 rfl (zinc _) (by decide) rfl ?_
            refine g_goto (tgt := 35) Z dX3_waist_123 (by decide) ?_
            have e_b : absL (tb A) = -(tb A) := absL_lt c_77
            rw [waiM, e_A, if_pos c_64, if_neg c_99, if_pos (by rw [e_b]; exact c_107)] at h2
            rw [e_b] at h2
            refine g_lv (lv2 := [(6, .int (nI (q + 1))), (4, .long (-(tb A))), (3, .int (nI q)), (0, .ref h), (1, .int (nI j)), (2, .int way)]) Z [0, 1, 2, 4, 5, 6] rfl ?_
            exact ih (q + 1) _ _ _ (by omega) h2
          · refine g_goto (tgt := 120) Z dX3_waist_110 (by decide) ?_
            refine g_iinc (lv' := [(6, .int (nI (q + 1))), (7, .long (-(tb A))), (4, .long ls), (3, .int bs), (0, .ref h), (1, .int (nI j)), (2, .int way)]) Z dX3_waist_120 1 rfl (zinc _) (by decide) rfl ?_
            refine g_goto (tgt := 35) Z dX3_waist_123 (by decide) ?_
            have e_b : absL (tb A) = -(tb A) := absL_lt c_77
            rw [waiM, e_A, if_pos c_64, if_neg c_99, if_neg (by rw [e_b]; exact c_107)] at h2
            refine g_lv (lv2 := [(6, .int (nI (q + 1))), (4, .long ls), (3, .int bs), (0, .ref h), (1, .int (nI j)), (2, .int way)]) Z [0, 2, 3, 4, 5, 6] rfl ?_
            exact ih (q + 1) _ _ _ (by omega) h2
    · rw [waiM, e_A, if_neg c_64] at h2
      refine g_iconst Z dX3_waist_67 zi_m1 ?_
      exact g_iret Z dX3_waist_68 rfl ⟨Nat.zero_le _, Nat.zero_le _⟩ ⟨by rw [← h2], _, rfl⟩
set_option maxHeartbeats 4000000 in
set_option maxRecDepth 100000 in
theorem qX3_waist (E : zE) (h m1 m2 m3 m4 m5 m6 : Nat) (nb dn : Nat) (n : Nat → Nat) (K F G : Nat → Nat → Int32) (D : Nat → Int32) (T : TB) (j : Nat) (way : Int32) (hnb : nb ≤ 4) (hn : ∀ b, n b ≤ 8) (hj : j < nb) (hw : way = 0 ∨ way = 1) (hz : 0 < n j) : zF E yX3_waist wsX3_waist rX3_waist [.ref h, .int (nI j), .int way] [cO h 3 [.int (nI nb), .ref m1, .ref m2, .ref m3, .ref m4, .int (nI dn), .ref m5, .ref m6, .long (tg T)], cI E m1 4 (mN n), cI E m2 32 (gl K), cI E m3 32 (gl F), cI E m4 32 (gl G), cI E m5 12 D, cJ E m6 6 (tv T)] (fun ov wv => ov = some (.int (waiM (K j) (F j) (G j) way (n j) (-1) 0 0 (n j))) ∧ ∃ T2 : TB, wv = [cO h 3 [.int (nI nb), .ref m1, .ref m2, .ref m3, .ref m4, .int (nI dn), .ref m5, .ref m6, .long (tg T2)], cI E m1 4 (mN n), cI E m2 32 (gl K), cI E m3 32 (gl F), cI E m4 32 (gl G), cI E m5 12 D, cJ E m6 6 (tv T2)]) := by
  refine z_start RX3 "waist" (by decide) rfl rfl rfl (Nat.le_of_ble_eq_true rfl) ?_
  intro J Z
  refine g_eq Z (lv2 := [(0, .ref h), (1, .int (nI j)), (2, .int way)]) rfl rfl rfl ?_
  have hnj := hn j
  refine g_aload_n Z dX3_waist_0 0 rfl rfl ?_
  refine g_iload_n Z dX3_waist_1 1 rfl rfl ?_
  refine g_callVx (w' := [cO h 3 [.int (nI nb), .ref m1, .ref m2, .ref m3, .ref m4, .int (nI dn), .ref m5, .ref m6, .long (tg T)], cI E m1 4 (mN n), cI E m2 32 (gl K), cI E m3 32 (gl F), cI E m4 32 (gl G), cI E m5 12 D, cJ E m6 6 (tv T)]) Z (qX3_isBench E h m1 m2 m3 m4 m5 m6 nb dn T (nI j) (by omega)) iX3_isBench gX3_waist_X3_isBench ⟨rfl, rfl⟩ ⟨Nat.le_of_ble_eq_true rfl, Nat.le_of_ble_eq_true rfl⟩ dX3_waist_2 rfl rfl (Nat.le_of_ble_eq_true rfl) ⟨Nat.zero_le _, Nat.zero_le _⟩ [0] rfl rfl 0 rfl rfl rfl rfl rfl ?_
  refine g_ifb_eq (tgt := 25) Z dX3_waist_5 (by decide) (fun c_5 => absurd c_5 (fun q => q (inB_nI hj (by omega)))) (fun c_5 => ?_)
  refine g_aload_n Z dX3_waist_8 0 rfl rfl ?_
  refine g_iload_n Z dX3_waist_9 2 rfl rfl ?_
  refine g_callVx (w' := [cO h 3 [.int (nI nb), .ref m1, .ref m2, .ref m3, .ref m4, .int (nI dn), .ref m5, .ref m6, .long (tg T)], cI E m1 4 (mN n), cI E m2 32 (gl K), cI E m3 32 (gl F), cI E m4 32 (gl G), cI E m5 12 D, cJ E m6 6 (tv T)]) Z (qX3_isWay E h m1 m2 m3 m4 m5 m6 nb dn T way) iX3_isWay gX3_waist_X3_isWay ⟨rfl, rfl⟩ ⟨Nat.le_of_ble_eq_true rfl, Nat.le_of_ble_eq_true rfl⟩ dX3_waist_10 rfl rfl (Nat.le_of_ble_eq_true rfl) ⟨Nat.zero_le _, Nat.zero_le _⟩ [0] rfl rfl 0 rfl rfl rfl rfl rfl ?_
  refine g_ifb_eq (tgt := 25) Z dX3_waist_13 (by decide) (fun c_13 => absurd c_13 (fun q => q hw)) (fun c_13 => ?_)
  refine g_aload_n Z dX3_waist_16 0 rfl rfl ?_
  refine g_get Z dX3_waist_17 0 rfl rfl nX3_waist_X3 1 (by decide) fX3_waist_13 rfl ?_
  refine g_iload_n Z dX3_waist_20 1 rfl rfl ?_
  refine g_ialdE (v := nI (n j)) Z dX3_waist_21 1 rfl j rfl (by omega) rfl rfl ?_
  refine g_ifN_ne (tgt := 27) Z dX3_waist_22 (by decide) (n j) rfl (by omega) (fun c_22 => ?_) (fun c_22 => absurd c_22 (by omega))
  refine g_iconst Z dX3_waist_27 zi_m1 ?_
  refine g_istore_n (lv' := [(3, .int (-1)), (0, .ref h), (1, .int (nI j)), (2, .int way)]) Z dX3_waist_28 rfl (by decide) rfl ?_
  refine g_lconst Z dX3_waist_29 zl_0 ?_
  refine g_lstore (lv' := [(4, .long 0), (3, .int (-1)), (0, .ref h), (1, .int (nI j)), (2, .int way)]) Z dX3_waist_30 (by decide) rfl ?_
  refine g_iconst Z dX3_waist_32 zi_0 ?_
  refine g_istore (lv' := [(6, .int 0), (4, .long 0), (3, .int (-1)), (0, .ref h), (1, .int (nI j)), (2, .int way)]) Z dX3_waist_33 (by decide) rfl ?_
  exact lX3_waist E h m1 m2 m3 m4 m5 m6 nb dn n K F G D T j way hnb hn hj hw hz Z (n j) 0 0 (-1) T (by omega) rfl

abbrev rX3_holdsBoth : Room := { frames := 4, cells := 0, slots := 0, locals := 100 }
theorem iX3_holdsBoth : zInfo yX3_holdsBoth wsX3_holdsBoth RX3 2 (some .boolean) 1 := ⟨_, _, rfl, by decide +kernel⟩
set_option maxHeartbeats 4000000 in
set_option maxRecDepth 100000 in
theorem qX3_holdsBoth (E : zE) (h m1 m2 m3 m4 m5 m6 : Nat) (nb dn : Nat) (n : Nat → Nat) (K F G : Nat → Nat → Int32) (D : Nat → Int32) (T : TB) (j : Nat) (hn : n j ≤ 8) (hj : j < 4) : zF E yX3_holdsBoth wsX3_holdsBoth rX3_holdsBoth [.ref h, .int (nI j)] [cO h 3 [.int (nI nb), .ref m1, .ref m2, .ref m3, .ref m4, .int (nI dn), .ref m5, .ref m6, .long (tg T)], cI E m1 4 (mN n), cI E m2 32 (gl K), cI E m3 32 (gl F), cI E m4 32 (gl G), cI E m5 12 D, cJ E m6 6 (tv T)] (zx (some (.int (if hldM (K j) (F j) (G j) (n j) then 1 else 0))) ([cO h 3 [.int (nI nb), .ref m1, .ref m2, .ref m3, .ref m4, .int (nI dn), .ref m5, .ref m6, .long (tg (hbT (tabM (K j) (F j) (G j) 0 (n j)) (tabM (K j) (F j) (G j) 1 (n j))))], cI E m1 4 (mN n), cI E m2 32 (gl K), cI E m3 32 (gl F), cI E m4 32 (gl G), cI E m5 12 D, cJ E m6 6 (tv (hbT (tabM (K j) (F j) (G j) 0 (n j)) (tabM (K j) (F j) (G j) 1 (n j))))])) := by
  refine z_start RX3 "holdsBoth" (by decide) rfl rfl rfl (Nat.le_of_ble_eq_true rfl) ?_
  intro J Z
  refine g_eq Z (lv2 := [(0, .ref h), (1, .int (nI j))]) rfl rfl rfl ?_
  refine g_aload_n Z dX3_holdsBoth_0 0 rfl rfl ?_
  refine g_iload_n Z dX3_holdsBoth_1 1 rfl rfl ?_
  refine g_iconst Z dX3_holdsBoth_2 zi_0 ?_
  refine g_callVx (w' := [cO h 3 [.int (nI nb), .ref m1, .ref m2, .ref m3, .ref m4, .int (nI dn), .ref m5, .ref m6, .long (tg (tabM (K j) (F j) (G j) 0 (n j)))], cI E m1 4 (mN n), cI E m2 32 (gl K), cI E m3 32 (gl F), cI E m4 32 (gl G), cI E m5 12 D, cJ E m6 6 (tv (tabM (K j) (F j) (G j) 0 (n j)))]) Z (qX3_roundOf E h m1 m2 m3 m4 m5 m6 nb dn n K F G D T j 0 hn hj) iX3_roundOf gX3_holdsBoth_X3_roundOf ⟨rfl, rfl⟩ ⟨Nat.le_of_ble_eq_true rfl, Nat.le_of_ble_eq_true rfl⟩ dX3_holdsBoth_3 rfl rfl (Nat.le_of_ble_eq_true rfl) ⟨Nat.zero_le _, Nat.zero_le _⟩ [0, 1, 2, 3, 4, 5, 6] rfl rfl 0 rfl rfl rfl rfl rfl ?_
  obtain ⟨A, e_A⟩ : ∃ A : TB, tabM (K j) (F j) (G j) 0 (n j) = A := ⟨_, rfl⟩
  rw [e_A]
  refine g_if_ne (tgt := 22) Z dX3_holdsBoth_6 (by decide) (fun c_6 => ?_) (fun c_6 => ?_)
  · refine g_iconst Z dX3_holdsBoth_22 zi_0 ?_
    exact g_zret Z dX3_holdsBoth_23 rfl rfl ⟨Nat.zero_le _, Nat.zero_le _⟩ ⟨z_f (fun q => c_6 (by rw [← e_A]; exact q.1)), by rw [hbT, e_A, if_neg c_6]⟩
  · refine g_aload_n Z dX3_holdsBoth_9 0 rfl rfl ?_
    refine g_iload_n Z dX3_holdsBoth_10 1 rfl rfl ?_
    refine g_iconst Z dX3_holdsBoth_11 zi_1 ?_
    refine g_callVx (w' := [cO h 3 [.int (nI nb), .ref m1, .ref m2, .ref m3, .ref m4, .int (nI dn), .ref m5, .ref m6, .long (tg (tabM (K j) (F j) (G j) 1 (n j)))], cI E m1 4 (mN n), cI E m2 32 (gl K), cI E m3 32 (gl F), cI E m4 32 (gl G), cI E m5 12 D, cJ E m6 6 (tv (tabM (K j) (F j) (G j) 1 (n j)))]) Z (qX3_roundOf E h m1 m2 m3 m4 m5 m6 nb dn n K F G D A j 1 hn hj) iX3_roundOf gX3_holdsBoth_X3_roundOf ⟨rfl, rfl⟩ ⟨Nat.le_of_ble_eq_true rfl, Nat.le_of_ble_eq_true rfl⟩ dX3_holdsBoth_12 rfl rfl (Nat.le_of_ble_eq_true rfl) ⟨Nat.zero_le _, Nat.zero_le _⟩ [0, 1, 2, 3, 4, 5, 6] rfl rfl 0 rfl rfl rfl rfl rfl ?_
    obtain ⟨B, e_B⟩ : ∃ A : TB, tabM (K j) (F j) (G j) 1 (n j) = A := ⟨_, rfl⟩
    rw [e_B]
    refine g_if_ne (tgt := 22) Z dX3_holdsBoth_15 (by decide) (fun c_15 => ?_) (fun c_15 => ?_)
    · refine g_iconst Z dX3_holdsBoth_22 zi_0 ?_
      exact g_zret Z dX3_holdsBoth_23 rfl rfl ⟨Nat.zero_le _, Nat.zero_le _⟩ ⟨z_f (fun q => c_15 (by rw [← e_B]; exact q.2)), by rw [hbT, e_A, if_pos c_6, e_B]⟩
    · refine g_iconst Z dX3_holdsBoth_18 zi_1 ?_
      refine g_goto (tgt := 23) Z dX3_holdsBoth_19 (by decide) ?_
      exact g_zret Z dX3_holdsBoth_23 rfl rfl ⟨Nat.zero_le _, Nat.zero_le _⟩ ⟨z_t ⟨by rw [e_A]; exact c_6, by rw [e_B]; exact c_15⟩, by rw [hbT, e_A, if_pos c_6, e_B]⟩

set_option maxHeartbeats 4000000 in
set_option maxRecDepth 100000 in
theorem qX3_holdsBothU (E : zE) (h m1 m2 m3 m4 m5 m6 : Nat) (nb dn : Nat) (n : Nat → Nat) (K F G : Nat → Nat → Int32) (D : Nat → Int32) (T : TB) (j p : Nat) (a : Int32) (hn : n j ≤ 8) (hj : j < 4) : zF E yX3_holdsBoth wsX3_holdsBoth rX3_holdsBoth [.ref h, .int (nI j)] [cO h 3 [.int (nI nb), .ref m1, .ref m2, .ref m3, .ref m4, .int (nI dn), .ref m5, .ref m6, .long (tg T)], cI E m1 4 (mN n), cI E m2 32 (gl K), cI E m3 32 (gl (va_up F j (upd (F j) p a))), cI E m4 32 (gl G), cI E m5 12 D, cJ E m6 6 (tv T)] (zx (some (.int (if hldM (K j) (upd (F j) p a) (G j) (n j) then 1 else 0))) ([cO h 3 [.int (nI nb), .ref m1, .ref m2, .ref m3, .ref m4, .int (nI dn), .ref m5, .ref m6, .long (tg (hbT (tabM (K j) (upd (F j) p a) (G j) 0 (n j)) (tabM (K j) (upd (F j) p a) (G j) 1 (n j))))], cI E m1 4 (mN n), cI E m2 32 (gl K), cI E m3 32 (gl (va_up F j (upd (F j) p a))), cI E m4 32 (gl G), cI E m5 12 D, cJ E m6 6 (tv (hbT (tabM (K j) (upd (F j) p a) (G j) 0 (n j)) (tabM (K j) (upd (F j) p a) (G j) 1 (n j))))])) := by
  have q := qX3_holdsBoth E h m1 m2 m3 m4 m5 m6 nb dn n K (va_up F j (upd (F j) p a)) G D T j hn hj
  rw [vu_at] at q
  exact q

abbrev rX3_holdsWith : Room := { frames := 5, cells := 0, slots := 0, locals := 121 }
theorem iX3_holdsWith : zInfo yX3_holdsWith wsX3_holdsWith RX3 6 (some .boolean) 3 := ⟨_, _, rfl, by decide +kernel⟩
theorem nX3_holdsWith_X3 : ∀ w ∈ wsX30, w ∈ wsX3_holdsWith := by decide +kernel
theorem fX3_holdsWith_20 : Cond.fieldLink RX3 20 (TX3 3).1 (TX3 3).2.1 (TX3 3).2.2.1 ∈ wsX3_holdsWith := by decide +kernel
set_option maxHeartbeats 4000000 in
set_option maxRecDepth 100000 in
theorem qX3_holdsWith (E : zE) (h m1 m2 m3 m4 m5 m6 : Nat) (nb dn : Nat) (n : Nat → Nat) (K F G : Nat → Nat → Int32) (D : Nat → Int32) (T : TB) (j p : Nat) (a : Int32) (hn : n j ≤ 8) (hj : j < 4) (hp : p < 8) : zF E yX3_holdsWith wsX3_holdsWith rX3_holdsWith [.ref h, .int (nI j), .int (nI p), .int a] [cO h 3 [.int (nI nb), .ref m1, .ref m2, .ref m3, .ref m4, .int (nI dn), .ref m5, .ref m6, .long (tg T)], cI E m1 4 (mN n), cI E m2 32 (gl K), cI E m3 32 (gl F), cI E m4 32 (gl G), cI E m5 12 D, cJ E m6 6 (tv T)] (zx (some (.int (if hldM (K j) (upd (F j) p a) (G j) (n j) then 1 else 0))) ([cO h 3 [.int (nI nb), .ref m1, .ref m2, .ref m3, .ref m4, .int (nI dn), .ref m5, .ref m6, .long (tg (hbT (tabM (K j) (upd (F j) p a) (G j) 0 (n j)) (tabM (K j) (upd (F j) p a) (G j) 1 (n j))))], cI E m1 4 (mN n), cI E m2 32 (gl K), cI E m3 32 (gl F), cI E m4 32 (gl G), cI E m5 12 D, cJ E m6 6 (tv (hbT (tabM (K j) (upd (F j) p a) (G j) 0 (n j)) (tabM (K j) (upd (F j) p a) (G j) 1 (n j))))])) := by
  refine z_start RX3 "holdsWith" (by decide) rfl rfl rfl (Nat.le_of_ble_eq_true rfl) ?_
  intro J Z
  refine g_eq Z (lv2 := [(0, .ref h), (1, .int (nI j)), (2, .int (nI p)), (3, .int a)]) rfl rfl rfl ?_
  refine g_aload_n Z dX3_holdsWith_0 0 rfl rfl ?_
  refine g_get Z dX3_holdsWith_1 0 rfl rfl nX3_holdsWith_X3 3 (by decide) fX3_holdsWith_20 rfl ?_
  refine g_bipush Z dX3_holdsWith_4 zb_8 ?_
  refine g_iload_n Z dX3_holdsWith_6 1 rfl rfl ?_
  refine g_imulE (z := nI (8 * j)) Z dX3_holdsWith_7 (pk_mul 8 j) ?_
  refine g_iload_n Z dX3_holdsWith_8 2 rfl rfl ?_
  refine g_iaddE (z := nI (8 * j + p)) Z dX3_holdsWith_9 (nI_add (8 * j) p) ?_
  refine g_ialdE (v := F j p) Z dX3_holdsWith_10 3 rfl (8 * j + p) rfl (by omega) rfl (gl_at _ (j := j) (p := p) (by omega) (by omega)) ?_
  refine g_istore (lv' := [(4, .int (F j p)), (0, .ref h), (1, .int (nI j)), (2, .int (nI p)), (3, .int a)]) Z dX3_holdsWith_11 (by decide) rfl ?_
  refine g_aload_n Z dX3_holdsWith_13 1 rfl rfl ?_
  refine g_get Z dX3_holdsWith_14 0 rfl rfl nX3_holdsWith_X3 3 (by decide) fX3_holdsWith_20 rfl ?_
  refine g_bipush Z dX3_holdsWith_17 zb_8 ?_
  refine g_iload_n Z dX3_holdsWith_19 2 rfl rfl ?_
  refine g_imulE (z := nI (8 * j)) Z dX3_holdsWith_20 (pk_mul 8 j) ?_
  refine g_iload_n Z dX3_holdsWith_21 3 rfl rfl ?_
  refine g_iaddE (z := nI (8 * j + p)) Z dX3_holdsWith_22 (nI_add (8 * j) p) ?_
  refine g_iload_n Z dX3_holdsWith_23 4 rfl rfl ?_
  refine g_iastE (w' := [cO h 3 [.int (nI nb), .ref m1, .ref m2, .ref m3, .ref m4, .int (nI dn), .ref m5, .ref m6, .long (tg T)], cI E m1 4 (mN n), cI E m2 32 (gl K), cI E m3 32 (gl (va_up F j (upd (F j) p a))), cI E m4 32 (gl G), cI E m5 12 D, cJ E m6 6 (tv T)]) Z dX3_holdsWith_24 3 rfl (8 * j + p) rfl (by omega) rfl (gl_set _ (j := j) (p := p) _ (by omega) (by omega)) rfl ?_
  refine g_aload_n Z dX3_holdsWith_25 1 rfl rfl ?_
  refine g_iload_n Z dX3_holdsWith_26 2 rfl rfl ?_
  refine g_callVx (w' := [cO h 3 [.int (nI nb), .ref m1, .ref m2, .ref m3, .ref m4, .int (nI dn), .ref m5, .ref m6, .long (tg (hbT (tabM (K j) (upd (F j) p a) (G j) 0 (n j)) (tabM (K j) (upd (F j) p a) (G j) 1 (n j))))], cI E m1 4 (mN n), cI E m2 32 (gl K), cI E m3 32 (gl (va_up F j (upd (F j) p a))), cI E m4 32 (gl G), cI E m5 12 D, cJ E m6 6 (tv (hbT (tabM (K j) (upd (F j) p a) (G j) 0 (n j)) (tabM (K j) (upd (F j) p a) (G j) 1 (n j))))]) Z (qX3_holdsBothU E h m1 m2 m3 m4 m5 m6 nb dn n K F G D T j p a hn hj) iX3_holdsBoth gX3_holdsWith_X3_holdsBoth ⟨rfl, rfl⟩ ⟨Nat.le_of_ble_eq_true rfl, Nat.le_of_ble_eq_true rfl⟩ dX3_holdsWith_27 rfl rfl (Nat.le_of_ble_eq_true rfl) ⟨Nat.zero_le _, Nat.zero_le _⟩ [0, 1, 2, 3, 4, 5, 6] rfl rfl 0 rfl rfl rfl rfl rfl ?_
  refine g_istore (lv' := [(5, .int (if hldM (K j) (upd (F j) p a) (G j) (n j) then 1 else 0)), (4, .int (F j p)), (0, .ref h), (1, .int (nI j)), (2, .int (nI p)), (3, .int a)]) Z dX3_holdsWith_30 (by decide) rfl ?_
  refine g_aload_n Z dX3_holdsWith_32 2 rfl rfl ?_
  refine g_get Z dX3_holdsWith_33 0 rfl rfl nX3_holdsWith_X3 3 (by decide) fX3_holdsWith_20 rfl ?_
  refine g_bipush Z dX3_holdsWith_36 zb_8 ?_
  refine g_iload_n Z dX3_holdsWith_38 3 rfl rfl ?_
  refine g_imulE (z := nI (8 * j)) Z dX3_holdsWith_39 (pk_mul 8 j) ?_
  refine g_iload_n Z dX3_holdsWith_40 4 rfl rfl ?_
  refine g_iaddE (z := nI (8 * j + p)) Z dX3_holdsWith_41 (nI_add (8 * j) p) ?_
  refine g_iload Z dX3_holdsWith_42 1 rfl ?_
  refine g_iastE (w' := [cO h 3 [.int (nI nb), .ref m1, .ref m2, .ref m3, .ref m4, .int (nI dn), .ref m5, .ref m6, .long (tg (hbT (tabM (K j) (upd (F j) p a) (G j) 0 (n j)) (tabM (K j) (upd (F j) p a) (G j) 1 (n j))))], cI E m1 4 (mN n), cI E m2 32 (gl K), cI E m3 32 (gl F), cI E m4 32 (gl G), cI E m5 12 D, cJ E m6 6 (tv (hbT (tabM (K j) (upd (F j) p a) (G j) 0 (n j)) (tabM (K j) (upd (F j) p a) (G j) 1 (n j))))]) Z dX3_holdsWith_44 3 rfl (8 * j + p) rfl (by omega) rfl (by rw [gl_setU _ _ (j := j) (p := p) _ (by omega) (by omega), fa_upd_twice, fa_upd_same rfl, vu_self]) rfl ?_
  refine g_iload Z dX3_holdsWith_45 0 rfl ?_
  exact g_zret Z dX3_holdsWith_47 rfl z_nb ⟨Nat.zero_le _, Nat.zero_le _⟩ ⟨rfl, rfl⟩
