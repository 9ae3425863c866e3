set_option maxHeartbeats 4000000 in
set_option maxRecDepth 100000 in
theorem qX3_workT (E : zE) (h m1 m2 m3 m4 m5 m6 : Nat) (nb dn : Nat) (n : Nat → Nat) (K F G : Nat → Nat → Int32) (D : Nat → Int32) (T : TB) (j : Nat) (way : Int32) (hn : n j ≤ 8) (hj : j < 4) : zF E yX3_work wsX3_work rX3_work [.ref h, .int (nI j), .int way, .int 0, .int (nI (n j))] [cO h 3 [.int (nI nb), .ref m1, .ref m2, .ref m3, .ref m4, .int (nI dn), .ref m5, .ref m6, .long (tg T)], cI E m1 4 (mN n), cI E m2 32 (gl K), cI E m3 32 (gl F), cI E m4 32 (gl G), cI E m5 12 D, cJ E m6 6 (tv T)] (zx none ([cO h 3 [.int (nI nb), .ref m1, .ref m2, .ref m3, .ref m4, .int (nI dn), .ref m5, .ref m6, .long (tg (tabM (K j) (F j) (G j) way (n j)))], cI E m1 4 (mN n), cI E m2 32 (gl K), cI E m3 32 (gl F), cI E m4 32 (gl G), cI E m5 12 D, cJ E m6 6 (tv (tabM (K j) (F j) (G j) way (n j)))])) := qX3_work E h m1 m2 m3 m4 m5 m6 nb dn n K F G D T j 0 (n j) way hn hj (by omega) (Nat.le_refl _)

set_option maxHeartbeats 4000000 in
set_option maxRecDepth 100000 in
theorem qX3_workR (E : zE) (h m1 m2 m3 m4 m5 m6 : Nat) (nb dn : Nat) (n : Nat → Nat) (K F G : Nat → Nat → Int32) (D : Nat → Int32) (T : TB) (j : Nat) (f : Nat) (way : Int32) (hn : n j ≤ 8) (hj : j < 4) (hf : f ≤ 8) : zF E yX3_work wsX3_work rX3_work [.ref h, .int (nI j), .int way, .int (nI f), .int (nI (n j))] [cO h 3 [.int (nI nb), .ref m1, .ref m2, .ref m3, .ref m4, .int (nI dn), .ref m5, .ref m6, .long (tg T)], cI E m1 4 (mN n), cI E m2 32 (gl K), cI E m3 32 (gl F), cI E m4 32 (gl G), cI E m5 12 D, cJ E m6 6 (tv T)] (zx none ([cO h 3 [.int (nI nb), .ref m1, .ref m2, .ref m3, .ref m4, .int (nI dn), .ref m5, .ref m6, .long (tg (rotM (K j) (F j) (G j) way (n j) f))], cI E m1 4 (mN n), cI E m2 32 (gl K), cI E m3 32 (gl F), cI E m4 32 (gl G), cI E m5 12 D, cJ E m6 6 (tv (rotM (K j) (F j) (G j) way (n j) f))])) := qX3_work E h m1 m2 m3 m4 m5 m6 nb dn n K F G D T j f (n j) way hn hj hf (Nat.le_refl _)

abbrev rX3_table : Room := { frames := 3, cells := 0, slots := 0, locals := 78 }
theorem iX3_table : zInfo yX3_table wsX3_table RX3 5 (some .long) 4 := ⟨_, _, rfl, by decide +kernel⟩
theorem kX3_table_87 : Cond.constantLong RX3 87 (-9223372036854775808) ∈ wsX3_table := by decide +kernel
set_option maxHeartbeats 4000000 in
set_option maxRecDepth 100000 in
theorem qX3_tableN (E : zE) (h m1 m2 m3 m4 m5 m6 : Nat) (nb dn : Nat) (n : Nat → Nat) (K F G : Nat → Nat → Int32) (D : Nat → Int32) (T : TB) (b way e wh : Int32) (hnb : nb ≤ 4) (hn : ∀ b, n b ≤ 8) (hv : ¬ (inB nb b ∧ (way = 0 ∨ way = 1) ∧ inB 6 e ∧ (wh = 0 ∨ wh = 1))) : zF E yX3_table wsX3_table rX3_table [.ref h, .int b, .int way, .int e, .int wh] [cO h 3 [.int (nI nb), .ref m1, .ref m2, .ref m3, .ref m4, .int (nI dn), .ref m5, .ref m6, .long (tg T)], cI E m1 4 (mN n), cI E m2 32 (gl K), cI E m3 32 (gl F), cI E m4 32 (gl G), cI E m5 12 D, cJ E m6 6 (tv T)] (zx (some (.long (-9223372036854775808))) ([cO h 3 [.int (nI nb), .ref m1, .ref m2, .ref m3, .ref m4, .int (nI dn), .ref m5, .ref m6, .long (tg T)], cI E m1 4 (mN n), cI E m2 32 (gl K), cI E m3 32 (gl F), cI E m4 32 (gl G), cI E m5 12 D, cJ E m6 6 (tv T)])) := by
  refine z_start RX3 "table" (by decide) rfl rfl rfl (Nat.le_of_ble_eq_true rfl) ?_
  intro J Z
  refine g_eq Z (lv2 := [(0, .ref h), (1, .int b), (2, .int way), (3, .int e), (4, .int wh)]) rfl rfl rfl ?_
  refine g_aload_n Z dX3_table_0 0 rfl rfl ?_
  refine g_iload_n Z dX3_table_1 1 rfl rfl ?_
  refine g_callVx (w' := [cO h 3 [.int (nI nb), .ref m1, .ref m2, .ref m3, .ref m4, .int (nI dn), .ref m5, .ref m6, .long (tg T)], cI E m1 4 (mN n), cI E m2 32 (gl K), cI E m3 32 (gl F), cI E m4 32 (gl G), cI E m5 12 D, cJ E m6 6 (tv T)]) Z (qX3_isBench E h m1 m2 m3 m4 m5 m6 nb dn T b (by omega)) iX3_isBench gX3_table_X3_isBench ⟨rfl, rfl⟩ ⟨Nat.le_of_ble_eq_true rfl, Nat.le_of_ble_eq_true rfl⟩ dX3_table_2 rfl rfl (Nat.le_of_ble_eq_true rfl) ⟨Nat.zero_le _, Nat.zero_le _⟩ [0] rfl rfl 0 rfl rfl rfl rfl rfl ?_
  refine g_ifb_eq (tgt := 37) Z dX3_table_5 (by decide) (fun c_5 => ?_) (fun c_5 => ?_)
  · refine g_ldc2 Z dX3_table_37 kX3_table_87 ?_
    exact g_lret Z dX3_table_40 rfl ⟨Nat.zero_le _, Nat.zero_le _⟩ ⟨rfl, rfl⟩
  · refine g_aload_n Z dX3_table_8 0 rfl rfl ?_
    refine g_iload_n Z dX3_table_9 2 rfl rfl ?_
    refine g_callVx (w' := [cO h 3 [.int (nI nb), .ref m1, .ref m2, .ref m3, .ref m4, .int (nI dn), .ref m5, .ref m6, .long (tg T)], cI E m1 4 (mN n), cI E m2 32 (gl K), cI E m3 32 (gl F), cI E m4 32 (gl G), cI E m5 12 D, cJ E m6 6 (tv T)]) Z (qX3_isWay E h m1 m2 m3 m4 m5 m6 nb dn T way) iX3_isWay gX3_table_X3_isWay ⟨rfl, rfl⟩ ⟨Nat.le_of_ble_eq_true rfl, Nat.le_of_ble_eq_true rfl⟩ dX3_table_10 rfl rfl (Nat.le_of_ble_eq_true rfl) ⟨Nat.zero_le _, Nat.zero_le _⟩ [0] rfl rfl 0 rfl rfl rfl rfl rfl ?_
    refine g_ifb_eq (tgt := 37) Z dX3_table_13 (by decide) (fun c_13 => ?_) (fun c_13 => ?_)
    · refine g_ldc2 Z dX3_table_37 kX3_table_87 ?_
      exact g_lret Z dX3_table_40 rfl ⟨Nat.zero_le _, Nat.zero_le _⟩ ⟨rfl, rfl⟩
    · refine g_aload_n Z dX3_table_16 0 rfl rfl ?_
      refine g_iload_n Z dX3_table_17 3 rfl rfl ?_
      refine g_iconst Z dX3_table_18 zi_0 ?_
      refine g_iconst Z dX3_table_19 zi_5 ?_
      refine g_callVx (w' := [cO h 3 [.int (nI nb), .ref m1, .ref m2, .ref m3, .ref m4, .int (nI dn), .ref m5, .ref m6, .long (tg T)], cI E m1 4 (mN n), cI E m2 32 (gl K), cI E m3 32 (gl F), cI E m4 32 (gl G), cI E m5 12 D, cJ E m6 6 (tv T)]) Z (qX3_in E h m1 m2 m3 m4 m5 m6 nb dn T e 0 5) iX3_in gX3_table_X3_in ⟨rfl, rfl⟩ ⟨Nat.le_of_ble_eq_true rfl, Nat.le_of_ble_eq_true rfl⟩ dX3_table_20 rfl rfl (Nat.le_of_ble_eq_true rfl) ⟨Nat.zero_le _, Nat.zero_le _⟩ [0] rfl rfl 0 rfl rfl rfl rfl rfl ?_
      refine g_ifb_eq (tgt := 37) Z dX3_table_23 (by decide) (fun c_23 => ?_) (fun c_23 => ?_)
      · refine g_ldc2 Z dX3_table_37 kX3_table_87 ?_
        exact g_lret Z dX3_table_40 rfl ⟨Nat.zero_le _, Nat.zero_le _⟩ ⟨rfl, rfl⟩
      · refine g_aload_n Z dX3_table_26 0 rfl rfl ?_
        refine g_iload Z dX3_table_27 4 rfl ?_
        refine g_iconst Z dX3_table_29 zi_0 ?_
        refine g_iconst Z dX3_table_30 zi_1 ?_
        refine g_callVx (w' := [cO h 3 [.int (nI nb), .ref m1, .ref m2, .ref m3, .ref m4, .int (nI dn), .ref m5, .ref m6, .long (tg T)], cI E m1 4 (mN n), cI E m2 32 (gl K), cI E m3 32 (gl F), cI E m4 32 (gl G), cI E m5 12 D, cJ E m6 6 (tv T)]) Z (qX3_in E h m1 m2 m3 m4 m5 m6 nb dn T wh 0 1) iX3_in gX3_table_X3_in ⟨rfl, rfl⟩ ⟨Nat.le_of_ble_eq_true rfl, Nat.le_of_ble_eq_true rfl⟩ dX3_table_31 rfl rfl (Nat.le_of_ble_eq_true rfl) ⟨Nat.zero_le _, Nat.zero_le _⟩ [0] rfl rfl 0 rfl rfl rfl rfl rfl ?_
        refine g_ifb_ne (tgt := 41) Z dX3_table_34 (by decide) (fun c_34 => ?_) (fun c_34 => ?_)
        · exact absurd ⟨c_5, c_13, (inB_P (n := 5) (by omega)).mp c_23, in01' c_34⟩ hv
        · refine g_ldc2 Z dX3_table_37 kX3_table_87 ?_
          exact g_lret Z dX3_table_40 rfl ⟨Nat.zero_le _, Nat.zero_le _⟩ ⟨rfl, rfl⟩

theorem nX3_table_X3 : ∀ w ∈ wsX30, w ∈ wsX3_table := by decide +kernel
theorem fX3_table_13 : Cond.fieldLink RX3 13 (TX3 1).1 (TX3 1).2.1 (TX3 1).2.2.1 ∈ wsX3_table := by decide +kernel
theorem fX3_table_32 : Cond.fieldLink RX3 32 (TX3 7).1 (TX3 7).2.1 (TX3 7).2.2.1 ∈ wsX3_table := by decide +kernel
theorem fX3_table_36 : Cond.fieldLink RX3 36 (TX3 8).1 (TX3 8).2.1 (TX3 8).2.2.1 ∈ wsX3_table := by decide +kernel
set_option maxHeartbeats 4000000 in
set_option maxRecDepth 100000 in
theorem qX3_table (E : zE) (h m1 m2 m3 m4 m5 m6 : Nat) (nb dn : Nat) (n : Nat → Nat) (K F G : Nat → Nat → Int32) (D : Nat → Int32) (T : TB) (j : Nat) (q : Nat) (way wh : Int32) (hnb : nb ≤ 4) (hn : ∀ b, n b ≤ 8) (hj : j < nb) (hw : way = 0 ∨ way = 1) (hq : q < 6) (hh : wh = 0 ∨ wh = 1) : zF E yX3_table wsX3_table rX3_table [.ref h, .int (nI j), .int way, .int (nI q), .int wh] [cO h 3 [.int (nI nb), .ref m1, .ref m2, .ref m3, .ref m4, .int (nI dn), .ref m5, .ref m6, .long (tg T)], cI E m1 4 (mN n), cI E m2 32 (gl K), cI E m3 32 (gl F), cI E m4 32 (gl G), cI E m5 12 D, cJ E m6 6 (tv T)] (fun ov wv => ov = some (.long (lowF (tv (tabM (K j) (F j) (G j) way (n j)) q) (tg (tabM (K j) (F j) (G j) way (n j))) wh)) ∧ ∃ T2 : TB, wv = [cO h 3 [.int (nI nb), .ref m1, .ref m2, .ref m3, .ref m4, .int (nI dn), .ref m5, .ref m6, .long (tg T2)], cI E m1 4 (mN n), cI E m2 32 (gl K), cI E m3 32 (gl F), cI E m4 32 (gl G), cI E m5 12 D, cJ E m6 6 (tv T2)]) := by
  refine z_start RX3 "table" (by decide) rfl rfl rfl (Nat.le_of_ble_eq_true rfl) ?_
  intro J Z
  refine g_eq Z (lv2 := [(0, .ref h), (1, .int (nI j)), (2, .int way), (3, .int (nI q)), (4, .int wh)]) rfl rfl rfl ?_
  have hnj := hn j
  refine g_aload_n Z dX3_table_0 0 rfl rfl ?_
  refine g_iload_n Z dX3_table_1 1 rfl rfl ?_
  refine g_callVx (w' := [cO h 3 [.int (nI nb), .ref m1, .ref m2, .ref m3, .ref m4, .int (nI dn), .ref m5, .ref m6, .long (tg T)], cI E m1 4 (mN n), cI E m2 32 (gl K), cI E m3 32 (gl F), cI E m4 32 (gl G), cI E m5 12 D, cJ E m6 6 (tv T)]) Z (qX3_isBench E h m1 m2 m3 m4 m5 m6 nb dn T (nI j) (by omega)) iX3_isBench gX3_table_X3_isBench ⟨rfl, rfl⟩ ⟨Nat.le_of_ble_eq_true rfl, Nat.le_of_ble_eq_true rfl⟩ dX3_table_2 rfl rfl (Nat.le_of_ble_eq_true rfl) ⟨Nat.zero_le _, Nat.zero_le _⟩ [0] rfl rfl 0 rfl rfl rfl rfl rfl ?_
  refine g_ifb_eq (tgt := 37) Z dX3_table_5 (by decide) (fun c_5 => absurd c_5 (fun q => q (inB_nI hj (by omega)))) (fun c_5 => ?_)
  refine g_aload_n Z dX3_table_8 0 rfl rfl ?_
  refine g_iload_n Z dX3_table_9 2 rfl rfl ?_
  refine g_callVx (w' := [cO h 3 [.int (nI nb), .ref m1, .ref m2, .ref m3, .ref m4, .int (nI dn), .ref m5, .ref m6, .long (tg T)], cI E m1 4 (mN n), cI E m2 32 (gl K), cI E m3 32 (gl F), cI E m4 32 (gl G), cI E m5 12 D, cJ E m6 6 (tv T)]) Z (qX3_isWay E h m1 m2 m3 m4 m5 m6 nb dn T way) iX3_isWay gX3_table_X3_isWay ⟨rfl, rfl⟩ ⟨Nat.le_of_ble_eq_true rfl, Nat.le_of_ble_eq_true rfl⟩ dX3_table_10 rfl rfl (Nat.le_of_ble_eq_true rfl) ⟨Nat.zero_le _, Nat.zero_le _⟩ [0] rfl rfl 0 rfl rfl rfl rfl rfl ?_
  refine g_ifb_eq (tgt := 37) Z dX3_table_13 (by decide) (fun c_13 => absurd c_13 (fun q => q hw)) (fun c_13 => ?_)
  refine g_aload_n Z dX3_table_16 0 rfl rfl ?_
  refine g_iload_n Z dX3_table_17 3 rfl rfl ?_
  refine g_iconst Z dX3_table_18 zi_0 ?_
  refine g_iconst Z dX3_table_19 zi_5 ?_
  refine g_callVx (w' := [cO h 3 [.int (nI nb), .ref m1, .ref m2, .ref m3, .ref m4, .int (nI dn), .ref m5, .ref m6, .long (tg T)], cI E m1 4 (mN n), cI E m2 32 (gl K), cI E m3 32 (gl F), cI E m4 32 (gl G), cI E m5 12 D, cJ E m6 6 (tv T)]) Z (qX3_in E h m1 m2 m3 m4 m5 m6 nb dn T (nI q) 0 5) iX3_in gX3_table_X3_in ⟨rfl, rfl⟩ ⟨Nat.le_of_ble_eq_true rfl, Nat.le_of_ble_eq_true rfl⟩ dX3_table_20 rfl rfl (Nat.le_of_ble_eq_true rfl) ⟨Nat.zero_le _, Nat.zero_le _⟩ [0] rfl rfl 0 rfl rfl rfl rfl rfl ?_
  refine g_ifb_eq (tgt := 37) Z dX3_table_23 (by decide) (fun c_23 => absurd c_23 (fun z => z ((inB_P (n := 5) (by omega)).mpr (inB_nI hq (by omega))))) (fun c_23 => ?_)
  refine g_aload_n Z dX3_table_26 0 rfl rfl ?_
  refine g_iload Z dX3_table_27 4 rfl ?_
  refine g_iconst Z dX3_table_29 zi_0 ?_
  refine g_iconst Z dX3_table_30 zi_1 ?_
  refine g_callVx (w' := [cO h 3 [.int (nI nb), .ref m1, .ref m2, .ref m3, .ref m4, .int (nI dn), .ref m5, .ref m6, .long (tg T)], cI E m1 4 (mN n), cI E m2 32 (gl K), cI E m3 32 (gl F), cI E m4 32 (gl G), cI E m5 12 D, cJ E m6 6 (tv T)]) Z (qX3_in E h m1 m2 m3 m4 m5 m6 nb dn T wh 0 1) iX3_in gX3_table_X3_in ⟨rfl, rfl⟩ ⟨Nat.le_of_ble_eq_true rfl, Nat.le_of_ble_eq_true rfl⟩ dX3_table_31 rfl rfl (Nat.le_of_ble_eq_true rfl) ⟨Nat.zero_le _, Nat.zero_le _⟩ [0] rfl rfl 0 rfl rfl rfl rfl rfl ?_
  refine g_ifb_ne (tgt := 41) Z dX3_table_34 (by decide) (fun c_34 => ?_) (fun c_34 => absurd c_34 (fun z => z (in01 hh)))
  refine g_aload_n Z dX3_table_41 0 rfl rfl ?_
  refine g_iload_n Z dX3_table_42 1 rfl rfl ?_
  refine g_iload_n Z dX3_table_43 2 rfl rfl ?_
  refine g_iconst Z dX3_table_44 zi_0 ?_
  refine g_aload_n Z dX3_table_45 0 rfl rfl ?_
  refine g_get Z dX3_table_46 0 rfl rfl nX3_table_X3 1 (by decide) fX3_table_13 rfl ?_
  refine g_iload_n Z dX3_table_49 1 rfl rfl ?_
  refine g_ialdE (v := nI (n j)) Z dX3_table_50 1 rfl j rfl (by omega) rfl rfl ?_
  refine g_callVx (w' := [cO h 3 [.int (nI nb), .ref m1, .ref m2, .ref m3, .ref m4, .int (nI dn), .ref m5, .ref m6, .long (tg (tabM (K j) (F j) (G j) way (n j)))], cI E m1 4 (mN n), cI E m2 32 (gl K), cI E m3 32 (gl F), cI E m4 32 (gl G), cI E m5 12 D, cJ E m6 6 (tv (tabM (K j) (F j) (G j) way (n j)))]) Z (qX3_workT E h m1 m2 m3 m4 m5 m6 nb dn n K F G D T j way hnj (by omega)) iX3_work gX3_table_X3_work ⟨rfl, rfl⟩ ⟨Nat.le_of_ble_eq_true rfl, Nat.le_of_ble_eq_true rfl⟩ dX3_table_51 rfl rfl (Nat.le_of_ble_eq_true rfl) ⟨Nat.zero_le _, Nat.zero_le _⟩ [0, 1, 2, 3, 4, 5, 6] rfl rfl 0 rfl rfl rfl rfl rfl ?_
  refine g_aload_n Z dX3_table_54 0 rfl rfl ?_
  refine g_aload_n Z dX3_table_55 0 rfl rfl ?_
  refine g_get Z dX3_table_56 0 rfl rfl nX3_table_X3 7 (by decide) fX3_table_32 rfl ?_
  refine g_iload_n Z dX3_table_59 3 rfl rfl ?_
  refine g_lald Z dX3_table_60 6 rfl q rfl (by omega) rfl ?_
  refine g_aload_n Z dX3_table_61 0 rfl rfl ?_
  refine g_get Z dX3_table_62 0 rfl rfl nX3_table_X3 8 (by decide) fX3_table_36 rfl ?_
  refine g_iload Z dX3_table_65 4 rfl ?_
  refine g_callVx (w' := [cO h 3 [.int (nI nb), .ref m1, .ref m2, .ref m3, .ref m4, .int (nI dn), .ref m5, .ref m6, .long (tg (tabM (K j) (F j) (G j) way (n j)))], cI E m1 4 (mN n), cI E m2 32 (gl K), cI E m3 32 (gl F), cI E m4 32 (gl G), cI E m5 12 D, cJ E m6 6 (tv (tabM (K j) (F j) (G j) way (n j)))]) Z (qX3_lowest E h m1 m2 m3 m4 m5 m6 nb dn (tabM (K j) (F j) (G j) way (n j)) ((tv (tabM (K j) (F j) (G j) way (n j))) q) (tg (tabM (K j) (F j) (G j) way (n j))) wh) iX3_lowest gX3_table_X3_lowest ⟨rfl, rfl⟩ ⟨Nat.le_of_ble_eq_true rfl, Nat.le_of_ble_eq_true rfl⟩ dX3_table_67 rfl rfl (Nat.le_of_ble_eq_true rfl) ⟨Nat.zero_le _, Nat.zero_le _⟩ [0] rfl rfl 0 rfl rfl rfl rfl rfl ?_
  exact g_lret Z dX3_table_70 rfl ⟨Nat.zero_le _, Nat.zero_le _⟩ ⟨rfl, _, rfl⟩

abbrev rX3_ray : Room := { frames := 3, cells := 0, slots := 0, locals := 78 }
theorem iX3_ray : zInfo yX3_ray wsX3_ray RX3 8 (some .long) 7 := ⟨_, _, rfl, by decide +kernel⟩
theorem kX3_ray_87 : Cond.constantLong RX3 87 (-9223372036854775808) ∈ wsX3_ray := by decide +kernel
theorem nX3_ray_X3 : ∀ w ∈ wsX30, w ∈ wsX3_ray := by decide +kernel
theorem fX3_ray_13 : Cond.fieldLink RX3 13 (TX3 1).1 (TX3 1).2.1 (TX3 1).2.2.1 ∈ wsX3_ray := by decide +kernel
set_option maxHeartbeats 4000000 in
set_option maxRecDepth 100000 in
theorem qX3_rayN (E : zE) (h m1 m2 m3 m4 m5 m6 : Nat) (nb dn : Nat) (n : Nat → Nat) (K F G : Nat → Nat → Int32) (D : Nat → Int32) (T : TB) (b way x y v e wh : Int32) (hnb : nb ≤ 4) (hn : ∀ b, n b ≤ 8) (hv : ¬ ∃ j, j < nb ∧ b = nI j ∧ (way = 0 ∨ way = 1) ∧ (ner x ∧ ner y) ∧ inB (n j + 1) v ∧ (e = 0 ∨ e = 1) ∧ (wh = 0 ∨ wh = 1)) : zF E yX3_ray wsX3_ray rX3_ray [.ref h, .int b, .int way, .int x, .int y, .int v, .int e, .int wh] [cO h 3 [.int (nI nb), .ref m1, .ref m2, .ref m3, .ref m4, .int (nI dn), .ref m5, .ref m6, .long (tg T)], cI E m1 4 (mN n), cI E m2 32 (gl K), cI E m3 32 (gl F), cI E m4 32 (gl G), cI E m5 12 D, cJ E m6 6 (tv T)] (zx (some (.long (-9223372036854775808))) ([cO h 3 [.int (nI nb), .ref m1, .ref m2, .ref m3, .ref m4, .int (nI dn), .ref m5, .ref m6, .long (tg T)], cI E m1 4 (mN n), cI E m2 32 (gl K), cI E m3 32 (gl F), cI E m4 32 (gl G), cI E m5 12 D, cJ E m6 6 (tv T)])) := by
  refine z_start RX3 "ray" (by decide) rfl rfl rfl (Nat.le_of_ble_eq_true rfl) ?_
  intro J Z
  refine g_eq Z (lv2 := [(0, .ref h), (1, .int b), (2, .int way), (3, .int x), (4, .int y), (5, .int v), (6, .int e), (7, .int wh)]) rfl rfl rfl ?_
  refine g_aload_n Z dX3_ray_0 0 rfl rfl ?_
  refine g_iload_n Z dX3_ray_1 1 rfl rfl ?_
  refine g_callVx (w' := [cO h 3 [.int (nI nb), .ref m1, .ref m2, .ref m3, .ref m4, .int (nI dn), .ref m5, .ref m6, .long (tg T)], cI E m1 4 (mN n), cI E m2 32 (gl K), cI E m3 32 (gl F), cI E m4 32 (gl G), cI E m5 12 D, cJ E m6 6 (tv T)]) Z (qX3_isBench E h m1 m2 m3 m4 m5 m6 nb dn T b (by omega)) iX3_isBench gX3_ray_X3_isBench ⟨rfl, rfl⟩ ⟨Nat.le_of_ble_eq_true rfl, Nat.le_of_ble_eq_true rfl⟩ dX3_ray_2 rfl rfl (Nat.le_of_ble_eq_true rfl) ⟨Nat.zero_le _, Nat.zero_le _⟩ [0] rfl rfl 0 rfl rfl rfl rfl rfl ?_
  refine g_ifb_eq (tgt := 64) Z dX3_ray_5 (by decide) (fun c_5 => ?_) (fun c_5 => ?_)
  · refine g_ldc2 Z dX3_ray_64 kX3_ray_87 ?_
    exact g_lret Z dX3_ray_67 rfl ⟨Nat.zero_le _, Nat.zero_le _⟩ ⟨rfl, rfl⟩
  · obtain ⟨j, hj, rfl⟩ := inB_of c_5
    have hnj := hn j
    refine g_aload_n Z dX3_ray_8 0 rfl rfl ?_
    refine g_iload_n Z dX3_ray_9 2 rfl rfl ?_
    refine g_callVx (w' := [cO h 3 [.int (nI nb), .ref m1, .ref m2, .ref m3, .ref m4, .int (nI dn), .ref m5, .ref m6, .long (tg T)], cI E m1 4 (mN n), cI E m2 32 (gl K), cI E m3 32 (gl F), cI E m4 32 (gl G), cI E m5 12 D, cJ E m6 6 (tv T)]) Z (qX3_isWay E h m1 m2 m3 m4 m5 m6 nb dn T way) iX3_isWay gX3_ray_X3_isWay ⟨rfl, rfl⟩ ⟨Nat.le_of_ble_eq_true rfl, Nat.le_of_ble_eq_true rfl⟩ dX3_ray_10 rfl rfl (Nat.le_of_ble_eq_true rfl) ⟨Nat.zero_le _, Nat.zero_le _⟩ [0] rfl rfl 0 rfl rfl rfl rfl rfl ?_
    refine g_ifb_eq (tgt := 64) Z dX3_ray_13 (by decide) (fun c_13 => ?_) (fun c_13 => ?_)
    · refine g_ldc2 Z dX3_ray_64 kX3_ray_87 ?_
      exact g_lret Z dX3_ray_67 rfl ⟨Nat.zero_le _, Nat.zero_le _⟩ ⟨rfl, rfl⟩
    · refine g_aload_n Z dX3_ray_16 0 rfl rfl ?_
      refine g_iload_n Z dX3_ray_17 3 rfl rfl ?_
      refine g_iload Z dX3_ray_18 4 rfl ?_
      refine g_callVx (w' := [cO h 3 [.int (nI nb), .ref m1, .ref m2, .ref m3, .ref m4, .int (nI dn), .ref m5, .ref m6, .long (tg T)], cI E m1 4 (mN n), cI E m2 32 (gl K), cI E m3 32 (gl F), cI E m4 32 (gl G), cI E m5 12 D, cJ E m6 6 (tv T)]) Z (qX3_isRay E h m1 m2 m3 m4 m5 m6 nb dn T x y) iX3_isRay gX3_ray_X3_isRay ⟨rfl, rfl⟩ ⟨Nat.le_of_ble_eq_true rfl, Nat.le_of_ble_eq_true rfl⟩ dX3_ray_20 rfl rfl (Nat.le_of_ble_eq_true rfl) ⟨Nat.zero_le _, Nat.zero_le _⟩ [0] rfl rfl 0 rfl rfl rfl rfl rfl ?_
      refine g_ifb_eq (tgt := 64) Z dX3_ray_23 (by decide) (fun c_23 => ?_) (fun c_23 => ?_)
      · refine g_ldc2 Z dX3_ray_64 kX3_ray_87 ?_
        exact g_lret Z dX3_ray_67 rfl ⟨Nat.zero_le _, Nat.zero_le _⟩ ⟨rfl, rfl⟩
      · refine g_aload_n Z dX3_ray_26 0 rfl rfl ?_
        refine g_iload Z dX3_ray_27 5 rfl ?_
        refine g_iconst Z dX3_ray_29 zi_0 ?_
        refine g_aload_n Z dX3_ray_30 0 rfl rfl ?_
        refine g_get Z dX3_ray_31 0 rfl rfl nX3_ray_X3 1 (by decide) fX3_ray_13 rfl ?_
        refine g_iload_n Z dX3_ray_34 1 rfl rfl ?_
        refine g_ialdE (v := nI (n j)) Z dX3_ray_35 1 rfl j rfl (by omega) rfl rfl ?_
        refine g_callVx (w' := [cO h 3 [.int (nI nb), .ref m1, .ref m2, .ref m3, .ref m4, .int (nI dn), .ref m5, .ref m6, .long (tg T)], cI E m1 4 (mN n), cI E m2 32 (gl K), cI E m3 32 (gl F), cI E m4 32 (gl G), cI E m5 12 D, cJ E m6 6 (tv T)]) Z (qX3_in E h m1 m2 m3 m4 m5 m6 nb dn T v 0 (nI (n j))) iX3_in gX3_ray_X3_in ⟨rfl, rfl⟩ ⟨Nat.le_of_ble_eq_true rfl, Nat.le_of_ble_eq_true rfl⟩ dX3_ray_36 rfl rfl (Nat.le_of_ble_eq_true rfl) ⟨Nat.zero_le _, Nat.zero_le _⟩ [0] rfl rfl 0 rfl rfl rfl rfl rfl ?_
        refine g_ifb_eq (tgt := 64) Z dX3_ray_39 (by decide) (fun c_39 => ?_) (fun c_39 => ?_)
        · refine g_ldc2 Z dX3_ray_64 kX3_ray_87 ?_
          exact g_lret Z dX3_ray_67 rfl ⟨Nat.zero_le _, Nat.zero_le _⟩ ⟨rfl, rfl⟩
        · refine g_aload_n Z dX3_ray_42 0 rfl rfl ?_
          refine g_iload Z dX3_ray_43 6 rfl ?_
          refine g_iconst Z dX3_ray_45 zi_0 ?_
          refine g_iconst Z dX3_ray_46 zi_1 ?_
          refine g_callVx (w' := [cO h 3 [.int (nI nb), .ref m1, .ref m2, .ref m3, .ref m4, .int (nI dn), .ref m5, .ref m6, .long (tg T)], cI E m1 4 (mN n), cI E m2 32 (gl K), cI E m3 32 (gl F), cI E m4 32 (gl G), cI E m5 12 D, cJ E m6 6 (tv T)]) Z (qX3_in E h m1 m2 m3 m4 m5 m6 nb dn T e 0 1) iX3_in gX3_ray_X3_in ⟨rfl, rfl⟩ ⟨Nat.le_of_ble_eq_true rfl, Nat.le_of_ble_eq_true rfl⟩ dX3_ray_47 rfl rfl (Nat.le_of_ble_eq_true rfl) ⟨Nat.zero_le _, Nat.zero_le _⟩ [0] rfl rfl 0 rfl rfl rfl rfl rfl ?_
          refine g_ifb_eq (tgt := 64) Z dX3_ray_50 (by decide) (fun c_50 => ?_) (fun c_50 => ?_)
          · refine g_ldc2 Z dX3_ray_64 kX3_ray_87 ?_
            exact g_lret Z dX3_ray_67 rfl ⟨Nat.zero_le _, Nat.zero_le _⟩ ⟨rfl, rfl⟩
          · refine g_aload_n Z dX3_ray_53 0 rfl rfl ?_
            refine g_iload Z dX3_ray_54 7 rfl ?_
            refine g_iconst Z dX3_ray_56 zi_0 ?_
            refine g_iconst Z dX3_ray_57 zi_1 ?_
            refine g_callVx (w' := [cO h 3 [.int (nI nb), .ref m1, .ref m2, .ref m3, .ref m4, .int (nI dn), .ref m5, .ref m6, .long (tg T)], cI E m1 4 (mN n), cI E m2 32 (gl K), cI E m3 32 (gl F), cI E m4 32 (gl G), cI E m5 12 D, cJ E m6 6 (tv T)]) Z (qX3_in E h m1 m2 m3 m4 m5 m6 nb dn T wh 0 1) iX3_in gX3_ray_X3_in ⟨rfl, rfl⟩ ⟨Nat.le_of_ble_eq_true rfl, Nat.le_of_ble_eq_true rfl⟩ dX3_ray_58 rfl rfl (Nat.le_of_ble_eq_true rfl) ⟨Nat.zero_le _, Nat.zero_le _⟩ [0] rfl rfl 0 rfl rfl rfl rfl rfl ?_
            refine g_ifb_ne (tgt := 68) Z dX3_ray_61 (by decide) (fun c_61 => ?_) (fun c_61 => ?_)
            · exact absurd ⟨j, hj, rfl, c_13, c_23, (inB_P (by omega)).mp c_39, in01' c_50, in01' c_61⟩ hv
            · refine g_ldc2 Z dX3_ray_64 kX3_ray_87 ?_
              exact g_lret Z dX3_ray_67 rfl ⟨Nat.zero_le _, Nat.zero_le _⟩ ⟨rfl, rfl⟩

theorem fX3_ray_32 : Cond.fieldLink RX3 32 (TX3 7).1 (TX3 7).2.1 (TX3 7).2.2.1 ∈ wsX3_ray := by decide +kernel
theorem fX3_ray_36 : Cond.fieldLink RX3 36 (TX3 8).1 (TX3 8).2.1 (TX3 8).2.2.1 ∈ wsX3_ray := by decide +kernel
set_option maxHeartbeats 4000000 in
set_option maxRecDepth 100000 in
theorem qX3_ray (E : zE) (h m1 m2 m3 m4 m5 m6 : Nat) (nb dn : Nat) (n : Nat → Nat) (K F G : Nat → Nat → Int32) (D : Nat → Int32) (T : TB) (j : Nat) (p : Nat) (way x y e wh : Int32) (hnb : nb ≤ 4) (hn : ∀ b, n b ≤ 8) (hj : j < nb) (hw : way = 0 ∨ way = 1) (hx : ner x ∧ ner y) (hp : p ≤ n j) (he : e = 0 ∨ e = 1) (hh : wh = 0 ∨ wh = 1) : zF E yX3_ray wsX3_ray rX3_ray [.ref h, .int (nI j), .int way, .int x, .int y, .int (nI p), .int e, .int wh] [cO h 3 [.int (nI nb), .ref m1, .ref m2, .ref m3, .ref m4, .int (nI dn), .ref m5, .ref m6, .long (tg T)], cI E m1 4 (mN n), cI E m2 32 (gl K), cI E m3 32 (gl F), cI E m4 32 (gl G), cI E m5 12 D, cJ E m6 6 (tv T)] (fun ov wv => ov = some (.long (rayM (wrkF (K j) (F j) (G j) way (n j) 0 T1 p) x y e wh)) ∧ ∃ T2 : TB, wv = [cO h 3 [.int (nI nb), .ref m1, .ref m2, .ref m3, .ref m4, .int (nI dn), .ref m5, .ref m6, .long (tg T2)], cI E m1 4 (mN n), cI E m2 32 (gl K), cI E m3 32 (gl F), cI E m4 32 (gl G), cI E m5 12 D, cJ E m6 6 (tv T2)]) := by
  refine z_start RX3 "ray" (by decide) rfl rfl rfl (Nat.le_of_ble_eq_true rfl) ?_
  intro J Z
  refine g_eq Z (lv2 := [(0, .ref h), (1, .int (nI j)), (2, .int way), (3, .int x), (4, .int y), (5, .int (nI p)), (6, .int e), (7, .int wh)]) rfl rfl rfl ?_
  have hnj := hn j
  refine g_aload_n Z dX3_ray_0 0 rfl rfl ?_
  refine g_iload_n Z dX3_ray_1 1 rfl rfl ?_
  refine g_callVx (w' := [cO h 3 [.int (nI nb), .ref m1, .ref m2, .ref m3, .ref m4, .int (nI dn), .ref m5, .ref m6, .long (tg T)], cI E m1 4 (mN n), cI E m2 32 (gl K), cI E m3 32 (gl F), cI E m4 32 (gl G), cI E m5 12 D, cJ E m6 6 (tv T)]) Z (qX3_isBench E h m1 m2 m3 m4 m5 m6 nb dn T (nI j) (by omega)) iX3_isBench gX3_ray_X3_isBench ⟨rfl, rfl⟩ ⟨Nat.le_of_ble_eq_true rfl, Nat.le_of_ble_eq_true rfl⟩ dX3_ray_2 rfl rfl (Nat.le_of_ble_eq_true rfl) ⟨Nat.zero_le _, Nat.zero_le _⟩ [0] rfl rfl 0 rfl rfl rfl rfl rfl ?_
  refine g_ifb_eq (tgt := 64) Z dX3_ray_5 (by decide) (fun c_5 => absurd c_5 (fun q => q (inB_nI hj (by omega)))) (fun c_5 => ?_)
  refine g_aload_n Z dX3_ray_8 0 rfl rfl ?_
  refine g_iload_n Z dX3_ray_9 2 rfl rfl ?_
  refine g_callVx (w' := [cO h 3 [.int (nI nb), .ref m1, .ref m2, .ref m3, .ref m4, .int (nI dn), .ref m5, .ref m6, .long (tg T)], cI E m1 4 (mN n), cI E m2 32 (gl K), cI E m3 32 (gl F), cI E m4 32 (gl G), cI E m5 12 D, cJ E m6 6 (tv T)]) Z (qX3_isWay E h m1 m2 m3 m4 m5 m6 nb dn T way) iX3_isWay gX3_ray_X3_isWay ⟨rfl, rfl⟩ ⟨Nat.le_of_ble_eq_true rfl, Nat.le_of_ble_eq_true rfl⟩ dX3_ray_10 rfl rfl (Nat.le_of_ble_eq_true rfl) ⟨Nat.zero_le _, Nat.zero_le _⟩ [0] rfl rfl 0 rfl rfl rfl rfl rfl ?_
  refine g_ifb_eq (tgt := 64) Z dX3_ray_13 (by decide) (fun c_13 => absurd c_13 (fun q => q hw)) (fun c_13 => ?_)
  refine g_aload_n Z dX3_ray_16 0 rfl rfl ?_
  refine g_iload_n Z dX3_ray_17 3 rfl rfl ?_
  refine g_iload Z dX3_ray_18 4 rfl ?_
  refine g_callVx (w' := [cO h 3 [.int (nI nb), .ref m1, .ref m2, .ref m3, .ref m4, .int (nI dn), .ref m5, .ref m6, .long (tg T)], cI E m1 4 (mN n), cI E m2 32 (gl K), cI E m3 32 (gl F), cI E m4 32 (gl G), cI E m5 12 D, cJ E m6 6 (tv T)]) Z (qX3_isRay E h m1 m2 m3 m4 m5 m6 nb dn T x y) iX3_isRay gX3_ray_X3_isRay ⟨rfl, rfl⟩ ⟨Nat.le_of_ble_eq_true rfl, Nat.le_of_ble_eq_true rfl⟩ dX3_ray_20 rfl rfl (Nat.le_of_ble_eq_true rfl) ⟨Nat.zero_le _, Nat.zero_le _⟩ [0] rfl rfl 0 rfl rfl rfl rfl rfl ?_
  refine g_ifb_eq (tgt := 64) Z dX3_ray_23 (by decide) (fun c_23 => absurd c_23 (fun z => z hx)) (fun c_23 => ?_)
  refine g_aload_n Z dX3_ray_26 0 rfl rfl ?_
  refine g_iload Z dX3_ray_27 5 rfl ?_
  refine g_iconst Z dX3_ray_29 zi_0 ?_
  refine g_aload_n Z dX3_ray_30 0 rfl rfl ?_
  refine g_get Z dX3_ray_31 0 rfl rfl nX3_ray_X3 1 (by decide) fX3_ray_13 rfl ?_
  refine g_iload_n Z dX3_ray_34 1 rfl rfl ?_
  refine g_ialdE (v := nI (n j)) Z dX3_ray_35 1 rfl j rfl (by omega) rfl rfl ?_
  refine g_callVx (w' := [cO h 3 [.int (nI nb), .ref m1, .ref m2, .ref m3, .ref m4, .int (nI dn), .ref m5, .ref m6, .long (tg T)], cI E m1 4 (mN n), cI E m2 32 (gl K), cI E m3 32 (gl F), cI E m4 32 (gl G), cI E m5 12 D, cJ E m6 6 (tv T)]) Z (qX3_in E h m1 m2 m3 m4 m5 m6 nb dn T (nI p) 0 (nI (n j))) iX3_in gX3_ray_X3_in ⟨rfl, rfl⟩ ⟨Nat.le_of_ble_eq_true rfl, Nat.le_of_ble_eq_true rfl⟩ dX3_ray_36 rfl rfl (Nat.le_of_ble_eq_true rfl) ⟨Nat.zero_le _, Nat.zero_le _⟩ [0] rfl rfl 0 rfl rfl rfl rfl rfl ?_
  refine g_ifb_eq (tgt := 64) Z dX3_ray_39 (by decide) (fun c_39 => absurd c_39 (fun z => z ((inB_P (by omega)).mpr (inB_nI (by omega) (by omega))))) (fun c_39 => ?_)
  refine g_aload_n Z dX3_ray_42 0 rfl rfl ?_
  refine g_iload Z dX3_ray_43 6 rfl ?_
  refine g_iconst Z dX3_ray_45 zi_0 ?_
  refine g_iconst Z dX3_ray_46 zi_1 ?_
  refine g_callVx (w' := [cO h 3 [.int (nI nb), .ref m1, .ref m2, .ref m3, .ref m4, .int (nI dn), .ref m5, .ref m6, .long (tg T)], cI E m1 4 (mN n), cI E m2 32 (gl K), cI E m3 32 (gl F), cI E m4 32 (gl G), cI E m5 12 D, cJ E m6 6 (tv T)]) Z (qX3_in E h m1 m2 m3 m4 m5 m6 nb dn T e 0 1) iX3_in gX3_ray_X3_in ⟨rfl, rfl⟩ ⟨Nat.le_of_ble_eq_true rfl, Nat.le_of_ble_eq_true rfl⟩ dX3_ray_47 rfl rfl (Nat.le_of_ble_eq_true rfl) ⟨Nat.zero_le _, Nat.zero_le _⟩ [0] rfl rfl 0 rfl rfl rfl rfl rfl ?_
  refine g_ifb_eq (tgt := 64) Z dX3_ray_50 (by decide) (fun c_50 => absurd c_50 (fun z => z (in01 he))) (fun c_50 => ?_)
  refine g_aload_n Z dX3_ray_53 0 rfl rfl ?_
  refine g_iload Z dX3_ray_54 7 rfl ?_
  refine g_iconst Z dX3_ray_56 zi_0 ?_
  refine g_iconst Z dX3_ray_57 zi_1 ?_
  refine g_callVx (w' := [cO h 3 [.int (nI nb), .ref m1, .ref m2, .ref m3, .ref m4, .int (nI dn), .ref m5, .ref m6, .long (tg T)], cI E m1 4 (mN n), cI E m2 32 (gl K), cI E m3 32 (gl F), cI E m4 32 (gl G), cI E m5 12 D, cJ E m6 6 (tv T)]) Z (qX3_in E h m1 m2 m3 m4 m5 m6 nb dn T wh 0 1) iX3_in gX3_ray_X3_in ⟨rfl, rfl⟩ ⟨Nat.le_of_ble_eq_true rfl, Nat.le_of_ble_eq_true rfl⟩ dX3_ray_58 rfl rfl (Nat.le_of_ble_eq_true rfl) ⟨Nat.zero_le _, Nat.zero_le _⟩ [0] rfl rfl 0 rfl rfl rfl rfl rfl ?_
  refine g_ifb_ne (tgt := 68) Z dX3_ray_61 (by decide) (fun c_61 => ?_) (fun c_61 => absurd c_61 (fun z => z (in01 hh)))
  refine g_aload_n Z dX3_ray_68 0 rfl rfl ?_
  refine g_iload_n Z dX3_ray_69 1 rfl rfl ?_
  refine g_iload_n Z dX3_ray_70 2 rfl rfl ?_
  refine g_iconst Z dX3_ray_71 zi_0 ?_
  refine g_iload Z dX3_ray_72 5 rfl ?_
  refine g_callVx (w' := [cO h 3 [.int (nI nb), .ref m1, .ref m2, .ref m3, .ref m4, .int (nI dn), .ref m5, .ref m6, .long (tg (wrkF (K j) (F j) (G j) way (n j) 0 T1 p))], cI E m1 4 (mN n), cI E m2 32 (gl K), cI E m3 32 (gl F), cI E m4 32 (gl G), cI E m5 12 D, cJ E m6 6 (tv (wrkF (K j) (F j) (G j) way (n j) 0 T1 p))]) Z (qX3_work E h m1 m2 m3 m4 m5 m6 nb dn n K F G D T j 0 p way hnj (by omega) (by omega) (by omega)) iX3_work gX3_ray_X3_work ⟨rfl, rfl⟩ ⟨Nat.le_of_ble_eq_true rfl, Nat.le_of_ble_eq_true rfl⟩ dX3_ray_74 rfl rfl (Nat.le_of_ble_eq_true rfl) ⟨Nat.zero_le _, Nat.zero_le _⟩ [0, 1, 2, 3, 4, 5, 6] rfl rfl 0 rfl rfl rfl rfl rfl ?_
  refine g_aload_n Z dX3_ray_77 0 rfl rfl ?_
  refine g_iload Z dX3_ray_78 6 rfl ?_
  refine g_if_ne (tgt := 113) Z dX3_ray_80 (by decide) (fun c_80 => ?_) (fun c_80 => ?_)
  · refine g_aload_n Z dX3_ray_113 0 rfl rfl ?_
    refine g_get Z dX3_ray_114 0 rfl rfl nX3_ray_X3 7 (by decide) fX3_ray_32 rfl ?_
    refine g_iconst Z dX3_ray_117 zi_2 ?_
    refine g_laldE (v := tc (wrkF (K j) (F j) (G j) way (n j) 0 T1 p)) Z dX3_ray_118 6 rfl 2 rfl (by decide) rfl rfl ?_
    refine g_iload_n Z dX3_ray_119 3 rfl rfl ?_
    refine g_i2l Z dX3_ray_120 ?_
    refine g_lmul Z dX3_ray_121 ?_
    refine g_aload_n Z dX3_ray_122 0 rfl rfl ?_
    refine g_get Z dX3_ray_123 0 rfl rfl nX3_ray_X3 7 (by decide) fX3_ray_32 rfl ?_
    refine g_iconst Z dX3_ray_126 zi_3 ?_
    refine g_laldE (v := td (wrkF (K j) (F j) (G j) way (n j) 0 T1 p)) Z dX3_ray_127 6 rfl 3 rfl (by decide) rfl rfl ?_
    refine g_iload Z dX3_ray_128 4 rfl ?_
    refine g_i2l Z dX3_ray_130 ?_
    refine g_lmul Z dX3_ray_131 ?_
    refine g_ladd Z dX3_ray_132 ?_
    refine g_aload_n Z dX3_ray_133 0 rfl rfl ?_
    refine g_get Z dX3_ray_134 0 rfl rfl nX3_ray_X3 7 (by decide) fX3_ray_32 rfl ?_
    refine g_iconst Z dX3_ray_137 zi_5 ?_
    refine g_laldE (v := tf (wrkF (K j) (F j) (G j) way (n j) 0 T1 p)) Z dX3_ray_138 6 rfl 5 rfl (by decide) rfl rfl ?_
    refine g_ladd Z dX3_ray_139 ?_
    refine g_aload_n Z dX3_ray_140 0 rfl rfl ?_
    refine g_get Z dX3_ray_141 0 rfl rfl nX3_ray_X3 8 (by decide) fX3_ray_36 rfl ?_
    refine g_iload Z dX3_ray_144 7 rfl ?_
    refine g_callVx (w' := [cO h 3 [.int (nI nb), .ref m1, .ref m2, .ref m3, .ref m4, .int (nI dn), .ref m5, .ref m6, .long (tg (wrkF (K j) (F j) (G j) way (n j) 0 T1 p))], cI E m1 4 (mN n), cI E m2 32 (gl K), cI E m3 32 (gl F), cI E m4 32 (gl G), cI E m5 12 D, cJ E m6 6 (tv (wrkF (K j) (F j) (G j) way (n j) 0 T1 p))]) Z (qX3_lowest E h m1 m2 m3 m4 m5 m6 nb dn (wrkF (K j) (F j) (G j) way (n j) 0 T1 p) ((((tc (wrkF (K j) (F j) (G j) way (n j) 0 T1 p)) * (Int32.toInt64 x)) + ((td (wrkF (K j) (F j) (G j) way (n j) 0 T1 p)) * (Int32.toInt64 y))) + (tf (wrkF (K j) (F j) (G j) way (n j) 0 T1 p))) (tg (wrkF (K j) (F j) (G j) way (n j) 0 T1 p)) wh) iX3_lowest gX3_ray_X3_lowest ⟨rfl, rfl⟩ ⟨Nat.le_of_ble_eq_true rfl, Nat.le_of_ble_eq_true rfl⟩ dX3_ray_146 rfl rfl (Nat.le_of_ble_eq_true rfl) ⟨Nat.zero_le _, Nat.zero_le _⟩ [0] rfl rfl 0 rfl rfl rfl rfl rfl ?_
    exact g_lret Z dX3_ray_149 rfl ⟨Nat.zero_le _, Nat.zero_le _⟩ ⟨congrArg (fun v => some (Value.long v)) (by rw [rayM, if_neg c_80]; rfl), _, rfl⟩
  · refine g_aload_n Z dX3_ray_83 0 rfl rfl ?_
    refine g_get Z dX3_ray_84 0 rfl rfl nX3_ray_X3 7 (by decide) fX3_ray_32 rfl ?_
    refine g_iconst Z dX3_ray_87 zi_0 ?_
    refine g_laldE (v := ta (wrkF (K j) (F j) (G j) way (n j) 0 T1 p)) Z dX3_ray_88 6 rfl 0 rfl (by decide) rfl rfl ?_
    refine g_iload_n Z dX3_ray_89 3 rfl rfl ?_
    refine g_i2l Z dX3_ray_90 ?_
    refine g_lmul Z dX3_ray_91 ?_
    refine g_aload_n Z dX3_ray_92 0 rfl rfl ?_
    refine g_get Z dX3_ray_93 0 rfl rfl nX3_ray_X3 7 (by decide) fX3_ray_32 rfl ?_
    refine g_iconst Z dX3_ray_96 zi_1 ?_
    refine g_laldE (v := tb (wrkF (K j) (F j) (G j) way (n j) 0 T1 p)) Z dX3_ray_97 6 rfl 1 rfl (by decide) rfl rfl ?_
    refine g_iload Z dX3_ray_98 4 rfl ?_
    refine g_i2l Z dX3_ray_100 ?_
    refine g_lmul Z dX3_ray_101 ?_
    refine g_ladd Z dX3_ray_102 ?_
    refine g_aload_n Z dX3_ray_103 0 rfl rfl ?_
    refine g_get Z dX3_ray_104 0 rfl rfl nX3_ray_X3 7 (by decide) fX3_ray_32 rfl ?_
    refine g_iconst Z dX3_ray_107 zi_4 ?_
    refine g_laldE (v := te (wrkF (K j) (F j) (G j) way (n j) 0 T1 p)) Z dX3_ray_108 6 rfl 4 rfl (by decide) rfl rfl ?_
    refine g_ladd Z dX3_ray_109 ?_
    refine g_goto (tgt := 140) Z dX3_ray_110 (by decide) ?_
    refine g_aload_n Z dX3_ray_140 0 rfl rfl ?_
    refine g_get Z dX3_ray_141 0 rfl rfl nX3_ray_X3 8 (by decide) fX3_ray_36 rfl ?_
    refine g_iload Z dX3_ray_144 7 rfl ?_
    refine g_callVx (w' := [cO h 3 [.int (nI nb), .ref m1, .ref m2, .ref m3, .ref m4, .int (nI dn), .ref m5, .ref m6, .long (tg (wrkF (K j) (F j) (G j) way (n j) 0 T1 p))], cI E m1 4 (mN n), cI E m2 32 (gl K), cI E m3 32 (gl F), cI E m4 32 (gl G), cI E m5 12 D, cJ E m6 6 (tv (wrkF (K j) (F j) (G j) way (n j) 0 T1 p))]) Z (qX3_lowest E h m1 m2 m3 m4 m5 m6 nb dn (wrkF (K j) (F j) (G j) way (n j) 0 T1 p) ((((ta (wrkF (K j) (F j) (G j) way (n j) 0 T1 p)) * (Int32.toInt64 x)) + ((tb (wrkF (K j) (F j) (G j) way (n j) 0 T1 p)) * (Int32.toInt64 y))) + (te (wrkF (K j) (F j) (G j) way (n j) 0 T1 p))) (tg (wrkF (K j) (F j) (G j) way (n j) 0 T1 p)) wh) iX3_lowest gX3_ray_X3_lowest ⟨rfl, rfl⟩ ⟨Nat.le_of_ble_eq_true rfl, Nat.le_of_ble_eq_true rfl⟩ dX3_ray_146 rfl rfl (Nat.le_of_ble_eq_true rfl) ⟨Nat.zero_le _, Nat.zero_le _⟩ [0] rfl rfl 0 rfl rfl rfl rfl rfl ?_
    exact g_lret Z dX3_ray_149 rfl ⟨Nat.zero_le _, Nat.zero_le _⟩ ⟨congrArg (fun v => some (Value.long v)) (by rw [rayM, if_pos c_80]; rfl), _, rfl⟩

abbrev rX3_stopped : Room := { frames := 2, cells := 0, slots := 0, locals := 53 }
theorem iX3_stopped : zInfo yX3_stopped wsX3_stopped RX3 8 (some .int) 4 := ⟨_, _, rfl, by decide +kernel⟩
theorem nX3_stopped_X3 : ∀ w ∈ wsX30, w ∈ wsX3_stopped := by decide +kernel
theorem fX3_stopped_13 : Cond.fieldLink RX3 13 (TX3 1).1 (TX3 1).2.1 (TX3 1).2.2.1 ∈ wsX3_stopped := by decide +kernel
theorem fX3_stopped_32 : Cond.fieldLink RX3 32 (TX3 7).1 (TX3 7).2.1 (TX3 7).2.2.1 ∈ wsX3_stopped := by decide +kernel
theorem fX3_stopped_17 : Cond.fieldLink RX3 17 (TX3 2).1 (TX3 2).2.1 (TX3 2).2.2.1 ∈ wsX3_stopped := by decide +kernel
theorem fX3_stopped_20 : Cond.fieldLink RX3 20 (TX3 3).1 (TX3 3).2.1 (TX3 3).2.2.1 ∈ wsX3_stopped := by decide +kernel
theorem fX3_stopped_36 : Cond.fieldLink RX3 36 (TX3 8).1 (TX3 8).2.1 (TX3 8).2.2.1 ∈ wsX3_stopped := by decide +kernel
set_option maxHeartbeats 4000000 in
set_option maxRecDepth 100000 in
theorem lX3_stopped (E : zE) (h m1 m2 m3 m4 m5 m6 : Nat) (nb dn : Nat) (n : Nat → Nat) (K F G : Nat → Nat → Int32) (D : Nat → Int32) (T : TB) (j : Nat) (way x y : Int32) (hn : n j ≤ 8) (hj : j < 4) {J : zJ} (Z : zOk E J RX3 cX3_stopped 8 (some .int) wsX3_stopped rX3_stopped "stopped" (fun _ => True) (zx (some (.int ((stoM (K j) (F j) (G j) way (Int32.toInt64 x) (Int32.toInt64 y) 0 T1 (n j)).1))) ([cO h 3 [.int (nI nb), .ref m1, .ref m2, .ref m3, .ref m4, .int (nI dn), .ref m5, .ref m6, .long (tg ((stoM (K j) (F j) (G j) way (Int32.toInt64 x) (Int32.toInt64 y) 0 T1 (n j)).2))], cI E m1 4 (mN n), cI E m2 32 (gl K), cI E m3 32 (gl F), cI E m4 32 (gl G), cI E m5 12 D, cJ E m6 6 (tv ((stoM (K j) (F j) (G j) way (Int32.toInt64 x) (Int32.toInt64 y) 0 T1 (n j)).2))])))  : ∀ (d : Nat) (q : Nat) (T2 : TB), q + d = n j → stoM (K j) (F j) (G j) way (Int32.toInt64 x) (Int32.toInt64 y) q T2 d = stoM (K j) (F j) (G j) way (Int32.toInt64 x) (Int32.toInt64 y) 0 T1 (n j) → J 0 0 [cO h 3 [.int (nI nb), .ref m1, .ref m2, .ref m3, .ref m4, .int (nI dn), .ref m5, .ref m6, .long (tg T2)], cI E m1 4 (mN n), cI E m2 32 (gl K), cI E m3 32 (gl F), cI E m4 32 (gl G), cI E m5 12 D, cJ E m6 6 (tv T2)] 7 [(5, .int (nI q)), (0, .ref h), (1, .int (nI j)), (2, .int way), (3, .int x), (4, .int y)] [] := by
  intro d
  induction d with
  | zero =>
    intro q T2 h1 h2
    refine g_iload Z dX3_stopped_7 0 rfl ?_
    refine g_aload_n Z dX3_stopped_9 1 rfl rfl ?_
    refine g_get Z dX3_stopped_10 0 rfl rfl nX3_stopped_X3 1 (by decide) fX3_stopped_13 rfl ?_
    refine g_iload_n Z dX3_stopped_13 2 rfl rfl ?_
    refine g_ialdE (v := nI (n j)) Z dX3_stopped_14 1 rfl j rfl (by omega) rfl rfl ?_
    refine g_icmpN_ge (tgt := 121) Z dX3_stopped_15 (by decide) q (n j) rfl rfl (by omega) (by omega) (fun c_15 => ?_) (fun c_15 => absurd c_15 (by omega))
    refine g_iconst Z dX3_stopped_121 zi_m1 ?_
    exact g_iret Z dX3_stopped_122 rfl ⟨Nat.zero_le _, Nat.zero_le _⟩ (by rw [← h2]; exact ⟨rfl, rfl⟩)
  | succ d ih =>
    intro q T2 h1 h2
    refine g_iload Z dX3_stopped_7 0 rfl ?_
    refine g_aload_n Z dX3_stopped_9 1 rfl rfl ?_
    refine g_get Z dX3_stopped_10 0 rfl rfl nX3_stopped_X3 1 (by decide) fX3_stopped_13 rfl ?_
    refine g_iload_n Z dX3_stopped_13 2 rfl rfl ?_
    refine g_ialdE (v := nI (n j)) Z dX3_stopped_14 1 rfl j rfl (by omega) rfl rfl ?_
    refine g_icmpN_ge (tgt := 121) Z dX3_stopped_15 (by decide) q (n j) rfl rfl (by omega) (by omega) (fun c_15 => absurd c_15 (by omega)) (fun c_15 => ?_)
    refine g_aload_n Z dX3_stopped_18 1 rfl rfl ?_
    refine g_get Z dX3_stopped_19 0 rfl rfl nX3_stopped_X3 7 (by decide) fX3_stopped_32 rfl ?_
    refine g_iconst Z dX3_stopped_22 zi_0 ?_
    refine g_laldE (v := ta T2) Z dX3_stopped_23 6 rfl 0 rfl (by decide) rfl rfl ?_
    refine g_iload_n Z dX3_stopped_24 4 rfl rfl ?_
    refine g_i2l Z dX3_stopped_25 ?_
    refine g_lmul Z dX3_stopped_26 ?_
    refine g_aload_n Z dX3_stopped_27 1 rfl rfl ?_
    refine g_get Z dX3_stopped_28 0 rfl rfl nX3_stopped_X3 7 (by decide) fX3_stopped_32 rfl ?_
    refine g_iconst Z dX3_stopped_31 zi_1 ?_
    refine g_laldE (v := tb T2) Z dX3_stopped_32 6 rfl 1 rfl (by decide) rfl rfl ?_
    refine g_iload Z dX3_stopped_33 5 rfl ?_
    refine g_i2l Z dX3_stopped_35 ?_
    refine g_lmul Z dX3_stopped_36 ?_
    refine g_ladd Z dX3_stopped_37 ?_
    refine g_aload_n Z dX3_stopped_38 1 rfl rfl ?_
    refine g_get Z dX3_stopped_39 0 rfl rfl nX3_stopped_X3 7 (by decide) fX3_stopped_32 rfl ?_
    refine g_iconst Z dX3_stopped_42 zi_4 ?_
    refine g_laldE (v := te T2) Z dX3_stopped_43 6 rfl 4 rfl (by decide) rfl rfl ?_
    refine g_ladd Z dX3_stopped_44 ?_
    refine g_lstore (lv' := [(6, .long (farF T2 (Int32.toInt64 x) (Int32.toInt64 y))), (5, .int (nI q)), (0, .ref h), (1, .int (nI j)), (2, .int way), (3, .int x), (4, .int y)]) Z dX3_stopped_45 (by decide) rfl ?_
    refine g_aload_n Z dX3_stopped_47 2 rfl rfl ?_
    refine g_get Z dX3_stopped_48 0 rfl rfl nX3_stopped_X3 2 (by decide) fX3_stopped_17 rfl ?_
    refine g_bipush Z dX3_stopped_51 zb_8 ?_
    refine g_iload_n Z dX3_stopped_53 3 rfl rfl ?_
    refine g_imulE (z := nI (8 * j)) Z dX3_stopped_54 (pk_mul 8 j) ?_
    refine g_iload Z dX3_stopped_55 1 rfl ?_
    refine g_iaddE (z := nI (8 * j + q)) Z dX3_stopped_57 (nI_add (8 * j) q) ?_
    refine g_ialdE (v := K j q) Z dX3_stopped_58 2 rfl (8 * j + q) rfl (by omega) rfl (gl_at _ (j := j) (p := q) (by omega) (by omega)) ?_
    refine g_iconst Z dX3_stopped_59 zi_4 ?_
    refine g_icmp_ne (tgt := 103) Z dX3_stopped_60 (by decide) (fun c_60 => ?_) (fun c_60 => ?_)
    · refine g_aload_n Z dX3_stopped_103 2 rfl rfl ?_
      refine g_bipush Z dX3_stopped_104 zb_8 ?_
      refine g_iload_n Z dX3_stopped_106 3 rfl rfl ?_
      refine g_imulE (z := nI (8 * j)) Z dX3_stopped_107 (pk_mul 8 j) ?_
      refine g_iload Z dX3_stopped_108 1 rfl ?_
      refine g_iaddE (z := nI (8 * j + q)) Z dX3_stopped_110 (nI_add (8 * j) q) ?_
      refine g_iload_n Z dX3_stopped_111 4 rfl rfl ?_
      refine g_callVx (w' := [cO h 3 [.int (nI nb), .ref m1, .ref m2, .ref m3, .ref m4, .int (nI dn), .ref m5, .ref m6, .long (tg (goM (K j q) (F j q) (G j q) way T2))], cI E m1 4 (mN n), cI E m2 32 (gl K), cI E m3 32 (gl F), cI E m4 32 (gl G), cI E m5 12 D, cJ E m6 6 (tv (goM (K j q) (F j q) (G j q) way T2))]) Z (qX3_go E h m1 m2 m3 m4 m5 m6 nb dn n K F G D T2 j q (8 * j + q) way (by omega) (by omega) (by omega)) iX3_go gX3_stopped_X3_go ⟨rfl, rfl⟩ ⟨Nat.le_of_ble_eq_true rfl, Nat.le_of_ble_eq_true rfl⟩ dX3_stopped_112 rfl rfl (Nat.le_of_ble_eq_true rfl) ⟨Nat.zero_le _, Nat.zero_le _⟩ [0, 1, 2, 3, 4, 5, 6] rfl rfl 0 rfl rfl rfl rfl rfl ?_
      refine g_iinc (lv' := [(5, .int (nI (q + 1))), (6, .long (farF T2 (Int32.toInt64 x) (Int32.toInt64 y))), (0, .ref h), (1, .int (nI j)), (2, .int way), (3, .int x), (4, .int y)]) Z dX3_stopped_115 1 rfl (zinc _) (by decide) rfl ?_
      refine g_goto (tgt := 7) Z dX3_stopped_118 (by decide) ?_
      rw [stoM, if_neg (fun z => c_60 z.1)] at h2
      refine g_lv (lv2 := [(5, .int (nI (q + 1))), (0, .ref h), (1, .int (nI j)), (2, .int way), (3, .int x), (4, .int y)]) Z [0, 2, 3, 4, 5, 6] rfl ?_
      exact ih (q + 1) _ (by omega) h2
    · refine g_lload Z dX3_stopped_63 0 rfl ?_
      refine g_lconst Z dX3_stopped_65 zl_0 ?_
      refine g_lcmp_ge (tgt := 76) Z dX3_stopped_66 dX3_stopped_67 rfl (by decide) (fun c_67 => ?_) (fun c_67 => ?_)
      · refine g_lload Z dX3_stopped_76 0 rfl ?_
        refine g_aload_n Z dX3_stopped_78 2 rfl rfl ?_
        refine g_get Z dX3_stopped_79 0 rfl rfl nX3_stopped_X3 3 (by decide) fX3_stopped_20 rfl ?_
        refine g_bipush Z dX3_stopped_82 zb_8 ?_
        refine g_iload_n Z dX3_stopped_84 3 rfl rfl ?_
        refine g_imulE (z := nI (8 * j)) Z dX3_stopped_85 (pk_mul 8 j) ?_
        refine g_iload Z dX3_stopped_86 1 rfl ?_
        refine g_iaddE (z := nI (8 * j + q)) Z dX3_stopped_88 (nI_add (8 * j) q) ?_
        refine g_ialdE (v := F j q) Z dX3_stopped_89 3 rfl (8 * j + q) rfl (by omega) rfl (gl_at _ (j := j) (p := q) (by omega) (by omega)) ?_
        refine g_i2l Z dX3_stopped_90 ?_
        refine g_aload_n Z dX3_stopped_91 2 rfl rfl ?_
        refine g_get Z dX3_stopped_92 0 rfl rfl nX3_stopped_X3 8 (by decide) fX3_stopped_36 rfl ?_
        refine g_lmul Z dX3_stopped_95 ?_
        refine g_lcmp_le (tgt := 103) Z dX3_stopped_96 dX3_stopped_97 rfl (by decide) (fun c_97 => ?_) (fun c_97 => ?_)
        · refine g_aload_n Z dX3_stopped_103 2 rfl rfl ?_
          refine g_bipush Z dX3_stopped_104 zb_8 ?_
          refine g_iload_n Z dX3_stopped_106 3 rfl rfl ?_
          refine g_imulE (z := nI (8 * j)) Z dX3_stopped_107 (pk_mul 8 j) ?_
          refine g_iload Z dX3_stopped_108 1 rfl ?_
          refine g_iaddE (z := nI (8 * j + q)) Z dX3_stopped_110 (nI_add (8 * j) q) ?_
          refine g_iload_n Z dX3_stopped_111 4 rfl rfl ?_
          refine g_callVx (w' := [cO h 3 [.int (nI nb), .ref m1, .ref m2, .ref m3, .ref m4, .int (nI dn), .ref m5, .ref m6, .long (tg (goM (K j q) (F j q) (G j q) way T2))], cI E m1 4 (mN n), cI E m2 32 (gl K), cI E m3 32 (gl F), cI E m4 32 (gl G), cI E m5 12 D, cJ E m6 6 (tv (goM (K j q) (F j q) (G j q) way T2))]) Z (qX3_go E h m1 m2 m3 m4 m5 m6 nb dn n K F G D T2 j q (8 * j + q) way (by omega) (by omega) (by omega)) iX3_go gX3_stopped_X3_go ⟨rfl, rfl⟩ ⟨Nat.le_of_ble_eq_true rfl, Nat.le_of_ble_eq_true rfl⟩ dX3_stopped_112 rfl rfl (Nat.le_of_ble_eq_true rfl) ⟨Nat.zero_le _, Nat.zero_le _⟩ [0, 1, 2, 3, 4, 5, 6] rfl rfl 0 rfl rfl rfl rfl rfl ?_
          refine g_iinc (lv' := [(5, .int (nI (q + 1))), (6, .long (farF T2 (Int32.toInt64 x) (Int32.toInt64 y))), (0, .ref h), (1, .int (nI j)), (2, .int way), (3, .int x), (4, .int y)]) Z dX3_stopped_115 1 rfl (zinc _) (by decide) rfl ?_
          refine g_goto (tgt := 7) Z dX3_stopped_118 (by decide) ?_
          have e_a : absL (farF T2 (Int32.toInt64 x) (Int32.toInt64 y)) = farF T2 (Int32.toInt64 x) (Int32.toInt64 y) := absL_ge c_67
          rw [stoM, if_neg (fun z => z.2 (by rw [e_a]; exact c_97))] at h2
          refine g_lv (lv2 := [(5, .int (nI (q + 1))), (0, .ref h), (1, .int (nI j)), (2, .int way), (3, .int x), (4, .int y)]) Z [0, 2, 3, 4, 5, 6] rfl ?_
          exact ih (q + 1) _ (by omega) h2
        · refine g_iload Z dX3_stopped_100 1 rfl ?_
          exact g_iret Z dX3_stopped_102 rfl ⟨Nat.zero_le _, Nat.zero_le _⟩ (by have e_a : absL (farF T2 (Int32.toInt64 x) (Int32.toInt64 y)) = farF T2 (Int32.toInt64 x) (Int32.toInt64 y) := absL_ge c_67; rw [stoM, if_pos ⟨c_60, by rw [e_a]; exact c_97⟩] at h2; rw [← h2]; exact ⟨rfl, rfl⟩)
      · refine g_lload Z dX3_stopped_70 0 rfl ?_
        refine g_lneg Z dX3_stopped_72 ?_
        refine g_goto (tgt := 78) Z dX3_stopped_73 (by decide) ?_
        refine g_aload_n Z dX3_stopped_78 2 rfl rfl ?_
        refine g_get Z dX3_stopped_79 0 rfl rfl nX3_stopped_X3 3 (by decide) fX3_stopped_20 rfl ?_
        refine g_bipush Z dX3_stopped_82 zb_8 ?_
        refine g_iload_n Z dX3_stopped_84 3 rfl rfl ?_
        refine g_imulE (z := nI (8 * j)) Z dX3_stopped_85 (pk_mul 8 j) ?_
        refine g_iload Z dX3_stopped_86 1 rfl ?_
        refine g_iaddE (z := nI (8 * j + q)) Z dX3_stopped_88 (nI_add (8 * j) q) ?_
        refine g_ialdE (v := F j q) Z dX3_stopped_89 3 rfl (8 * j + q) rfl (by omega) rfl (gl_at _ (j := j) (p := q) (by omega) (by omega)) ?_
        refine g_i2l Z dX3_stopped_90 ?_
        refine g_aload_n Z dX3_stopped_91 2 rfl rfl ?_
        refine g_get Z dX3_stopped_92 0 rfl rfl nX3_stopped_X3 8 (by decide) fX3_stopped_36 rfl ?_
        refine g_lmul Z dX3_stopped_95 ?_
        refine g_lcmp_le (tgt := 103) Z dX3_stopped_96 dX3_stopped_97 rfl (by decide) (fun c_97 => ?_) (fun c_97 => ?_)
        · refine g_aload_n Z dX3_stopped_103 2 rfl rfl ?_
          refine g_bipush Z dX3_stopped_104 zb_8 ?_
          refine g_iload_n Z dX3_stopped_106 3 rfl rfl ?_
          refine g_imulE (z := nI (8 * j)) Z dX3_stopped_107 (pk_mul 8 j) ?_
          refine g_iload Z dX3_stopped_108 1 rfl ?_
          refine g_iaddE (z := nI (8 * j + q)) Z dX3_stopped_110 (nI_add (8 * j) q) ?_
          refine g_iload_n Z dX3_stopped_111 4 rfl rfl ?_
          refine g_callVx (w' := [cO h 3 [.int (nI nb), .ref m1, .ref m2, .ref m3, .ref m4, .int (nI dn), .ref m5, .ref m6, .long (tg (goM (K j q) (F j q) (G j q) way T2))], cI E m1 4 (mN n), cI E m2 32 (gl K), cI E m3 32 (gl F), cI E m4 32 (gl G), cI E m5 12 D, cJ E m6 6 (tv (goM (K j q) (F j q) (G j q) way T2))]) Z (qX3_go E h m1 m2 m3 m4 m5 m6 nb dn n K F G D T2 j q (8 * j + q) way (by omega) (by omega) (by omega)) iX3_go gX3_stopped_X3_go ⟨rfl, rfl⟩ ⟨Nat.le_of_ble_eq_true rfl, Nat.le_of_ble_eq_true rfl⟩ dX3_stopped_112 rfl rfl (Nat.le_of_ble_eq_true rfl) ⟨Nat.zero_le _, Nat.zero_le _⟩ [0, 1, 2, 3, 4, 5, 6] rfl rfl 0 rfl rfl rfl rfl rfl ?_
          refine g_iinc (lv' := [(5, .int (nI (q + 1))), (6, .long (farF T2 (Int32.toInt64 x) (Int32.toInt64 y))), (0, .ref h), (1, .int (nI j)), (2, .int way), (3, .int x), (4, .int y)]) Z dX3_stopped_115 1 rfl (zinc _) (by decide) rfl ?_
          refine g_goto (tgt := 7) Z dX3_stopped_118 (by decide) ?_
          have e_a : absL (farF T2 (Int32.toInt64 x) (Int32.toInt64 y)) = -(farF T2 (Int32.toInt64 x) (Int32.toInt64 y)) := absL_lt c_67
          rw [stoM, if_neg (fun z => z.2 (by rw [e_a]; exact c_97))] at h2
          refine g_lv (lv2 := [(5, .int (nI (q + 1))), (0, .ref h), (1, .int (nI j)), (2, .int way), (3, .int x), (4, .int y)]) Z [0, 2, 3, 4, 5, 6] rfl ?_
          exact ih (q + 1) _ (by omega) h2
        · refine g_iload Z dX3_stopped_100 1 rfl ?_
          exact g_iret Z dX3_stopped_102 rfl ⟨Nat.zero_le _, Nat.zero_le _⟩ (by have e_a : absL (farF T2 (Int32.toInt64 x) (Int32.toInt64 y)) = -(farF T2 (Int32.toInt64 x) (Int32.toInt64 y)) := absL_lt c_67; rw [stoM, if_pos ⟨c_60, by rw [e_a]; exact c_97⟩] at h2; rw [← h2]; exact ⟨rfl, rfl⟩)
set_option maxHeartbeats 4000000 in
set_option maxRecDepth 100000 in
theorem qX3_stopped (E : zE) (h m1 m2 m3 m4 m5 m6 : Nat) (nb dn : Nat) (n : Nat → Nat) (K F G : Nat → Nat → Int32) (D : Nat → Int32) (T : TB) (j : Nat) (way x y : Int32) (hn : n j ≤ 8) (hj : j < 4) : zF E yX3_stopped wsX3_stopped rX3_stopped [.ref h, .int (nI j), .int way, .int x, .int y] [cO h 3 [.int (nI nb), .ref m1, .ref m2, .ref m3, .ref m4, .int (nI dn), .ref m5, .ref m6, .long (tg T)], cI E m1 4 (mN n), cI E m2 32 (gl K), cI E m3 32 (gl F), cI E m4 32 (gl G), cI E m5 12 D, cJ E m6 6 (tv T)] (zx (some (.int ((stoM (K j) (F j) (G j) way (Int32.toInt64 x) (Int32.toInt64 y) 0 T1 (n j)).1))) ([cO h 3 [.int (nI nb), .ref m1, .ref m2, .ref m3, .ref m4, .int (nI dn), .ref m5, .ref m6, .long (tg ((stoM (K j) (F j) (G j) way (Int32.toInt64 x) (Int32.toInt64 y) 0 T1 (n j)).2))], cI E m1 4 (mN n), cI E m2 32 (gl K), cI E m3 32 (gl F), cI E m4 32 (gl G), cI E m5 12 D, cJ E m6 6 (tv ((stoM (K j) (F j) (G j) way (Int32.toInt64 x) (Int32.toInt64 y) 0 T1 (n j)).2))])) := by
  refine z_start RX3 "stopped" (by decide) rfl rfl rfl (Nat.le_of_ble_eq_true rfl) ?_
  intro J Z
  refine g_eq Z (lv2 := [(0, .ref h), (1, .int (nI j)), (2, .int way), (3, .int x), (4, .int y)]) rfl rfl rfl ?_
  refine g_aload_n Z dX3_stopped_0 0 rfl rfl ?_
  refine g_callVx (w' := [cO h 3 [.int (nI nb), .ref m1, .ref m2, .ref m3, .ref m4, .int (nI dn), .ref m5, .ref m6, .long (tg T1)], cI E m1 4 (mN n), cI E m2 32 (gl K), cI E m3 32 (gl F), cI E m4 32 (gl G), cI E m5 12 D, cJ E m6 6 (tv T1)]) Z (qX3_begin E h m1 m2 m3 m4 m5 m6 nb dn T) iX3_begin gX3_stopped_X3_begin ⟨rfl, rfl⟩ ⟨Nat.le_of_ble_eq_true rfl, Nat.le_of_ble_eq_true rfl⟩ dX3_stopped_1 rfl rfl (Nat.le_of_ble_eq_true rfl) ⟨Nat.zero_le _, Nat.zero_le _⟩ [0, 6] rfl rfl 0 rfl rfl rfl rfl rfl ?_
  refine g_iconst Z dX3_stopped_4 zi_0 ?_
  refine g_istore (lv' := [(5, .int 0), (0, .ref h), (1, .int (nI j)), (2, .int way), (3, .int x), (4, .int y)]) Z dX3_stopped_5 (by decide) rfl ?_
  exact lX3_stopped E h m1 m2 m3 m4 m5 m6 nb dn n K F G D T j way x y hn hj Z (n j) 0 T1 (by omega) rfl

abbrev rX3_stops : Room := { frames := 3, cells := 0, slots := 0, locals := 80 }
theorem iX3_stops : zInfo yX3_stops wsX3_stops RX3 5 (some .int) 4 := ⟨_, _, rfl, by decide +kernel⟩
set_option maxHeartbeats 4000000 in
set_option maxRecDepth 100000 in
theorem qX3_stopsN (E : zE) (h m1 m2 m3 m4 m5 m6 : Nat) (nb dn : Nat) (n : Nat → Nat) (K F G : Nat → Nat → Int32) (D : Nat → Int32) (T : TB) (b way x y : Int32) (hnb : nb ≤ 4) (hn : ∀ b, n b ≤ 8) (hv : ¬ (inB nb b ∧ (way = 0 ∨ way = 1) ∧ (ner x ∧ ner y))) : zF E yX3_stops wsX3_stops rX3_stops [.ref h, .int b, .int way, .int x, .int y] [cO h 3 [.int (nI nb), .ref m1, .ref m2, .ref m3, .ref m4, .int (nI dn), .ref m5, .ref m6, .long (tg T)], cI E m1 4 (mN n), cI E m2 32 (gl K), cI E m3 32 (gl F), cI E m4 32 (gl G), cI E m5 12 D, cJ E m6 6 (tv T)] (zx (some (.int (-1))) ([cO h 3 [.int (nI nb), .ref m1, .ref m2, .ref m3, .ref m4, .int (nI dn), .ref m5, .ref m6, .long (tg T)], cI E m1 4 (mN n), cI E m2 32 (gl K), cI E m3 32 (gl F), cI E m4 32 (gl G), cI E m5 12 D, cJ E m6 6 (tv T)])) := by
  refine z_start RX3 "stops" (by decide) rfl rfl rfl (Nat.le_of_ble_eq_true rfl) ?_
  intro J Z
  refine g_eq Z (lv2 := [(0, .ref h), (1, .int b), (2, .int way), (3, .int x), (4, .int y)]) rfl rfl rfl ?_
  refine g_aload_n Z dX3_stops_0 0 rfl rfl ?_
  refine g_iload_n Z dX3_stops_1 1 rfl rfl ?_
  refine g_callVx (w' := [cO h 3 [.int (nI nb), .ref m1, .ref m2, .ref m3, .ref m4, .int (nI dn), .ref m5, .ref m6, .long (tg T)], cI E m1 4 (mN n), cI E m2 32 (gl K), cI E m3 32 (gl F), cI E m4 32 (gl G), cI E m5 12 D, cJ E m6 6 (tv T)]) Z (qX3_isBench E h m1 m2 m3 m4 m5 m6 nb dn T b (by omega)) iX3_isBench gX3_stops_X3_isBench ⟨rfl, rfl⟩ ⟨Nat.le_of_ble_eq_true rfl, Nat.le_of_ble_eq_true rfl⟩ dX3_stops_2 rfl rfl (Nat.le_of_ble_eq_true rfl) ⟨Nat.zero_le _, Nat.zero_le _⟩ [0] rfl rfl 0 rfl rfl rfl rfl rfl ?_
  refine g_ifb_eq (tgt := 38) Z dX3_stops_5 (by decide) (fun c_5 => ?_) (fun c_5 => ?_)
  · refine g_iconst Z dX3_stops_38 zi_m1 ?_
    exact g_iret Z dX3_stops_39 rfl ⟨Nat.zero_le _, Nat.zero_le _⟩ ⟨rfl, rfl⟩
  · refine g_aload_n Z dX3_stops_8 0 rfl rfl ?_
    refine g_iload_n Z dX3_stops_9 2 rfl rfl ?_
    refine g_callVx (w' := [cO h 3 [.int (nI nb), .ref m1, .ref m2, .ref m3, .ref m4, .int (nI dn), .ref m5, .ref m6, .long (tg T)], cI E m1 4 (mN n), cI E m2 32 (gl K), cI E m3 32 (gl F), cI E m4 32 (gl G), cI E m5 12 D, cJ E m6 6 (tv T)]) Z (qX3_isWay E h m1 m2 m3 m4 m5 m6 nb dn T way) iX3_isWay gX3_stops_X3_isWay ⟨rfl, rfl⟩ ⟨Nat.le_of_ble_eq_true rfl, Nat.le_of_ble_eq_true rfl⟩ dX3_stops_10 rfl rfl (Nat.le_of_ble_eq_true rfl) ⟨Nat.zero_le _, Nat.zero_le _⟩ [0] rfl rfl 0 rfl rfl rfl rfl rfl ?_
    refine g_ifb_eq (tgt := 38) Z dX3_stops_13 (by decide) (fun c_13 => ?_) (fun c_13 => ?_)
    · refine g_iconst Z dX3_stops_38 zi_m1 ?_
      exact g_iret Z dX3_stops_39 rfl ⟨Nat.zero_le _, Nat.zero_le _⟩ ⟨rfl, rfl⟩
    · refine g_aload_n Z dX3_stops_16 0 rfl rfl ?_
      refine g_iload_n Z dX3_stops_17 3 rfl rfl ?_
      refine g_iload Z dX3_stops_18 4 rfl ?_
      refine g_callVx (w' := [cO h 3 [.int (nI nb), .ref m1, .ref m2, .ref m3, .ref m4, .int (nI dn), .ref m5, .ref m6, .long (tg T)], cI E m1 4 (mN n), cI E m2 32 (gl K), cI E m3 32 (gl F), cI E m4 32 (gl G), cI E m5 12 D, cJ E m6 6 (tv T)]) Z (qX3_isRay E h m1 m2 m3 m4 m5 m6 nb dn T x y) iX3_isRay gX3_stops_X3_isRay ⟨rfl, rfl⟩ ⟨Nat.le_of_ble_eq_true rfl, Nat.le_of_ble_eq_true rfl⟩ dX3_stops_20 rfl rfl (Nat.le_of_ble_eq_true rfl) ⟨Nat.zero_le _, Nat.zero_le _⟩ [0] rfl rfl 0 rfl rfl rfl rfl rfl ?_
      refine g_ifb_eq (tgt := 38) Z dX3_stops_23 (by decide) (fun c_23 => ?_) (fun c_23 => ?_)
      · refine g_iconst Z dX3_stops_38 zi_m1 ?_
        exact g_iret Z dX3_stops_39 rfl ⟨Nat.zero_le _, Nat.zero_le _⟩ ⟨rfl, rfl⟩
      · exact absurd ⟨c_5, c_13, c_23⟩ hv


set_option maxHeartbeats 4000000 in
set_option maxRecDepth 100000 in
theorem qX3_stops (E : zE) (h m1 m2 m3 m4 m5 m6 : Nat) (nb dn : Nat) (n : Nat → Nat) (K F G : Nat → Nat → Int32) (D : Nat → Int32) (T : TB) (j : Nat) (way x y : Int32) (hnb : nb ≤ 4) (hn : ∀ b, n b ≤ 8) (hj : j < nb) (hw : way = 0 ∨ way = 1) (hx : ner x ∧ ner y) : zF E yX3_stops wsX3_stops rX3_stops [.ref h, .int (nI j), .int way, .int x, .int y] [cO h 3 [.int (nI nb), .ref m1, .ref m2, .ref m3, .ref m4, .int (nI dn), .ref m5, .ref m6, .long (tg T)], cI E m1 4 (mN n), cI E m2 32 (gl K), cI E m3 32 (gl F), cI E m4 32 (gl G), cI E m5 12 D, cJ E m6 6 (tv T)] (fun ov wv => ov = some (.int ((stoM (K j) (F j) (G j) way (Int32.toInt64 x) (Int32.toInt64 y) 0 T1 (n j)).1)) ∧ ∃ T2 : TB, wv = [cO h 3 [.int (nI nb), .ref m1, .ref m2, .ref m3, .ref m4, .int (nI dn), .ref m5, .ref m6, .long (tg T2)], cI E m1 4 (mN n), cI E m2 32 (gl K), cI E m3 32 (gl F), cI E m4 32 (gl G), cI E m5 12 D, cJ E m6 6 (tv T2)]) := by
  refine z_start RX3 "stops" (by decide) rfl rfl rfl (Nat.le_of_ble_eq_true rfl) ?_
  intro J Z
  refine g_eq Z (lv2 := [(0, .ref h), (1, .int (nI j)), (2, .int way), (3, .int x), (4, .int y)]) rfl rfl rfl ?_
  have hnj := hn j
  refine g_aload_n Z dX3_stops_0 0 rfl rfl ?_
  refine g_iload_n Z dX3_stops_1 1 rfl rfl ?_
  refine g_callVx (w' := [cO h 3 [.int (nI nb), .ref m1, .ref m2, .ref m3, .ref m4, .int (nI dn), .ref m5, .ref m6, .long (tg T)], cI E m1 4 (mN n), cI E m2 32 (gl K), cI E m3 32 (gl F), cI E m4 32 (gl G), cI E m5 12 D, cJ E m6 6 (tv T)]) Z (qX3_isBench E h m1 m2 m3 m4 m5 m6 nb dn T (nI j) (by omega)) iX3_isBench gX3_stops_X3_isBench ⟨rfl, rfl⟩ ⟨Nat.le_of_ble_eq_true rfl, Nat.le_of_ble_eq_true rfl⟩ dX3_stops_2 rfl rfl (Nat.le_of_ble_eq_true rfl) ⟨Nat.zero_le _, Nat.zero_le _⟩ [0] rfl rfl 0 rfl rfl rfl rfl rfl ?_
  refine g_ifb_eq (tgt := 38) Z dX3_stops_5 (by decide) (fun c_5 => absurd c_5 (fun q => q (inB_nI hj (by omega)))) (fun c_5 => ?_)
  refine g_aload_n Z dX3_stops_8 0 rfl rfl ?_
  refine g_iload_n Z dX3_stops_9 2 rfl rfl ?_
  refine g_callVx (w' := [cO h 3 [.int (nI nb), .ref m1, .ref m2, .ref m3, .ref m4, .int (nI dn), .ref m5, .ref m6, .long (tg T)], cI E m1 4 (mN n), cI E m2 32 (gl K), cI E m3 32 (gl F), cI E m4 32 (gl G), cI E m5 12 D, cJ E m6 6 (tv T)]) Z (qX3_isWay E h m1 m2 m3 m4 m5 m6 nb dn T way) iX3_isWay gX3_stops_X3_isWay ⟨rfl, rfl⟩ ⟨Nat.le_of_ble_eq_true rfl, Nat.le_of_ble_eq_true rfl⟩ dX3_stops_10 rfl rfl (Nat.le_of_ble_eq_true rfl) ⟨Nat.zero_le _, Nat.zero_le _⟩ [0] rfl rfl 0 rfl rfl rfl rfl rfl ?_
  refine g_ifb_eq (tgt := 38) Z dX3_stops_13 (by decide) (fun c_13 => absurd c_13 (fun q => q hw)) (fun c_13 => ?_)
  refine g_aload_n Z dX3_stops_16 0 rfl rfl ?_
  refine g_iload_n Z dX3_stops_17 3 rfl rfl ?_
  refine g_iload Z dX3_stops_18 4 rfl ?_
  refine g_callVx (w' := [cO h 3 [.int (nI nb), .ref m1, .ref m2, .ref m3, .ref m4, .int (nI dn), .ref m5, .ref m6, .long (tg T)], cI E m1 4 (mN n), cI E m2 32 (gl K), cI E m3 32 (gl F), cI E m4 32 (gl G), cI E m5 12 D, cJ E m6 6 (tv T)]) Z (qX3_isRay E h m1 m2 m3 m4 m5 m6 nb dn T x y) iX3_isRay gX3_stops_X3_isRay ⟨rfl, rfl⟩ ⟨Nat.le_of_ble_eq_true rfl, Nat.le_of_ble_eq_true rfl⟩ dX3_stops_20 rfl rfl (Nat.le_of_ble_eq_true rfl) ⟨Nat.zero_le _, Nat.zero_le _⟩ [0] rfl rfl 0 rfl rfl rfl rfl rfl ?_
  refine g_ifb_eq (tgt := 38) Z dX3_stops_23 (by decide) (fun c_23 => absurd c_23 (fun z => z hx)) (fun c_23 => ?_)
  refine g_aload_n Z dX3_stops_26 0 rfl rfl ?_
  refine g_iload_n Z dX3_stops_27 1 rfl rfl ?_
  refine g_iload_n Z dX3_stops_28 2 rfl rfl ?_
  refine g_iload_n Z dX3_stops_29 3 rfl rfl ?_
  refine g_iload Z dX3_stops_30 4 rfl ?_
  refine g_callVx (w' := [cO h 3 [.int (nI nb), .ref m1, .ref m2, .ref m3, .ref m4, .int (nI dn), .ref m5, .ref m6, .long (tg ((stoM (K j) (F j) (G j) way (Int32.toInt64 x) (Int32.toInt64 y) 0 T1 (n j)).2))], cI E m1 4 (mN n), cI E m2 32 (gl K), cI E m3 32 (gl F), cI E m4 32 (gl G), cI E m5 12 D, cJ E m6 6 (tv ((stoM (K j) (F j) (G j) way (Int32.toInt64 x) (Int32.toInt64 y) 0 T1 (n j)).2))]) Z (qX3_stopped E h m1 m2 m3 m4 m5 m6 nb dn n K F G D T j way x y hnj (by omega)) iX3_stopped gX3_stops_X3_stopped ⟨rfl, rfl⟩ ⟨Nat.le_of_ble_eq_true rfl, Nat.le_of_ble_eq_true rfl⟩ dX3_stops_32 rfl rfl (Nat.le_of_ble_eq_true rfl) ⟨Nat.zero_le _, Nat.zero_le _⟩ [0, 1, 2, 3, 4, 5, 6] rfl rfl 0 rfl rfl rfl rfl rfl ?_
  refine g_goto (tgt := 39) Z dX3_stops_35 (by decide) ?_
  exact g_iret Z dX3_stops_39 rfl ⟨Nat.zero_le _, Nat.zero_le _⟩ ⟨rfl, _, rfl⟩

abbrev rX3_full : Room := { frames := 3, cells := 0, slots := 0, locals := 80 }
theorem iX3_full : zInfo yX3_full wsX3_full RX3 4 (some .int) 2 := ⟨_, _, rfl, by decide +kernel⟩
set_option maxHeartbeats 4000000 in
set_option maxRecDepth 100000 in
theorem qX3_fullN (E : zE) (h m1 m2 m3 m4 m5 m6 : Nat) (nb dn : Nat) (n : Nat → Nat) (K F G : Nat → Nat → Int32) (D : Nat → Int32) (T : TB) (b way : Int32) (hnb : nb ≤ 4) (hn : ∀ b, n b ≤ 8) (hv : ¬ (inB nb b ∧ (way = 0 ∨ way = 1))) : zF E yX3_full wsX3_full rX3_full [.ref h, .int b, .int way] [cO h 3 [.int (nI nb), .ref m1, .ref m2, .ref m3, .ref m4, .int (nI dn), .ref m5, .ref m6, .long (tg T)], cI E m1 4 (mN n), cI E m2 32 (gl K), cI E m3 32 (gl F), cI E m4 32 (gl G), cI E m5 12 D, cJ E m6 6 (tv T)] (zx (some (.int (-1))) ([cO h 3 [.int (nI nb), .ref m1, .ref m2, .ref m3, .ref m4, .int (nI dn), .ref m5, .ref m6, .long (tg T)], cI E m1 4 (mN n), cI E m2 32 (gl K), cI E m3 32 (gl F), cI E m4 32 (gl G), cI E m5 12 D, cJ E m6 6 (tv T)])) := by
  refine z_start RX3 "full" (by decide) rfl rfl rfl (Nat.le_of_ble_eq_true rfl) ?_
  intro J Z
  refine g_eq Z (lv2 := [(0, .ref h), (1, .int b), (2, .int way)]) rfl rfl rfl ?_
  refine g_aload_n Z dX3_full_0 0 rfl rfl ?_
  refine g_iload_n Z dX3_full_1 1 rfl rfl ?_
  refine g_callVx (w' := [cO h 3 [.int (nI nb), .ref m1, .ref m2, .ref m3, .ref m4, .int (nI dn), .ref m5, .ref m6, .long (tg T)], cI E m1 4 (mN n), cI E m2 32 (gl K), cI E m3 32 (gl F), cI E m4 32 (gl G), cI E m5 12 D, cJ E m6 6 (tv T)]) Z (qX3_isBench E h m1 m2 m3 m4 m5 m6 nb dn T b (by omega)) iX3_isBench gX3_full_X3_isBench ⟨rfl, rfl⟩ ⟨Nat.le_of_ble_eq_true rfl, Nat.le_of_ble_eq_true rfl⟩ dX3_full_2 rfl rfl (Nat.le_of_ble_eq_true rfl) ⟨Nat.zero_le _, Nat.zero_le _⟩ [0] rfl rfl 0 rfl rfl rfl rfl rfl ?_
  refine g_ifb_eq (tgt := 16) Z dX3_full_5 (by decide) (fun c_5 => ?_) (fun c_5 => ?_)
  · refine g_iconst Z dX3_full_16 zi_m1 ?_
    exact g_iret Z dX3_full_17 rfl ⟨Nat.zero_le _, Nat.zero_le _⟩ ⟨rfl, rfl⟩
  · refine g_aload_n Z dX3_full_8 0 rfl rfl ?_
    refine g_iload_n Z dX3_full_9 2 rfl rfl ?_
    refine g_callVx (w' := [cO h 3 [.int (nI nb), .ref m1, .ref m2, .ref m3, .ref m4, .int (nI dn), .ref m5, .ref m6, .long (tg T)], cI E m1 4 (mN n), cI E m2 32 (gl K), cI E m3 32 (gl F), cI E m4 32 (gl G), cI E m5 12 D, cJ E m6 6 (tv T)]) Z (qX3_isWay E h m1 m2 m3 m4 m5 m6 nb dn T way) iX3_isWay gX3_full_X3_isWay ⟨rfl, rfl⟩ ⟨Nat.le_of_ble_eq_true rfl, Nat.le_of_ble_eq_true rfl⟩ dX3_full_10 rfl rfl (Nat.le_of_ble_eq_true rfl) ⟨Nat.zero_le _, Nat.zero_le _⟩ [0] rfl rfl 0 rfl rfl rfl rfl rfl ?_
    refine g_ifb_ne (tgt := 18) Z dX3_full_13 (by decide) (fun c_13 => ?_) (fun c_13 => ?_)
    · exact absurd ⟨c_5, c_13⟩ hv
    · refine g_iconst Z dX3_full_16 zi_m1 ?_
      exact g_iret Z dX3_full_17 rfl ⟨Nat.zero_le _, Nat.zero_le _⟩ ⟨rfl, rfl⟩

set_option maxHeartbeats 4000000 in
set_option maxRecDepth 100000 in
theorem lX3_full (E : zE) (h m1 m2 m3 m4 m5 m6 : Nat) (nb dn : Nat) (n : Nat → Nat) (K F G : Nat → Nat → Int32) (D : Nat → Int32) (T : TB) (j : Nat) (way : Int32) (hnb : nb ≤ 4) (hn : ∀ b, n b ≤ 8) (hj : j < nb) (hw : way = 0 ∨ way = 1) {J : zJ} (Z : zOk E J RX3 cX3_full 4 (some .int) wsX3_full rX3_full "full" (fun _ => True) (fun ov wv => ov = some (.int (fulR (K j) (F j) (G j) way (n j))) ∧ ∃ T2 : TB, wv = [cO h 3 [.int (nI nb), .ref m1, .ref m2, .ref m3, .ref m4, .int (nI dn), .ref m5, .ref m6, .long (tg T2)], cI E m1 4 (mN n), cI E m2 32 (gl K), cI E m3 32 (gl F), cI E m4 32 (gl G), cI E m5 12 D, cJ E m6 6 (tv T2)]))  : ∀ (d : Nat) (q : Nat) (T2 : TB), q + d = 1001 → fulM (K j) (F j) (G j) way (n j) q d = fulR (K j) (F j) (G j) way (n j) → J 0 0 [cO h 3 [.int (nI nb), .ref m1, .ref m2, .ref m3, .ref m4, .int (nI dn), .ref m5, .ref m6, .long (tg T2)], cI E m1 4 (mN n), cI E m2 32 (gl K), cI E m3 32 (gl F), cI E m4 32 (gl G), cI E m5 12 D, cJ E m6 6 (tv T2)] 20 [(3, .int (nI q)), (0, .ref h), (1, .int (nI j)), (2, .int way)] [] := by
  intro d
  induction d with
  | zero =>
    intro q T2 h1 h2
    refine g_iload_n Z dX3_full_20 0 rfl rfl ?_
    refine g_sipush Z dX3_full_21 zs_1000 ?_
    refine g_icmpN_gt (tgt := 45) Z dX3_full_24 (by decide) q 1000 rfl rfl (by omega) (by omega) (fun c_24 => ?_) (fun c_24 => absurd c_24 (by omega))
    refine g_iload_n Z dX3_full_45 0 rfl rfl ?_
    refine g_iconst Z dX3_full_46 zi_1 ?_
    refine g_isub Z dX3_full_47 ?_
    exact g_iret Z dX3_full_48 rfl ⟨Nat.zero_le _, Nat.zero_le _⟩ ⟨by rw [← h2]; rfl, _, rfl⟩
  | succ d ih =>
    intro q T2 h1 h2
    have hnj := hn j
    refine g_iload_n Z dX3_full_20 0 rfl rfl ?_
    refine g_sipush Z dX3_full_21 zs_1000 ?_
    refine g_icmpN_gt (tgt := 45) Z dX3_full_24 (by decide) q 1000 rfl rfl (by omega) (by omega) (fun c_24 => absurd c_24 (by omega)) (fun c_24 => ?_)
    refine g_aload_n Z dX3_full_27 1 rfl rfl ?_
    refine g_iload_n Z dX3_full_28 2 rfl rfl ?_
    refine g_iload_n Z dX3_full_29 3 rfl rfl ?_
    refine g_iconst Z dX3_full_30 zi_0 ?_
    refine g_iload_n Z dX3_full_31 0 rfl rfl ?_
    refine g_callVx (w' := [cO h 3 [.int (nI nb), .ref m1, .ref m2, .ref m3, .ref m4, .int (nI dn), .ref m5, .ref m6, .long (tg ((stoM (K j) (F j) (G j) way (Int32.toInt64 0) (Int32.toInt64 (nI q)) 0 T1 (n j)).2))], cI E m1 4 (mN n), cI E m2 32 (gl K), cI E m3 32 (gl F), cI E m4 32 (gl G), cI E m5 12 D, cJ E m6 6 (tv ((stoM (K j) (F j) (G j) way (Int32.toInt64 0) (Int32.toInt64 (nI q)) 0 T1 (n j)).2))]) Z (qX3_stopped E h m1 m2 m3 m4 m5 m6 nb dn n K F G D T2 j way 0 (nI q) hnj (by omega)) iX3_stopped gX3_full_X3_stopped ⟨rfl, rfl⟩ ⟨Nat.le_of_ble_eq_true rfl, Nat.le_of_ble_eq_true rfl⟩ dX3_full_32 rfl rfl (Nat.le_of_ble_eq_true rfl) ⟨Nat.zero_le _, Nat.zero_le _⟩ [0, 1, 2, 3, 4, 5, 6] rfl rfl 0 rfl rfl rfl rfl rfl ?_
    refine g_iconst Z dX3_full_35 zi_m1 ?_
    refine g_icmp_ne (tgt := 45) Z dX3_full_36 (by decide) (fun c_36 => ?_) (fun c_36 => ?_)
    · rw [fulM, if_neg c_36] at h2
      refine g_iload_n Z dX3_full_45 0 rfl rfl ?_
      refine g_iconst Z dX3_full_46 zi_1 ?_
      refine g_isub Z dX3_full_47 ?_
      exact g_iret Z dX3_full_48 rfl ⟨Nat.zero_le _, Nat.zero_le _⟩ ⟨by rw [← h2], _, rfl⟩
    · refine g_iinc (lv' := [(3, .int (nI (q + 1))), (0, .ref h), (1, .int (nI j)), (2, .int way)]) Z dX3_full_39 0 rfl (zinc _) (by decide) rfl ?_
      refine g_goto (tgt := 20) Z dX3_full_42 (by decide) ?_
      rw [fulM, if_pos c_36] at h2
      refine g_lv (lv2 := [(3, .int (nI (q + 1))), (0, .ref h), (1, .int (nI j)), (2, .int way)]) Z [0, 1, 2, 3] rfl ?_
      exact ih (q + 1) _ (by omega) h2
set_option maxHeartbeats 4000000 in
set_option maxRecDepth 100000 in
theorem qX3_full (E : zE) (h m1 m2 m3 m4 m5 m6 : Nat) (nb dn : Nat) (n : Nat → Nat) (K F G : Nat → Nat → Int32) (D : Nat → Int32) (T : TB) (j : Nat) (way : Int32) (hnb : nb ≤ 4) (hn : ∀ b, n b ≤ 8) (hj : j < nb) (hw : way = 0 ∨ way = 1) : zF E yX3_full wsX3_full rX3_full [.ref h, .int (nI j), .int way] [cO h 3 [.int (nI nb), .ref m1, .ref m2, .ref m3, .ref m4, .int (nI dn), .ref m5, .ref m6, .long (tg T)], cI E m1 4 (mN n), cI E m2 32 (gl K), cI E m3 32 (gl F), cI E m4 32 (gl G), cI E m5 12 D, cJ E m6 6 (tv T)] (fun ov wv => ov = some (.int (fulR (K j) (F j) (G j) way (n j))) ∧ ∃ T2 : TB, wv = [cO h 3 [.int (nI nb), .ref m1, .ref m2, .ref m3, .ref m4, .int (nI dn), .ref m5, .ref m6, .long (tg T2)], cI E m1 4 (mN n), cI E m2 32 (gl K), cI E m3 32 (gl F), cI E m4 32 (gl G), cI E m5 12 D, cJ E m6 6 (tv T2)]) := by
  refine z_start RX3 "full" (by decide) rfl rfl rfl (Nat.le_of_ble_eq_true rfl) ?_
  intro J Z
  refine g_eq Z (lv2 := [(0, .ref h), (1, .int (nI j)), (2, .int way)]) rfl rfl rfl ?_
  have hnj := hn j
  refine g_aload_n Z dX3_full_0 0 rfl rfl ?_
  refine g_iload_n Z dX3_full_1 1 rfl rfl ?_
  refine g_callVx (w' := [cO h 3 [.int (nI nb), .ref m1, .ref m2, .ref m3, .ref m4, .int (nI dn), .ref m5, .ref m6, .long (tg T)], cI E m1 4 (mN n), cI E m2 32 (gl K), cI E m3 32 (gl F), cI E m4 32 (gl G), cI E m5 12 D, cJ E m6 6 (tv T)]) Z (qX3_isBench E h m1 m2 m3 m4 m5 m6 nb dn T (nI j) (by omega)) iX3_isBench gX3_full_X3_isBench ⟨rfl, rfl⟩ ⟨Nat.le_of_ble_eq_true rfl, Nat.le_of_ble_eq_true rfl⟩ dX3_full_2 rfl rfl (Nat.le_of_ble_eq_true rfl) ⟨Nat.zero_le _, Nat.zero_le _⟩ [0] rfl rfl 0 rfl rfl rfl rfl rfl ?_
  refine g_ifb_eq (tgt := 16) Z dX3_full_5 (by decide) (fun c_5 => absurd c_5 (fun q => q (inB_nI hj (by omega)))) (fun c_5 => ?_)
  refine g_aload_n Z dX3_full_8 0 rfl rfl ?_
  refine g_iload_n Z dX3_full_9 2 rfl rfl ?_
  refine g_callVx (w' := [cO h 3 [.int (nI nb), .ref m1, .ref m2, .ref m3, .ref m4, .int (nI dn), .ref m5, .ref m6, .long (tg T)], cI E m1 4 (mN n), cI E m2 32 (gl K), cI E m3 32 (gl F), cI E m4 32 (gl G), cI E m5 12 D, cJ E m6 6 (tv T)]) Z (qX3_isWay E h m1 m2 m3 m4 m5 m6 nb dn T way) iX3_isWay gX3_full_X3_isWay ⟨rfl, rfl⟩ ⟨Nat.le_of_ble_eq_true rfl, Nat.le_of_ble_eq_true rfl⟩ dX3_full_10 rfl rfl (Nat.le_of_ble_eq_true rfl) ⟨Nat.zero_le _, Nat.zero_le _⟩ [0] rfl rfl 0 rfl rfl rfl rfl rfl ?_
  refine g_ifb_ne (tgt := 18) Z dX3_full_13 (by decide) (fun c_13 => ?_) (fun c_13 => absurd c_13 (fun q => q hw))
  refine g_iconst Z dX3_full_18 zi_0 ?_
  refine g_istore_n (lv' := [(3, .int 0), (0, .ref h), (1, .int (nI j)), (2, .int way)]) Z dX3_full_19 rfl (by decide) rfl ?_
  exact lX3_full E h m1 m2 m3 m4 m5 m6 nb dn n K F G D T j way hnb hn hj hw Z 1001 0 T rfl rfl

abbrev rX3_image : Room := { frames := 3, cells := 0, slots := 0, locals := 78 }
theorem iX3_image : zInfo yX3_image wsX3_image RX3 5 (some .long) 4 := ⟨_, _, rfl, by decide +kernel⟩
theorem kX3_image_87 : Cond.constantLong RX3 87 (-9223372036854775808) ∈ wsX3_image := by decide +kernel
set_option maxHeartbeats 4000000 in
set_option maxRecDepth 100000 in
theorem qX3_imageN (E : zE) (h m1 m2 m3 m4 m5 m6 : Nat) (nb dn : Nat) (n : Nat → Nat) (K F G : Nat → Nat → Int32) (D : Nat → Int32) (T : TB) (b way e wh : Int32) (hnb : nb ≤ 4) (hn : ∀ b, n b ≤ 8) (hv : ¬ (inB nb b ∧ (way = 0 ∨ way = 1) ∧ (e = 0 ∨ e = 1) ∧ (wh = 0 ∨ wh = 1))) : zF E yX3_image wsX3_image rX3_image [.ref h, .int b, .int way, .int e, .int wh] [cO h 3 [.int (nI nb), .ref m1, .ref m2, .ref m3, .ref m4, .int (nI dn), .ref m5, .ref m6, .long (tg T)], cI E m1 4 (mN n), cI E m2 32 (gl K), cI E m3 32 (gl F), cI E m4 32 (gl G), cI E m5 12 D, cJ E m6 6 (tv T)] (zx (some (.long (-9223372036854775808))) ([cO h 3 [.int (nI nb), .ref m1, .ref m2, .ref m3, .ref m4, .int (nI dn), .ref m5, .ref m6, .long (tg T)], cI E m1 4 (mN n), cI E m2 32 (gl K), cI E m3 32 (gl F), cI E m4 32 (gl G), cI E m5 12 D, cJ E m6 6 (tv T)])) := by
  refine z_start RX3 "image" (by decide) rfl rfl rfl (Nat.le_of_ble_eq_true rfl) ?_
  intro J Z
  refine g_eq Z (lv2 := [(0, .ref h), (1, .int b), (2, .int way), (3, .int e), (4, .int wh)]) rfl rfl rfl ?_
  refine g_aload_n Z dX3_image_0 0 rfl rfl ?_
  refine g_iload_n Z dX3_image_1 1 rfl rfl ?_
  refine g_callVx (w' := [cO h 3 [.int (nI nb), .ref m1, .ref m2, .ref m3, .ref m4, .int (nI dn), .ref m5, .ref m6, .long (tg T)], cI E m1 4 (mN n), cI E m2 32 (gl K), cI E m3 32 (gl F), cI E m4 32 (gl G), cI E m5 12 D, cJ E m6 6 (tv T)]) Z (qX3_isBench E h m1 m2 m3 m4 m5 m6 nb dn T b (by omega)) iX3_isBench gX3_image_X3_isBench ⟨rfl, rfl⟩ ⟨Nat.le_of_ble_eq_true rfl, Nat.le_of_ble_eq_true rfl⟩ dX3_image_2 rfl rfl (Nat.le_of_ble_eq_true rfl) ⟨Nat.zero_le _, Nat.zero_le _⟩ [0] rfl rfl 0 rfl rfl rfl rfl rfl ?_
  refine g_ifb_eq (tgt := 37) Z dX3_image_5 (by decide) (fun c_5 => ?_) (fun c_5 => ?_)
  · refine g_ldc2 Z dX3_image_37 kX3_image_87 ?_
    exact g_lret Z dX3_image_40 rfl ⟨Nat.zero_le _, Nat.zero_le _⟩ ⟨rfl, rfl⟩
  · refine g_aload_n Z dX3_image_8 0 rfl rfl ?_
    refine g_iload_n Z dX3_image_9 2 rfl rfl ?_
    refine g_callVx (w' := [cO h 3 [.int (nI nb), .ref m1, .ref m2, .ref m3, .ref m4, .int (nI dn), .ref m5, .ref m6, .long (tg T)], cI E m1 4 (mN n), cI E m2 32 (gl K), cI E m3 32 (gl F), cI E m4 32 (gl G), cI E m5 12 D, cJ E m6 6 (tv T)]) Z (qX3_isWay E h m1 m2 m3 m4 m5 m6 nb dn T way) iX3_isWay gX3_image_X3_isWay ⟨rfl, rfl⟩ ⟨Nat.le_of_ble_eq_true rfl, Nat.le_of_ble_eq_true rfl⟩ dX3_image_10 rfl rfl (Nat.le_of_ble_eq_true rfl) ⟨Nat.zero_le _, Nat.zero_le _⟩ [0] rfl rfl 0 rfl rfl rfl rfl rfl ?_
    refine g_ifb_eq (tgt := 37) Z dX3_image_13 (by decide) (fun c_13 => ?_) (fun c_13 => ?_)
    · refine g_ldc2 Z dX3_image_37 kX3_image_87 ?_
      exact g_lret Z dX3_image_40 rfl ⟨Nat.zero_le _, Nat.zero_le _⟩ ⟨rfl, rfl⟩
    · refine g_aload_n Z dX3_image_16 0 rfl rfl ?_
      refine g_iload_n Z dX3_image_17 3 rfl rfl ?_
      refine g_iconst Z dX3_image_18 zi_0 ?_
      refine g_iconst Z dX3_image_19 zi_1 ?_
      refine g_callVx (w' := [cO h 3 [.int (nI nb), .ref m1, .ref m2, .ref m3, .ref m4, .int (nI dn), .ref m5, .ref m6, .long (tg T)], cI E m1 4 (mN n), cI E m2 32 (gl K), cI E m3 32 (gl F), cI E m4 32 (gl G), cI E m5 12 D, cJ E m6 6 (tv T)]) Z (qX3_in E h m1 m2 m3 m4 m5 m6 nb dn T e 0 1) iX3_in gX3_image_X3_in ⟨rfl, rfl⟩ ⟨Nat.le_of_ble_eq_true rfl, Nat.le_of_ble_eq_true rfl⟩ dX3_image_20 rfl rfl (Nat.le_of_ble_eq_true rfl) ⟨Nat.zero_le _, Nat.zero_le _⟩ [0] rfl rfl 0 rfl rfl rfl rfl rfl ?_
      refine g_ifb_eq (tgt := 37) Z dX3_image_23 (by decide) (fun c_23 => ?_) (fun c_23 => ?_)
      · refine g_ldc2 Z dX3_image_37 kX3_image_87 ?_
        exact g_lret Z dX3_image_40 rfl ⟨Nat.zero_le _, Nat.zero_le _⟩ ⟨rfl, rfl⟩
      · refine g_aload_n Z dX3_image_26 0 rfl rfl ?_
        refine g_iload Z dX3_image_27 4 rfl ?_
        refine g_iconst Z dX3_image_29 zi_0 ?_
        refine g_iconst Z dX3_image_30 zi_1 ?_
        refine g_callVx (w' := [cO h 3 [.int (nI nb), .ref m1, .ref m2, .ref m3, .ref m4, .int (nI dn), .ref m5, .ref m6, .long (tg T)], cI E m1 4 (mN n), cI E m2 32 (gl K), cI E m3 32 (gl F), cI E m4 32 (gl G), cI E m5 12 D, cJ E m6 6 (tv T)]) Z (qX3_in E h m1 m2 m3 m4 m5 m6 nb dn T wh 0 1) iX3_in gX3_image_X3_in ⟨rfl, rfl⟩ ⟨Nat.le_of_ble_eq_true rfl, Nat.le_of_ble_eq_true rfl⟩ dX3_image_31 rfl rfl (Nat.le_of_ble_eq_true rfl) ⟨Nat.zero_le _, Nat.zero_le _⟩ [0] rfl rfl 0 rfl rfl rfl rfl rfl ?_
        refine g_ifb_ne (tgt := 41) Z dX3_image_34 (by decide) (fun c_34 => ?_) (fun c_34 => ?_)
        · exact absurd ⟨c_5, c_13, in01' c_23, in01' c_34⟩ hv
        · refine g_ldc2 Z dX3_image_37 kX3_image_87 ?_
          exact g_lret Z dX3_image_40 rfl ⟨Nat.zero_le _, Nat.zero_le _⟩ ⟨rfl, rfl⟩

theorem nX3_image_X3 : ∀ w ∈ wsX30, w ∈ wsX3_image := by decide +kernel
theorem fX3_image_13 : Cond.fieldLink RX3 13 (TX3 1).1 (TX3 1).2.1 (TX3 1).2.2.1 ∈ wsX3_image := by decide +kernel
theorem fX3_image_32 : Cond.fieldLink RX3 32 (TX3 7).1 (TX3 7).2.1 (TX3 7).2.2.1 ∈ wsX3_image := by decide +kernel
theorem fX3_image_36 : Cond.fieldLink RX3 36 (TX3 8).1 (TX3 8).2.1 (TX3 8).2.2.1 ∈ wsX3_image := by decide +kernel
set_option maxHeartbeats 4000000 in
set_option maxRecDepth 100000 in
theorem qX3_image (E : zE) (h m1 m2 m3 m4 m5 m6 : Nat) (nb dn : Nat) (n : Nat → Nat) (K F G : Nat → Nat → Int32) (D : Nat → Int32) (T : TB) (j : Nat) (way e wh : Int32) (hnb : nb ≤ 4) (hn : ∀ b, n b ≤ 8) (hj : j < nb) (hw : way = 0 ∨ way = 1) (he : e = 0 ∨ e = 1) (hh : wh = 0 ∨ wh = 1) : zF E yX3_image wsX3_image rX3_image [.ref h, .int (nI j), .int way, .int e, .int wh] [cO h 3 [.int (nI nb), .ref m1, .ref m2, .ref m3, .ref m4, .int (nI dn), .ref m5, .ref m6, .long (tg T)], cI E m1 4 (mN n), cI E m2 32 (gl K), cI E m3 32 (gl F), cI E m4 32 (gl G), cI E m5 12 D, cJ E m6 6 (tv T)] (fun ov wv => ov = some (.long (imgM (tabM (K j) (F j) (G j) way (n j)) e wh)) ∧ ∃ T2 : TB, wv = [cO h 3 [.int (nI nb), .ref m1, .ref m2, .ref m3, .ref m4, .int (nI dn), .ref m5, .ref m6, .long (tg T2)], cI E m1 4 (mN n), cI E m2 32 (gl K), cI E m3 32 (gl F), cI E m4 32 (gl G), cI E m5 12 D, cJ E m6 6 (tv T2)]) := by
  refine z_start RX3 "image" (by decide) rfl rfl rfl (Nat.le_of_ble_eq_true rfl) ?_
  intro J Z
  refine g_eq Z (lv2 := [(0, .ref h), (1, .int (nI j)), (2, .int way), (3, .int e), (4, .int wh)]) rfl rfl rfl ?_
  have hnj := hn j
  refine g_aload_n Z dX3_image_0 0 rfl rfl ?_
  refine g_iload_n Z dX3_image_1 1 rfl rfl ?_
  refine g_callVx (w' := [cO h 3 [.int (nI nb), .ref m1, .ref m2, .ref m3, .ref m4, .int (nI dn), .ref m5, .ref m6, .long (tg T)], cI E m1 4 (mN n), cI E m2 32 (gl K), cI E m3 32 (gl F), cI E m4 32 (gl G), cI E m5 12 D, cJ E m6 6 (tv T)]) Z (qX3_isBench E h m1 m2 m3 m4 m5 m6 nb dn T (nI j) (by omega)) iX3_isBench gX3_image_X3_isBench ⟨rfl, rfl⟩ ⟨Nat.le_of_ble_eq_true rfl, Nat.le_of_ble_eq_true rfl⟩ dX3_image_2 rfl rfl (Nat.le_of_ble_eq_true rfl) ⟨Nat.zero_le _, Nat.zero_le _⟩ [0] rfl rfl 0 rfl rfl rfl rfl rfl ?_
  refine g_ifb_eq (tgt := 37) Z dX3_image_5 (by decide) (fun c_5 => absurd c_5 (fun q => q (inB_nI hj (by omega)))) (fun c_5 => ?_)
  refine g_aload_n Z dX3_image_8 0 rfl rfl ?_
  refine g_iload_n Z dX3_image_9 2 rfl rfl ?_
  refine g_callVx (w' := [cO h 3 [.int (nI nb), .ref m1, .ref m2, .ref m3, .ref m4, .int (nI dn), .ref m5, .ref m6, .long (tg T)], cI E m1 4 (mN n), cI E m2 32 (gl K), cI E m3 32 (gl F), cI E m4 32 (gl G), cI E m5 12 D, cJ E m6 6 (tv T)]) Z (qX3_isWay E h m1 m2 m3 m4 m5 m6 nb dn T way) iX3_isWay gX3_image_X3_isWay ⟨rfl, rfl⟩ ⟨Nat.le_of_ble_eq_true rfl, Nat.le_of_ble_eq_true rfl⟩ dX3_image_10 rfl rfl (Nat.le_of_ble_eq_true rfl) ⟨Nat.zero_le _, Nat.zero_le _⟩ [0] rfl rfl 0 rfl rfl rfl rfl rfl ?_
  refine g_ifb_eq (tgt := 37) Z dX3_image_13 (by decide) (fun c_13 => absurd c_13 (fun q => q hw)) (fun c_13 => ?_)
  refine g_aload_n Z dX3_image_16 0 rfl rfl ?_
  refine g_iload_n Z dX3_image_17 3 rfl rfl ?_
  refine g_iconst Z dX3_image_18 zi_0 ?_
  refine g_iconst Z dX3_image_19 zi_1 ?_
  refine g_callVx (w' := [cO h 3 [.int (nI nb), .ref m1, .ref m2, .ref m3, .ref m4, .int (nI dn), .ref m5, .ref m6, .long (tg T)], cI E m1 4 (mN n), cI E m2 32 (gl K), cI E m3 32 (gl F), cI E m4 32 (gl G), cI E m5 12 D, cJ E m6 6 (tv T)]) Z (qX3_in E h m1 m2 m3 m4 m5 m6 nb dn T e 0 1) iX3_in gX3_image_X3_in ⟨rfl, rfl⟩ ⟨Nat.le_of_ble_eq_true rfl, Nat.le_of_ble_eq_true rfl⟩ dX3_image_20 rfl rfl (Nat.le_of_ble_eq_true rfl) ⟨Nat.zero_le _, Nat.zero_le _⟩ [0] rfl rfl 0 rfl rfl rfl rfl rfl ?_
  refine g_ifb_eq (tgt := 37) Z dX3_image_23 (by decide) (fun c_23 => absurd c_23 (fun z => z (in01 he))) (fun c_23 => ?_)
  refine g_aload_n Z dX3_image_26 0 rfl rfl ?_
  refine g_iload Z dX3_image_27 4 rfl ?_
  refine g_iconst Z dX3_image_29 zi_0 ?_
  refine g_iconst Z dX3_image_30 zi_1 ?_
  refine g_callVx (w' := [cO h 3 [.int (nI nb), .ref m1, .ref m2, .ref m3, .ref m4, .int (nI dn), .ref m5, .ref m6, .long (tg T)], cI E m1 4 (mN n), cI E m2 32 (gl K), cI E m3 32 (gl F), cI E m4 32 (gl G), cI E m5 12 D, cJ E m6 6 (tv T)]) Z (qX3_in E h m1 m2 m3 m4 m5 m6 nb dn T wh 0 1) iX3_in gX3_image_X3_in ⟨rfl, rfl⟩ ⟨Nat.le_of_ble_eq_true rfl, Nat.le_of_ble_eq_true rfl⟩ dX3_image_31 rfl rfl (Nat.le_of_ble_eq_true rfl) ⟨Nat.zero_le _, Nat.zero_le _⟩ [0] rfl rfl 0 rfl rfl rfl rfl rfl ?_
  refine g_ifb_ne (tgt := 41) Z dX3_image_34 (by decide) (fun c_34 => ?_) (fun c_34 => absurd c_34 (fun z => z (in01 hh)))
  refine g_aload_n Z dX3_image_41 0 rfl rfl ?_
  refine g_iload_n Z dX3_image_42 1 rfl rfl ?_
  refine g_iload_n Z dX3_image_43 2 rfl rfl ?_
  refine g_iconst Z dX3_image_44 zi_0 ?_
  refine g_aload_n Z dX3_image_45 0 rfl rfl ?_
  refine g_get Z dX3_image_46 0 rfl rfl nX3_image_X3 1 (by decide) fX3_image_13 rfl ?_
  refine g_iload_n Z dX3_image_49 1 rfl rfl ?_
  refine g_ialdE (v := nI (n j)) Z dX3_image_50 1 rfl j rfl (by omega) rfl rfl ?_
  refine g_callVx (w' := [cO h 3 [.int (nI nb), .ref m1, .ref m2, .ref m3, .ref m4, .int (nI dn), .ref m5, .ref m6, .long (tg (tabM (K j) (F j) (G j) way (n j)))], cI E m1 4 (mN n), cI E m2 32 (gl K), cI E m3 32 (gl F), cI E m4 32 (gl G), cI E m5 12 D, cJ E m6 6 (tv (tabM (K j) (F j) (G j) way (n j)))]) Z (qX3_workT E h m1 m2 m3 m4 m5 m6 nb dn n K F G D T j way hnj (by omega)) iX3_work gX3_image_X3_work ⟨rfl, rfl⟩ ⟨Nat.le_of_ble_eq_true rfl, Nat.le_of_ble_eq_true rfl⟩ dX3_image_51 rfl rfl (Nat.le_of_ble_eq_true rfl) ⟨Nat.zero_le _, Nat.zero_le _⟩ [0, 1, 2, 3, 4, 5, 6] rfl rfl 0 rfl rfl rfl rfl rfl ?_
  refine g_aload_n Z dX3_image_54 0 rfl rfl ?_
  refine g_get Z dX3_image_55 0 rfl rfl nX3_image_X3 7 (by decide) fX3_image_32 rfl ?_
  refine g_iconst Z dX3_image_58 zi_3 ?_
  refine g_laldE (v := td (tabM (K j) (F j) (G j) way (n j))) Z dX3_image_59 6 rfl 3 rfl (by decide) rfl rfl ?_
  refine g_lconst Z dX3_image_60 zl_0 ?_
  refine g_lcmp_ne (tgt := 69) Z dX3_image_61 dX3_image_62 rfl (by decide) (fun c_62 => ?_) (fun c_62 => ?_)
  · refine g_iload_n Z dX3_image_69 3 rfl rfl ?_
    refine g_if_ne (tgt := 95) Z dX3_image_70 (by decide) (fun c_70 => ?_) (fun c_70 => ?_)
    · refine g_aload_n Z dX3_image_95 0 rfl rfl ?_
      refine g_aload_n Z dX3_image_96 0 rfl rfl ?_
      refine g_get Z dX3_image_97 0 rfl rfl nX3_image_X3 7 (by decide) fX3_image_32 rfl ?_
      refine g_iconst Z dX3_image_100 zi_0 ?_
      refine g_laldE (v := ta (tabM (K j) (F j) (G j) way (n j))) Z dX3_image_101 6 rfl 0 rfl (by decide) rfl rfl ?_
      refine g_aload_n Z dX3_image_102 0 rfl rfl ?_
      refine g_get Z dX3_image_103 0 rfl rfl nX3_image_X3 7 (by decide) fX3_image_32 rfl ?_
      refine g_iconst Z dX3_image_106 zi_3 ?_
      refine g_laldE (v := td (tabM (K j) (F j) (G j) way (n j))) Z dX3_image_107 6 rfl 3 rfl (by decide) rfl rfl ?_
      refine g_lmul Z dX3_image_108 ?_
      refine g_aload_n Z dX3_image_109 0 rfl rfl ?_
      refine g_get Z dX3_image_110 0 rfl rfl nX3_image_X3 7 (by decide) fX3_image_32 rfl ?_
      refine g_iconst Z dX3_image_113 zi_1 ?_
      refine g_laldE (v := tb (tabM (K j) (F j) (G j) way (n j))) Z dX3_image_114 6 rfl 1 rfl (by decide) rfl rfl ?_
      refine g_aload_n Z dX3_image_115 0 rfl rfl ?_
      refine g_get Z dX3_image_116 0 rfl rfl nX3_image_X3 7 (by decide) fX3_image_32 rfl ?_
      refine g_iconst Z dX3_image_119 zi_2 ?_
      refine g_laldE (v := tc (tabM (K j) (F j) (G j) way (n j))) Z dX3_image_120 6 rfl 2 rfl (by decide) rfl rfl ?_
      refine g_lmul Z dX3_image_121 ?_
      refine g_lsub Z dX3_image_122 ?_
      refine g_aload_n Z dX3_image_123 0 rfl rfl ?_
      refine g_get Z dX3_image_124 0 rfl rfl nX3_image_X3 8 (by decide) fX3_image_36 rfl ?_
      refine g_aload_n Z dX3_image_127 0 rfl rfl ?_
      refine g_get Z dX3_image_128 0 rfl rfl nX3_image_X3 7 (by decide) fX3_image_32 rfl ?_
      refine g_iconst Z dX3_image_131 zi_3 ?_
      refine g_laldE (v := td (tabM (K j) (F j) (G j) way (n j))) Z dX3_image_132 6 rfl 3 rfl (by decide) rfl rfl ?_
      refine g_lmul Z dX3_image_133 ?_
      refine g_iload Z dX3_image_134 4 rfl ?_
      refine g_callVx (w' := [cO h 3 [.int (nI nb), .ref m1, .ref m2, .ref m3, .ref m4, .int (nI dn), .ref m5, .ref m6, .long (tg (tabM (K j) (F j) (G j) way (n j)))], cI E m1 4 (mN n), cI E m2 32 (gl K), cI E m3 32 (gl F), cI E m4 32 (gl G), cI E m5 12 D, cJ E m6 6 (tv (tabM (K j) (F j) (G j) way (n j)))]) Z (qX3_lowest E h m1 m2 m3 m4 m5 m6 nb dn (tabM (K j) (F j) (G j) way (n j)) (((ta (tabM (K j) (F j) (G j) way (n j))) * (td (tabM (K j) (F j) (G j) way (n j)))) - ((tb (tabM (K j) (F j) (G j) way (n j))) * (tc (tabM (K j) (F j) (G j) way (n j))))) ((tg (tabM (K j) (F j) (G j) way (n j))) * (td (tabM (K j) (F j) (G j) way (n j)))) wh) iX3_lowest gX3_image_X3_lowest ⟨rfl, rfl⟩ ⟨Nat.le_of_ble_eq_true rfl, Nat.le_of_ble_eq_true rfl⟩ dX3_image_136 rfl rfl (Nat.le_of_ble_eq_true rfl) ⟨Nat.zero_le _, Nat.zero_le _⟩ [0] rfl rfl 0 rfl rfl rfl rfl rfl ?_
      exact g_lret Z dX3_image_139 rfl ⟨Nat.zero_le _, Nat.zero_le _⟩ ⟨congrArg (fun v => some (Value.long v)) (by rw [imgM, if_neg c_62, if_neg c_70]), _, rfl⟩
    · refine g_aload_n Z dX3_image_73 0 rfl rfl ?_
      refine g_aload_n Z dX3_image_74 0 rfl rfl ?_
      refine g_get Z dX3_image_75 0 rfl rfl nX3_image_X3 7 (by decide) fX3_image_32 rfl ?_
      refine g_iconst Z dX3_image_78 zi_1 ?_
      refine g_laldE (v := tb (tabM (K j) (F j) (G j) way (n j))) Z dX3_image_79 6 rfl 1 rfl (by decide) rfl rfl ?_
      refine g_lneg Z dX3_image_80 ?_
      refine g_aload_n Z dX3_image_81 0 rfl rfl ?_
      refine g_get Z dX3_image_82 0 rfl rfl nX3_image_X3 7 (by decide) fX3_image_32 rfl ?_
      refine g_iconst Z dX3_image_85 zi_3 ?_
      refine g_laldE (v := td (tabM (K j) (F j) (G j) way (n j))) Z dX3_image_86 6 rfl 3 rfl (by decide) rfl rfl ?_
      refine g_iload Z dX3_image_87 4 rfl ?_
      refine g_callVx (w' := [cO h 3 [.int (nI nb), .ref m1, .ref m2, .ref m3, .ref m4, .int (nI dn), .ref m5, .ref m6, .long (tg (tabM (K j) (F j) (G j) way (n j)))], cI E m1 4 (mN n), cI E m2 32 (gl K), cI E m3 32 (gl F), cI E m4 32 (gl G), cI E m5 12 D, cJ E m6 6 (tv (tabM (K j) (F j) (G j) way (n j)))]) Z (qX3_lowest E h m1 m2 m3 m4 m5 m6 nb dn (tabM (K j) (F j) (G j) way (n j)) (-(tb (tabM (K j) (F j) (G j) way (n j)))) (td (tabM (K j) (F j) (G j) way (n j))) wh) iX3_lowest gX3_image_X3_lowest ⟨rfl, rfl⟩ ⟨Nat.le_of_ble_eq_true rfl, Nat.le_of_ble_eq_true rfl⟩ dX3_image_89 rfl rfl (Nat.le_of_ble_eq_true rfl) ⟨Nat.zero_le _, Nat.zero_le _⟩ [0] rfl rfl 0 rfl rfl rfl rfl rfl ?_
      refine g_goto (tgt := 139) Z dX3_image_92 (by decide) ?_
      exact g_lret Z dX3_image_139 rfl ⟨Nat.zero_le _, Nat.zero_le _⟩ ⟨congrArg (fun v => some (Value.long v)) (by rw [imgM, if_neg c_62, if_pos c_70]), _, rfl⟩
  · refine g_ldc2 Z dX3_image_65 kX3_image_87 ?_
    exact g_lret Z dX3_image_68 rfl ⟨Nat.zero_le _, Nat.zero_le _⟩ ⟨congrArg (fun v => some (Value.long v)) (by rw [imgM, if_pos c_62]), _, rfl⟩

set_option maxHeartbeats 4000000 in
set_option maxRecDepth 100000 in
theorem qX3_isPlain1 (E : zE) (h m1 m2 m3 m4 m5 m6 : Nat) (nb dn : Nat) (T : TB)  : zF E yX3_isPlain wsX3_isPlain rX3_isPlain [.ref h, .long 1] [cO h 3 [.int (nI nb), .ref m1, .ref m2, .ref m3, .ref m4, .int (nI dn), .ref m5, .ref m6, .long (tg T)], cJ E m6 6 (tv T)] (zx (some (.int (if pln T (tg T) then 1 else 0))) ([cO h 3 [.int (nI nb), .ref m1, .ref m2, .ref m3, .ref m4, .int (nI dn), .ref m5, .ref m6, .long (tg T)], cJ E m6 6 (tv T)])) := by
  have q := qX3_isPlain E h m1 m2 m3 m4 m5 m6 nb dn T 1
  rw [mul1] at q
  exact q

set_option maxHeartbeats 4000000 in
set_option maxRecDepth 100000 in
theorem qX3_isPlainM (E : zE) (h m1 m2 m3 m4 m5 m6 : Nat) (nb dn : Nat) (T : TB)  : zF E yX3_isPlain wsX3_isPlain rX3_isPlain [.ref h, .long (-1)] [cO h 3 [.int (nI nb), .ref m1, .ref m2, .ref m3, .ref m4, .int (nI dn), .ref m5, .ref m6, .long (tg T)], cJ E m6 6 (tv T)] (zx (some (.int (if pln T (-tg T) then 1 else 0))) ([cO h 3 [.int (nI nb), .ref m1, .ref m2, .ref m3, .ref m4, .int (nI dn), .ref m5, .ref m6, .long (tg T)], cJ E m6 6 (tv T)])) := by
  have q := qX3_isPlain E h m1 m2 m3 m4 m5 m6 nb dn T (-1)
  rw [mulM1] at q
  exact q

abbrev rX3_roundOf : Room := { frames := 3, cells := 0, slots := 0, locals := 78 }
theorem iX3_roundOf : zInfo yX3_roundOf wsX3_roundOf RX3 3 (some .int) 2 := ⟨_, _, rfl, by decide +kernel⟩
theorem nX3_roundOf_X3 : ∀ w ∈ wsX30, w ∈ wsX3_roundOf := by decide +kernel
theorem fX3_roundOf_13 : Cond.fieldLink RX3 13 (TX3 1).1 (TX3 1).2.1 (TX3 1).2.2.1 ∈ wsX3_roundOf := by decide +kernel
theorem kX3_roundOf_119 : Cond.constantLong RX3 119 (-1) ∈ wsX3_roundOf := by decide +kernel
theorem kX3_roundOf_107 : Cond.constantLong RX3 107 (2) ∈ wsX3_roundOf := by decide +kernel
theorem fX3_roundOf_36 : Cond.fieldLink RX3 36 (TX3 8).1 (TX3 8).2.1 (TX3 8).2.2.1 ∈ wsX3_roundOf := by decide +kernel
theorem kX3_roundOf_109 : Cond.constantLong RX3 109 (-2) ∈ wsX3_roundOf := by decide +kernel
set_option maxHeartbeats 4000000 in
set_option maxRecDepth 100000 in
theorem qX3_roundOf (E : zE) (h m1 m2 m3 m4 m5 m6 : Nat) (nb dn : Nat) (n : Nat → Nat) (K F G : Nat → Nat → Int32) (D : Nat → Int32) (T : TB) (j : Nat) (way : Int32) (hn : n j ≤ 8) (hj : j < 4) : zF E yX3_roundOf wsX3_roundOf rX3_roundOf [.ref h, .int (nI j), .int way] [cO h 3 [.int (nI nb), .ref m1, .ref m2, .ref m3, .ref m4, .int (nI dn), .ref m5, .ref m6, .long (tg T)], cI E m1 4 (mN n), cI E m2 32 (gl K), cI E m3 32 (gl F), cI E m4 32 (gl G), cI E m5 12 D, cJ E m6 6 (tv T)] (zx (some (.int (manF (tabM (K j) (F j) (G j) way (n j))))) ([cO h 3 [.int (nI nb), .ref m1, .ref m2, .ref m3, .ref m4, .int (nI dn), .ref m5, .ref m6, .long (tg (tabM (K j) (F j) (G j) way (n j)))], cI E m1 4 (mN n), cI E m2 32 (gl K), cI E m3 32 (gl F), cI E m4 32 (gl G), cI E m5 12 D, cJ E m6 6 (tv (tabM (K j) (F j) (G j) way (n j)))])) := by
  refine z_start RX3 "roundOf" (by decide) rfl rfl rfl (Nat.le_of_ble_eq_true rfl) ?_
  intro J Z
  refine g_eq Z (lv2 := [(0, .ref h), (1, .int (nI j)), (2, .int way)]) rfl rfl rfl ?_
  refine g_aload_n Z dX3_roundOf_0 0 rfl rfl ?_
  refine g_iload_n Z dX3_roundOf_1 1 rfl rfl ?_
  refine g_iload_n Z dX3_roundOf_2 2 rfl rfl ?_
  refine g_iconst Z dX3_roundOf_3 zi_0 ?_
  refine g_aload_n Z dX3_roundOf_4 0 rfl rfl ?_
  refine g_get Z dX3_roundOf_5 0 rfl rfl nX3_roundOf_X3 1 (by decide) fX3_roundOf_13 rfl ?_
  refine g_iload_n Z dX3_roundOf_8 1 rfl rfl ?_
  refine g_ialdE (v := nI (n j)) Z dX3_roundOf_9 1 rfl j rfl (by omega) rfl rfl ?_
  refine g_callVx (w' := [cO h 3 [.int (nI nb), .ref m1, .ref m2, .ref m3, .ref m4, .int (nI dn), .ref m5, .ref m6, .long (tg (tabM (K j) (F j) (G j) way (n j)))], cI E m1 4 (mN n), cI E m2 32 (gl K), cI E m3 32 (gl F), cI E m4 32 (gl G), cI E m5 12 D, cJ E m6 6 (tv (tabM (K j) (F j) (G j) way (n j)))]) Z (qX3_workT E h m1 m2 m3 m4 m5 m6 nb dn n K F G D T j way hn hj) iX3_work gX3_roundOf_X3_work ⟨rfl, rfl⟩ ⟨Nat.le_of_ble_eq_true rfl, Nat.le_of_ble_eq_true rfl⟩ dX3_roundOf_10 rfl rfl (Nat.le_of_ble_eq_true rfl) ⟨Nat.zero_le _, Nat.zero_le _⟩ [0, 1, 2, 3, 4, 5, 6] rfl rfl 0 rfl rfl rfl rfl rfl ?_
  refine g_aload_n Z dX3_roundOf_13 0 rfl rfl ?_
  refine g_callVx (w' := [cO h 3 [.int (nI nb), .ref m1, .ref m2, .ref m3, .ref m4, .int (nI dn), .ref m5, .ref m6, .long (tg (tabM (K j) (F j) (G j) way (n j)))], cI E m1 4 (mN n), cI E m2 32 (gl K), cI E m3 32 (gl F), cI E m4 32 (gl G), cI E m5 12 D, cJ E m6 6 (tv (tabM (K j) (F j) (G j) way (n j)))]) Z (qX3_isBetween E h m1 m2 m3 m4 m5 m6 nb dn (tabM (K j) (F j) (G j) way (n j))) iX3_isBetween gX3_roundOf_X3_isBetween ⟨rfl, rfl⟩ ⟨Nat.le_of_ble_eq_true rfl, Nat.le_of_ble_eq_true rfl⟩ dX3_roundOf_14 rfl rfl (Nat.le_of_ble_eq_true rfl) ⟨Nat.zero_le _, Nat.zero_le _⟩ [0, 6] rfl rfl 0 rfl rfl rfl rfl rfl ?_
  refine g_ifb_ne (tgt := 38) Z dX3_roundOf_17 (by decide) (fun c_17 => ?_) (fun c_17 => ?_)
  · refine g_iconst Z dX3_roundOf_38 zi_0 ?_
    exact g_iret Z dX3_roundOf_39 rfl ⟨Nat.zero_le _, Nat.zero_le _⟩ ⟨congrArg (fun v => some (Value.int v)) (by rw [manF, if_pos c_17]), rfl⟩
  · refine g_aload_n Z dX3_roundOf_20 0 rfl rfl ?_
    refine g_lconst Z dX3_roundOf_21 zl_1 ?_
    refine g_callVx (w' := [cO h 3 [.int (nI nb), .ref m1, .ref m2, .ref m3, .ref m4, .int (nI dn), .ref m5, .ref m6, .long (tg (tabM (K j) (F j) (G j) way (n j)))], cI E m1 4 (mN n), cI E m2 32 (gl K), cI E m3 32 (gl F), cI E m4 32 (gl G), cI E m5 12 D, cJ E m6 6 (tv (tabM (K j) (F j) (G j) way (n j)))]) Z (qX3_isPlain1 E h m1 m2 m3 m4 m5 m6 nb dn (tabM (K j) (F j) (G j) way (n j))) iX3_isPlain gX3_roundOf_X3_isPlain ⟨rfl, rfl⟩ ⟨Nat.le_of_ble_eq_true rfl, Nat.le_of_ble_eq_true rfl⟩ dX3_roundOf_22 rfl rfl (Nat.le_of_ble_eq_true rfl) ⟨Nat.zero_le _, Nat.zero_le _⟩ [0, 6] rfl rfl 0 rfl rfl rfl rfl rfl ?_
    refine g_ifb_ne (tgt := 38) Z dX3_roundOf_25 (by decide) (fun c_25 => ?_) (fun c_25 => ?_)
    · refine g_iconst Z dX3_roundOf_38 zi_0 ?_
      exact g_iret Z dX3_roundOf_39 rfl ⟨Nat.zero_le _, Nat.zero_le _⟩ ⟨congrArg (fun v => some (Value.int v)) (by rw [manF, if_neg c_17, if_pos c_25]), rfl⟩
    · refine g_aload_n Z dX3_roundOf_28 0 rfl rfl ?_
      refine g_ldc2 Z dX3_roundOf_29 kX3_roundOf_119 ?_
      refine g_callVx (w' := [cO h 3 [.int (nI nb), .ref m1, .ref m2, .ref m3, .ref m4, .int (nI dn), .ref m5, .ref m6, .long (tg (tabM (K j) (F j) (G j) way (n j)))], cI E m1 4 (mN n), cI E m2 32 (gl K), cI E m3 32 (gl F), cI E m4 32 (gl G), cI E m5 12 D, cJ E m6 6 (tv (tabM (K j) (F j) (G j) way (n j)))]) Z (qX3_isPlainM E h m1 m2 m3 m4 m5 m6 nb dn (tabM (K j) (F j) (G j) way (n j))) iX3_isPlain gX3_roundOf_X3_isPlain ⟨rfl, rfl⟩ ⟨Nat.le_of_ble_eq_true rfl, Nat.le_of_ble_eq_true rfl⟩ dX3_roundOf_32 rfl rfl (Nat.le_of_ble_eq_true rfl) ⟨Nat.zero_le _, Nat.zero_le _⟩ [0, 6] rfl rfl 0 rfl rfl rfl rfl rfl ?_
      refine g_ifb_eq (tgt := 40) Z dX3_roundOf_35 (by decide) (fun c_35 => ?_) (fun c_35 => ?_)
      · refine g_aload_n Z dX3_roundOf_40 0 rfl rfl ?_
        refine g_callVx (w' := [cO h 3 [.int (nI nb), .ref m1, .ref m2, .ref m3, .ref m4, .int (nI dn), .ref m5, .ref m6, .long (tg (tabM (K j) (F j) (G j) way (n j)))], cI E m1 4 (mN n), cI E m2 32 (gl K), cI E m3 32 (gl F), cI E m4 32 (gl G), cI E m5 12 D, cJ E m6 6 (tv (tabM (K j) (F j) (G j) way (n j)))]) Z (qX3_traceOf E h m1 m2 m3 m4 m5 m6 nb dn (tabM (K j) (F j) (G j) way (n j))) iX3_traceOf gX3_roundOf_X3_traceOf ⟨rfl, rfl⟩ ⟨Nat.le_of_ble_eq_true rfl, Nat.le_of_ble_eq_true rfl⟩ dX3_roundOf_41 rfl rfl (Nat.le_of_ble_eq_true rfl) ⟨Nat.zero_le _, Nat.zero_le _⟩ [0, 6] rfl rfl 0 rfl rfl rfl rfl rfl ?_
        refine g_ldc2 Z dX3_roundOf_44 kX3_roundOf_107 ?_
        refine g_aload_n Z dX3_roundOf_47 0 rfl rfl ?_
        refine g_get Z dX3_roundOf_48 0 rfl rfl nX3_roundOf_X3 8 (by decide) fX3_roundOf_36 rfl ?_
        refine g_lmul Z dX3_roundOf_51 ?_
        refine g_lcmp_eq (tgt := 72) Z dX3_roundOf_52 dX3_roundOf_53 rfl (by decide) (fun c_53 => ?_) (fun c_53 => ?_)
        · refine g_iconst Z dX3_roundOf_72 zi_1 ?_
          refine g_goto (tgt := 77) Z dX3_roundOf_73 (by decide) ?_
          exact g_iret Z dX3_roundOf_77 rfl ⟨Nat.zero_le _, Nat.zero_le _⟩ ⟨congrArg (fun v => some (Value.int v)) (by rw [manF, if_neg c_17, if_neg c_25, if_neg c_35, if_pos c_53]), rfl⟩
        · refine g_aload_n Z dX3_roundOf_56 0 rfl rfl ?_
          refine g_callVx (w' := [cO h 3 [.int (nI nb), .ref m1, .ref m2, .ref m3, .ref m4, .int (nI dn), .ref m5, .ref m6, .long (tg (tabM (K j) (F j) (G j) way (n j)))], cI E m1 4 (mN n), cI E m2 32 (gl K), cI E m3 32 (gl F), cI E m4 32 (gl G), cI E m5 12 D, cJ E m6 6 (tv (tabM (K j) (F j) (G j) way (n j)))]) Z (qX3_traceOf E h m1 m2 m3 m4 m5 m6 nb dn (tabM (K j) (F j) (G j) way (n j))) iX3_traceOf gX3_roundOf_X3_traceOf ⟨rfl, rfl⟩ ⟨Nat.le_of_ble_eq_true rfl, Nat.le_of_ble_eq_true rfl⟩ dX3_roundOf_57 rfl rfl (Nat.le_of_ble_eq_true rfl) ⟨Nat.zero_le _, Nat.zero_le _⟩ [0, 6] rfl rfl 0 rfl rfl rfl rfl rfl ?_
          refine g_ldc2 Z dX3_roundOf_60 kX3_roundOf_109 ?_
          refine g_aload_n Z dX3_roundOf_63 0 rfl rfl ?_
          refine g_get Z dX3_roundOf_64 0 rfl rfl nX3_roundOf_X3 8 (by decide) fX3_roundOf_36 rfl ?_
          refine g_lmul Z dX3_roundOf_67 ?_
          refine g_lcmp_ne (tgt := 76) Z dX3_roundOf_68 dX3_roundOf_69 rfl (by decide) (fun c_69 => ?_) (fun c_69 => ?_)
          · refine g_iconst Z dX3_roundOf_76 zi_2 ?_
            exact g_iret Z dX3_roundOf_77 rfl ⟨Nat.zero_le _, Nat.zero_le _⟩ ⟨congrArg (fun v => some (Value.int v)) (by rw [manF, if_neg c_17, if_neg c_25, if_neg c_35, if_neg c_53, if_neg c_69]), rfl⟩
          · refine g_iconst Z dX3_roundOf_72 zi_1 ?_
            refine g_goto (tgt := 77) Z dX3_roundOf_73 (by decide) ?_
            exact g_iret Z dX3_roundOf_77 rfl ⟨Nat.zero_le _, Nat.zero_le _⟩ ⟨congrArg (fun v => some (Value.int v)) (by rw [manF, if_neg c_17, if_neg c_25, if_neg c_35, if_neg c_53, if_pos c_69]), rfl⟩
      · refine g_iconst Z dX3_roundOf_38 zi_0 ?_
        exact g_iret Z dX3_roundOf_39 rfl ⟨Nat.zero_le _, Nat.zero_le _⟩ ⟨congrArg (fun v => some (Value.int v)) (by rw [manF, if_neg c_17, if_neg c_25, if_pos c_35]), rfl⟩

abbrev rX3_round : Room := { frames := 4, cells := 0, slots := 0, locals := 100 }
theorem iX3_round : zInfo yX3_round wsX3_round RX3 3 (some .int) 2 := ⟨_, _, rfl, by decide +kernel⟩
set_option maxHeartbeats 4000000 in
set_option maxRecDepth 100000 in
theorem qX3_roundN (E : zE) (h m1 m2 m3 m4 m5 m6 : Nat) (nb dn : Nat) (n : Nat → Nat) (K F G : Nat → Nat → Int32) (D : Nat → Int32) (T : TB) (b way : Int32) (hnb : nb ≤ 4) (hn : ∀ b, n b ≤ 8) (hv : ¬ (inB nb b ∧ (way = 0 ∨ way = 1))) : zF E yX3_round wsX3_round rX3_round [.ref h, .int b, .int way] [cO h 3 [.int (nI nb), .ref m1, .ref m2, .ref m3, .ref m4, .int (nI dn), .ref m5, .ref m6, .long (tg T)], cI E m1 4 (mN n), cI E m2 32 (gl K), cI E m3 32 (gl F), cI E m4 32 (gl G), cI E m5 12 D, cJ E m6 6 (tv T)] (zx (some (.int (-1))) ([cO h 3 [.int (nI nb), .ref m1, .ref m2, .ref m3, .ref m4, .int (nI dn), .ref m5, .ref m6, .long (tg T)], cI E m1 4 (mN n), cI E m2 32 (gl K), cI E m3 32 (gl F), cI E m4 32 (gl G), cI E m5 12 D, cJ E m6 6 (tv T)])) := by
  refine z_start RX3 "round" (by decide) rfl rfl rfl (Nat.le_of_ble_eq_true rfl) ?_
  intro J Z
  refine g_eq Z (lv2 := [(0, .ref h), (1, .int b), (2, .int way)]) rfl rfl rfl ?_
  refine g_aload_n Z dX3_round_0 0 rfl rfl ?_
  refine g_iload_n Z dX3_round_1 1 rfl rfl ?_
  refine g_callVx (w' := [cO h 3 [.int (nI nb), .ref m1, .ref m2, .ref m3, .ref m4, .int (nI dn), .ref m5, .ref m6, .long (tg T)], cI E m1 4 (mN n), cI E m2 32 (gl K), cI E m3 32 (gl F), cI E m4 32 (gl G), cI E m5 12 D, cJ E m6 6 (tv T)]) Z (qX3_isBench E h m1 m2 m3 m4 m5 m6 nb dn T b (by omega)) iX3_isBench gX3_round_X3_isBench ⟨rfl, rfl⟩ ⟨Nat.le_of_ble_eq_true rfl, Nat.le_of_ble_eq_true rfl⟩ dX3_round_2 rfl rfl (Nat.le_of_ble_eq_true rfl) ⟨Nat.zero_le _, Nat.zero_le _⟩ [0] rfl rfl 0 rfl rfl rfl rfl rfl ?_
  refine g_ifb_eq (tgt := 25) Z dX3_round_5 (by decide) (fun c_5 => ?_) (fun c_5 => ?_)
  · refine g_iconst Z dX3_round_25 zi_m1 ?_
    exact g_iret Z dX3_round_26 rfl ⟨Nat.zero_le _, Nat.zero_le _⟩ ⟨rfl, rfl⟩
  · refine g_aload_n Z dX3_round_8 0 rfl rfl ?_
    refine g_iload_n Z dX3_round_9 2 rfl rfl ?_
    refine g_callVx (w' := [cO h 3 [.int (nI nb), .ref m1, .ref m2, .ref m3, .ref m4, .int (nI dn), .ref m5, .ref m6, .long (tg T)], cI E m1 4 (mN n), cI E m2 32 (gl K), cI E m3 32 (gl F), cI E m4 32 (gl G), cI E m5 12 D, cJ E m6 6 (tv T)]) Z (qX3_isWay E h m1 m2 m3 m4 m5 m6 nb dn T way) iX3_isWay gX3_round_X3_isWay ⟨rfl, rfl⟩ ⟨Nat.le_of_ble_eq_true rfl, Nat.le_of_ble_eq_true rfl⟩ dX3_round_10 rfl rfl (Nat.le_of_ble_eq_true rfl) ⟨Nat.zero_le _, Nat.zero_le _⟩ [0] rfl rfl 0 rfl rfl rfl rfl rfl ?_
    refine g_ifb_eq (tgt := 25) Z dX3_round_13 (by decide) (fun c_13 => ?_) (fun c_13 => ?_)
    · refine g_iconst Z dX3_round_25 zi_m1 ?_
      exact g_iret Z dX3_round_26 rfl ⟨Nat.zero_le _, Nat.zero_le _⟩ ⟨rfl, rfl⟩
    · exact absurd ⟨c_5, c_13⟩ hv


set_option maxHeartbeats 4000000 in
set_option maxRecDepth 100000 in
theorem qX3_round (E : zE) (h m1 m2 m3 m4 m5 m6 : Nat) (nb dn : Nat) (n : Nat → Nat) (K F G : Nat → Nat → Int32) (D : Nat → Int32) (T : TB) (j : Nat) (way : Int32) (hnb : nb ≤ 4) (hn : ∀ b, n b ≤ 8) (hj : j < nb) (hw : way = 0 ∨ way = 1) : zF E yX3_round wsX3_round rX3_round [.ref h, .int (nI j), .int way] [cO h 3 [.int (nI nb), .ref m1, .ref m2, .ref m3, .ref m4, .int (nI dn), .ref m5, .ref m6, .long (tg T)], cI E m1 4 (mN n), cI E m2 32 (gl K), cI E m3 32 (gl F), cI E m4 32 (gl G), cI E m5 12 D, cJ E m6 6 (tv T)] (fun ov wv => ov = some (.int (manF (tabM (K j) (F j) (G j) way (n j)))) ∧ ∃ T2 : TB, wv = [cO h 3 [.int (nI nb), .ref m1, .ref m2, .ref m3, .ref m4, .int (nI dn), .ref m5, .ref m6, .long (tg T2)], cI E m1 4 (mN n), cI E m2 32 (gl K), cI E m3 32 (gl F), cI E m4 32 (gl G), cI E m5 12 D, cJ E m6 6 (tv T2)]) := by
  refine z_start RX3 "round" (by decide) rfl rfl rfl (Nat.le_of_ble_eq_true rfl) ?_
  intro J Z
  refine g_eq Z (lv2 := [(0, .ref h), (1, .int (nI j)), (2, .int way)]) rfl rfl rfl ?_
  have hnj := hn j
  refine g_aload_n Z dX3_round_0 0 rfl rfl ?_
  refine g_iload_n Z dX3_round_1 1 rfl rfl ?_
  refine g_callVx (w' := [cO h 3 [.int (nI nb), .ref m1, .ref m2, .ref m3, .ref m4, .int (nI dn), .ref m5, .ref m6, .long (tg T)], cI E m1 4 (mN n), cI E m2 32 (gl K), cI E m3 32 (gl F), cI E m4 32 (gl G), cI E m5 12 D, cJ E m6 6 (tv T)]) Z (qX3_isBench E h m1 m2 m3 m4 m5 m6 nb dn T (nI j) (by omega)) iX3_isBench gX3_round_X3_isBench ⟨rfl, rfl⟩ ⟨Nat.le_of_ble_eq_true rfl, Nat.le_of_ble_eq_true rfl⟩ dX3_round_2 rfl rfl (Nat.le_of_ble_eq_true rfl) ⟨Nat.zero_le _, Nat.zero_le _⟩ [0] rfl rfl 0 rfl rfl rfl rfl rfl ?_
  refine g_ifb_eq (tgt := 25) Z dX3_round_5 (by decide) (fun c_5 => absurd c_5 (fun q => q (inB_nI hj (by omega)))) (fun c_5 => ?_)
  refine g_aload_n Z dX3_round_8 0 rfl rfl ?_
  refine g_iload_n Z dX3_round_9 2 rfl rfl ?_
  refine g_callVx (w' := [cO h 3 [.int (nI nb), .ref m1, .ref m2, .ref m3, .ref m4, .int (nI dn), .ref m5, .ref m6, .long (tg T)], cI E m1 4 (mN n), cI E m2 32 (gl K), cI E m3 32 (gl F), cI E m4 32 (gl G), cI E m5 12 D, cJ E m6 6 (tv T)]) Z (qX3_isWay E h m1 m2 m3 m4 m5 m6 nb dn T way) iX3_isWay gX3_round_X3_isWay ⟨rfl, rfl⟩ ⟨Nat.le_of_ble_eq_true rfl, Nat.le_of_ble_eq_true rfl⟩ dX3_round_10 rfl rfl (Nat.le_of_ble_eq_true rfl) ⟨Nat.zero_le _, Nat.zero_le _⟩ [0] rfl rfl 0 rfl rfl rfl rfl rfl ?_
  refine g_ifb_eq (tgt := 25) Z dX3_round_13 (by decide) (fun c_13 => absurd c_13 (fun q => q hw)) (fun c_13 => ?_)
  refine g_aload_n Z dX3_round_16 0 rfl rfl ?_
  refine g_iload_n Z dX3_round_17 1 rfl rfl ?_
  refine g_iload_n Z dX3_round_18 2 rfl rfl ?_
  refine g_callVx (w' := [cO h 3 [.int (nI nb), .ref m1, .ref m2, .ref m3, .ref m4, .int (nI dn), .ref m5, .ref m6, .long (tg (tabM (K j) (F j) (G j) way (n j)))], cI E m1 4 (mN n), cI E m2 32 (gl K), cI E m3 32 (gl F), cI E m4 32 (gl G), cI E m5 12 D, cJ E m6 6 (tv (tabM (K j) (F j) (G j) way (n j)))]) Z (qX3_roundOf E h m1 m2 m3 m4 m5 m6 nb dn n K F G D T j way hnj (by omega)) iX3_roundOf gX3_round_X3_roundOf ⟨rfl, rfl⟩ ⟨Nat.le_of_ble_eq_true rfl, Nat.le_of_ble_eq_true rfl⟩ dX3_round_19 rfl rfl (Nat.le_of_ble_eq_true rfl) ⟨Nat.zero_le _, Nat.zero_le _⟩ [0, 1, 2, 3, 4, 5, 6] rfl rfl 0 rfl rfl rfl rfl rfl ?_
  refine g_goto (tgt := 26) Z dX3_round_22 (by decide) ?_
  exact g_iret Z dX3_round_26 rfl ⟨Nat.zero_le _, Nat.zero_le _⟩ ⟨rfl, _, rfl⟩

abbrev rX3_trace : Room := { frames := 3, cells := 0, slots := 0, locals := 78 }
theorem iX3_trace : zInfo yX3_trace wsX3_trace RX3 4 (some .long) 3 := ⟨_, _, rfl, by decide +kernel⟩
theorem kX3_trace_87 : Cond.constantLong RX3 87 (-9223372036854775808) ∈ wsX3_trace := by decide +kernel
set_option maxHeartbeats 4000000 in
set_option maxRecDepth 100000 in
theorem qX3_traceN (E : zE) (h m1 m2 m3 m4 m5 m6 : Nat) (nb dn : Nat) (n : Nat → Nat) (K F G : Nat → Nat → Int32) (D : Nat → Int32) (T : TB) (b way wh : Int32) (hnb : nb ≤ 4) (hn : ∀ b, n b ≤ 8) (hv : ¬ (inB nb b ∧ (way = 0 ∨ way = 1) ∧ (wh = 0 ∨ wh = 1))) : zF E yX3_trace wsX3_trace rX3_trace [.ref h, .int b, .int way, .int wh] [cO h 3 [.int (nI nb), .ref m1, .ref m2, .ref m3, .ref m4, .int (nI dn), .ref m5, .ref m6, .long (tg T)], cI E m1 4 (mN n), cI E m2 32 (gl K), cI E m3 32 (gl F), cI E m4 32 (gl G), cI E m5 12 D, cJ E m6 6 (tv T)] (zx (some (.long (-9223372036854775808))) ([cO h 3 [.int (nI nb), .ref m1, .ref m2, .ref m3, .ref m4, .int (nI dn), .ref m5, .ref m6, .long (tg T)], cI E m1 4 (mN n), cI E m2 32 (gl K), cI E m3 32 (gl F), cI E m4 32 (gl G), cI E m5 12 D, cJ E m6 6 (tv T)])) := by
  refine z_start RX3 "trace" (by decide) rfl rfl rfl (Nat.le_of_ble_eq_true rfl) ?_
  intro J Z
  refine g_eq Z (lv2 := [(0, .ref h), (1, .int b), (2, .int way), (3, .int wh)]) rfl rfl rfl ?_
  refine g_aload_n Z dX3_trace_0 0 rfl rfl ?_
  refine g_iload_n Z dX3_trace_1 1 rfl rfl ?_
  refine g_callVx (w' := [cO h 3 [.int (nI nb), .ref m1, .ref m2, .ref m3, .ref m4, .int (nI dn), .ref m5, .ref m6, .long (tg T)], cI E m1 4 (mN n), cI E m2 32 (gl K), cI E m3 32 (gl F), cI E m4 32 (gl G), cI E m5 12 D, cJ E m6 6 (tv T)]) Z (qX3_isBench E h m1 m2 m3 m4 m5 m6 nb dn T b (by omega)) iX3_isBench gX3_trace_X3_isBench ⟨rfl, rfl⟩ ⟨Nat.le_of_ble_eq_true rfl, Nat.le_of_ble_eq_true rfl⟩ dX3_trace_2 rfl rfl (Nat.le_of_ble_eq_true rfl) ⟨Nat.zero_le _, Nat.zero_le _⟩ [0] rfl rfl 0 rfl rfl rfl rfl rfl ?_
  refine g_ifb_eq (tgt := 26) Z dX3_trace_5 (by decide) (fun c_5 => ?_) (fun c_5 => ?_)
  · refine g_ldc2 Z dX3_trace_26 kX3_trace_87 ?_
    exact g_lret Z dX3_trace_29 rfl ⟨Nat.zero_le _, Nat.zero_le _⟩ ⟨rfl, rfl⟩
  · refine g_aload_n Z dX3_trace_8 0 rfl rfl ?_
    refine g_iload_n Z dX3_trace_9 2 rfl rfl ?_
    refine g_callVx (w' := [cO h 3 [.int (nI nb), .ref m1, .ref m2, .ref m3, .ref m4, .int (nI dn), .ref m5, .ref m6, .long (tg T)], cI E m1 4 (mN n), cI E m2 32 (gl K), cI E m3 32 (gl F), cI E m4 32 (gl G), cI E m5 12 D, cJ E m6 6 (tv T)]) Z (qX3_isWay E h m1 m2 m3 m4 m5 m6 nb dn T way) iX3_isWay gX3_trace_X3_isWay ⟨rfl, rfl⟩ ⟨Nat.le_of_ble_eq_true rfl, Nat.le_of_ble_eq_true rfl⟩ dX3_trace_10 rfl rfl (Nat.le_of_ble_eq_true rfl) ⟨Nat.zero_le _, Nat.zero_le _⟩ [0] rfl rfl 0 rfl rfl rfl rfl rfl ?_
    refine g_ifb_eq (tgt := 26) Z dX3_trace_13 (by decide) (fun c_13 => ?_) (fun c_13 => ?_)
    · refine g_ldc2 Z dX3_trace_26 kX3_trace_87 ?_
      exact g_lret Z dX3_trace_29 rfl ⟨Nat.zero_le _, Nat.zero_le _⟩ ⟨rfl, rfl⟩
    · refine g_aload_n Z dX3_trace_16 0 rfl rfl ?_
      refine g_iload_n Z dX3_trace_17 3 rfl rfl ?_
      refine g_iconst Z dX3_trace_18 zi_0 ?_
      refine g_iconst Z dX3_trace_19 zi_1 ?_
      refine g_callVx (w' := [cO h 3 [.int (nI nb), .ref m1, .ref m2, .ref m3, .ref m4, .int (nI dn), .ref m5, .ref m6, .long (tg T)], cI E m1 4 (mN n), cI E m2 32 (gl K), cI E m3 32 (gl F), cI E m4 32 (gl G), cI E m5 12 D, cJ E m6 6 (tv T)]) Z (qX3_in E h m1 m2 m3 m4 m5 m6 nb dn T wh 0 1) iX3_in gX3_trace_X3_in ⟨rfl, rfl⟩ ⟨Nat.le_of_ble_eq_true rfl, Nat.le_of_ble_eq_true rfl⟩ dX3_trace_20 rfl rfl (Nat.le_of_ble_eq_true rfl) ⟨Nat.zero_le _, Nat.zero_le _⟩ [0] rfl rfl 0 rfl rfl rfl rfl rfl ?_
      refine g_ifb_ne (tgt := 30) Z dX3_trace_23 (by decide) (fun c_23 => ?_) (fun c_23 => ?_)
      · exact absurd ⟨c_5, c_13, in01' c_23⟩ hv
      · refine g_ldc2 Z dX3_trace_26 kX3_trace_87 ?_
        exact g_lret Z dX3_trace_29 rfl ⟨Nat.zero_le _, Nat.zero_le _⟩ ⟨rfl, rfl⟩

theorem nX3_trace_X3 : ∀ w ∈ wsX30, w ∈ wsX3_trace := by decide +kernel
theorem fX3_trace_13 : Cond.fieldLink RX3 13 (TX3 1).1 (TX3 1).2.1 (TX3 1).2.2.1 ∈ wsX3_trace := by decide +kernel
theorem fX3_trace_36 : Cond.fieldLink RX3 36 (TX3 8).1 (TX3 8).2.1 (TX3 8).2.2.1 ∈ wsX3_trace := by decide +kernel
set_option maxHeartbeats 4000000 in
set_option maxRecDepth 100000 in
theorem qX3_trace (E : zE) (h m1 m2 m3 m4 m5 m6 : Nat) (nb dn : Nat) (n : Nat → Nat) (K F G : Nat → Nat → Int32) (D : Nat → Int32) (T : TB) (j : Nat) (way wh : Int32) (hnb : nb ≤ 4) (hn : ∀ b, n b ≤ 8) (hj : j < nb) (hw : way = 0 ∨ way = 1) (hh : wh = 0 ∨ wh = 1) : zF E yX3_trace wsX3_trace rX3_trace [.ref h, .int (nI j), .int way, .int wh] [cO h 3 [.int (nI nb), .ref m1, .ref m2, .ref m3, .ref m4, .int (nI dn), .ref m5, .ref m6, .long (tg T)], cI E m1 4 (mN n), cI E m2 32 (gl K), cI E m3 32 (gl F), cI E m4 32 (gl G), cI E m5 12 D, cJ E m6 6 (tv T)] (fun ov wv => ov = some (.long (lowF (sumF (tabM (K j) (F j) (G j) way (n j))) (tg (tabM (K j) (F j) (G j) way (n j))) wh)) ∧ ∃ T2 : TB, wv = [cO h 3 [.int (nI nb), .ref m1, .ref m2, .ref m3, .ref m4, .int (nI dn), .ref m5, .ref m6, .long (tg T2)], cI E m1 4 (mN n), cI E m2 32 (gl K), cI E m3 32 (gl F), cI E m4 32 (gl G), cI E m5 12 D, cJ E m6 6 (tv T2)]) := by
  refine z_start RX3 "trace" (by decide) rfl rfl rfl (Nat.le_of_ble_eq_true rfl) ?_
  intro J Z
  refine g_eq Z (lv2 := [(0, .ref h), (1, .int (nI j)), (2, .int way), (3, .int wh)]) rfl rfl rfl ?_
  have hnj := hn j
  refine g_aload_n Z dX3_trace_0 0 rfl rfl ?_
  refine g_iload_n Z dX3_trace_1 1 rfl rfl ?_
  refine g_callVx (w' := [cO h 3 [.int (nI nb), .ref m1, .ref m2, .ref m3, .ref m4, .int (nI dn), .ref m5, .ref m6, .long (tg T)], cI E m1 4 (mN n), cI E m2 32 (gl K), cI E m3 32 (gl F), cI E m4 32 (gl G), cI E m5 12 D, cJ E m6 6 (tv T)]) Z (qX3_isBench E h m1 m2 m3 m4 m5 m6 nb dn T (nI j) (by omega)) iX3_isBench gX3_trace_X3_isBench ⟨rfl, rfl⟩ ⟨Nat.le_of_ble_eq_true rfl, Nat.le_of_ble_eq_true rfl⟩ dX3_trace_2 rfl rfl (Nat.le_of_ble_eq_true rfl) ⟨Nat.zero_le _, Nat.zero_le _⟩ [0] rfl rfl 0 rfl rfl rfl rfl rfl ?_
  refine g_ifb_eq (tgt := 26) Z dX3_trace_5 (by decide) (fun c_5 => absurd c_5 (fun q => q (inB_nI hj (by omega)))) (fun c_5 => ?_)
  refine g_aload_n Z dX3_trace_8 0 rfl rfl ?_
  refine g_iload_n Z dX3_trace_9 2 rfl rfl ?_
  refine g_callVx (w' := [cO h 3 [.int (nI nb), .ref m1, .ref m2, .ref m3, .ref m4, .int (nI dn), .ref m5, .ref m6, .long (tg T)], cI E m1 4 (mN n), cI E m2 32 (gl K), cI E m3 32 (gl F), cI E m4 32 (gl G), cI E m5 12 D, cJ E m6 6 (tv T)]) Z (qX3_isWay E h m1 m2 m3 m4 m5 m6 nb dn T way) iX3_isWay gX3_trace_X3_isWay ⟨rfl, rfl⟩ ⟨Nat.le_of_ble_eq_true rfl, Nat.le_of_ble_eq_true rfl⟩ dX3_trace_10 rfl rfl (Nat.le_of_ble_eq_true rfl) ⟨Nat.zero_le _, Nat.zero_le _⟩ [0] rfl rfl 0 rfl rfl rfl rfl rfl ?_
  refine g_ifb_eq (tgt := 26) Z dX3_trace_13 (by decide) (fun c_13 => absurd c_13 (fun q => q hw)) (fun c_13 => ?_)
  refine g_aload_n Z dX3_trace_16 0 rfl rfl ?_
  refine g_iload_n Z dX3_trace_17 3 rfl rfl ?_
  refine g_iconst Z dX3_trace_18 zi_0 ?_
  refine g_iconst Z dX3_trace_19 zi_1 ?_
  refine g_callVx (w' := [cO h 3 [.int (nI nb), .ref m1, .ref m2, .ref m3, .ref m4, .int (nI dn), .ref m5, .ref m6, .long (tg T)], cI E m1 4 (mN n), cI E m2 32 (gl K), cI E m3 32 (gl F), cI E m4 32 (gl G), cI E m5 12 D, cJ E m6 6 (tv T)]) Z (qX3_in E h m1 m2 m3 m4 m5 m6 nb dn T wh 0 1) iX3_in gX3_trace_X3_in ⟨rfl, rfl⟩ ⟨Nat.le_of_ble_eq_true rfl, Nat.le_of_ble_eq_true rfl⟩ dX3_trace_20 rfl rfl (Nat.le_of_ble_eq_true rfl) ⟨Nat.zero_le _, Nat.zero_le _⟩ [0] rfl rfl 0 rfl rfl rfl rfl rfl ?_
  refine g_ifb_ne (tgt := 30) Z dX3_trace_23 (by decide) (fun c_23 => ?_) (fun c_23 => absurd c_23 (fun z => z (in01 hh)))
  refine g_aload_n Z dX3_trace_30 0 rfl rfl ?_
  refine g_iload_n Z dX3_trace_31 1 rfl rfl ?_
  refine g_iload_n Z dX3_trace_32 2 rfl rfl ?_
  refine g_iconst Z dX3_trace_33 zi_0 ?_
  refine g_aload_n Z dX3_trace_34 0 rfl rfl ?_
  refine g_get Z dX3_trace_35 0 rfl rfl nX3_trace_X3 1 (by decide) fX3_trace_13 rfl ?_
  refine g_iload_n Z dX3_trace_38 1 rfl rfl ?_
  refine g_ialdE (v := nI (n j)) Z dX3_trace_39 1 rfl j rfl (by omega) rfl rfl ?_
  refine g_callVx (w' := [cO h 3 [.int (nI nb), .ref m1, .ref m2, .ref m3, .ref m4, .int (nI dn), .ref m5, .ref m6, .long (tg (tabM (K j) (F j) (G j) way (n j)))], cI E m1 4 (mN n), cI E m2 32 (gl K), cI E m3 32 (gl F), cI E m4 32 (gl G), cI E m5 12 D, cJ E m6 6 (tv (tabM (K j) (F j) (G j) way (n j)))]) Z (qX3_workT E h m1 m2 m3 m4 m5 m6 nb dn n K F G D T j way hnj (by omega)) iX3_work gX3_trace_X3_work ⟨rfl, rfl⟩ ⟨Nat.le_of_ble_eq_true rfl, Nat.le_of_ble_eq_true rfl⟩ dX3_trace_40 rfl rfl (Nat.le_of_ble_eq_true rfl) ⟨Nat.zero_le _, Nat.zero_le _⟩ [0, 1, 2, 3, 4, 5, 6] rfl rfl 0 rfl rfl rfl rfl rfl ?_
  refine g_aload_n Z dX3_trace_43 0 rfl rfl ?_
  refine g_aload_n Z dX3_trace_44 0 rfl rfl ?_
  refine g_callVx (w' := [cO h 3 [.int (nI nb), .ref m1, .ref m2, .ref m3, .ref m4, .int (nI dn), .ref m5, .ref m6, .long (tg (tabM (K j) (F j) (G j) way (n j)))], cI E m1 4 (mN n), cI E m2 32 (gl K), cI E m3 32 (gl F), cI E m4 32 (gl G), cI E m5 12 D, cJ E m6 6 (tv (tabM (K j) (F j) (G j) way (n j)))]) Z (qX3_traceOf E h m1 m2 m3 m4 m5 m6 nb dn (tabM (K j) (F j) (G j) way (n j))) iX3_traceOf gX3_trace_X3_traceOf ⟨rfl, rfl⟩ ⟨Nat.le_of_ble_eq_true rfl, Nat.le_of_ble_eq_true rfl⟩ dX3_trace_45 rfl rfl (Nat.le_of_ble_eq_true rfl) ⟨Nat.zero_le _, Nat.zero_le _⟩ [0, 6] rfl rfl 0 rfl rfl rfl rfl rfl ?_
  refine g_aload_n Z dX3_trace_48 0 rfl rfl ?_
  refine g_get Z dX3_trace_49 0 rfl rfl nX3_trace_X3 8 (by decide) fX3_trace_36 rfl ?_
  refine g_iload_n Z dX3_trace_52 3 rfl rfl ?_
  refine g_callVx (w' := [cO h 3 [.int (nI nb), .ref m1, .ref m2, .ref m3, .ref m4, .int (nI dn), .ref m5, .ref m6, .long (tg (tabM (K j) (F j) (G j) way (n j)))], cI E m1 4 (mN n), cI E m2 32 (gl K), cI E m3 32 (gl F), cI E m4 32 (gl G), cI E m5 12 D, cJ E m6 6 (tv (tabM (K j) (F j) (G j) way (n j)))]) Z (qX3_lowest E h m1 m2 m3 m4 m5 m6 nb dn (tabM (K j) (F j) (G j) way (n j)) (sumF (tabM (K j) (F j) (G j) way (n j))) (tg (tabM (K j) (F j) (G j) way (n j))) wh) iX3_lowest gX3_trace_X3_lowest ⟨rfl, rfl⟩ ⟨Nat.le_of_ble_eq_true rfl, Nat.le_of_ble_eq_true rfl⟩ dX3_trace_53 rfl rfl (Nat.le_of_ble_eq_true rfl) ⟨Nat.zero_le _, Nat.zero_le _⟩ [0] rfl rfl 0 rfl rfl rfl rfl rfl ?_
  exact g_lret Z dX3_trace_56 rfl ⟨Nat.zero_le _, Nat.zero_le _⟩ ⟨rfl, _, rfl⟩

abbrev rX3_turns : Room := { frames := 3, cells := 0, slots := 0, locals := 78 }
theorem iX3_turns : zInfo yX3_turns wsX3_turns RX3 3 (some .int) 2 := ⟨_, _, rfl, by decide +kernel⟩
set_option maxHeartbeats 4000000 in
set_option maxRecDepth 100000 in
theorem qX3_turnsN (E : zE) (h m1 m2 m3 m4 m5 m6 : Nat) (nb dn : Nat) (n : Nat → Nat) (K F G : Nat → Nat → Int32) (D : Nat → Int32) (T : TB) (b way : Int32) (hnb : nb ≤ 4) (hn : ∀ b, n b ≤ 8) (hv : ¬ (inB nb b ∧ (way = 0 ∨ way = 1))) : zF E yX3_turns wsX3_turns rX3_turns [.ref h, .int b, .int way] [cO h 3 [.int (nI nb), .ref m1, .ref m2, .ref m3, .ref m4, .int (nI dn), .ref m5, .ref m6, .long (tg T)], cI E m1 4 (mN n), cI E m2 32 (gl K), cI E m3 32 (gl F), cI E m4 32 (gl G), cI E m5 12 D, cJ E m6 6 (tv T)] (zx (some (.int (-1))) ([cO h 3 [.int (nI nb), .ref m1, .ref m2, .ref m3, .ref m4, .int (nI dn), .ref m5, .ref m6, .long (tg T)], cI E m1 4 (mN n), cI E m2 32 (gl K), cI E m3 32 (gl F), cI E m4 32 (gl G), cI E m5 12 D, cJ E m6 6 (tv T)])) := by
  refine z_start RX3 "turns" (by decide) rfl rfl rfl (Nat.le_of_ble_eq_true rfl) ?_
  intro J Z
  refine g_eq Z (lv2 := [(0, .ref h), (1, .int b), (2, .int way)]) rfl rfl rfl ?_
  refine g_aload_n Z dX3_turns_0 0 rfl rfl ?_
  refine g_iload_n Z dX3_turns_1 1 rfl rfl ?_
  refine g_callVx (w' := [cO h 3 [.int (nI nb), .ref m1, .ref m2, .ref m3, .ref m4, .int (nI dn), .ref m5, .ref m6, .long (tg T)], cI E m1 4 (mN n), cI E m2 32 (gl K), cI E m3 32 (gl F), cI E m4 32 (gl G), cI E m5 12 D, cJ E m6 6 (tv T)]) Z (qX3_isBench E h m1 m2 m3 m4 m5 m6 nb dn T b (by omega)) iX3_isBench gX3_turns_X3_isBench ⟨rfl, rfl⟩ ⟨Nat.le_of_ble_eq_true rfl, Nat.le_of_ble_eq_true rfl⟩ dX3_turns_2 rfl rfl (Nat.le_of_ble_eq_true rfl) ⟨Nat.zero_le _, Nat.zero_le _⟩ [0] rfl rfl 0 rfl rfl rfl rfl rfl ?_
  refine g_ifb_eq (tgt := 16) Z dX3_turns_5 (by decide) (fun c_5 => ?_) (fun c_5 => ?_)
  · refine g_iconst Z dX3_turns_16 zi_m1 ?_
    exact g_iret Z dX3_turns_17 rfl ⟨Nat.zero_le _, Nat.zero_le _⟩ ⟨rfl, rfl⟩
  · refine g_aload_n Z dX3_turns_8 0 rfl rfl ?_
    refine g_iload_n Z dX3_turns_9 2 rfl rfl ?_
    refine g_callVx (w' := [cO h 3 [.int (nI nb), .ref m1, .ref m2, .ref m3, .ref m4, .int (nI dn), .ref m5, .ref m6, .long (tg T)], cI E m1 4 (mN n), cI E m2 32 (gl K), cI E m3 32 (gl F), cI E m4 32 (gl G), cI E m5 12 D, cJ E m6 6 (tv T)]) Z (qX3_isWay E h m1 m2 m3 m4 m5 m6 nb dn T way) iX3_isWay gX3_turns_X3_isWay ⟨rfl, rfl⟩ ⟨Nat.le_of_ble_eq_true rfl, Nat.le_of_ble_eq_true rfl⟩ dX3_turns_10 rfl rfl (Nat.le_of_ble_eq_true rfl) ⟨Nat.zero_le _, Nat.zero_le _⟩ [0] rfl rfl 0 rfl rfl rfl rfl rfl ?_
    refine g_ifb_ne (tgt := 18) Z dX3_turns_13 (by decide) (fun c_13 => ?_) (fun c_13 => ?_)
    · exact absurd ⟨c_5, c_13⟩ hv
    · refine g_iconst Z dX3_turns_16 zi_m1 ?_
      exact g_iret Z dX3_turns_17 rfl ⟨Nat.zero_le _, Nat.zero_le _⟩ ⟨rfl, rfl⟩

theorem nX3_turns_X3 : ∀ w ∈ wsX30, w ∈ wsX3_turns := by decide +kernel
theorem fX3_turns_13 : Cond.fieldLink RX3 13 (TX3 1).1 (TX3 1).2.1 (TX3 1).2.2.1 ∈ wsX3_turns := by decide +kernel
theorem kX3_turns_119 : Cond.constantLong RX3 119 (-1) ∈ wsX3_turns := by decide +kernel
theorem fX3_turns_36 : Cond.fieldLink RX3 36 (TX3 8).1 (TX3 8).2.1 (TX3 8).2.2.1 ∈ wsX3_turns := by decide +kernel
set_option maxHeartbeats 4000000 in
set_option maxRecDepth 100000 in
theorem qX3_turns (E : zE) (h m1 m2 m3 m4 m5 m6 : Nat) (nb dn : Nat) (n : Nat → Nat) (K F G : Nat → Nat → Int32) (D : Nat → Int32) (T : TB) (j : Nat) (way : Int32) (hnb : nb ≤ 4) (hn : ∀ b, n b ≤ 8) (hj : j < nb) (hw : way = 0 ∨ way = 1) : zF E yX3_turns wsX3_turns rX3_turns [.ref h, .int (nI j), .int way] [cO h 3 [.int (nI nb), .ref m1, .ref m2, .ref m3, .ref m4, .int (nI dn), .ref m5, .ref m6, .long (tg T)], cI E m1 4 (mN n), cI E m2 32 (gl K), cI E m3 32 (gl F), cI E m4 32 (gl G), cI E m5 12 D, cJ E m6 6 (tv T)] (fun ov wv => ov = some (.int (rndF (tabM (K j) (F j) (G j) way (n j)))) ∧ ∃ T2 : TB, wv = [cO h 3 [.int (nI nb), .ref m1, .ref m2, .ref m3, .ref m4, .int (nI dn), .ref m5, .ref m6, .long (tg T2)], cI E m1 4 (mN n), cI E m2 32 (gl K), cI E m3 32 (gl F), cI E m4 32 (gl G), cI E m5 12 D, cJ E m6 6 (tv T2)]) := by
  refine z_start RX3 "turns" (by decide) rfl rfl rfl (Nat.le_of_ble_eq_true rfl) ?_
  intro J Z
  refine g_eq Z (lv2 := [(0, .ref h), (1, .int (nI j)), (2, .int way)]) rfl rfl rfl ?_
  have hnj := hn j
  refine g_aload_n Z dX3_turns_0 0 rfl rfl ?_
  refine g_iload_n Z dX3_turns_1 1 rfl rfl ?_
  refine g_callVx (w' := [cO h 3 [.int (nI nb), .ref m1, .ref m2, .ref m3, .ref m4, .int (nI dn), .ref m5, .ref m6, .long (tg T)], cI E m1 4 (mN n), cI E m2 32 (gl K), cI E m3 32 (gl F), cI E m4 32 (gl G), cI E m5 12 D, cJ E m6 6 (tv T)]) Z (qX3_isBench E h m1 m2 m3 m4 m5 m6 nb dn T (nI j) (by omega)) iX3_isBench gX3_turns_X3_isBench ⟨rfl, rfl⟩ ⟨Nat.le_of_ble_eq_true rfl, Nat.le_of_ble_eq_true rfl⟩ dX3_turns_2 rfl rfl (Nat.le_of_ble_eq_true rfl) ⟨Nat.zero_le _, Nat.zero_le _⟩ [0] rfl rfl 0 rfl rfl rfl rfl rfl ?_
  refine g_ifb_eq (tgt := 16) Z dX3_turns_5 (by decide) (fun c_5 => absurd c_5 (fun q => q (inB_nI hj (by omega)))) (fun c_5 => ?_)
  refine g_aload_n Z dX3_turns_8 0 rfl rfl ?_
  refine g_iload_n Z dX3_turns_9 2 rfl rfl ?_
  refine g_callVx (w' := [cO h 3 [.int (nI nb), .ref m1, .ref m2, .ref m3, .ref m4, .int (nI dn), .ref m5, .ref m6, .long (tg T)], cI E m1 4 (mN n), cI E m2 32 (gl K), cI E m3 32 (gl F), cI E m4 32 (gl G), cI E m5 12 D, cJ E m6 6 (tv T)]) Z (qX3_isWay E h m1 m2 m3 m4 m5 m6 nb dn T way) iX3_isWay gX3_turns_X3_isWay ⟨rfl, rfl⟩ ⟨Nat.le_of_ble_eq_true rfl, Nat.le_of_ble_eq_true rfl⟩ dX3_turns_10 rfl rfl (Nat.le_of_ble_eq_true rfl) ⟨Nat.zero_le _, Nat.zero_le _⟩ [0] rfl rfl 0 rfl rfl rfl rfl rfl ?_
  refine g_ifb_ne (tgt := 18) Z dX3_turns_13 (by decide) (fun c_13 => ?_) (fun c_13 => absurd c_13 (fun q => q hw))
  refine g_aload_n Z dX3_turns_18 0 rfl rfl ?_
  refine g_iload_n Z dX3_turns_19 1 rfl rfl ?_
  refine g_iload_n Z dX3_turns_20 2 rfl rfl ?_
  refine g_iconst Z dX3_turns_21 zi_0 ?_
  refine g_aload_n Z dX3_turns_22 0 rfl rfl ?_
  refine g_get Z dX3_turns_23 0 rfl rfl nX3_turns_X3 1 (by decide) fX3_turns_13 rfl ?_
  refine g_iload_n Z dX3_turns_26 1 rfl rfl ?_
  refine g_ialdE (v := nI (n j)) Z dX3_turns_27 1 rfl j rfl (by omega) rfl rfl ?_
  refine g_callVx (w' := [cO h 3 [.int (nI nb), .ref m1, .ref m2, .ref m3, .ref m4, .int (nI dn), .ref m5, .ref m6, .long (tg (tabM (K j) (F j) (G j) way (n j)))], cI E m1 4 (mN n), cI E m2 32 (gl K), cI E m3 32 (gl F), cI E m4 32 (gl G), cI E m5 12 D, cJ E m6 6 (tv (tabM (K j) (F j) (G j) way (n j)))]) Z (qX3_workT E h m1 m2 m3 m4 m5 m6 nb dn n K F G D T j way hnj (by omega)) iX3_work gX3_turns_X3_work ⟨rfl, rfl⟩ ⟨Nat.le_of_ble_eq_true rfl, Nat.le_of_ble_eq_true rfl⟩ dX3_turns_28 rfl rfl (Nat.le_of_ble_eq_true rfl) ⟨Nat.zero_le _, Nat.zero_le _⟩ [0, 1, 2, 3, 4, 5, 6] rfl rfl 0 rfl rfl rfl rfl rfl ?_
  refine g_aload_n Z dX3_turns_31 0 rfl rfl ?_
  refine g_lconst Z dX3_turns_32 zl_1 ?_
  refine g_callVx (w' := [cO h 3 [.int (nI nb), .ref m1, .ref m2, .ref m3, .ref m4, .int (nI dn), .ref m5, .ref m6, .long (tg (tabM (K j) (F j) (G j) way (n j)))], cI E m1 4 (mN n), cI E m2 32 (gl K), cI E m3 32 (gl F), cI E m4 32 (gl G), cI E m5 12 D, cJ E m6 6 (tv (tabM (K j) (F j) (G j) way (n j)))]) Z (qX3_isPlain1 E h m1 m2 m3 m4 m5 m6 nb dn (tabM (K j) (F j) (G j) way (n j))) iX3_isPlain gX3_turns_X3_isPlain ⟨rfl, rfl⟩ ⟨Nat.le_of_ble_eq_true rfl, Nat.le_of_ble_eq_true rfl⟩ dX3_turns_33 rfl rfl (Nat.le_of_ble_eq_true rfl) ⟨Nat.zero_le _, Nat.zero_le _⟩ [0, 6] rfl rfl 0 rfl rfl rfl rfl rfl ?_
  refine g_ifb_eq (tgt := 41) Z dX3_turns_36 (by decide) (fun c_36 => ?_) (fun c_36 => ?_)
  · refine g_aload_n Z dX3_turns_41 0 rfl rfl ?_
    refine g_ldc2 Z dX3_turns_42 kX3_turns_119 ?_
    refine g_callVx (w' := [cO h 3 [.int (nI nb), .ref m1, .ref m2, .ref m3, .ref m4, .int (nI dn), .ref m5, .ref m6, .long (tg (tabM (K j) (F j) (G j) way (n j)))], cI E m1 4 (mN n), cI E m2 32 (gl K), cI E m3 32 (gl F), cI E m4 32 (gl G), cI E m5 12 D, cJ E m6 6 (tv (tabM (K j) (F j) (G j) way (n j)))]) Z (qX3_isPlainM E h m1 m2 m3 m4 m5 m6 nb dn (tabM (K j) (F j) (G j) way (n j))) iX3_isPlain gX3_turns_X3_isPlain ⟨rfl, rfl⟩ ⟨Nat.le_of_ble_eq_true rfl, Nat.le_of_ble_eq_true rfl⟩ dX3_turns_45 rfl rfl (Nat.le_of_ble_eq_true rfl) ⟨Nat.zero_le _, Nat.zero_le _⟩ [0, 6] rfl rfl 0 rfl rfl rfl rfl rfl ?_
    refine g_ifb_eq (tgt := 53) Z dX3_turns_48 (by decide) (fun c_48 => ?_) (fun c_48 => ?_)
    · refine g_aload_n Z dX3_turns_53 0 rfl rfl ?_
      refine g_callVx (w' := [cO h 3 [.int (nI nb), .ref m1, .ref m2, .ref m3, .ref m4, .int (nI dn), .ref m5, .ref m6, .long (tg (tabM (K j) (F j) (G j) way (n j)))], cI E m1 4 (mN n), cI E m2 32 (gl K), cI E m3 32 (gl F), cI E m4 32 (gl G), cI E m5 12 D, cJ E m6 6 (tv (tabM (K j) (F j) (G j) way (n j)))]) Z (qX3_traceOf E h m1 m2 m3 m4 m5 m6 nb dn (tabM (K j) (F j) (G j) way (n j))) iX3_traceOf gX3_turns_X3_traceOf ⟨rfl, rfl⟩ ⟨Nat.le_of_ble_eq_true rfl, Nat.le_of_ble_eq_true rfl⟩ dX3_turns_54 rfl rfl (Nat.le_of_ble_eq_true rfl) ⟨Nat.zero_le _, Nat.zero_le _⟩ [0, 6] rfl rfl 0 rfl rfl rfl rfl rfl ?_
      refine g_aload_n Z dX3_turns_57 0 rfl rfl ?_
      refine g_get Z dX3_turns_58 0 rfl rfl nX3_turns_X3 8 (by decide) fX3_turns_36 rfl ?_
      refine g_lneg Z dX3_turns_61 ?_
      refine g_lcmp_ne (tgt := 70) Z dX3_turns_62 dX3_turns_63 rfl (by decide) (fun c_63 => ?_) (fun c_63 => ?_)
      · refine g_aload_n Z dX3_turns_70 0 rfl rfl ?_
        refine g_callVx (w' := [cO h 3 [.int (nI nb), .ref m1, .ref m2, .ref m3, .ref m4, .int (nI dn), .ref m5, .ref m6, .long (tg (tabM (K j) (F j) (G j) way (n j)))], cI E m1 4 (mN n), cI E m2 32 (gl K), cI E m3 32 (gl F), cI E m4 32 (gl G), cI E m5 12 D, cJ E m6 6 (tv (tabM (K j) (F j) (G j) way (n j)))]) Z (qX3_traceOf E h m1 m2 m3 m4 m5 m6 nb dn (tabM (K j) (F j) (G j) way (n j))) iX3_traceOf gX3_turns_X3_traceOf ⟨rfl, rfl⟩ ⟨Nat.le_of_ble_eq_true rfl, Nat.le_of_ble_eq_true rfl⟩ dX3_turns_71 rfl rfl (Nat.le_of_ble_eq_true rfl) ⟨Nat.zero_le _, Nat.zero_le _⟩ [0, 6] rfl rfl 0 rfl rfl rfl rfl rfl ?_
        refine g_lconst Z dX3_turns_74 zl_0 ?_
        refine g_lcmp_ne (tgt := 83) Z dX3_turns_75 dX3_turns_76 rfl (by decide) (fun c_76 => ?_) (fun c_76 => ?_)
        · refine g_aload_n Z dX3_turns_83 0 rfl rfl ?_
          refine g_callVx (w' := [cO h 3 [.int (nI nb), .ref m1, .ref m2, .ref m3, .ref m4, .int (nI dn), .ref m5, .ref m6, .long (tg (tabM (K j) (F j) (G j) way (n j)))], cI E m1 4 (mN n), cI E m2 32 (gl K), cI E m3 32 (gl F), cI E m4 32 (gl G), cI E m5 12 D, cJ E m6 6 (tv (tabM (K j) (F j) (G j) way (n j)))]) Z (qX3_traceOf E h m1 m2 m3 m4 m5 m6 nb dn (tabM (K j) (F j) (G j) way (n j))) iX3_traceOf gX3_turns_X3_traceOf ⟨rfl, rfl⟩ ⟨Nat.le_of_ble_eq_true rfl, Nat.le_of_ble_eq_true rfl⟩ dX3_turns_84 rfl rfl (Nat.le_of_ble_eq_true rfl) ⟨Nat.zero_le _, Nat.zero_le _⟩ [0, 6] rfl rfl 0 rfl rfl rfl rfl rfl ?_
          refine g_aload_n Z dX3_turns_87 0 rfl rfl ?_
          refine g_get Z dX3_turns_88 0 rfl rfl nX3_turns_X3 8 (by decide) fX3_turns_36 rfl ?_
          refine g_lcmp_ne (tgt := 100) Z dX3_turns_91 dX3_turns_92 rfl (by decide) (fun c_92 => ?_) (fun c_92 => ?_)
          · refine g_iconst Z dX3_turns_100 zi_0 ?_
            exact g_iret Z dX3_turns_101 rfl ⟨Nat.zero_le _, Nat.zero_le _⟩ ⟨congrArg (fun v => some (Value.int v)) (by rw [rndF, if_neg c_36, if_neg c_48, if_neg c_63, if_neg c_76, if_neg c_92]), _, rfl⟩
          · refine g_bipush Z dX3_turns_95 zb_6 ?_
            refine g_goto (tgt := 101) Z dX3_turns_97 (by decide) ?_
            exact g_iret Z dX3_turns_101 rfl ⟨Nat.zero_le _, Nat.zero_le _⟩ ⟨congrArg (fun v => some (Value.int v)) (by rw [rndF, if_neg c_36, if_neg c_48, if_neg c_63, if_neg c_76, if_pos c_92]), _, rfl⟩
        · refine g_iconst Z dX3_turns_79 zi_4 ?_
          refine g_goto (tgt := 101) Z dX3_turns_80 (by decide) ?_
          exact g_iret Z dX3_turns_101 rfl ⟨Nat.zero_le _, Nat.zero_le _⟩ ⟨congrArg (fun v => some (Value.int v)) (by rw [rndF, if_neg c_36, if_neg c_48, if_neg c_63, if_pos c_76]), _, rfl⟩
      · refine g_iconst Z dX3_turns_66 zi_3 ?_
        refine g_goto (tgt := 101) Z dX3_turns_67 (by decide) ?_
        exact g_iret Z dX3_turns_101 rfl ⟨Nat.zero_le _, Nat.zero_le _⟩ ⟨congrArg (fun v => some (Value.int v)) (by rw [rndF, if_neg c_36, if_neg c_48, if_pos c_63]), _, rfl⟩
    · refine g_iconst Z dX3_turns_51 zi_2 ?_
      exact g_iret Z dX3_turns_52 rfl ⟨Nat.zero_le _, Nat.zero_le _⟩ ⟨congrArg (fun v => some (Value.int v)) (by rw [rndF, if_neg c_36, if_pos c_48]), _, rfl⟩
  · refine g_iconst Z dX3_turns_39 zi_1 ?_
    exact g_iret Z dX3_turns_40 rfl ⟨Nat.zero_le _, Nat.zero_le _⟩ ⟨congrArg (fun v => some (Value.int v)) (by rw [rndF, if_pos c_36]), _, rfl⟩
