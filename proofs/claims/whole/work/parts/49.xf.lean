def cntX (K F G : Nat → Nat → Int32) (n : Nat → Nat) : Nat → Nat
  | 0 => 0
  | b + 1 => cntX K F G n b + if hldX (K b) (F b) (G b) (n b) then 1 else 0
abbrev rX2_partsOfAll : Room := { frames := 0, cells := 0, slots := 0, locals := 0 }
theorem iX2_partsOfAll : zInfo yX2_partsOfAll wsX2_partsOfAll RX2 6 (some .int) 0 := ⟨_, _, rfl, by decide +kernel⟩
theorem nX2_partsOfAll_X0 : ∀ w ∈ wsX00, w ∈ wsX2_partsOfAll := by decide +kernel
theorem fX2_partsOfAll_43 : Cond.fieldLink RX2 43 (TX0 3).1 (TX0 3).2.1 (TX0 3).2.2.1 ∈ wsX2_partsOfAll := by decide +kernel
theorem nX2_partsOfAll_X2 : ∀ w ∈ wsX20, w ∈ wsX2_partsOfAll := by decide +kernel
theorem fX2_partsOfAll_13 : Cond.fieldLink RX2 13 (TX2 0).1 (TX2 0).2.1 (TX2 0).2.2.1 ∈ wsX2_partsOfAll := by decide +kernel
set_option maxHeartbeats 4000000 in
set_option maxRecDepth 100000 in
theorem lX2_partsOfAll (E : zE) (x rw ln t1 t2 : Nat) (nb dn : Nat) (ad : zAd) (n : Nat → Nat) (K F G : Nat → Nat → Int32) (D : Nat → Int32) (A B : TB) (hnb : nb ≤ 4) (hn : ∀ b, n b ≤ 8) {J : zJ} (Z : zOk E J RX2 cX2_partsOfAll 6 (some .int) wsX2_partsOfAll rX2_partsOfAll "partsOfAll" (fun _ => True) (fun ov wv => ov = some (.int (nI (sumN n nb))) ∧ ∃ A2 B2 : TB, wv = (cO x 2 [.ref rw, .int (nI nb), .ref ln, .int (nI dn), .ref t1, .ref t2]) :: (cQ E rw 4 (rfF ad nb)) :: (cI E ln 12 D) :: (cO t1 1 [.long (ta A2), .long (tb A2), .long (tc A2), .long (td A2), .long (te A2), .long (tf A2), .long (tg A2)]) :: (cO t2 1 [.long (ta B2), .long (tb B2), .long (tc B2), .long (td B2), .long (te B2), .long (tf B2), .long (tg B2)]) :: (rowsW E ad n K F G (List.range nb)))) : ∀ (d : Nat) (q : Nat), q + d = 4 → J 0 0 ((cO x 2 [.ref rw, .int (nI nb), .ref ln, .int (nI dn), .ref t1, .ref t2]) :: (cQ E rw 4 (rfF ad nb)) :: (cI E ln 12 D) :: (cO t1 1 [.long (ta A), .long (tb A), .long (tc A), .long (td A), .long (te A), .long (tf A), .long (tg A)]) :: (cO t2 1 [.long (ta B), .long (tb B), .long (tc B), .long (td B), .long (te B), .long (tf B), .long (tg B)]) :: (rowsW E ad n K F G (List.range nb))) 13 [(4, .int (nI q)), (3, .int 4), (2, .ref rw), (1, .int (nI (sumN n (min q nb)))), (0, .ref x)] [] := by
  intro d
  induction d with
  | zero =>
    intro q h1
    have e_q : min q nb = nb := by omega
    refine g_iload Z dX2_partsOfAll_13 0 rfl ?_
    refine g_iload_n Z dX2_partsOfAll_15 1 rfl rfl ?_
    refine g_icmpN_ge (tgt := 44) Z dX2_partsOfAll_16 (by decide) q 4 rfl rfl (by omega) (by omega) (fun c_16 => ?_) (fun c_16 => absurd c_16 (by omega))
    refine g_iload_n Z dX2_partsOfAll_44 3 rfl rfl ?_
    exact g_iret Z dX2_partsOfAll_45 rfl ⟨Nat.zero_le _, Nat.zero_le _⟩ ⟨by rw [e_q], _, _, rfl⟩
  | succ d ih =>
    intro q h1
    by_cases hq : q < nb
    · refine g_iload Z dX2_partsOfAll_13 0 rfl ?_
      refine g_iload_n Z dX2_partsOfAll_15 1 rfl rfl ?_
      refine g_icmpN_ge (tgt := 44) Z dX2_partsOfAll_16 (by decide) q 4 rfl rfl (by omega) (by omega) (fun c_16 => absurd c_16 (by omega)) (fun c_16 => ?_)
      refine g_aload_n Z dX2_partsOfAll_19 2 rfl rfl ?_
      refine g_iload Z dX2_partsOfAll_20 0 rfl ?_
      refine g_aaldE (v := .ref (ad q).1) Z dX2_partsOfAll_22 1 rfl q rfl (by omega) rfl (by rw [rfF_in hq]; rfl) ?_
      refine g_astore (lv' := [(5, .ref ((ad q).1)), (4, .int (nI q)), (3, .int 4), (2, .ref rw), (1, .int (nI (sumN n (min q nb)))), (0, .ref x)]) Z dX2_partsOfAll_23 (by decide) rfl ?_
      refine g_perm (w2 := (cO x 2 [.ref rw, .int (nI nb), .ref ln, .int (nI dn), .ref t1, .ref t2]) :: (cQ E rw 4 (rfF ad nb)) :: (cI E ln 12 D) :: (cO t1 1 [.long (ta A), .long (tb A), .long (tc A), .long (td A), .long (te A), .long (tf A), .long (tg A)]) :: (cO t2 1 [.long (ta B), .long (tb B), .long (tc B), .long (td B), .long (te B), .long (tf B), .long (tg B)]) :: (cO ((ad q).1) 0 [.ref ((ad q).2.1), .ref ((ad q).2.2.1), .ref ((ad q).2.2.2), .int (nI (n q))]) :: (cI E ((ad q).2.1) 8 (K q)) :: (cI E ((ad q).2.2.1) 8 (F q)) :: (cI E ((ad q).2.2.2) 8 (G q)) :: (rowsW E ad n K F G ((List.range nb).erase q))) Z (((((rows_open (List.mem_range.mpr hq)).cons _).cons _).cons _).cons _ |>.cons _) ?_
      refine g_aload Z dX2_partsOfAll_25 0 rfl ?_
      refine g_ifnull Z dX2_partsOfAll_27 ?_
      refine g_iload_n Z dX2_partsOfAll_30 4 rfl rfl ?_
      refine g_aload Z dX2_partsOfAll_31 0 rfl ?_
      refine g_get Z dX2_partsOfAll_33 5 rfl rfl nX2_partsOfAll_X0 3 (by decide) fX2_partsOfAll_43 rfl ?_
      refine g_iaddE (z := nI (sumN n (min q nb) + (n q))) Z dX2_partsOfAll_36 (nI_add (sumN n (min q nb)) (n q)) ?_
      refine g_istore_n (lv' := [(1, .int (nI (sumN n (min q nb) + (n q)))), (5, .ref ((ad q).1)), (4, .int (nI q)), (3, .int 4), (2, .ref rw), (0, .ref x)]) Z dX2_partsOfAll_37 rfl (by decide) rfl ?_
      refine g_iinc (lv' := [(4, .int (nI (q + 1))), (1, .int (nI (sumN n (min q nb) + (n q)))), (5, .ref ((ad q).1)), (3, .int 4), (2, .ref rw), (0, .ref x)]) Z dX2_partsOfAll_38 2 rfl (zinc _) (by decide) rfl ?_
      refine g_goto (tgt := 13) Z dX2_partsOfAll_41 (by decide) ?_
      refine g_perm (w2 := (cO x 2 [.ref rw, .int (nI nb), .ref ln, .int (nI dn), .ref t1, .ref t2]) :: (cQ E rw 4 (rfF ad nb)) :: (cI E ln 12 D) :: (cO t1 1 [.long (ta A), .long (tb A), .long (tc A), .long (td A), .long (te A), .long (tf A), .long (tg A)]) :: (cO t2 1 [.long (ta B), .long (tb B), .long (tc B), .long (td B), .long (te B), .long (tf B), .long (tg B)]) :: (rowsW E ad n K F G (List.range nb))) Z (((((rows_open (List.mem_range.mpr hq)).cons _).cons _).cons _).cons _ |>.cons _).symm ?_
      have e_s : sumN n (min (q + 1) nb) = sumN n (min q nb) + n q := by rw [show min (q + 1) nb = q + 1 by omega, show min q nb = q by omega]; rfl
      refine g_lv (lv2 := [(4, .int (nI (q + 1))), (3, .int 4), (2, .ref rw), (1, .int (nI (sumN n (min q nb) + (n q)))), (0, .ref x)]) Z [0, 3, 4, 1, 5] rfl ?_
      rw [← e_s]
      exact ih (q + 1) (by omega)
    · refine g_iload Z dX2_partsOfAll_13 0 rfl ?_
      refine g_iload_n Z dX2_partsOfAll_15 1 rfl rfl ?_
      refine g_icmpN_ge (tgt := 44) Z dX2_partsOfAll_16 (by decide) q 4 rfl rfl (by omega) (by omega) (fun c_16 => absurd c_16 (by omega)) (fun c_16 => ?_)
      refine g_aload_n Z dX2_partsOfAll_19 2 rfl rfl ?_
      refine g_iload Z dX2_partsOfAll_20 0 rfl ?_
      refine g_aaldE (v := .null) Z dX2_partsOfAll_22 1 rfl q rfl (by omega) rfl (by rw [rfF_out (by omega)]; rfl) ?_
      refine g_astoreN (lv' := [(5, .null), (4, .int (nI q)), (3, .int 4), (2, .ref rw), (1, .int (nI (sumN n (min q nb)))), (0, .ref x)]) Z dX2_partsOfAll_23 (by decide) rfl ?_
      refine g_aloadN Z dX2_partsOfAll_25 0 rfl ?_
      refine g_ifnullN (tgt := 38) Z dX2_partsOfAll_27 (by decide) ?_
      refine g_iinc (lv' := [(4, .int (nI (q + 1))), (5, .null), (3, .int 4), (2, .ref rw), (1, .int (nI (sumN n (min q nb)))), (0, .ref x)]) Z dX2_partsOfAll_38 1 rfl (zinc _) (by decide) rfl ?_
      refine g_goto (tgt := 13) Z dX2_partsOfAll_41 (by decide) ?_
      have e_s : sumN n (min (q + 1) nb) = sumN n (min q nb) := by rw [show min (q + 1) nb = nb by omega, show min q nb = nb by omega]
      refine g_lv (lv2 := [(4, .int (nI (q + 1))), (3, .int 4), (2, .ref rw), (1, .int (nI (sumN n (min q nb)))), (0, .ref x)]) Z [0, 2, 3, 4, 5] rfl ?_
      rw [← e_s]
      exact ih (q + 1) (by omega)
set_option maxHeartbeats 4000000 in
set_option maxRecDepth 100000 in
theorem qX2_partsOfAll (E : zE) (x rw ln t1 t2 : Nat) (nb dn : Nat) (ad : zAd) (n : Nat → Nat) (K F G : Nat → Nat → Int32) (D : Nat → Int32) (A B : TB) (hnb : nb ≤ 4) (hn : ∀ b, n b ≤ 8) : zF E yX2_partsOfAll wsX2_partsOfAll rX2_partsOfAll [.ref x] ((cO x 2 [.ref rw, .int (nI nb), .ref ln, .int (nI dn), .ref t1, .ref t2]) :: (cQ E rw 4 (rfF ad nb)) :: (cI E ln 12 D) :: (cO t1 1 [.long (ta A), .long (tb A), .long (tc A), .long (td A), .long (te A), .long (tf A), .long (tg A)]) :: (cO t2 1 [.long (ta B), .long (tb B), .long (tc B), .long (td B), .long (te B), .long (tf B), .long (tg B)]) :: (rowsW E ad n K F G (List.range nb))) (fun ov wv => ov = some (.int (nI (sumN n nb))) ∧ ∃ A2 B2 : TB, wv = (cO x 2 [.ref rw, .int (nI nb), .ref ln, .int (nI dn), .ref t1, .ref t2]) :: (cQ E rw 4 (rfF ad nb)) :: (cI E ln 12 D) :: (cO t1 1 [.long (ta A2), .long (tb A2), .long (tc A2), .long (td A2), .long (te A2), .long (tf A2), .long (tg A2)]) :: (cO t2 1 [.long (ta B2), .long (tb B2), .long (tc B2), .long (td B2), .long (te B2), .long (tf B2), .long (tg B2)]) :: (rowsW E ad n K F G (List.range nb))) := by
  refine z_start RX2 "partsOfAll" (by decide) rfl rfl rfl (Nat.le_of_ble_eq_true rfl) ?_
  intro J Z
  refine g_eq Z (lv2 := [(0, .ref x)]) rfl rfl rfl ?_
  refine g_iconst Z dX2_partsOfAll_0 zi_0 ?_
  refine g_istore_n (lv' := [(1, .int 0), (0, .ref x)]) Z dX2_partsOfAll_1 rfl (by decide) rfl ?_
  refine g_aload_n Z dX2_partsOfAll_2 1 rfl rfl ?_
  refine g_get Z dX2_partsOfAll_3 0 rfl rfl nX2_partsOfAll_X2 0 (by decide) fX2_partsOfAll_13 rfl ?_
  refine g_astore_n (lv' := [(2, .ref rw), (1, .int 0), (0, .ref x)]) Z dX2_partsOfAll_6 rfl (by decide) rfl ?_
  refine g_aload_n Z dX2_partsOfAll_7 0 rfl rfl ?_
  refine g_alen (v := 4) Z dX2_partsOfAll_8 1 2 rfl rfl rfl ?_
  refine g_istore_n (lv' := [(3, .int 4), (2, .ref rw), (1, .int 0), (0, .ref x)]) Z dX2_partsOfAll_9 rfl (by decide) rfl ?_
  refine g_iconst Z dX2_partsOfAll_10 zi_0 ?_
  refine g_istore (lv' := [(4, .int 0), (3, .int 4), (2, .ref rw), (1, .int 0), (0, .ref x)]) Z dX2_partsOfAll_11 (by decide) rfl ?_
  refine g_eq Z (lv2 := [(4, .int (nI 0)), (3, .int 4), (2, .ref rw), (1, .int (nI (sumN n (min 0 nb)))), (0, .ref x)]) rfl (by rw [Nat.zero_min]; rfl) rfl ?_
  exact lX2_partsOfAll E x rw ln t1 t2 nb dn ad n K F G D A B hnb hn Z 4 0 rfl

abbrev rX2_holdingRows : Room := { frames := 5, cells := 0, slots := 0, locals := 117 }
theorem iX2_holdingRows : zInfo yX2_holdingRows wsX2_holdingRows RX2 6 (some .int) 0 := ⟨_, _, rfl, by decide +kernel⟩
theorem nX2_holdingRows_X2 : ∀ w ∈ wsX20, w ∈ wsX2_holdingRows := by decide +kernel
theorem fX2_holdingRows_13 : Cond.fieldLink RX2 13 (TX2 0).1 (TX2 0).2.1 (TX2 0).2.2.1 ∈ wsX2_holdingRows := by decide +kernel
set_option maxHeartbeats 4000000 in
set_option maxRecDepth 100000 in
theorem lX2_holdingRows (E : zE) (x rw ln t1 t2 : Nat) (nb dn : Nat) (ad : zAd) (n : Nat → Nat) (K F G : Nat → Nat → Int32) (D : Nat → Int32) (A B : TB) (hnb : nb ≤ 4) (hn : ∀ b, n b ≤ 8) {J : zJ} (Z : zOk E J RX2 cX2_holdingRows 6 (some .int) wsX2_holdingRows rX2_holdingRows "holdingRows" (fun _ => True) (fun ov wv => ov = some (.int (nI (cntX K F G n nb))) ∧ ∃ A2 B2 : TB, wv = (cO x 2 [.ref rw, .int (nI nb), .ref ln, .int (nI dn), .ref t1, .ref t2]) :: (cQ E rw 4 (rfF ad nb)) :: (cI E ln 12 D) :: (cO t1 1 [.long (ta A2), .long (tb A2), .long (tc A2), .long (td A2), .long (te A2), .long (tf A2), .long (tg A2)]) :: (cO t2 1 [.long (ta B2), .long (tb B2), .long (tc B2), .long (td B2), .long (te B2), .long (tf B2), .long (tg B2)]) :: (rowsW E ad n K F G (List.range nb)))) : ∀ (d : Nat) (q : Nat) (C C2 : TB), q + d = 4 → J 0 0 ((cO x 2 [.ref rw, .int (nI nb), .ref ln, .int (nI dn), .ref t1, .ref t2]) :: (cQ E rw 4 (rfF ad nb)) :: (cI E ln 12 D) :: (cO t1 1 [.long (ta C), .long (tb C), .long (tc C), .long (td C), .long (te C), .long (tf C), .long (tg C)]) :: (cO t2 1 [.long (ta C2), .long (tb C2), .long (tc C2), .long (td C2), .long (te C2), .long (tf C2), .long (tg C2)]) :: (rowsW E ad n K F G (List.range nb))) 13 [(4, .int (nI q)), (3, .int 4), (2, .ref rw), (1, .int (nI (cntX K F G n (min q nb)))), (0, .ref x)] [] := by
  intro d
  induction d with
  | zero =>
    intro q C C2 h1
    have e_q : min q nb = nb := by omega
    refine g_iload Z dX2_holdingRows_13 0 rfl ?_
    refine g_iload_n Z dX2_holdingRows_15 1 rfl rfl ?_
    refine g_icmpN_ge (tgt := 48) Z dX2_holdingRows_16 (by decide) q 4 rfl rfl (by omega) (by omega) (fun c_16 => ?_) (fun c_16 => absurd c_16 (by omega))
    refine g_iload_n Z dX2_holdingRows_48 3 rfl rfl ?_
    exact g_iret Z dX2_holdingRows_49 rfl ⟨Nat.zero_le _, Nat.zero_le _⟩ ⟨by rw [e_q], _, _, rfl⟩
  | succ d ih =>
    intro q C C2 h1
    have hnq := hn q
    by_cases hq : q < nb
    · refine g_iload Z dX2_holdingRows_13 0 rfl ?_
      refine g_iload_n Z dX2_holdingRows_15 1 rfl rfl ?_
      refine g_icmpN_ge (tgt := 48) Z dX2_holdingRows_16 (by decide) q 4 rfl rfl (by omega) (by omega) (fun c_16 => absurd c_16 (by omega)) (fun c_16 => ?_)
      refine g_aload_n Z dX2_holdingRows_19 2 rfl rfl ?_
      refine g_iload Z dX2_holdingRows_20 0 rfl ?_
      refine g_aaldE (v := .ref (ad q).1) Z dX2_holdingRows_22 1 rfl q rfl (by omega) rfl (by rw [rfF_in hq]; rfl) ?_
      refine g_astore (lv' := [(5, .ref ((ad q).1)), (4, .int (nI q)), (3, .int 4), (2, .ref rw), (1, .int (nI (cntX K F G n (min q nb)))), (0, .ref x)]) Z dX2_holdingRows_23 (by decide) rfl ?_
      refine g_perm (w2 := (cO x 2 [.ref rw, .int (nI nb), .ref ln, .int (nI dn), .ref t1, .ref t2]) :: (cQ E rw 4 (rfF ad nb)) :: (cI E ln 12 D) :: (cO t1 1 [.long (ta C), .long (tb C), .long (tc C), .long (td C), .long (te C), .long (tf C), .long (tg C)]) :: (cO t2 1 [.long (ta C2), .long (tb C2), .long (tc C2), .long (td C2), .long (te C2), .long (tf C2), .long (tg C2)]) :: (cO ((ad q).1) 0 [.ref ((ad q).2.1), .ref ((ad q).2.2.1), .ref ((ad q).2.2.2), .int (nI (n q))]) :: (cI E ((ad q).2.1) 8 (K q)) :: (cI E ((ad q).2.2.1) 8 (F q)) :: (cI E ((ad q).2.2.2) 8 (G q)) :: (rowsW E ad n K F G ((List.range nb).erase q))) Z (((((rows_open (List.mem_range.mpr hq)).cons _).cons _).cons _).cons _ |>.cons _) ?_
      refine g_aload Z dX2_holdingRows_25 0 rfl ?_
      refine g_ifnull Z dX2_holdingRows_27 ?_
      refine g_aload_n Z dX2_holdingRows_30 5 rfl rfl ?_
      refine g_aload Z dX2_holdingRows_31 0 rfl ?_
      refine g_callVx (w' := (cO x 2 [.ref rw, .int (nI nb), .ref ln, .int (nI dn), .ref t1, .ref t2]) :: (cQ E rw 4 (rfF ad nb)) :: (cI E ln 12 D) :: (cO t1 1 [.long (ta (tabX (K q) (F q) (G q) 0 (n q))), .long (tb (tabX (K q) (F q) (G q) 0 (n q))), .long (tc (tabX (K q) (F q) (G q) 0 (n q))), .long (td (tabX (K q) (F q) (G q) 0 (n q))), .long (te (tabX (K q) (F q) (G q) 0 (n q))), .long (tf (tabX (K q) (F q) (G q) 0 (n q))), .long (tg (tabX (K q) (F q) (G q) 0 (n q)))]) :: (cO t2 1 [.long (ta (tabX (K q) (F q) (G q) 1 (n q))), .long (tb (tabX (K q) (F q) (G q) 1 (n q))), .long (tc (tabX (K q) (F q) (G q) 1 (n q))), .long (td (tabX (K q) (F q) (G q) 1 (n q))), .long (te (tabX (K q) (F q) (G q) 1 (n q))), .long (tf (tabX (K q) (F q) (G q) 1 (n q))), .long (tg (tabX (K q) (F q) (G q) 1 (n q)))]) :: (cO ((ad q).1) 0 [.ref ((ad q).2.1), .ref ((ad q).2.2.1), .ref ((ad q).2.2.2), .int (nI (n q))]) :: (cI E ((ad q).2.1) 8 (K q)) :: (cI E ((ad q).2.2.1) 8 (F q)) :: (cI E ((ad q).2.2.2) 8 (G q)) :: (rowsW E ad n K F G ((List.range nb).erase q))) Z (qX2_holdsBothWays E x rw ln t1 t2 nb dn C C2 ((ad q).1) ((ad q).2.1) ((ad q).2.2.1) ((ad q).2.2.2) (K q) (F q) (G q) (n q) hnq) iX2_holdsBothWays gX2_holdingRows_X2_holdsBothWays ⟨rfl, rfl⟩ ⟨Nat.le_of_ble_eq_true rfl, Nat.le_of_ble_eq_true rfl⟩ dX2_holdingRows_33 rfl rfl (Nat.le_of_ble_eq_true rfl) ⟨Nat.zero_le _, Nat.zero_le _⟩ [0, 3, 4, 5, 6, 7, 8] rfl rfl 0 rfl rfl rfl rfl rfl ?_
      refine g_ifb_eq (tgt := 42) Z dX2_holdingRows_36 (by decide) (fun c_36 => ?_) (fun c_36 => ?_)
      · refine g_iinc (lv' := [(4, .int (nI (q + 1))), (5, .ref ((ad q).1)), (3, .int 4), (2, .ref rw), (1, .int (nI (cntX K F G n (min q nb)))), (0, .ref x)]) Z dX2_holdingRows_42 1 rfl (zinc _) (by decide) rfl ?_
        refine g_goto (tgt := 13) Z dX2_holdingRows_45 (by decide) ?_
        refine g_perm (w2 := (cO x 2 [.ref rw, .int (nI nb), .ref ln, .int (nI dn), .ref t1, .ref t2]) :: (cQ E rw 4 (rfF ad nb)) :: (cI E ln 12 D) :: (cO t1 1 [.long (ta (tabX (K q) (F q) (G q) 0 (n q))), .long (tb (tabX (K q) (F q) (G q) 0 (n q))), .long (tc (tabX (K q) (F q) (G q) 0 (n q))), .long (td (tabX (K q) (F q) (G q) 0 (n q))), .long (te (tabX (K q) (F q) (G q) 0 (n q))), .long (tf (tabX (K q) (F q) (G q) 0 (n q))), .long (tg (tabX (K q) (F q) (G q) 0 (n q)))]) :: (cO t2 1 [.long (ta (tabX (K q) (F q) (G q) 1 (n q))), .long (tb (tabX (K q) (F q) (G q) 1 (n q))), .long (tc (tabX (K q) (F q) (G q) 1 (n q))), .long (td (tabX (K q) (F q) (G q) 1 (n q))), .long (te (tabX (K q) (F q) (G q) 1 (n q))), .long (tf (tabX (K q) (F q) (G q) 1 (n q))), .long (tg (tabX (K q) (F q) (G q) 1 (n q)))]) :: (rowsW E ad n K F G (List.range nb))) Z (((((rows_open (List.mem_range.mpr hq)).cons _).cons _).cons _).cons _ |>.cons _).symm ?_
        have e_s : cntX K F G n (min (q + 1) nb) = cntX K F G n (min q nb) := by rw [show min (q + 1) nb = q + 1 by omega, show min q nb = q by omega, cntX, if_neg c_36]; rfl
        refine g_lv (lv2 := [(4, .int (nI (q + 1))), (3, .int 4), (2, .ref rw), (1, .int (nI (cntX K F G n (min q nb)))), (0, .ref x)]) Z [0, 2, 3, 4, 5] rfl ?_
        rw [← e_s]
        exact ih (q + 1) _ _ (by omega)
      · refine g_iinc (lv' := [(1, .int (nI (cntX K F G n (min q nb) + 1))), (5, .ref ((ad q).1)), (4, .int (nI q)), (3, .int 4), (2, .ref rw), (0, .ref x)]) Z dX2_holdingRows_39 4 rfl (zinc _) (by decide) rfl ?_
        refine g_iinc (lv' := [(4, .int (nI (q + 1))), (1, .int (nI (cntX K F G n (min q nb) + 1))), (5, .ref ((ad q).1)), (3, .int 4), (2, .ref rw), (0, .ref x)]) Z dX2_holdingRows_42 2 rfl (zinc _) (by decide) rfl ?_
        refine g_goto (tgt := 13) Z dX2_holdingRows_45 (by decide) ?_
        refine g_perm (w2 := (cO x 2 [.ref rw, .int (nI nb), .ref ln, .int (nI dn), .ref t1, .ref t2]) :: (cQ E rw 4 (rfF ad nb)) :: (cI E ln 12 D) :: (cO t1 1 [.long (ta (tabX (K q) (F q) (G q) 0 (n q))), .long (tb (tabX (K q) (F q) (G q) 0 (n q))), .long (tc (tabX (K q) (F q) (G q) 0 (n q))), .long (td (tabX (K q) (F q) (G q) 0 (n q))), .long (te (tabX (K q) (F q) (G q) 0 (n q))), .long (tf (tabX (K q) (F q) (G q) 0 (n q))), .long (tg (tabX (K q) (F q) (G q) 0 (n q)))]) :: (cO t2 1 [.long (ta (tabX (K q) (F q) (G q) 1 (n q))), .long (tb (tabX (K q) (F q) (G q) 1 (n q))), .long (tc (tabX (K q) (F q) (G q) 1 (n q))), .long (td (tabX (K q) (F q) (G q) 1 (n q))), .long (te (tabX (K q) (F q) (G q) 1 (n q))), .long (tf (tabX (K q) (F q) (G q) 1 (n q))), .long (tg (tabX (K q) (F q) (G q) 1 (n q)))]) :: (rowsW E ad n K F G (List.range nb))) Z (((((rows_open (List.mem_range.mpr hq)).cons _).cons _).cons _).cons _ |>.cons _).symm ?_
        have e_s : cntX K F G n (min (q + 1) nb) = cntX K F G n (min q nb) + 1 := by rw [show min (q + 1) nb = q + 1 by omega, show min q nb = q by omega, cntX, if_pos c_36]
        refine g_lv (lv2 := [(4, .int (nI (q + 1))), (3, .int 4), (2, .ref rw), (1, .int (nI (cntX K F G n (min q nb) + 1))), (0, .ref x)]) Z [0, 3, 4, 1, 5] rfl ?_
        rw [← e_s]
        exact ih (q + 1) _ _ (by omega)
    · refine g_iload Z dX2_holdingRows_13 0 rfl ?_
      refine g_iload_n Z dX2_holdingRows_15 1 rfl rfl ?_
      refine g_icmpN_ge (tgt := 48) Z dX2_holdingRows_16 (by decide) q 4 rfl rfl (by omega) (by omega) (fun c_16 => absurd c_16 (by omega)) (fun c_16 => ?_)
      refine g_aload_n Z dX2_holdingRows_19 2 rfl rfl ?_
      refine g_iload Z dX2_holdingRows_20 0 rfl ?_
      refine g_aaldE (v := .null) Z dX2_holdingRows_22 1 rfl q rfl (by omega) rfl (by rw [rfF_out (by omega)]; rfl) ?_
      refine g_astoreN (lv' := [(5, .null), (4, .int (nI q)), (3, .int 4), (2, .ref rw), (1, .int (nI (cntX K F G n (min q nb)))), (0, .ref x)]) Z dX2_holdingRows_23 (by decide) rfl ?_
      refine g_aloadN Z dX2_holdingRows_25 0 rfl ?_
      refine g_ifnullN (tgt := 42) Z dX2_holdingRows_27 (by decide) ?_
      refine g_iinc (lv' := [(4, .int (nI (q + 1))), (5, .null), (3, .int 4), (2, .ref rw), (1, .int (nI (cntX K F G n (min q nb)))), (0, .ref x)]) Z dX2_holdingRows_42 1 rfl (zinc _) (by decide) rfl ?_
      refine g_goto (tgt := 13) Z dX2_holdingRows_45 (by decide) ?_
      have e_s : cntX K F G n (min (q + 1) nb) = cntX K F G n (min q nb) := by rw [show min (q + 1) nb = nb by omega, show min q nb = nb by omega]
      refine g_lv (lv2 := [(4, .int (nI (q + 1))), (3, .int 4), (2, .ref rw), (1, .int (nI (cntX K F G n (min q nb)))), (0, .ref x)]) Z [0, 2, 3, 4, 5] rfl ?_
      rw [← e_s]
      exact ih (q + 1) _ _ (by omega)
set_option maxHeartbeats 4000000 in
set_option maxRecDepth 100000 in
theorem qX2_holdingRows (E : zE) (x rw ln t1 t2 : Nat) (nb dn : Nat) (ad : zAd) (n : Nat → Nat) (K F G : Nat → Nat → Int32) (D : Nat → Int32) (A B : TB) (hnb : nb ≤ 4) (hn : ∀ b, n b ≤ 8) : zF E yX2_holdingRows wsX2_holdingRows rX2_holdingRows [.ref x] ((cO x 2 [.ref rw, .int (nI nb), .ref ln, .int (nI dn), .ref t1, .ref t2]) :: (cQ E rw 4 (rfF ad nb)) :: (cI E ln 12 D) :: (cO t1 1 [.long (ta A), .long (tb A), .long (tc A), .long (td A), .long (te A), .long (tf A), .long (tg A)]) :: (cO t2 1 [.long (ta B), .long (tb B), .long (tc B), .long (td B), .long (te B), .long (tf B), .long (tg B)]) :: (rowsW E ad n K F G (List.range nb))) (fun ov wv => ov = some (.int (nI (cntX K F G n nb))) ∧ ∃ A2 B2 : TB, wv = (cO x 2 [.ref rw, .int (nI nb), .ref ln, .int (nI dn), .ref t1, .ref t2]) :: (cQ E rw 4 (rfF ad nb)) :: (cI E ln 12 D) :: (cO t1 1 [.long (ta A2), .long (tb A2), .long (tc A2), .long (td A2), .long (te A2), .long (tf A2), .long (tg A2)]) :: (cO t2 1 [.long (ta B2), .long (tb B2), .long (tc B2), .long (td B2), .long (te B2), .long (tf B2), .long (tg B2)]) :: (rowsW E ad n K F G (List.range nb))) := by
  refine z_start RX2 "holdingRows" (by decide) rfl rfl rfl (Nat.le_of_ble_eq_true rfl) ?_
  intro J Z
  refine g_eq Z (lv2 := [(0, .ref x)]) rfl rfl rfl ?_
  refine g_iconst Z dX2_holdingRows_0 zi_0 ?_
  refine g_istore_n (lv' := [(1, .int 0), (0, .ref x)]) Z dX2_holdingRows_1 rfl (by decide) rfl ?_
  refine g_aload_n Z dX2_holdingRows_2 1 rfl rfl ?_
  refine g_get Z dX2_holdingRows_3 0 rfl rfl nX2_holdingRows_X2 0 (by decide) fX2_holdingRows_13 rfl ?_
  refine g_astore_n (lv' := [(2, .ref rw), (1, .int 0), (0, .ref x)]) Z dX2_holdingRows_6 rfl (by decide) rfl ?_
  refine g_aload_n Z dX2_holdingRows_7 0 rfl rfl ?_
  refine g_alen (v := 4) Z dX2_holdingRows_8 1 2 rfl rfl rfl ?_
  refine g_istore_n (lv' := [(3, .int 4), (2, .ref rw), (1, .int 0), (0, .ref x)]) Z dX2_holdingRows_9 rfl (by decide) rfl ?_
  refine g_iconst Z dX2_holdingRows_10 zi_0 ?_
  refine g_istore (lv' := [(4, .int 0), (3, .int 4), (2, .ref rw), (1, .int 0), (0, .ref x)]) Z dX2_holdingRows_11 (by decide) rfl ?_
  refine g_eq Z (lv2 := [(4, .int (nI 0)), (3, .int 4), (2, .ref rw), (1, .int (nI (cntX K F G n (min 0 nb)))), (0, .ref x)]) rfl (by rw [Nat.zero_min]; rfl) rfl ?_
  exact lX2_holdingRows E x rw ln t1 t2 nb dn ad n K F G D A B hnb hn Z 4 0 A B rfl

abbrev rX2_count : Room := { frames := 6, cells := 0, slots := 0, locals := 142 }
theorem iX2_count : zInfo yX2_count wsX2_count RX2 2 (some .int) 1 := ⟨_, _, rfl, by decide +kernel⟩
set_option maxHeartbeats 4000000 in
set_option maxRecDepth 100000 in
theorem qX2_countN (E : zE) (x rw ln t1 t2 : Nat) (nb dn : Nat) (RF : Nat → Option Nat) (D : Nat → Int32) (A B : TB) (v : Int32) (hv : ¬ (v = 0 ∨ v = 1 ∨ v = 2 ∨ v = 3)) : zF E yX2_count wsX2_count rX2_count [.ref x, .int v] [cO x 2 [.ref rw, .int (nI nb), .ref ln, .int (nI dn), .ref t1, .ref t2], cQ E rw 4 RF, cI E ln 12 D, cO t1 1 [.long (ta A), .long (tb A), .long (tc A), .long (td A), .long (te A), .long (tf A), .long (tg A)], cO t2 1 [.long (ta B), .long (tb B), .long (tc B), .long (td B), .long (te B), .long (tf B), .long (tg B)]] (zx (some (.int (-1))) ([cO x 2 [.ref rw, .int (nI nb), .ref ln, .int (nI dn), .ref t1, .ref t2], cQ E rw 4 RF, cI E ln 12 D, cO t1 1 [.long (ta A), .long (tb A), .long (tc A), .long (td A), .long (te A), .long (tf A), .long (tg A)], cO t2 1 [.long (ta B), .long (tb B), .long (tc B), .long (td B), .long (te B), .long (tf B), .long (tg B)]])) := by
  refine z_start RX2 "count" (by decide) rfl rfl rfl (Nat.le_of_ble_eq_true rfl) ?_
  intro J Z
  refine g_eq Z (lv2 := [(0, .ref x), (1, .int v)]) rfl rfl rfl ?_
  refine g_iload_n Z dX2_count_0 1 rfl rfl ?_
  rcases z_sw3 v with c_1 | c_1 | c_1 | c_1 | c_1
  · refine g_tsin (tgt := 32) Z dX2_count_1 0 c_1 (by decide) rfl (by decide) ?_
    exact absurd (Or.inl c_1) hv
  · refine g_tsin (tgt := 37) Z dX2_count_1 1 c_1 (by decide) rfl (by decide) ?_
    exact absurd (Or.inr (Or.inl c_1)) hv
  · refine g_tsin (tgt := 42) Z dX2_count_1 2 c_1 (by decide) rfl (by decide) ?_
    exact absurd (Or.inr (Or.inr (Or.inl c_1))) hv
  · refine g_tsin (tgt := 47) Z dX2_count_1 3 c_1 (by decide) rfl (by decide) ?_
    exact absurd (Or.inr (Or.inr (Or.inr (c_1)))) hv
  · refine g_tsout (tgt := 52) Z dX2_count_1 c_1.1 (by decide) ?_
    refine g_iconst Z dX2_count_52 zi_m1 ?_
    exact g_iret Z dX2_count_53 rfl ⟨Nat.zero_le _, Nat.zero_le _⟩ ⟨rfl, rfl⟩

theorem nX2_count_X2 : ∀ w ∈ wsX20, w ∈ wsX2_count := by decide +kernel
theorem fX2_count_17 : Cond.fieldLink RX2 17 (TX2 1).1 (TX2 1).2.1 (TX2 1).2.2.1 ∈ wsX2_count := by decide +kernel
set_option maxHeartbeats 4000000 in
set_option maxRecDepth 100000 in
theorem qX2_count0 (E : zE) (x rw ln t1 t2 : Nat) (nb dn : Nat) (RF : Nat → Option Nat) (D : Nat → Int32) (A B : TB)  : zF E yX2_count wsX2_count rX2_count [.ref x, .int 0] [cO x 2 [.ref rw, .int (nI nb), .ref ln, .int (nI dn), .ref t1, .ref t2], cQ E rw 4 RF, cI E ln 12 D, cO t1 1 [.long (ta A), .long (tb A), .long (tc A), .long (td A), .long (te A), .long (tf A), .long (tg A)], cO t2 1 [.long (ta B), .long (tb B), .long (tc B), .long (td B), .long (te B), .long (tf B), .long (tg B)]] (zx (some (.int (nI nb))) ([cO x 2 [.ref rw, .int (nI nb), .ref ln, .int (nI dn), .ref t1, .ref t2], cQ E rw 4 RF, cI E ln 12 D, cO t1 1 [.long (ta A), .long (tb A), .long (tc A), .long (td A), .long (te A), .long (tf A), .long (tg A)], cO t2 1 [.long (ta B), .long (tb B), .long (tc B), .long (td B), .long (te B), .long (tf B), .long (tg B)]])) := by
  refine z_start RX2 "count" (by decide) rfl rfl rfl (Nat.le_of_ble_eq_true rfl) ?_
  intro J Z
  refine g_eq Z (lv2 := [(0, .ref x), (1, .int 0)]) rfl rfl rfl ?_
  refine g_iload_n Z dX2_count_0 1 rfl rfl ?_
  refine g_tsin (tgt := 32) Z dX2_count_1 0 rfl (by decide) rfl (by decide) ?_
  refine g_aload_n Z dX2_count_32 0 rfl rfl ?_
  refine g_get Z dX2_count_33 0 rfl rfl nX2_count_X2 1 (by decide) fX2_count_17 rfl ?_
  exact g_iret Z dX2_count_36 rfl ⟨Nat.zero_le _, Nat.zero_le _⟩ ⟨rfl, rfl⟩

theorem fX2_count_25 : Cond.fieldLink RX2 25 (TX2 3).1 (TX2 3).2.1 (TX2 3).2.2.1 ∈ wsX2_count := by decide +kernel
set_option maxHeartbeats 4000000 in
set_option maxRecDepth 100000 in
theorem qX2_count2 (E : zE) (x rw ln t1 t2 : Nat) (nb dn : Nat) (RF : Nat → Option Nat) (D : Nat → Int32) (A B : TB)  : zF E yX2_count wsX2_count rX2_count [.ref x, .int 2] [cO x 2 [.ref rw, .int (nI nb), .ref ln, .int (nI dn), .ref t1, .ref t2], cQ E rw 4 RF, cI E ln 12 D, cO t1 1 [.long (ta A), .long (tb A), .long (tc A), .long (td A), .long (te A), .long (tf A), .long (tg A)], cO t2 1 [.long (ta B), .long (tb B), .long (tc B), .long (td B), .long (te B), .long (tf B), .long (tg B)]] (zx (some (.int (nI dn))) ([cO x 2 [.ref rw, .int (nI nb), .ref ln, .int (nI dn), .ref t1, .ref t2], cQ E rw 4 RF, cI E ln 12 D, cO t1 1 [.long (ta A), .long (tb A), .long (tc A), .long (td A), .long (te A), .long (tf A), .long (tg A)], cO t2 1 [.long (ta B), .long (tb B), .long (tc B), .long (td B), .long (te B), .long (tf B), .long (tg B)]])) := by
  refine z_start RX2 "count" (by decide) rfl rfl rfl (Nat.le_of_ble_eq_true rfl) ?_
  intro J Z
  refine g_eq Z (lv2 := [(0, .ref x), (1, .int 2)]) rfl rfl rfl ?_
  refine g_iload_n Z dX2_count_0 1 rfl rfl ?_
  refine g_tsin (tgt := 42) Z dX2_count_1 2 rfl (by decide) rfl (by decide) ?_
  refine g_aload_n Z dX2_count_42 0 rfl rfl ?_
  refine g_get Z dX2_count_43 0 rfl rfl nX2_count_X2 3 (by decide) fX2_count_25 rfl ?_
  exact g_iret Z dX2_count_46 rfl ⟨Nat.zero_le _, Nat.zero_le _⟩ ⟨rfl, rfl⟩


set_option maxHeartbeats 4000000 in
set_option maxRecDepth 100000 in
theorem qX2_count1 (E : zE) (x rw ln t1 t2 : Nat) (nb dn : Nat) (ad : zAd) (n : Nat → Nat) (K F G : Nat → Nat → Int32) (D : Nat → Int32) (A B : TB) (hnb : nb ≤ 4) (hn : ∀ b, n b ≤ 8) : zF E yX2_count wsX2_count rX2_count [.ref x, .int 1] ((cO x 2 [.ref rw, .int (nI nb), .ref ln, .int (nI dn), .ref t1, .ref t2]) :: (cQ E rw 4 (rfF ad nb)) :: (cI E ln 12 D) :: (cO t1 1 [.long (ta A), .long (tb A), .long (tc A), .long (td A), .long (te A), .long (tf A), .long (tg A)]) :: (cO t2 1 [.long (ta B), .long (tb B), .long (tc B), .long (td B), .long (te B), .long (tf B), .long (tg B)]) :: (rowsW E ad n K F G (List.range nb))) (fun ov wv => ov = some (.int (nI (sumN n nb))) ∧ ∃ A2 B2 : TB, wv = (cO x 2 [.ref rw, .int (nI nb), .ref ln, .int (nI dn), .ref t1, .ref t2]) :: (cQ E rw 4 (rfF ad nb)) :: (cI E ln 12 D) :: (cO t1 1 [.long (ta A2), .long (tb A2), .long (tc A2), .long (td A2), .long (te A2), .long (tf A2), .long (tg A2)]) :: (cO t2 1 [.long (ta B2), .long (tb B2), .long (tc B2), .long (td B2), .long (te B2), .long (tf B2), .long (tg B2)]) :: (rowsW E ad n K F G (List.range nb))) := by
  refine z_start RX2 "count" (by decide) rfl rfl rfl (Nat.le_of_ble_eq_true rfl) ?_
  intro J Z
  refine g_eq Z (lv2 := [(0, .ref x), (1, .int 1)]) rfl rfl rfl ?_
  refine g_iload_n Z dX2_count_0 1 rfl rfl ?_
  refine g_tsin (tgt := 37) Z dX2_count_1 1 rfl (by decide) rfl (by decide) ?_
  refine g_aload_n Z dX2_count_37 0 rfl rfl ?_
  refine g_callVC (wc := (cO x 2 [.ref rw, .int (nI nb), .ref ln, .int (nI dn), .ref t1, .ref t2]) :: (cQ E rw 4 (rfF ad nb)) :: (cI E ln 12 D) :: (cO t1 1 [.long (ta A), .long (tb A), .long (tc A), .long (td A), .long (te A), .long (tf A), .long (tg A)]) :: (cO t2 1 [.long (ta B), .long (tb B), .long (tc B), .long (td B), .long (te B), .long (tf B), .long (tg B)]) :: (rowsW E ad n K F G (List.range nb))) (wr := []) Z (qX2_partsOfAll E x rw ln t1 t2 nb dn ad n K F G D A B hnb hn) zKeep_true (fun _ _ => trivial) iX2_partsOfAll gX2_count_X2_partsOfAll ⟨Nat.le_of_ble_eq_true rfl, Nat.le_of_ble_eq_true rfl⟩ dX2_count_38 (As := []) (rest := []) rfl rfl (Nat.le_of_ble_eq_true rfl) ⟨Nat.le_of_ble_eq_true rfl, Nat.le_of_ble_eq_true rfl⟩ (by rw [List.append_nil]) 0 rfl rfl rfl ?_
  rintro ov wv ⟨rfl, A2, B2, rfl⟩
  rw [List.append_nil]
  exact g_iret Z dX2_count_41 rfl ⟨Nat.le_of_ble_eq_true rfl, Nat.le_of_ble_eq_true rfl⟩ ⟨rfl, A2, B2, rfl⟩


set_option maxHeartbeats 4000000 in
set_option maxRecDepth 100000 in
theorem qX2_count3 (E : zE) (x rw ln t1 t2 : Nat) (nb dn : Nat) (ad : zAd) (n : Nat → Nat) (K F G : Nat → Nat → Int32) (D : Nat → Int32) (A B : TB) (hnb : nb ≤ 4) (hn : ∀ b, n b ≤ 8) : zF E yX2_count wsX2_count rX2_count [.ref x, .int 3] ((cO x 2 [.ref rw, .int (nI nb), .ref ln, .int (nI dn), .ref t1, .ref t2]) :: (cQ E rw 4 (rfF ad nb)) :: (cI E ln 12 D) :: (cO t1 1 [.long (ta A), .long (tb A), .long (tc A), .long (td A), .long (te A), .long (tf A), .long (tg A)]) :: (cO t2 1 [.long (ta B), .long (tb B), .long (tc B), .long (td B), .long (te B), .long (tf B), .long (tg B)]) :: (rowsW E ad n K F G (List.range nb))) (fun ov wv => ov = some (.int (nI (cntX K F G n nb))) ∧ ∃ A2 B2 : TB, wv = (cO x 2 [.ref rw, .int (nI nb), .ref ln, .int (nI dn), .ref t1, .ref t2]) :: (cQ E rw 4 (rfF ad nb)) :: (cI E ln 12 D) :: (cO t1 1 [.long (ta A2), .long (tb A2), .long (tc A2), .long (td A2), .long (te A2), .long (tf A2), .long (tg A2)]) :: (cO t2 1 [.long (ta B2), .long (tb B2), .long (tc B2), .long (td B2), .long (te B2), .long (tf B2), .long (tg B2)]) :: (rowsW E ad n K F G (List.range nb))) := by
  refine z_start RX2 "count" (by decide) rfl rfl rfl (Nat.le_of_ble_eq_true rfl) ?_
  intro J Z
  refine g_eq Z (lv2 := [(0, .ref x), (1, .int 3)]) rfl rfl rfl ?_
  refine g_iload_n Z dX2_count_0 1 rfl rfl ?_
  refine g_tsin (tgt := 47) Z dX2_count_1 3 rfl (by decide) rfl (by decide) ?_
  refine g_aload_n Z dX2_count_47 0 rfl rfl ?_
  refine g_callVC (wc := (cO x 2 [.ref rw, .int (nI nb), .ref ln, .int (nI dn), .ref t1, .ref t2]) :: (cQ E rw 4 (rfF ad nb)) :: (cI E ln 12 D) :: (cO t1 1 [.long (ta A), .long (tb A), .long (tc A), .long (td A), .long (te A), .long (tf A), .long (tg A)]) :: (cO t2 1 [.long (ta B), .long (tb B), .long (tc B), .long (td B), .long (te B), .long (tf B), .long (tg B)]) :: (rowsW E ad n K F G (List.range nb))) (wr := []) Z (qX2_holdingRows E x rw ln t1 t2 nb dn ad n K F G D A B hnb hn) zKeep_true (fun _ _ => trivial) iX2_holdingRows gX2_count_X2_holdingRows ⟨Nat.le_of_ble_eq_true rfl, Nat.le_of_ble_eq_true rfl⟩ dX2_count_48 (As := []) (rest := []) rfl rfl (Nat.le_of_ble_eq_true rfl) ⟨Nat.le_of_ble_eq_true rfl, Nat.le_of_ble_eq_true rfl⟩ (by rw [List.append_nil]) 0 rfl rfl rfl ?_
  rintro ov wv ⟨rfl, A2, B2, rfl⟩
  rw [List.append_nil]
  exact g_iret Z dX2_count_51 rfl ⟨Nat.le_of_ble_eq_true rfl, Nat.le_of_ble_eq_true rfl⟩ ⟨rfl, A2, B2, rfl⟩
