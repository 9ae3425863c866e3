abbrev rX0_has : Room := { frames := 0, cells := 0, slots := 0, locals := 0 }
theorem iX0_has : zInfo yX0_has wsX0_has RX0 2 (some .boolean) 1 := ⟨_, _, rfl, by decide +kernel⟩
theorem nX0_has_X0 : ∀ w ∈ wsX00, w ∈ wsX0_has := by decide +kernel
theorem fX0_has_21 : Cond.fieldLink RX0 21 (TX0 3).1 (TX0 3).2.1 (TX0 3).2.2.1 ∈ wsX0_has := by decide +kernel
set_option maxHeartbeats 4000000 in
set_option maxRecDepth 100000 in
theorem qX0_has (E : zE) (h k f s : Nat) (z i : Int32)  : zF E yX0_has wsX0_has rX0_has [.ref h, .int i] [cO h 0 [.ref k, .ref f, .ref s, .int z]] (zx (some (.int (if ¬ i < 0 ∧ ¬ z ≤ i then 1 else 0))) ([cO h 0 [.ref k, .ref f, .ref s, .int z]])) := by
  refine z_start RX0 "has" (by decide) rfl rfl rfl (Nat.le_of_ble_eq_true rfl) ?_
  intro J Z
  refine g_eq Z (lv2 := [(0, .ref h), (1, .int i)]) rfl rfl rfl ?_
  refine g_iload_n Z dX0_has_0 1 rfl rfl ?_
  refine g_if_lt (tgt := 16) Z dX0_has_1 (by decide) (fun c_1 => ?_) (fun c_1 => ?_)
  · refine g_iconst Z dX0_has_16 zi_0 ?_
    exact g_zret Z dX0_has_17 rfl rfl ⟨Nat.zero_le _, Nat.zero_le _⟩ ⟨z_f (by first | (simp [c_1]; done) | grind), rfl⟩
  · refine g_iload_n Z dX0_has_4 1 rfl rfl ?_
    refine g_aload_n Z dX0_has_5 0 rfl rfl ?_
    refine g_get Z dX0_has_6 0 rfl rfl nX0_has_X0 3 (by decide) fX0_has_21 rfl ?_
    refine g_icmp_ge (tgt := 16) Z dX0_has_9 (by decide) (fun c_9 => ?_) (fun c_9 => ?_)
    · refine g_iconst Z dX0_has_16 zi_0 ?_
      exact g_zret Z dX0_has_17 rfl rfl ⟨Nat.zero_le _, Nat.zero_le _⟩ ⟨z_f (by first | (simp [c_1, c_9]; done) | grind), rfl⟩
    · refine g_iconst Z dX0_has_12 zi_1 ?_
      refine g_goto (tgt := 17) Z dX0_has_13 (by decide) ?_
      exact g_zret Z dX0_has_17 rfl rfl ⟨Nat.zero_le _, Nat.zero_le _⟩ ⟨z_t (by first | (simp [c_1, c_9]; done) | grind), rfl⟩


set_option maxHeartbeats 4000000 in
set_option maxRecDepth 100000 in
theorem qX0_hasN (E : zE) (h k f s n j : Nat) (hn : n < 2 ^ 31) (hj : j < 2 ^ 31) : zF E yX0_has wsX0_has rX0_has [.ref h, .int (nI j)] [cO h 0 [.ref k, .ref f, .ref s, .int (nI n)]] (zx (some (.int (if j < n then 1 else 0))) ([cO h 0 [.ref k, .ref f, .ref s, .int (nI n)]])) := by
  refine z_start RX0 "has" (by decide) rfl rfl rfl (Nat.le_of_ble_eq_true rfl) ?_
  intro J Z
  refine g_eq Z (lv2 := [(0, .ref h), (1, .int (nI j))]) rfl rfl rfl ?_
  refine g_iload_n Z dX0_has_0 1 rfl rfl ?_
  refine g_ifN_lt (tgt := 16) Z dX0_has_1 (by decide) j rfl (by omega) (fun c_1 => absurd c_1 id) (fun c_1 => ?_)
  refine g_iload_n Z dX0_has_4 1 rfl rfl ?_
  refine g_aload_n Z dX0_has_5 0 rfl rfl ?_
  refine g_get Z dX0_has_6 0 rfl rfl nX0_has_X0 3 (by decide) fX0_has_21 rfl ?_
  refine g_icmpN_ge (tgt := 16) Z dX0_has_9 (by decide) j n rfl rfl (by omega) (by omega) (fun c_9 => ?_) (fun c_9 => ?_)
  · refine g_iconst Z dX0_has_16 zi_0 ?_
    exact g_zret Z dX0_has_17 rfl rfl ⟨Nat.zero_le _, Nat.zero_le _⟩ ⟨z_f (by first | (simp [c_1, c_9]; done) | grind), rfl⟩
  · refine g_iconst Z dX0_has_12 zi_1 ?_
    refine g_goto (tgt := 17) Z dX0_has_13 (by decide) ?_
    exact g_zret Z dX0_has_17 rfl rfl ⟨Nat.zero_le _, Nat.zero_le _⟩ ⟨z_t (by first | (simp [c_1, c_9]; done) | grind), rfl⟩

abbrev rX0_strength : Room := { frames := 0, cells := 0, slots := 0, locals := 0 }
theorem iX0_strength : zInfo yX0_strength wsX0_strength RX0 3 (some .int) 2 := ⟨_, _, rfl, by decide +kernel⟩
theorem nX0_strength_X0 : ∀ w ∈ wsX00, w ∈ wsX0_strength := by decide +kernel
theorem fX0_strength_9 : Cond.fieldLink RX0 9 (TX0 0).1 (TX0 0).2.1 (TX0 0).2.2.1 ∈ wsX0_strength := by decide +kernel
theorem fX0_strength_15 : Cond.fieldLink RX0 15 (TX0 1).1 (TX0 1).2.1 (TX0 1).2.2.1 ∈ wsX0_strength := by decide +kernel
theorem fX0_strength_18 : Cond.fieldLink RX0 18 (TX0 2).1 (TX0 2).2.1 (TX0 2).2.2.1 ∈ wsX0_strength := by decide +kernel
set_option maxHeartbeats 4000000 in
set_option maxRecDepth 100000 in
theorem qX0_strength (E : zE) (h k f s : Nat) (K F G : Nat → Int32) (n j : Nat) (way : Int32) (hj : j < 8) : zF E yX0_strength wsX0_strength rX0_strength [.ref h, .int (nI j), .int way] [cO h 0 [.ref k, .ref f, .ref s, .int (nI n)], cI E k 8 K, cI E f 8 F, cI E s 8 G] (zx (some (.int (stg K F G way j))) ([cO h 0 [.ref k, .ref f, .ref s, .int (nI n)], cI E k 8 K, cI E f 8 F, cI E s 8 G])) := by
  refine z_start RX0 "strength" (by decide) rfl rfl rfl (Nat.le_of_ble_eq_true rfl) ?_
  intro J Z
  refine g_eq Z (lv2 := [(0, .ref h), (1, .int (nI j)), (2, .int way)]) rfl rfl rfl ?_
  refine g_aload_n Z dX0_strength_0 0 rfl rfl ?_
  refine g_get Z dX0_strength_1 0 rfl rfl nX0_strength_X0 0 (by decide) fX0_strength_9 rfl ?_
  refine g_iload_n Z dX0_strength_4 1 rfl rfl ?_
  refine g_iald Z dX0_strength_5 1 rfl j rfl (by omega) rfl ?_
  refine g_iconst Z dX0_strength_6 zi_2 ?_
  refine g_icmp_ne (tgt := 24) Z dX0_strength_7 (by decide) (fun c_7 => ?_) (fun c_7 => ?_)
  · refine g_aload_n Z dX0_strength_24 0 rfl rfl ?_
    refine g_get Z dX0_strength_25 0 rfl rfl nX0_strength_X0 1 (by decide) fX0_strength_15 rfl ?_
    refine g_iload_n Z dX0_strength_28 1 rfl rfl ?_
    refine g_iald Z dX0_strength_29 2 rfl j rfl (by omega) rfl ?_
    exact g_iret Z dX0_strength_30 rfl ⟨Nat.zero_le _, Nat.zero_le _⟩ ⟨congrArg (fun v => some (Value.int v)) (by simp [stg, c_7]), rfl⟩
  · refine g_iload_n Z dX0_strength_10 2 rfl rfl ?_
    refine g_iconst Z dX0_strength_11 zi_1 ?_
    refine g_icmp_ne (tgt := 24) Z dX0_strength_12 (by decide) (fun c_12 => ?_) (fun c_12 => ?_)
    · refine g_aload_n Z dX0_strength_24 0 rfl rfl ?_
      refine g_get Z dX0_strength_25 0 rfl rfl nX0_strength_X0 1 (by decide) fX0_strength_15 rfl ?_
      refine g_iload_n Z dX0_strength_28 1 rfl rfl ?_
      refine g_iald Z dX0_strength_29 2 rfl j rfl (by omega) rfl ?_
      exact g_iret Z dX0_strength_30 rfl ⟨Nat.zero_le _, Nat.zero_le _⟩ ⟨congrArg (fun v => some (Value.int v)) (by simp [stg, c_7, c_12]), rfl⟩
    · refine g_aload_n Z dX0_strength_15 0 rfl rfl ?_
      refine g_get Z dX0_strength_16 0 rfl rfl nX0_strength_X0 2 (by decide) fX0_strength_18 rfl ?_
      refine g_iload_n Z dX0_strength_19 1 rfl rfl ?_
      refine g_iald Z dX0_strength_20 3 rfl j rfl (by omega) rfl ?_
      refine g_goto (tgt := 30) Z dX0_strength_21 (by decide) ?_
      exact g_iret Z dX0_strength_30 rfl ⟨Nat.zero_le _, Nat.zero_le _⟩ ⟨congrArg (fun v => some (Value.int v)) (by simp [stg, c_7, c_12]), rfl⟩

abbrev rX0_bending : Room := { frames := 0, cells := 0, slots := 0, locals := 0 }
theorem iX0_bending : zInfo yX0_bending wsX0_bending RX0 3 (some .int) 0 := ⟨_, _, rfl, by decide +kernel⟩
theorem nX0_bending_X0 : ∀ w ∈ wsX00, w ∈ wsX0_bending := by decide +kernel
theorem fX0_bending_21 : Cond.fieldLink RX0 21 (TX0 3).1 (TX0 3).2.1 (TX0 3).2.2.1 ∈ wsX0_bending := by decide +kernel
theorem fX0_bending_9 : Cond.fieldLink RX0 9 (TX0 0).1 (TX0 0).2.1 (TX0 0).2.2.1 ∈ wsX0_bending := by decide +kernel
set_option maxHeartbeats 4000000 in
set_option maxRecDepth 100000 in
theorem lX0_bending (E : zE) (h k f s : Nat) (K F G : Nat → Int32) (n : Nat) (hn : n ≤ 8) {J : zJ} (Z : zOk E J RX0 cX0_bending 3 (some .int) wsX0_bending rX0_bending "bending" (fun _ => True) (zx (some (.int (nI (nBent K n)))) ([cO h 0 [.ref k, .ref f, .ref s, .int (nI n)], cI E k 8 K, cI E f 8 F, cI E s 8 G])))  : ∀ (d : Nat) (q : Nat), q + d = n → J 0 0 [cO h 0 [.ref k, .ref f, .ref s, .int (nI n)], cI E k 8 K, cI E f 8 F, cI E s 8 G] 4 [(2, .int (nI q)), (1, .int (nI (nBent K q))), (0, .ref h)] [] := by
  intro d
  induction d with
  | zero =>
    intro q h1
    have e_q : q = n := by omega
    refine g_iload_n Z dX0_bending_4 0 rfl rfl ?_
    refine g_aload_n Z dX0_bending_5 2 rfl rfl ?_
    refine g_get Z dX0_bending_6 0 rfl rfl nX0_bending_X0 3 (by decide) fX0_bending_21 rfl ?_
    refine g_icmpN_ge (tgt := 41) Z dX0_bending_9 (by decide) q n rfl rfl (by omega) (by omega) (fun c_9 => ?_) (fun c_9 => absurd c_9 (by omega))
    refine g_iload_n Z dX0_bending_41 1 rfl rfl ?_
    exact g_iret Z dX0_bending_42 rfl ⟨Nat.zero_le _, Nat.zero_le _⟩ ⟨by rw [e_q], rfl⟩
  | succ d ih =>
    intro q h1
    refine g_iload_n Z dX0_bending_4 0 rfl rfl ?_
    refine g_aload_n Z dX0_bending_5 2 rfl rfl ?_
    refine g_get Z dX0_bending_6 0 rfl rfl nX0_bending_X0 3 (by decide) fX0_bending_21 rfl ?_
    refine g_icmpN_ge (tgt := 41) Z dX0_bending_9 (by decide) q n rfl rfl (by omega) (by omega) (fun c_9 => absurd c_9 (by omega)) (fun c_9 => ?_)
    refine g_aload_n Z dX0_bending_12 2 rfl rfl ?_
    refine g_get Z dX0_bending_13 0 rfl rfl nX0_bending_X0 0 (by decide) fX0_bending_9 rfl ?_
    refine g_iload_n Z dX0_bending_16 0 rfl rfl ?_
    refine g_iald Z dX0_bending_17 1 rfl q rfl (by omega) rfl ?_
    refine g_iconst Z dX0_bending_18 zi_1 ?_
    refine g_icmp_eq (tgt := 32) Z dX0_bending_19 (by decide) (fun c_19 => ?_) (fun c_19 => ?_)
    · refine g_iinc (lv' := [(1, .int (nI (nBent K q + 1))), (2, .int (nI q)), (0, .ref h)]) Z dX0_bending_32 1 rfl (zinc _) (by decide) rfl ?_
      refine g_iinc (lv' := [(2, .int (nI (q + 1))), (1, .int (nI (nBent K q + 1))), (0, .ref h)]) Z dX0_bending_35 1 rfl (zinc _) (by decide) rfl ?_
      refine g_goto (tgt := 4) Z dX0_bending_38 (by decide) ?_
      have e_b : nBent K (q + 1) = nBent K q + 1 := by simp only [nBent]; rw [if_pos (by simp [c_9, c_19])]
      refine g_lv (lv2 := [(2, .int (nI (q + 1))), (1, .int (nI (nBent K q + 1))), (0, .ref h)]) Z [0, 1, 2] rfl ?_
      rw [← e_b]
      exact ih (q + 1) (by omega)
    · refine g_aload_n Z dX0_bending_22 2 rfl rfl ?_
      refine g_get Z dX0_bending_23 0 rfl rfl nX0_bending_X0 0 (by decide) fX0_bending_9 rfl ?_
      refine g_iload_n Z dX0_bending_26 0 rfl rfl ?_
      refine g_iald Z dX0_bending_27 1 rfl q rfl (by omega) rfl ?_
      refine g_iconst Z dX0_bending_28 zi_2 ?_
      refine g_icmp_ne (tgt := 35) Z dX0_bending_29 (by decide) (fun c_29 => ?_) (fun c_29 => ?_)
      · refine g_iinc (lv' := [(2, .int (nI (q + 1))), (1, .int (nI (nBent K q))), (0, .ref h)]) Z dX0_bending_35 0 rfl (zinc _) (by decide) rfl ?_
        refine g_goto (tgt := 4) Z dX0_bending_38 (by decide) ?_
        have e_b : nBent K (q + 1) = nBent K q := by simp only [nBent]; rw [if_neg (by simp [c_9, c_19, c_29])]; rfl
        refine g_lv (lv2 := [(2, .int (nI (q + 1))), (1, .int (nI (nBent K q))), (0, .ref h)]) Z [0, 1, 2] rfl ?_
        rw [← e_b]
        exact ih (q + 1) (by omega)
      · refine g_iinc (lv' := [(1, .int (nI (nBent K q + 1))), (2, .int (nI q)), (0, .ref h)]) Z dX0_bending_32 1 rfl (zinc _) (by decide) rfl ?_
        refine g_iinc (lv' := [(2, .int (nI (q + 1))), (1, .int (nI (nBent K q + 1))), (0, .ref h)]) Z dX0_bending_35 1 rfl (zinc _) (by decide) rfl ?_
        refine g_goto (tgt := 4) Z dX0_bending_38 (by decide) ?_
        have e_b : nBent K (q + 1) = nBent K q + 1 := by simp only [nBent]; rw [if_pos (by simp [c_9, c_19, c_29])]
        refine g_lv (lv2 := [(2, .int (nI (q + 1))), (1, .int (nI (nBent K q + 1))), (0, .ref h)]) Z [0, 1, 2] rfl ?_
        rw [← e_b]
        exact ih (q + 1) (by omega)
set_option maxHeartbeats 4000000 in
set_option maxRecDepth 100000 in
theorem qX0_bending (E : zE) (h k f s : Nat) (K F G : Nat → Int32) (n : Nat) (hn : n ≤ 8) : zF E yX0_bending wsX0_bending rX0_bending [.ref h] [cO h 0 [.ref k, .ref f, .ref s, .int (nI n)], cI E k 8 K, cI E f 8 F, cI E s 8 G] (zx (some (.int (nI (nBent K n)))) ([cO h 0 [.ref k, .ref f, .ref s, .int (nI n)], cI E k 8 K, cI E f 8 F, cI E s 8 G])) := by
  refine z_start RX0 "bending" (by decide) rfl rfl rfl (Nat.le_of_ble_eq_true rfl) ?_
  intro J Z
  refine g_eq Z (lv2 := [(0, .ref h)]) rfl rfl rfl ?_
  refine g_iconst Z dX0_bending_0 zi_0 ?_
  refine g_istore_n (lv' := [(1, .int 0), (0, .ref h)]) Z dX0_bending_1 rfl (by decide) rfl ?_
  refine g_iconst Z dX0_bending_2 zi_0 ?_
  refine g_istore_n (lv' := [(2, .int 0), (1, .int 0), (0, .ref h)]) Z dX0_bending_3 rfl (by decide) rfl ?_
  exact lX0_bending E h k f s K F G n hn Z n 0 (by omega)

abbrev rX0_tilts : Room := { frames := 0, cells := 0, slots := 0, locals := 0 }
theorem iX0_tilts : zInfo yX0_tilts wsX0_tilts RX0 3 (some .int) 0 := ⟨_, _, rfl, by decide +kernel⟩
theorem nX0_tilts_X0 : ∀ w ∈ wsX00, w ∈ wsX0_tilts := by decide +kernel
theorem fX0_tilts_21 : Cond.fieldLink RX0 21 (TX0 3).1 (TX0 3).2.1 (TX0 3).2.2.1 ∈ wsX0_tilts := by decide +kernel
theorem fX0_tilts_9 : Cond.fieldLink RX0 9 (TX0 0).1 (TX0 0).2.1 (TX0 0).2.2.1 ∈ wsX0_tilts := by decide +kernel
set_option maxHeartbeats 4000000 in
set_option maxRecDepth 100000 in
theorem lX0_tilts (E : zE) (h k f s : Nat) (K F G : Nat → Int32) (n : Nat) (hn : n ≤ 8) {J : zJ} (Z : zOk E J RX0 cX0_tilts 3 (some .int) wsX0_tilts rX0_tilts "tilts" (fun _ => True) (zx (some (.int (nI (nTilt K n)))) ([cO h 0 [.ref k, .ref f, .ref s, .int (nI n)], cI E k 8 K, cI E f 8 F, cI E s 8 G])))  : ∀ (d : Nat) (q : Nat), q + d = n → J 0 0 [cO h 0 [.ref k, .ref f, .ref s, .int (nI n)], cI E k 8 K, cI E f 8 F, cI E s 8 G] 4 [(2, .int (nI q)), (1, .int (nI (nTilt K q))), (0, .ref h)] [] := by
  intro d
  induction d with
  | zero =>
    intro q h1
    have e_q : q = n := by omega
    refine g_iload_n Z dX0_tilts_4 0 rfl rfl ?_
    refine g_aload_n Z dX0_tilts_5 2 rfl rfl ?_
    refine g_get Z dX0_tilts_6 0 rfl rfl nX0_tilts_X0 3 (by decide) fX0_tilts_21 rfl ?_
    refine g_icmpN_ge (tgt := 31) Z dX0_tilts_9 (by decide) q n rfl rfl (by omega) (by omega) (fun c_9 => ?_) (fun c_9 => absurd c_9 (by omega))
    refine g_iload_n Z dX0_tilts_31 1 rfl rfl ?_
    exact g_iret Z dX0_tilts_32 rfl ⟨Nat.zero_le _, Nat.zero_le _⟩ ⟨by rw [e_q], rfl⟩
  | succ d ih =>
    intro q h1
    refine g_iload_n Z dX0_tilts_4 0 rfl rfl ?_
    refine g_aload_n Z dX0_tilts_5 2 rfl rfl ?_
    refine g_get Z dX0_tilts_6 0 rfl rfl nX0_tilts_X0 3 (by decide) fX0_tilts_21 rfl ?_
    refine g_icmpN_ge (tgt := 31) Z dX0_tilts_9 (by decide) q n rfl rfl (by omega) (by omega) (fun c_9 => absurd c_9 (by omega)) (fun c_9 => ?_)
    refine g_aload_n Z dX0_tilts_12 2 rfl rfl ?_
    refine g_get Z dX0_tilts_13 0 rfl rfl nX0_tilts_X0 0 (by decide) fX0_tilts_9 rfl ?_
    refine g_iload_n Z dX0_tilts_16 0 rfl rfl ?_
    refine g_iald Z dX0_tilts_17 1 rfl q rfl (by omega) rfl ?_
    refine g_iconst Z dX0_tilts_18 zi_3 ?_
    refine g_icmp_ne (tgt := 25) Z dX0_tilts_19 (by decide) (fun c_19 => ?_) (fun c_19 => ?_)
    · refine g_iinc (lv' := [(2, .int (nI (q + 1))), (1, .int (nI (nTilt K q))), (0, .ref h)]) Z dX0_tilts_25 0 rfl (zinc _) (by decide) rfl ?_
      refine g_goto (tgt := 4) Z dX0_tilts_28 (by decide) ?_
      have e_b : nTilt K (q + 1) = nTilt K q := by simp only [nTilt]; rw [if_neg (by simp [c_9, c_19])]; rfl
      refine g_lv (lv2 := [(2, .int (nI (q + 1))), (1, .int (nI (nTilt K q))), (0, .ref h)]) Z [0, 1, 2] rfl ?_
      rw [← e_b]
      exact ih (q + 1) (by omega)
    · refine g_iinc (lv' := [(1, .int (nI (nTilt K q + 1))), (2, .int (nI q)), (0, .ref h)]) Z dX0_tilts_22 1 rfl (zinc _) (by decide) rfl ?_
      refine g_iinc (lv' := [(2, .int (nI (q + 1))), (1, .int (nI (nTilt K q + 1))), (0, .ref h)]) Z dX0_tilts_25 1 rfl (zinc _) (by decide) rfl ?_
      refine g_goto (tgt := 4) Z dX0_tilts_28 (by decide) ?_
      have e_b : nTilt K (q + 1) = nTilt K q + 1 := by simp only [nTilt]; rw [if_pos (by simp [c_9, c_19])]
      refine g_lv (lv2 := [(2, .int (nI (q + 1))), (1, .int (nI (nTilt K q + 1))), (0, .ref h)]) Z [0, 1, 2] rfl ?_
      rw [← e_b]
      exact ih (q + 1) (by omega)
set_option maxHeartbeats 4000000 in
set_option maxRecDepth 100000 in
theorem qX0_tilts (E : zE) (h k f s : Nat) (K F G : Nat → Int32) (n : Nat) (hn : n ≤ 8) : zF E yX0_tilts wsX0_tilts rX0_tilts [.ref h] [cO h 0 [.ref k, .ref f, .ref s, .int (nI n)], cI E k 8 K, cI E f 8 F, cI E s 8 G] (zx (some (.int (nI (nTilt K n)))) ([cO h 0 [.ref k, .ref f, .ref s, .int (nI n)], cI E k 8 K, cI E f 8 F, cI E s 8 G])) := by
  refine z_start RX0 "tilts" (by decide) rfl rfl rfl (Nat.le_of_ble_eq_true rfl) ?_
  intro J Z
  refine g_eq Z (lv2 := [(0, .ref h)]) rfl rfl rfl ?_
  refine g_iconst Z dX0_tilts_0 zi_0 ?_
  refine g_istore_n (lv' := [(1, .int 0), (0, .ref h)]) Z dX0_tilts_1 rfl (by decide) rfl ?_
  refine g_iconst Z dX0_tilts_2 zi_0 ?_
  refine g_istore_n (lv' := [(2, .int 0), (1, .int 0), (0, .ref h)]) Z dX0_tilts_3 rfl (by decide) rfl ?_
  exact lX0_tilts E h k f s K F G n hn Z n 0 (by omega)

abbrev rX0_hasRoomFor : Room := { frames := 1, cells := 0, slots := 0, locals := 22 }
theorem iX0_hasRoomFor : zInfo yX0_hasRoomFor wsX0_hasRoomFor RX0 2 (some .boolean) 1 := ⟨_, _, rfl, by decide +kernel⟩
set_option maxHeartbeats 4000000 in
set_option maxRecDepth 100000 in
theorem qX0_hasRoomFor (E : zE) (h k f s : Nat) (K F G : Nat → Int32) (n : Nat) (kd : Int32) (hn : n ≤ 8) : zF E yX0_hasRoomFor wsX0_hasRoomFor rX0_hasRoomFor [.ref h, .int kd] [cO h 0 [.ref k, .ref f, .ref s, .int (nI n)], cI E k 8 K, cI E f 8 F, cI E s 8 G] (zx (some (.int (if ((kd = 1 ∨ kd = 2) → nBent K n < 3) ∧ (¬ (kd = 1 ∨ kd = 2) → kd = 3 → nTilt K n < 2) then 1 else 0))) ([cO h 0 [.ref k, .ref f, .ref s, .int (nI n)], cI E k 8 K, cI E f 8 F, cI E s 8 G])) := by
  refine z_start RX0 "hasRoomFor" (by decide) rfl rfl rfl (Nat.le_of_ble_eq_true rfl) ?_
  intro J Z
  refine g_eq Z (lv2 := [(0, .ref h), (1, .int kd)]) rfl rfl rfl ?_
  have hb1 := nBent_le K n
  have hb2 := nTilt_le K n
  refine g_iload_n Z dX0_hasRoomFor_0 1 rfl rfl ?_
  refine g_iconst Z dX0_hasRoomFor_1 zi_1 ?_
  refine g_icmp_eq (tgt := 10) Z dX0_hasRoomFor_2 (by decide) (fun c_2 => ?_) (fun c_2 => ?_)
  · refine g_aload_n Z dX0_hasRoomFor_10 0 rfl rfl ?_
    refine g_callVx (w' := [cO h 0 [.ref k, .ref f, .ref s, .int (nI n)], cI E k 8 K, cI E f 8 F, cI E s 8 G]) Z (qX0_bending E h k f s K F G n (by omega)) iX0_bending gX0_hasRoomFor_X0_bending ⟨rfl, rfl⟩ ⟨Nat.le_of_ble_eq_true rfl, Nat.le_of_ble_eq_true rfl⟩ dX0_hasRoomFor_11 rfl rfl (Nat.le_of_ble_eq_true rfl) ⟨Nat.zero_le _, Nat.zero_le _⟩ [0, 1, 2, 3] rfl rfl 0 rfl rfl rfl rfl rfl ?_
    refine g_iconst Z dX0_hasRoomFor_14 zi_3 ?_
    refine g_icmpN_ge (tgt := 22) Z dX0_hasRoomFor_15 (by decide) (nBent K n) 3 rfl rfl (by omega) (by omega) (fun c_15 => ?_) (fun c_15 => ?_)
    · refine g_iconst Z dX0_hasRoomFor_22 zi_0 ?_
      exact g_zret Z dX0_hasRoomFor_23 rfl rfl ⟨Nat.zero_le _, Nat.zero_le _⟩ ⟨z_f (by first | (simp [c_2, c_15]; done) | grind), rfl⟩
    · refine g_iconst Z dX0_hasRoomFor_18 zi_1 ?_
      refine g_goto (tgt := 23) Z dX0_hasRoomFor_19 (by decide) ?_
      exact g_zret Z dX0_hasRoomFor_23 rfl rfl ⟨Nat.zero_le _, Nat.zero_le _⟩ ⟨z_t (by first | (simp [c_2, c_15]; done) | grind), rfl⟩
  · refine g_iload_n Z dX0_hasRoomFor_5 1 rfl rfl ?_
    refine g_iconst Z dX0_hasRoomFor_6 zi_2 ?_
    refine g_icmp_ne (tgt := 24) Z dX0_hasRoomFor_7 (by decide) (fun c_7 => ?_) (fun c_7 => ?_)
    · refine g_iload_n Z dX0_hasRoomFor_24 1 rfl rfl ?_
      refine g_iconst Z dX0_hasRoomFor_25 zi_3 ?_
      refine g_icmp_ne (tgt := 37) Z dX0_hasRoomFor_26 (by decide) (fun c_26 => ?_) (fun c_26 => ?_)
      · refine g_iconst Z dX0_hasRoomFor_37 zi_1 ?_
        refine g_goto (tgt := 42) Z dX0_hasRoomFor_38 (by decide) ?_
        exact g_zret Z dX0_hasRoomFor_42 rfl rfl ⟨Nat.zero_le _, Nat.zero_le _⟩ ⟨z_t (by first | (simp [c_2, c_7, c_26]; done) | grind), rfl⟩
      · refine g_aload_n Z dX0_hasRoomFor_29 0 rfl rfl ?_
        refine g_callVx (w' := [cO h 0 [.ref k, .ref f, .ref s, .int (nI n)], cI E k 8 K, cI E f 8 F, cI E s 8 G]) Z (qX0_tilts E h k f s K F G n (by omega)) iX0_tilts gX0_hasRoomFor_X0_tilts ⟨rfl, rfl⟩ ⟨Nat.le_of_ble_eq_true rfl, Nat.le_of_ble_eq_true rfl⟩ dX0_hasRoomFor_30 rfl rfl (Nat.le_of_ble_eq_true rfl) ⟨Nat.zero_le _, Nat.zero_le _⟩ [0, 1, 2, 3] rfl rfl 0 rfl rfl rfl rfl rfl ?_
        refine g_iconst Z dX0_hasRoomFor_33 zi_2 ?_
        refine g_icmpN_ge (tgt := 41) Z dX0_hasRoomFor_34 (by decide) (nTilt K n) 2 rfl rfl (by omega) (by omega) (fun c_34 => ?_) (fun c_34 => ?_)
        · refine g_iconst Z dX0_hasRoomFor_41 zi_0 ?_
          exact g_zret Z dX0_hasRoomFor_42 rfl rfl ⟨Nat.zero_le _, Nat.zero_le _⟩ ⟨z_f (by first | (simp [c_2, c_7, c_26, c_34]; done) | grind), rfl⟩
        · refine g_iconst Z dX0_hasRoomFor_37 zi_1 ?_
          refine g_goto (tgt := 42) Z dX0_hasRoomFor_38 (by decide) ?_
          exact g_zret Z dX0_hasRoomFor_42 rfl rfl ⟨Nat.zero_le _, Nat.zero_le _⟩ ⟨z_t (by first | (simp [c_2, c_7, c_26, c_34]; done) | grind), rfl⟩
    · refine g_aload_n Z dX0_hasRoomFor_10 0 rfl rfl ?_
      refine g_callVx (w' := [cO h 0 [.ref k, .ref f, .ref s, .int (nI n)], cI E k 8 K, cI E f 8 F, cI E s 8 G]) Z (qX0_bending E h k f s K F G n (by omega)) iX0_bending gX0_hasRoomFor_X0_bending ⟨rfl, rfl⟩ ⟨Nat.le_of_ble_eq_true rfl, Nat.le_of_ble_eq_true rfl⟩ dX0_hasRoomFor_11 rfl rfl (Nat.le_of_ble_eq_true rfl) ⟨Nat.zero_le _, Nat.zero_le _⟩ [0, 1, 2, 3] rfl rfl 0 rfl rfl rfl rfl rfl ?_
      refine g_iconst Z dX0_hasRoomFor_14 zi_3 ?_
      refine g_icmpN_ge (tgt := 22) Z dX0_hasRoomFor_15 (by decide) (nBent K n) 3 rfl rfl (by omega) (by omega) (fun c_15 => ?_) (fun c_15 => ?_)
      · refine g_iconst Z dX0_hasRoomFor_22 zi_0 ?_
        exact g_zret Z dX0_hasRoomFor_23 rfl rfl ⟨Nat.zero_le _, Nat.zero_le _⟩ ⟨z_f (by first | (simp [c_2, c_7, c_15]; done) | grind), rfl⟩
      · refine g_iconst Z dX0_hasRoomFor_18 zi_1 ?_
        refine g_goto (tgt := 23) Z dX0_hasRoomFor_19 (by decide) ?_
        exact g_zret Z dX0_hasRoomFor_23 rfl rfl ⟨Nat.zero_le _, Nat.zero_le _⟩ ⟨z_t (by first | (simp [c_2, c_7, c_15]; done) | grind), rfl⟩

abbrev rX0_write : Room := { frames := 0, cells := 0, slots := 0, locals := 0 }
theorem iX0_write : zInfo yX0_write wsX0_write RX0 5 none 4 := ⟨_, _, rfl, by decide +kernel⟩
theorem nX0_write_X0 : ∀ w ∈ wsX00, w ∈ wsX0_write := by decide +kernel
theorem fX0_write_9 : Cond.fieldLink RX0 9 (TX0 0).1 (TX0 0).2.1 (TX0 0).2.2.1 ∈ wsX0_write := by decide +kernel
theorem fX0_write_15 : Cond.fieldLink RX0 15 (TX0 1).1 (TX0 1).2.1 (TX0 1).2.2.1 ∈ wsX0_write := by decide +kernel
theorem fX0_write_18 : Cond.fieldLink RX0 18 (TX0 2).1 (TX0 2).2.1 (TX0 2).2.2.1 ∈ wsX0_write := by decide +kernel
set_option maxHeartbeats 4000000 in
set_option maxRecDepth 100000 in
theorem qX0_write (E : zE) (h k f s : Nat) (K F G : Nat → Int32) (n j : Nat) (kd a b : Int32) (hj : j < 8) : zF E yX0_write wsX0_write rX0_write [.ref h, .int (nI j), .int kd, .int a, .int b] [cO h 0 [.ref k, .ref f, .ref s, .int (nI n)], cI E k 8 K, cI E f 8 F, cI E s 8 G] (zx none ([cO h 0 [.ref k, .ref f, .ref s, .int (nI n)], cI E k 8 (upd K j kd), cI E f 8 (upd F j a), cI E s 8 (upd G j b)])) := by
  refine z_start RX0 "write" (by decide) rfl rfl rfl (Nat.le_of_ble_eq_true rfl) ?_
  intro J Z
  refine g_eq Z (lv2 := [(0, .ref h), (1, .int (nI j)), (2, .int kd), (3, .int a), (4, .int b)]) rfl rfl rfl ?_
  refine g_aload_n Z dX0_write_0 0 rfl rfl ?_
  refine g_get Z dX0_write_1 0 rfl rfl nX0_write_X0 0 (by decide) fX0_write_9 rfl ?_
  refine g_iload_n Z dX0_write_4 1 rfl rfl ?_
  refine g_iload_n Z dX0_write_5 2 rfl rfl ?_
  refine g_iast (w' := [cO h 0 [.ref k, .ref f, .ref s, .int (nI n)], cI E k 8 (upd K j kd), cI E f 8 F, cI E s 8 G]) Z dX0_write_6 1 rfl j rfl (by omega) rfl rfl ?_
  refine g_aload_n Z dX0_write_7 0 rfl rfl ?_
  refine g_get Z dX0_write_8 0 rfl rfl nX0_write_X0 1 (by decide) fX0_write_15 rfl ?_
  refine g_iload_n Z dX0_write_11 1 rfl rfl ?_
  refine g_iload_n Z dX0_write_12 3 rfl rfl ?_
  refine g_iast (w' := [cO h 0 [.ref k, .ref f, .ref s, .int (nI n)], cI E k 8 (upd K j kd), cI E f 8 (upd F j a), cI E s 8 G]) Z dX0_write_13 2 rfl j rfl (by omega) rfl rfl ?_
  refine g_aload_n Z dX0_write_14 0 rfl rfl ?_
  refine g_get Z dX0_write_15 0 rfl rfl nX0_write_X0 2 (by decide) fX0_write_18 rfl ?_
  refine g_iload_n Z dX0_write_18 1 rfl rfl ?_
  refine g_iload Z dX0_write_19 4 rfl ?_
  refine g_iast (w' := [cO h 0 [.ref k, .ref f, .ref s, .int (nI n)], cI E k 8 (upd K j kd), cI E f 8 (upd F j a), cI E s 8 (upd G j b)]) Z dX0_write_21 3 rfl j rfl (by omega) rfl rfl ?_
  exact g_vret Z dX0_write_22 rfl ⟨Nat.zero_le _, Nat.zero_le _⟩ ⟨rfl, rfl⟩

abbrev rX0_insert : Room := { frames := 1, cells := 0, slots := 0, locals := 24 }
theorem iX0_insert : zInfo yX0_insert wsX0_insert RX0 6 none 4 := ⟨_, _, rfl, by decide +kernel⟩
theorem nX0_insert_X0 : ∀ w ∈ wsX00, w ∈ wsX0_insert := by decide +kernel
theorem fX0_insert_21 : Cond.fieldLink RX0 21 (TX0 3).1 (TX0 3).2.1 (TX0 3).2.2.1 ∈ wsX0_insert := by decide +kernel
theorem fX0_insert_9 : Cond.fieldLink RX0 9 (TX0 0).1 (TX0 0).2.1 (TX0 0).2.2.1 ∈ wsX0_insert := by decide +kernel
theorem fX0_insert_15 : Cond.fieldLink RX0 15 (TX0 1).1 (TX0 1).2.1 (TX0 1).2.2.1 ∈ wsX0_insert := by decide +kernel
theorem fX0_insert_18 : Cond.fieldLink RX0 18 (TX0 2).1 (TX0 2).2.1 (TX0 2).2.2.1 ∈ wsX0_insert := by decide +kernel
set_option maxHeartbeats 4000000 in
set_option maxRecDepth 100000 in
theorem lX0_insert (E : zE) (h k f s : Nat) (K F G : Nat → Int32) (n j : Nat) (kd a b : Int32) (hj : j ≤ n) (hn : n < 8) {J : zJ} (Z : zOk E J RX0 cX0_insert 6 none wsX0_insert rX0_insert "insert" (fun _ => True) (zx none ([cO h 0 [.ref k, .ref f, .ref s, .int (nI (n + 1))], cI E k 8 (upd (shUp K n (n - j)) j kd), cI E f 8 (upd (shUp F n (n - j)) j a), cI E s 8 (upd (shUp G n (n - j)) j b)])))  : ∀ (d : Nat) (q : Nat) (K2 F2 G2 : Nat → Int32), q = j + d → q ≤ n → shUp K2 q d = shUp K n (n - j) → shUp F2 q d = shUp F n (n - j) → shUp G2 q d = shUp G n (n - j) → J 0 0 [cO h 0 [.ref k, .ref f, .ref s, .int (nI n)], cI E k 8 K2, cI E f 8 F2, cI E s 8 G2] 6 [(5, .int (nI q)), (0, .ref h), (1, .int (nI j)), (2, .int kd), (3, .int a), (4, .int b)] [] := by
  intro d
  induction d with
  | zero =>
    intro q K2 F2 G2 h1 h2 h3 h4 h5
    simp only [shUp] at h3 h4 h5
    refine g_iload Z dX0_insert_6 0 rfl ?_
    refine g_iload_n Z dX0_insert_8 2 rfl rfl ?_
    refine g_icmpN_le (tgt := 51) Z dX0_insert_9 (by decide) q j rfl rfl (by omega) (by omega) (fun c_9 => ?_) (fun c_9 => absurd c_9 (by omega))
    refine g_aload_n Z dX0_insert_51 1 rfl rfl ?_
    refine g_iload_n Z dX0_insert_52 2 rfl rfl ?_
    refine g_iload_n Z dX0_insert_53 3 rfl rfl ?_
    refine g_iload_n Z dX0_insert_54 4 rfl rfl ?_
    refine g_iload Z dX0_insert_55 5 rfl ?_
    refine g_callVx (w' := [cO h 0 [.ref k, .ref f, .ref s, .int (nI n)], cI E k 8 (upd K2 j kd), cI E f 8 (upd F2 j a), cI E s 8 (upd G2 j b)]) Z (qX0_write E h k f s K2 F2 G2 n j kd a b (by omega)) iX0_write gX0_insert_X0_write ⟨rfl, rfl⟩ ⟨Nat.le_of_ble_eq_true rfl, Nat.le_of_ble_eq_true rfl⟩ dX0_insert_57 rfl rfl (Nat.le_of_ble_eq_true rfl) ⟨Nat.zero_le _, Nat.zero_le _⟩ [0, 1, 2, 3] rfl rfl 0 rfl rfl rfl rfl rfl ?_
    refine g_aload_n Z dX0_insert_60 1 rfl rfl ?_
    refine g_dup Z dX0_insert_61 rfl ?_
    refine g_get Z dX0_insert_62 0 rfl rfl nX0_insert_X0 3 (by decide) fX0_insert_21 rfl ?_
    refine g_iconst Z dX0_insert_65 zi_1 ?_
    refine g_iaddE (z := nI (n + 1)) Z dX0_insert_66 (nI_add n 1) ?_
    refine g_put (w' := [cO h 0 [.ref k, .ref f, .ref s, .int (nI (n + 1))], cI E k 8 (upd K2 j kd), cI E f 8 (upd F2 j a), cI E s 8 (upd G2 j b)]) Z dX0_insert_67 0 rfl rfl nX0_insert_X0 tyX0 tyX0_ok nmX0 3 (by decide) fX0_insert_21 rfl rfl rfl rfl (Nat.le_of_ble_eq_true rfl) rfl ?_
    exact g_vret Z dX0_insert_70 rfl ⟨Nat.zero_le _, Nat.zero_le _⟩ ⟨rfl, by rw [h3, h4, h5]⟩
  | succ d ih =>
    intro q K2 F2 G2 h1 h2 h3 h4 h5
    obtain ⟨p, e_q⟩ : ∃ p, q = p + 1 := ⟨q - 1, by omega⟩
    have e_p : q - 1 = p := by omega
    simp only [shUp, e_p] at h3 h4 h5
    refine g_iload Z dX0_insert_6 0 rfl ?_
    refine g_iload_n Z dX0_insert_8 2 rfl rfl ?_
    refine g_icmpN_le (tgt := 51) Z dX0_insert_9 (by decide) q j rfl rfl (by omega) (by omega) (fun c_9 => absurd c_9 (by omega)) (fun c_9 => ?_)
    refine g_aload_n Z dX0_insert_12 1 rfl rfl ?_
    refine g_iload Z dX0_insert_13 0 rfl ?_
    refine g_aload_n Z dX0_insert_15 1 rfl rfl ?_
    refine g_get Z dX0_insert_16 0 rfl rfl nX0_insert_X0 0 (by decide) fX0_insert_9 rfl ?_
    refine g_iload Z dX0_insert_19 0 rfl ?_
    refine g_iconst Z dX0_insert_21 zi_1 ?_
    refine g_isubE (z := nI p) Z dX0_insert_22 (by rw [e_q]; exact nI_pred p) ?_
    refine g_iald Z dX0_insert_23 1 rfl p rfl (by omega) rfl ?_
    refine g_aload_n Z dX0_insert_24 1 rfl rfl ?_
    refine g_get Z dX0_insert_25 0 rfl rfl nX0_insert_X0 1 (by decide) fX0_insert_15 rfl ?_
    refine g_iload Z dX0_insert_28 0 rfl ?_
    refine g_iconst Z dX0_insert_30 zi_1 ?_
    refine g_isubE (z := nI p) Z dX0_insert_31 (by rw [e_q]; exact nI_pred p) ?_
    refine g_iald Z dX0_insert_32 2 rfl p rfl (by omega) rfl ?_
    refine g_aload_n Z dX0_insert_33 1 rfl rfl ?_
    refine g_get Z dX0_insert_34 0 rfl rfl nX0_insert_X0 2 (by decide) fX0_insert_18 rfl ?_
    refine g_iload Z dX0_insert_37 0 rfl ?_
    refine g_iconst Z dX0_insert_39 zi_1 ?_
    refine g_isubE (z := nI p) Z dX0_insert_40 (by rw [e_q]; exact nI_pred p) ?_
    refine g_iald Z dX0_insert_41 3 rfl p rfl (by omega) rfl ?_
    refine g_callVx (w' := [cO h 0 [.ref k, .ref f, .ref s, .int (nI n)], cI E k 8 (upd K2 q (K2 p)), cI E f 8 (upd F2 q (F2 p)), cI E s 8 (upd G2 q (G2 p))]) Z (qX0_write E h k f s K2 F2 G2 n q (K2 p) (F2 p) (G2 p) (by omega)) iX0_write gX0_insert_X0_write ⟨rfl, rfl⟩ ⟨Nat.le_of_ble_eq_true rfl, Nat.le_of_ble_eq_true rfl⟩ dX0_insert_42 rfl rfl (Nat.le_of_ble_eq_true rfl) ⟨Nat.zero_le _, Nat.zero_le _⟩ [0, 1, 2, 3] rfl rfl 0 rfl rfl rfl rfl rfl ?_
    refine g_iinc (lv' := [(5, .int (nI p)), (0, .ref h), (1, .int (nI j)), (2, .int kd), (3, .int a), (4, .int b)]) Z dX0_insert_45 0 rfl (by rw [e_q]; exact zdec p) (by decide) rfl ?_
    refine g_goto (tgt := 6) Z dX0_insert_48 (by decide) ?_
    refine g_lv (lv2 := [(5, .int (nI p)), (0, .ref h), (1, .int (nI j)), (2, .int kd), (3, .int a), (4, .int b)]) Z [0, 1, 2, 3, 4, 5] rfl ?_
    exact ih p _ _ _ (by omega) (by omega) h3 h4 h5
set_option maxHeartbeats 4000000 in
set_option maxRecDepth 100000 in
theorem qX0_insert (E : zE) (h k f s : Nat) (K F G : Nat → Int32) (n j : Nat) (kd a b : Int32) (hj : j ≤ n) (hn : n < 8) : zF E yX0_insert wsX0_insert rX0_insert [.ref h, .int (nI j), .int kd, .int a, .int b] [cO h 0 [.ref k, .ref f, .ref s, .int (nI n)], cI E k 8 K, cI E f 8 F, cI E s 8 G] (zx none ([cO h 0 [.ref k, .ref f, .ref s, .int (nI (n + 1))], cI E k 8 (upd (shUp K n (n - j)) j kd), cI E f 8 (upd (shUp F n (n - j)) j a), cI E s 8 (upd (shUp G n (n - j)) j b)])) := by
  refine z_start RX0 "insert" (by decide) rfl rfl rfl (Nat.le_of_ble_eq_true rfl) ?_
  intro J Z
  refine g_eq Z (lv2 := [(0, .ref h), (1, .int (nI j)), (2, .int kd), (3, .int a), (4, .int b)]) rfl rfl rfl ?_
  refine g_aload_n Z dX0_insert_0 0 rfl rfl ?_
  refine g_get Z dX0_insert_1 0 rfl rfl nX0_insert_X0 3 (by decide) fX0_insert_21 rfl ?_
  refine g_istore (lv' := [(5, .int (nI n)), (0, .ref h), (1, .int (nI j)), (2, .int kd), (3, .int a), (4, .int b)]) Z dX0_insert_4 (by decide) rfl ?_
  exact lX0_insert E h k f s K F G n j kd a b hj hn Z (n - j) n K F G (by omega) (by omega) rfl rfl rfl

abbrev rX0_remove : Room := { frames := 1, cells := 0, slots := 0, locals := 24 }
theorem iX0_remove : zInfo yX0_remove wsX0_remove RX0 3 none 1 := ⟨_, _, rfl, by decide +kernel⟩
theorem nX0_remove_X0 : ∀ w ∈ wsX00, w ∈ wsX0_remove := by decide +kernel
theorem fX0_remove_21 : Cond.fieldLink RX0 21 (TX0 3).1 (TX0 3).2.1 (TX0 3).2.2.1 ∈ wsX0_remove := by decide +kernel
theorem fX0_remove_9 : Cond.fieldLink RX0 9 (TX0 0).1 (TX0 0).2.1 (TX0 0).2.2.1 ∈ wsX0_remove := by decide +kernel
theorem fX0_remove_15 : Cond.fieldLink RX0 15 (TX0 1).1 (TX0 1).2.1 (TX0 1).2.2.1 ∈ wsX0_remove := by decide +kernel
theorem fX0_remove_18 : Cond.fieldLink RX0 18 (TX0 2).1 (TX0 2).2.1 (TX0 2).2.2.1 ∈ wsX0_remove := by decide +kernel
set_option maxHeartbeats 4000000 in
set_option maxRecDepth 100000 in
theorem lX0_remove (E : zE) (h k f s : Nat) (K F G : Nat → Int32) (n m j : Nat) (hn : n = m + 1) (hj : j ≤ m) (hm : m < 8) {J : zJ} (Z : zOk E J RX0 cX0_remove 3 none wsX0_remove rX0_remove "remove" (fun _ => True) (zx none ([cO h 0 [.ref k, .ref f, .ref s, .int (nI m)], cI E k 8 (shDn K j (m - j)), cI E f 8 (shDn F j (m - j)), cI E s 8 (shDn G j (m - j))])))  : ∀ (d : Nat) (q : Nat) (K2 F2 G2 : Nat → Int32), q + d = m → shDn K2 q d = shDn K j (m - j) → shDn F2 q d = shDn F j (m - j) → shDn G2 q d = shDn G j (m - j) → J 0 0 [cO h 0 [.ref k, .ref f, .ref s, .int (nI n)], cI E k 8 K2, cI E f 8 F2, cI E s 8 G2] 2 [(2, .int (nI q)), (0, .ref h), (1, .int (nI j))] [] := by
  intro d
  induction d with
  | zero =>
    intro q K2 F2 G2 h1 h2 h3 h4
    simp only [shDn] at h2 h3 h4
    refine g_iload_n Z dX0_remove_2 0 rfl rfl ?_
    refine g_aload_n Z dX0_remove_3 1 rfl rfl ?_
    refine g_get Z dX0_remove_4 0 rfl rfl nX0_remove_X0 3 (by decide) fX0_remove_21 rfl ?_
    refine g_iconst Z dX0_remove_7 zi_1 ?_
    refine g_isubE (z := nI m) Z dX0_remove_8 (by rw [hn]; exact nI_pred m) ?_
    refine g_icmpN_ge (tgt := 47) Z dX0_remove_9 (by decide) q m rfl rfl (by omega) (by omega) (fun c_9 => ?_) (fun c_9 => absurd c_9 (by omega))
    refine g_aload_n Z dX0_remove_47 1 rfl rfl ?_
    refine g_dup Z dX0_remove_48 rfl ?_
    refine g_get Z dX0_remove_49 0 rfl rfl nX0_remove_X0 3 (by decide) fX0_remove_21 rfl ?_
    refine g_iconst Z dX0_remove_52 zi_1 ?_
    refine g_isubE (z := nI m) Z dX0_remove_53 (by rw [hn]; exact nI_pred m) ?_
    refine g_put (w' := [cO h 0 [.ref k, .ref f, .ref s, .int (nI m)], cI E k 8 K2, cI E f 8 F2, cI E s 8 G2]) Z dX0_remove_54 0 rfl rfl nX0_remove_X0 tyX0 tyX0_ok nmX0 3 (by decide) fX0_remove_21 rfl rfl rfl rfl (Nat.le_of_ble_eq_true rfl) rfl ?_
    exact g_vret Z dX0_remove_57 rfl ⟨Nat.zero_le _, Nat.zero_le _⟩ ⟨rfl, by rw [h2, h3, h4]⟩
  | succ d ih =>
    intro q K2 F2 G2 h1 h2 h3 h4
    simp only [shDn] at h2 h3 h4
    refine g_iload_n Z dX0_remove_2 0 rfl rfl ?_
    refine g_aload_n Z dX0_remove_3 1 rfl rfl ?_
    refine g_get Z dX0_remove_4 0 rfl rfl nX0_remove_X0 3 (by decide) fX0_remove_21 rfl ?_
    refine g_iconst Z dX0_remove_7 zi_1 ?_
    refine g_isubE (z := nI m) Z dX0_remove_8 (by rw [hn]; exact nI_pred m) ?_
    refine g_icmpN_ge (tgt := 47) Z dX0_remove_9 (by decide) q m rfl rfl (by omega) (by omega) (fun c_9 => absurd c_9 (by omega)) (fun c_9 => ?_)
    refine g_aload_n Z dX0_remove_12 1 rfl rfl ?_
    refine g_iload_n Z dX0_remove_13 0 rfl rfl ?_
    refine g_aload_n Z dX0_remove_14 1 rfl rfl ?_
    refine g_get Z dX0_remove_15 0 rfl rfl nX0_remove_X0 0 (by decide) fX0_remove_9 rfl ?_
    refine g_iload_n Z dX0_remove_18 0 rfl rfl ?_
    refine g_iconst Z dX0_remove_19 zi_1 ?_
    refine g_iaddE (z := nI (q + 1)) Z dX0_remove_20 (nI_add q 1) ?_
    refine g_iald Z dX0_remove_21 1 rfl (q + 1) rfl (by omega) rfl ?_
    refine g_aload_n Z dX0_remove_22 1 rfl rfl ?_
    refine g_get Z dX0_remove_23 0 rfl rfl nX0_remove_X0 1 (by decide) fX0_remove_15 rfl ?_
    refine g_iload_n Z dX0_remove_26 0 rfl rfl ?_
    refine g_iconst Z dX0_remove_27 zi_1 ?_
    refine g_iaddE (z := nI (q + 1)) Z dX0_remove_28 (nI_add q 1) ?_
    refine g_iald Z dX0_remove_29 2 rfl (q + 1) rfl (by omega) rfl ?_
    refine g_aload_n Z dX0_remove_30 1 rfl rfl ?_
    refine g_get Z dX0_remove_31 0 rfl rfl nX0_remove_X0 2 (by decide) fX0_remove_18 rfl ?_
    refine g_iload_n Z dX0_remove_34 0 rfl rfl ?_
    refine g_iconst Z dX0_remove_35 zi_1 ?_
    refine g_iaddE (z := nI (q + 1)) Z dX0_remove_36 (nI_add q 1) ?_
    refine g_iald Z dX0_remove_37 3 rfl (q + 1) rfl (by omega) rfl ?_
    refine g_callVx (w' := [cO h 0 [.ref k, .ref f, .ref s, .int (nI n)], cI E k 8 (upd K2 q (K2 (q + 1))), cI E f 8 (upd F2 q (F2 (q + 1))), cI E s 8 (upd G2 q (G2 (q + 1)))]) Z (qX0_write E h k f s K2 F2 G2 n q (K2 (q + 1)) (F2 (q + 1)) (G2 (q + 1)) (by omega)) iX0_write gX0_remove_X0_write ⟨rfl, rfl⟩ ⟨Nat.le_of_ble_eq_true rfl, Nat.le_of_ble_eq_true rfl⟩ dX0_remove_38 rfl rfl (Nat.le_of_ble_eq_true rfl) ⟨Nat.zero_le _, Nat.zero_le _⟩ [0, 1, 2, 3] rfl rfl 0 rfl rfl rfl rfl rfl ?_
    refine g_iinc (lv' := [(2, .int (nI (q + 1))), (0, .ref h), (1, .int (nI j))]) Z dX0_remove_41 0 rfl (zinc _) (by decide) rfl ?_
    refine g_goto (tgt := 2) Z dX0_remove_44 (by decide) ?_
    refine g_lv (lv2 := [(2, .int (nI (q + 1))), (0, .ref h), (1, .int (nI j))]) Z [0, 1, 2] rfl ?_
    exact ih (q + 1) _ _ _ (by omega) h2 h3 h4
set_option maxHeartbeats 4000000 in
set_option maxRecDepth 100000 in
theorem qX0_remove (E : zE) (h k f s : Nat) (K F G : Nat → Int32) (n m j : Nat) (hn : n = m + 1) (hj : j ≤ m) (hm : m < 8) : zF E yX0_remove wsX0_remove rX0_remove [.ref h, .int (nI j)] [cO h 0 [.ref k, .ref f, .ref s, .int (nI n)], cI E k 8 K, cI E f 8 F, cI E s 8 G] (zx none ([cO h 0 [.ref k, .ref f, .ref s, .int (nI m)], cI E k 8 (shDn K j (m - j)), cI E f 8 (shDn F j (m - j)), cI E s 8 (shDn G j (m - j))])) := by
  refine z_start RX0 "remove" (by decide) rfl rfl rfl (Nat.le_of_ble_eq_true rfl) ?_
  intro J Z
  refine g_eq Z (lv2 := [(0, .ref h), (1, .int (nI j))]) rfl rfl rfl ?_
  refine g_iload_n Z dX0_remove_0 1 rfl rfl ?_
  refine g_istore_n (lv' := [(2, .int (nI j)), (0, .ref h), (1, .int (nI j))]) Z dX0_remove_1 rfl (by decide) rfl ?_
  exact lX0_remove E h k f s K F G n m j hn hj hm Z (m - j) j K F G (by omega) rfl rfl rfl

abbrev rX0_reverse : Room := { frames := 1, cells := 0, slots := 0, locals := 24 }
theorem iX0_reverse : zInfo yX0_reverse wsX0_reverse RX0 6 none 0 := ⟨_, _, rfl, by decide +kernel⟩
theorem nX0_reverse_X0 : ∀ w ∈ wsX00, w ∈ wsX0_reverse := by decide +kernel
theorem fX0_reverse_9 : Cond.fieldLink RX0 9 (TX0 0).1 (TX0 0).2.1 (TX0 0).2.2.1 ∈ wsX0_reverse := by decide +kernel
theorem fX0_reverse_15 : Cond.fieldLink RX0 15 (TX0 1).1 (TX0 1).2.1 (TX0 1).2.2.1 ∈ wsX0_reverse := by decide +kernel
theorem fX0_reverse_18 : Cond.fieldLink RX0 18 (TX0 2).1 (TX0 2).2.1 (TX0 2).2.2.1 ∈ wsX0_reverse := by decide +kernel
theorem fX0_reverse_21 : Cond.fieldLink RX0 21 (TX0 3).1 (TX0 3).2.1 (TX0 3).2.2.1 ∈ wsX0_reverse := by decide +kernel
set_option maxHeartbeats 4000000 in
set_option maxRecDepth 100000 in
theorem lX0_reverse (E : zE) (h k f s : Nat) (K F G : Nat → Int32) (n : Nat) (hn : n ≤ 8) {J : zJ} (Z : zOk E J RX0 cX0_reverse 6 none wsX0_reverse rX0_reverse "reverse" (fun _ => True) (zx none ([cO h 0 [.ref k, .ref f, .ref s, .int (nI n)], cI E k 8 (revF K n 0 (n / 2)), cI E f 8 (revF F n 0 (n / 2)), cI E s 8 (revF G n 0 (n / 2))])))  : ∀ (d : Nat) (q p : Nat) (K2 F2 G2 : Nat → Int32), p + q + 1 = n → q + d = n / 2 → revF K2 n q d = revF K n 0 (n / 2) → revF F2 n q d = revF F n 0 (n / 2) → revF G2 n q d = revF G n 0 (n / 2) → J 0 0 [cO h 0 [.ref k, .ref f, .ref s, .int (nI n)], cI E k 8 K2, cI E f 8 F2, cI E s 8 G2] 9 [(2, .int (nI p)), (1, .int (nI q)), (0, .ref h)] [] := by
  intro d
  induction d with
  | zero =>
    intro q p K2 F2 G2 h1 h2 h3 h4 h5
    simp only [revF] at h3 h4 h5
    refine g_iload_n Z dX0_reverse_9 1 rfl rfl ?_
    refine g_iload_n Z dX0_reverse_10 0 rfl rfl ?_
    refine g_icmpN_ge (tgt := 79) Z dX0_reverse_11 (by decide) q p rfl rfl (by omega) (by omega) (fun c_11 => ?_) (fun c_11 => absurd c_11 (by omega))
    exact g_vret Z dX0_reverse_79 rfl ⟨Nat.zero_le _, Nat.zero_le _⟩ ⟨rfl, by rw [h3, h4, h5]⟩
  | succ d ih =>
    intro q p K2 F2 G2 h1 h2 h3 h4 h5
    obtain ⟨p2, e_p⟩ : ∃ p2, p = p2 + 1 := ⟨p - 1, by omega⟩
    have e_n : n - 1 - q = p := by omega
    simp only [revF, e_n] at h3 h4 h5
    refine g_iload_n Z dX0_reverse_9 1 rfl rfl ?_
    refine g_iload_n Z dX0_reverse_10 0 rfl rfl ?_
    refine g_icmpN_ge (tgt := 79) Z dX0_reverse_11 (by decide) q p rfl rfl (by omega) (by omega) (fun c_11 => absurd c_11 (by omega)) (fun c_11 => ?_)
    refine g_aload_n Z dX0_reverse_14 2 rfl rfl ?_
    refine g_get Z dX0_reverse_15 0 rfl rfl nX0_reverse_X0 0 (by decide) fX0_reverse_9 rfl ?_
    refine g_iload_n Z dX0_reverse_18 1 rfl rfl ?_
    refine g_iald Z dX0_reverse_19 1 rfl q rfl (by omega) rfl ?_
    refine g_istore_n (lv' := [(3, .int (K2 q)), (2, .int (nI p)), (1, .int (nI q)), (0, .ref h)]) Z dX0_reverse_20 rfl (by decide) rfl ?_
    refine g_aload_n Z dX0_reverse_21 3 rfl rfl ?_
    refine g_get Z dX0_reverse_22 0 rfl rfl nX0_reverse_X0 1 (by decide) fX0_reverse_15 rfl ?_
    refine g_iload_n Z dX0_reverse_25 2 rfl rfl ?_
    refine g_iald Z dX0_reverse_26 2 rfl q rfl (by omega) rfl ?_
    refine g_istore (lv' := [(4, .int (F2 q)), (3, .int (K2 q)), (2, .int (nI p)), (1, .int (nI q)), (0, .ref h)]) Z dX0_reverse_27 (by decide) rfl ?_
    refine g_aload_n Z dX0_reverse_29 4 rfl rfl ?_
    refine g_get Z dX0_reverse_30 0 rfl rfl nX0_reverse_X0 2 (by decide) fX0_reverse_18 rfl ?_
    refine g_iload_n Z dX0_reverse_33 3 rfl rfl ?_
    refine g_iald Z dX0_reverse_34 3 rfl q rfl (by omega) rfl ?_
    refine g_istore (lv' := [(5, .int (G2 q)), (4, .int (F2 q)), (3, .int (K2 q)), (2, .int (nI p)), (1, .int (nI q)), (0, .ref h)]) Z dX0_reverse_35 (by decide) rfl ?_
    refine g_aload_n Z dX0_reverse_37 5 rfl rfl ?_
    refine g_iload_n Z dX0_reverse_38 4 rfl rfl ?_
    refine g_aload_n Z dX0_reverse_39 5 rfl rfl ?_
    refine g_get Z dX0_reverse_40 0 rfl rfl nX0_reverse_X0 0 (by decide) fX0_reverse_9 rfl ?_
    refine g_iload_n Z dX0_reverse_43 3 rfl rfl ?_
    refine g_iald Z dX0_reverse_44 1 rfl p rfl (by omega) rfl ?_
    refine g_aload_n Z dX0_reverse_45 5 rfl rfl ?_
    refine g_get Z dX0_reverse_46 0 rfl rfl nX0_reverse_X0 1 (by decide) fX0_reverse_15 rfl ?_
    refine g_iload_n Z dX0_reverse_49 3 rfl rfl ?_
    refine g_iald Z dX0_reverse_50 2 rfl p rfl (by omega) rfl ?_
    refine g_aload_n Z dX0_reverse_51 5 rfl rfl ?_
    refine g_get Z dX0_reverse_52 0 rfl rfl nX0_reverse_X0 2 (by decide) fX0_reverse_18 rfl ?_
    refine g_iload_n Z dX0_reverse_55 3 rfl rfl ?_
    refine g_iald Z dX0_reverse_56 3 rfl p rfl (by omega) rfl ?_
    refine g_callVx (w' := [cO h 0 [.ref k, .ref f, .ref s, .int (nI n)], cI E k 8 (upd K2 q (K2 p)), cI E f 8 (upd F2 q (F2 p)), cI E s 8 (upd G2 q (G2 p))]) Z (qX0_write E h k f s K2 F2 G2 n q (K2 p) (F2 p) (G2 p) (by omega)) iX0_write gX0_reverse_X0_write ⟨rfl, rfl⟩ ⟨Nat.le_of_ble_eq_true rfl, Nat.le_of_ble_eq_true rfl⟩ dX0_reverse_57 rfl rfl (Nat.le_of_ble_eq_true rfl) ⟨Nat.zero_le _, Nat.zero_le _⟩ [0, 1, 2, 3] rfl rfl 0 rfl rfl rfl rfl rfl ?_
    refine g_aload_n Z dX0_reverse_60 5 rfl rfl ?_
    refine g_iload_n Z dX0_reverse_61 3 rfl rfl ?_
    refine g_iload_n Z dX0_reverse_62 2 rfl rfl ?_
    refine g_iload Z dX0_reverse_63 1 rfl ?_
    refine g_iload Z dX0_reverse_65 0 rfl ?_
    refine g_callVx (w' := [cO h 0 [.ref k, .ref f, .ref s, .int (nI n)], cI E k 8 (upd (upd K2 q (K2 p)) p (K2 q)), cI E f 8 (upd (upd F2 q (F2 p)) p (F2 q)), cI E s 8 (upd (upd G2 q (G2 p)) p (G2 q))]) Z (qX0_write E h k f s (upd K2 q (K2 p)) (upd F2 q (F2 p)) (upd G2 q (G2 p)) n p (K2 q) (F2 q) (G2 q) (by omega)) iX0_write gX0_reverse_X0_write ⟨rfl, rfl⟩ ⟨Nat.le_of_ble_eq_true rfl, Nat.le_of_ble_eq_true rfl⟩ dX0_reverse_67 rfl rfl (Nat.le_of_ble_eq_true rfl) ⟨Nat.zero_le _, Nat.zero_le _⟩ [0, 1, 2, 3] rfl rfl 0 rfl rfl rfl rfl rfl ?_
    refine g_iinc (lv' := [(1, .int (nI (q + 1))), (5, .int (G2 q)), (4, .int (F2 q)), (3, .int (K2 q)), (2, .int (nI p)), (0, .ref h)]) Z dX0_reverse_70 4 rfl (zinc _) (by decide) rfl ?_
    refine g_iinc (lv' := [(2, .int (nI p2)), (1, .int (nI (q + 1))), (5, .int (G2 q)), (4, .int (F2 q)), (3, .int (K2 q)), (0, .ref h)]) Z dX0_reverse_73 4 rfl (by rw [e_p]; exact zdec p2) (by decide) rfl ?_
    refine g_goto (tgt := 9) Z dX0_reverse_76 (by decide) ?_
    refine g_lv (lv2 := [(2, .int (nI p2)), (1, .int (nI (q + 1))), (0, .ref h)]) Z [0, 1, 5] rfl ?_
    exact ih (q + 1) p2 _ _ _ (by omega) (by omega) h3 h4 h5
set_option maxHeartbeats 4000000 in
set_option maxRecDepth 100000 in
theorem qX0_reverse (E : zE) (h k f s : Nat) (K F G : Nat → Int32) (n : Nat) (hn : n ≤ 8) : zF E yX0_reverse wsX0_reverse rX0_reverse [.ref h] [cO h 0 [.ref k, .ref f, .ref s, .int (nI n)], cI E k 8 K, cI E f 8 F, cI E s 8 G] (zx none ([cO h 0 [.ref k, .ref f, .ref s, .int (nI n)], cI E k 8 (revF K n 0 (n / 2)), cI E f 8 (revF F n 0 (n / 2)), cI E s 8 (revF G n 0 (n / 2))])) := by
  refine z_start RX0 "reverse" (by decide) rfl rfl rfl (Nat.le_of_ble_eq_true rfl) ?_
  intro J Z
  refine g_eq Z (lv2 := [(0, .ref h)]) rfl rfl rfl ?_
  rcases Nat.eq_zero_or_pos n with e_0 | e_0
  · refine g_iconst Z dX0_reverse_0 zi_0 ?_
    refine g_istore_n (lv' := [(1, .int 0), (0, .ref h)]) Z dX0_reverse_1 rfl (by decide) rfl ?_
    refine g_aload_n Z dX0_reverse_2 1 rfl rfl ?_
    refine g_get Z dX0_reverse_3 0 rfl rfl nX0_reverse_X0 3 (by decide) fX0_reverse_21 rfl ?_
    refine g_iconst Z dX0_reverse_6 zi_1 ?_
    refine g_isub Z dX0_reverse_7 ?_
    refine g_istore_n (lv' := [(2, .int ((nI n) - 1)), (1, .int 0), (0, .ref h)]) Z dX0_reverse_8 rfl (by decide) rfl ?_
    refine g_iload_n Z dX0_reverse_9 1 rfl rfl ?_
    refine g_iload_n Z dX0_reverse_10 0 rfl rfl ?_
    refine g_icmp_ge (tgt := 79) Z dX0_reverse_11 (by decide) (fun c_11 => ?_) (fun c_11 => absurd c_11 (by rw [e_0]; decide))
    exact g_vret Z dX0_reverse_79 rfl ⟨Nat.zero_le _, Nat.zero_le _⟩ (by subst e_0; exact ⟨rfl, rfl⟩)
  · refine g_iconst Z dX0_reverse_0 zi_0 ?_
    refine g_istore_n (lv' := [(1, .int 0), (0, .ref h)]) Z dX0_reverse_1 rfl (by decide) rfl ?_
    refine g_aload_n Z dX0_reverse_2 1 rfl rfl ?_
    refine g_get Z dX0_reverse_3 0 rfl rfl nX0_reverse_X0 3 (by decide) fX0_reverse_21 rfl ?_
    refine g_iconst Z dX0_reverse_6 zi_1 ?_
    refine g_isubE (z := nI (n - 1)) Z dX0_reverse_7 (pk_sub (a := n) (b := 1) (by omega)) ?_
    refine g_istore_n (lv' := [(2, .int (nI (n - 1))), (1, .int 0), (0, .ref h)]) Z dX0_reverse_8 rfl (by decide) rfl ?_
    exact lX0_reverse E h k f s K F G n hn Z (n / 2) 0 (n - 1) K F G (by omega) (by omega) rfl rfl rfl

abbrev rX0_append : Room := { frames := 1, cells := 0, slots := 0, locals := 24 }
theorem iX0_append : zInfo yX0_append wsX0_append RX0 4 none 1 := ⟨_, _, rfl, by decide +kernel⟩
theorem nX0_append_X0 : ∀ w ∈ wsX00, w ∈ wsX0_append := by decide +kernel
theorem fX0_append_21 : Cond.fieldLink RX0 21 (TX0 3).1 (TX0 3).2.1 (TX0 3).2.2.1 ∈ wsX0_append := by decide +kernel
theorem fX0_append_9 : Cond.fieldLink RX0 9 (TX0 0).1 (TX0 0).2.1 (TX0 0).2.2.1 ∈ wsX0_append := by decide +kernel
theorem fX0_append_15 : Cond.fieldLink RX0 15 (TX0 1).1 (TX0 1).2.1 (TX0 1).2.2.1 ∈ wsX0_append := by decide +kernel
theorem fX0_append_18 : Cond.fieldLink RX0 18 (TX0 2).1 (TX0 2).2.1 (TX0 2).2.2.1 ∈ wsX0_append := by decide +kernel
set_option maxHeartbeats 4000000 in
set_option maxRecDepth 100000 in
theorem lX0_append (E : zE) (h k f s o k2 f2 s2 : Nat) (K F G M P Q : Nat → Int32) (n m : Nat) (hn : n + m ≤ 8) {J : zJ} (Z : zOk E J RX0 cX0_append 4 none wsX0_append rX0_append "append" (fun _ => True) (zx none ([cO h 0 [.ref k, .ref f, .ref s, .int (nI (n + m))], cI E k 8 (appF K M n 0 m), cI E f 8 (appF F P n 0 m), cI E s 8 (appF G Q n 0 m), cO o 0 [.ref k2, .ref f2, .ref s2, .int (nI m)], cI E k2 8 M, cI E f2 8 P, cI E s2 8 Q])))  : ∀ (d : Nat) (q p : Nat) (K2 F2 G2 : Nat → Int32), q + d = m → p = n + q → appF K2 M p q d = appF K M n 0 m → appF F2 P p q d = appF F P n 0 m → appF G2 Q p q d = appF G Q n 0 m → J 0 0 [cO h 0 [.ref k, .ref f, .ref s, .int (nI p)], cI E k 8 K2, cI E f 8 F2, cI E s 8 G2, cO o 0 [.ref k2, .ref f2, .ref s2, .int (nI m)], cI E k2 8 M, cI E f2 8 P, cI E s2 8 Q] 7 [(3, .int (nI q)), (2, .int (nI m)), (0, .ref h), (1, .ref o)] [] := by
  intro d
  induction d with
  | zero =>
    intro q p K2 F2 G2 h1 h2 h3 h4 h5
    simp only [appF] at h3 h4 h5
    have e_p : p = n + m := by omega
    refine g_iload_n Z dX0_append_7 0 rfl rfl ?_
    refine g_iload_n Z dX0_append_8 1 rfl rfl ?_
    refine g_icmpN_ge (tgt := 54) Z dX0_append_9 (by decide) q m rfl rfl (by omega) (by omega) (fun c_9 => ?_) (fun c_9 => absurd c_9 (by omega))
    exact g_vret Z dX0_append_54 rfl ⟨Nat.zero_le _, Nat.zero_le _⟩ ⟨rfl, by rw [h3, h4, h5, e_p]⟩
  | succ d ih =>
    intro q p K2 F2 G2 h1 h2 h3 h4 h5
    simp only [appF] at h3 h4 h5
    refine g_iload_n Z dX0_append_7 0 rfl rfl ?_
    refine g_iload_n Z dX0_append_8 1 rfl rfl ?_
    refine g_icmpN_ge (tgt := 54) Z dX0_append_9 (by decide) q m rfl rfl (by omega) (by omega) (fun c_9 => absurd c_9 (by omega)) (fun c_9 => ?_)
    refine g_aload_n Z dX0_append_12 2 rfl rfl ?_
    refine g_aload_n Z dX0_append_13 2 rfl rfl ?_
    refine g_get Z dX0_append_14 0 rfl rfl nX0_append_X0 3 (by decide) fX0_append_21 rfl ?_
    refine g_aload_n Z dX0_append_17 3 rfl rfl ?_
    refine g_get Z dX0_append_18 4 rfl rfl nX0_append_X0 0 (by decide) fX0_append_9 rfl ?_
    refine g_iload_n Z dX0_append_21 0 rfl rfl ?_
    refine g_iald Z dX0_append_22 5 rfl q rfl (by omega) rfl ?_
    refine g_aload_n Z dX0_append_23 3 rfl rfl ?_
    refine g_get Z dX0_append_24 4 rfl rfl nX0_append_X0 1 (by decide) fX0_append_15 rfl ?_
    refine g_iload_n Z dX0_append_27 0 rfl rfl ?_
    refine g_iald Z dX0_append_28 6 rfl q rfl (by omega) rfl ?_
    refine g_aload_n Z dX0_append_29 3 rfl rfl ?_
    refine g_get Z dX0_append_30 4 rfl rfl nX0_append_X0 2 (by decide) fX0_append_18 rfl ?_
    refine g_iload_n Z dX0_append_33 0 rfl rfl ?_
    refine g_iald Z dX0_append_34 7 rfl q rfl (by omega) rfl ?_
    refine g_callVx (w' := [cO h 0 [.ref k, .ref f, .ref s, .int (nI p)], cI E k 8 (upd K2 p (M q)), cI E f 8 (upd F2 p (P q)), cI E s 8 (upd G2 p (Q q)), cO o 0 [.ref k2, .ref f2, .ref s2, .int (nI m)], cI E k2 8 M, cI E f2 8 P, cI E s2 8 Q]) Z (qX0_write E h k f s K2 F2 G2 p p (M q) (P q) (Q q) (by omega)) iX0_write gX0_append_X0_write ⟨rfl, rfl⟩ ⟨Nat.le_of_ble_eq_true rfl, Nat.le_of_ble_eq_true rfl⟩ dX0_append_35 rfl rfl (Nat.le_of_ble_eq_true rfl) ⟨Nat.zero_le _, Nat.zero_le _⟩ [0, 1, 2, 3] rfl rfl 0 rfl rfl rfl rfl rfl ?_
    refine g_aload_n Z dX0_append_38 2 rfl rfl ?_
    refine g_dup Z dX0_append_39 rfl ?_
    refine g_get Z dX0_append_40 0 rfl rfl nX0_append_X0 3 (by decide) fX0_append_21 rfl ?_
    refine g_iconst Z dX0_append_43 zi_1 ?_
    refine g_iaddE (z := nI (p + 1)) Z dX0_append_44 (nI_add p 1) ?_
    refine g_put (w' := [cO h 0 [.ref k, .ref f, .ref s, .int (nI (p + 1))], cI E k 8 (upd K2 p (M q)), cI E f 8 (upd F2 p (P q)), cI E s 8 (upd G2 p (Q q)), cO o 0 [.ref k2, .ref f2, .ref s2, .int (nI m)], cI E k2 8 M, cI E f2 8 P, cI E s2 8 Q]) Z dX0_append_45 0 rfl rfl nX0_append_X0 tyX0 tyX0_ok nmX0 3 (by decide) fX0_append_21 rfl rfl rfl rfl (Nat.le_of_ble_eq_true rfl) rfl ?_
    refine g_iinc (lv' := [(3, .int (nI (q + 1))), (2, .int (nI m)), (0, .ref h), (1, .ref o)]) Z dX0_append_48 0 rfl (zinc _) (by decide) rfl ?_
    refine g_goto (tgt := 7) Z dX0_append_51 (by decide) ?_
    refine g_lv (lv2 := [(3, .int (nI (q + 1))), (2, .int (nI m)), (0, .ref h), (1, .ref o)]) Z [0, 1, 2, 3] rfl ?_
    exact ih (q + 1) (p + 1) _ _ _ (by omega) (by omega) h3 h4 h5
set_option maxHeartbeats 4000000 in
set_option maxRecDepth 100000 in
theorem qX0_append (E : zE) (h k f s o k2 f2 s2 : Nat) (K F G M P Q : Nat → Int32) (n m : Nat) (hn : n + m ≤ 8) : zF E yX0_append wsX0_append rX0_append [.ref h, .ref o] [cO h 0 [.ref k, .ref f, .ref s, .int (nI n)], cI E k 8 K, cI E f 8 F, cI E s 8 G, cO o 0 [.ref k2, .ref f2, .ref s2, .int (nI m)], cI E k2 8 M, cI E f2 8 P, cI E s2 8 Q] (zx none ([cO h 0 [.ref k, .ref f, .ref s, .int (nI (n + m))], cI E k 8 (appF K M n 0 m), cI E f 8 (appF F P n 0 m), cI E s 8 (appF G Q n 0 m), cO o 0 [.ref k2, .ref f2, .ref s2, .int (nI m)], cI E k2 8 M, cI E f2 8 P, cI E s2 8 Q])) := by
  refine z_start RX0 "append" (by decide) rfl rfl rfl (Nat.le_of_ble_eq_true rfl) ?_
  intro J Z
  refine g_eq Z (lv2 := [(0, .ref h), (1, .ref o)]) rfl rfl rfl ?_
  refine g_aload_n Z dX0_append_0 1 rfl rfl ?_
  refine g_get Z dX0_append_1 4 rfl rfl nX0_append_X0 3 (by decide) fX0_append_21 rfl ?_
  refine g_istore_n (lv' := [(2, .int (nI m)), (0, .ref h), (1, .ref o)]) Z dX0_append_4 rfl (by decide) rfl ?_
  refine g_iconst Z dX0_append_5 zi_0 ?_
  refine g_istore_n (lv' := [(3, .int 0), (2, .int (nI m)), (0, .ref h), (1, .ref o)]) Z dX0_append_6 rfl (by decide) rfl ?_
  exact lX0_append E h k f s o k2 f2 s2 K F G M P Q n m hn Z m 0 n K F G (by omega) (by omega) rfl rfl rfl

set_option maxHeartbeats 4000000 in
set_option maxRecDepth 100000 in
theorem lX0_appendS (E : zE) (h k f s : Nat) (K F G : Nat → Int32) (n : Nat) (hn : n + n ≤ 8) {J : zJ} (Z : zOk E J RX0 cX0_append 4 none wsX0_append rX0_append "append" (fun _ => True) (zx none ([cO h 0 [.ref k, .ref f, .ref s, .int (nI (n + n))], cI E k 8 (appF K K n 0 n), cI E f 8 (appF F F n 0 n), cI E s 8 (appF G G n 0 n)])))  : ∀ (d : Nat) (q p : Nat) (K2 F2 G2 : Nat → Int32), q + d = n → p = n + q → (∀ x, x < n → K2 x = K x) → (∀ x, x < n → F2 x = F x) → (∀ x, x < n → G2 x = G x) → appF K2 K p q d = appF K K n 0 n → appF F2 F p q d = appF F F n 0 n → appF G2 G p q d = appF G G n 0 n → J 0 0 [cO h 0 [.ref k, .ref f, .ref s, .int (nI p)], cI E k 8 K2, cI E f 8 F2, cI E s 8 G2] 7 [(3, .int (nI q)), (2, .int (nI n)), (0, .ref h), (1, .ref h)] [] := by
  intro d
  induction d with
  | zero =>
    intro q p K2 F2 G2 h1 h2 h3 h4 h5 h6 h7 h8
    simp only [appF] at h6 h7 h8
    have e_p : p = n + n := by omega
    refine g_iload_n Z dX0_append_7 0 rfl rfl ?_
    refine g_iload_n Z dX0_append_8 1 rfl rfl ?_
    refine g_icmpN_ge (tgt := 54) Z dX0_append_9 (by decide) q n rfl rfl (by omega) (by omega) (fun c_9 => ?_) (fun c_9 => absurd c_9 (by omega))
    exact g_vret Z dX0_append_54 rfl ⟨Nat.zero_le _, Nat.zero_le _⟩ ⟨rfl, by rw [h6, h7, h8, e_p]⟩
  | succ d ih =>
    intro q p K2 F2 G2 h1 h2 h3 h4 h5 h6 h7 h8
    simp only [appF] at h6 h7 h8
    rw [← h3 q (by omega)] at h6
    rw [← h4 q (by omega)] at h7
    rw [← h5 q (by omega)] at h8
    refine g_iload_n Z dX0_append_7 0 rfl rfl ?_
    refine g_iload_n Z dX0_append_8 1 rfl rfl ?_
    refine g_icmpN_ge (tgt := 54) Z dX0_append_9 (by decide) q n rfl rfl (by omega) (by omega) (fun c_9 => absurd c_9 (by omega)) (fun c_9 => ?_)
    refine g_aload_n Z dX0_append_12 2 rfl rfl ?_
    refine g_aload_n Z dX0_append_13 2 rfl rfl ?_
    refine g_get Z dX0_append_14 0 rfl rfl nX0_append_X0 3 (by decide) fX0_append_21 rfl ?_
    refine g_aload_n Z dX0_append_17 3 rfl rfl ?_
    refine g_get Z dX0_append_18 0 rfl rfl nX0_append_X0 0 (by decide) fX0_append_9 rfl ?_
    refine g_iload_n Z dX0_append_21 0 rfl rfl ?_
    refine g_iald Z dX0_append_22 1 rfl q rfl (by omega) rfl ?_
    refine g_aload_n Z dX0_append_23 3 rfl rfl ?_
    refine g_get Z dX0_append_24 0 rfl rfl nX0_append_X0 1 (by decide) fX0_append_15 rfl ?_
    refine g_iload_n Z dX0_append_27 0 rfl rfl ?_
    refine g_iald Z dX0_append_28 2 rfl q rfl (by omega) rfl ?_
    refine g_aload_n Z dX0_append_29 3 rfl rfl ?_
    refine g_get Z dX0_append_30 0 rfl rfl nX0_append_X0 2 (by decide) fX0_append_18 rfl ?_
    refine g_iload_n Z dX0_append_33 0 rfl rfl ?_
    refine g_iald Z dX0_append_34 3 rfl q rfl (by omega) rfl ?_
    refine g_callVx (w' := [cO h 0 [.ref k, .ref f, .ref s, .int (nI p)], cI E k 8 (upd K2 p (K2 q)), cI E f 8 (upd F2 p (F2 q)), cI E s 8 (upd G2 p (G2 q))]) Z (qX0_write E h k f s K2 F2 G2 p p (K2 q) (F2 q) (G2 q) (by omega)) iX0_write gX0_append_X0_write ⟨rfl, rfl⟩ ⟨Nat.le_of_ble_eq_true rfl, Nat.le_of_ble_eq_true rfl⟩ dX0_append_35 rfl rfl (Nat.le_of_ble_eq_true rfl) ⟨Nat.zero_le _, Nat.zero_le _⟩ [0, 1, 2, 3] rfl rfl 0 rfl rfl rfl rfl rfl ?_
    refine g_aload_n Z dX0_append_38 2 rfl rfl ?_
    refine g_dup Z dX0_append_39 rfl ?_
    refine g_get Z dX0_append_40 0 rfl rfl nX0_append_X0 3 (by decide) fX0_append_21 rfl ?_
    refine g_iconst Z dX0_append_43 zi_1 ?_
    refine g_iaddE (z := nI (p + 1)) Z dX0_append_44 (nI_add p 1) ?_
    refine g_put (w' := [cO h 0 [.ref k, .ref f, .ref s, .int (nI (p + 1))], cI E k 8 (upd K2 p (K2 q)), cI E f 8 (upd F2 p (F2 q)), cI E s 8 (upd G2 p (G2 q))]) Z dX0_append_45 0 rfl rfl nX0_append_X0 tyX0 tyX0_ok nmX0 3 (by decide) fX0_append_21 rfl rfl rfl rfl (Nat.le_of_ble_eq_true rfl) rfl ?_
    refine g_iinc (lv' := [(3, .int (nI (q + 1))), (2, .int (nI n)), (0, .ref h), (1, .ref h)]) Z dX0_append_48 0 rfl (zinc _) (by decide) rfl ?_
    refine g_goto (tgt := 7) Z dX0_append_51 (by decide) ?_
    refine g_lv (lv2 := [(3, .int (nI (q + 1))), (2, .int (nI n)), (0, .ref h), (1, .ref h)]) Z [0, 1, 2, 3] rfl ?_
    exact ih (q + 1) (p + 1) _ _ _ (by omega) (by omega) (fun x hx => by rw [pk_un (by omega)]; exact h3 x hx) (fun x hx => by rw [pk_un (by omega)]; exact h4 x hx) (fun x hx => by rw [pk_un (by omega)]; exact h5 x hx) h6 h7 h8
set_option maxHeartbeats 4000000 in
set_option maxRecDepth 100000 in
theorem qX0_appendS (E : zE) (h k f s : Nat) (K F G : Nat → Int32) (n : Nat) (hn : n + n ≤ 8) : zF E yX0_append wsX0_append rX0_append [.ref h, .ref h] [cO h 0 [.ref k, .ref f, .ref s, .int (nI n)], cI E k 8 K, cI E f 8 F, cI E s 8 G] (zx none ([cO h 0 [.ref k, .ref f, .ref s, .int (nI (n + n))], cI E k 8 (appF K K n 0 n), cI E f 8 (appF F F n 0 n), cI E s 8 (appF G G n 0 n)])) := by
  refine z_start RX0 "append" (by decide) rfl rfl rfl (Nat.le_of_ble_eq_true rfl) ?_
  intro J Z
  refine g_eq Z (lv2 := [(0, .ref h), (1, .ref h)]) rfl rfl rfl ?_
  refine g_aload_n Z dX0_append_0 1 rfl rfl ?_
  refine g_get Z dX0_append_1 0 rfl rfl nX0_append_X0 3 (by decide) fX0_append_21 rfl ?_
  refine g_istore_n (lv' := [(2, .int (nI n)), (0, .ref h), (1, .ref h)]) Z dX0_append_4 rfl (by decide) rfl ?_
  refine g_iconst Z dX0_append_5 zi_0 ?_
  refine g_istore_n (lv' := [(3, .int 0), (2, .int (nI n)), (0, .ref h), (1, .ref h)]) Z dX0_append_6 rfl (by decide) rfl ?_
  exact lX0_appendS E h k f s K F G n hn Z n 0 n K F G (by omega) (by omega) (fun _ _ => rfl) (fun _ _ => rfl) (fun _ _ => rfl) rfl rfl rfl
