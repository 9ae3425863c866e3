theorem dfX0 : ∀ j, j < 4 → defaultValue (tyX0 j) = vp_V [.null, .null, .null, .int 0] j := fun j hj => by
  rcases (show j = 0 ∨ j = 1 ∨ j = 2 ∨ j = 3 by omega) with rfl | rfl | rfl | rfl <;> rfl
theorem dfX1 : ∀ j, j < 7 → defaultValue (tyX1 j) = vp_V [.long 0, .long 0, .long 0, .long 0, .long 0, .long 0, .long 0] j := fun j hj => by
  rcases (show j = 0 ∨ j = 1 ∨ j = 2 ∨ j = 3 ∨ j = 4 ∨ j = 5 ∨ j = 6 by omega) with rfl | rfl | rfl | rfl | rfl | rfl | rfl <;> rfl
theorem dfX2 : ∀ j, j < 6 → defaultValue (tyX2 j) = vp_V [.null, .int 0, .null, .int 0, .null, .null] j := fun j hj => by
  rcases (show j = 0 ∨ j = 1 ∨ j = 2 ∨ j = 3 ∨ j = 4 ∨ j = 5 by omega) with rfl | rfl | rfl | rfl | rfl | rfl <;> rfl
theorem dfX3 : ∀ j, j < 9 → defaultValue (tyX3 j) = vp_V [.int 0, .null, .null, .null, .null, .int 0, .null, .null, .long 0] j := fun j hj => by
  rcases (show j = 0 ∨ j = 1 ∨ j = 2 ∨ j = 3 ∨ j = 4 ∨ j = 5 ∨ j = 6 ∨ j = 7 ∨ j = 8 by omega) with rfl | rfl | rfl | rfl | rfl | rfl | rfl | rfl | rfl <;> rfl
abbrev rX0_init : Room := { frames := 1, cells := 3, slots := 24, locals := 20 }
theorem iX0_init : zInfo yX0_init wsX0_init RX0 1 none 0 := ⟨_, _, rfl, by decide +kernel⟩
theorem obX0_init_l : Cond.methodLink RX0 3 Lib.objectInit ∈ wsX0_init := by decide +kernel
theorem obX0_init_i : Cond.instanceMethod Lib.objectInit ∈ wsX0_init := by decide +kernel
theorem obX0_init_c : Cond.code Lib.objectInit ⟨#[0xb1]⟩ 1 none ∈ wsX0_init := by decide +kernel
theorem acX0_init_int : Cond.arrayClass .int ∈ wsX0_init := by decide +kernel
theorem nX0_init_X0 : ∀ w ∈ wsX00, w ∈ wsX0_init := by decide +kernel
theorem fX0_init_9 : Cond.fieldLink RX0 9 (TX0 0).1 (TX0 0).2.1 (TX0 0).2.2.1 ∈ wsX0_init := by decide +kernel
theorem fX0_init_15 : Cond.fieldLink RX0 15 (TX0 1).1 (TX0 1).2.1 (TX0 1).2.2.1 ∈ wsX0_init := by decide +kernel
theorem fX0_init_18 : Cond.fieldLink RX0 18 (TX0 2).1 (TX0 2).2.1 (TX0 2).2.2.1 ∈ wsX0_init := by decide +kernel
theorem fX0_init_21 : Cond.fieldLink RX0 21 (TX0 3).1 (TX0 3).2.1 (TX0 3).2.2.1 ∈ wsX0_init := by decide +kernel
set_option maxHeartbeats 4000000 in
set_option maxRecDepth 100000 in
theorem qX0_init (E : zE) (h : Nat)  : zF E yX0_init wsX0_init rX0_init [.ref h] [cO h 0 [.null, .null, .null, .int 0]] (fun ov wv => ov = none ∧ ∃ k f s : Nat, wv = [cO h 0 [.ref k, .ref f, .ref s, .int 0], cI E k 8 (fun _ => 0), cI E f 8 (fun _ => 0), cI E s 8 (fun _ => 0)]) := by
  refine z_start RX0 "<init>" (by decide) rfl rfl rfl (Nat.le_of_ble_eq_true rfl) ?_
  intro J Z
  refine g_eq Z (lv2 := [(0, .ref h)]) rfl rfl rfl ?_
  refine g_aload_n Z dX0_init_0 0 rfl rfl ?_
  refine g_objInit Z dX0_init_1 obX0_init_l obX0_init_i obX0_init_c (Nat.le_of_ble_eq_true rfl) (Nat.le_of_ble_eq_true rfl) ?_
  refine g_aload_n Z dX0_init_4 0 rfl rfl ?_
  refine g_bipush Z dX0_init_5 zb_8 ?_
  refine g_newI (z := 8) Z dX0_init_7 acX0_init_int rfl rfl ⟨Nat.le_of_ble_eq_true rfl, Nat.le_of_ble_eq_true rfl⟩ (fun a1 => ?_)
  refine g_putF (w' := [cO h 0 [.ref a1, .null, .null, .int 0], cI E a1 8 (fun _ => 0)]) Z dX0_init_9 0 rfl rfl nX0_init_X0 tyX0 tyX0_ok nmX0 0 (by decide) fX0_init_9 rfl rfl rfl rfl rfl rfl (Nat.le_of_ble_eq_true rfl) rfl ?_
  refine g_aload_n Z dX0_init_12 0 rfl rfl ?_
  refine g_bipush Z dX0_init_13 zb_8 ?_
  refine g_newI (z := 8) Z dX0_init_15 acX0_init_int rfl rfl ⟨Nat.le_of_ble_eq_true rfl, Nat.le_of_ble_eq_true rfl⟩ (fun a2 => ?_)
  refine g_putF (w' := [cO h 0 [.ref a1, .ref a2, .null, .int 0], cI E a1 8 (fun _ => 0), cI E a2 8 (fun _ => 0)]) Z dX0_init_17 0 rfl rfl nX0_init_X0 tyX0 tyX0_ok nmX0 1 (by decide) fX0_init_15 rfl rfl rfl rfl rfl rfl (Nat.le_of_ble_eq_true rfl) rfl ?_
  refine g_aload_n Z dX0_init_20 0 rfl rfl ?_
  refine g_bipush Z dX0_init_21 zb_8 ?_
  refine g_newI (z := 8) Z dX0_init_23 acX0_init_int rfl rfl ⟨Nat.le_of_ble_eq_true rfl, Nat.le_of_ble_eq_true rfl⟩ (fun a3 => ?_)
  refine g_putF (w' := [cO h 0 [.ref a1, .ref a2, .ref a3, .int 0], cI E a1 8 (fun _ => 0), cI E a2 8 (fun _ => 0), cI E a3 8 (fun _ => 0)]) Z dX0_init_25 0 rfl rfl nX0_init_X0 tyX0 tyX0_ok nmX0 2 (by decide) fX0_init_18 rfl rfl rfl rfl rfl rfl (Nat.le_of_ble_eq_true rfl) rfl ?_
  refine g_aload_n Z dX0_init_28 0 rfl rfl ?_
  refine g_iconst Z dX0_init_29 zi_0 ?_
  refine g_put (w' := [cO h 0 [.ref a1, .ref a2, .ref a3, .int 0], cI E a1 8 (fun _ => 0), cI E a2 8 (fun _ => 0), cI E a3 8 (fun _ => 0)]) Z dX0_init_30 0 rfl rfl nX0_init_X0 tyX0 tyX0_ok nmX0 3 (by decide) fX0_init_21 rfl rfl rfl rfl (Nat.le_of_ble_eq_true rfl) rfl ?_
  exact g_vret Z dX0_init_33 rfl ⟨Nat.le_of_ble_eq_true rfl, Nat.le_of_ble_eq_true rfl⟩ ⟨rfl, a1, a2, a3, rfl⟩

abbrev rX1_init : Room := { frames := 1, cells := 0, slots := 0, locals := 20 }
theorem iX1_init : zInfo yX1_init wsX1_init RX1 1 none 0 := ⟨_, _, rfl, by decide +kernel⟩
theorem obX1_init_l : Cond.methodLink RX1 3 Lib.objectInit ∈ wsX1_init := by decide +kernel
theorem obX1_init_i : Cond.instanceMethod Lib.objectInit ∈ wsX1_init := by decide +kernel
theorem obX1_init_c : Cond.code Lib.objectInit ⟨#[0xb1]⟩ 1 none ∈ wsX1_init := by decide +kernel
set_option maxHeartbeats 4000000 in
set_option maxRecDepth 100000 in
theorem qX1_init (E : zE) (h : Nat)  : zF E yX1_init wsX1_init rX1_init [.ref h] [cO h 1 [.long 0, .long 0, .long 0, .long 0, .long 0, .long 0, .long 0]] (zx none ([cO h 1 [.long 0, .long 0, .long 0, .long 0, .long 0, .long 0, .long 0]])) := by
  refine z_start RX1 "<init>" (by decide) rfl rfl rfl (Nat.le_of_ble_eq_true rfl) ?_
  intro J Z
  refine g_eq Z (lv2 := [(0, .ref h)]) rfl rfl rfl ?_
  refine g_aload_n Z dX1_init_0 0 rfl rfl ?_
  refine g_objInit Z dX1_init_1 obX1_init_l obX1_init_i obX1_init_c (Nat.le_of_ble_eq_true rfl) (Nat.le_of_ble_eq_true rfl) ?_
  exact g_vret Z dX1_init_4 rfl ⟨Nat.zero_le _, Nat.zero_le _⟩ ⟨rfl, rfl⟩

def T0 : TB := (0, 0, 0, 0, 0, 0, 1)
theorem tv_0 : (fun _ => (0 : Int64)) = tv T0 := by
  funext q
  match q with
  | 0 => rfl
  | 1 => rfl
  | 2 => rfl
  | 3 => rfl
  | 4 => rfl
  | 5 => rfl
  | q + 6 => rfl
abbrev rX3_init : Room := { frames := 1, cells := 6, slots := 118, locals := 20 }
theorem iX3_init : zInfo yX3_init wsX3_init RX3 1 none 0 := ⟨_, _, rfl, by decide +kernel⟩
theorem obX3_init_l : Cond.methodLink RX3 1 Lib.objectInit ∈ wsX3_init := by decide +kernel
theorem obX3_init_i : Cond.instanceMethod Lib.objectInit ∈ wsX3_init := by decide +kernel
theorem obX3_init_c : Cond.code Lib.objectInit ⟨#[0xb1]⟩ 1 none ∈ wsX3_init := by decide +kernel
theorem nX3_init_X3 : ∀ w ∈ wsX30, w ∈ wsX3_init := by decide +kernel
theorem fX3_init_7 : Cond.fieldLink RX3 7 (TX3 0).1 (TX3 0).2.1 (TX3 0).2.2.1 ∈ wsX3_init := by decide +kernel
theorem acX3_init_int : Cond.arrayClass .int ∈ wsX3_init := by decide +kernel
theorem fX3_init_13 : Cond.fieldLink RX3 13 (TX3 1).1 (TX3 1).2.1 (TX3 1).2.2.1 ∈ wsX3_init := by decide +kernel
theorem fX3_init_17 : Cond.fieldLink RX3 17 (TX3 2).1 (TX3 2).2.1 (TX3 2).2.2.1 ∈ wsX3_init := by decide +kernel
theorem fX3_init_20 : Cond.fieldLink RX3 20 (TX3 3).1 (TX3 3).2.1 (TX3 3).2.2.1 ∈ wsX3_init := by decide +kernel
theorem fX3_init_23 : Cond.fieldLink RX3 23 (TX3 4).1 (TX3 4).2.1 (TX3 4).2.2.1 ∈ wsX3_init := by decide +kernel
theorem fX3_init_26 : Cond.fieldLink RX3 26 (TX3 5).1 (TX3 5).2.1 (TX3 5).2.2.1 ∈ wsX3_init := by decide +kernel
theorem fX3_init_29 : Cond.fieldLink RX3 29 (TX3 6).1 (TX3 6).2.1 (TX3 6).2.2.1 ∈ wsX3_init := by decide +kernel
theorem acX3_init_long : Cond.arrayClass .long ∈ wsX3_init := by decide +kernel
theorem fX3_init_32 : Cond.fieldLink RX3 32 (TX3 7).1 (TX3 7).2.1 (TX3 7).2.2.1 ∈ wsX3_init := by decide +kernel
theorem fX3_init_36 : Cond.fieldLink RX3 36 (TX3 8).1 (TX3 8).2.1 (TX3 8).2.2.1 ∈ wsX3_init := by decide +kernel
set_option maxHeartbeats 4000000 in
set_option maxRecDepth 100000 in
theorem qX3_init (E : zE) (h : Nat)  : zF E yX3_init wsX3_init rX3_init [.ref h] [cO h 3 [.int 0, .null, .null, .null, .null, .int 0, .null, .null, .long 0]] (fun ov wv => ov = none ∧ ∃ m1 m2 m3 m4 m5 m6 : Nat, wv = [cO h 3 [.int (nI 0), .ref m1, .ref m2, .ref m3, .ref m4, .int (nI 0), .ref m5, .ref m6, .long (tg T0)], cI E m1 4 (mN (fun _ => 0)), cI E m2 32 (gl (fun _ _ => 0)), cI E m3 32 (gl (fun _ _ => 0)), cI E m4 32 (gl (fun _ _ => 0)), cI E m5 12 (fun _ => 0), cJ E m6 6 (tv T0)]) := by
  refine z_start RX3 "<init>" (by decide) rfl rfl rfl (Nat.le_of_ble_eq_true rfl) ?_
  intro J Z
  refine g_eq Z (lv2 := [(0, .ref h)]) rfl rfl rfl ?_
  refine g_aload_n Z dX3_init_0 0 rfl rfl ?_
  refine g_objInit Z dX3_init_1 obX3_init_l obX3_init_i obX3_init_c (Nat.le_of_ble_eq_true rfl) (Nat.le_of_ble_eq_true rfl) ?_
  refine g_aload_n Z dX3_init_4 0 rfl rfl ?_
  refine g_iconst Z dX3_init_5 zi_0 ?_
  refine g_put (w' := [cO h 3 [.int 0, .null, .null, .null, .null, .int 0, .null, .null, .long 0]]) Z dX3_init_6 0 rfl rfl nX3_init_X3 tyX3 tyX3_ok nmX3 0 (by decide) fX3_init_7 rfl rfl rfl rfl (Nat.le_of_ble_eq_true rfl) rfl ?_
  refine g_aload_n Z dX3_init_9 0 rfl rfl ?_
  refine g_iconst Z dX3_init_10 zi_4 ?_
  refine g_newI (z := 4) Z dX3_init_11 acX3_init_int rfl rfl ⟨Nat.le_of_ble_eq_true rfl, Nat.le_of_ble_eq_true rfl⟩ (fun a1 => ?_)
  refine g_putF (w' := [cO h 3 [.int 0, .ref a1, .null, .null, .null, .int 0, .null, .null, .long 0], cI E a1 4 (fun _ => 0)]) Z dX3_init_13 0 rfl rfl nX3_init_X3 tyX3 tyX3_ok nmX3 1 (by decide) fX3_init_13 rfl rfl rfl rfl rfl rfl (Nat.le_of_ble_eq_true rfl) rfl ?_
  refine g_aload_n Z dX3_init_16 0 rfl rfl ?_
  refine g_bipush Z dX3_init_17 zb_32 ?_
  refine g_newI (z := 32) Z dX3_init_19 acX3_init_int rfl rfl ⟨Nat.le_of_ble_eq_true rfl, Nat.le_of_ble_eq_true rfl⟩ (fun a2 => ?_)
  refine g_putF (w' := [cO h 3 [.int 0, .ref a1, .ref a2, .null, .null, .int 0, .null, .null, .long 0], cI E a1 4 (fun _ => 0), cI E a2 32 (fun _ => 0)]) Z dX3_init_21 0 rfl rfl nX3_init_X3 tyX3 tyX3_ok nmX3 2 (by decide) fX3_init_17 rfl rfl rfl rfl rfl rfl (Nat.le_of_ble_eq_true rfl) rfl ?_
  refine g_aload_n Z dX3_init_24 0 rfl rfl ?_
  refine g_bipush Z dX3_init_25 zb_32 ?_
  refine g_newI (z := 32) Z dX3_init_27 acX3_init_int rfl rfl ⟨Nat.le_of_ble_eq_true rfl, Nat.le_of_ble_eq_true rfl⟩ (fun a3 => ?_)
  refine g_putF (w' := [cO h 3 [.int 0, .ref a1, .ref a2, .ref a3, .null, .int 0, .null, .null, .long 0], cI E a1 4 (fun _ => 0), cI E a2 32 (fun _ => 0), cI E a3 32 (fun _ => 0)]) Z dX3_init_29 0 rfl rfl nX3_init_X3 tyX3 tyX3_ok nmX3 3 (by decide) fX3_init_20 rfl rfl rfl rfl rfl rfl (Nat.le_of_ble_eq_true rfl) rfl ?_
  refine g_aload_n Z dX3_init_32 0 rfl rfl ?_
  refine g_bipush Z dX3_init_33 zb_32 ?_
  refine g_newI (z := 32) Z dX3_init_35 acX3_init_int rfl rfl ⟨Nat.le_of_ble_eq_true rfl, Nat.le_of_ble_eq_true rfl⟩ (fun a4 => ?_)
  refine g_putF (w' := [cO h 3 [.int 0, .ref a1, .ref a2, .ref a3, .ref a4, .int 0, .null, .null, .long 0], cI E a1 4 (fun _ => 0), cI E a2 32 (fun _ => 0), cI E a3 32 (fun _ => 0), cI E a4 32 (fun _ => 0)]) Z dX3_init_37 0 rfl rfl nX3_init_X3 tyX3 tyX3_ok nmX3 4 (by decide) fX3_init_23 rfl rfl rfl rfl rfl rfl (Nat.le_of_ble_eq_true rfl) rfl ?_
  refine g_aload_n Z dX3_init_40 0 rfl rfl ?_
  refine g_iconst Z dX3_init_41 zi_0 ?_
  refine g_put (w' := [cO h 3 [.int 0, .ref a1, .ref a2, .ref a3, .ref a4, .int 0, .null, .null, .long 0], cI E a1 4 (fun _ => 0), cI E a2 32 (fun _ => 0), cI E a3 32 (fun _ => 0), cI E a4 32 (fun _ => 0)]) Z dX3_init_42 0 rfl rfl nX3_init_X3 tyX3 tyX3_ok nmX3 5 (by decide) fX3_init_26 rfl rfl rfl rfl (Nat.le_of_ble_eq_true rfl) rfl ?_
  refine g_aload_n Z dX3_init_45 0 rfl rfl ?_
  refine g_bipush Z dX3_init_46 zb_12 ?_
  refine g_newI (z := 12) Z dX3_init_48 acX3_init_int rfl rfl ⟨Nat.le_of_ble_eq_true rfl, Nat.le_of_ble_eq_true rfl⟩ (fun a5 => ?_)
  refine g_putF (w' := [cO h 3 [.int 0, .ref a1, .ref a2, .ref a3, .ref a4, .int 0, .ref a5, .null, .long 0], cI E a1 4 (fun _ => 0), cI E a2 32 (fun _ => 0), cI E a3 32 (fun _ => 0), cI E a4 32 (fun _ => 0), cI E a5 12 (fun _ => 0)]) Z dX3_init_50 0 rfl rfl nX3_init_X3 tyX3 tyX3_ok nmX3 6 (by decide) fX3_init_29 rfl rfl rfl rfl rfl rfl (Nat.le_of_ble_eq_true rfl) rfl ?_
  refine g_aload_n Z dX3_init_53 0 rfl rfl ?_
  refine g_bipush Z dX3_init_54 zb_6 ?_
  refine g_newL (z := 6) Z dX3_init_56 acX3_init_long rfl rfl ⟨Nat.le_of_ble_eq_true rfl, Nat.le_of_ble_eq_true rfl⟩ (fun a6 => ?_)
  refine g_putF (w' := [cO h 3 [.int 0, .ref a1, .ref a2, .ref a3, .ref a4, .int 0, .ref a5, .ref a6, .long 0], cI E a1 4 (fun _ => 0), cI E a2 32 (fun _ => 0), cI E a3 32 (fun _ => 0), cI E a4 32 (fun _ => 0), cI E a5 12 (fun _ => 0), cJ E a6 6 (fun _ => 0)]) Z dX3_init_58 0 rfl rfl nX3_init_X3 tyX3 tyX3_ok nmX3 7 (by decide) fX3_init_32 rfl rfl rfl rfl rfl rfl (Nat.le_of_ble_eq_true rfl) rfl ?_
  refine g_aload_n Z dX3_init_61 0 rfl rfl ?_
  refine g_lconst Z dX3_init_62 zl_1 ?_
  refine g_put (w' := [cO h 3 [.int 0, .ref a1, .ref a2, .ref a3, .ref a4, .int 0, .ref a5, .ref a6, .long 1], cI E a1 4 (fun _ => 0), cI E a2 32 (fun _ => 0), cI E a3 32 (fun _ => 0), cI E a4 32 (fun _ => 0), cI E a5 12 (fun _ => 0), cJ E a6 6 (fun _ => 0)]) Z dX3_init_63 0 rfl rfl nX3_init_X3 tyX3 tyX3_ok nmX3 8 (by decide) fX3_init_36 rfl rfl rfl rfl (Nat.le_of_ble_eq_true rfl) rfl ?_
  exact g_vret Z dX3_init_66 rfl ⟨Nat.le_of_ble_eq_true rfl, Nat.le_of_ble_eq_true rfl⟩ ⟨rfl, a1, a2, a3, a4, a5, a6, by rw [← tv_0]; rfl⟩

def zXI (s : State) : Prop := va_AO "LightRound$Row" s ∧ va_Nw (.methodLinkNest RX2 30 yX1_init "LightRound") s
theorem zKeep_XI : zKeep zXI := ⟨fun U g mk a h => ⟨va_AO.moved (u := U) (U := U.calling g mk a) (Vm.Alike.refl U.vm) h.1, va_Nw.same rfl (u := U) (U := U.calling g mk a) rfl h.2⟩, fun s U hW h => ⟨va_AO.moved hW.alike h.1, va_Nw.warmM hW h.2⟩⟩
theorem z_perm5 {α : Type} {a b c d e : α} : ([e, d, a, b, c] : List α).Perm [a, b, c, d, e] := ((List.Perm.swap d e [a, b, c]).trans ((List.perm_append_comm (l₁ := [d, e]) (l₂ := [a, b, c]))))
abbrev rX2_init : Room := { frames := 2, cells := 4, slots := 30, locals := 40 }
theorem iX2_init : zInfo yX2_init wsX2_init RX2 1 none 0 := ⟨_, _, rfl, by decide +kernel⟩
theorem obX2_init_l : Cond.methodLink RX2 3 Lib.objectInit ∈ wsX2_init := by decide +kernel
theorem obX2_init_i : Cond.instanceMethod Lib.objectInit ∈ wsX2_init := by decide +kernel
theorem obX2_init_c : Cond.code Lib.objectInit ⟨#[0xb1]⟩ 1 none ∈ wsX2_init := by decide +kernel
theorem clX2_init_11 : Cond.classLink RX2 11 "LightRound$Row" ∈ wsX2_init := by decide +kernel
theorem nX2_init_X2 : ∀ w ∈ wsX20, w ∈ wsX2_init := by decide +kernel
theorem fX2_init_13 : Cond.fieldLink RX2 13 (TX2 0).1 (TX2 0).2.1 (TX2 0).2.2.1 ∈ wsX2_init := by decide +kernel
theorem fX2_init_17 : Cond.fieldLink RX2 17 (TX2 1).1 (TX2 1).2.1 (TX2 1).2.2.1 ∈ wsX2_init := by decide +kernel
theorem acX2_init_int : Cond.arrayClass .int ∈ wsX2_init := by decide +kernel
theorem fX2_init_21 : Cond.fieldLink RX2 21 (TX2 2).1 (TX2 2).2.1 (TX2 2).2.2.1 ∈ wsX2_init := by decide +kernel
theorem fX2_init_25 : Cond.fieldLink RX2 25 (TX2 3).1 (TX2 3).2.1 (TX2 3).2.2.1 ∈ wsX2_init := by decide +kernel
theorem nX2_init_X1 : ∀ w ∈ wsX10, w ∈ wsX2_init := by decide +kernel
theorem nwX2_init_28_k : Cond.classLink RX2 28 RX1 ∈ wsX2_init := by decide +kernel
theorem nwX2_init_28_i : Cond.instantiable RX1 7 ∈ wsX2_init := by decide +kernel
theorem nwX2_init_28_z : Cond.initialized RX1 ∈ wsX2_init := by decide +kernel
theorem niX2_init_z : Cond.initialized yX1_init.cls ∈ wsX2_init := by decide +kernel
theorem niX2_init_m : Cond.instanceMethod yX1_init ∈ wsX2_init := by decide +kernel
theorem fX2_init_31 : Cond.fieldLink RX2 31 (TX2 4).1 (TX2 4).2.1 (TX2 4).2.2.1 ∈ wsX2_init := by decide +kernel
theorem fX2_init_35 : Cond.fieldLink RX2 35 (TX2 5).1 (TX2 5).2.1 (TX2 5).2.2.1 ∈ wsX2_init := by decide +kernel
set_option maxHeartbeats 4000000 in
set_option maxRecDepth 100000 in
theorem qX2_init (E : zE) (x : Nat)  : zG E yX2_init wsX2_init rX2_init [.ref x] [cO x 2 [.null, .int 0, .null, .int 0, .null, .null]] zXI (fun ov wv => ov = none ∧ ∃ rw ln t1 t2 : Nat, wv.Perm [cO x 2 [.ref rw, .int (nI 0), .ref ln, .int (nI 0), .ref t1, .ref t2], cQ E rw 4 (fun _ => none), cI E ln 12 (fun _ => 0), cO t1 1 [.long 0, .long 0, .long 0, .long 0, .long 0, .long 0, .long 0], cO t2 1 [.long 0, .long 0, .long 0, .long 0, .long 0, .long 0, .long 0]]) := by
  refine z_start RX2 "<init>" (by decide) rfl rfl rfl (Nat.le_of_ble_eq_true rfl) ?_
  intro J Z
  refine g_eq Z (lv2 := [(0, .ref x)]) rfl rfl rfl ?_
  refine g_aload_n Z dX2_init_0 0 rfl rfl ?_
  refine g_objInit Z dX2_init_1 obX2_init_l obX2_init_i obX2_init_c (Nat.le_of_ble_eq_true rfl) (Nat.le_of_ble_eq_true rfl) ?_
  refine g_aload_n Z dX2_init_4 0 rfl rfl ?_
  refine g_iconst Z dX2_init_5 zi_4 ?_
  refine g_newQ (z := 4) Z dX2_init_6 clX2_init_11 (fun s h => h.1) rfl rfl ⟨Nat.le_of_ble_eq_true rfl, Nat.le_of_ble_eq_true rfl⟩ (fun a1 => ?_)
  refine g_putF (w' := [cO x 2 [.ref a1, .int 0, .null, .int 0, .null, .null], cQ E a1 4 (fun _ => none)]) Z dX2_init_9 0 rfl rfl nX2_init_X2 tyX2 tyX2_ok nmX2 0 (by decide) fX2_init_13 rfl rfl rfl rfl rfl rfl (Nat.le_of_ble_eq_true rfl) rfl ?_
  refine g_aload_n Z dX2_init_12 0 rfl rfl ?_
  refine g_iconst Z dX2_init_13 zi_0 ?_
  refine g_put (w' := [cO x 2 [.ref a1, .int 0, .null, .int 0, .null, .null], cQ E a1 4 (fun _ => none)]) Z dX2_init_14 0 rfl rfl nX2_init_X2 tyX2 tyX2_ok nmX2 1 (by decide) fX2_init_17 rfl rfl rfl rfl (Nat.le_of_ble_eq_true rfl) rfl ?_
  refine g_aload_n Z dX2_init_17 0 rfl rfl ?_
  refine g_bipush Z dX2_init_18 zb_12 ?_
  refine g_newI (z := 12) Z dX2_init_20 acX2_init_int rfl rfl ⟨Nat.le_of_ble_eq_true rfl, Nat.le_of_ble_eq_true rfl⟩ (fun a2 => ?_)
  refine g_putF (w' := [cO x 2 [.ref a1, .int 0, .ref a2, .int 0, .null, .null], cQ E a1 4 (fun _ => none), cI E a2 12 (fun _ => 0)]) Z dX2_init_22 0 rfl rfl nX2_init_X2 tyX2 tyX2_ok nmX2 2 (by decide) fX2_init_21 rfl rfl rfl rfl rfl rfl (Nat.le_of_ble_eq_true rfl) rfl ?_
  refine g_aload_n Z dX2_init_25 0 rfl rfl ?_
  refine g_iconst Z dX2_init_26 zi_0 ?_
  refine g_put (w' := [cO x 2 [.ref a1, .int 0, .ref a2, .int 0, .null, .null], cQ E a1 4 (fun _ => none), cI E a2 12 (fun _ => 0)]) Z dX2_init_27 0 rfl rfl nX2_init_X2 tyX2 tyX2_ok nmX2 3 (by decide) fX2_init_25 rfl rfl rfl rfl (Nat.le_of_ble_eq_true rfl) rfl ?_
  refine g_aload_n Z dX2_init_30 0 rfl rfl ?_
  refine g_new (ci := 1) Z dX2_init_31 rfl nX2_init_X1 tyX1 tyX1_ok nwX2_init_28_k nwX2_init_28_i nwX2_init_28_z [.long 0, .long 0, .long 0, .long 0, .long 0, .long 0, .long 0] dfX1 ⟨Nat.le_of_ble_eq_true rfl, Nat.le_of_ble_eq_true rfl⟩ (fun a3 => ?_)
  refine g_dup Z dX2_init_34 rfl ?_
  refine g_callIN (wc := [cO a3 1 [.long 0, .long 0, .long 0, .long 0, .long 0, .long 0, .long 0]]) (wr := [cO x 2 [.ref a1, .int 0, .ref a2, .int 0, .null, .null], cQ E a1 4 (fun _ => none), cI E a2 12 (fun _ => 0)]) Z (qX1_init E a3) zKeep_true (fun _ _ => trivial) iX1_init gX2_init_X1_init_n30 niX2_init_z (fun s h => h.2) niX2_init_m rfl ⟨Nat.le_of_ble_eq_true rfl, Nat.le_of_ble_eq_true rfl⟩ dX2_init_35 rfl rfl (Nat.le_of_ble_eq_true rfl) ⟨Nat.le_of_ble_eq_true rfl, Nat.le_of_ble_eq_true rfl⟩ List.perm_append_comm ?_
  rintro ov wv ⟨rfl, rfl⟩
  refine g_putF (w' := [cO a3 1 [.long 0, .long 0, .long 0, .long 0, .long 0, .long 0, .long 0], cO x 2 [.ref a1, .int 0, .ref a2, .int 0, .ref a3, .null], cQ E a1 4 (fun _ => none), cI E a2 12 (fun _ => 0)]) Z dX2_init_38 1 rfl rfl nX2_init_X2 tyX2 tyX2_ok nmX2 4 (by decide) fX2_init_31 rfl rfl rfl rfl rfl rfl (Nat.le_of_ble_eq_true rfl) rfl ?_
  refine g_aload_n Z dX2_init_41 0 rfl rfl ?_
  refine g_new (ci := 1) Z dX2_init_42 rfl nX2_init_X1 tyX1 tyX1_ok nwX2_init_28_k nwX2_init_28_i nwX2_init_28_z [.long 0, .long 0, .long 0, .long 0, .long 0, .long 0, .long 0] dfX1 ⟨Nat.le_of_ble_eq_true rfl, Nat.le_of_ble_eq_true rfl⟩ (fun a4 => ?_)
  refine g_dup Z dX2_init_45 rfl ?_
  refine g_callIN (wc := [cO a4 1 [.long 0, .long 0, .long 0, .long 0, .long 0, .long 0, .long 0]]) (wr := [cO a3 1 [.long 0, .long 0, .long 0, .long 0, .long 0, .long 0, .long 0], cO x 2 [.ref a1, .int 0, .ref a2, .int 0, .ref a3, .null], cQ E a1 4 (fun _ => none), cI E a2 12 (fun _ => 0)]) Z (qX1_init E a4) zKeep_true (fun _ _ => trivial) iX1_init gX2_init_X1_init_n30 niX2_init_z (fun s h => h.2) niX2_init_m rfl ⟨Nat.le_of_ble_eq_true rfl, Nat.le_of_ble_eq_true rfl⟩ dX2_init_46 rfl rfl (Nat.le_of_ble_eq_true rfl) ⟨Nat.le_of_ble_eq_true rfl, Nat.le_of_ble_eq_true rfl⟩ List.perm_append_comm ?_
  rintro ov wv ⟨rfl, rfl⟩
  refine g_putF (w' := [cO a4 1 [.long 0, .long 0, .long 0, .long 0, .long 0, .long 0, .long 0], cO a3 1 [.long 0, .long 0, .long 0, .long 0, .long 0, .long 0, .long 0], cO x 2 [.ref a1, .int 0, .ref a2, .int 0, .ref a3, .ref a4], cQ E a1 4 (fun _ => none), cI E a2 12 (fun _ => 0)]) Z dX2_init_49 2 rfl rfl nX2_init_X2 tyX2 tyX2_ok nmX2 5 (by decide) fX2_init_35 rfl rfl rfl rfl rfl rfl (Nat.le_of_ble_eq_true rfl) rfl ?_
  exact g_vret Z dX2_init_52 rfl ⟨Nat.le_of_ble_eq_true rfl, Nat.le_of_ble_eq_true rfl⟩ ⟨rfl, a1, a2, a3, a4, z_perm5⟩

abbrev rX2_bench : Room := { frames := 2, cells := 4, slots := 28, locals := 40 }
theorem iX2_bench : zInfo yX2_bench wsX2_bench RX2 1 (some .int) 0 := ⟨_, _, rfl, by decide +kernel⟩
theorem nX2_bench_X2 : ∀ w ∈ wsX20, w ∈ wsX2_bench := by decide +kernel
theorem fX2_bench_17 : Cond.fieldLink RX2 17 (TX2 1).1 (TX2 1).2.1 (TX2 1).2.2.1 ∈ wsX2_bench := by decide +kernel
set_option maxHeartbeats 4000000 in
set_option maxRecDepth 100000 in
theorem qX2_benchF (E : zE) (x rw ln t1 t2 : Nat) (nb dn : Nat) (RF : Nat → Option Nat) (D : Nat → Int32) (A B : TB) (hnb : nb = 4) : zF E yX2_bench wsX2_bench rX2_bench [.ref x] [cO x 2 [.ref rw, .int (nI nb), .ref ln, .int (nI dn), .ref t1, .ref t2], cQ E rw 4 RF, cI E ln 12 D, cO t1 1 [.long (ta A), .long (tb A), .long (tc A), .long (td A), .long (te A), .long (tf A), .long (tg A)], cO t2 1 [.long (ta B), .long (tb B), .long (tc B), .long (td B), .long (te B), .long (tf B), .long (tg B)]] (zx (some (.int (-4))) ([cO x 2 [.ref rw, .int (nI nb), .ref ln, .int (nI dn), .ref t1, .ref t2], cQ E rw 4 RF, cI E ln 12 D, cO t1 1 [.long (ta A), .long (tb A), .long (tc A), .long (td A), .long (te A), .long (tf A), .long (tg A)], cO t2 1 [.long (ta B), .long (tb B), .long (tc B), .long (td B), .long (te B), .long (tf B), .long (tg B)]])) := by
  refine z_start RX2 "bench" (by decide) rfl rfl rfl (Nat.le_of_ble_eq_true rfl) ?_
  intro J Z
  refine g_eq Z (lv2 := [(0, .ref x)]) rfl rfl rfl ?_
  refine g_aload_n Z dX2_bench_0 0 rfl rfl ?_
  refine g_get Z dX2_bench_1 0 rfl rfl nX2_bench_X2 1 (by decide) fX2_bench_17 rfl ?_
  refine g_iconst Z dX2_bench_4 zi_4 ?_
  refine g_icmpN_lt (tgt := 11) Z dX2_bench_5 (by decide) nb 4 rfl rfl (by omega) (by omega) (fun c_5 => absurd c_5 (by omega)) (fun c_5 => ?_)
  refine g_bipush Z dX2_bench_8 zb_m4 ?_
  exact g_iret Z dX2_bench_10 rfl ⟨Nat.le_of_ble_eq_true rfl, Nat.le_of_ble_eq_true rfl⟩ ⟨rfl, rfl⟩

theorem fX2_bench_13 : Cond.fieldLink RX2 13 (TX2 0).1 (TX2 0).2.1 (TX2 0).2.2.1 ∈ wsX2_bench := by decide +kernel
theorem nX2_bench_X0 : ∀ w ∈ wsX00, w ∈ wsX2_bench := by decide +kernel
theorem nwX2_bench_11_k : Cond.classLink RX2 11 RX0 ∈ wsX2_bench := by decide +kernel
theorem nwX2_bench_11_i : Cond.instantiable RX0 4 ∈ wsX2_bench := by decide +kernel
theorem nwX2_bench_11_z : Cond.initialized RX0 ∈ wsX2_bench := by decide +kernel
theorem niX2_bench_z : Cond.initialized yX0_init.cls ∈ wsX2_bench := by decide +kernel
theorem niX2_bench_l : Cond.methodLink RX2 38 yX0_init ∈ wsX2_bench := by decide +kernel
theorem niX2_bench_m : Cond.instanceMethod yX0_init ∈ wsX2_bench := by decide +kernel
set_option maxHeartbeats 4000000 in
set_option maxRecDepth 100000 in
theorem qX2_bench (E : zE) (x rw ln t1 t2 : Nat) (nb dn : Nat) (RF : Nat → Option Nat) (D : Nat → Int32) (A B : TB) (hnb : nb < 4) : zF E yX2_bench wsX2_bench rX2_bench [.ref x] [cO x 2 [.ref rw, .int (nI nb), .ref ln, .int (nI dn), .ref t1, .ref t2], cQ E rw 4 RF, cI E ln 12 D, cO t1 1 [.long (ta A), .long (tb A), .long (tc A), .long (td A), .long (te A), .long (tf A), .long (tg A)], cO t2 1 [.long (ta B), .long (tb B), .long (tc B), .long (td B), .long (te B), .long (tf B), .long (tg B)]] (fun ov wv => ov = some (.int (nI nb)) ∧ ∃ o k f s : Nat, wv = [cO o 0 [.ref k, .ref f, .ref s, .int 0], cI E k 8 (fun _ => 0), cI E f 8 (fun _ => 0), cI E s 8 (fun _ => 0), cO x 2 [.ref rw, .int (nI (nb + 1)), .ref ln, .int (nI dn), .ref t1, .ref t2], cQ E rw 4 (va_up RF nb (some o)), cI E ln 12 D, cO t1 1 [.long (ta A), .long (tb A), .long (tc A), .long (td A), .long (te A), .long (tf A), .long (tg A)], cO t2 1 [.long (ta B), .long (tb B), .long (tc B), .long (td B), .long (te B), .long (tf B), .long (tg B)]]) := by
  refine z_start RX2 "bench" (by decide) rfl rfl rfl (Nat.le_of_ble_eq_true rfl) ?_
  intro J Z
  refine g_eq Z (lv2 := [(0, .ref x)]) rfl rfl rfl ?_
  refine g_aload_n Z dX2_bench_0 0 rfl rfl ?_
  refine g_get Z dX2_bench_1 0 rfl rfl nX2_bench_X2 1 (by decide) fX2_bench_17 rfl ?_
  refine g_iconst Z dX2_bench_4 zi_4 ?_
  refine g_icmpN_lt (tgt := 11) Z dX2_bench_5 (by decide) nb 4 rfl rfl (by omega) (by omega) (fun c_5 => ?_) (fun c_5 => absurd c_5 (by omega))
  refine g_aload_n Z dX2_bench_11 0 rfl rfl ?_
  refine g_get Z dX2_bench_12 0 rfl rfl nX2_bench_X2 0 (by decide) fX2_bench_13 rfl ?_
  refine g_aload_n Z dX2_bench_15 0 rfl rfl ?_
  refine g_get Z dX2_bench_16 0 rfl rfl nX2_bench_X2 1 (by decide) fX2_bench_17 rfl ?_
  refine g_new (ci := 0) Z dX2_bench_19 rfl nX2_bench_X0 tyX0 tyX0_ok nwX2_bench_11_k nwX2_bench_11_i nwX2_bench_11_z [.null, .null, .null, .int 0] dfX0 ⟨Nat.le_of_ble_eq_true rfl, Nat.le_of_ble_eq_true rfl⟩ (fun a1 => ?_)
  refine g_dup Z dX2_bench_22 rfl ?_
  refine g_callIC (wc := [cO a1 0 [.null, .null, .null, .int 0]]) (wr := [cO x 2 [.ref rw, .int (nI nb), .ref ln, .int (nI dn), .ref t1, .ref t2], cQ E rw 4 RF, cI E ln 12 D, cO t1 1 [.long (ta A), .long (tb A), .long (tc A), .long (td A), .long (te A), .long (tf A), .long (tg A)], cO t2 1 [.long (ta B), .long (tb B), .long (tc B), .long (td B), .long (te B), .long (tf B), .long (tg B)]]) Z (qX0_init E a1) zKeep_true (fun _ _ => trivial) iX0_init gX2_bench_X0_init niX2_bench_z niX2_bench_l niX2_bench_m rfl ⟨Nat.le_of_ble_eq_true rfl, Nat.le_of_ble_eq_true rfl⟩ dX2_bench_23 rfl rfl (Nat.le_of_ble_eq_true rfl) ⟨Nat.le_of_ble_eq_true rfl, Nat.le_of_ble_eq_true rfl⟩ List.perm_append_comm ?_
  rintro ov wv ⟨rfl, k, f, s, rfl⟩
  refine g_aast (w' := [cO a1 0 [.ref k, .ref f, .ref s, .int 0], cI E k 8 (fun _ => 0), cI E f 8 (fun _ => 0), cI E s 8 (fun _ => 0), cO x 2 [.ref rw, .int (nI nb), .ref ln, .int (nI dn), .ref t1, .ref t2], cQ E rw 4 (va_up RF nb (some a1)), cI E ln 12 D, cO t1 1 [.long (ta A), .long (tb A), .long (tc A), .long (td A), .long (te A), .long (tf A), .long (tg A)], cO t2 1 [.long (ta B), .long (tb B), .long (tc B), .long (td B), .long (te B), .long (tf B), .long (tg B)]]) Z dX2_bench_26 5 0 rfl rfl rfl rfl nb rfl (by omega) rfl rfl ?_
  refine g_aload_n Z dX2_bench_27 0 rfl rfl ?_
  refine g_dup Z dX2_bench_28 rfl ?_
  refine g_get Z dX2_bench_29 4 rfl rfl nX2_bench_X2 1 (by decide) fX2_bench_17 rfl ?_
  refine g_iconst Z dX2_bench_32 zi_1 ?_
  refine g_iaddE (z := nI (nb + 1)) Z dX2_bench_33 (nI_add nb 1) ?_
  refine g_put (w' := [cO a1 0 [.ref k, .ref f, .ref s, .int 0], cI E k 8 (fun _ => 0), cI E f 8 (fun _ => 0), cI E s 8 (fun _ => 0), cO x 2 [.ref rw, .int (nI (nb + 1)), .ref ln, .int (nI dn), .ref t1, .ref t2], cQ E rw 4 (va_up RF nb (some a1)), cI E ln 12 D, cO t1 1 [.long (ta A), .long (tb A), .long (tc A), .long (td A), .long (te A), .long (tf A), .long (tg A)], cO t2 1 [.long (ta B), .long (tb B), .long (tc B), .long (td B), .long (te B), .long (tf B), .long (tg B)]]) Z dX2_bench_34 4 rfl rfl nX2_bench_X2 tyX2 tyX2_ok nmX2 1 (by decide) fX2_bench_17 rfl rfl rfl rfl (Nat.le_of_ble_eq_true rfl) rfl ?_
  refine g_aload_n Z dX2_bench_37 0 rfl rfl ?_
  refine g_get Z dX2_bench_38 4 rfl rfl nX2_bench_X2 1 (by decide) fX2_bench_17 rfl ?_
  refine g_iconst Z dX2_bench_41 zi_1 ?_
  refine g_isubE (z := nI (nb)) Z dX2_bench_42 (nI_pred nb) ?_
  exact g_iret Z dX2_bench_43 rfl ⟨Nat.le_of_ble_eq_true rfl, Nat.le_of_ble_eq_true rfl⟩ ⟨rfl, _, _, _, _, rfl⟩
