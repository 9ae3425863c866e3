section
-- ===== PART A: goes FIRST, ahead of the names: the tables' words, and 'selects' of the private methods out of them =====
/-- a private method of a class that the tables say can be made, by its rows of tables_1 -/
def lw_okq (q : MethodName × Nat) : Prop := (q.1.cls ≠ "java/lang/invoke/MethodHandle" ∧ q.1.cls ≠ "java/lang/invoke/VarHandle") ∧ Cond.instantiable q.1.cls q.2 ∈ tables_1 ∧ Cond.privateMethod q.1 ∈ tables_1 ∧ Cond.instanceMethod q.1 ∈ tables_1
theorem lw_p0 : lw_okq (⟨"LightRound", "rowAt", "(I)LLightRound$Row;"⟩, 6) := ⟨⟨by decide +kernel, by decide +kernel⟩, List.mem_of_getElem? (i := 7) (by decide +kernel), List.mem_of_getElem? (i := 104) (by decide +kernel), List.mem_of_getElem? (i := 105) (by decide +kernel)⟩
theorem lw_p1 : lw_okq (⟨"LightRound$Table", "stretchBy", "(J)V"⟩, 7) := ⟨⟨by decide +kernel, by decide +kernel⟩, List.mem_of_getElem? (i := 17) (by decide +kernel), List.mem_of_getElem? (i := 201) (by decide +kernel), List.mem_of_getElem? (i := 202) (by decide +kernel)⟩
theorem lw_p2 : lw_okq (⟨"LightRound$Table", "bendBy", "(J)V"⟩, 7) := ⟨⟨by decide +kernel, by decide +kernel⟩, List.mem_of_getElem? (i := 17) (by decide +kernel), List.mem_of_getElem? (i := 205) (by decide +kernel), List.mem_of_getElem? (i := 206) (by decide +kernel)⟩
theorem lw_p3 : lw_okq (⟨"LightRound", "holdsWith", "(LLightRound$Row;II)Z"⟩, 6) := ⟨⟨by decide +kernel, by decide +kernel⟩, List.mem_of_getElem? (i := 7) (by decide +kernel), List.mem_of_getElem? (i := 322) (by decide +kernel), List.mem_of_getElem? (i := 323) (by decide +kernel)⟩
theorem lw_p4 : lw_okq (⟨"LightRound", "holdsBothWays", "(LLightRound$Row;)Z"⟩, 6) := ⟨⟨by decide +kernel, by decide +kernel⟩, List.mem_of_getElem? (i := 7) (by decide +kernel), List.mem_of_getElem? (i := 326) (by decide +kernel), List.mem_of_getElem? (i := 327) (by decide +kernel)⟩
theorem lw_p5 : lw_okq (⟨"LightRound", "isPlace", "(I)Z"⟩, 6) := ⟨⟨by decide +kernel, by decide +kernel⟩, List.mem_of_getElem? (i := 7) (by decide +kernel), List.mem_of_getElem? (i := 342) (by decide +kernel), List.mem_of_getElem? (i := 343) (by decide +kernel)⟩
theorem lw_p6 : lw_okq (⟨"LightRound", "partsOfAll", "()I"⟩, 6) := ⟨⟨by decide +kernel, by decide +kernel⟩, List.mem_of_getElem? (i := 7) (by decide +kernel), List.mem_of_getElem? (i := 350) (by decide +kernel), List.mem_of_getElem? (i := 351) (by decide +kernel)⟩
theorem lw_p7 : lw_okq (⟨"LightRound", "holdingRows", "()I"⟩, 6) := ⟨⟨by decide +kernel, by decide +kernel⟩, List.mem_of_getElem? (i := 7) (by decide +kernel), List.mem_of_getElem? (i := 354) (by decide +kernel), List.mem_of_getElem? (i := 355) (by decide +kernel)⟩
theorem lw_p8 : lw_okq (⟨"LightRoundModel", "isBench", "(I)Z"⟩, 9) := ⟨⟨by decide +kernel, by decide +kernel⟩, List.mem_of_getElem? (i := 362) (by decide +kernel), List.mem_of_getElem? (i := 405) (by decide +kernel), List.mem_of_getElem? (i := 406) (by decide +kernel)⟩
theorem lw_p9 : lw_okq (⟨"LightRoundModel", "in", "(III)Z"⟩, 9) := ⟨⟨by decide +kernel, by decide +kernel⟩, List.mem_of_getElem? (i := 362) (by decide +kernel), List.mem_of_getElem? (i := 409) (by decide +kernel), List.mem_of_getElem? (i := 410) (by decide +kernel)⟩
theorem lw_p10 : lw_okq (⟨"LightRoundModel", "isGood", "(III)Z"⟩, 9) := ⟨⟨by decide +kernel, by decide +kernel⟩, List.mem_of_getElem? (i := 362) (by decide +kernel), List.mem_of_getElem? (i := 413) (by decide +kernel), List.mem_of_getElem? (i := 414) (by decide +kernel)⟩
theorem lw_p11 : lw_okq (⟨"LightRoundModel", "isBent", "(I)Z"⟩, 9) := ⟨⟨by decide +kernel, by decide +kernel⟩, List.mem_of_getElem? (i := 362) (by decide +kernel), List.mem_of_getElem? (i := 417) (by decide +kernel), List.mem_of_getElem? (i := 418) (by decide +kernel)⟩
theorem lw_p12 : lw_okq (⟨"LightRoundModel", "bent", "(I)I"⟩, 9) := ⟨⟨by decide +kernel, by decide +kernel⟩, List.mem_of_getElem? (i := 362) (by decide +kernel), List.mem_of_getElem? (i := 421) (by decide +kernel), List.mem_of_getElem? (i := 422) (by decide +kernel)⟩
theorem lw_p13 : lw_okq (⟨"LightRoundModel", "tilts", "(I)I"⟩, 9) := ⟨⟨by decide +kernel, by decide +kernel⟩, List.mem_of_getElem? (i := 362) (by decide +kernel), List.mem_of_getElem? (i := 425) (by decide +kernel), List.mem_of_getElem? (i := 426) (by decide +kernel)⟩
theorem lw_p14 : lw_okq (⟨"LightRoundModel", "lay", "(IIII)V"⟩, 9) := ⟨⟨by decide +kernel, by decide +kernel⟩, List.mem_of_getElem? (i := 362) (by decide +kernel), List.mem_of_getElem? (i := 429) (by decide +kernel), List.mem_of_getElem? (i := 430) (by decide +kernel)⟩
theorem lw_p15 : lw_okq (⟨"LightRoundModel", "isPart", "(II)Z"⟩, 9) := ⟨⟨by decide +kernel, by decide +kernel⟩, List.mem_of_getElem? (i := 362) (by decide +kernel), List.mem_of_getElem? (i := 437) (by decide +kernel), List.mem_of_getElem? (i := 438) (by decide +kernel)⟩
def lw_privs_1 : List (MethodName × Nat) := [(⟨"LightRound", "rowAt", "(I)LLightRound$Row;"⟩, 6), (⟨"LightRound$Table", "stretchBy", "(J)V"⟩, 7), (⟨"LightRound$Table", "bendBy", "(J)V"⟩, 7), (⟨"LightRound", "holdsWith", "(LLightRound$Row;II)Z"⟩, 6), (⟨"LightRound", "holdsBothWays", "(LLightRound$Row;)Z"⟩, 6), (⟨"LightRound", "isPlace", "(I)Z"⟩, 6), (⟨"LightRound", "partsOfAll", "()I"⟩, 6), (⟨"LightRound", "holdingRows", "()I"⟩, 6), (⟨"LightRoundModel", "isBench", "(I)Z"⟩, 9), (⟨"LightRoundModel", "in", "(III)Z"⟩, 9), (⟨"LightRoundModel", "isGood", "(III)Z"⟩, 9), (⟨"LightRoundModel", "isBent", "(I)Z"⟩, 9), (⟨"LightRoundModel", "bent", "(I)I"⟩, 9), (⟨"LightRoundModel", "tilts", "(I)I"⟩, 9), (⟨"LightRoundModel", "lay", "(IIII)V"⟩, 9), (⟨"LightRoundModel", "isPart", "(II)Z"⟩, 9)]
theorem lw_r1 : ∀ q ∈ lw_privs_1, lw_okq q := List.forall_mem_cons.mpr ⟨lw_p0, List.forall_mem_cons.mpr ⟨lw_p1, List.forall_mem_cons.mpr ⟨lw_p2, List.forall_mem_cons.mpr ⟨lw_p3, List.forall_mem_cons.mpr ⟨lw_p4, List.forall_mem_cons.mpr ⟨lw_p5, List.forall_mem_cons.mpr ⟨lw_p6, List.forall_mem_cons.mpr ⟨lw_p7, List.forall_mem_cons.mpr ⟨lw_p8, List.forall_mem_cons.mpr ⟨lw_p9, List.forall_mem_cons.mpr ⟨lw_p10, List.forall_mem_cons.mpr ⟨lw_p11, List.forall_mem_cons.mpr ⟨lw_p12, List.forall_mem_cons.mpr ⟨lw_p13, List.forall_mem_cons.mpr ⟨lw_p14, List.forall_mem_cons.mpr ⟨lw_p15, fun _ h => absurd h List.not_mem_nil⟩⟩⟩⟩⟩⟩⟩⟩⟩⟩⟩⟩⟩⟩⟩⟩
theorem lw_p16 : lw_okq (⟨"LightRoundModel", "isWay", "(I)Z"⟩, 9) := ⟨⟨by decide +kernel, by decide +kernel⟩, List.mem_of_getElem? (i := 362) (by decide +kernel), List.mem_of_getElem? (i := 461) (by decide +kernel), List.mem_of_getElem? (i := 462) (by decide +kernel)⟩
theorem lw_p17 : lw_okq (⟨"LightRoundModel", "work", "(IIII)V"⟩, 9) := ⟨⟨by decide +kernel, by decide +kernel⟩, List.mem_of_getElem? (i := 362) (by decide +kernel), List.mem_of_getElem? (i := 466) (by decide +kernel), List.mem_of_getElem? (i := 467) (by decide +kernel)⟩
theorem lw_p18 : lw_okq (⟨"LightRoundModel", "begin", "()V"⟩, 9) := ⟨⟨by decide +kernel, by decide +kernel⟩, List.mem_of_getElem? (i := 362) (by decide +kernel), List.mem_of_getElem? (i := 470) (by decide +kernel), List.mem_of_getElem? (i := 471) (by decide +kernel)⟩
theorem lw_p19 : lw_okq (⟨"LightRoundModel", "go", "(II)V"⟩, 9) := ⟨⟨by decide +kernel, by decide +kernel⟩, List.mem_of_getElem? (i := 362) (by decide +kernel), List.mem_of_getElem? (i := 474) (by decide +kernel), List.mem_of_getElem? (i := 475) (by decide +kernel)⟩
theorem lw_p20 : lw_okq (⟨"LightRoundModel", "bend", "(J)V"⟩, 9) := ⟨⟨by decide +kernel, by decide +kernel⟩, List.mem_of_getElem? (i := 362) (by decide +kernel), List.mem_of_getElem? (i := 478) (by decide +kernel), List.mem_of_getElem? (i := 479) (by decide +kernel)⟩
theorem lw_p21 : lw_okq (⟨"LightRoundModel", "lowest", "(JJI)J"⟩, 9) := ⟨⟨by decide +kernel, by decide +kernel⟩, List.mem_of_getElem? (i := 362) (by decide +kernel), List.mem_of_getElem? (i := 482) (by decide +kernel), List.mem_of_getElem? (i := 483) (by decide +kernel)⟩
theorem lw_p22 : lw_okq (⟨"LightRoundModel", "divisor", "(JJ)J"⟩, 9) := ⟨⟨by decide +kernel, by decide +kernel⟩, List.mem_of_getElem? (i := 362) (by decide +kernel), List.mem_of_getElem? (i := 486) (by decide +kernel), List.mem_of_getElem? (i := 487) (by decide +kernel)⟩
theorem lw_p23 : lw_okq (⟨"LightRoundModel", "isRay", "(II)Z"⟩, 9) := ⟨⟨by decide +kernel, by decide +kernel⟩, List.mem_of_getElem? (i := 362) (by decide +kernel), List.mem_of_getElem? (i := 494) (by decide +kernel), List.mem_of_getElem? (i := 495) (by decide +kernel)⟩
theorem lw_p24 : lw_okq (⟨"LightRoundModel", "stopped", "(IIII)I"⟩, 9) := ⟨⟨by decide +kernel, by decide +kernel⟩, List.mem_of_getElem? (i := 362) (by decide +kernel), List.mem_of_getElem? (i := 502) (by decide +kernel), List.mem_of_getElem? (i := 503) (by decide +kernel)⟩
theorem lw_p25 : lw_okq (⟨"LightRoundModel", "roundOf", "(II)I"⟩, 9) := ⟨⟨by decide +kernel, by decide +kernel⟩, List.mem_of_getElem? (i := 362) (by decide +kernel), List.mem_of_getElem? (i := 522) (by decide +kernel), List.mem_of_getElem? (i := 523) (by decide +kernel)⟩
theorem lw_p26 : lw_okq (⟨"LightRoundModel", "isBetween", "()Z"⟩, 9) := ⟨⟨by decide +kernel, by decide +kernel⟩, List.mem_of_getElem? (i := 362) (by decide +kernel), List.mem_of_getElem? (i := 526) (by decide +kernel), List.mem_of_getElem? (i := 527) (by decide +kernel)⟩
theorem lw_p27 : lw_okq (⟨"LightRoundModel", "traceOf", "()J"⟩, 9) := ⟨⟨by decide +kernel, by decide +kernel⟩, List.mem_of_getElem? (i := 362) (by decide +kernel), List.mem_of_getElem? (i := 530) (by decide +kernel), List.mem_of_getElem? (i := 531) (by decide +kernel)⟩
theorem lw_p28 : lw_okq (⟨"LightRoundModel", "isPlain", "(J)Z"⟩, 9) := ⟨⟨by decide +kernel, by decide +kernel⟩, List.mem_of_getElem? (i := 362) (by decide +kernel), List.mem_of_getElem? (i := 536) (by decide +kernel), List.mem_of_getElem? (i := 537) (by decide +kernel)⟩
theorem lw_p29 : lw_okq (⟨"LightRoundModel", "wideAbove", "()J"⟩, 9) := ⟨⟨by decide +kernel, by decide +kernel⟩, List.mem_of_getElem? (i := 362) (by decide +kernel), List.mem_of_getElem? (i := 553) (by decide +kernel), List.mem_of_getElem? (i := 554) (by decide +kernel)⟩
theorem lw_p30 : lw_okq (⟨"LightRoundModel", "wideBelow", "()J"⟩, 9) := ⟨⟨by decide +kernel, by decide +kernel⟩, List.mem_of_getElem? (i := 362) (by decide +kernel), List.mem_of_getElem? (i := 558) (by decide +kernel), List.mem_of_getElem? (i := 559) (by decide +kernel)⟩
theorem lw_p31 : lw_okq (⟨"LightRoundModel", "holdsWith", "(III)Z"⟩, 9) := ⟨⟨by decide +kernel, by decide +kernel⟩, List.mem_of_getElem? (i := 362) (by decide +kernel), List.mem_of_getElem? (i := 574) (by decide +kernel), List.mem_of_getElem? (i := 575) (by decide +kernel)⟩
def lw_privs_2 : List (MethodName × Nat) := [(⟨"LightRoundModel", "isWay", "(I)Z"⟩, 9), (⟨"LightRoundModel", "work", "(IIII)V"⟩, 9), (⟨"LightRoundModel", "begin", "()V"⟩, 9), (⟨"LightRoundModel", "go", "(II)V"⟩, 9), (⟨"LightRoundModel", "bend", "(J)V"⟩, 9), (⟨"LightRoundModel", "lowest", "(JJI)J"⟩, 9), (⟨"LightRoundModel", "divisor", "(JJ)J"⟩, 9), (⟨"LightRoundModel", "isRay", "(II)Z"⟩, 9), (⟨"LightRoundModel", "stopped", "(IIII)I"⟩, 9), (⟨"LightRoundModel", "roundOf", "(II)I"⟩, 9), (⟨"LightRoundModel", "isBetween", "()Z"⟩, 9), (⟨"LightRoundModel", "traceOf", "()J"⟩, 9), (⟨"LightRoundModel", "isPlain", "(J)Z"⟩, 9), (⟨"LightRoundModel", "wideAbove", "()J"⟩, 9), (⟨"LightRoundModel", "wideBelow", "()J"⟩, 9), (⟨"LightRoundModel", "holdsWith", "(III)Z"⟩, 9)]
theorem lw_r2 : ∀ q ∈ lw_privs_2, lw_okq q := List.forall_mem_cons.mpr ⟨lw_p16, List.forall_mem_cons.mpr ⟨lw_p17, List.forall_mem_cons.mpr ⟨lw_p18, List.forall_mem_cons.mpr ⟨lw_p19, List.forall_mem_cons.mpr ⟨lw_p20, List.forall_mem_cons.mpr ⟨lw_p21, List.forall_mem_cons.mpr ⟨lw_p22, List.forall_mem_cons.mpr ⟨lw_p23, List.forall_mem_cons.mpr ⟨lw_p24, List.forall_mem_cons.mpr ⟨lw_p25, List.forall_mem_cons.mpr ⟨lw_p26, List.forall_mem_cons.mpr ⟨lw_p27, List.forall_mem_cons.mpr ⟨lw_p28, List.forall_mem_cons.mpr ⟨lw_p29, List.forall_mem_cons.mpr ⟨lw_p30, List.forall_mem_cons.mpr ⟨lw_p31, fun _ h => absurd h List.not_mem_nil⟩⟩⟩⟩⟩⟩⟩⟩⟩⟩⟩⟩⟩⟩⟩⟩
theorem lw_p32 : lw_okq (⟨"LightRoundModel", "holdsBoth", "(I)Z"⟩, 9) := ⟨⟨by decide +kernel, by decide +kernel⟩, List.mem_of_getElem? (i := 362) (by decide +kernel), List.mem_of_getElem? (i := 578) (by decide +kernel), List.mem_of_getElem? (i := 579) (by decide +kernel)⟩
def lw_privs_3 : List (MethodName × Nat) := [(⟨"LightRoundModel", "holdsBoth", "(I)Z"⟩, 9)]
theorem lw_r3 : ∀ q ∈ lw_privs_3, lw_okq q := List.forall_mem_cons.mpr ⟨lw_p32, fun _ h => absurd h List.not_mem_nil⟩
def lw_privs : List (MethodName × Nat) := lw_privs_1 ++ (lw_privs_2 ++ (lw_privs_3))
def lw_tbl : List Cond := k2_sels lw_privs ++ tables_1
theorem lw_privs_ok : ∀ q ∈ lw_privs, lw_okq q := by
  show ∀ q ∈ lw_privs_1 ++ (lw_privs_2 ++ (lw_privs_3)), lw_okq q
  exact List.forall_mem_append.mpr ⟨lw_r1, List.forall_mem_append.mpr ⟨lw_r2, lw_r3⟩⟩
end
section
/-! ===== BEGIN words of one list among another's, by their places ===== -/
theorem goodIn_r {big : List Cond} (ws : List Cond) (ps : List Nat) (hp : ws = ps.filterMap (fun i => big[i]?)) (h : ws.all goodWord = true) : GoodIn big ws := by
  intro w hw
  have h1 := List.all_eq_true.mp h w hw
  rw [hp] at hw
  obtain ⟨i, -, hi⟩ := List.mem_filterMap.mp hw
  have hm : w ∈ big := by first | exact List.mem_of_getElem? hi | exact List.getElem?_mem hi
  exact ⟨hm, good_of_word h1⟩
theorem goodIn_app {big a b : List Cond} (ha : GoodIn big a) (hb : GoodIn big b) : GoodIn big (a ++ b) := fun w h => (List.mem_append.mp h).elim (ha w) (hb w)
theorem goodIn_ca {big a b : List Cond} {c : Cond} (ha : GoodIn big (c :: a)) (hb : GoodIn big b) : GoodIn big (c :: (a ++ b)) := fun w h => (List.mem_cons.mp h).elim (fun e => ha w (List.mem_cons.mpr (Or.inl e))) (fun h => (List.mem_append.mp h).elim (fun h => ha w (List.mem_cons.mpr (Or.inr h))) (hb w))
theorem goodIn_sub {big ws : List Cond} (hm : ∀ w ∈ ws, w ∈ big) (h : ws.all goodWord = true) : GoodIn big ws := fun w hw => ⟨hm w hw, good_of_word (List.all_eq_true.mp h w hw)⟩
/-! ===== END ===== -/

/-! ===== BEGIN printed: names, fields, word lists, decode rows ===== -/
def RX0 : String := "LightRound$Row"
def TX0 : u_T := fun k => match k with
  | 0 => ("LightRound$Row", "kinds", "[I", true)
  | 1 => ("LightRound$Row", "firsts", "[I", true)
  | 2 => ("LightRound$Row", "seconds", "[I", true)
  | _ => ("LightRound$Row", "size", "I", false)
def tyX0 : Nat → FieldType := fun k => match k with
  | 0 => .array .int
  | 1 => .array .int
  | 2 => .array .int
  | _ => .int
abbrev wsX00 : List Cond := u_ws RX0 TX0 4
theorem nmX0 : ∀ a, a < 4 → ∀ b, b < 4 → a ≠ b → (TX0 a).2.1 ≠ (TX0 b).2.1 := by decide +kernel
theorem tyX0_ok : ∀ k, k < 4 → parseFieldDescriptor (TX0 k).2.2.1 = some (tyX0 k) := by decide +kernel
abbrev cX0_init : ByteArray := prog_2_method_1_code
def yX0_init : MethodName := ⟨RX0, "<init>", "()V"⟩
abbrev cX0_has : ByteArray := prog_2_method_2_code
def yX0_has : MethodName := ⟨RX0, "has", "(I)Z"⟩
abbrev cX0_strength : ByteArray := prog_2_method_3_code
def yX0_strength : MethodName := ⟨RX0, "strength", "(II)I"⟩
abbrev cX0_bending : ByteArray := prog_2_method_4_code
def yX0_bending : MethodName := ⟨RX0, "bending", "()I"⟩
abbrev cX0_tilts : ByteArray := prog_2_method_5_code
def yX0_tilts : MethodName := ⟨RX0, "tilts", "()I"⟩
abbrev cX0_hasRoomFor : ByteArray := prog_2_method_6_code
def yX0_hasRoomFor : MethodName := ⟨RX0, "hasRoomFor", "(I)Z"⟩
abbrev cX0_write : ByteArray := prog_2_method_7_code
def yX0_write : MethodName := ⟨RX0, "write", "(IIII)V"⟩
abbrev cX0_insert : ByteArray := prog_2_method_8_code
def yX0_insert : MethodName := ⟨RX0, "insert", "(IIII)V"⟩
abbrev cX0_remove : ByteArray := prog_2_method_9_code
def yX0_remove : MethodName := ⟨RX0, "remove", "(I)V"⟩
abbrev cX0_reverse : ByteArray := prog_2_method_10_code
def yX0_reverse : MethodName := ⟨RX0, "reverse", "()V"⟩
abbrev cX0_append : ByteArray := prog_2_method_11_code
def yX0_append : MethodName := ⟨RX0, "append", "(LLightRound$Row;)V"⟩
def RX1 : String := "LightRound$Table"
def TX1 : u_T := fun k => match k with
  | 0 => ("LightRound$Table", "a", "J", false)
  | 1 => ("LightRound$Table", "b", "J", false)
  | 2 => ("LightRound$Table", "c", "J", false)
  | 3 => ("LightRound$Table", "d", "J", false)
  | 4 => ("LightRound$Table", "e", "J", false)
  | 5 => ("LightRound$Table", "f", "J", false)
  | _ => ("LightRound$Table", "below", "J", false)
def tyX1 : Nat → FieldType := fun k => match k with
  | 0 => .long
  | 1 => .long
  | 2 => .long
  | 3 => .long
  | 4 => .long
  | 5 => .long
  | _ => .long
abbrev wsX10 : List Cond := u_ws RX1 TX1 7
theorem nmX1 : ∀ a, a < 7 → ∀ b, b < 7 → a ≠ b → (TX1 a).2.1 ≠ (TX1 b).2.1 := by decide +kernel
theorem tyX1_ok : ∀ k, k < 7 → parseFieldDescriptor (TX1 k).2.2.1 = some (tyX1 k) := by decide +kernel
abbrev cX1_init : ByteArray := prog_3_method_1_code
def yX1_init : MethodName := ⟨RX1, "<init>", "()V"⟩
abbrev cX1_clear : ByteArray := prog_3_method_2_code
def yX1_clear : MethodName := ⟨RX1, "clear", "()V"⟩
abbrev cX1_lead : ByteArray := prog_3_method_3_code
def yX1_lead : MethodName := ⟨RX1, "lead", "(LLightRound$Row;III)V"⟩
abbrev cX1_leadThrough : ByteArray := prog_3_method_4_code
def yX1_leadThrough : MethodName := ⟨RX1, "leadThrough", "(LLightRound$Row;I)V"⟩
abbrev cX1_go : ByteArray := prog_3_method_5_code
def yX1_go : MethodName := ⟨RX1, "go", "(II)V"⟩
abbrev cX1_stretchBy : ByteArray := prog_3_method_6_code
def yX1_stretchBy : MethodName := ⟨RX1, "stretchBy", "(J)V"⟩
abbrev cX1_bendBy : ByteArray := prog_3_method_7_code
def yX1_bendBy : MethodName := ⟨RX1, "bendBy", "(J)V"⟩
abbrev cX1_above : ByteArray := prog_3_method_8_code
def yX1_above : MethodName := ⟨RX1, "above", "(I)J"⟩
abbrev cX1_farAbove : ByteArray := prog_3_method_9_code
def yX1_farAbove : MethodName := ⟨RX1, "farAbove", "(JJ)J"⟩
abbrev cX1_leanAbove : ByteArray := prog_3_method_10_code
def yX1_leanAbove : MethodName := ⟨RX1, "leanAbove", "(JJ)J"⟩
abbrev cX1_steepestWithin : ByteArray := prog_3_method_11_code
def yX1_steepestWithin : MethodName := ⟨RX1, "steepestWithin", "(J)J"⟩
abbrev cX1_sum : ByteArray := prog_3_method_12_code
def yX1_sum : MethodName := ⟨RX1, "sum", "()J"⟩
abbrev cX1_isBetween : ByteArray := prog_3_method_13_code
def yX1_isBetween : MethodName := ⟨RX1, "isBetween", "()Z"⟩
abbrev cX1_isPlain : ByteArray := prog_3_method_14_code
def yX1_isPlain : MethodName := ⟨RX1, "isPlain", "(J)Z"⟩
abbrev cX1_manner : ByteArray := prog_3_method_15_code
def yX1_manner : MethodName := ⟨RX1, "manner", "()I"⟩
abbrev cX1_roundsToComeBack : ByteArray := prog_3_method_16_code
def yX1_roundsToComeBack : MethodName := ⟨RX1, "roundsToComeBack", "()I"⟩
def RX2 : String := "LightRound"
def TX2 : u_T := fun k => match k with
  | 0 => ("LightRound", "rows", "[LLightRound$Row;", true)
  | 1 => ("LightRound", "rowCount", "I", false)
  | 2 => ("LightRound", "lengths", "[I", true)
  | 3 => ("LightRound", "lengthCount", "I", false)
  | 4 => ("LightRound", "led", "LLightRound$Table;", true)
  | _ => ("LightRound", "ledToo", "LLightRound$Table;", true)
def tyX2 : Nat → FieldType := fun k => match k with
  | 0 => .array (.object "LightRound$Row")
  | 1 => .int
  | 2 => .array .int
  | 3 => .int
  | 4 => .object "LightRound$Table"
  | _ => .object "LightRound$Table"
abbrev wsX20 : List Cond := u_ws RX2 TX2 6
theorem nmX2 : ∀ a, a < 6 → ∀ b, b < 6 → a ≠ b → (TX2 a).2.1 ≠ (TX2 b).2.1 := by decide +kernel
theorem tyX2_ok : ∀ k, k < 6 → parseFieldDescriptor (TX2 k).2.2.1 = some (tyX2 k) := by decide +kernel
abbrev cX2_init : ByteArray := prog_1_method_1_code
def yX2_init : MethodName := ⟨RX2, "<init>", "()V"⟩
abbrev cX2_bench : ByteArray := prog_1_method_2_code
def yX2_bench : MethodName := ⟨RX2, "bench", "()I"⟩
abbrev cX2_put : ByteArray := prog_1_method_3_code
def yX2_put : MethodName := ⟨RX2, "put", "(IIIII)I"⟩
abbrev cX2_take : ByteArray := prog_1_method_4_code
def yX2_take : MethodName := ⟨RX2, "take", "(II)I"⟩
abbrev cX2_set : ByteArray := prog_1_method_5_code
def yX2_set : MethodName := ⟨RX2, "set", "(IIII)I"⟩
abbrev cX2_part : ByteArray := prog_1_method_6_code
def yX2_part : MethodName := ⟨RX2, "part", "(III)I"⟩
abbrev cX2_turn : ByteArray := prog_1_method_7_code
def yX2_turn : MethodName := ⟨RX2, "turn", "(I)I"⟩
abbrev cX2_join : ByteArray := prog_1_method_8_code
def yX2_join : MethodName := ⟨RX2, "join", "(II)I"⟩
abbrev cX2_table : ByteArray := prog_1_method_9_code
def yX2_table : MethodName := ⟨RX2, "table", "(IIII)J"⟩
abbrev cX2_ray : ByteArray := prog_1_method_10_code
def yX2_ray : MethodName := ⟨RX2, "ray", "(IIIIIII)J"⟩
abbrev cX2_stops : ByteArray := prog_1_method_11_code
def yX2_stops : MethodName := ⟨RX2, "stops", "(IIII)I"⟩
abbrev cX2_full : ByteArray := prog_1_method_12_code
def yX2_full : MethodName := ⟨RX2, "full", "(II)I"⟩
abbrev cX2_image : ByteArray := prog_1_method_13_code
def yX2_image : MethodName := ⟨RX2, "image", "(IIII)J"⟩
abbrev cX2_same : ByteArray := prog_1_method_14_code
def yX2_same : MethodName := ⟨RX2, "same", "(III)I"⟩
abbrev cX2_round : ByteArray := prog_1_method_15_code
def yX2_round : MethodName := ⟨RX2, "round", "(II)I"⟩
abbrev cX2_trace : ByteArray := prog_1_method_16_code
def yX2_trace : MethodName := ⟨RX2, "trace", "(III)J"⟩
abbrev cX2_turns : ByteArray := prog_1_method_17_code
def yX2_turns : MethodName := ⟨RX2, "turns", "(II)I"⟩
abbrev cX2_beam : ByteArray := prog_1_method_18_code
def yX2_beam : MethodName := ⟨RX2, "beam", "(IIIII)J"⟩
abbrev cX2_waist : ByteArray := prog_1_method_19_code
def yX2_waist : MethodName := ⟨RX2, "waist", "(II)I"⟩
abbrev cX2_axis : ByteArray := prog_1_method_20_code
def yX2_axis : MethodName := ⟨RX2, "axis", "(IIIII)J"⟩
abbrev cX2_span : ByteArray := prog_1_method_21_code
def yX2_span : MethodName := ⟨RX2, "span", "(III)I"⟩
abbrev cX2_own : ByteArray := prog_1_method_22_code
def yX2_own : MethodName := ⟨RX2, "own", "(I)I"⟩
abbrev cX2_fit : ByteArray := prog_1_method_23_code
def yX2_fit : MethodName := ⟨RX2, "fit", "(II)I"⟩
abbrev cX2_swap : ByteArray := prog_1_method_24_code
def yX2_swap : MethodName := ⟨RX2, "swap", "(III)I"⟩
abbrev cX2_count : ByteArray := prog_1_method_25_code
def yX2_count : MethodName := ⟨RX2, "count", "(I)I"⟩
abbrev cX2_drawer : ByteArray := prog_1_method_26_code
def yX2_drawer : MethodName := ⟨RX2, "drawer", "(I)I"⟩
abbrev cX2_rowAt : ByteArray := prog_1_method_27_code
def yX2_rowAt : MethodName := ⟨RX2, "rowAt", "(I)LLightRound$Row;"⟩
abbrev cX2_isPlace : ByteArray := prog_1_method_28_code
def yX2_isPlace : MethodName := ⟨RX2, "isPlace", "(I)Z"⟩
abbrev cX2_partsOfAll : ByteArray := prog_1_method_29_code
def yX2_partsOfAll : MethodName := ⟨RX2, "partsOfAll", "()I"⟩
abbrev cX2_holdingRows : ByteArray := prog_1_method_30_code
def yX2_holdingRows : MethodName := ⟨RX2, "holdingRows", "()I"⟩
abbrev cX2_holdsBothWays : ByteArray := prog_1_method_31_code
def yX2_holdsBothWays : MethodName := ⟨RX2, "holdsBothWays", "(LLightRound$Row;)Z"⟩
abbrev cX2_holdsWith : ByteArray := prog_1_method_32_code
def yX2_holdsWith : MethodName := ⟨RX2, "holdsWith", "(LLightRound$Row;II)Z"⟩
abbrev cX2_isEither : ByteArray := prog_1_method_33_code
def yX2_isEither : MethodName := ⟨RX2, "isEither", "(I)Z"⟩
abbrev cX2_isNear : ByteArray := prog_1_method_34_code
def yX2_isNear : MethodName := ⟨RX2, "isNear", "(I)Z"⟩
abbrev cX2_isStrength : ByteArray := prog_1_method_35_code
def yX2_isStrength : MethodName := ⟨RX2, "isStrength", "(I)Z"⟩
abbrev cX2_isPart : ByteArray := prog_1_method_36_code
def yX2_isPart : MethodName := ⟨RX2, "isPart", "(III)Z"⟩
abbrev cX2_told : ByteArray := prog_1_method_37_code
def yX2_told : MethodName := ⟨RX2, "told", "(JJI)J"⟩
abbrev cX2_commonDivisor : ByteArray := prog_1_method_38_code
def yX2_commonDivisor : MethodName := ⟨RX2, "commonDivisor", "(JJ)J"⟩
def RX3 : String := "LightRoundModel"
def TX3 : u_T := fun k => match k with
  | 0 => ("LightRoundModel", "benches", "I", false)
  | 1 => ("LightRoundModel", "many", "[I", true)
  | 2 => ("LightRoundModel", "kind", "[I", true)
  | 3 => ("LightRoundModel", "first", "[I", true)
  | 4 => ("LightRoundModel", "second", "[I", true)
  | 5 => ("LightRoundModel", "drawn", "I", false)
  | 6 => ("LightRoundModel", "drawer", "[I", true)
  | 7 => ("LightRoundModel", "t", "[J", true)
  | _ => ("LightRoundModel", "below", "J", false)
def tyX3 : Nat → FieldType := fun k => match k with
  | 0 => .int
  | 1 => .array .int
  | 2 => .array .int
  | 3 => .array .int
  | 4 => .array .int
  | 5 => .int
  | 6 => .array .int
  | 7 => .array .long
  | _ => .long
abbrev wsX30 : List Cond := u_ws RX3 TX3 9
theorem nmX3 : ∀ a, a < 9 → ∀ b, b < 9 → a ≠ b → (TX3 a).2.1 ≠ (TX3 b).2.1 := by decide +kernel
theorem tyX3_ok : ∀ k, k < 9 → parseFieldDescriptor (TX3 k).2.2.1 = some (tyX3 k) := by decide +kernel
abbrev cX3_init : ByteArray := prog_5_method_1_code
def yX3_init : MethodName := ⟨RX3, "<init>", "()V"⟩
abbrev cX3_in : ByteArray := prog_5_method_2_code
def yX3_in : MethodName := ⟨RX3, "in", "(III)Z"⟩
abbrev cX3_isBench : ByteArray := prog_5_method_3_code
def yX3_isBench : MethodName := ⟨RX3, "isBench", "(I)Z"⟩
abbrev cX3_isPart : ByteArray := prog_5_method_4_code
def yX3_isPart : MethodName := ⟨RX3, "isPart", "(II)Z"⟩
abbrev cX3_isWay : ByteArray := prog_5_method_5_code
def yX3_isWay : MethodName := ⟨RX3, "isWay", "(I)Z"⟩
abbrev cX3_isBent : ByteArray := prog_5_method_6_code
def yX3_isBent : MethodName := ⟨RX3, "isBent", "(I)Z"⟩
abbrev cX3_isGood : ByteArray := prog_5_method_7_code
def yX3_isGood : MethodName := ⟨RX3, "isGood", "(III)Z"⟩
abbrev cX3_bench : ByteArray := prog_5_method_8_code
def yX3_bench : MethodName := ⟨RX3, "bench", "()I"⟩
abbrev cX3_bent : ByteArray := prog_5_method_9_code
def yX3_bent : MethodName := ⟨RX3, "bent", "(I)I"⟩
abbrev cX3_tilts : ByteArray := prog_5_method_10_code
def yX3_tilts : MethodName := ⟨RX3, "tilts", "(I)I"⟩
abbrev cX3_lay : ByteArray := prog_5_method_11_code
def yX3_lay : MethodName := ⟨RX3, "lay", "(IIII)V"⟩
abbrev cX3_put : ByteArray := prog_5_method_12_code
def yX3_put : MethodName := ⟨RX3, "put", "(IIIII)I"⟩
abbrev cX3_take : ByteArray := prog_5_method_13_code
def yX3_take : MethodName := ⟨RX3, "take", "(II)I"⟩
abbrev cX3_set : ByteArray := prog_5_method_14_code
def yX3_set : MethodName := ⟨RX3, "set", "(IIII)I"⟩
abbrev cX3_part : ByteArray := prog_5_method_15_code
def yX3_part : MethodName := ⟨RX3, "part", "(III)I"⟩
abbrev cX3_turn : ByteArray := prog_5_method_16_code
def yX3_turn : MethodName := ⟨RX3, "turn", "(I)I"⟩
abbrev cX3_join : ByteArray := prog_5_method_17_code
def yX3_join : MethodName := ⟨RX3, "join", "(II)I"⟩
abbrev cX3_begin : ByteArray := prog_5_method_18_code
def yX3_begin : MethodName := ⟨RX3, "begin", "()V"⟩
abbrev cX3_bend : ByteArray := prog_5_method_19_code
def yX3_bend : MethodName := ⟨RX3, "bend", "(J)V"⟩
abbrev cX3_go : ByteArray := prog_5_method_20_code
def yX3_go : MethodName := ⟨RX3, "go", "(II)V"⟩
abbrev cX3_work : ByteArray := prog_5_method_21_code
def yX3_work : MethodName := ⟨RX3, "work", "(IIII)V"⟩
abbrev cX3_divisor : ByteArray := prog_5_method_22_code
def yX3_divisor : MethodName := ⟨RX3, "divisor", "(JJ)J"⟩
abbrev cX3_lowest : ByteArray := prog_5_method_23_code
def yX3_lowest : MethodName := ⟨RX3, "lowest", "(JJI)J"⟩
abbrev cX3_table : ByteArray := prog_5_method_24_code
def yX3_table : MethodName := ⟨RX3, "table", "(IIII)J"⟩
abbrev cX3_isRay : ByteArray := prog_5_method_25_code
def yX3_isRay : MethodName := ⟨RX3, "isRay", "(II)Z"⟩
abbrev cX3_ray : ByteArray := prog_5_method_26_code
def yX3_ray : MethodName := ⟨RX3, "ray", "(IIIIIII)J"⟩
abbrev cX3_stopped : ByteArray := prog_5_method_27_code
def yX3_stopped : MethodName := ⟨RX3, "stopped", "(IIII)I"⟩
abbrev cX3_stops : ByteArray := prog_5_method_28_code
def yX3_stops : MethodName := ⟨RX3, "stops", "(IIII)I"⟩
abbrev cX3_full : ByteArray := prog_5_method_29_code
def yX3_full : MethodName := ⟨RX3, "full", "(II)I"⟩
abbrev cX3_image : ByteArray := prog_5_method_30_code
def yX3_image : MethodName := ⟨RX3, "image", "(IIII)J"⟩
abbrev cX3_same : ByteArray := prog_5_method_31_code
def yX3_same : MethodName := ⟨RX3, "same", "(III)I"⟩
abbrev cX3_traceOf : ByteArray := prog_5_method_32_code
def yX3_traceOf : MethodName := ⟨RX3, "traceOf", "()J"⟩
abbrev cX3_isPlain : ByteArray := prog_5_method_33_code
def yX3_isPlain : MethodName := ⟨RX3, "isPlain", "(J)Z"⟩
abbrev cX3_isBetween : ByteArray := prog_5_method_34_code
def yX3_isBetween : MethodName := ⟨RX3, "isBetween", "()Z"⟩
abbrev cX3_roundOf : ByteArray := prog_5_method_35_code
def yX3_roundOf : MethodName := ⟨RX3, "roundOf", "(II)I"⟩
abbrev cX3_round : ByteArray := prog_5_method_36_code
def yX3_round : MethodName := ⟨RX3, "round", "(II)I"⟩
abbrev cX3_trace : ByteArray := prog_5_method_37_code
def yX3_trace : MethodName := ⟨RX3, "trace", "(III)J"⟩
abbrev cX3_turns : ByteArray := prog_5_method_38_code
def yX3_turns : MethodName := ⟨RX3, "turns", "(II)I"⟩
abbrev cX3_wideAbove : ByteArray := prog_5_method_39_code
def yX3_wideAbove : MethodName := ⟨RX3, "wideAbove", "()J"⟩
abbrev cX3_wideBelow : ByteArray := prog_5_method_40_code
def yX3_wideBelow : MethodName := ⟨RX3, "wideBelow", "()J"⟩
abbrev cX3_beam : ByteArray := prog_5_method_41_code
def yX3_beam : MethodName := ⟨RX3, "beam", "(IIIII)J"⟩
abbrev cX3_waist : ByteArray := prog_5_method_42_code
def yX3_waist : MethodName := ⟨RX3, "waist", "(II)I"⟩
abbrev cX3_axis : ByteArray := prog_5_method_43_code
def yX3_axis : MethodName := ⟨RX3, "axis", "(IIIII)J"⟩
abbrev cX3_holdsBoth : ByteArray := prog_5_method_44_code
def yX3_holdsBoth : MethodName := ⟨RX3, "holdsBoth", "(I)Z"⟩
abbrev cX3_holdsWith : ByteArray := prog_5_method_45_code
def yX3_holdsWith : MethodName := ⟨RX3, "holdsWith", "(III)Z"⟩
abbrev cX3_span : ByteArray := prog_5_method_46_code
def yX3_span : MethodName := ⟨RX3, "span", "(III)I"⟩
abbrev cX3_own : ByteArray := prog_5_method_47_code
def yX3_own : MethodName := ⟨RX3, "own", "(I)I"⟩
abbrev cX3_fit : ByteArray := prog_5_method_48_code
def yX3_fit : MethodName := ⟨RX3, "fit", "(II)I"⟩
abbrev cX3_swap : ByteArray := prog_5_method_49_code
def yX3_swap : MethodName := ⟨RX3, "swap", "(III)I"⟩
abbrev cX3_count : ByteArray := prog_5_method_50_code
def yX3_count : MethodName := ⟨RX3, "count", "(I)I"⟩
abbrev cX3_drawer : ByteArray := prog_5_method_51_code
def yX3_drawer : MethodName := ⟨RX3, "drawer", "(I)I"⟩
def RJ9 : String := "java/lang/Math"
def TJ9 : u_T := fun k => match k with
  | _ => ("", "", "", false)
def tyJ9 : Nat → FieldType := fun k => match k with
  | _ => .int
abbrev wsJ90 : List Cond := u_ws RJ9 TJ9 0
theorem nmJ9 : ∀ a, a < 0 → ∀ b, b < 0 → a ≠ b → (TJ9 a).2.1 ≠ (TJ9 b).2.1 := by decide +kernel
theorem tyJ9_ok : ∀ k, k < 0 → parseFieldDescriptor (TJ9 k).2.2.1 = some (tyJ9 k) := by decide +kernel
abbrev cJ9_abs_067f4 : ByteArray := prog_6_method_61_code
def yJ9_abs_067f4 : MethodName := ⟨RJ9, "abs", "(J)J"⟩
abbrev cJ9_min_f86c9 : ByteArray := prog_6_method_70_code
def yJ9_min_f86c9 : MethodName := ⟨RJ9, "min", "(JJ)J"⟩
def RL : String := "LightRoundLaw"
abbrev cL_law : ByteArray := code
def yL_law : MethodName := ⟨RL, "law", "([I)Z"⟩
def wsX0_init : List Cond := .code yX0_init cX0_init 1 none :: ([.methodLink RX0 3 objectInit, .instanceMethod objectInit, .code objectInit ⟨#[0xb1]⟩ 1 none, .arrayClass .int, .fieldLink RX0 9 "LightRound$Row" "kinds" "[I", .fieldLink RX0 15 "LightRound$Row" "firsts" "[I", .fieldLink RX0 18 "LightRound$Row" "seconds" "[I", .fieldLink RX0 21 "LightRound$Row" "size" "I"] ++ wsX00)
def wsX0_has : List Cond := .code yX0_has cX0_has 2 (some .boolean) :: ([.fieldLink RX0 21 "LightRound$Row" "size" "I"] ++ wsX00)
def wsX0_strength : List Cond := .code yX0_strength cX0_strength 3 (some .int) :: ([.fieldLink RX0 9 "LightRound$Row" "kinds" "[I", .fieldLink RX0 18 "LightRound$Row" "seconds" "[I", .fieldLink RX0 15 "LightRound$Row" "firsts" "[I"] ++ wsX00)
def wsX0_bending : List Cond := .code yX0_bending cX0_bending 3 (some .int) :: ([.fieldLink RX0 21 "LightRound$Row" "size" "I", .fieldLink RX0 9 "LightRound$Row" "kinds" "[I"] ++ wsX00)
def wsX0_tilts : List Cond := .code yX0_tilts cX0_tilts 3 (some .int) :: ([.fieldLink RX0 21 "LightRound$Row" "size" "I", .fieldLink RX0 9 "LightRound$Row" "kinds" "[I"] ++ wsX00)
def wsX0_hasRoomFor : List Cond := .code yX0_hasRoomFor cX0_hasRoomFor 2 (some .boolean) :: ([.methodLink RX0 25 yX0_bending, .instanceMethod yX0_bending, .selects RX0 yX0_bending yX0_bending, .initialized RX0, .code yX0_bending cX0_bending 3 (some .int), .fieldLink RX0 21 "LightRound$Row" "size" "I", .fieldLink RX0 9 "LightRound$Row" "kinds" "[I", .methodLink RX0 29 yX0_tilts, .instanceMethod yX0_tilts, .selects RX0 yX0_tilts yX0_tilts, .code yX0_tilts cX0_tilts 3 (some .int)] ++ wsX00)
def wsX0_write : List Cond := .code yX0_write cX0_write 5 none :: ([.fieldLink RX0 9 "LightRound$Row" "kinds" "[I", .fieldLink RX0 15 "LightRound$Row" "firsts" "[I", .fieldLink RX0 18 "LightRound$Row" "seconds" "[I"] ++ wsX00)
def wsX0_insert : List Cond := .code yX0_insert cX0_insert 6 none :: ([.fieldLink RX0 21 "LightRound$Row" "size" "I", .fieldLink RX0 9 "LightRound$Row" "kinds" "[I", .fieldLink RX0 15 "LightRound$Row" "firsts" "[I", .fieldLink RX0 18 "LightRound$Row" "seconds" "[I", .methodLink RX0 32 yX0_write, .instanceMethod yX0_write, .selects RX0 yX0_write yX0_write, .initialized RX0, .code yX0_write cX0_write 5 none] ++ wsX00)
def wsX0_remove : List Cond := .code yX0_remove cX0_remove 3 none :: ([.fieldLink RX0 21 "LightRound$Row" "size" "I", .fieldLink RX0 9 "LightRound$Row" "kinds" "[I", .fieldLink RX0 15 "LightRound$Row" "firsts" "[I", .fieldLink RX0 18 "LightRound$Row" "seconds" "[I", .methodLink RX0 32 yX0_write, .instanceMethod yX0_write, .selects RX0 yX0_write yX0_write, .initialized RX0, .code yX0_write cX0_write 5 none] ++ wsX00)
def wsX0_reverse : List Cond := .code yX0_reverse cX0_reverse 6 none :: ([.fieldLink RX0 21 "LightRound$Row" "size" "I", .fieldLink RX0 9 "LightRound$Row" "kinds" "[I", .fieldLink RX0 15 "LightRound$Row" "firsts" "[I", .fieldLink RX0 18 "LightRound$Row" "seconds" "[I", .methodLink RX0 32 yX0_write, .instanceMethod yX0_write, .selects RX0 yX0_write yX0_write, .initialized RX0, .code yX0_write cX0_write 5 none] ++ wsX00)
def wsX0_append : List Cond := .code yX0_append cX0_append 4 none :: ([.fieldLink RX0 21 "LightRound$Row" "size" "I", .fieldLink RX0 9 "LightRound$Row" "kinds" "[I", .fieldLink RX0 15 "LightRound$Row" "firsts" "[I", .fieldLink RX0 18 "LightRound$Row" "seconds" "[I", .methodLink RX0 32 yX0_write, .instanceMethod yX0_write, .selects RX0 yX0_write yX0_write, .initialized RX0, .code yX0_write cX0_write 5 none] ++ wsX00)
def wsX1_init : List Cond := .code yX1_init cX1_init 1 none :: ([.methodLink RX1 3 objectInit, .instanceMethod objectInit, .code objectInit ⟨#[0xb1]⟩ 1 none])
def wsX1_clear : List Cond := .code yX1_clear cX1_clear 1 none :: ([.fieldLink RX1 9 "LightRound$Table" "a" "J", .fieldLink RX1 15 "LightRound$Table" "b" "J", .fieldLink RX1 18 "LightRound$Table" "c" "J", .fieldLink RX1 21 "LightRound$Table" "d" "J", .fieldLink RX1 24 "LightRound$Table" "e" "J", .fieldLink RX1 27 "LightRound$Table" "f" "J", .fieldLink RX1 30 "LightRound$Table" "below" "J"] ++ wsX10)
def wsX1_stretchBy : List Cond := .code yX1_stretchBy cX1_stretchBy 3 none :: ([.fieldLink RX1 9 "LightRound$Table" "a" "J", .fieldLink RX1 18 "LightRound$Table" "c" "J", .fieldLink RX1 15 "LightRound$Table" "b" "J", .fieldLink RX1 21 "LightRound$Table" "d" "J", .fieldLink RX1 24 "LightRound$Table" "e" "J", .fieldLink RX1 27 "LightRound$Table" "f" "J"] ++ wsX10)
def wsX1_bendBy : List Cond := .code yX1_bendBy cX1_bendBy 7 none :: ([.constantLong RX1 69 (-1), .fieldLink RX1 18 "LightRound$Table" "c" "J", .fieldLink RX1 9 "LightRound$Table" "a" "J", .fieldLink RX1 21 "LightRound$Table" "d" "J", .fieldLink RX1 15 "LightRound$Table" "b" "J", .fieldLink RX1 27 "LightRound$Table" "f" "J", .fieldLink RX1 24 "LightRound$Table" "e" "J", .fieldLink RX1 30 "LightRound$Table" "below" "J"] ++ wsX10)
def wsX1_go : List Cond := .code yX1_go cX1_go 3 none :: ([.fieldLink RX1 27 "LightRound$Table" "f" "J", .fieldLink RX1 30 "LightRound$Table" "below" "J", .methodLink RX1 62 yX1_stretchBy, .instanceMethod yX1_stretchBy, .selects RX1 yX1_stretchBy yX1_stretchBy, .initialized RX1, .code yX1_stretchBy cX1_stretchBy 3 none, .fieldLink RX1 9 "LightRound$Table" "a" "J", .fieldLink RX1 18 "LightRound$Table" "c" "J", .fieldLink RX1 15 "LightRound$Table" "b" "J", .fieldLink RX1 21 "LightRound$Table" "d" "J", .fieldLink RX1 24 "LightRound$Table" "e" "J", .methodLink RX1 66 yX1_bendBy, .instanceMethod yX1_bendBy, .selects RX1 yX1_bendBy yX1_bendBy, .code yX1_bendBy cX1_bendBy 7 none, .constantLong RX1 69 (-1)] ++ wsX10)
def wsX1_lead_r1 : List Cond := [Cond.fieldLink RX1 42 "LightRound$Row" "kinds" "[I", Cond.fieldLink RX1 54 "LightRound$Row" "size" "I", Cond.methodLink RX1 33 yX1_clear, Cond.instanceMethod yX1_clear, Cond.selects RX1 yX1_clear yX1_clear, Cond.initialized RX1, Cond.code yX1_clear cX1_clear 1 none, Cond.fieldLink RX1 9 "LightRound$Table" "a" "J", Cond.fieldLink RX1 15 "LightRound$Table" "b" "J", Cond.fieldLink RX1 18 "LightRound$Table" "c" "J", Cond.fieldLink RX1 21 "LightRound$Table" "d" "J", Cond.fieldLink RX1 24 "LightRound$Table" "e" "J", Cond.fieldLink RX1 27 "LightRound$Table" "f" "J", Cond.fieldLink RX1 30 "LightRound$Table" "below" "J", Cond.methodLink RX1 36 yX0_has, Cond.instanceMethod yX0_has, Cond.selects RX0 yX0_has yX0_has, Cond.initialized RX0, Cond.code yX0_has cX0_has 2 (some .boolean), Cond.fieldLink RX0 21 "LightRound$Row" "size" "I", Cond.methodLink RX1 46 yX0_strength, Cond.instanceMethod yX0_strength, Cond.selects RX0 yX0_strength yX0_strength, Cond.code yX0_strength cX0_strength 3 (some .int)]
def wsX1_lead_r2 : List Cond := [Cond.fieldLink RX0 9 "LightRound$Row" "kinds" "[I", Cond.fieldLink RX0 18 "LightRound$Row" "seconds" "[I", Cond.fieldLink RX0 15 "LightRound$Row" "firsts" "[I", Cond.methodLink RX1 50 yX1_go, Cond.instanceMethod yX1_go, Cond.selects RX1 yX1_go yX1_go, Cond.code yX1_go cX1_go 3 none, Cond.methodLink RX1 62 yX1_stretchBy, Cond.instanceMethod yX1_stretchBy, Cond.selects RX1 yX1_stretchBy yX1_stretchBy, Cond.code yX1_stretchBy cX1_stretchBy 3 none, Cond.methodLink RX1 66 yX1_bendBy, Cond.instanceMethod yX1_bendBy, Cond.selects RX1 yX1_bendBy yX1_bendBy, Cond.code yX1_bendBy cX1_bendBy 7 none, Cond.constantLong RX1 69 (-1)]
def wsX1_lead : List Cond := .code yX1_lead cX1_lead 7 none :: ((wsX1_lead_r1 ++ wsX1_lead_r2) ++ wsX00 ++ wsX10)
def wsX1_leadThrough_r1 : List Cond := [Cond.fieldLink RX1 54 "LightRound$Row" "size" "I", Cond.methodLink RX1 58 yX1_lead, Cond.instanceMethod yX1_lead, Cond.selects RX1 yX1_lead yX1_lead, Cond.initialized RX1, Cond.code yX1_lead cX1_lead 7 none, Cond.fieldLink RX1 42 "LightRound$Row" "kinds" "[I", Cond.methodLink RX1 33 yX1_clear, Cond.instanceMethod yX1_clear, Cond.selects RX1 yX1_clear yX1_clear, Cond.code yX1_clear cX1_clear 1 none, Cond.fieldLink RX1 9 "LightRound$Table" "a" "J", Cond.fieldLink RX1 15 "LightRound$Table" "b" "J", Cond.fieldLink RX1 18 "LightRound$Table" "c" "J", Cond.fieldLink RX1 21 "LightRound$Table" "d" "J", Cond.fieldLink RX1 24 "LightRound$Table" "e" "J", Cond.fieldLink RX1 27 "LightRound$Table" "f" "J", Cond.fieldLink RX1 30 "LightRound$Table" "below" "J", Cond.methodLink RX1 36 yX0_has, Cond.instanceMethod yX0_has, Cond.selects RX0 yX0_has yX0_has, Cond.initialized RX0, Cond.code yX0_has cX0_has 2 (some .boolean), Cond.fieldLink RX0 21 "LightRound$Row" "size" "I"]
def wsX1_leadThrough_r2 : List Cond := [Cond.methodLink RX1 46 yX0_strength, Cond.instanceMethod yX0_strength, Cond.selects RX0 yX0_strength yX0_strength, Cond.code yX0_strength cX0_strength 3 (some .int), Cond.fieldLink RX0 9 "LightRound$Row" "kinds" "[I", Cond.fieldLink RX0 18 "LightRound$Row" "seconds" "[I", Cond.fieldLink RX0 15 "LightRound$Row" "firsts" "[I", Cond.methodLink RX1 50 yX1_go, Cond.instanceMethod yX1_go, Cond.selects RX1 yX1_go yX1_go, Cond.code yX1_go cX1_go 3 none, Cond.methodLink RX1 62 yX1_stretchBy, Cond.instanceMethod yX1_stretchBy, Cond.selects RX1 yX1_stretchBy yX1_stretchBy, Cond.code yX1_stretchBy cX1_stretchBy 3 none, Cond.methodLink RX1 66 yX1_bendBy, Cond.instanceMethod yX1_bendBy, Cond.selects RX1 yX1_bendBy yX1_bendBy, Cond.code yX1_bendBy cX1_bendBy 7 none, Cond.constantLong RX1 69 (-1)]
def wsX1_leadThrough : List Cond := .code yX1_leadThrough cX1_leadThrough 3 none :: ((wsX1_leadThrough_r1 ++ wsX1_leadThrough_r2) ++ wsX00 ++ wsX10)
def wsX1_above : List Cond := .code yX1_above cX1_above 2 (some .long) :: ([.fieldLink RX1 9 "LightRound$Table" "a" "J", .fieldLink RX1 15 "LightRound$Table" "b" "J", .fieldLink RX1 18 "LightRound$Table" "c" "J", .fieldLink RX1 21 "LightRound$Table" "d" "J", .fieldLink RX1 24 "LightRound$Table" "e" "J", .fieldLink RX1 27 "LightRound$Table" "f" "J"] ++ wsX10)
def wsX1_farAbove : List Cond := .code yX1_farAbove cX1_farAbove 5 (some .long) :: ([.fieldLink RX1 9 "LightRound$Table" "a" "J", .fieldLink RX1 15 "LightRound$Table" "b" "J", .fieldLink RX1 24 "LightRound$Table" "e" "J"] ++ wsX10)
def wsX1_leanAbove : List Cond := .code yX1_leanAbove cX1_leanAbove 5 (some .long) :: ([.fieldLink RX1 18 "LightRound$Table" "c" "J", .fieldLink RX1 21 "LightRound$Table" "d" "J", .fieldLink RX1 27 "LightRound$Table" "f" "J"] ++ wsX10)
def wsX1_steepestWithin : List Cond := .code yX1_steepestWithin cX1_steepestWithin 5 (some .long) :: ([.fieldLink RX1 30 "LightRound$Table" "below" "J", .fieldLink RX1 24 "LightRound$Table" "e" "J", .methodLink RX1 71 Lib.MathLoose.abs_long.x, .static Lib.MathLoose.abs_long.x, .initialized "java/lang/Math", .code Lib.MathLoose.abs_long.x Lib.MathLoose.abs_long.code 2 (some .long), .constantLong RX1 69 (-1), .fieldLink RX1 15 "LightRound$Table" "b" "J", .constantLong RX1 77 (1000)] ++ wsX10)
def wsX1_sum : List Cond := .code yX1_sum cX1_sum 1 (some .long) :: ([.fieldLink RX1 9 "LightRound$Table" "a" "J", .fieldLink RX1 21 "LightRound$Table" "d" "J"] ++ wsX10)
def wsX1_isBetween : List Cond := .code yX1_isBetween cX1_isBetween 1 (some .boolean) :: ([.constantLong RX1 83 (-2), .fieldLink RX1 30 "LightRound$Table" "below" "J", .constantLong RX1 85 (2), .methodLink RX1 79 yX1_sum, .instanceMethod yX1_sum, .selects RX1 yX1_sum yX1_sum, .initialized RX1, .code yX1_sum cX1_sum 1 (some .long), .fieldLink RX1 9 "LightRound$Table" "a" "J", .fieldLink RX1 21 "LightRound$Table" "d" "J"] ++ wsX10)
def wsX1_isPlain : List Cond := .code yX1_isPlain cX1_isPlain 3 (some .boolean) :: ([.fieldLink RX1 9 "LightRound$Table" "a" "J", .fieldLink RX1 21 "LightRound$Table" "d" "J", .fieldLink RX1 15 "LightRound$Table" "b" "J", .fieldLink RX1 18 "LightRound$Table" "c" "J"] ++ wsX10)
def wsX1_manner : List Cond := .code yX1_manner cX1_manner 1 (some .int) :: ([.fieldLink RX1 30 "LightRound$Table" "below" "J", .constantLong RX1 85 (2), .constantLong RX1 83 (-2), .methodLink RX1 87 yX1_isBetween, .instanceMethod yX1_isBetween, .selects RX1 yX1_isBetween yX1_isBetween, .initialized RX1, .code yX1_isBetween cX1_isBetween 1 (some .boolean), .methodLink RX1 79 yX1_sum, .instanceMethod yX1_sum, .selects RX1 yX1_sum yX1_sum, .code yX1_sum cX1_sum 1 (some .long), .fieldLink RX1 9 "LightRound$Table" "a" "J", .fieldLink RX1 21 "LightRound$Table" "d" "J", .methodLink RX1 91 yX1_isPlain, .instanceMethod yX1_isPlain, .selects RX1 yX1_isPlain yX1_isPlain, .code yX1_isPlain cX1_isPlain 3 (some .boolean), .fieldLink RX1 15 "LightRound$Table" "b" "J", .fieldLink RX1 18 "LightRound$Table" "c" "J"] ++ wsX10)
def wsX1_roundsToComeBack : List Cond := .code yX1_roundsToComeBack cX1_roundsToComeBack 1 (some .int) :: ([.fieldLink RX1 30 "LightRound$Table" "below" "J", .methodLink RX1 91 yX1_isPlain, .instanceMethod yX1_isPlain, .selects RX1 yX1_isPlain yX1_isPlain, .initialized RX1, .code yX1_isPlain cX1_isPlain 3 (some .boolean), .fieldLink RX1 9 "LightRound$Table" "a" "J", .fieldLink RX1 21 "LightRound$Table" "d" "J", .fieldLink RX1 15 "LightRound$Table" "b" "J", .fieldLink RX1 18 "LightRound$Table" "c" "J", .methodLink RX1 79 yX1_sum, .instanceMethod yX1_sum, .selects RX1 yX1_sum yX1_sum, .code yX1_sum cX1_sum 1 (some .long)] ++ wsX10)
def wsX2_init : List Cond := .code yX2_init cX2_init 1 none :: ([.methodLink RX2 3 objectInit, .instanceMethod objectInit, .code objectInit ⟨#[0xb1]⟩ 1 none, .classLink RX2 11 RX0, .fieldLink RX2 13 "LightRound" "rows" "[LLightRound$Row;", .fieldLink RX2 17 "LightRound" "rowCount" "I", .arrayClass .int, .fieldLink RX2 21 "LightRound" "lengths" "[I", .fieldLink RX2 25 "LightRound" "lengthCount" "I", .classLink RX2 28 RX1, .instantiable RX1 7, .initialized RX1, .fieldLink RX2 31 "LightRound" "led" "LLightRound$Table;", .fieldLink RX2 35 "LightRound" "ledToo" "LLightRound$Table;", .instanceMethod yX1_init, .code yX1_init cX1_init 1 none, .methodLink RX1 3 objectInit] ++ wsX20 ++ wsX10)
def wsX2_bench : List Cond := .code yX2_bench cX2_bench 1 (some .int) :: ([.fieldLink RX2 17 "LightRound" "rowCount" "I", .fieldLink RX2 13 "LightRound" "rows" "[LLightRound$Row;", .classLink RX2 11 RX0, .instantiable RX0 4, .initialized RX0, .methodLink RX2 38 yX0_init, .instanceMethod yX0_init, .code yX0_init cX0_init 1 none, .methodLink RX0 3 objectInit, .instanceMethod objectInit, .code objectInit ⟨#[0xb1]⟩ 1 none, .arrayClass .int, .fieldLink RX0 9 "LightRound$Row" "kinds" "[I", .fieldLink RX0 15 "LightRound$Row" "firsts" "[I", .fieldLink RX0 18 "LightRound$Row" "seconds" "[I", .fieldLink RX0 21 "LightRound$Row" "size" "I"] ++ wsX20 ++ wsX00)
def wsX2_rowAt : List Cond := .code yX2_rowAt cX2_rowAt 2 (some (.object "LightRound$Row")) :: ([.fieldLink RX2 17 "LightRound" "rowCount" "I", .fieldLink RX2 13 "LightRound" "rows" "[LLightRound$Row;"] ++ wsX20)
def wsX2_isStrength : List Cond := .code yX2_isStrength cX2_isStrength 1 (some .boolean) :: ([])
def wsX2_isPart : List Cond := .code yX2_isPart cX2_isPart 3 (some .boolean) :: ([.methodLink RX2 188 yX2_isStrength, .static yX2_isStrength, .initialized RX2, .code yX2_isStrength cX2_isStrength 1 (some .boolean)])
def wsX2_put_r1 : List Cond := [Cond.fieldLink RX2 43 "LightRound$Row" "size" "I", Cond.methodLink RX2 39 yX2_rowAt, Cond.instanceMethod yX2_rowAt, Cond.selects RX2 yX2_rowAt yX2_rowAt, Cond.initialized RX2, Cond.code yX2_rowAt cX2_rowAt 2 (some (.object "LightRound$Row")), Cond.fieldLink RX2 17 "LightRound" "rowCount" "I", Cond.fieldLink RX2 13 "LightRound" "rows" "[LLightRound$Row;", Cond.methodLink RX2 46 yX2_isPart, Cond.static yX2_isPart, Cond.code yX2_isPart cX2_isPart 3 (some .boolean), Cond.methodLink RX2 188 yX2_isStrength, Cond.static yX2_isStrength, Cond.code yX2_isStrength cX2_isStrength 1 (some .boolean), Cond.methodLink RX2 50 yX0_hasRoomFor, Cond.instanceMethod yX0_hasRoomFor, Cond.selects RX0 yX0_hasRoomFor yX0_hasRoomFor, Cond.initialized RX0, Cond.code yX0_hasRoomFor cX0_hasRoomFor 2 (some .boolean), Cond.methodLink RX0 25 yX0_bending, Cond.instanceMethod yX0_bending, Cond.selects RX0 yX0_bending yX0_bending, Cond.code yX0_bending cX0_bending 3 (some .int), Cond.fieldLink RX0 21 "LightRound$Row" "size" "I"]
def wsX2_put_r2 : List Cond := [Cond.fieldLink RX0 9 "LightRound$Row" "kinds" "[I", Cond.methodLink RX0 29 yX0_tilts, Cond.instanceMethod yX0_tilts, Cond.selects RX0 yX0_tilts yX0_tilts, Cond.code yX0_tilts cX0_tilts 3 (some .int), Cond.methodLink RX2 54 yX0_insert, Cond.instanceMethod yX0_insert, Cond.selects RX0 yX0_insert yX0_insert, Cond.code yX0_insert cX0_insert 6 none, Cond.fieldLink RX0 15 "LightRound$Row" "firsts" "[I", Cond.fieldLink RX0 18 "LightRound$Row" "seconds" "[I", Cond.methodLink RX0 32 yX0_write, Cond.instanceMethod yX0_write, Cond.selects RX0 yX0_write yX0_write, Cond.code yX0_write cX0_write 5 none]
def wsX2_put : List Cond := .code yX2_put cX2_put 7 (some .int) :: ((wsX2_put_r1 ++ wsX2_put_r2) ++ wsX00 ++ wsX20)
def wsX2_take_r1 : List Cond := [Cond.fieldLink RX2 61 "LightRound$Row" "kinds" "[I", Cond.methodLink RX2 39 yX2_rowAt, Cond.instanceMethod yX2_rowAt, Cond.selects RX2 yX2_rowAt yX2_rowAt, Cond.initialized RX2, Cond.code yX2_rowAt cX2_rowAt 2 (some (.object "LightRound$Row")), Cond.fieldLink RX2 17 "LightRound" "rowCount" "I", Cond.fieldLink RX2 13 "LightRound" "rows" "[LLightRound$Row;", Cond.methodLink RX2 58 yX0_has, Cond.instanceMethod yX0_has, Cond.selects RX0 yX0_has yX0_has, Cond.initialized RX0, Cond.code yX0_has cX0_has 2 (some .boolean), Cond.fieldLink RX0 21 "LightRound$Row" "size" "I", Cond.methodLink RX2 64 yX0_remove, Cond.instanceMethod yX0_remove, Cond.selects RX0 yX0_remove yX0_remove, Cond.code yX0_remove cX0_remove 3 none, Cond.fieldLink RX0 9 "LightRound$Row" "kinds" "[I", Cond.fieldLink RX0 15 "LightRound$Row" "firsts" "[I", Cond.fieldLink RX0 18 "LightRound$Row" "seconds" "[I", Cond.methodLink RX0 32 yX0_write, Cond.instanceMethod yX0_write, Cond.selects RX0 yX0_write yX0_write]
def wsX2_take_r2 : List Cond := [Cond.code yX0_write cX0_write 5 none]
def wsX2_take : List Cond := .code yX2_take cX2_take 5 (some .int) :: ((wsX2_take_r1 ++ wsX2_take_r2) ++ wsX00 ++ wsX20)
def wsX2_set : List Cond := .code yX2_set cX2_set 6 (some .int) :: ([.fieldLink RX2 61 "LightRound$Row" "kinds" "[I", .fieldLink RX2 68 "LightRound$Row" "firsts" "[I", .fieldLink RX2 71 "LightRound$Row" "seconds" "[I", .methodLink RX2 39 yX2_rowAt, .instanceMethod yX2_rowAt, .selects RX2 yX2_rowAt yX2_rowAt, .initialized RX2, .code yX2_rowAt cX2_rowAt 2 (some (.object "LightRound$Row")), .fieldLink RX2 17 "LightRound" "rowCount" "I", .fieldLink RX2 13 "LightRound" "rows" "[LLightRound$Row;", .methodLink RX2 58 yX0_has, .instanceMethod yX0_has, .selects RX0 yX0_has yX0_has, .initialized RX0, .code yX0_has cX0_has 2 (some .boolean), .fieldLink RX0 21 "LightRound$Row" "size" "I", .methodLink RX2 46 yX2_isPart, .static yX2_isPart, .code yX2_isPart cX2_isPart 3 (some .boolean), .methodLink RX2 188 yX2_isStrength, .static yX2_isStrength, .code yX2_isStrength cX2_isStrength 1 (some .boolean)] ++ wsX00 ++ wsX20)
def wsX2_part : List Cond := .code yX2_part cX2_part 5 (some .int) :: ([.fieldLink RX2 61 "LightRound$Row" "kinds" "[I", .fieldLink RX2 68 "LightRound$Row" "firsts" "[I", .fieldLink RX2 71 "LightRound$Row" "seconds" "[I", .methodLink RX2 39 yX2_rowAt, .instanceMethod yX2_rowAt, .selects RX2 yX2_rowAt yX2_rowAt, .initialized RX2, .code yX2_rowAt cX2_rowAt 2 (some (.object "LightRound$Row")), .fieldLink RX2 17 "LightRound" "rowCount" "I", .fieldLink RX2 13 "LightRound" "rows" "[LLightRound$Row;", .methodLink RX2 58 yX0_has, .instanceMethod yX0_has, .selects RX0 yX0_has yX0_has, .initialized RX0, .code yX0_has cX0_has 2 (some .boolean), .fieldLink RX0 21 "LightRound$Row" "size" "I"] ++ wsX00 ++ wsX20)
def wsX2_turn : List Cond := .code yX2_turn cX2_turn 3 (some .int) :: ([.fieldLink RX2 43 "LightRound$Row" "size" "I", .methodLink RX2 39 yX2_rowAt, .instanceMethod yX2_rowAt, .selects RX2 yX2_rowAt yX2_rowAt, .initialized RX2, .code yX2_rowAt cX2_rowAt 2 (some (.object "LightRound$Row")), .fieldLink RX2 17 "LightRound" "rowCount" "I", .fieldLink RX2 13 "LightRound" "rows" "[LLightRound$Row;", .methodLink RX2 74 yX0_reverse, .instanceMethod yX0_reverse, .selects RX0 yX0_reverse yX0_reverse, .initialized RX0, .code yX0_reverse cX0_reverse 6 none, .fieldLink RX0 21 "LightRound$Row" "size" "I", .fieldLink RX0 9 "LightRound$Row" "kinds" "[I", .fieldLink RX0 15 "LightRound$Row" "firsts" "[I", .fieldLink RX0 18 "LightRound$Row" "seconds" "[I", .methodLink RX0 32 yX0_write, .instanceMethod yX0_write, .selects RX0 yX0_write yX0_write, .code yX0_write cX0_write 5 none] ++ wsX00 ++ wsX20)
def wsX2_join_r1 : List Cond := [Cond.fieldLink RX2 43 "LightRound$Row" "size" "I", Cond.methodLink RX2 39 yX2_rowAt, Cond.instanceMethod yX2_rowAt, Cond.selects RX2 yX2_rowAt yX2_rowAt, Cond.initialized RX2, Cond.code yX2_rowAt cX2_rowAt 2 (some (.object "LightRound$Row")), Cond.fieldLink RX2 17 "LightRound" "rowCount" "I", Cond.fieldLink RX2 13 "LightRound" "rows" "[LLightRound$Row;", Cond.methodLink RX2 77 yX0_bending, Cond.instanceMethod yX0_bending, Cond.selects RX0 yX0_bending yX0_bending, Cond.initialized RX0, Cond.code yX0_bending cX0_bending 3 (some .int), Cond.fieldLink RX0 21 "LightRound$Row" "size" "I", Cond.fieldLink RX0 9 "LightRound$Row" "kinds" "[I", Cond.methodLink RX2 81 yX0_tilts, Cond.instanceMethod yX0_tilts, Cond.selects RX0 yX0_tilts yX0_tilts, Cond.code yX0_tilts cX0_tilts 3 (some .int), Cond.methodLink RX2 84 yX0_append, Cond.instanceMethod yX0_append, Cond.selects RX0 yX0_append yX0_append, Cond.code yX0_append cX0_append 4 none, Cond.fieldLink RX0 15 "LightRound$Row" "firsts" "[I"]
def wsX2_join_r2 : List Cond := [Cond.fieldLink RX0 18 "LightRound$Row" "seconds" "[I", Cond.methodLink RX0 32 yX0_write, Cond.instanceMethod yX0_write, Cond.selects RX0 yX0_write yX0_write, Cond.code yX0_write cX0_write 5 none]
def wsX2_join : List Cond := .code yX2_join cX2_join 5 (some .int) :: ((wsX2_join_r1 ++ wsX2_join_r2) ++ wsX00 ++ wsX20)
def wsX2_isEither : List Cond := .code yX2_isEither cX2_isEither 1 (some .boolean) :: ([])
def wsX2_commonDivisor : List Cond := .code yX2_commonDivisor cX2_commonDivisor 11 (some .long) :: ([])
def wsX2_told : List Cond := .code yX2_told cX2_told 9 (some .long) :: ([.methodLink RX2 134 Lib.MathLoose.abs_long.x, .static Lib.MathLoose.abs_long.x, .initialized "java/lang/Math", .code Lib.MathLoose.abs_long.x Lib.MathLoose.abs_long.code 2 (some .long), .constantLong RX2 91 (-9223372036854775808), .methodLink RX2 204 yX2_commonDivisor, .static yX2_commonDivisor, .initialized RX2, .code yX2_commonDivisor cX2_commonDivisor 11 (some .long)])
def wsX2_table_r1 : List Cond := [Cond.constantLong RX2 91 (-9223372036854775808), Cond.fieldLink RX2 31 "LightRound" "led" "LLightRound$Table;", Cond.fieldLink RX2 101 "LightRound$Table" "below" "J", Cond.methodLink RX2 39 yX2_rowAt, Cond.instanceMethod yX2_rowAt, Cond.selects RX2 yX2_rowAt yX2_rowAt, Cond.initialized RX2, Cond.code yX2_rowAt cX2_rowAt 2 (some (.object "LightRound$Row")), Cond.fieldLink RX2 17 "LightRound" "rowCount" "I", Cond.fieldLink RX2 13 "LightRound" "rows" "[LLightRound$Row;", Cond.methodLink RX2 88 yX2_isEither, Cond.static yX2_isEither, Cond.code yX2_isEither cX2_isEither 1 (some .boolean), Cond.methodLink RX2 93 yX1_leadThrough, Cond.instanceMethod yX1_leadThrough, Cond.selects RX1 yX1_leadThrough yX1_leadThrough, Cond.initialized RX1, Cond.code yX1_leadThrough cX1_leadThrough 3 none, Cond.fieldLink RX1 54 "LightRound$Row" "size" "I", Cond.methodLink RX1 58 yX1_lead, Cond.instanceMethod yX1_lead, Cond.selects RX1 yX1_lead yX1_lead, Cond.code yX1_lead cX1_lead 7 none, Cond.fieldLink RX1 42 "LightRound$Row" "kinds" "[I"]
def wsX2_table_r2 : List Cond := [Cond.methodLink RX1 33 yX1_clear, Cond.instanceMethod yX1_clear, Cond.selects RX1 yX1_clear yX1_clear, Cond.code yX1_clear cX1_clear 1 none, Cond.fieldLink RX1 9 "LightRound$Table" "a" "J", Cond.fieldLink RX1 15 "LightRound$Table" "b" "J", Cond.fieldLink RX1 18 "LightRound$Table" "c" "J", Cond.fieldLink RX1 21 "LightRound$Table" "d" "J", Cond.fieldLink RX1 24 "LightRound$Table" "e" "J", Cond.fieldLink RX1 27 "LightRound$Table" "f" "J", Cond.fieldLink RX1 30 "LightRound$Table" "below" "J", Cond.methodLink RX1 36 yX0_has, Cond.instanceMethod yX0_has, Cond.selects RX0 yX0_has yX0_has, Cond.initialized RX0, Cond.code yX0_has cX0_has 2 (some .boolean), Cond.fieldLink RX0 21 "LightRound$Row" "size" "I", Cond.methodLink RX1 46 yX0_strength, Cond.instanceMethod yX0_strength, Cond.selects RX0 yX0_strength yX0_strength, Cond.code yX0_strength cX0_strength 3 (some .int), Cond.fieldLink RX0 9 "LightRound$Row" "kinds" "[I", Cond.fieldLink RX0 18 "LightRound$Row" "seconds" "[I", Cond.fieldLink RX0 15 "LightRound$Row" "firsts" "[I"]
def wsX2_table_r3 : List Cond := [Cond.methodLink RX1 50 yX1_go, Cond.instanceMethod yX1_go, Cond.selects RX1 yX1_go yX1_go, Cond.code yX1_go cX1_go 3 none, Cond.methodLink RX1 62 yX1_stretchBy, Cond.instanceMethod yX1_stretchBy, Cond.selects RX1 yX1_stretchBy yX1_stretchBy, Cond.code yX1_stretchBy cX1_stretchBy 3 none, Cond.methodLink RX1 66 yX1_bendBy, Cond.instanceMethod yX1_bendBy, Cond.selects RX1 yX1_bendBy yX1_bendBy, Cond.code yX1_bendBy cX1_bendBy 7 none, Cond.constantLong RX1 69 (-1), Cond.methodLink RX2 97 yX1_above, Cond.instanceMethod yX1_above, Cond.selects RX1 yX1_above yX1_above, Cond.code yX1_above cX1_above 2 (some .long), Cond.methodLink RX2 105 yX2_told, Cond.static yX2_told, Cond.code yX2_told cX2_told 9 (some .long), Cond.methodLink RX2 134 Lib.MathLoose.abs_long.x, Cond.static Lib.MathLoose.abs_long.x, Cond.initialized "java/lang/Math", Cond.code Lib.MathLoose.abs_long.x Lib.MathLoose.abs_long.code 2 (some .long)]
def wsX2_table_r4 : List Cond := [Cond.methodLink RX2 204 yX2_commonDivisor, Cond.static yX2_commonDivisor, Cond.code yX2_commonDivisor cX2_commonDivisor 11 (some .long)]
def wsX2_table : List Cond := .code yX2_table cX2_table 6 (some .long) :: ((wsX2_table_r1 ++ (wsX2_table_r2 ++ (wsX2_table_r3 ++ wsX2_table_r4))) ++ wsX20 ++ wsX10 ++ wsX00)
def wsX2_isNear : List Cond := .code yX2_isNear cX2_isNear 1 (some .boolean) :: ([])
def wsX2_ray_r1 : List Cond := [Cond.constantLong RX2 91 (-9223372036854775808), Cond.fieldLink RX2 43 "LightRound$Row" "size" "I", Cond.fieldLink RX2 31 "LightRound" "led" "LLightRound$Table;", Cond.fieldLink RX2 101 "LightRound$Table" "below" "J", Cond.methodLink RX2 39 yX2_rowAt, Cond.instanceMethod yX2_rowAt, Cond.selects RX2 yX2_rowAt yX2_rowAt, Cond.initialized RX2, Cond.code yX2_rowAt cX2_rowAt 2 (some (.object "LightRound$Row")), Cond.fieldLink RX2 17 "LightRound" "rowCount" "I", Cond.fieldLink RX2 13 "LightRound" "rows" "[LLightRound$Row;", Cond.methodLink RX2 88 yX2_isEither, Cond.static yX2_isEither, Cond.code yX2_isEither cX2_isEither 1 (some .boolean), Cond.methodLink RX2 109 yX2_isNear, Cond.static yX2_isNear, Cond.code yX2_isNear cX2_isNear 1 (some .boolean), Cond.methodLink RX2 112 yX1_lead, Cond.instanceMethod yX1_lead, Cond.selects RX1 yX1_lead yX1_lead, Cond.initialized RX1, Cond.code yX1_lead cX1_lead 7 none, Cond.fieldLink RX1 42 "LightRound$Row" "kinds" "[I", Cond.fieldLink RX1 54 "LightRound$Row" "size" "I"]
def wsX2_ray_r2 : List Cond := [Cond.methodLink RX1 33 yX1_clear, Cond.instanceMethod yX1_clear, Cond.selects RX1 yX1_clear yX1_clear, Cond.code yX1_clear cX1_clear 1 none, Cond.fieldLink RX1 9 "LightRound$Table" "a" "J", Cond.fieldLink RX1 15 "LightRound$Table" "b" "J", Cond.fieldLink RX1 18 "LightRound$Table" "c" "J", Cond.fieldLink RX1 21 "LightRound$Table" "d" "J", Cond.fieldLink RX1 24 "LightRound$Table" "e" "J", Cond.fieldLink RX1 27 "LightRound$Table" "f" "J", Cond.fieldLink RX1 30 "LightRound$Table" "below" "J", Cond.methodLink RX1 36 yX0_has, Cond.instanceMethod yX0_has, Cond.selects RX0 yX0_has yX0_has, Cond.initialized RX0, Cond.code yX0_has cX0_has 2 (some .boolean), Cond.fieldLink RX0 21 "LightRound$Row" "size" "I", Cond.methodLink RX1 46 yX0_strength, Cond.instanceMethod yX0_strength, Cond.selects RX0 yX0_strength yX0_strength, Cond.code yX0_strength cX0_strength 3 (some .int), Cond.fieldLink RX0 9 "LightRound$Row" "kinds" "[I", Cond.fieldLink RX0 18 "LightRound$Row" "seconds" "[I", Cond.fieldLink RX0 15 "LightRound$Row" "firsts" "[I"]
def wsX2_ray_r3 : List Cond := [Cond.methodLink RX1 50 yX1_go, Cond.instanceMethod yX1_go, Cond.selects RX1 yX1_go yX1_go, Cond.code yX1_go cX1_go 3 none, Cond.methodLink RX1 62 yX1_stretchBy, Cond.instanceMethod yX1_stretchBy, Cond.selects RX1 yX1_stretchBy yX1_stretchBy, Cond.code yX1_stretchBy cX1_stretchBy 3 none, Cond.methodLink RX1 66 yX1_bendBy, Cond.instanceMethod yX1_bendBy, Cond.selects RX1 yX1_bendBy yX1_bendBy, Cond.code yX1_bendBy cX1_bendBy 7 none, Cond.constantLong RX1 69 (-1), Cond.methodLink RX2 116 yX1_farAbove, Cond.instanceMethod yX1_farAbove, Cond.selects RX1 yX1_farAbove yX1_farAbove, Cond.code yX1_farAbove cX1_farAbove 5 (some .long), Cond.methodLink RX2 120 yX1_leanAbove, Cond.instanceMethod yX1_leanAbove, Cond.selects RX1 yX1_leanAbove yX1_leanAbove, Cond.code yX1_leanAbove cX1_leanAbove 5 (some .long), Cond.methodLink RX2 105 yX2_told, Cond.static yX2_told, Cond.code yX2_told cX2_told 9 (some .long)]
def wsX2_ray_r4 : List Cond := [Cond.methodLink RX2 134 Lib.MathLoose.abs_long.x, Cond.static Lib.MathLoose.abs_long.x, Cond.initialized "java/lang/Math", Cond.code Lib.MathLoose.abs_long.x Lib.MathLoose.abs_long.code 2 (some .long), Cond.methodLink RX2 204 yX2_commonDivisor, Cond.static yX2_commonDivisor, Cond.code yX2_commonDivisor cX2_commonDivisor 11 (some .long)]
def wsX2_ray : List Cond := .code yX2_ray cX2_ray 11 (some .long) :: ((wsX2_ray_r1 ++ (wsX2_ray_r2 ++ (wsX2_ray_r3 ++ wsX2_ray_r4))) ++ wsX00 ++ wsX20 ++ wsX10)
def wsX2_stops_r1 : List Cond := [Cond.fieldLink RX2 31 "LightRound" "led" "LLightRound$Table;", Cond.fieldLink RX2 43 "LightRound$Row" "size" "I", Cond.fieldLink RX2 61 "LightRound$Row" "kinds" "[I", Cond.methodLink RX2 134 Lib.MathLoose.abs_long.x, Cond.static Lib.MathLoose.abs_long.x, Cond.initialized "java/lang/Math", Cond.code Lib.MathLoose.abs_long.x Lib.MathLoose.abs_long.code 2 (some .long), Cond.fieldLink RX2 68 "LightRound$Row" "firsts" "[I", Cond.fieldLink RX2 101 "LightRound$Table" "below" "J", Cond.methodLink RX2 39 yX2_rowAt, Cond.instanceMethod yX2_rowAt, Cond.selects RX2 yX2_rowAt yX2_rowAt, Cond.initialized RX2, Cond.code yX2_rowAt cX2_rowAt 2 (some (.object "LightRound$Row")), Cond.fieldLink RX2 17 "LightRound" "rowCount" "I", Cond.fieldLink RX2 13 "LightRound" "rows" "[LLightRound$Row;", Cond.methodLink RX2 88 yX2_isEither, Cond.static yX2_isEither, Cond.code yX2_isEither cX2_isEither 1 (some .boolean), Cond.methodLink RX2 109 yX2_isNear, Cond.static yX2_isNear, Cond.code yX2_isNear cX2_isNear 1 (some .boolean), Cond.methodLink RX2 123 yX1_clear, Cond.instanceMethod yX1_clear]
def wsX2_stops_r2 : List Cond := [Cond.selects RX1 yX1_clear yX1_clear, Cond.initialized RX1, Cond.code yX1_clear cX1_clear 1 none, Cond.fieldLink RX1 9 "LightRound$Table" "a" "J", Cond.fieldLink RX1 15 "LightRound$Table" "b" "J", Cond.fieldLink RX1 18 "LightRound$Table" "c" "J", Cond.fieldLink RX1 21 "LightRound$Table" "d" "J", Cond.fieldLink RX1 24 "LightRound$Table" "e" "J", Cond.fieldLink RX1 27 "LightRound$Table" "f" "J", Cond.fieldLink RX1 30 "LightRound$Table" "below" "J", Cond.methodLink RX2 126 yX0_strength, Cond.instanceMethod yX0_strength, Cond.selects RX0 yX0_strength yX0_strength, Cond.initialized RX0, Cond.code yX0_strength cX0_strength 3 (some .int), Cond.fieldLink RX0 9 "LightRound$Row" "kinds" "[I", Cond.fieldLink RX0 18 "LightRound$Row" "seconds" "[I", Cond.fieldLink RX0 15 "LightRound$Row" "firsts" "[I", Cond.methodLink RX2 130 yX1_go, Cond.instanceMethod yX1_go, Cond.selects RX1 yX1_go yX1_go, Cond.code yX1_go cX1_go 3 none, Cond.methodLink RX1 62 yX1_stretchBy, Cond.instanceMethod yX1_stretchBy]
def wsX2_stops_r3 : List Cond := [Cond.selects RX1 yX1_stretchBy yX1_stretchBy, Cond.code yX1_stretchBy cX1_stretchBy 3 none, Cond.methodLink RX1 66 yX1_bendBy, Cond.instanceMethod yX1_bendBy, Cond.selects RX1 yX1_bendBy yX1_bendBy, Cond.code yX1_bendBy cX1_bendBy 7 none, Cond.constantLong RX1 69 (-1), Cond.methodLink RX2 116 yX1_farAbove, Cond.instanceMethod yX1_farAbove, Cond.selects RX1 yX1_farAbove yX1_farAbove, Cond.code yX1_farAbove cX1_farAbove 5 (some .long)]
def wsX2_stops : List Cond := .code yX2_stops cX2_stops 7 (some .int) :: ((wsX2_stops_r1 ++ (wsX2_stops_r2 ++ wsX2_stops_r3)) ++ wsX20 ++ wsX00 ++ wsX10)
def wsX2_full_r1 : List Cond := [Cond.constantLong RX2 140 (1000), Cond.fieldLink RX2 31 "LightRound" "led" "LLightRound$Table;", Cond.fieldLink RX2 43 "LightRound$Row" "size" "I", Cond.fieldLink RX2 61 "LightRound$Row" "kinds" "[I", Cond.fieldLink RX2 68 "LightRound$Row" "firsts" "[I", Cond.methodLink RX2 145 Lib.MathLoose.min_long.x, Cond.static Lib.MathLoose.min_long.x, Cond.initialized "java/lang/Math", Cond.code Lib.MathLoose.min_long.x Lib.MathLoose.min_long.code 4 (some .long), Cond.methodLink RX2 39 yX2_rowAt, Cond.instanceMethod yX2_rowAt, Cond.selects RX2 yX2_rowAt yX2_rowAt, Cond.initialized RX2, Cond.code yX2_rowAt cX2_rowAt 2 (some (.object "LightRound$Row")), Cond.fieldLink RX2 17 "LightRound" "rowCount" "I", Cond.fieldLink RX2 13 "LightRound" "rows" "[LLightRound$Row;", Cond.methodLink RX2 88 yX2_isEither, Cond.static yX2_isEither, Cond.code yX2_isEither cX2_isEither 1 (some .boolean), Cond.methodLink RX2 123 yX1_clear, Cond.instanceMethod yX1_clear, Cond.selects RX1 yX1_clear yX1_clear, Cond.initialized RX1, Cond.code yX1_clear cX1_clear 1 none]
def wsX2_full_r2 : List Cond := [Cond.fieldLink RX1 9 "LightRound$Table" "a" "J", Cond.fieldLink RX1 15 "LightRound$Table" "b" "J", Cond.fieldLink RX1 18 "LightRound$Table" "c" "J", Cond.fieldLink RX1 21 "LightRound$Table" "d" "J", Cond.fieldLink RX1 24 "LightRound$Table" "e" "J", Cond.fieldLink RX1 27 "LightRound$Table" "f" "J", Cond.fieldLink RX1 30 "LightRound$Table" "below" "J", Cond.methodLink RX2 126 yX0_strength, Cond.instanceMethod yX0_strength, Cond.selects RX0 yX0_strength yX0_strength, Cond.initialized RX0, Cond.code yX0_strength cX0_strength 3 (some .int), Cond.fieldLink RX0 9 "LightRound$Row" "kinds" "[I", Cond.fieldLink RX0 18 "LightRound$Row" "seconds" "[I", Cond.fieldLink RX0 15 "LightRound$Row" "firsts" "[I", Cond.methodLink RX2 130 yX1_go, Cond.instanceMethod yX1_go, Cond.selects RX1 yX1_go yX1_go, Cond.code yX1_go cX1_go 3 none, Cond.methodLink RX1 62 yX1_stretchBy, Cond.instanceMethod yX1_stretchBy, Cond.selects RX1 yX1_stretchBy yX1_stretchBy, Cond.code yX1_stretchBy cX1_stretchBy 3 none, Cond.methodLink RX1 66 yX1_bendBy]
def wsX2_full_r3 : List Cond := [Cond.instanceMethod yX1_bendBy, Cond.selects RX1 yX1_bendBy yX1_bendBy, Cond.code yX1_bendBy cX1_bendBy 7 none, Cond.constantLong RX1 69 (-1), Cond.methodLink RX2 142 yX1_steepestWithin, Cond.instanceMethod yX1_steepestWithin, Cond.selects RX1 yX1_steepestWithin yX1_steepestWithin, Cond.code yX1_steepestWithin cX1_steepestWithin 5 (some .long), Cond.methodLink RX1 71 Lib.MathLoose.abs_long.x, Cond.static Lib.MathLoose.abs_long.x, Cond.code Lib.MathLoose.abs_long.x Lib.MathLoose.abs_long.code 2 (some .long), Cond.constantLong RX1 77 (1000)]
def wsX2_full : List Cond := .code yX2_full cX2_full 7 (some .int) :: ((wsX2_full_r1 ++ (wsX2_full_r2 ++ wsX2_full_r3)) ++ wsX20 ++ wsX00 ++ wsX10)
def wsX2_image_r1 : List Cond := [Cond.constantLong RX2 91 (-9223372036854775808), Cond.fieldLink RX2 31 "LightRound" "led" "LLightRound$Table;", Cond.fieldLink RX2 148 "LightRound$Table" "b" "J", Cond.fieldLink RX2 151 "LightRound$Table" "d" "J", Cond.fieldLink RX2 101 "LightRound$Table" "below" "J", Cond.methodLink RX2 39 yX2_rowAt, Cond.instanceMethod yX2_rowAt, Cond.selects RX2 yX2_rowAt yX2_rowAt, Cond.initialized RX2, Cond.code yX2_rowAt cX2_rowAt 2 (some (.object "LightRound$Row")), Cond.fieldLink RX2 17 "LightRound" "rowCount" "I", Cond.fieldLink RX2 13 "LightRound" "rows" "[LLightRound$Row;", Cond.methodLink RX2 88 yX2_isEither, Cond.static yX2_isEither, Cond.code yX2_isEither cX2_isEither 1 (some .boolean), Cond.methodLink RX2 93 yX1_leadThrough, Cond.instanceMethod yX1_leadThrough, Cond.selects RX1 yX1_leadThrough yX1_leadThrough, Cond.initialized RX1, Cond.code yX1_leadThrough cX1_leadThrough 3 none, Cond.fieldLink RX1 54 "LightRound$Row" "size" "I", Cond.methodLink RX1 58 yX1_lead, Cond.instanceMethod yX1_lead, Cond.selects RX1 yX1_lead yX1_lead]
def wsX2_image_r2 : List Cond := [Cond.code yX1_lead cX1_lead 7 none, Cond.fieldLink RX1 42 "LightRound$Row" "kinds" "[I", Cond.methodLink RX1 33 yX1_clear, Cond.instanceMethod yX1_clear, Cond.selects RX1 yX1_clear yX1_clear, Cond.code yX1_clear cX1_clear 1 none, Cond.fieldLink RX1 9 "LightRound$Table" "a" "J", Cond.fieldLink RX1 15 "LightRound$Table" "b" "J", Cond.fieldLink RX1 18 "LightRound$Table" "c" "J", Cond.fieldLink RX1 21 "LightRound$Table" "d" "J", Cond.fieldLink RX1 24 "LightRound$Table" "e" "J", Cond.fieldLink RX1 27 "LightRound$Table" "f" "J", Cond.fieldLink RX1 30 "LightRound$Table" "below" "J", Cond.methodLink RX1 36 yX0_has, Cond.instanceMethod yX0_has, Cond.selects RX0 yX0_has yX0_has, Cond.initialized RX0, Cond.code yX0_has cX0_has 2 (some .boolean), Cond.fieldLink RX0 21 "LightRound$Row" "size" "I", Cond.methodLink RX1 46 yX0_strength, Cond.instanceMethod yX0_strength, Cond.selects RX0 yX0_strength yX0_strength, Cond.code yX0_strength cX0_strength 3 (some .int), Cond.fieldLink RX0 9 "LightRound$Row" "kinds" "[I"]
def wsX2_image_r3 : List Cond := [Cond.fieldLink RX0 18 "LightRound$Row" "seconds" "[I", Cond.fieldLink RX0 15 "LightRound$Row" "firsts" "[I", Cond.methodLink RX1 50 yX1_go, Cond.instanceMethod yX1_go, Cond.selects RX1 yX1_go yX1_go, Cond.code yX1_go cX1_go 3 none, Cond.methodLink RX1 62 yX1_stretchBy, Cond.instanceMethod yX1_stretchBy, Cond.selects RX1 yX1_stretchBy yX1_stretchBy, Cond.code yX1_stretchBy cX1_stretchBy 3 none, Cond.methodLink RX1 66 yX1_bendBy, Cond.instanceMethod yX1_bendBy, Cond.selects RX1 yX1_bendBy yX1_bendBy, Cond.code yX1_bendBy cX1_bendBy 7 none, Cond.constantLong RX1 69 (-1), Cond.methodLink RX2 105 yX2_told, Cond.static yX2_told, Cond.code yX2_told cX2_told 9 (some .long), Cond.methodLink RX2 134 Lib.MathLoose.abs_long.x, Cond.static Lib.MathLoose.abs_long.x, Cond.initialized "java/lang/Math", Cond.code Lib.MathLoose.abs_long.x Lib.MathLoose.abs_long.code 2 (some .long), Cond.methodLink RX2 204 yX2_commonDivisor, Cond.static yX2_commonDivisor]
def wsX2_image_r4 : List Cond := [Cond.code yX2_commonDivisor cX2_commonDivisor 11 (some .long)]
def wsX2_image : List Cond := .code yX2_image cX2_image 6 (some .long) :: ((wsX2_image_r1 ++ (wsX2_image_r2 ++ (wsX2_image_r3 ++ wsX2_image_r4))) ++ wsX20 ++ wsX10 ++ wsX00)
def wsX2_same_r1 : List Cond := [Cond.fieldLink RX2 31 "LightRound" "led" "LLightRound$Table;", Cond.fieldLink RX2 35 "LightRound" "ledToo" "LLightRound$Table;", Cond.fieldLink RX2 101 "LightRound$Table" "below" "J", Cond.methodLink RX2 39 yX2_rowAt, Cond.instanceMethod yX2_rowAt, Cond.selects RX2 yX2_rowAt yX2_rowAt, Cond.initialized RX2, Cond.code yX2_rowAt cX2_rowAt 2 (some (.object "LightRound$Row")), Cond.fieldLink RX2 17 "LightRound" "rowCount" "I", Cond.fieldLink RX2 13 "LightRound" "rows" "[LLightRound$Row;", Cond.methodLink RX2 88 yX2_isEither, Cond.static yX2_isEither, Cond.code yX2_isEither cX2_isEither 1 (some .boolean), Cond.methodLink RX2 93 yX1_leadThrough, Cond.instanceMethod yX1_leadThrough, Cond.selects RX1 yX1_leadThrough yX1_leadThrough, Cond.initialized RX1, Cond.code yX1_leadThrough cX1_leadThrough 3 none, Cond.fieldLink RX1 54 "LightRound$Row" "size" "I", Cond.methodLink RX1 58 yX1_lead, Cond.instanceMethod yX1_lead, Cond.selects RX1 yX1_lead yX1_lead, Cond.code yX1_lead cX1_lead 7 none, Cond.fieldLink RX1 42 "LightRound$Row" "kinds" "[I"]
def wsX2_same_r2 : List Cond := [Cond.methodLink RX1 33 yX1_clear, Cond.instanceMethod yX1_clear, Cond.selects RX1 yX1_clear yX1_clear, Cond.code yX1_clear cX1_clear 1 none, Cond.fieldLink RX1 9 "LightRound$Table" "a" "J", Cond.fieldLink RX1 15 "LightRound$Table" "b" "J", Cond.fieldLink RX1 18 "LightRound$Table" "c" "J", Cond.fieldLink RX1 21 "LightRound$Table" "d" "J", Cond.fieldLink RX1 24 "LightRound$Table" "e" "J", Cond.fieldLink RX1 27 "LightRound$Table" "f" "J", Cond.fieldLink RX1 30 "LightRound$Table" "below" "J", Cond.methodLink RX1 36 yX0_has, Cond.instanceMethod yX0_has, Cond.selects RX0 yX0_has yX0_has, Cond.initialized RX0, Cond.code yX0_has cX0_has 2 (some .boolean), Cond.fieldLink RX0 21 "LightRound$Row" "size" "I", Cond.methodLink RX1 46 yX0_strength, Cond.instanceMethod yX0_strength, Cond.selects RX0 yX0_strength yX0_strength, Cond.code yX0_strength cX0_strength 3 (some .int), Cond.fieldLink RX0 9 "LightRound$Row" "kinds" "[I", Cond.fieldLink RX0 18 "LightRound$Row" "seconds" "[I", Cond.fieldLink RX0 15 "LightRound$Row" "firsts" "[I"]
def wsX2_same_r3 : List Cond := [Cond.methodLink RX1 50 yX1_go, Cond.instanceMethod yX1_go, Cond.selects RX1 yX1_go yX1_go, Cond.code yX1_go cX1_go 3 none, Cond.methodLink RX1 62 yX1_stretchBy, Cond.instanceMethod yX1_stretchBy, Cond.selects RX1 yX1_stretchBy yX1_stretchBy, Cond.code yX1_stretchBy cX1_stretchBy 3 none, Cond.methodLink RX1 66 yX1_bendBy, Cond.instanceMethod yX1_bendBy, Cond.selects RX1 yX1_bendBy yX1_bendBy, Cond.code yX1_bendBy cX1_bendBy 7 none, Cond.constantLong RX1 69 (-1), Cond.methodLink RX2 97 yX1_above, Cond.instanceMethod yX1_above, Cond.selects RX1 yX1_above yX1_above, Cond.code yX1_above cX1_above 2 (some .long)]
def wsX2_same : List Cond := .code yX2_same cX2_same 7 (some .int) :: ((wsX2_same_r1 ++ (wsX2_same_r2 ++ wsX2_same_r3)) ++ wsX20 ++ wsX10 ++ wsX00)
def wsX2_round_r1 : List Cond := [Cond.fieldLink RX2 31 "LightRound" "led" "LLightRound$Table;", Cond.methodLink RX2 39 yX2_rowAt, Cond.instanceMethod yX2_rowAt, Cond.selects RX2 yX2_rowAt yX2_rowAt, Cond.initialized RX2, Cond.code yX2_rowAt cX2_rowAt 2 (some (.object "LightRound$Row")), Cond.fieldLink RX2 17 "LightRound" "rowCount" "I", Cond.fieldLink RX2 13 "LightRound" "rows" "[LLightRound$Row;", Cond.methodLink RX2 88 yX2_isEither, Cond.static yX2_isEither, Cond.code yX2_isEither cX2_isEither 1 (some .boolean), Cond.methodLink RX2 93 yX1_leadThrough, Cond.instanceMethod yX1_leadThrough, Cond.selects RX1 yX1_leadThrough yX1_leadThrough, Cond.initialized RX1, Cond.code yX1_leadThrough cX1_leadThrough 3 none, Cond.fieldLink RX1 54 "LightRound$Row" "size" "I", Cond.methodLink RX1 58 yX1_lead, Cond.instanceMethod yX1_lead, Cond.selects RX1 yX1_lead yX1_lead, Cond.code yX1_lead cX1_lead 7 none, Cond.fieldLink RX1 42 "LightRound$Row" "kinds" "[I", Cond.methodLink RX1 33 yX1_clear, Cond.instanceMethod yX1_clear]
def wsX2_round_r2 : List Cond := [Cond.selects RX1 yX1_clear yX1_clear, Cond.code yX1_clear cX1_clear 1 none, Cond.fieldLink RX1 9 "LightRound$Table" "a" "J", Cond.fieldLink RX1 15 "LightRound$Table" "b" "J", Cond.fieldLink RX1 18 "LightRound$Table" "c" "J", Cond.fieldLink RX1 21 "LightRound$Table" "d" "J", Cond.fieldLink RX1 24 "LightRound$Table" "e" "J", Cond.fieldLink RX1 27 "LightRound$Table" "f" "J", Cond.fieldLink RX1 30 "LightRound$Table" "below" "J", Cond.methodLink RX1 36 yX0_has, Cond.instanceMethod yX0_has, Cond.selects RX0 yX0_has yX0_has, Cond.initialized RX0, Cond.code yX0_has cX0_has 2 (some .boolean), Cond.fieldLink RX0 21 "LightRound$Row" "size" "I", Cond.methodLink RX1 46 yX0_strength, Cond.instanceMethod yX0_strength, Cond.selects RX0 yX0_strength yX0_strength, Cond.code yX0_strength cX0_strength 3 (some .int), Cond.fieldLink RX0 9 "LightRound$Row" "kinds" "[I", Cond.fieldLink RX0 18 "LightRound$Row" "seconds" "[I", Cond.fieldLink RX0 15 "LightRound$Row" "firsts" "[I", Cond.methodLink RX1 50 yX1_go, Cond.instanceMethod yX1_go]
def wsX2_round_r3 : List Cond := [Cond.selects RX1 yX1_go yX1_go, Cond.code yX1_go cX1_go 3 none, Cond.methodLink RX1 62 yX1_stretchBy, Cond.instanceMethod yX1_stretchBy, Cond.selects RX1 yX1_stretchBy yX1_stretchBy, Cond.code yX1_stretchBy cX1_stretchBy 3 none, Cond.methodLink RX1 66 yX1_bendBy, Cond.instanceMethod yX1_bendBy, Cond.selects RX1 yX1_bendBy yX1_bendBy, Cond.code yX1_bendBy cX1_bendBy 7 none, Cond.constantLong RX1 69 (-1), Cond.methodLink RX2 154 yX1_manner, Cond.instanceMethod yX1_manner, Cond.selects RX1 yX1_manner yX1_manner, Cond.code yX1_manner cX1_manner 1 (some .int), Cond.constantLong RX1 85 (2), Cond.constantLong RX1 83 (-2), Cond.methodLink RX1 87 yX1_isBetween, Cond.instanceMethod yX1_isBetween, Cond.selects RX1 yX1_isBetween yX1_isBetween, Cond.code yX1_isBetween cX1_isBetween 1 (some .boolean), Cond.methodLink RX1 79 yX1_sum, Cond.instanceMethod yX1_sum, Cond.selects RX1 yX1_sum yX1_sum]
def wsX2_round_r4 : List Cond := [Cond.code yX1_sum cX1_sum 1 (some .long), Cond.methodLink RX1 91 yX1_isPlain, Cond.instanceMethod yX1_isPlain, Cond.selects RX1 yX1_isPlain yX1_isPlain, Cond.code yX1_isPlain cX1_isPlain 3 (some .boolean)]
def wsX2_round : List Cond := .code yX2_round cX2_round 4 (some .int) :: ((wsX2_round_r1 ++ (wsX2_round_r2 ++ (wsX2_round_r3 ++ wsX2_round_r4))) ++ wsX20 ++ wsX00 ++ wsX10)
def wsX2_trace_r1 : List Cond := [Cond.constantLong RX2 91 (-9223372036854775808), Cond.fieldLink RX2 31 "LightRound" "led" "LLightRound$Table;", Cond.fieldLink RX2 101 "LightRound$Table" "below" "J", Cond.methodLink RX2 39 yX2_rowAt, Cond.instanceMethod yX2_rowAt, Cond.selects RX2 yX2_rowAt yX2_rowAt, Cond.initialized RX2, Cond.code yX2_rowAt cX2_rowAt 2 (some (.object "LightRound$Row")), Cond.fieldLink RX2 17 "LightRound" "rowCount" "I", Cond.fieldLink RX2 13 "LightRound" "rows" "[LLightRound$Row;", Cond.methodLink RX2 88 yX2_isEither, Cond.static yX2_isEither, Cond.code yX2_isEither cX2_isEither 1 (some .boolean), Cond.methodLink RX2 93 yX1_leadThrough, Cond.instanceMethod yX1_leadThrough, Cond.selects RX1 yX1_leadThrough yX1_leadThrough, Cond.initialized RX1, Cond.code yX1_leadThrough cX1_leadThrough 3 none, Cond.fieldLink RX1 54 "LightRound$Row" "size" "I", Cond.methodLink RX1 58 yX1_lead, Cond.instanceMethod yX1_lead, Cond.selects RX1 yX1_lead yX1_lead, Cond.code yX1_lead cX1_lead 7 none, Cond.fieldLink RX1 42 "LightRound$Row" "kinds" "[I"]
def wsX2_trace_r2 : List Cond := [Cond.methodLink RX1 33 yX1_clear, Cond.instanceMethod yX1_clear, Cond.selects RX1 yX1_clear yX1_clear, Cond.code yX1_clear cX1_clear 1 none, Cond.fieldLink RX1 9 "LightRound$Table" "a" "J", Cond.fieldLink RX1 15 "LightRound$Table" "b" "J", Cond.fieldLink RX1 18 "LightRound$Table" "c" "J", Cond.fieldLink RX1 21 "LightRound$Table" "d" "J", Cond.fieldLink RX1 24 "LightRound$Table" "e" "J", Cond.fieldLink RX1 27 "LightRound$Table" "f" "J", Cond.fieldLink RX1 30 "LightRound$Table" "below" "J", Cond.methodLink RX1 36 yX0_has, Cond.instanceMethod yX0_has, Cond.selects RX0 yX0_has yX0_has, Cond.initialized RX0, Cond.code yX0_has cX0_has 2 (some .boolean), Cond.fieldLink RX0 21 "LightRound$Row" "size" "I", Cond.methodLink RX1 46 yX0_strength, Cond.instanceMethod yX0_strength, Cond.selects RX0 yX0_strength yX0_strength, Cond.code yX0_strength cX0_strength 3 (some .int), Cond.fieldLink RX0 9 "LightRound$Row" "kinds" "[I", Cond.fieldLink RX0 18 "LightRound$Row" "seconds" "[I", Cond.fieldLink RX0 15 "LightRound$Row" "firsts" "[I"]
def wsX2_trace_r3 : List Cond := [Cond.methodLink RX1 50 yX1_go, Cond.instanceMethod yX1_go, Cond.selects RX1 yX1_go yX1_go, Cond.code yX1_go cX1_go 3 none, Cond.methodLink RX1 62 yX1_stretchBy, Cond.instanceMethod yX1_stretchBy, Cond.selects RX1 yX1_stretchBy yX1_stretchBy, Cond.code yX1_stretchBy cX1_stretchBy 3 none, Cond.methodLink RX1 66 yX1_bendBy, Cond.instanceMethod yX1_bendBy, Cond.selects RX1 yX1_bendBy yX1_bendBy, Cond.code yX1_bendBy cX1_bendBy 7 none, Cond.constantLong RX1 69 (-1), Cond.methodLink RX2 157 yX1_sum, Cond.instanceMethod yX1_sum, Cond.selects RX1 yX1_sum yX1_sum, Cond.code yX1_sum cX1_sum 1 (some .long), Cond.methodLink RX2 105 yX2_told, Cond.static yX2_told, Cond.code yX2_told cX2_told 9 (some .long), Cond.methodLink RX2 134 Lib.MathLoose.abs_long.x, Cond.static Lib.MathLoose.abs_long.x, Cond.initialized "java/lang/Math", Cond.code Lib.MathLoose.abs_long.x Lib.MathLoose.abs_long.code 2 (some .long)]
def wsX2_trace_r4 : List Cond := [Cond.methodLink RX2 204 yX2_commonDivisor, Cond.static yX2_commonDivisor, Cond.code yX2_commonDivisor cX2_commonDivisor 11 (some .long)]
def wsX2_trace : List Cond := .code yX2_trace cX2_trace 5 (some .long) :: ((wsX2_trace_r1 ++ (wsX2_trace_r2 ++ (wsX2_trace_r3 ++ wsX2_trace_r4))) ++ wsX20 ++ wsX10 ++ wsX00)
def wsX2_turns_r1 : List Cond := [Cond.fieldLink RX2 31 "LightRound" "led" "LLightRound$Table;", Cond.methodLink RX2 39 yX2_rowAt, Cond.instanceMethod yX2_rowAt, Cond.selects RX2 yX2_rowAt yX2_rowAt, Cond.initialized RX2, Cond.code yX2_rowAt cX2_rowAt 2 (some (.object "LightRound$Row")), Cond.fieldLink RX2 17 "LightRound" "rowCount" "I", Cond.fieldLink RX2 13 "LightRound" "rows" "[LLightRound$Row;", Cond.methodLink RX2 88 yX2_isEither, Cond.static yX2_isEither, Cond.code yX2_isEither cX2_isEither 1 (some .boolean), Cond.methodLink RX2 93 yX1_leadThrough, Cond.instanceMethod yX1_leadThrough, Cond.selects RX1 yX1_leadThrough yX1_leadThrough, Cond.initialized RX1, Cond.code yX1_leadThrough cX1_leadThrough 3 none, Cond.fieldLink RX1 54 "LightRound$Row" "size" "I", Cond.methodLink RX1 58 yX1_lead, Cond.instanceMethod yX1_lead, Cond.selects RX1 yX1_lead yX1_lead, Cond.code yX1_lead cX1_lead 7 none, Cond.fieldLink RX1 42 "LightRound$Row" "kinds" "[I", Cond.methodLink RX1 33 yX1_clear, Cond.instanceMethod yX1_clear]
def wsX2_turns_r2 : List Cond := [Cond.selects RX1 yX1_clear yX1_clear, Cond.code yX1_clear cX1_clear 1 none, Cond.fieldLink RX1 9 "LightRound$Table" "a" "J", Cond.fieldLink RX1 15 "LightRound$Table" "b" "J", Cond.fieldLink RX1 18 "LightRound$Table" "c" "J", Cond.fieldLink RX1 21 "LightRound$Table" "d" "J", Cond.fieldLink RX1 24 "LightRound$Table" "e" "J", Cond.fieldLink RX1 27 "LightRound$Table" "f" "J", Cond.fieldLink RX1 30 "LightRound$Table" "below" "J", Cond.methodLink RX1 36 yX0_has, Cond.instanceMethod yX0_has, Cond.selects RX0 yX0_has yX0_has, Cond.initialized RX0, Cond.code yX0_has cX0_has 2 (some .boolean), Cond.fieldLink RX0 21 "LightRound$Row" "size" "I", Cond.methodLink RX1 46 yX0_strength, Cond.instanceMethod yX0_strength, Cond.selects RX0 yX0_strength yX0_strength, Cond.code yX0_strength cX0_strength 3 (some .int), Cond.fieldLink RX0 9 "LightRound$Row" "kinds" "[I", Cond.fieldLink RX0 18 "LightRound$Row" "seconds" "[I", Cond.fieldLink RX0 15 "LightRound$Row" "firsts" "[I", Cond.methodLink RX1 50 yX1_go, Cond.instanceMethod yX1_go]
def wsX2_turns_r3 : List Cond := [Cond.selects RX1 yX1_go yX1_go, Cond.code yX1_go cX1_go 3 none, Cond.methodLink RX1 62 yX1_stretchBy, Cond.instanceMethod yX1_stretchBy, Cond.selects RX1 yX1_stretchBy yX1_stretchBy, Cond.code yX1_stretchBy cX1_stretchBy 3 none, Cond.methodLink RX1 66 yX1_bendBy, Cond.instanceMethod yX1_bendBy, Cond.selects RX1 yX1_bendBy yX1_bendBy, Cond.code yX1_bendBy cX1_bendBy 7 none, Cond.constantLong RX1 69 (-1), Cond.methodLink RX2 161 yX1_roundsToComeBack, Cond.instanceMethod yX1_roundsToComeBack, Cond.selects RX1 yX1_roundsToComeBack yX1_roundsToComeBack, Cond.code yX1_roundsToComeBack cX1_roundsToComeBack 1 (some .int), Cond.methodLink RX1 91 yX1_isPlain, Cond.instanceMethod yX1_isPlain, Cond.selects RX1 yX1_isPlain yX1_isPlain, Cond.code yX1_isPlain cX1_isPlain 3 (some .boolean), Cond.methodLink RX1 79 yX1_sum, Cond.instanceMethod yX1_sum, Cond.selects RX1 yX1_sum yX1_sum, Cond.code yX1_sum cX1_sum 1 (some .long)]
def wsX2_turns : List Cond := .code yX2_turns cX2_turns 4 (some .int) :: ((wsX2_turns_r1 ++ (wsX2_turns_r2 ++ wsX2_turns_r3)) ++ wsX20 ++ wsX00 ++ wsX10)
def wsX2_beam_r1 : List Cond := [Cond.constantLong RX2 91 (-9223372036854775808), Cond.fieldLink RX2 31 "LightRound" "led" "LLightRound$Table;", Cond.fieldLink RX2 43 "LightRound$Row" "size" "I", Cond.constantLong RX2 168 (4), Cond.fieldLink RX2 148 "LightRound$Table" "b" "J", Cond.fieldLink RX2 101 "LightRound$Table" "below" "J", Cond.fieldLink RX2 151 "LightRound$Table" "d" "J", Cond.fieldLink RX2 170 "LightRound$Table" "a" "J", Cond.constantLong RX2 173 (2), Cond.methodLink RX2 39 yX2_rowAt, Cond.instanceMethod yX2_rowAt, Cond.selects RX2 yX2_rowAt yX2_rowAt, Cond.initialized RX2, Cond.code yX2_rowAt cX2_rowAt 2 (some (.object "LightRound$Row")), Cond.fieldLink RX2 17 "LightRound" "rowCount" "I", Cond.fieldLink RX2 13 "LightRound" "rows" "[LLightRound$Row;", Cond.methodLink RX2 58 yX0_has, Cond.instanceMethod yX0_has, Cond.selects RX0 yX0_has yX0_has, Cond.initialized RX0, Cond.code yX0_has cX0_has 2 (some .boolean), Cond.fieldLink RX0 21 "LightRound$Row" "size" "I", Cond.methodLink RX2 88 yX2_isEither, Cond.static yX2_isEither]
def wsX2_beam_r2 : List Cond := [Cond.code yX2_isEither cX2_isEither 1 (some .boolean), Cond.methodLink RX2 112 yX1_lead, Cond.instanceMethod yX1_lead, Cond.selects RX1 yX1_lead yX1_lead, Cond.initialized RX1, Cond.code yX1_lead cX1_lead 7 none, Cond.fieldLink RX1 42 "LightRound$Row" "kinds" "[I", Cond.fieldLink RX1 54 "LightRound$Row" "size" "I", Cond.methodLink RX1 33 yX1_clear, Cond.instanceMethod yX1_clear, Cond.selects RX1 yX1_clear yX1_clear, Cond.code yX1_clear cX1_clear 1 none, Cond.fieldLink RX1 9 "LightRound$Table" "a" "J", Cond.fieldLink RX1 15 "LightRound$Table" "b" "J", Cond.fieldLink RX1 18 "LightRound$Table" "c" "J", Cond.fieldLink RX1 21 "LightRound$Table" "d" "J", Cond.fieldLink RX1 24 "LightRound$Table" "e" "J", Cond.fieldLink RX1 27 "LightRound$Table" "f" "J", Cond.fieldLink RX1 30 "LightRound$Table" "below" "J", Cond.methodLink RX1 36 yX0_has, Cond.methodLink RX1 46 yX0_strength, Cond.instanceMethod yX0_strength, Cond.selects RX0 yX0_strength yX0_strength, Cond.code yX0_strength cX0_strength 3 (some .int)]
def wsX2_beam_r3 : List Cond := [Cond.fieldLink RX0 9 "LightRound$Row" "kinds" "[I", Cond.fieldLink RX0 18 "LightRound$Row" "seconds" "[I", Cond.fieldLink RX0 15 "LightRound$Row" "firsts" "[I", Cond.methodLink RX1 50 yX1_go, Cond.instanceMethod yX1_go, Cond.selects RX1 yX1_go yX1_go, Cond.code yX1_go cX1_go 3 none, Cond.methodLink RX1 62 yX1_stretchBy, Cond.instanceMethod yX1_stretchBy, Cond.selects RX1 yX1_stretchBy yX1_stretchBy, Cond.code yX1_stretchBy cX1_stretchBy 3 none, Cond.methodLink RX1 66 yX1_bendBy, Cond.instanceMethod yX1_bendBy, Cond.selects RX1 yX1_bendBy yX1_bendBy, Cond.code yX1_bendBy cX1_bendBy 7 none, Cond.constantLong RX1 69 (-1), Cond.methodLink RX2 164 yX1_isBetween, Cond.instanceMethod yX1_isBetween, Cond.selects RX1 yX1_isBetween yX1_isBetween, Cond.code yX1_isBetween cX1_isBetween 1 (some .boolean), Cond.constantLong RX1 83 (-2), Cond.constantLong RX1 85 (2), Cond.methodLink RX1 79 yX1_sum, Cond.instanceMethod yX1_sum]
def wsX2_beam_r4 : List Cond := [Cond.selects RX1 yX1_sum yX1_sum, Cond.code yX1_sum cX1_sum 1 (some .long), Cond.methodLink RX2 157 yX1_sum, Cond.methodLink RX2 105 yX2_told, Cond.static yX2_told, Cond.code yX2_told cX2_told 9 (some .long), Cond.methodLink RX2 134 Lib.MathLoose.abs_long.x, Cond.static Lib.MathLoose.abs_long.x, Cond.initialized "java/lang/Math", Cond.code Lib.MathLoose.abs_long.x Lib.MathLoose.abs_long.code 2 (some .long), Cond.methodLink RX2 204 yX2_commonDivisor, Cond.static yX2_commonDivisor, Cond.code yX2_commonDivisor cX2_commonDivisor 11 (some .long)]
def wsX2_beam : List Cond := .code yX2_beam cX2_beam 9 (some .long) :: ((wsX2_beam_r1 ++ (wsX2_beam_r2 ++ (wsX2_beam_r3 ++ wsX2_beam_r4))) ++ wsX20 ++ wsX00 ++ wsX10)
def wsX2_waist_r1 : List Cond := [Cond.fieldLink RX2 31 "LightRound" "led" "LLightRound$Table;", Cond.fieldLink RX2 148 "LightRound$Table" "b" "J", Cond.methodLink RX2 134 Lib.MathLoose.abs_long.x, Cond.static Lib.MathLoose.abs_long.x, Cond.initialized "java/lang/Math", Cond.code Lib.MathLoose.abs_long.x Lib.MathLoose.abs_long.code 2 (some .long), Cond.fieldLink RX2 43 "LightRound$Row" "size" "I", Cond.methodLink RX2 39 yX2_rowAt, Cond.instanceMethod yX2_rowAt, Cond.selects RX2 yX2_rowAt yX2_rowAt, Cond.initialized RX2, Cond.code yX2_rowAt cX2_rowAt 2 (some (.object "LightRound$Row")), Cond.fieldLink RX2 17 "LightRound" "rowCount" "I", Cond.fieldLink RX2 13 "LightRound" "rows" "[LLightRound$Row;", Cond.methodLink RX2 88 yX2_isEither, Cond.static yX2_isEither, Cond.code yX2_isEither cX2_isEither 1 (some .boolean), Cond.methodLink RX2 93 yX1_leadThrough, Cond.instanceMethod yX1_leadThrough, Cond.selects RX1 yX1_leadThrough yX1_leadThrough, Cond.initialized RX1, Cond.code yX1_leadThrough cX1_leadThrough 3 none, Cond.fieldLink RX1 54 "LightRound$Row" "size" "I", Cond.methodLink RX1 58 yX1_lead]
def wsX2_waist_r2 : List Cond := [Cond.instanceMethod yX1_lead, Cond.selects RX1 yX1_lead yX1_lead, Cond.code yX1_lead cX1_lead 7 none, Cond.fieldLink RX1 42 "LightRound$Row" "kinds" "[I", Cond.methodLink RX1 33 yX1_clear, Cond.instanceMethod yX1_clear, Cond.selects RX1 yX1_clear yX1_clear, Cond.code yX1_clear cX1_clear 1 none, Cond.fieldLink RX1 9 "LightRound$Table" "a" "J", Cond.fieldLink RX1 15 "LightRound$Table" "b" "J", Cond.fieldLink RX1 18 "LightRound$Table" "c" "J", Cond.fieldLink RX1 21 "LightRound$Table" "d" "J", Cond.fieldLink RX1 24 "LightRound$Table" "e" "J", Cond.fieldLink RX1 27 "LightRound$Table" "f" "J", Cond.fieldLink RX1 30 "LightRound$Table" "below" "J", Cond.methodLink RX1 36 yX0_has, Cond.instanceMethod yX0_has, Cond.selects RX0 yX0_has yX0_has, Cond.initialized RX0, Cond.code yX0_has cX0_has 2 (some .boolean), Cond.fieldLink RX0 21 "LightRound$Row" "size" "I", Cond.methodLink RX1 46 yX0_strength, Cond.instanceMethod yX0_strength, Cond.selects RX0 yX0_strength yX0_strength]
def wsX2_waist_r3 : List Cond := [Cond.code yX0_strength cX0_strength 3 (some .int), Cond.fieldLink RX0 9 "LightRound$Row" "kinds" "[I", Cond.fieldLink RX0 18 "LightRound$Row" "seconds" "[I", Cond.fieldLink RX0 15 "LightRound$Row" "firsts" "[I", Cond.methodLink RX1 50 yX1_go, Cond.instanceMethod yX1_go, Cond.selects RX1 yX1_go yX1_go, Cond.code yX1_go cX1_go 3 none, Cond.methodLink RX1 62 yX1_stretchBy, Cond.instanceMethod yX1_stretchBy, Cond.selects RX1 yX1_stretchBy yX1_stretchBy, Cond.code yX1_stretchBy cX1_stretchBy 3 none, Cond.methodLink RX1 66 yX1_bendBy, Cond.instanceMethod yX1_bendBy, Cond.selects RX1 yX1_bendBy yX1_bendBy, Cond.code yX1_bendBy cX1_bendBy 7 none, Cond.constantLong RX1 69 (-1), Cond.methodLink RX2 164 yX1_isBetween, Cond.instanceMethod yX1_isBetween, Cond.selects RX1 yX1_isBetween yX1_isBetween, Cond.code yX1_isBetween cX1_isBetween 1 (some .boolean), Cond.constantLong RX1 83 (-2), Cond.constantLong RX1 85 (2), Cond.methodLink RX1 79 yX1_sum]
def wsX2_waist_r4 : List Cond := [Cond.instanceMethod yX1_sum, Cond.selects RX1 yX1_sum yX1_sum, Cond.code yX1_sum cX1_sum 1 (some .long), Cond.methodLink RX2 112 yX1_lead]
def wsX2_waist : List Cond := .code yX2_waist cX2_waist 10 (some .int) :: ((wsX2_waist_r1 ++ (wsX2_waist_r2 ++ (wsX2_waist_r3 ++ wsX2_waist_r4))) ++ wsX20 ++ wsX10 ++ wsX00)
def wsX2_axis_r1 : List Cond := [Cond.constantLong RX2 91 (-9223372036854775808), Cond.fieldLink RX2 31 "LightRound" "led" "LLightRound$Table;", Cond.fieldLink RX2 43 "LightRound$Row" "size" "I", Cond.fieldLink RX2 101 "LightRound$Table" "below" "J", Cond.constantLong RX2 173 (2), Cond.fieldLink RX2 151 "LightRound$Table" "d" "J", Cond.fieldLink RX2 175 "LightRound$Table" "e" "J", Cond.fieldLink RX2 148 "LightRound$Table" "b" "J", Cond.fieldLink RX2 178 "LightRound$Table" "f" "J", Cond.fieldLink RX2 181 "LightRound$Table" "c" "J", Cond.fieldLink RX2 170 "LightRound$Table" "a" "J", Cond.methodLink RX2 39 yX2_rowAt, Cond.instanceMethod yX2_rowAt, Cond.selects RX2 yX2_rowAt yX2_rowAt, Cond.initialized RX2, Cond.code yX2_rowAt cX2_rowAt 2 (some (.object "LightRound$Row")), Cond.fieldLink RX2 17 "LightRound" "rowCount" "I", Cond.fieldLink RX2 13 "LightRound" "rows" "[LLightRound$Row;", Cond.methodLink RX2 58 yX0_has, Cond.instanceMethod yX0_has, Cond.selects RX0 yX0_has yX0_has, Cond.initialized RX0, Cond.code yX0_has cX0_has 2 (some .boolean), Cond.fieldLink RX0 21 "LightRound$Row" "size" "I"]
def wsX2_axis_r2 : List Cond := [Cond.methodLink RX2 88 yX2_isEither, Cond.static yX2_isEither, Cond.code yX2_isEither cX2_isEither 1 (some .boolean), Cond.methodLink RX2 112 yX1_lead, Cond.instanceMethod yX1_lead, Cond.selects RX1 yX1_lead yX1_lead, Cond.initialized RX1, Cond.code yX1_lead cX1_lead 7 none, Cond.fieldLink RX1 42 "LightRound$Row" "kinds" "[I", Cond.fieldLink RX1 54 "LightRound$Row" "size" "I", Cond.methodLink RX1 33 yX1_clear, Cond.instanceMethod yX1_clear, Cond.selects RX1 yX1_clear yX1_clear, Cond.code yX1_clear cX1_clear 1 none, Cond.fieldLink RX1 9 "LightRound$Table" "a" "J", Cond.fieldLink RX1 15 "LightRound$Table" "b" "J", Cond.fieldLink RX1 18 "LightRound$Table" "c" "J", Cond.fieldLink RX1 21 "LightRound$Table" "d" "J", Cond.fieldLink RX1 24 "LightRound$Table" "e" "J", Cond.fieldLink RX1 27 "LightRound$Table" "f" "J", Cond.fieldLink RX1 30 "LightRound$Table" "below" "J", Cond.methodLink RX1 36 yX0_has, Cond.methodLink RX1 46 yX0_strength, Cond.instanceMethod yX0_strength]
def wsX2_axis_r3 : List Cond := [Cond.selects RX0 yX0_strength yX0_strength, Cond.code yX0_strength cX0_strength 3 (some .int), Cond.fieldLink RX0 9 "LightRound$Row" "kinds" "[I", Cond.fieldLink RX0 18 "LightRound$Row" "seconds" "[I", Cond.fieldLink RX0 15 "LightRound$Row" "firsts" "[I", Cond.methodLink RX1 50 yX1_go, Cond.instanceMethod yX1_go, Cond.selects RX1 yX1_go yX1_go, Cond.code yX1_go cX1_go 3 none, Cond.methodLink RX1 62 yX1_stretchBy, Cond.instanceMethod yX1_stretchBy, Cond.selects RX1 yX1_stretchBy yX1_stretchBy, Cond.code yX1_stretchBy cX1_stretchBy 3 none, Cond.methodLink RX1 66 yX1_bendBy, Cond.instanceMethod yX1_bendBy, Cond.selects RX1 yX1_bendBy yX1_bendBy, Cond.code yX1_bendBy cX1_bendBy 7 none, Cond.constantLong RX1 69 (-1), Cond.methodLink RX2 157 yX1_sum, Cond.instanceMethod yX1_sum, Cond.selects RX1 yX1_sum yX1_sum, Cond.code yX1_sum cX1_sum 1 (some .long), Cond.methodLink RX2 105 yX2_told, Cond.static yX2_told]
def wsX2_axis_r4 : List Cond := [Cond.code yX2_told cX2_told 9 (some .long), Cond.methodLink RX2 134 Lib.MathLoose.abs_long.x, Cond.static Lib.MathLoose.abs_long.x, Cond.initialized "java/lang/Math", Cond.code Lib.MathLoose.abs_long.x Lib.MathLoose.abs_long.code 2 (some .long), Cond.methodLink RX2 204 yX2_commonDivisor, Cond.static yX2_commonDivisor, Cond.code yX2_commonDivisor cX2_commonDivisor 11 (some .long)]
def wsX2_axis : List Cond := .code yX2_axis cX2_axis 11 (some .long) :: ((wsX2_axis_r1 ++ (wsX2_axis_r2 ++ (wsX2_axis_r3 ++ wsX2_axis_r4))) ++ wsX20 ++ wsX00 ++ wsX10)
def wsX2_holdsBothWays_r1 : List Cond := [Cond.fieldLink RX2 31 "LightRound" "led" "LLightRound$Table;", Cond.fieldLink RX2 35 "LightRound" "ledToo" "LLightRound$Table;", Cond.methodLink RX2 93 yX1_leadThrough, Cond.instanceMethod yX1_leadThrough, Cond.selects RX1 yX1_leadThrough yX1_leadThrough, Cond.initialized RX1, Cond.code yX1_leadThrough cX1_leadThrough 3 none, Cond.fieldLink RX1 54 "LightRound$Row" "size" "I", Cond.methodLink RX1 58 yX1_lead, Cond.instanceMethod yX1_lead, Cond.selects RX1 yX1_lead yX1_lead, Cond.code yX1_lead cX1_lead 7 none, Cond.fieldLink RX1 42 "LightRound$Row" "kinds" "[I", Cond.methodLink RX1 33 yX1_clear, Cond.instanceMethod yX1_clear, Cond.selects RX1 yX1_clear yX1_clear, Cond.code yX1_clear cX1_clear 1 none, Cond.fieldLink RX1 9 "LightRound$Table" "a" "J", Cond.fieldLink RX1 15 "LightRound$Table" "b" "J", Cond.fieldLink RX1 18 "LightRound$Table" "c" "J", Cond.fieldLink RX1 21 "LightRound$Table" "d" "J", Cond.fieldLink RX1 24 "LightRound$Table" "e" "J", Cond.fieldLink RX1 27 "LightRound$Table" "f" "J", Cond.fieldLink RX1 30 "LightRound$Table" "below" "J"]
def wsX2_holdsBothWays_r2 : List Cond := [Cond.methodLink RX1 36 yX0_has, Cond.instanceMethod yX0_has, Cond.selects RX0 yX0_has yX0_has, Cond.initialized RX0, Cond.code yX0_has cX0_has 2 (some .boolean), Cond.fieldLink RX0 21 "LightRound$Row" "size" "I", Cond.methodLink RX1 46 yX0_strength, Cond.instanceMethod yX0_strength, Cond.selects RX0 yX0_strength yX0_strength, Cond.code yX0_strength cX0_strength 3 (some .int), Cond.fieldLink RX0 9 "LightRound$Row" "kinds" "[I", Cond.fieldLink RX0 18 "LightRound$Row" "seconds" "[I", Cond.fieldLink RX0 15 "LightRound$Row" "firsts" "[I", Cond.methodLink RX1 50 yX1_go, Cond.instanceMethod yX1_go, Cond.selects RX1 yX1_go yX1_go, Cond.code yX1_go cX1_go 3 none, Cond.methodLink RX1 62 yX1_stretchBy, Cond.instanceMethod yX1_stretchBy, Cond.selects RX1 yX1_stretchBy yX1_stretchBy, Cond.code yX1_stretchBy cX1_stretchBy 3 none, Cond.methodLink RX1 66 yX1_bendBy, Cond.instanceMethod yX1_bendBy, Cond.selects RX1 yX1_bendBy yX1_bendBy]
def wsX2_holdsBothWays_r3 : List Cond := [Cond.code yX1_bendBy cX1_bendBy 7 none, Cond.constantLong RX1 69 (-1), Cond.methodLink RX2 154 yX1_manner, Cond.instanceMethod yX1_manner, Cond.selects RX1 yX1_manner yX1_manner, Cond.code yX1_manner cX1_manner 1 (some .int), Cond.constantLong RX1 85 (2), Cond.constantLong RX1 83 (-2), Cond.methodLink RX1 87 yX1_isBetween, Cond.instanceMethod yX1_isBetween, Cond.selects RX1 yX1_isBetween yX1_isBetween, Cond.code yX1_isBetween cX1_isBetween 1 (some .boolean), Cond.methodLink RX1 79 yX1_sum, Cond.instanceMethod yX1_sum, Cond.selects RX1 yX1_sum yX1_sum, Cond.code yX1_sum cX1_sum 1 (some .long), Cond.methodLink RX1 91 yX1_isPlain, Cond.instanceMethod yX1_isPlain, Cond.selects RX1 yX1_isPlain yX1_isPlain, Cond.code yX1_isPlain cX1_isPlain 3 (some .boolean)]
def wsX2_holdsBothWays : List Cond := .code yX2_holdsBothWays cX2_holdsBothWays 2 (some .boolean) :: ((wsX2_holdsBothWays_r1 ++ (wsX2_holdsBothWays_r2 ++ wsX2_holdsBothWays_r3)) ++ wsX20 ++ wsX00 ++ wsX10)
def wsX2_holdsWith_r1 : List Cond := [Cond.fieldLink RX2 68 "LightRound$Row" "firsts" "[I", Cond.methodLink RX2 200 yX2_holdsBothWays, Cond.instanceMethod yX2_holdsBothWays, Cond.selects RX2 yX2_holdsBothWays yX2_holdsBothWays, Cond.initialized RX2, Cond.code yX2_holdsBothWays cX2_holdsBothWays 2 (some .boolean), Cond.fieldLink RX2 31 "LightRound" "led" "LLightRound$Table;", Cond.fieldLink RX2 35 "LightRound" "ledToo" "LLightRound$Table;", Cond.methodLink RX2 93 yX1_leadThrough, Cond.instanceMethod yX1_leadThrough, Cond.selects RX1 yX1_leadThrough yX1_leadThrough, Cond.initialized RX1, Cond.code yX1_leadThrough cX1_leadThrough 3 none, Cond.fieldLink RX1 54 "LightRound$Row" "size" "I", Cond.methodLink RX1 58 yX1_lead, Cond.instanceMethod yX1_lead, Cond.selects RX1 yX1_lead yX1_lead, Cond.code yX1_lead cX1_lead 7 none, Cond.fieldLink RX1 42 "LightRound$Row" "kinds" "[I", Cond.methodLink RX1 33 yX1_clear, Cond.instanceMethod yX1_clear, Cond.selects RX1 yX1_clear yX1_clear, Cond.code yX1_clear cX1_clear 1 none, Cond.fieldLink RX1 9 "LightRound$Table" "a" "J"]
def wsX2_holdsWith_r2 : List Cond := [Cond.fieldLink RX1 15 "LightRound$Table" "b" "J", Cond.fieldLink RX1 18 "LightRound$Table" "c" "J", Cond.fieldLink RX1 21 "LightRound$Table" "d" "J", Cond.fieldLink RX1 24 "LightRound$Table" "e" "J", Cond.fieldLink RX1 27 "LightRound$Table" "f" "J", Cond.fieldLink RX1 30 "LightRound$Table" "below" "J", Cond.methodLink RX1 36 yX0_has, Cond.instanceMethod yX0_has, Cond.selects RX0 yX0_has yX0_has, Cond.initialized RX0, Cond.code yX0_has cX0_has 2 (some .boolean), Cond.fieldLink RX0 21 "LightRound$Row" "size" "I", Cond.methodLink RX1 46 yX0_strength, Cond.instanceMethod yX0_strength, Cond.selects RX0 yX0_strength yX0_strength, Cond.code yX0_strength cX0_strength 3 (some .int), Cond.fieldLink RX0 9 "LightRound$Row" "kinds" "[I", Cond.fieldLink RX0 18 "LightRound$Row" "seconds" "[I", Cond.fieldLink RX0 15 "LightRound$Row" "firsts" "[I", Cond.methodLink RX1 50 yX1_go, Cond.instanceMethod yX1_go, Cond.selects RX1 yX1_go yX1_go, Cond.code yX1_go cX1_go 3 none, Cond.methodLink RX1 62 yX1_stretchBy]
def wsX2_holdsWith_r3 : List Cond := [Cond.instanceMethod yX1_stretchBy, Cond.selects RX1 yX1_stretchBy yX1_stretchBy, Cond.code yX1_stretchBy cX1_stretchBy 3 none, Cond.methodLink RX1 66 yX1_bendBy, Cond.instanceMethod yX1_bendBy, Cond.selects RX1 yX1_bendBy yX1_bendBy, Cond.code yX1_bendBy cX1_bendBy 7 none, Cond.constantLong RX1 69 (-1), Cond.methodLink RX2 154 yX1_manner, Cond.instanceMethod yX1_manner, Cond.selects RX1 yX1_manner yX1_manner, Cond.code yX1_manner cX1_manner 1 (some .int), Cond.constantLong RX1 85 (2), Cond.constantLong RX1 83 (-2), Cond.methodLink RX1 87 yX1_isBetween, Cond.instanceMethod yX1_isBetween, Cond.selects RX1 yX1_isBetween yX1_isBetween, Cond.code yX1_isBetween cX1_isBetween 1 (some .boolean), Cond.methodLink RX1 79 yX1_sum, Cond.instanceMethod yX1_sum, Cond.selects RX1 yX1_sum yX1_sum, Cond.code yX1_sum cX1_sum 1 (some .long), Cond.methodLink RX1 91 yX1_isPlain, Cond.instanceMethod yX1_isPlain]
def wsX2_holdsWith_r4 : List Cond := [Cond.selects RX1 yX1_isPlain yX1_isPlain, Cond.code yX1_isPlain cX1_isPlain 3 (some .boolean)]
def wsX2_holdsWith : List Cond := .code yX2_holdsWith cX2_holdsWith 6 (some .boolean) :: ((wsX2_holdsWith_r1 ++ (wsX2_holdsWith_r2 ++ (wsX2_holdsWith_r3 ++ wsX2_holdsWith_r4))) ++ wsX00 ++ wsX20 ++ wsX10)
def wsX2_span_r1 : List Cond := [Cond.fieldLink RX2 61 "LightRound$Row" "kinds" "[I", Cond.methodLink RX2 39 yX2_rowAt, Cond.instanceMethod yX2_rowAt, Cond.selects RX2 yX2_rowAt yX2_rowAt, Cond.initialized RX2, Cond.code yX2_rowAt cX2_rowAt 2 (some (.object "LightRound$Row")), Cond.fieldLink RX2 17 "LightRound" "rowCount" "I", Cond.fieldLink RX2 13 "LightRound" "rows" "[LLightRound$Row;", Cond.methodLink RX2 58 yX0_has, Cond.instanceMethod yX0_has, Cond.selects RX0 yX0_has yX0_has, Cond.initialized RX0, Cond.code yX0_has cX0_has 2 (some .boolean), Cond.fieldLink RX0 21 "LightRound$Row" "size" "I", Cond.methodLink RX2 184 yX2_holdsWith, Cond.instanceMethod yX2_holdsWith, Cond.selects RX2 yX2_holdsWith yX2_holdsWith, Cond.code yX2_holdsWith cX2_holdsWith 6 (some .boolean), Cond.fieldLink RX2 68 "LightRound$Row" "firsts" "[I", Cond.methodLink RX2 200 yX2_holdsBothWays, Cond.instanceMethod yX2_holdsBothWays, Cond.selects RX2 yX2_holdsBothWays yX2_holdsBothWays, Cond.code yX2_holdsBothWays cX2_holdsBothWays 2 (some .boolean), Cond.fieldLink RX2 31 "LightRound" "led" "LLightRound$Table;"]
def wsX2_span_r2 : List Cond := [Cond.fieldLink RX2 35 "LightRound" "ledToo" "LLightRound$Table;", Cond.methodLink RX2 93 yX1_leadThrough, Cond.instanceMethod yX1_leadThrough, Cond.selects RX1 yX1_leadThrough yX1_leadThrough, Cond.initialized RX1, Cond.code yX1_leadThrough cX1_leadThrough 3 none, Cond.fieldLink RX1 54 "LightRound$Row" "size" "I", Cond.methodLink RX1 58 yX1_lead, Cond.instanceMethod yX1_lead, Cond.selects RX1 yX1_lead yX1_lead, Cond.code yX1_lead cX1_lead 7 none, Cond.fieldLink RX1 42 "LightRound$Row" "kinds" "[I", Cond.methodLink RX1 33 yX1_clear, Cond.instanceMethod yX1_clear, Cond.selects RX1 yX1_clear yX1_clear, Cond.code yX1_clear cX1_clear 1 none, Cond.fieldLink RX1 9 "LightRound$Table" "a" "J", Cond.fieldLink RX1 15 "LightRound$Table" "b" "J", Cond.fieldLink RX1 18 "LightRound$Table" "c" "J", Cond.fieldLink RX1 21 "LightRound$Table" "d" "J", Cond.fieldLink RX1 24 "LightRound$Table" "e" "J", Cond.fieldLink RX1 27 "LightRound$Table" "f" "J", Cond.fieldLink RX1 30 "LightRound$Table" "below" "J", Cond.methodLink RX1 36 yX0_has]
def wsX2_span_r3 : List Cond := [Cond.methodLink RX1 46 yX0_strength, Cond.instanceMethod yX0_strength, Cond.selects RX0 yX0_strength yX0_strength, Cond.code yX0_strength cX0_strength 3 (some .int), Cond.fieldLink RX0 9 "LightRound$Row" "kinds" "[I", Cond.fieldLink RX0 18 "LightRound$Row" "seconds" "[I", Cond.fieldLink RX0 15 "LightRound$Row" "firsts" "[I", Cond.methodLink RX1 50 yX1_go, Cond.instanceMethod yX1_go, Cond.selects RX1 yX1_go yX1_go, Cond.code yX1_go cX1_go 3 none, Cond.methodLink RX1 62 yX1_stretchBy, Cond.instanceMethod yX1_stretchBy, Cond.selects RX1 yX1_stretchBy yX1_stretchBy, Cond.code yX1_stretchBy cX1_stretchBy 3 none, Cond.methodLink RX1 66 yX1_bendBy, Cond.instanceMethod yX1_bendBy, Cond.selects RX1 yX1_bendBy yX1_bendBy, Cond.code yX1_bendBy cX1_bendBy 7 none, Cond.constantLong RX1 69 (-1), Cond.methodLink RX2 154 yX1_manner, Cond.instanceMethod yX1_manner, Cond.selects RX1 yX1_manner yX1_manner, Cond.code yX1_manner cX1_manner 1 (some .int)]
def wsX2_span_r4 : List Cond := [Cond.constantLong RX1 85 (2), Cond.constantLong RX1 83 (-2), Cond.methodLink RX1 87 yX1_isBetween, Cond.instanceMethod yX1_isBetween, Cond.selects RX1 yX1_isBetween yX1_isBetween, Cond.code yX1_isBetween cX1_isBetween 1 (some .boolean), Cond.methodLink RX1 79 yX1_sum, Cond.instanceMethod yX1_sum, Cond.selects RX1 yX1_sum yX1_sum, Cond.code yX1_sum cX1_sum 1 (some .long), Cond.methodLink RX1 91 yX1_isPlain, Cond.instanceMethod yX1_isPlain, Cond.selects RX1 yX1_isPlain yX1_isPlain, Cond.code yX1_isPlain cX1_isPlain 3 (some .boolean)]
def wsX2_span : List Cond := .code yX2_span cX2_span 7 (some .int) :: ((wsX2_span_r1 ++ (wsX2_span_r2 ++ (wsX2_span_r3 ++ wsX2_span_r4))) ++ wsX00 ++ wsX20 ++ wsX10)
def wsX2_own : List Cond := .code yX2_own cX2_own 2 (some .int) :: ([.fieldLink RX2 25 "LightRound" "lengthCount" "I", .fieldLink RX2 21 "LightRound" "lengths" "[I", .methodLink RX2 188 yX2_isStrength, .static yX2_isStrength, .initialized RX2, .code yX2_isStrength cX2_isStrength 1 (some .boolean)] ++ wsX20)
def wsX2_fit_r1 : List Cond := [Cond.fieldLink RX2 61 "LightRound$Row" "kinds" "[I", Cond.fieldLink RX2 25 "LightRound" "lengthCount" "I", Cond.fieldLink RX2 21 "LightRound" "lengths" "[I", Cond.methodLink RX2 39 yX2_rowAt, Cond.instanceMethod yX2_rowAt, Cond.selects RX2 yX2_rowAt yX2_rowAt, Cond.initialized RX2, Cond.code yX2_rowAt cX2_rowAt 2 (some (.object "LightRound$Row")), Cond.fieldLink RX2 17 "LightRound" "rowCount" "I", Cond.fieldLink RX2 13 "LightRound" "rows" "[LLightRound$Row;", Cond.methodLink RX2 58 yX0_has, Cond.instanceMethod yX0_has, Cond.selects RX0 yX0_has yX0_has, Cond.initialized RX0, Cond.code yX0_has cX0_has 2 (some .boolean), Cond.fieldLink RX0 21 "LightRound$Row" "size" "I", Cond.methodLink RX2 184 yX2_holdsWith, Cond.instanceMethod yX2_holdsWith, Cond.selects RX2 yX2_holdsWith yX2_holdsWith, Cond.code yX2_holdsWith cX2_holdsWith 6 (some .boolean), Cond.fieldLink RX2 68 "LightRound$Row" "firsts" "[I", Cond.methodLink RX2 200 yX2_holdsBothWays, Cond.instanceMethod yX2_holdsBothWays, Cond.selects RX2 yX2_holdsBothWays yX2_holdsBothWays]
def wsX2_fit_r2 : List Cond := [Cond.code yX2_holdsBothWays cX2_holdsBothWays 2 (some .boolean), Cond.fieldLink RX2 31 "LightRound" "led" "LLightRound$Table;", Cond.fieldLink RX2 35 "LightRound" "ledToo" "LLightRound$Table;", Cond.methodLink RX2 93 yX1_leadThrough, Cond.instanceMethod yX1_leadThrough, Cond.selects RX1 yX1_leadThrough yX1_leadThrough, Cond.initialized RX1, Cond.code yX1_leadThrough cX1_leadThrough 3 none, Cond.fieldLink RX1 54 "LightRound$Row" "size" "I", Cond.methodLink RX1 58 yX1_lead, Cond.instanceMethod yX1_lead, Cond.selects RX1 yX1_lead yX1_lead, Cond.code yX1_lead cX1_lead 7 none, Cond.fieldLink RX1 42 "LightRound$Row" "kinds" "[I", Cond.methodLink RX1 33 yX1_clear, Cond.instanceMethod yX1_clear, Cond.selects RX1 yX1_clear yX1_clear, Cond.code yX1_clear cX1_clear 1 none, Cond.fieldLink RX1 9 "LightRound$Table" "a" "J", Cond.fieldLink RX1 15 "LightRound$Table" "b" "J", Cond.fieldLink RX1 18 "LightRound$Table" "c" "J", Cond.fieldLink RX1 21 "LightRound$Table" "d" "J", Cond.fieldLink RX1 24 "LightRound$Table" "e" "J", Cond.fieldLink RX1 27 "LightRound$Table" "f" "J"]
def wsX2_fit_r3 : List Cond := [Cond.fieldLink RX1 30 "LightRound$Table" "below" "J", Cond.methodLink RX1 36 yX0_has, Cond.methodLink RX1 46 yX0_strength, Cond.instanceMethod yX0_strength, Cond.selects RX0 yX0_strength yX0_strength, Cond.code yX0_strength cX0_strength 3 (some .int), Cond.fieldLink RX0 9 "LightRound$Row" "kinds" "[I", Cond.fieldLink RX0 18 "LightRound$Row" "seconds" "[I", Cond.fieldLink RX0 15 "LightRound$Row" "firsts" "[I", Cond.methodLink RX1 50 yX1_go, Cond.instanceMethod yX1_go, Cond.selects RX1 yX1_go yX1_go, Cond.code yX1_go cX1_go 3 none, Cond.methodLink RX1 62 yX1_stretchBy, Cond.instanceMethod yX1_stretchBy, Cond.selects RX1 yX1_stretchBy yX1_stretchBy, Cond.code yX1_stretchBy cX1_stretchBy 3 none, Cond.methodLink RX1 66 yX1_bendBy, Cond.instanceMethod yX1_bendBy, Cond.selects RX1 yX1_bendBy yX1_bendBy, Cond.code yX1_bendBy cX1_bendBy 7 none, Cond.constantLong RX1 69 (-1), Cond.methodLink RX2 154 yX1_manner, Cond.instanceMethod yX1_manner]
def wsX2_fit_r4 : List Cond := [Cond.selects RX1 yX1_manner yX1_manner, Cond.code yX1_manner cX1_manner 1 (some .int), Cond.constantLong RX1 85 (2), Cond.constantLong RX1 83 (-2), Cond.methodLink RX1 87 yX1_isBetween, Cond.instanceMethod yX1_isBetween, Cond.selects RX1 yX1_isBetween yX1_isBetween, Cond.code yX1_isBetween cX1_isBetween 1 (some .boolean), Cond.methodLink RX1 79 yX1_sum, Cond.instanceMethod yX1_sum, Cond.selects RX1 yX1_sum yX1_sum, Cond.code yX1_sum cX1_sum 1 (some .long), Cond.methodLink RX1 91 yX1_isPlain, Cond.instanceMethod yX1_isPlain, Cond.selects RX1 yX1_isPlain yX1_isPlain, Cond.code yX1_isPlain cX1_isPlain 3 (some .boolean)]
def wsX2_fit : List Cond := .code yX2_fit cX2_fit 5 (some .int) :: ((wsX2_fit_r1 ++ (wsX2_fit_r2 ++ (wsX2_fit_r3 ++ wsX2_fit_r4))) ++ wsX00 ++ wsX20 ++ wsX10)
def wsX2_isPlace : List Cond := .code yX2_isPlace cX2_isPlace 2 (some .boolean) :: ([.fieldLink RX2 25 "LightRound" "lengthCount" "I"] ++ wsX20)
def wsX2_swap : List Cond := .code yX2_swap cX2_swap 6 (some .int) :: ([.fieldLink RX2 61 "LightRound$Row" "kinds" "[I", .fieldLink RX2 68 "LightRound$Row" "firsts" "[I", .fieldLink RX2 21 "LightRound" "lengths" "[I", .methodLink RX2 39 yX2_rowAt, .instanceMethod yX2_rowAt, .selects RX2 yX2_rowAt yX2_rowAt, .initialized RX2, .code yX2_rowAt cX2_rowAt 2 (some (.object "LightRound$Row")), .fieldLink RX2 17 "LightRound" "rowCount" "I", .fieldLink RX2 13 "LightRound" "rows" "[LLightRound$Row;", .methodLink RX2 58 yX0_has, .instanceMethod yX0_has, .selects RX0 yX0_has yX0_has, .initialized RX0, .code yX0_has cX0_has 2 (some .boolean), .fieldLink RX0 21 "LightRound$Row" "size" "I", .methodLink RX2 191 yX2_isPlace, .instanceMethod yX2_isPlace, .selects RX2 yX2_isPlace yX2_isPlace, .code yX2_isPlace cX2_isPlace 2 (some .boolean), .fieldLink RX2 25 "LightRound" "lengthCount" "I"] ++ wsX00 ++ wsX20)
def wsX2_partsOfAll : List Cond := .code yX2_partsOfAll cX2_partsOfAll 6 (some .int) :: ([.fieldLink RX2 13 "LightRound" "rows" "[LLightRound$Row;", .fieldLink RX2 43 "LightRound$Row" "size" "I"] ++ wsX20 ++ wsX00)
def wsX2_holdingRows_r1 : List Cond := [Cond.fieldLink RX2 13 "LightRound" "rows" "[LLightRound$Row;", Cond.methodLink RX2 200 yX2_holdsBothWays, Cond.instanceMethod yX2_holdsBothWays, Cond.selects RX2 yX2_holdsBothWays yX2_holdsBothWays, Cond.initialized RX2, Cond.code yX2_holdsBothWays cX2_holdsBothWays 2 (some .boolean), Cond.fieldLink RX2 31 "LightRound" "led" "LLightRound$Table;", Cond.fieldLink RX2 35 "LightRound" "ledToo" "LLightRound$Table;", Cond.methodLink RX2 93 yX1_leadThrough, Cond.instanceMethod yX1_leadThrough, Cond.selects RX1 yX1_leadThrough yX1_leadThrough, Cond.initialized RX1, Cond.code yX1_leadThrough cX1_leadThrough 3 none, Cond.fieldLink RX1 54 "LightRound$Row" "size" "I", Cond.methodLink RX1 58 yX1_lead, Cond.instanceMethod yX1_lead, Cond.selects RX1 yX1_lead yX1_lead, Cond.code yX1_lead cX1_lead 7 none, Cond.fieldLink RX1 42 "LightRound$Row" "kinds" "[I", Cond.methodLink RX1 33 yX1_clear, Cond.instanceMethod yX1_clear, Cond.selects RX1 yX1_clear yX1_clear, Cond.code yX1_clear cX1_clear 1 none, Cond.fieldLink RX1 9 "LightRound$Table" "a" "J"]
def wsX2_holdingRows_r2 : List Cond := [Cond.fieldLink RX1 15 "LightRound$Table" "b" "J", Cond.fieldLink RX1 18 "LightRound$Table" "c" "J", Cond.fieldLink RX1 21 "LightRound$Table" "d" "J", Cond.fieldLink RX1 24 "LightRound$Table" "e" "J", Cond.fieldLink RX1 27 "LightRound$Table" "f" "J", Cond.fieldLink RX1 30 "LightRound$Table" "below" "J", Cond.methodLink RX1 36 yX0_has, Cond.instanceMethod yX0_has, Cond.selects RX0 yX0_has yX0_has, Cond.initialized RX0, Cond.code yX0_has cX0_has 2 (some .boolean), Cond.fieldLink RX0 21 "LightRound$Row" "size" "I", Cond.methodLink RX1 46 yX0_strength, Cond.instanceMethod yX0_strength, Cond.selects RX0 yX0_strength yX0_strength, Cond.code yX0_strength cX0_strength 3 (some .int), Cond.fieldLink RX0 9 "LightRound$Row" "kinds" "[I", Cond.fieldLink RX0 18 "LightRound$Row" "seconds" "[I", Cond.fieldLink RX0 15 "LightRound$Row" "firsts" "[I", Cond.methodLink RX1 50 yX1_go, Cond.instanceMethod yX1_go, Cond.selects RX1 yX1_go yX1_go, Cond.code yX1_go cX1_go 3 none, Cond.methodLink RX1 62 yX1_stretchBy]
def wsX2_holdingRows_r3 : List Cond := [Cond.instanceMethod yX1_stretchBy, Cond.selects RX1 yX1_stretchBy yX1_stretchBy, Cond.code yX1_stretchBy cX1_stretchBy 3 none, Cond.methodLink RX1 66 yX1_bendBy, Cond.instanceMethod yX1_bendBy, Cond.selects RX1 yX1_bendBy yX1_bendBy, Cond.code yX1_bendBy cX1_bendBy 7 none, Cond.constantLong RX1 69 (-1), Cond.methodLink RX2 154 yX1_manner, Cond.instanceMethod yX1_manner, Cond.selects RX1 yX1_manner yX1_manner, Cond.code yX1_manner cX1_manner 1 (some .int), Cond.constantLong RX1 85 (2), Cond.constantLong RX1 83 (-2), Cond.methodLink RX1 87 yX1_isBetween, Cond.instanceMethod yX1_isBetween, Cond.selects RX1 yX1_isBetween yX1_isBetween, Cond.code yX1_isBetween cX1_isBetween 1 (some .boolean), Cond.methodLink RX1 79 yX1_sum, Cond.instanceMethod yX1_sum, Cond.selects RX1 yX1_sum yX1_sum, Cond.code yX1_sum cX1_sum 1 (some .long), Cond.methodLink RX1 91 yX1_isPlain, Cond.instanceMethod yX1_isPlain]
def wsX2_holdingRows_r4 : List Cond := [Cond.selects RX1 yX1_isPlain yX1_isPlain, Cond.code yX1_isPlain cX1_isPlain 3 (some .boolean)]
def wsX2_holdingRows : List Cond := .code yX2_holdingRows cX2_holdingRows 6 (some .int) :: ((wsX2_holdingRows_r1 ++ (wsX2_holdingRows_r2 ++ (wsX2_holdingRows_r3 ++ wsX2_holdingRows_r4))) ++ wsX20 ++ wsX00 ++ wsX10)
def wsX2_count_r1 : List Cond := [Cond.fieldLink RX2 17 "LightRound" "rowCount" "I", Cond.fieldLink RX2 25 "LightRound" "lengthCount" "I", Cond.methodLink RX2 194 yX2_partsOfAll, Cond.instanceMethod yX2_partsOfAll, Cond.selects RX2 yX2_partsOfAll yX2_partsOfAll, Cond.initialized RX2, Cond.code yX2_partsOfAll cX2_partsOfAll 6 (some .int), Cond.fieldLink RX2 13 "LightRound" "rows" "[LLightRound$Row;", Cond.fieldLink RX2 43 "LightRound$Row" "size" "I", Cond.methodLink RX2 197 yX2_holdingRows, Cond.instanceMethod yX2_holdingRows, Cond.selects RX2 yX2_holdingRows yX2_holdingRows, Cond.code yX2_holdingRows cX2_holdingRows 6 (some .int), Cond.methodLink RX2 200 yX2_holdsBothWays, Cond.instanceMethod yX2_holdsBothWays, Cond.selects RX2 yX2_holdsBothWays yX2_holdsBothWays, Cond.code yX2_holdsBothWays cX2_holdsBothWays 2 (some .boolean), Cond.fieldLink RX2 31 "LightRound" "led" "LLightRound$Table;", Cond.fieldLink RX2 35 "LightRound" "ledToo" "LLightRound$Table;", Cond.methodLink RX2 93 yX1_leadThrough, Cond.instanceMethod yX1_leadThrough, Cond.selects RX1 yX1_leadThrough yX1_leadThrough, Cond.initialized RX1, Cond.code yX1_leadThrough cX1_leadThrough 3 none]
def wsX2_count_r2 : List Cond := [Cond.fieldLink RX1 54 "LightRound$Row" "size" "I", Cond.methodLink RX1 58 yX1_lead, Cond.instanceMethod yX1_lead, Cond.selects RX1 yX1_lead yX1_lead, Cond.code yX1_lead cX1_lead 7 none, Cond.fieldLink RX1 42 "LightRound$Row" "kinds" "[I", Cond.methodLink RX1 33 yX1_clear, Cond.instanceMethod yX1_clear, Cond.selects RX1 yX1_clear yX1_clear, Cond.code yX1_clear cX1_clear 1 none, Cond.fieldLink RX1 9 "LightRound$Table" "a" "J", Cond.fieldLink RX1 15 "LightRound$Table" "b" "J", Cond.fieldLink RX1 18 "LightRound$Table" "c" "J", Cond.fieldLink RX1 21 "LightRound$Table" "d" "J", Cond.fieldLink RX1 24 "LightRound$Table" "e" "J", Cond.fieldLink RX1 27 "LightRound$Table" "f" "J", Cond.fieldLink RX1 30 "LightRound$Table" "below" "J", Cond.methodLink RX1 36 yX0_has, Cond.instanceMethod yX0_has, Cond.selects RX0 yX0_has yX0_has, Cond.initialized RX0, Cond.code yX0_has cX0_has 2 (some .boolean), Cond.fieldLink RX0 21 "LightRound$Row" "size" "I", Cond.methodLink RX1 46 yX0_strength]
def wsX2_count_r3 : List Cond := [Cond.instanceMethod yX0_strength, Cond.selects RX0 yX0_strength yX0_strength, Cond.code yX0_strength cX0_strength 3 (some .int), Cond.fieldLink RX0 9 "LightRound$Row" "kinds" "[I", Cond.fieldLink RX0 18 "LightRound$Row" "seconds" "[I", Cond.fieldLink RX0 15 "LightRound$Row" "firsts" "[I", Cond.methodLink RX1 50 yX1_go, Cond.instanceMethod yX1_go, Cond.selects RX1 yX1_go yX1_go, Cond.code yX1_go cX1_go 3 none, Cond.methodLink RX1 62 yX1_stretchBy, Cond.instanceMethod yX1_stretchBy, Cond.selects RX1 yX1_stretchBy yX1_stretchBy, Cond.code yX1_stretchBy cX1_stretchBy 3 none, Cond.methodLink RX1 66 yX1_bendBy, Cond.instanceMethod yX1_bendBy, Cond.selects RX1 yX1_bendBy yX1_bendBy, Cond.code yX1_bendBy cX1_bendBy 7 none, Cond.constantLong RX1 69 (-1), Cond.methodLink RX2 154 yX1_manner, Cond.instanceMethod yX1_manner, Cond.selects RX1 yX1_manner yX1_manner, Cond.code yX1_manner cX1_manner 1 (some .int), Cond.constantLong RX1 85 (2)]
def wsX2_count_r4 : List Cond := [Cond.constantLong RX1 83 (-2), Cond.methodLink RX1 87 yX1_isBetween, Cond.instanceMethod yX1_isBetween, Cond.selects RX1 yX1_isBetween yX1_isBetween, Cond.code yX1_isBetween cX1_isBetween 1 (some .boolean), Cond.methodLink RX1 79 yX1_sum, Cond.instanceMethod yX1_sum, Cond.selects RX1 yX1_sum yX1_sum, Cond.code yX1_sum cX1_sum 1 (some .long), Cond.methodLink RX1 91 yX1_isPlain, Cond.instanceMethod yX1_isPlain, Cond.selects RX1 yX1_isPlain yX1_isPlain, Cond.code yX1_isPlain cX1_isPlain 3 (some .boolean)]
def wsX2_count : List Cond := .code yX2_count cX2_count 2 (some .int) :: ((wsX2_count_r1 ++ (wsX2_count_r2 ++ (wsX2_count_r3 ++ wsX2_count_r4))) ++ wsX20 ++ wsX00 ++ wsX10)
def wsX2_drawer : List Cond := .code yX2_drawer cX2_drawer 2 (some .int) :: ([.fieldLink RX2 21 "LightRound" "lengths" "[I", .methodLink RX2 191 yX2_isPlace, .instanceMethod yX2_isPlace, .selects RX2 yX2_isPlace yX2_isPlace, .initialized RX2, .code yX2_isPlace cX2_isPlace 2 (some .boolean), .fieldLink RX2 25 "LightRound" "lengthCount" "I"] ++ wsX20)
def wsX3_init : List Cond := .code yX3_init cX3_init 1 none :: ([.methodLink RX3 1 objectInit, .instanceMethod objectInit, .code objectInit ⟨#[0xb1]⟩ 1 none, .fieldLink RX3 7 "LightRoundModel" "benches" "I", .arrayClass .int, .fieldLink RX3 13 "LightRoundModel" "many" "[I", .fieldLink RX3 17 "LightRoundModel" "kind" "[I", .fieldLink RX3 20 "LightRoundModel" "first" "[I", .fieldLink RX3 23 "LightRoundModel" "second" "[I", .fieldLink RX3 26 "LightRoundModel" "drawn" "I", .fieldLink RX3 29 "LightRoundModel" "drawer" "[I", .arrayClass .long, .fieldLink RX3 32 "LightRoundModel" "t" "[J", .fieldLink RX3 36 "LightRoundModel" "below" "J"] ++ wsX30)
def wsX3_in : List Cond := .code yX3_in cX3_in 4 (some .boolean) :: ([])
def wsX3_isBench : List Cond := .code yX3_isBench cX3_isBench 2 (some .boolean) :: ([.fieldLink RX3 7 "LightRoundModel" "benches" "I", .methodLink RX3 40 yX3_in, .instanceMethod yX3_in, .selects RX3 yX3_in yX3_in, .initialized RX3, .code yX3_in cX3_in 4 (some .boolean)] ++ wsX30)
def wsX3_isPart : List Cond := .code yX3_isPart cX3_isPart 3 (some .boolean) :: ([.fieldLink RX3 13 "LightRoundModel" "many" "[I", .methodLink RX3 44 yX3_isBench, .instanceMethod yX3_isBench, .selects RX3 yX3_isBench yX3_isBench, .initialized RX3, .code yX3_isBench cX3_isBench 2 (some .boolean), .fieldLink RX3 7 "LightRoundModel" "benches" "I", .methodLink RX3 40 yX3_in, .instanceMethod yX3_in, .selects RX3 yX3_in yX3_in, .code yX3_in cX3_in 4 (some .boolean)] ++ wsX30)
def wsX3_isWay : List Cond := .code yX3_isWay cX3_isWay 2 (some .boolean) :: ([])
def wsX3_isBent : List Cond := .code yX3_isBent cX3_isBent 2 (some .boolean) :: ([.methodLink RX3 40 yX3_in, .instanceMethod yX3_in, .selects RX3 yX3_in yX3_in, .initialized RX3, .code yX3_in cX3_in 4 (some .boolean)])
def wsX3_isGood : List Cond := .code yX3_isGood cX3_isGood 4 (some .boolean) :: ([.methodLink RX3 40 yX3_in, .instanceMethod yX3_in, .selects RX3 yX3_in yX3_in, .initialized RX3, .code yX3_in cX3_in 4 (some .boolean), .methodLink RX3 48 yX3_isBent, .instanceMethod yX3_isBent, .selects RX3 yX3_isBent yX3_isBent, .code yX3_isBent cX3_isBent 2 (some .boolean)])
def wsX3_bench : List Cond := .code yX3_bench cX3_bench 1 (some .int) :: ([.fieldLink RX3 7 "LightRoundModel" "benches" "I", .fieldLink RX3 13 "LightRoundModel" "many" "[I"] ++ wsX30)
def wsX3_bent : List Cond := .code yX3_bent cX3_bent 4 (some .int) :: ([.fieldLink RX3 13 "LightRoundModel" "many" "[I", .fieldLink RX3 17 "LightRoundModel" "kind" "[I"] ++ wsX30)
def wsX3_tilts : List Cond := .code yX3_tilts cX3_tilts 4 (some .int) :: ([.fieldLink RX3 13 "LightRoundModel" "many" "[I", .fieldLink RX3 17 "LightRoundModel" "kind" "[I"] ++ wsX30)
def wsX3_lay : List Cond := .code yX3_lay cX3_lay 5 none :: ([.fieldLink RX3 17 "LightRoundModel" "kind" "[I", .fieldLink RX3 20 "LightRoundModel" "first" "[I", .fieldLink RX3 23 "LightRoundModel" "second" "[I"] ++ wsX30)
def wsX3_put_r1 : List Cond := [Cond.fieldLink RX3 13 "LightRoundModel" "many" "[I", Cond.fieldLink RX3 17 "LightRoundModel" "kind" "[I", Cond.fieldLink RX3 20 "LightRoundModel" "first" "[I", Cond.fieldLink RX3 23 "LightRoundModel" "second" "[I", Cond.methodLink RX3 44 yX3_isBench, Cond.instanceMethod yX3_isBench, Cond.selects RX3 yX3_isBench yX3_isBench, Cond.initialized RX3, Cond.code yX3_isBench cX3_isBench 2 (some .boolean), Cond.fieldLink RX3 7 "LightRoundModel" "benches" "I", Cond.methodLink RX3 40 yX3_in, Cond.instanceMethod yX3_in, Cond.selects RX3 yX3_in yX3_in, Cond.code yX3_in cX3_in 4 (some .boolean), Cond.methodLink RX3 51 yX3_isGood, Cond.instanceMethod yX3_isGood, Cond.selects RX3 yX3_isGood yX3_isGood, Cond.code yX3_isGood cX3_isGood 4 (some .boolean), Cond.methodLink RX3 48 yX3_isBent, Cond.instanceMethod yX3_isBent, Cond.selects RX3 yX3_isBent yX3_isBent, Cond.code yX3_isBent cX3_isBent 2 (some .boolean), Cond.methodLink RX3 54 yX3_bent, Cond.instanceMethod yX3_bent]
def wsX3_put_r2 : List Cond := [Cond.selects RX3 yX3_bent yX3_bent, Cond.code yX3_bent cX3_bent 4 (some .int), Cond.methodLink RX3 58 yX3_tilts, Cond.instanceMethod yX3_tilts, Cond.selects RX3 yX3_tilts yX3_tilts, Cond.code yX3_tilts cX3_tilts 4 (some .int), Cond.methodLink RX3 61 yX3_lay, Cond.instanceMethod yX3_lay, Cond.selects RX3 yX3_lay yX3_lay, Cond.code yX3_lay cX3_lay 5 none]
def wsX3_put : List Cond := .code yX3_put cX3_put 7 (some .int) :: ((wsX3_put_r1 ++ wsX3_put_r2) ++ wsX30)
def wsX3_take : List Cond := .code yX3_take cX3_take 5 (some .int) :: ([.fieldLink RX3 17 "LightRoundModel" "kind" "[I", .fieldLink RX3 13 "LightRoundModel" "many" "[I", .fieldLink RX3 20 "LightRoundModel" "first" "[I", .fieldLink RX3 23 "LightRoundModel" "second" "[I", .methodLink RX3 65 yX3_isPart, .instanceMethod yX3_isPart, .selects RX3 yX3_isPart yX3_isPart, .initialized RX3, .code yX3_isPart cX3_isPart 3 (some .boolean), .methodLink RX3 44 yX3_isBench, .instanceMethod yX3_isBench, .selects RX3 yX3_isBench yX3_isBench, .code yX3_isBench cX3_isBench 2 (some .boolean), .fieldLink RX3 7 "LightRoundModel" "benches" "I", .methodLink RX3 40 yX3_in, .instanceMethod yX3_in, .selects RX3 yX3_in yX3_in, .code yX3_in cX3_in 4 (some .boolean), .methodLink RX3 61 yX3_lay, .instanceMethod yX3_lay, .selects RX3 yX3_lay yX3_lay, .code yX3_lay cX3_lay 5 none] ++ wsX30)
def wsX3_set_r1 : List Cond := [Cond.fieldLink RX3 17 "LightRoundModel" "kind" "[I", Cond.fieldLink RX3 20 "LightRoundModel" "first" "[I", Cond.fieldLink RX3 23 "LightRoundModel" "second" "[I", Cond.methodLink RX3 65 yX3_isPart, Cond.instanceMethod yX3_isPart, Cond.selects RX3 yX3_isPart yX3_isPart, Cond.initialized RX3, Cond.code yX3_isPart cX3_isPart 3 (some .boolean), Cond.fieldLink RX3 13 "LightRoundModel" "many" "[I", Cond.methodLink RX3 44 yX3_isBench, Cond.instanceMethod yX3_isBench, Cond.selects RX3 yX3_isBench yX3_isBench, Cond.code yX3_isBench cX3_isBench 2 (some .boolean), Cond.fieldLink RX3 7 "LightRoundModel" "benches" "I", Cond.methodLink RX3 40 yX3_in, Cond.instanceMethod yX3_in, Cond.selects RX3 yX3_in yX3_in, Cond.code yX3_in cX3_in 4 (some .boolean), Cond.methodLink RX3 51 yX3_isGood, Cond.instanceMethod yX3_isGood, Cond.selects RX3 yX3_isGood yX3_isGood, Cond.code yX3_isGood cX3_isGood 4 (some .boolean), Cond.methodLink RX3 48 yX3_isBent, Cond.instanceMethod yX3_isBent]
def wsX3_set_r2 : List Cond := [Cond.selects RX3 yX3_isBent yX3_isBent, Cond.code yX3_isBent cX3_isBent 2 (some .boolean)]
def wsX3_set : List Cond := .code yX3_set cX3_set 5 (some .int) :: ((wsX3_set_r1 ++ wsX3_set_r2) ++ wsX30)
def wsX3_part : List Cond := .code yX3_part cX3_part 4 (some .int) :: ([.fieldLink RX3 17 "LightRoundModel" "kind" "[I", .fieldLink RX3 20 "LightRoundModel" "first" "[I", .fieldLink RX3 23 "LightRoundModel" "second" "[I", .methodLink RX3 65 yX3_isPart, .instanceMethod yX3_isPart, .selects RX3 yX3_isPart yX3_isPart, .initialized RX3, .code yX3_isPart cX3_isPart 3 (some .boolean), .fieldLink RX3 13 "LightRoundModel" "many" "[I", .methodLink RX3 44 yX3_isBench, .instanceMethod yX3_isBench, .selects RX3 yX3_isBench yX3_isBench, .code yX3_isBench cX3_isBench 2 (some .boolean), .fieldLink RX3 7 "LightRoundModel" "benches" "I", .methodLink RX3 40 yX3_in, .instanceMethod yX3_in, .selects RX3 yX3_in yX3_in, .code yX3_in cX3_in 4 (some .boolean)] ++ wsX30)
def wsX3_turn : List Cond := .code yX3_turn cX3_turn 8 (some .int) :: ([.fieldLink RX3 13 "LightRoundModel" "many" "[I", .fieldLink RX3 17 "LightRoundModel" "kind" "[I", .fieldLink RX3 20 "LightRoundModel" "first" "[I", .fieldLink RX3 23 "LightRoundModel" "second" "[I", .methodLink RX3 44 yX3_isBench, .instanceMethod yX3_isBench, .selects RX3 yX3_isBench yX3_isBench, .initialized RX3, .code yX3_isBench cX3_isBench 2 (some .boolean), .fieldLink RX3 7 "LightRoundModel" "benches" "I", .methodLink RX3 40 yX3_in, .instanceMethod yX3_in, .selects RX3 yX3_in yX3_in, .code yX3_in cX3_in 4 (some .boolean), .methodLink RX3 61 yX3_lay, .instanceMethod yX3_lay, .selects RX3 yX3_lay yX3_lay, .code yX3_lay cX3_lay 5 none] ++ wsX30)
def wsX3_join_r1 : List Cond := [Cond.fieldLink RX3 13 "LightRoundModel" "many" "[I", Cond.fieldLink RX3 17 "LightRoundModel" "kind" "[I", Cond.fieldLink RX3 20 "LightRoundModel" "first" "[I", Cond.fieldLink RX3 23 "LightRoundModel" "second" "[I", Cond.methodLink RX3 44 yX3_isBench, Cond.instanceMethod yX3_isBench, Cond.selects RX3 yX3_isBench yX3_isBench, Cond.initialized RX3, Cond.code yX3_isBench cX3_isBench 2 (some .boolean), Cond.fieldLink RX3 7 "LightRoundModel" "benches" "I", Cond.methodLink RX3 40 yX3_in, Cond.instanceMethod yX3_in, Cond.selects RX3 yX3_in yX3_in, Cond.code yX3_in cX3_in 4 (some .boolean), Cond.methodLink RX3 54 yX3_bent, Cond.instanceMethod yX3_bent, Cond.selects RX3 yX3_bent yX3_bent, Cond.code yX3_bent cX3_bent 4 (some .int), Cond.methodLink RX3 58 yX3_tilts, Cond.instanceMethod yX3_tilts, Cond.selects RX3 yX3_tilts yX3_tilts, Cond.code yX3_tilts cX3_tilts 4 (some .int), Cond.methodLink RX3 61 yX3_lay, Cond.instanceMethod yX3_lay]
def wsX3_join_r2 : List Cond := [Cond.selects RX3 yX3_lay yX3_lay, Cond.code yX3_lay cX3_lay 5 none]
def wsX3_join : List Cond := .code yX3_join cX3_join 5 (some .int) :: ((wsX3_join_r1 ++ wsX3_join_r2) ++ wsX30)
def wsX3_begin : List Cond := .code yX3_begin cX3_begin 2 none :: ([.fieldLink RX3 32 "LightRoundModel" "t" "[J", .fieldLink RX3 36 "LightRoundModel" "below" "J"] ++ wsX30)
def wsX3_bend : List Cond := .code yX3_bend cX3_bend 9 none :: ([.fieldLink RX3 32 "LightRoundModel" "t" "[J", .fieldLink RX3 36 "LightRoundModel" "below" "J"] ++ wsX30)
def wsX3_go : List Cond := .code yX3_go cX3_go 6 none :: ([.fieldLink RX3 20 "LightRoundModel" "first" "[I", .fieldLink RX3 17 "LightRoundModel" "kind" "[I", .fieldLink RX3 32 "LightRoundModel" "t" "[J", .fieldLink RX3 23 "LightRoundModel" "second" "[I", .fieldLink RX3 36 "LightRoundModel" "below" "J", .methodLink RX3 69 yX3_bend, .instanceMethod yX3_bend, .selects RX3 yX3_bend yX3_bend, .initialized RX3, .code yX3_bend cX3_bend 9 none] ++ wsX30)
def wsX3_work : List Cond := .code yX3_work cX3_work 6 none :: ([.fieldLink RX3 13 "LightRoundModel" "many" "[I", .methodLink RX3 73 yX3_begin, .instanceMethod yX3_begin, .selects RX3 yX3_begin yX3_begin, .initialized RX3, .code yX3_begin cX3_begin 2 none, .fieldLink RX3 32 "LightRoundModel" "t" "[J", .fieldLink RX3 36 "LightRoundModel" "below" "J", .methodLink RX3 76 yX3_go, .instanceMethod yX3_go, .selects RX3 yX3_go yX3_go, .code yX3_go cX3_go 6 none, .fieldLink RX3 20 "LightRoundModel" "first" "[I", .fieldLink RX3 17 "LightRoundModel" "kind" "[I", .fieldLink RX3 23 "LightRoundModel" "second" "[I", .methodLink RX3 69 yX3_bend, .instanceMethod yX3_bend, .selects RX3 yX3_bend yX3_bend, .code yX3_bend cX3_bend 9 none] ++ wsX30)
def wsX3_divisor : List Cond := .code yX3_divisor cX3_divisor 11 (some .long) :: ([])
def wsX3_lowest : List Cond := .code yX3_lowest cX3_lowest 8 (some .long) :: ([.methodLink RX3 80 yX3_divisor, .instanceMethod yX3_divisor, .selects RX3 yX3_divisor yX3_divisor, .initialized RX3, .code yX3_divisor cX3_divisor 11 (some .long)])
def wsX3_table_r1 : List Cond := [Cond.constantLong RX3 87 (-9223372036854775808), Cond.fieldLink RX3 13 "LightRoundModel" "many" "[I", Cond.fieldLink RX3 32 "LightRoundModel" "t" "[J", Cond.fieldLink RX3 36 "LightRoundModel" "below" "J", Cond.methodLink RX3 44 yX3_isBench, Cond.instanceMethod yX3_isBench, Cond.selects RX3 yX3_isBench yX3_isBench, Cond.initialized RX3, Cond.code yX3_isBench cX3_isBench 2 (some .boolean), Cond.fieldLink RX3 7 "LightRoundModel" "benches" "I", Cond.methodLink RX3 40 yX3_in, Cond.instanceMethod yX3_in, Cond.selects RX3 yX3_in yX3_in, Cond.code yX3_in cX3_in 4 (some .boolean), Cond.methodLink RX3 84 yX3_isWay, Cond.instanceMethod yX3_isWay, Cond.selects RX3 yX3_isWay yX3_isWay, Cond.code yX3_isWay cX3_isWay 2 (some .boolean), Cond.methodLink RX3 89 yX3_work, Cond.instanceMethod yX3_work, Cond.selects RX3 yX3_work yX3_work, Cond.code yX3_work cX3_work 6 none, Cond.methodLink RX3 73 yX3_begin, Cond.instanceMethod yX3_begin]
def wsX3_table_r2 : List Cond := [Cond.selects RX3 yX3_begin yX3_begin, Cond.code yX3_begin cX3_begin 2 none, Cond.methodLink RX3 76 yX3_go, Cond.instanceMethod yX3_go, Cond.selects RX3 yX3_go yX3_go, Cond.code yX3_go cX3_go 6 none, Cond.fieldLink RX3 20 "LightRoundModel" "first" "[I", Cond.fieldLink RX3 17 "LightRoundModel" "kind" "[I", Cond.fieldLink RX3 23 "LightRoundModel" "second" "[I", Cond.methodLink RX3 69 yX3_bend, Cond.instanceMethod yX3_bend, Cond.selects RX3 yX3_bend yX3_bend, Cond.code yX3_bend cX3_bend 9 none, Cond.methodLink RX3 92 yX3_lowest, Cond.instanceMethod yX3_lowest, Cond.selects RX3 yX3_lowest yX3_lowest, Cond.code yX3_lowest cX3_lowest 8 (some .long), Cond.methodLink RX3 80 yX3_divisor, Cond.instanceMethod yX3_divisor, Cond.selects RX3 yX3_divisor yX3_divisor, Cond.code yX3_divisor cX3_divisor 11 (some .long)]
def wsX3_table : List Cond := .code yX3_table cX3_table 5 (some .long) :: ((wsX3_table_r1 ++ wsX3_table_r2) ++ wsX30)
def wsX3_isRay : List Cond := .code yX3_isRay cX3_isRay 3 (some .boolean) :: ([.methodLink RX3 40 yX3_in, .instanceMethod yX3_in, .selects RX3 yX3_in yX3_in, .initialized RX3, .code yX3_in cX3_in 4 (some .boolean)])
def wsX3_ray_r1 : List Cond := [Cond.fieldLink RX3 13 "LightRoundModel" "many" "[I", Cond.constantLong RX3 87 (-9223372036854775808), Cond.fieldLink RX3 32 "LightRoundModel" "t" "[J", Cond.fieldLink RX3 36 "LightRoundModel" "below" "J", Cond.methodLink RX3 44 yX3_isBench, Cond.instanceMethod yX3_isBench, Cond.selects RX3 yX3_isBench yX3_isBench, Cond.initialized RX3, Cond.code yX3_isBench cX3_isBench 2 (some .boolean), Cond.fieldLink RX3 7 "LightRoundModel" "benches" "I", Cond.methodLink RX3 40 yX3_in, Cond.instanceMethod yX3_in, Cond.selects RX3 yX3_in yX3_in, Cond.code yX3_in cX3_in 4 (some .boolean), Cond.methodLink RX3 84 yX3_isWay, Cond.instanceMethod yX3_isWay, Cond.selects RX3 yX3_isWay yX3_isWay, Cond.code yX3_isWay cX3_isWay 2 (some .boolean), Cond.methodLink RX3 96 yX3_isRay, Cond.instanceMethod yX3_isRay, Cond.selects RX3 yX3_isRay yX3_isRay, Cond.code yX3_isRay cX3_isRay 3 (some .boolean), Cond.methodLink RX3 89 yX3_work, Cond.instanceMethod yX3_work]
def wsX3_ray_r2 : List Cond := [Cond.selects RX3 yX3_work yX3_work, Cond.code yX3_work cX3_work 6 none, Cond.methodLink RX3 73 yX3_begin, Cond.instanceMethod yX3_begin, Cond.selects RX3 yX3_begin yX3_begin, Cond.code yX3_begin cX3_begin 2 none, Cond.methodLink RX3 76 yX3_go, Cond.instanceMethod yX3_go, Cond.selects RX3 yX3_go yX3_go, Cond.code yX3_go cX3_go 6 none, Cond.fieldLink RX3 20 "LightRoundModel" "first" "[I", Cond.fieldLink RX3 17 "LightRoundModel" "kind" "[I", Cond.fieldLink RX3 23 "LightRoundModel" "second" "[I", Cond.methodLink RX3 69 yX3_bend, Cond.instanceMethod yX3_bend, Cond.selects RX3 yX3_bend yX3_bend, Cond.code yX3_bend cX3_bend 9 none, Cond.methodLink RX3 92 yX3_lowest, Cond.instanceMethod yX3_lowest, Cond.selects RX3 yX3_lowest yX3_lowest, Cond.code yX3_lowest cX3_lowest 8 (some .long), Cond.methodLink RX3 80 yX3_divisor, Cond.instanceMethod yX3_divisor, Cond.selects RX3 yX3_divisor yX3_divisor]
def wsX3_ray_r3 : List Cond := [Cond.code yX3_divisor cX3_divisor 11 (some .long)]
def wsX3_ray : List Cond := .code yX3_ray cX3_ray 8 (some .long) :: ((wsX3_ray_r1 ++ (wsX3_ray_r2 ++ wsX3_ray_r3)) ++ wsX30)
def wsX3_stopped : List Cond := .code yX3_stopped cX3_stopped 8 (some .int) :: ([.fieldLink RX3 13 "LightRoundModel" "many" "[I", .fieldLink RX3 32 "LightRoundModel" "t" "[J", .fieldLink RX3 17 "LightRoundModel" "kind" "[I", .fieldLink RX3 20 "LightRoundModel" "first" "[I", .fieldLink RX3 36 "LightRoundModel" "below" "J", .methodLink RX3 73 yX3_begin, .instanceMethod yX3_begin, .selects RX3 yX3_begin yX3_begin, .initialized RX3, .code yX3_begin cX3_begin 2 none, .methodLink RX3 76 yX3_go, .instanceMethod yX3_go, .selects RX3 yX3_go yX3_go, .code yX3_go cX3_go 6 none, .fieldLink RX3 23 "LightRoundModel" "second" "[I", .methodLink RX3 69 yX3_bend, .instanceMethod yX3_bend, .selects RX3 yX3_bend yX3_bend, .code yX3_bend cX3_bend 9 none] ++ wsX30)
def wsX3_stops_r1 : List Cond := [Cond.methodLink RX3 44 yX3_isBench, Cond.instanceMethod yX3_isBench, Cond.selects RX3 yX3_isBench yX3_isBench, Cond.initialized RX3, Cond.code yX3_isBench cX3_isBench 2 (some .boolean), Cond.fieldLink RX3 7 "LightRoundModel" "benches" "I", Cond.methodLink RX3 40 yX3_in, Cond.instanceMethod yX3_in, Cond.selects RX3 yX3_in yX3_in, Cond.code yX3_in cX3_in 4 (some .boolean), Cond.methodLink RX3 84 yX3_isWay, Cond.instanceMethod yX3_isWay, Cond.selects RX3 yX3_isWay yX3_isWay, Cond.code yX3_isWay cX3_isWay 2 (some .boolean), Cond.methodLink RX3 96 yX3_isRay, Cond.instanceMethod yX3_isRay, Cond.selects RX3 yX3_isRay yX3_isRay, Cond.code yX3_isRay cX3_isRay 3 (some .boolean), Cond.methodLink RX3 99 yX3_stopped, Cond.instanceMethod yX3_stopped, Cond.selects RX3 yX3_stopped yX3_stopped, Cond.code yX3_stopped cX3_stopped 8 (some .int), Cond.fieldLink RX3 13 "LightRoundModel" "many" "[I", Cond.fieldLink RX3 32 "LightRoundModel" "t" "[J"]
def wsX3_stops_r2 : List Cond := [Cond.fieldLink RX3 17 "LightRoundModel" "kind" "[I", Cond.fieldLink RX3 20 "LightRoundModel" "first" "[I", Cond.fieldLink RX3 36 "LightRoundModel" "below" "J", Cond.methodLink RX3 73 yX3_begin, Cond.instanceMethod yX3_begin, Cond.selects RX3 yX3_begin yX3_begin, Cond.code yX3_begin cX3_begin 2 none, Cond.methodLink RX3 76 yX3_go, Cond.instanceMethod yX3_go, Cond.selects RX3 yX3_go yX3_go, Cond.code yX3_go cX3_go 6 none, Cond.fieldLink RX3 23 "LightRoundModel" "second" "[I", Cond.methodLink RX3 69 yX3_bend, Cond.instanceMethod yX3_bend, Cond.selects RX3 yX3_bend yX3_bend, Cond.code yX3_bend cX3_bend 9 none]
def wsX3_stops : List Cond := .code yX3_stops cX3_stops 5 (some .int) :: ((wsX3_stops_r1 ++ wsX3_stops_r2) ++ wsX30)
def wsX3_full_r1 : List Cond := [Cond.methodLink RX3 44 yX3_isBench, Cond.instanceMethod yX3_isBench, Cond.selects RX3 yX3_isBench yX3_isBench, Cond.initialized RX3, Cond.code yX3_isBench cX3_isBench 2 (some .boolean), Cond.fieldLink RX3 7 "LightRoundModel" "benches" "I", Cond.methodLink RX3 40 yX3_in, Cond.instanceMethod yX3_in, Cond.selects RX3 yX3_in yX3_in, Cond.code yX3_in cX3_in 4 (some .boolean), Cond.methodLink RX3 84 yX3_isWay, Cond.instanceMethod yX3_isWay, Cond.selects RX3 yX3_isWay yX3_isWay, Cond.code yX3_isWay cX3_isWay 2 (some .boolean), Cond.methodLink RX3 99 yX3_stopped, Cond.instanceMethod yX3_stopped, Cond.selects RX3 yX3_stopped yX3_stopped, Cond.code yX3_stopped cX3_stopped 8 (some .int), Cond.fieldLink RX3 13 "LightRoundModel" "many" "[I", Cond.fieldLink RX3 32 "LightRoundModel" "t" "[J", Cond.fieldLink RX3 17 "LightRoundModel" "kind" "[I", Cond.fieldLink RX3 20 "LightRoundModel" "first" "[I", Cond.fieldLink RX3 36 "LightRoundModel" "below" "J", Cond.methodLink RX3 73 yX3_begin]
def wsX3_full_r2 : List Cond := [Cond.instanceMethod yX3_begin, Cond.selects RX3 yX3_begin yX3_begin, Cond.code yX3_begin cX3_begin 2 none, Cond.methodLink RX3 76 yX3_go, Cond.instanceMethod yX3_go, Cond.selects RX3 yX3_go yX3_go, Cond.code yX3_go cX3_go 6 none, Cond.fieldLink RX3 23 "LightRoundModel" "second" "[I", Cond.methodLink RX3 69 yX3_bend, Cond.instanceMethod yX3_bend, Cond.selects RX3 yX3_bend yX3_bend, Cond.code yX3_bend cX3_bend 9 none]
def wsX3_full : List Cond := .code yX3_full cX3_full 4 (some .int) :: ((wsX3_full_r1 ++ wsX3_full_r2) ++ wsX30)
def wsX3_image_r1 : List Cond := [Cond.constantLong RX3 87 (-9223372036854775808), Cond.fieldLink RX3 13 "LightRoundModel" "many" "[I", Cond.fieldLink RX3 32 "LightRoundModel" "t" "[J", Cond.fieldLink RX3 36 "LightRoundModel" "below" "J", Cond.methodLink RX3 44 yX3_isBench, Cond.instanceMethod yX3_isBench, Cond.selects RX3 yX3_isBench yX3_isBench, Cond.initialized RX3, Cond.code yX3_isBench cX3_isBench 2 (some .boolean), Cond.fieldLink RX3 7 "LightRoundModel" "benches" "I", Cond.methodLink RX3 40 yX3_in, Cond.instanceMethod yX3_in, Cond.selects RX3 yX3_in yX3_in, Cond.code yX3_in cX3_in 4 (some .boolean), Cond.methodLink RX3 84 yX3_isWay, Cond.instanceMethod yX3_isWay, Cond.selects RX3 yX3_isWay yX3_isWay, Cond.code yX3_isWay cX3_isWay 2 (some .boolean), Cond.methodLink RX3 89 yX3_work, Cond.instanceMethod yX3_work, Cond.selects RX3 yX3_work yX3_work, Cond.code yX3_work cX3_work 6 none, Cond.methodLink RX3 73 yX3_begin, Cond.instanceMethod yX3_begin]
def wsX3_image_r2 : List Cond := [Cond.selects RX3 yX3_begin yX3_begin, Cond.code yX3_begin cX3_begin 2 none, Cond.methodLink RX3 76 yX3_go, Cond.instanceMethod yX3_go, Cond.selects RX3 yX3_go yX3_go, Cond.code yX3_go cX3_go 6 none, Cond.fieldLink RX3 20 "LightRoundModel" "first" "[I", Cond.fieldLink RX3 17 "LightRoundModel" "kind" "[I", Cond.fieldLink RX3 23 "LightRoundModel" "second" "[I", Cond.methodLink RX3 69 yX3_bend, Cond.instanceMethod yX3_bend, Cond.selects RX3 yX3_bend yX3_bend, Cond.code yX3_bend cX3_bend 9 none, Cond.methodLink RX3 92 yX3_lowest, Cond.instanceMethod yX3_lowest, Cond.selects RX3 yX3_lowest yX3_lowest, Cond.code yX3_lowest cX3_lowest 8 (some .long), Cond.methodLink RX3 80 yX3_divisor, Cond.instanceMethod yX3_divisor, Cond.selects RX3 yX3_divisor yX3_divisor, Cond.code yX3_divisor cX3_divisor 11 (some .long)]
def wsX3_image : List Cond := .code yX3_image cX3_image 5 (some .long) :: ((wsX3_image_r1 ++ wsX3_image_r2) ++ wsX30)
def wsX3_same_r1 : List Cond := [Cond.fieldLink RX3 13 "LightRoundModel" "many" "[I", Cond.fieldLink RX3 32 "LightRoundModel" "t" "[J", Cond.fieldLink RX3 36 "LightRoundModel" "below" "J", Cond.methodLink RX3 44 yX3_isBench, Cond.instanceMethod yX3_isBench, Cond.selects RX3 yX3_isBench yX3_isBench, Cond.initialized RX3, Cond.code yX3_isBench cX3_isBench 2 (some .boolean), Cond.fieldLink RX3 7 "LightRoundModel" "benches" "I", Cond.methodLink RX3 40 yX3_in, Cond.instanceMethod yX3_in, Cond.selects RX3 yX3_in yX3_in, Cond.code yX3_in cX3_in 4 (some .boolean), Cond.methodLink RX3 84 yX3_isWay, Cond.instanceMethod yX3_isWay, Cond.selects RX3 yX3_isWay yX3_isWay, Cond.code yX3_isWay cX3_isWay 2 (some .boolean), Cond.methodLink RX3 89 yX3_work, Cond.instanceMethod yX3_work, Cond.selects RX3 yX3_work yX3_work, Cond.code yX3_work cX3_work 6 none, Cond.methodLink RX3 73 yX3_begin, Cond.instanceMethod yX3_begin, Cond.selects RX3 yX3_begin yX3_begin]
def wsX3_same_r2 : List Cond := [Cond.code yX3_begin cX3_begin 2 none, Cond.methodLink RX3 76 yX3_go, Cond.instanceMethod yX3_go, Cond.selects RX3 yX3_go yX3_go, Cond.code yX3_go cX3_go 6 none, Cond.fieldLink RX3 20 "LightRoundModel" "first" "[I", Cond.fieldLink RX3 17 "LightRoundModel" "kind" "[I", Cond.fieldLink RX3 23 "LightRoundModel" "second" "[I", Cond.methodLink RX3 69 yX3_bend, Cond.instanceMethod yX3_bend, Cond.selects RX3 yX3_bend yX3_bend, Cond.code yX3_bend cX3_bend 9 none]
def wsX3_same : List Cond := .code yX3_same cX3_same 9 (some .int) :: ((wsX3_same_r1 ++ wsX3_same_r2) ++ wsX30)
def wsX3_traceOf : List Cond := .code yX3_traceOf cX3_traceOf 1 (some .long) :: ([.fieldLink RX3 32 "LightRoundModel" "t" "[J"] ++ wsX30)
def wsX3_isPlain : List Cond := .code yX3_isPlain cX3_isPlain 3 (some .boolean) :: ([.fieldLink RX3 32 "LightRoundModel" "t" "[J", .fieldLink RX3 36 "LightRoundModel" "below" "J"] ++ wsX30)
def wsX3_isBetween : List Cond := .code yX3_isBetween cX3_isBetween 1 (some .boolean) :: ([.constantLong RX3 107 (2), .fieldLink RX3 36 "LightRoundModel" "below" "J", .constantLong RX3 109 (-2), .methodLink RX3 103 yX3_traceOf, .instanceMethod yX3_traceOf, .selects RX3 yX3_traceOf yX3_traceOf, .initialized RX3, .code yX3_traceOf cX3_traceOf 1 (some .long), .fieldLink RX3 32 "LightRoundModel" "t" "[J"] ++ wsX30)
def wsX3_roundOf_r1 : List Cond := [Cond.fieldLink RX3 13 "LightRoundModel" "many" "[I", Cond.constantLong RX3 119 (-1), Cond.constantLong RX3 107 (2), Cond.fieldLink RX3 36 "LightRoundModel" "below" "J", Cond.constantLong RX3 109 (-2), Cond.methodLink RX3 89 yX3_work, Cond.instanceMethod yX3_work, Cond.selects RX3 yX3_work yX3_work, Cond.initialized RX3, Cond.code yX3_work cX3_work 6 none, Cond.methodLink RX3 73 yX3_begin, Cond.instanceMethod yX3_begin, Cond.selects RX3 yX3_begin yX3_begin, Cond.code yX3_begin cX3_begin 2 none, Cond.fieldLink RX3 32 "LightRoundModel" "t" "[J", Cond.methodLink RX3 76 yX3_go, Cond.instanceMethod yX3_go, Cond.selects RX3 yX3_go yX3_go, Cond.code yX3_go cX3_go 6 none, Cond.fieldLink RX3 20 "LightRoundModel" "first" "[I", Cond.fieldLink RX3 17 "LightRoundModel" "kind" "[I", Cond.fieldLink RX3 23 "LightRoundModel" "second" "[I", Cond.methodLink RX3 69 yX3_bend, Cond.instanceMethod yX3_bend]
def wsX3_roundOf_r2 : List Cond := [Cond.selects RX3 yX3_bend yX3_bend, Cond.code yX3_bend cX3_bend 9 none, Cond.methodLink RX3 111 yX3_isBetween, Cond.instanceMethod yX3_isBetween, Cond.selects RX3 yX3_isBetween yX3_isBetween, Cond.code yX3_isBetween cX3_isBetween 1 (some .boolean), Cond.methodLink RX3 103 yX3_traceOf, Cond.instanceMethod yX3_traceOf, Cond.selects RX3 yX3_traceOf yX3_traceOf, Cond.code yX3_traceOf cX3_traceOf 1 (some .long), Cond.methodLink RX3 115 yX3_isPlain, Cond.instanceMethod yX3_isPlain, Cond.selects RX3 yX3_isPlain yX3_isPlain, Cond.code yX3_isPlain cX3_isPlain 3 (some .boolean)]
def wsX3_roundOf : List Cond := .code yX3_roundOf cX3_roundOf 3 (some .int) :: ((wsX3_roundOf_r1 ++ wsX3_roundOf_r2) ++ wsX30)
def wsX3_round_r1 : List Cond := [Cond.methodLink RX3 44 yX3_isBench, Cond.instanceMethod yX3_isBench, Cond.selects RX3 yX3_isBench yX3_isBench, Cond.initialized RX3, Cond.code yX3_isBench cX3_isBench 2 (some .boolean), Cond.fieldLink RX3 7 "LightRoundModel" "benches" "I", Cond.methodLink RX3 40 yX3_in, Cond.instanceMethod yX3_in, Cond.selects RX3 yX3_in yX3_in, Cond.code yX3_in cX3_in 4 (some .boolean), Cond.methodLink RX3 84 yX3_isWay, Cond.instanceMethod yX3_isWay, Cond.selects RX3 yX3_isWay yX3_isWay, Cond.code yX3_isWay cX3_isWay 2 (some .boolean), Cond.methodLink RX3 121 yX3_roundOf, Cond.instanceMethod yX3_roundOf, Cond.selects RX3 yX3_roundOf yX3_roundOf, Cond.code yX3_roundOf cX3_roundOf 3 (some .int), Cond.fieldLink RX3 13 "LightRoundModel" "many" "[I", Cond.constantLong RX3 119 (-1), Cond.constantLong RX3 107 (2), Cond.fieldLink RX3 36 "LightRoundModel" "below" "J", Cond.constantLong RX3 109 (-2), Cond.methodLink RX3 89 yX3_work]
def wsX3_round_r2 : List Cond := [Cond.instanceMethod yX3_work, Cond.selects RX3 yX3_work yX3_work, Cond.code yX3_work cX3_work 6 none, Cond.methodLink RX3 73 yX3_begin, Cond.instanceMethod yX3_begin, Cond.selects RX3 yX3_begin yX3_begin, Cond.code yX3_begin cX3_begin 2 none, Cond.fieldLink RX3 32 "LightRoundModel" "t" "[J", Cond.methodLink RX3 76 yX3_go, Cond.instanceMethod yX3_go, Cond.selects RX3 yX3_go yX3_go, Cond.code yX3_go cX3_go 6 none, Cond.fieldLink RX3 20 "LightRoundModel" "first" "[I", Cond.fieldLink RX3 17 "LightRoundModel" "kind" "[I", Cond.fieldLink RX3 23 "LightRoundModel" "second" "[I", Cond.methodLink RX3 69 yX3_bend, Cond.instanceMethod yX3_bend, Cond.selects RX3 yX3_bend yX3_bend, Cond.code yX3_bend cX3_bend 9 none, Cond.methodLink RX3 111 yX3_isBetween, Cond.instanceMethod yX3_isBetween, Cond.selects RX3 yX3_isBetween yX3_isBetween, Cond.code yX3_isBetween cX3_isBetween 1 (some .boolean), Cond.methodLink RX3 103 yX3_traceOf]
def wsX3_round_r3 : List Cond := [Cond.instanceMethod yX3_traceOf, Cond.selects RX3 yX3_traceOf yX3_traceOf, Cond.code yX3_traceOf cX3_traceOf 1 (some .long), Cond.methodLink RX3 115 yX3_isPlain, Cond.instanceMethod yX3_isPlain, Cond.selects RX3 yX3_isPlain yX3_isPlain, Cond.code yX3_isPlain cX3_isPlain 3 (some .boolean)]
def wsX3_round : List Cond := .code yX3_round cX3_round 3 (some .int) :: ((wsX3_round_r1 ++ (wsX3_round_r2 ++ wsX3_round_r3)) ++ wsX30)
def wsX3_trace_r1 : List Cond := [Cond.constantLong RX3 87 (-9223372036854775808), Cond.fieldLink RX3 13 "LightRoundModel" "many" "[I", Cond.fieldLink RX3 36 "LightRoundModel" "below" "J", Cond.methodLink RX3 44 yX3_isBench, Cond.instanceMethod yX3_isBench, Cond.selects RX3 yX3_isBench yX3_isBench, Cond.initialized RX3, Cond.code yX3_isBench cX3_isBench 2 (some .boolean), Cond.fieldLink RX3 7 "LightRoundModel" "benches" "I", Cond.methodLink RX3 40 yX3_in, Cond.instanceMethod yX3_in, Cond.selects RX3 yX3_in yX3_in, Cond.code yX3_in cX3_in 4 (some .boolean), Cond.methodLink RX3 84 yX3_isWay, Cond.instanceMethod yX3_isWay, Cond.selects RX3 yX3_isWay yX3_isWay, Cond.code yX3_isWay cX3_isWay 2 (some .boolean), Cond.methodLink RX3 89 yX3_work, Cond.instanceMethod yX3_work, Cond.selects RX3 yX3_work yX3_work, Cond.code yX3_work cX3_work 6 none, Cond.methodLink RX3 73 yX3_begin, Cond.instanceMethod yX3_begin, Cond.selects RX3 yX3_begin yX3_begin]
def wsX3_trace_r2 : List Cond := [Cond.code yX3_begin cX3_begin 2 none, Cond.fieldLink RX3 32 "LightRoundModel" "t" "[J", Cond.methodLink RX3 76 yX3_go, Cond.instanceMethod yX3_go, Cond.selects RX3 yX3_go yX3_go, Cond.code yX3_go cX3_go 6 none, Cond.fieldLink RX3 20 "LightRoundModel" "first" "[I", Cond.fieldLink RX3 17 "LightRoundModel" "kind" "[I", Cond.fieldLink RX3 23 "LightRoundModel" "second" "[I", Cond.methodLink RX3 69 yX3_bend, Cond.instanceMethod yX3_bend, Cond.selects RX3 yX3_bend yX3_bend, Cond.code yX3_bend cX3_bend 9 none, Cond.methodLink RX3 103 yX3_traceOf, Cond.instanceMethod yX3_traceOf, Cond.selects RX3 yX3_traceOf yX3_traceOf, Cond.code yX3_traceOf cX3_traceOf 1 (some .long), Cond.methodLink RX3 92 yX3_lowest, Cond.instanceMethod yX3_lowest, Cond.selects RX3 yX3_lowest yX3_lowest, Cond.code yX3_lowest cX3_lowest 8 (some .long), Cond.methodLink RX3 80 yX3_divisor, Cond.instanceMethod yX3_divisor, Cond.selects RX3 yX3_divisor yX3_divisor]
def wsX3_trace_r3 : List Cond := [Cond.code yX3_divisor cX3_divisor 11 (some .long)]
def wsX3_trace : List Cond := .code yX3_trace cX3_trace 4 (some .long) :: ((wsX3_trace_r1 ++ (wsX3_trace_r2 ++ wsX3_trace_r3)) ++ wsX30)
def wsX3_turns_r1 : List Cond := [Cond.fieldLink RX3 13 "LightRoundModel" "many" "[I", Cond.constantLong RX3 119 (-1), Cond.fieldLink RX3 36 "LightRoundModel" "below" "J", Cond.methodLink RX3 44 yX3_isBench, Cond.instanceMethod yX3_isBench, Cond.selects RX3 yX3_isBench yX3_isBench, Cond.initialized RX3, Cond.code yX3_isBench cX3_isBench 2 (some .boolean), Cond.fieldLink RX3 7 "LightRoundModel" "benches" "I", Cond.methodLink RX3 40 yX3_in, Cond.instanceMethod yX3_in, Cond.selects RX3 yX3_in yX3_in, Cond.code yX3_in cX3_in 4 (some .boolean), Cond.methodLink RX3 84 yX3_isWay, Cond.instanceMethod yX3_isWay, Cond.selects RX3 yX3_isWay yX3_isWay, Cond.code yX3_isWay cX3_isWay 2 (some .boolean), Cond.methodLink RX3 89 yX3_work, Cond.instanceMethod yX3_work, Cond.selects RX3 yX3_work yX3_work, Cond.code yX3_work cX3_work 6 none, Cond.methodLink RX3 73 yX3_begin, Cond.instanceMethod yX3_begin, Cond.selects RX3 yX3_begin yX3_begin]
def wsX3_turns_r2 : List Cond := [Cond.code yX3_begin cX3_begin 2 none, Cond.fieldLink RX3 32 "LightRoundModel" "t" "[J", Cond.methodLink RX3 76 yX3_go, Cond.instanceMethod yX3_go, Cond.selects RX3 yX3_go yX3_go, Cond.code yX3_go cX3_go 6 none, Cond.fieldLink RX3 20 "LightRoundModel" "first" "[I", Cond.fieldLink RX3 17 "LightRoundModel" "kind" "[I", Cond.fieldLink RX3 23 "LightRoundModel" "second" "[I", Cond.methodLink RX3 69 yX3_bend, Cond.instanceMethod yX3_bend, Cond.selects RX3 yX3_bend yX3_bend, Cond.code yX3_bend cX3_bend 9 none, Cond.methodLink RX3 115 yX3_isPlain, Cond.instanceMethod yX3_isPlain, Cond.selects RX3 yX3_isPlain yX3_isPlain, Cond.code yX3_isPlain cX3_isPlain 3 (some .boolean), Cond.methodLink RX3 103 yX3_traceOf, Cond.instanceMethod yX3_traceOf, Cond.selects RX3 yX3_traceOf yX3_traceOf, Cond.code yX3_traceOf cX3_traceOf 1 (some .long)]
def wsX3_turns : List Cond := .code yX3_turns cX3_turns 3 (some .int) :: ((wsX3_turns_r1 ++ wsX3_turns_r2) ++ wsX30)
def wsX3_wideAbove : List Cond := .code yX3_wideAbove cX3_wideAbove 1 (some .long) :: ([.constantLong RX3 125 (4), .fieldLink RX3 32 "LightRoundModel" "t" "[J"] ++ wsX30)
def wsX3_wideBelow : List Cond := .code yX3_wideBelow cX3_wideBelow 1 (some .long) :: ([.constantLong RX3 125 (4), .fieldLink RX3 36 "LightRoundModel" "below" "J", .methodLink RX3 103 yX3_traceOf, .instanceMethod yX3_traceOf, .selects RX3 yX3_traceOf yX3_traceOf, .initialized RX3, .code yX3_traceOf cX3_traceOf 1 (some .long), .fieldLink RX3 32 "LightRoundModel" "t" "[J"] ++ wsX30)
def wsX3_beam_r1 : List Cond := [Cond.constantLong RX3 87 (-9223372036854775808), Cond.fieldLink RX3 13 "LightRoundModel" "many" "[I", Cond.fieldLink RX3 32 "LightRoundModel" "t" "[J", Cond.constantLong RX3 107 (2), Cond.methodLink RX3 65 yX3_isPart, Cond.instanceMethod yX3_isPart, Cond.selects RX3 yX3_isPart yX3_isPart, Cond.initialized RX3, Cond.code yX3_isPart cX3_isPart 3 (some .boolean), Cond.methodLink RX3 44 yX3_isBench, Cond.instanceMethod yX3_isBench, Cond.selects RX3 yX3_isBench yX3_isBench, Cond.code yX3_isBench cX3_isBench 2 (some .boolean), Cond.fieldLink RX3 7 "LightRoundModel" "benches" "I", Cond.methodLink RX3 40 yX3_in, Cond.instanceMethod yX3_in, Cond.selects RX3 yX3_in yX3_in, Cond.code yX3_in cX3_in 4 (some .boolean), Cond.methodLink RX3 84 yX3_isWay, Cond.instanceMethod yX3_isWay, Cond.selects RX3 yX3_isWay yX3_isWay, Cond.code yX3_isWay cX3_isWay 2 (some .boolean), Cond.methodLink RX3 89 yX3_work, Cond.instanceMethod yX3_work]
def wsX3_beam_r2 : List Cond := [Cond.selects RX3 yX3_work yX3_work, Cond.code yX3_work cX3_work 6 none, Cond.methodLink RX3 73 yX3_begin, Cond.instanceMethod yX3_begin, Cond.selects RX3 yX3_begin yX3_begin, Cond.code yX3_begin cX3_begin 2 none, Cond.fieldLink RX3 36 "LightRoundModel" "below" "J", Cond.methodLink RX3 76 yX3_go, Cond.instanceMethod yX3_go, Cond.selects RX3 yX3_go yX3_go, Cond.code yX3_go cX3_go 6 none, Cond.fieldLink RX3 20 "LightRoundModel" "first" "[I", Cond.fieldLink RX3 17 "LightRoundModel" "kind" "[I", Cond.fieldLink RX3 23 "LightRoundModel" "second" "[I", Cond.methodLink RX3 69 yX3_bend, Cond.instanceMethod yX3_bend, Cond.selects RX3 yX3_bend yX3_bend, Cond.code yX3_bend cX3_bend 9 none, Cond.methodLink RX3 111 yX3_isBetween, Cond.instanceMethod yX3_isBetween, Cond.selects RX3 yX3_isBetween yX3_isBetween, Cond.code yX3_isBetween cX3_isBetween 1 (some .boolean), Cond.constantLong RX3 109 (-2), Cond.methodLink RX3 103 yX3_traceOf]
def wsX3_beam_r3 : List Cond := [Cond.instanceMethod yX3_traceOf, Cond.selects RX3 yX3_traceOf yX3_traceOf, Cond.code yX3_traceOf cX3_traceOf 1 (some .long), Cond.methodLink RX3 127 yX3_wideAbove, Cond.instanceMethod yX3_wideAbove, Cond.selects RX3 yX3_wideAbove yX3_wideAbove, Cond.code yX3_wideAbove cX3_wideAbove 1 (some .long), Cond.constantLong RX3 125 (4), Cond.methodLink RX3 130 yX3_wideBelow, Cond.instanceMethod yX3_wideBelow, Cond.selects RX3 yX3_wideBelow yX3_wideBelow, Cond.code yX3_wideBelow cX3_wideBelow 1 (some .long), Cond.methodLink RX3 92 yX3_lowest, Cond.instanceMethod yX3_lowest, Cond.selects RX3 yX3_lowest yX3_lowest, Cond.code yX3_lowest cX3_lowest 8 (some .long), Cond.methodLink RX3 80 yX3_divisor, Cond.instanceMethod yX3_divisor, Cond.selects RX3 yX3_divisor yX3_divisor, Cond.code yX3_divisor cX3_divisor 11 (some .long)]
def wsX3_beam : List Cond := .code yX3_beam cX3_beam 6 (some .long) :: ((wsX3_beam_r1 ++ (wsX3_beam_r2 ++ wsX3_beam_r3)) ++ wsX30)
def wsX3_waist_r1 : List Cond := [Cond.fieldLink RX3 13 "LightRoundModel" "many" "[I", Cond.fieldLink RX3 32 "LightRoundModel" "t" "[J", Cond.methodLink RX3 44 yX3_isBench, Cond.instanceMethod yX3_isBench, Cond.selects RX3 yX3_isBench yX3_isBench, Cond.initialized RX3, Cond.code yX3_isBench cX3_isBench 2 (some .boolean), Cond.fieldLink RX3 7 "LightRoundModel" "benches" "I", Cond.methodLink RX3 40 yX3_in, Cond.instanceMethod yX3_in, Cond.selects RX3 yX3_in yX3_in, Cond.code yX3_in cX3_in 4 (some .boolean), Cond.methodLink RX3 84 yX3_isWay, Cond.instanceMethod yX3_isWay, Cond.selects RX3 yX3_isWay yX3_isWay, Cond.code yX3_isWay cX3_isWay 2 (some .boolean), Cond.methodLink RX3 89 yX3_work, Cond.instanceMethod yX3_work, Cond.selects RX3 yX3_work yX3_work, Cond.code yX3_work cX3_work 6 none, Cond.methodLink RX3 73 yX3_begin, Cond.instanceMethod yX3_begin, Cond.selects RX3 yX3_begin yX3_begin, Cond.code yX3_begin cX3_begin 2 none]
def wsX3_waist_r2 : List Cond := [Cond.fieldLink RX3 36 "LightRoundModel" "below" "J", Cond.methodLink RX3 76 yX3_go, Cond.instanceMethod yX3_go, Cond.selects RX3 yX3_go yX3_go, Cond.code yX3_go cX3_go 6 none, Cond.fieldLink RX3 20 "LightRoundModel" "first" "[I", Cond.fieldLink RX3 17 "LightRoundModel" "kind" "[I", Cond.fieldLink RX3 23 "LightRoundModel" "second" "[I", Cond.methodLink RX3 69 yX3_bend, Cond.instanceMethod yX3_bend, Cond.selects RX3 yX3_bend yX3_bend, Cond.code yX3_bend cX3_bend 9 none, Cond.methodLink RX3 111 yX3_isBetween, Cond.instanceMethod yX3_isBetween, Cond.selects RX3 yX3_isBetween yX3_isBetween, Cond.code yX3_isBetween cX3_isBetween 1 (some .boolean), Cond.constantLong RX3 107 (2), Cond.constantLong RX3 109 (-2), Cond.methodLink RX3 103 yX3_traceOf, Cond.instanceMethod yX3_traceOf, Cond.selects RX3 yX3_traceOf yX3_traceOf, Cond.code yX3_traceOf cX3_traceOf 1 (some .long)]
def wsX3_waist : List Cond := .code yX3_waist cX3_waist 9 (some .int) :: ((wsX3_waist_r1 ++ wsX3_waist_r2) ++ wsX30)
def wsX3_axis_r1 : List Cond := [Cond.constantLong RX3 87 (-9223372036854775808), Cond.fieldLink RX3 13 "LightRoundModel" "many" "[I", Cond.constantLong RX3 107 (2), Cond.fieldLink RX3 36 "LightRoundModel" "below" "J", Cond.fieldLink RX3 32 "LightRoundModel" "t" "[J", Cond.methodLink RX3 65 yX3_isPart, Cond.instanceMethod yX3_isPart, Cond.selects RX3 yX3_isPart yX3_isPart, Cond.initialized RX3, Cond.code yX3_isPart cX3_isPart 3 (some .boolean), Cond.methodLink RX3 44 yX3_isBench, Cond.instanceMethod yX3_isBench, Cond.selects RX3 yX3_isBench yX3_isBench, Cond.code yX3_isBench cX3_isBench 2 (some .boolean), Cond.fieldLink RX3 7 "LightRoundModel" "benches" "I", Cond.methodLink RX3 40 yX3_in, Cond.instanceMethod yX3_in, Cond.selects RX3 yX3_in yX3_in, Cond.code yX3_in cX3_in 4 (some .boolean), Cond.methodLink RX3 84 yX3_isWay, Cond.instanceMethod yX3_isWay, Cond.selects RX3 yX3_isWay yX3_isWay, Cond.code yX3_isWay cX3_isWay 2 (some .boolean), Cond.methodLink RX3 89 yX3_work]
def wsX3_axis_r2 : List Cond := [Cond.instanceMethod yX3_work, Cond.selects RX3 yX3_work yX3_work, Cond.code yX3_work cX3_work 6 none, Cond.methodLink RX3 73 yX3_begin, Cond.instanceMethod yX3_begin, Cond.selects RX3 yX3_begin yX3_begin, Cond.code yX3_begin cX3_begin 2 none, Cond.methodLink RX3 76 yX3_go, Cond.instanceMethod yX3_go, Cond.selects RX3 yX3_go yX3_go, Cond.code yX3_go cX3_go 6 none, Cond.fieldLink RX3 20 "LightRoundModel" "first" "[I", Cond.fieldLink RX3 17 "LightRoundModel" "kind" "[I", Cond.fieldLink RX3 23 "LightRoundModel" "second" "[I", Cond.methodLink RX3 69 yX3_bend, Cond.instanceMethod yX3_bend, Cond.selects RX3 yX3_bend yX3_bend, Cond.code yX3_bend cX3_bend 9 none, Cond.methodLink RX3 103 yX3_traceOf, Cond.instanceMethod yX3_traceOf, Cond.selects RX3 yX3_traceOf yX3_traceOf, Cond.code yX3_traceOf cX3_traceOf 1 (some .long), Cond.methodLink RX3 92 yX3_lowest, Cond.instanceMethod yX3_lowest]
def wsX3_axis_r3 : List Cond := [Cond.selects RX3 yX3_lowest yX3_lowest, Cond.code yX3_lowest cX3_lowest 8 (some .long), Cond.methodLink RX3 80 yX3_divisor, Cond.instanceMethod yX3_divisor, Cond.selects RX3 yX3_divisor yX3_divisor, Cond.code yX3_divisor cX3_divisor 11 (some .long)]
def wsX3_axis : List Cond := .code yX3_axis cX3_axis 8 (some .long) :: ((wsX3_axis_r1 ++ (wsX3_axis_r2 ++ wsX3_axis_r3)) ++ wsX30)
def wsX3_holdsBoth_r1 : List Cond := [Cond.methodLink RX3 121 yX3_roundOf, Cond.instanceMethod yX3_roundOf, Cond.selects RX3 yX3_roundOf yX3_roundOf, Cond.initialized RX3, Cond.code yX3_roundOf cX3_roundOf 3 (some .int), Cond.fieldLink RX3 13 "LightRoundModel" "many" "[I", Cond.constantLong RX3 119 (-1), Cond.constantLong RX3 107 (2), Cond.fieldLink RX3 36 "LightRoundModel" "below" "J", Cond.constantLong RX3 109 (-2), Cond.methodLink RX3 89 yX3_work, Cond.instanceMethod yX3_work, Cond.selects RX3 yX3_work yX3_work, Cond.code yX3_work cX3_work 6 none, Cond.methodLink RX3 73 yX3_begin, Cond.instanceMethod yX3_begin, Cond.selects RX3 yX3_begin yX3_begin, Cond.code yX3_begin cX3_begin 2 none, Cond.fieldLink RX3 32 "LightRoundModel" "t" "[J", Cond.methodLink RX3 76 yX3_go, Cond.instanceMethod yX3_go, Cond.selects RX3 yX3_go yX3_go, Cond.code yX3_go cX3_go 6 none, Cond.fieldLink RX3 20 "LightRoundModel" "first" "[I"]
def wsX3_holdsBoth_r2 : List Cond := [Cond.fieldLink RX3 17 "LightRoundModel" "kind" "[I", Cond.fieldLink RX3 23 "LightRoundModel" "second" "[I", Cond.methodLink RX3 69 yX3_bend, Cond.instanceMethod yX3_bend, Cond.selects RX3 yX3_bend yX3_bend, Cond.code yX3_bend cX3_bend 9 none, Cond.methodLink RX3 111 yX3_isBetween, Cond.instanceMethod yX3_isBetween, Cond.selects RX3 yX3_isBetween yX3_isBetween, Cond.code yX3_isBetween cX3_isBetween 1 (some .boolean), Cond.methodLink RX3 103 yX3_traceOf, Cond.instanceMethod yX3_traceOf, Cond.selects RX3 yX3_traceOf yX3_traceOf, Cond.code yX3_traceOf cX3_traceOf 1 (some .long), Cond.methodLink RX3 115 yX3_isPlain, Cond.instanceMethod yX3_isPlain, Cond.selects RX3 yX3_isPlain yX3_isPlain, Cond.code yX3_isPlain cX3_isPlain 3 (some .boolean)]
def wsX3_holdsBoth : List Cond := .code yX3_holdsBoth cX3_holdsBoth 2 (some .boolean) :: ((wsX3_holdsBoth_r1 ++ wsX3_holdsBoth_r2) ++ wsX30)
def wsX3_holdsWith_r1 : List Cond := [Cond.fieldLink RX3 20 "LightRoundModel" "first" "[I", Cond.methodLink RX3 133 yX3_holdsBoth, Cond.instanceMethod yX3_holdsBoth, Cond.selects RX3 yX3_holdsBoth yX3_holdsBoth, Cond.initialized RX3, Cond.code yX3_holdsBoth cX3_holdsBoth 2 (some .boolean), Cond.methodLink RX3 121 yX3_roundOf, Cond.instanceMethod yX3_roundOf, Cond.selects RX3 yX3_roundOf yX3_roundOf, Cond.code yX3_roundOf cX3_roundOf 3 (some .int), Cond.fieldLink RX3 13 "LightRoundModel" "many" "[I", Cond.constantLong RX3 119 (-1), Cond.constantLong RX3 107 (2), Cond.fieldLink RX3 36 "LightRoundModel" "below" "J", Cond.constantLong RX3 109 (-2), Cond.methodLink RX3 89 yX3_work, Cond.instanceMethod yX3_work, Cond.selects RX3 yX3_work yX3_work, Cond.code yX3_work cX3_work 6 none, Cond.methodLink RX3 73 yX3_begin, Cond.instanceMethod yX3_begin, Cond.selects RX3 yX3_begin yX3_begin, Cond.code yX3_begin cX3_begin 2 none, Cond.fieldLink RX3 32 "LightRoundModel" "t" "[J"]
def wsX3_holdsWith_r2 : List Cond := [Cond.methodLink RX3 76 yX3_go, Cond.instanceMethod yX3_go, Cond.selects RX3 yX3_go yX3_go, Cond.code yX3_go cX3_go 6 none, Cond.fieldLink RX3 17 "LightRoundModel" "kind" "[I", Cond.fieldLink RX3 23 "LightRoundModel" "second" "[I", Cond.methodLink RX3 69 yX3_bend, Cond.instanceMethod yX3_bend, Cond.selects RX3 yX3_bend yX3_bend, Cond.code yX3_bend cX3_bend 9 none, Cond.methodLink RX3 111 yX3_isBetween, Cond.instanceMethod yX3_isBetween, Cond.selects RX3 yX3_isBetween yX3_isBetween, Cond.code yX3_isBetween cX3_isBetween 1 (some .boolean), Cond.methodLink RX3 103 yX3_traceOf, Cond.instanceMethod yX3_traceOf, Cond.selects RX3 yX3_traceOf yX3_traceOf, Cond.code yX3_traceOf cX3_traceOf 1 (some .long), Cond.methodLink RX3 115 yX3_isPlain, Cond.instanceMethod yX3_isPlain, Cond.selects RX3 yX3_isPlain yX3_isPlain, Cond.code yX3_isPlain cX3_isPlain 3 (some .boolean)]
def wsX3_holdsWith : List Cond := .code yX3_holdsWith cX3_holdsWith 6 (some .boolean) :: ((wsX3_holdsWith_r1 ++ wsX3_holdsWith_r2) ++ wsX30)
def wsX3_span_r1 : List Cond := [Cond.fieldLink RX3 17 "LightRoundModel" "kind" "[I", Cond.methodLink RX3 65 yX3_isPart, Cond.instanceMethod yX3_isPart, Cond.selects RX3 yX3_isPart yX3_isPart, Cond.initialized RX3, Cond.code yX3_isPart cX3_isPart 3 (some .boolean), Cond.fieldLink RX3 13 "LightRoundModel" "many" "[I", Cond.methodLink RX3 44 yX3_isBench, Cond.instanceMethod yX3_isBench, Cond.selects RX3 yX3_isBench yX3_isBench, Cond.code yX3_isBench cX3_isBench 2 (some .boolean), Cond.fieldLink RX3 7 "LightRoundModel" "benches" "I", Cond.methodLink RX3 40 yX3_in, Cond.instanceMethod yX3_in, Cond.selects RX3 yX3_in yX3_in, Cond.code yX3_in cX3_in 4 (some .boolean), Cond.methodLink RX3 136 yX3_holdsWith, Cond.instanceMethod yX3_holdsWith, Cond.selects RX3 yX3_holdsWith yX3_holdsWith, Cond.code yX3_holdsWith cX3_holdsWith 6 (some .boolean), Cond.fieldLink RX3 20 "LightRoundModel" "first" "[I", Cond.methodLink RX3 133 yX3_holdsBoth, Cond.instanceMethod yX3_holdsBoth, Cond.selects RX3 yX3_holdsBoth yX3_holdsBoth]
def wsX3_span_r2 : List Cond := [Cond.code yX3_holdsBoth cX3_holdsBoth 2 (some .boolean), Cond.methodLink RX3 121 yX3_roundOf, Cond.instanceMethod yX3_roundOf, Cond.selects RX3 yX3_roundOf yX3_roundOf, Cond.code yX3_roundOf cX3_roundOf 3 (some .int), Cond.constantLong RX3 119 (-1), Cond.constantLong RX3 107 (2), Cond.fieldLink RX3 36 "LightRoundModel" "below" "J", Cond.constantLong RX3 109 (-2), Cond.methodLink RX3 89 yX3_work, Cond.instanceMethod yX3_work, Cond.selects RX3 yX3_work yX3_work, Cond.code yX3_work cX3_work 6 none, Cond.methodLink RX3 73 yX3_begin, Cond.instanceMethod yX3_begin, Cond.selects RX3 yX3_begin yX3_begin, Cond.code yX3_begin cX3_begin 2 none, Cond.fieldLink RX3 32 "LightRoundModel" "t" "[J", Cond.methodLink RX3 76 yX3_go, Cond.instanceMethod yX3_go, Cond.selects RX3 yX3_go yX3_go, Cond.code yX3_go cX3_go 6 none, Cond.fieldLink RX3 23 "LightRoundModel" "second" "[I", Cond.methodLink RX3 69 yX3_bend]
def wsX3_span_r3 : List Cond := [Cond.instanceMethod yX3_bend, Cond.selects RX3 yX3_bend yX3_bend, Cond.code yX3_bend cX3_bend 9 none, Cond.methodLink RX3 111 yX3_isBetween, Cond.instanceMethod yX3_isBetween, Cond.selects RX3 yX3_isBetween yX3_isBetween, Cond.code yX3_isBetween cX3_isBetween 1 (some .boolean), Cond.methodLink RX3 103 yX3_traceOf, Cond.instanceMethod yX3_traceOf, Cond.selects RX3 yX3_traceOf yX3_traceOf, Cond.code yX3_traceOf cX3_traceOf 1 (some .long), Cond.methodLink RX3 115 yX3_isPlain, Cond.instanceMethod yX3_isPlain, Cond.selects RX3 yX3_isPlain yX3_isPlain, Cond.code yX3_isPlain cX3_isPlain 3 (some .boolean)]
def wsX3_span : List Cond := .code yX3_span cX3_span 6 (some .int) :: ((wsX3_span_r1 ++ (wsX3_span_r2 ++ wsX3_span_r3)) ++ wsX30)
def wsX3_own : List Cond := .code yX3_own cX3_own 2 (some .int) :: ([.fieldLink RX3 26 "LightRoundModel" "drawn" "I", .fieldLink RX3 29 "LightRoundModel" "drawer" "[I", .methodLink RX3 48 yX3_isBent, .instanceMethod yX3_isBent, .selects RX3 yX3_isBent yX3_isBent, .initialized RX3, .code yX3_isBent cX3_isBent 2 (some .boolean), .methodLink RX3 40 yX3_in, .instanceMethod yX3_in, .selects RX3 yX3_in yX3_in, .code yX3_in cX3_in 4 (some .boolean)] ++ wsX30)
def wsX3_fit_r1 : List Cond := [Cond.fieldLink RX3 17 "LightRoundModel" "kind" "[I", Cond.fieldLink RX3 26 "LightRoundModel" "drawn" "I", Cond.fieldLink RX3 29 "LightRoundModel" "drawer" "[I", Cond.methodLink RX3 65 yX3_isPart, Cond.instanceMethod yX3_isPart, Cond.selects RX3 yX3_isPart yX3_isPart, Cond.initialized RX3, Cond.code yX3_isPart cX3_isPart 3 (some .boolean), Cond.fieldLink RX3 13 "LightRoundModel" "many" "[I", Cond.methodLink RX3 44 yX3_isBench, Cond.instanceMethod yX3_isBench, Cond.selects RX3 yX3_isBench yX3_isBench, Cond.code yX3_isBench cX3_isBench 2 (some .boolean), Cond.fieldLink RX3 7 "LightRoundModel" "benches" "I", Cond.methodLink RX3 40 yX3_in, Cond.instanceMethod yX3_in, Cond.selects RX3 yX3_in yX3_in, Cond.code yX3_in cX3_in 4 (some .boolean), Cond.methodLink RX3 136 yX3_holdsWith, Cond.instanceMethod yX3_holdsWith, Cond.selects RX3 yX3_holdsWith yX3_holdsWith, Cond.code yX3_holdsWith cX3_holdsWith 6 (some .boolean), Cond.fieldLink RX3 20 "LightRoundModel" "first" "[I", Cond.methodLink RX3 133 yX3_holdsBoth]
def wsX3_fit_r2 : List Cond := [Cond.instanceMethod yX3_holdsBoth, Cond.selects RX3 yX3_holdsBoth yX3_holdsBoth, Cond.code yX3_holdsBoth cX3_holdsBoth 2 (some .boolean), Cond.methodLink RX3 121 yX3_roundOf, Cond.instanceMethod yX3_roundOf, Cond.selects RX3 yX3_roundOf yX3_roundOf, Cond.code yX3_roundOf cX3_roundOf 3 (some .int), Cond.constantLong RX3 119 (-1), Cond.constantLong RX3 107 (2), Cond.fieldLink RX3 36 "LightRoundModel" "below" "J", Cond.constantLong RX3 109 (-2), Cond.methodLink RX3 89 yX3_work, Cond.instanceMethod yX3_work, Cond.selects RX3 yX3_work yX3_work, Cond.code yX3_work cX3_work 6 none, Cond.methodLink RX3 73 yX3_begin, Cond.instanceMethod yX3_begin, Cond.selects RX3 yX3_begin yX3_begin, Cond.code yX3_begin cX3_begin 2 none, Cond.fieldLink RX3 32 "LightRoundModel" "t" "[J", Cond.methodLink RX3 76 yX3_go, Cond.instanceMethod yX3_go, Cond.selects RX3 yX3_go yX3_go, Cond.code yX3_go cX3_go 6 none]
def wsX3_fit_r3 : List Cond := [Cond.fieldLink RX3 23 "LightRoundModel" "second" "[I", Cond.methodLink RX3 69 yX3_bend, Cond.instanceMethod yX3_bend, Cond.selects RX3 yX3_bend yX3_bend, Cond.code yX3_bend cX3_bend 9 none, Cond.methodLink RX3 111 yX3_isBetween, Cond.instanceMethod yX3_isBetween, Cond.selects RX3 yX3_isBetween yX3_isBetween, Cond.code yX3_isBetween cX3_isBetween 1 (some .boolean), Cond.methodLink RX3 103 yX3_traceOf, Cond.instanceMethod yX3_traceOf, Cond.selects RX3 yX3_traceOf yX3_traceOf, Cond.code yX3_traceOf cX3_traceOf 1 (some .long), Cond.methodLink RX3 115 yX3_isPlain, Cond.instanceMethod yX3_isPlain, Cond.selects RX3 yX3_isPlain yX3_isPlain, Cond.code yX3_isPlain cX3_isPlain 3 (some .boolean)]
def wsX3_fit : List Cond := .code yX3_fit cX3_fit 4 (some .int) :: ((wsX3_fit_r1 ++ (wsX3_fit_r2 ++ wsX3_fit_r3)) ++ wsX30)
def wsX3_swap : List Cond := .code yX3_swap cX3_swap 5 (some .int) :: ([.fieldLink RX3 26 "LightRoundModel" "drawn" "I", .fieldLink RX3 17 "LightRoundModel" "kind" "[I", .fieldLink RX3 20 "LightRoundModel" "first" "[I", .fieldLink RX3 29 "LightRoundModel" "drawer" "[I", .methodLink RX3 65 yX3_isPart, .instanceMethod yX3_isPart, .selects RX3 yX3_isPart yX3_isPart, .initialized RX3, .code yX3_isPart cX3_isPart 3 (some .boolean), .fieldLink RX3 13 "LightRoundModel" "many" "[I", .methodLink RX3 44 yX3_isBench, .instanceMethod yX3_isBench, .selects RX3 yX3_isBench yX3_isBench, .code yX3_isBench cX3_isBench 2 (some .boolean), .fieldLink RX3 7 "LightRoundModel" "benches" "I", .methodLink RX3 40 yX3_in, .instanceMethod yX3_in, .selects RX3 yX3_in yX3_in, .code yX3_in cX3_in 4 (some .boolean)] ++ wsX30)
def wsX3_count_r1 : List Cond := [Cond.fieldLink RX3 7 "LightRoundModel" "benches" "I", Cond.fieldLink RX3 13 "LightRoundModel" "many" "[I", Cond.fieldLink RX3 26 "LightRoundModel" "drawn" "I", Cond.methodLink RX3 133 yX3_holdsBoth, Cond.instanceMethod yX3_holdsBoth, Cond.selects RX3 yX3_holdsBoth yX3_holdsBoth, Cond.initialized RX3, Cond.code yX3_holdsBoth cX3_holdsBoth 2 (some .boolean), Cond.methodLink RX3 121 yX3_roundOf, Cond.instanceMethod yX3_roundOf, Cond.selects RX3 yX3_roundOf yX3_roundOf, Cond.code yX3_roundOf cX3_roundOf 3 (some .int), Cond.constantLong RX3 119 (-1), Cond.constantLong RX3 107 (2), Cond.fieldLink RX3 36 "LightRoundModel" "below" "J", Cond.constantLong RX3 109 (-2), Cond.methodLink RX3 89 yX3_work, Cond.instanceMethod yX3_work, Cond.selects RX3 yX3_work yX3_work, Cond.code yX3_work cX3_work 6 none, Cond.methodLink RX3 73 yX3_begin, Cond.instanceMethod yX3_begin, Cond.selects RX3 yX3_begin yX3_begin, Cond.code yX3_begin cX3_begin 2 none]
def wsX3_count_r2 : List Cond := [Cond.fieldLink RX3 32 "LightRoundModel" "t" "[J", Cond.methodLink RX3 76 yX3_go, Cond.instanceMethod yX3_go, Cond.selects RX3 yX3_go yX3_go, Cond.code yX3_go cX3_go 6 none, Cond.fieldLink RX3 20 "LightRoundModel" "first" "[I", Cond.fieldLink RX3 17 "LightRoundModel" "kind" "[I", Cond.fieldLink RX3 23 "LightRoundModel" "second" "[I", Cond.methodLink RX3 69 yX3_bend, Cond.instanceMethod yX3_bend, Cond.selects RX3 yX3_bend yX3_bend, Cond.code yX3_bend cX3_bend 9 none, Cond.methodLink RX3 111 yX3_isBetween, Cond.instanceMethod yX3_isBetween, Cond.selects RX3 yX3_isBetween yX3_isBetween, Cond.code yX3_isBetween cX3_isBetween 1 (some .boolean), Cond.methodLink RX3 103 yX3_traceOf, Cond.instanceMethod yX3_traceOf, Cond.selects RX3 yX3_traceOf yX3_traceOf, Cond.code yX3_traceOf cX3_traceOf 1 (some .long), Cond.methodLink RX3 115 yX3_isPlain, Cond.instanceMethod yX3_isPlain, Cond.selects RX3 yX3_isPlain yX3_isPlain, Cond.code yX3_isPlain cX3_isPlain 3 (some .boolean)]
def wsX3_count : List Cond := .code yX3_count cX3_count 4 (some .int) :: ((wsX3_count_r1 ++ wsX3_count_r2) ++ wsX30)
def wsX3_drawer : List Cond := .code yX3_drawer cX3_drawer 2 (some .int) :: ([.fieldLink RX3 26 "LightRoundModel" "drawn" "I", .fieldLink RX3 29 "LightRoundModel" "drawer" "[I", .methodLink RX3 40 yX3_in, .instanceMethod yX3_in, .selects RX3 yX3_in yX3_in, .initialized RX3, .code yX3_in cX3_in 4 (some .boolean)] ++ wsX30)
def wsJ9_abs_067f4 : List Cond := .code yJ9_abs_067f4 cJ9_abs_067f4 2 (some .long) :: ([])
def wsJ9_min_f86c9 : List Cond := .code yJ9_min_f86c9 cJ9_min_f86c9 4 (some .long) :: ([])
def wsL_law_r1 : List Cond := [Cond.classLink RL 7 RX2, Cond.instantiable RX2 6, Cond.initialized RX2, Cond.classLink RL 10 RX3, Cond.instantiable RX3 9, Cond.initialized RX3, Cond.methodLink RL 9 yX2_init, Cond.instanceMethod yX2_init, Cond.code yX2_init cX2_init 1 none, Cond.methodLink RX2 3 objectInit, Cond.instanceMethod objectInit, Cond.code objectInit ⟨#[0xb1]⟩ 1 none, Cond.classLink RX2 11 RX0, Cond.fieldLink RX2 13 "LightRound" "rows" "[LLightRound$Row;", Cond.fieldLink RX2 17 "LightRound" "rowCount" "I", Cond.arrayClass .int, Cond.fieldLink RX2 21 "LightRound" "lengths" "[I", Cond.fieldLink RX2 25 "LightRound" "lengthCount" "I", Cond.classLink RX2 28 RX1, Cond.instantiable RX1 7, Cond.initialized RX1, Cond.fieldLink RX2 31 "LightRound" "led" "LLightRound$Table;", Cond.fieldLink RX2 35 "LightRound" "ledToo" "LLightRound$Table;", Cond.instanceMethod yX1_init]
def wsL_law_r2 : List Cond := [Cond.code yX1_init cX1_init 1 none, Cond.methodLink RX1 3 objectInit, Cond.methodLink RL 12 yX3_init, Cond.instanceMethod yX3_init, Cond.code yX3_init cX3_init 1 none, Cond.methodLink RX3 1 objectInit, Cond.fieldLink RX3 7 "LightRoundModel" "benches" "I", Cond.fieldLink RX3 13 "LightRoundModel" "many" "[I", Cond.fieldLink RX3 17 "LightRoundModel" "kind" "[I", Cond.fieldLink RX3 20 "LightRoundModel" "first" "[I", Cond.fieldLink RX3 23 "LightRoundModel" "second" "[I", Cond.fieldLink RX3 26 "LightRoundModel" "drawn" "I", Cond.fieldLink RX3 29 "LightRoundModel" "drawer" "[I", Cond.arrayClass .long, Cond.fieldLink RX3 32 "LightRoundModel" "t" "[J", Cond.fieldLink RX3 36 "LightRoundModel" "below" "J", Cond.methodLink RL 13 yX2_bench, Cond.instanceMethod yX2_bench, Cond.selects RX2 yX2_bench yX2_bench, Cond.code yX2_bench cX2_bench 1 (some .int), Cond.instantiable RX0 4, Cond.initialized RX0, Cond.methodLink RX2 38 yX0_init, Cond.instanceMethod yX0_init]
def wsL_law_r3 : List Cond := [Cond.code yX0_init cX0_init 1 none, Cond.methodLink RX0 3 objectInit, Cond.fieldLink RX0 9 "LightRound$Row" "kinds" "[I", Cond.fieldLink RX0 15 "LightRound$Row" "firsts" "[I", Cond.fieldLink RX0 18 "LightRound$Row" "seconds" "[I", Cond.fieldLink RX0 21 "LightRound$Row" "size" "I", Cond.methodLink RL 17 yX3_bench, Cond.instanceMethod yX3_bench, Cond.selects RX3 yX3_bench yX3_bench, Cond.code yX3_bench cX3_bench 1 (some .int), Cond.methodLink RL 18 yX2_put, Cond.instanceMethod yX2_put, Cond.selects RX2 yX2_put yX2_put, Cond.code yX2_put cX2_put 7 (some .int), Cond.fieldLink RX2 43 "LightRound$Row" "size" "I", Cond.methodLink RX2 39 yX2_rowAt, Cond.instanceMethod yX2_rowAt, Cond.selects RX2 yX2_rowAt yX2_rowAt, Cond.code yX2_rowAt cX2_rowAt 2 (some (.object "LightRound$Row")), Cond.methodLink RX2 46 yX2_isPart, Cond.static yX2_isPart, Cond.code yX2_isPart cX2_isPart 3 (some .boolean), Cond.methodLink RX2 188 yX2_isStrength, Cond.static yX2_isStrength]
def wsL_law_r4 : List Cond := [Cond.code yX2_isStrength cX2_isStrength 1 (some .boolean), Cond.methodLink RX2 50 yX0_hasRoomFor, Cond.instanceMethod yX0_hasRoomFor, Cond.selects RX0 yX0_hasRoomFor yX0_hasRoomFor, Cond.code yX0_hasRoomFor cX0_hasRoomFor 2 (some .boolean), Cond.methodLink RX0 25 yX0_bending, Cond.instanceMethod yX0_bending, Cond.selects RX0 yX0_bending yX0_bending, Cond.code yX0_bending cX0_bending 3 (some .int), Cond.methodLink RX0 29 yX0_tilts, Cond.instanceMethod yX0_tilts, Cond.selects RX0 yX0_tilts yX0_tilts, Cond.code yX0_tilts cX0_tilts 3 (some .int), Cond.methodLink RX2 54 yX0_insert, Cond.instanceMethod yX0_insert, Cond.selects RX0 yX0_insert yX0_insert, Cond.code yX0_insert cX0_insert 6 none, Cond.methodLink RX0 32 yX0_write, Cond.instanceMethod yX0_write, Cond.selects RX0 yX0_write yX0_write, Cond.code yX0_write cX0_write 5 none, Cond.methodLink RL 22 yX3_put, Cond.instanceMethod yX3_put, Cond.selects RX3 yX3_put yX3_put]
def wsL_law_r5 : List Cond := [Cond.code yX3_put cX3_put 7 (some .int), Cond.methodLink RX3 44 yX3_isBench, Cond.instanceMethod yX3_isBench, Cond.selects RX3 yX3_isBench yX3_isBench, Cond.code yX3_isBench cX3_isBench 2 (some .boolean), Cond.methodLink RX3 40 yX3_in, Cond.instanceMethod yX3_in, Cond.selects RX3 yX3_in yX3_in, Cond.code yX3_in cX3_in 4 (some .boolean), Cond.methodLink RX3 51 yX3_isGood, Cond.instanceMethod yX3_isGood, Cond.selects RX3 yX3_isGood yX3_isGood, Cond.code yX3_isGood cX3_isGood 4 (some .boolean), Cond.methodLink RX3 48 yX3_isBent, Cond.instanceMethod yX3_isBent, Cond.selects RX3 yX3_isBent yX3_isBent, Cond.code yX3_isBent cX3_isBent 2 (some .boolean), Cond.methodLink RX3 54 yX3_bent, Cond.instanceMethod yX3_bent, Cond.selects RX3 yX3_bent yX3_bent, Cond.code yX3_bent cX3_bent 4 (some .int), Cond.methodLink RX3 58 yX3_tilts, Cond.instanceMethod yX3_tilts, Cond.selects RX3 yX3_tilts yX3_tilts]
def wsL_law_r6 : List Cond := [Cond.code yX3_tilts cX3_tilts 4 (some .int), Cond.methodLink RX3 61 yX3_lay, Cond.instanceMethod yX3_lay, Cond.selects RX3 yX3_lay yX3_lay, Cond.code yX3_lay cX3_lay 5 none, Cond.methodLink RL 23 yX2_take, Cond.instanceMethod yX2_take, Cond.selects RX2 yX2_take yX2_take, Cond.code yX2_take cX2_take 5 (some .int), Cond.fieldLink RX2 61 "LightRound$Row" "kinds" "[I", Cond.methodLink RX2 58 yX0_has, Cond.instanceMethod yX0_has, Cond.selects RX0 yX0_has yX0_has, Cond.code yX0_has cX0_has 2 (some .boolean), Cond.methodLink RX2 64 yX0_remove, Cond.instanceMethod yX0_remove, Cond.selects RX0 yX0_remove yX0_remove, Cond.code yX0_remove cX0_remove 3 none, Cond.methodLink RL 27 yX3_take, Cond.instanceMethod yX3_take, Cond.selects RX3 yX3_take yX3_take, Cond.code yX3_take cX3_take 5 (some .int), Cond.methodLink RX3 65 yX3_isPart, Cond.instanceMethod yX3_isPart]
def wsL_law_r7 : List Cond := [Cond.selects RX3 yX3_isPart yX3_isPart, Cond.code yX3_isPart cX3_isPart 3 (some .boolean), Cond.methodLink RL 28 yX2_set, Cond.instanceMethod yX2_set, Cond.selects RX2 yX2_set yX2_set, Cond.code yX2_set cX2_set 6 (some .int), Cond.fieldLink RX2 68 "LightRound$Row" "firsts" "[I", Cond.fieldLink RX2 71 "LightRound$Row" "seconds" "[I", Cond.methodLink RL 32 yX3_set, Cond.instanceMethod yX3_set, Cond.selects RX3 yX3_set yX3_set, Cond.code yX3_set cX3_set 5 (some .int), Cond.methodLink RL 33 yX2_part, Cond.instanceMethod yX2_part, Cond.selects RX2 yX2_part yX2_part, Cond.code yX2_part cX2_part 5 (some .int), Cond.methodLink RL 37 yX3_part, Cond.instanceMethod yX3_part, Cond.selects RX3 yX3_part yX3_part, Cond.code yX3_part cX3_part 4 (some .int), Cond.methodLink RL 38 yX2_turn, Cond.instanceMethod yX2_turn, Cond.selects RX2 yX2_turn yX2_turn, Cond.code yX2_turn cX2_turn 3 (some .int)]
def wsL_law_r8 : List Cond := [Cond.methodLink RX2 74 yX0_reverse, Cond.instanceMethod yX0_reverse, Cond.selects RX0 yX0_reverse yX0_reverse, Cond.code yX0_reverse cX0_reverse 6 none, Cond.methodLink RL 42 yX3_turn, Cond.instanceMethod yX3_turn, Cond.selects RX3 yX3_turn yX3_turn, Cond.code yX3_turn cX3_turn 8 (some .int), Cond.methodLink RL 43 yX2_join, Cond.instanceMethod yX2_join, Cond.selects RX2 yX2_join yX2_join, Cond.code yX2_join cX2_join 5 (some .int), Cond.methodLink RX2 77 yX0_bending, Cond.methodLink RX2 81 yX0_tilts, Cond.methodLink RX2 84 yX0_append, Cond.instanceMethod yX0_append, Cond.selects RX0 yX0_append yX0_append, Cond.code yX0_append cX0_append 4 none, Cond.methodLink RL 46 yX3_join, Cond.instanceMethod yX3_join, Cond.selects RX3 yX3_join yX3_join, Cond.code yX3_join cX3_join 5 (some .int), Cond.methodLink RL 47 yX2_table, Cond.instanceMethod yX2_table]
def wsL_law_r9 : List Cond := [Cond.selects RX2 yX2_table yX2_table, Cond.code yX2_table cX2_table 6 (some .long), Cond.constantLong RX2 91 (-9223372036854775808), Cond.fieldLink RX2 101 "LightRound$Table" "below" "J", Cond.methodLink RX2 88 yX2_isEither, Cond.static yX2_isEither, Cond.code yX2_isEither cX2_isEither 1 (some .boolean), Cond.methodLink RX2 93 yX1_leadThrough, Cond.instanceMethod yX1_leadThrough, Cond.selects RX1 yX1_leadThrough yX1_leadThrough, Cond.code yX1_leadThrough cX1_leadThrough 3 none, Cond.fieldLink RX1 54 "LightRound$Row" "size" "I", Cond.methodLink RX1 58 yX1_lead, Cond.instanceMethod yX1_lead, Cond.selects RX1 yX1_lead yX1_lead, Cond.code yX1_lead cX1_lead 7 none, Cond.fieldLink RX1 42 "LightRound$Row" "kinds" "[I", Cond.methodLink RX1 33 yX1_clear, Cond.instanceMethod yX1_clear, Cond.selects RX1 yX1_clear yX1_clear, Cond.code yX1_clear cX1_clear 1 none, Cond.fieldLink RX1 9 "LightRound$Table" "a" "J", Cond.fieldLink RX1 15 "LightRound$Table" "b" "J", Cond.fieldLink RX1 18 "LightRound$Table" "c" "J"]
def wsL_law_r10 : List Cond := [Cond.fieldLink RX1 21 "LightRound$Table" "d" "J", Cond.fieldLink RX1 24 "LightRound$Table" "e" "J", Cond.fieldLink RX1 27 "LightRound$Table" "f" "J", Cond.fieldLink RX1 30 "LightRound$Table" "below" "J", Cond.methodLink RX1 36 yX0_has, Cond.methodLink RX1 46 yX0_strength, Cond.instanceMethod yX0_strength, Cond.selects RX0 yX0_strength yX0_strength, Cond.code yX0_strength cX0_strength 3 (some .int), Cond.methodLink RX1 50 yX1_go, Cond.instanceMethod yX1_go, Cond.selects RX1 yX1_go yX1_go, Cond.code yX1_go cX1_go 3 none, Cond.methodLink RX1 62 yX1_stretchBy, Cond.instanceMethod yX1_stretchBy, Cond.selects RX1 yX1_stretchBy yX1_stretchBy, Cond.code yX1_stretchBy cX1_stretchBy 3 none, Cond.methodLink RX1 66 yX1_bendBy, Cond.instanceMethod yX1_bendBy, Cond.selects RX1 yX1_bendBy yX1_bendBy, Cond.code yX1_bendBy cX1_bendBy 7 none, Cond.constantLong RX1 69 (-1), Cond.methodLink RX2 97 yX1_above, Cond.instanceMethod yX1_above]
def wsL_law_r11 : List Cond := [Cond.selects RX1 yX1_above yX1_above, Cond.code yX1_above cX1_above 2 (some .long), Cond.methodLink RX2 105 yX2_told, Cond.static yX2_told, Cond.code yX2_told cX2_told 9 (some .long), Cond.methodLink RX2 134 Lib.MathLoose.abs_long.x, Cond.static Lib.MathLoose.abs_long.x, Cond.initialized "java/lang/Math", Cond.code Lib.MathLoose.abs_long.x Lib.MathLoose.abs_long.code 2 (some .long), Cond.methodLink RX2 204 yX2_commonDivisor, Cond.static yX2_commonDivisor, Cond.code yX2_commonDivisor cX2_commonDivisor 11 (some .long), Cond.methodLink RL 51 yX3_table, Cond.instanceMethod yX3_table, Cond.selects RX3 yX3_table yX3_table, Cond.code yX3_table cX3_table 5 (some .long), Cond.constantLong RX3 87 (-9223372036854775808), Cond.methodLink RX3 84 yX3_isWay, Cond.instanceMethod yX3_isWay, Cond.selects RX3 yX3_isWay yX3_isWay, Cond.code yX3_isWay cX3_isWay 2 (some .boolean), Cond.methodLink RX3 89 yX3_work, Cond.instanceMethod yX3_work, Cond.selects RX3 yX3_work yX3_work]
def wsL_law_r12 : List Cond := [Cond.code yX3_work cX3_work 6 none, Cond.methodLink RX3 73 yX3_begin, Cond.instanceMethod yX3_begin, Cond.selects RX3 yX3_begin yX3_begin, Cond.code yX3_begin cX3_begin 2 none, Cond.methodLink RX3 76 yX3_go, Cond.instanceMethod yX3_go, Cond.selects RX3 yX3_go yX3_go, Cond.code yX3_go cX3_go 6 none, Cond.methodLink RX3 69 yX3_bend, Cond.instanceMethod yX3_bend, Cond.selects RX3 yX3_bend yX3_bend, Cond.code yX3_bend cX3_bend 9 none, Cond.methodLink RX3 92 yX3_lowest, Cond.instanceMethod yX3_lowest, Cond.selects RX3 yX3_lowest yX3_lowest, Cond.code yX3_lowest cX3_lowest 8 (some .long), Cond.methodLink RX3 80 yX3_divisor, Cond.instanceMethod yX3_divisor, Cond.selects RX3 yX3_divisor yX3_divisor, Cond.code yX3_divisor cX3_divisor 11 (some .long), Cond.methodLink RL 52 yX2_ray, Cond.instanceMethod yX2_ray, Cond.selects RX2 yX2_ray yX2_ray]
def wsL_law_r13 : List Cond := [Cond.code yX2_ray cX2_ray 11 (some .long), Cond.methodLink RX2 109 yX2_isNear, Cond.static yX2_isNear, Cond.code yX2_isNear cX2_isNear 1 (some .boolean), Cond.methodLink RX2 112 yX1_lead, Cond.methodLink RX2 116 yX1_farAbove, Cond.instanceMethod yX1_farAbove, Cond.selects RX1 yX1_farAbove yX1_farAbove, Cond.code yX1_farAbove cX1_farAbove 5 (some .long), Cond.methodLink RX2 120 yX1_leanAbove, Cond.instanceMethod yX1_leanAbove, Cond.selects RX1 yX1_leanAbove yX1_leanAbove, Cond.code yX1_leanAbove cX1_leanAbove 5 (some .long), Cond.methodLink RL 56 yX3_ray, Cond.instanceMethod yX3_ray, Cond.selects RX3 yX3_ray yX3_ray, Cond.code yX3_ray cX3_ray 8 (some .long), Cond.methodLink RX3 96 yX3_isRay, Cond.instanceMethod yX3_isRay, Cond.selects RX3 yX3_isRay yX3_isRay, Cond.code yX3_isRay cX3_isRay 3 (some .boolean), Cond.methodLink RL 57 yX2_stops, Cond.instanceMethod yX2_stops, Cond.selects RX2 yX2_stops yX2_stops]
def wsL_law_r14 : List Cond := [Cond.code yX2_stops cX2_stops 7 (some .int), Cond.methodLink RX2 123 yX1_clear, Cond.methodLink RX2 126 yX0_strength, Cond.methodLink RX2 130 yX1_go, Cond.methodLink RL 60 yX3_stops, Cond.instanceMethod yX3_stops, Cond.selects RX3 yX3_stops yX3_stops, Cond.code yX3_stops cX3_stops 5 (some .int), Cond.methodLink RX3 99 yX3_stopped, Cond.instanceMethod yX3_stopped, Cond.selects RX3 yX3_stopped yX3_stopped, Cond.code yX3_stopped cX3_stopped 8 (some .int), Cond.methodLink RL 61 yX2_full, Cond.instanceMethod yX2_full, Cond.selects RX2 yX2_full yX2_full, Cond.code yX2_full cX2_full 7 (some .int), Cond.constantLong RX2 140 (1000), Cond.methodLink RX2 145 Lib.MathLoose.min_long.x, Cond.static Lib.MathLoose.min_long.x, Cond.code Lib.MathLoose.min_long.x Lib.MathLoose.min_long.code 4 (some .long), Cond.methodLink RX2 142 yX1_steepestWithin, Cond.instanceMethod yX1_steepestWithin, Cond.selects RX1 yX1_steepestWithin yX1_steepestWithin, Cond.code yX1_steepestWithin cX1_steepestWithin 5 (some .long)]
def wsL_law_r15 : List Cond := [Cond.methodLink RX1 71 Lib.MathLoose.abs_long.x, Cond.constantLong RX1 77 (1000), Cond.methodLink RL 64 yX3_full, Cond.instanceMethod yX3_full, Cond.selects RX3 yX3_full yX3_full, Cond.code yX3_full cX3_full 4 (some .int), Cond.methodLink RL 65 yX2_image, Cond.instanceMethod yX2_image, Cond.selects RX2 yX2_image yX2_image, Cond.code yX2_image cX2_image 6 (some .long), Cond.fieldLink RX2 148 "LightRound$Table" "b" "J", Cond.fieldLink RX2 151 "LightRound$Table" "d" "J", Cond.methodLink RL 68 yX3_image, Cond.instanceMethod yX3_image, Cond.selects RX3 yX3_image yX3_image, Cond.code yX3_image cX3_image 5 (some .long), Cond.methodLink RL 69 yX2_same, Cond.instanceMethod yX2_same, Cond.selects RX2 yX2_same yX2_same, Cond.code yX2_same cX2_same 7 (some .int), Cond.methodLink RL 72 yX3_same, Cond.instanceMethod yX3_same, Cond.selects RX3 yX3_same yX3_same, Cond.code yX3_same cX3_same 9 (some .int)]
def wsL_law_r16 : List Cond := [Cond.methodLink RL 73 yX2_round, Cond.instanceMethod yX2_round, Cond.selects RX2 yX2_round yX2_round, Cond.code yX2_round cX2_round 4 (some .int), Cond.methodLink RX2 154 yX1_manner, Cond.instanceMethod yX1_manner, Cond.selects RX1 yX1_manner yX1_manner, Cond.code yX1_manner cX1_manner 1 (some .int), Cond.constantLong RX1 85 (2), Cond.constantLong RX1 83 (-2), Cond.methodLink RX1 87 yX1_isBetween, Cond.instanceMethod yX1_isBetween, Cond.selects RX1 yX1_isBetween yX1_isBetween, Cond.code yX1_isBetween cX1_isBetween 1 (some .boolean), Cond.methodLink RX1 79 yX1_sum, Cond.instanceMethod yX1_sum, Cond.selects RX1 yX1_sum yX1_sum, Cond.code yX1_sum cX1_sum 1 (some .long), Cond.methodLink RX1 91 yX1_isPlain, Cond.instanceMethod yX1_isPlain, Cond.selects RX1 yX1_isPlain yX1_isPlain, Cond.code yX1_isPlain cX1_isPlain 3 (some .boolean), Cond.methodLink RL 76 yX3_round, Cond.instanceMethod yX3_round]
def wsL_law_r17 : List Cond := [Cond.selects RX3 yX3_round yX3_round, Cond.code yX3_round cX3_round 3 (some .int), Cond.methodLink RX3 121 yX3_roundOf, Cond.instanceMethod yX3_roundOf, Cond.selects RX3 yX3_roundOf yX3_roundOf, Cond.code yX3_roundOf cX3_roundOf 3 (some .int), Cond.constantLong RX3 119 (-1), Cond.constantLong RX3 107 (2), Cond.constantLong RX3 109 (-2), Cond.methodLink RX3 111 yX3_isBetween, Cond.instanceMethod yX3_isBetween, Cond.selects RX3 yX3_isBetween yX3_isBetween, Cond.code yX3_isBetween cX3_isBetween 1 (some .boolean), Cond.methodLink RX3 103 yX3_traceOf, Cond.instanceMethod yX3_traceOf, Cond.selects RX3 yX3_traceOf yX3_traceOf, Cond.code yX3_traceOf cX3_traceOf 1 (some .long), Cond.methodLink RX3 115 yX3_isPlain, Cond.instanceMethod yX3_isPlain, Cond.selects RX3 yX3_isPlain yX3_isPlain, Cond.code yX3_isPlain cX3_isPlain 3 (some .boolean), Cond.methodLink RL 77 yX2_trace, Cond.instanceMethod yX2_trace, Cond.selects RX2 yX2_trace yX2_trace]
def wsL_law_r18 : List Cond := [Cond.code yX2_trace cX2_trace 5 (some .long), Cond.methodLink RX2 157 yX1_sum, Cond.methodLink RL 81 yX3_trace, Cond.instanceMethod yX3_trace, Cond.selects RX3 yX3_trace yX3_trace, Cond.code yX3_trace cX3_trace 4 (some .long), Cond.methodLink RL 82 yX2_turns, Cond.instanceMethod yX2_turns, Cond.selects RX2 yX2_turns yX2_turns, Cond.code yX2_turns cX2_turns 4 (some .int), Cond.methodLink RX2 161 yX1_roundsToComeBack, Cond.instanceMethod yX1_roundsToComeBack, Cond.selects RX1 yX1_roundsToComeBack yX1_roundsToComeBack, Cond.code yX1_roundsToComeBack cX1_roundsToComeBack 1 (some .int), Cond.methodLink RL 85 yX3_turns, Cond.instanceMethod yX3_turns, Cond.selects RX3 yX3_turns yX3_turns, Cond.code yX3_turns cX3_turns 3 (some .int), Cond.methodLink RL 86 yX2_beam, Cond.instanceMethod yX2_beam, Cond.selects RX2 yX2_beam yX2_beam, Cond.code yX2_beam cX2_beam 9 (some .long), Cond.constantLong RX2 168 (4), Cond.fieldLink RX2 170 "LightRound$Table" "a" "J"]
def wsL_law_r19 : List Cond := [Cond.constantLong RX2 173 (2), Cond.methodLink RX2 164 yX1_isBetween, Cond.methodLink RL 90 yX3_beam, Cond.instanceMethod yX3_beam, Cond.selects RX3 yX3_beam yX3_beam, Cond.code yX3_beam cX3_beam 6 (some .long), Cond.methodLink RX3 127 yX3_wideAbove, Cond.instanceMethod yX3_wideAbove, Cond.selects RX3 yX3_wideAbove yX3_wideAbove, Cond.code yX3_wideAbove cX3_wideAbove 1 (some .long), Cond.constantLong RX3 125 (4), Cond.methodLink RX3 130 yX3_wideBelow, Cond.instanceMethod yX3_wideBelow, Cond.selects RX3 yX3_wideBelow yX3_wideBelow, Cond.code yX3_wideBelow cX3_wideBelow 1 (some .long), Cond.methodLink RL 91 yX2_waist, Cond.instanceMethod yX2_waist, Cond.selects RX2 yX2_waist yX2_waist, Cond.code yX2_waist cX2_waist 10 (some .int), Cond.methodLink RL 94 yX3_waist, Cond.instanceMethod yX3_waist, Cond.selects RX3 yX3_waist yX3_waist, Cond.code yX3_waist cX3_waist 9 (some .int), Cond.methodLink RL 95 yX2_axis]
def wsL_law_r20 : List Cond := [Cond.instanceMethod yX2_axis, Cond.selects RX2 yX2_axis yX2_axis, Cond.code yX2_axis cX2_axis 11 (some .long), Cond.fieldLink RX2 175 "LightRound$Table" "e" "J", Cond.fieldLink RX2 178 "LightRound$Table" "f" "J", Cond.fieldLink RX2 181 "LightRound$Table" "c" "J", Cond.methodLink RL 98 yX3_axis, Cond.instanceMethod yX3_axis, Cond.selects RX3 yX3_axis yX3_axis, Cond.code yX3_axis cX3_axis 8 (some .long), Cond.methodLink RL 99 yX2_span, Cond.instanceMethod yX2_span, Cond.selects RX2 yX2_span yX2_span, Cond.code yX2_span cX2_span 7 (some .int), Cond.methodLink RX2 184 yX2_holdsWith, Cond.instanceMethod yX2_holdsWith, Cond.selects RX2 yX2_holdsWith yX2_holdsWith, Cond.code yX2_holdsWith cX2_holdsWith 6 (some .boolean), Cond.methodLink RX2 200 yX2_holdsBothWays, Cond.instanceMethod yX2_holdsBothWays, Cond.selects RX2 yX2_holdsBothWays yX2_holdsBothWays, Cond.code yX2_holdsBothWays cX2_holdsBothWays 2 (some .boolean), Cond.methodLink RL 102 yX3_span, Cond.instanceMethod yX3_span]
def wsL_law_r21 : List Cond := [Cond.selects RX3 yX3_span yX3_span, Cond.code yX3_span cX3_span 6 (some .int), Cond.methodLink RX3 136 yX3_holdsWith, Cond.instanceMethod yX3_holdsWith, Cond.selects RX3 yX3_holdsWith yX3_holdsWith, Cond.code yX3_holdsWith cX3_holdsWith 6 (some .boolean), Cond.methodLink RX3 133 yX3_holdsBoth, Cond.instanceMethod yX3_holdsBoth, Cond.selects RX3 yX3_holdsBoth yX3_holdsBoth, Cond.code yX3_holdsBoth cX3_holdsBoth 2 (some .boolean), Cond.methodLink RL 103 yX2_own, Cond.instanceMethod yX2_own, Cond.selects RX2 yX2_own yX2_own, Cond.code yX2_own cX2_own 2 (some .int), Cond.methodLink RL 106 yX3_own, Cond.instanceMethod yX3_own, Cond.selects RX3 yX3_own yX3_own, Cond.code yX3_own cX3_own 2 (some .int), Cond.methodLink RL 107 yX2_fit, Cond.instanceMethod yX2_fit, Cond.selects RX2 yX2_fit yX2_fit, Cond.code yX2_fit cX2_fit 5 (some .int), Cond.methodLink RL 110 yX3_fit, Cond.instanceMethod yX3_fit]
def wsL_law_r22 : List Cond := [Cond.selects RX3 yX3_fit yX3_fit, Cond.code yX3_fit cX3_fit 4 (some .int), Cond.methodLink RL 111 yX2_swap, Cond.instanceMethod yX2_swap, Cond.selects RX2 yX2_swap yX2_swap, Cond.code yX2_swap cX2_swap 6 (some .int), Cond.methodLink RX2 191 yX2_isPlace, Cond.instanceMethod yX2_isPlace, Cond.selects RX2 yX2_isPlace yX2_isPlace, Cond.code yX2_isPlace cX2_isPlace 2 (some .boolean), Cond.methodLink RL 114 yX3_swap, Cond.instanceMethod yX3_swap, Cond.selects RX3 yX3_swap yX3_swap, Cond.code yX3_swap cX3_swap 5 (some .int), Cond.methodLink RL 115 yX2_count, Cond.instanceMethod yX2_count, Cond.selects RX2 yX2_count yX2_count, Cond.code yX2_count cX2_count 2 (some .int), Cond.methodLink RX2 194 yX2_partsOfAll, Cond.instanceMethod yX2_partsOfAll, Cond.selects RX2 yX2_partsOfAll yX2_partsOfAll, Cond.code yX2_partsOfAll cX2_partsOfAll 6 (some .int), Cond.methodLink RX2 197 yX2_holdingRows, Cond.instanceMethod yX2_holdingRows]
def wsL_law_r23 : List Cond := [Cond.selects RX2 yX2_holdingRows yX2_holdingRows, Cond.code yX2_holdingRows cX2_holdingRows 6 (some .int), Cond.methodLink RL 118 yX3_count, Cond.instanceMethod yX3_count, Cond.selects RX3 yX3_count yX3_count, Cond.code yX3_count cX3_count 4 (some .int), Cond.methodLink RL 119 yX2_drawer, Cond.instanceMethod yX2_drawer, Cond.selects RX2 yX2_drawer yX2_drawer, Cond.code yX2_drawer cX2_drawer 2 (some .int), Cond.methodLink RL 122 yX3_drawer, Cond.instanceMethod yX3_drawer, Cond.selects RX3 yX3_drawer yX3_drawer, Cond.code yX3_drawer cX3_drawer 2 (some .int)]
def wsL_law : List Cond := (wsL_law_r1 ++ (wsL_law_r2 ++ (wsL_law_r3 ++ (wsL_law_r4 ++ (wsL_law_r5 ++ (wsL_law_r6 ++ (wsL_law_r7 ++ (wsL_law_r8 ++ (wsL_law_r9 ++ (wsL_law_r10 ++ (wsL_law_r11 ++ (wsL_law_r12 ++ (wsL_law_r13 ++ (wsL_law_r14 ++ (wsL_law_r15 ++ (wsL_law_r16 ++ (wsL_law_r17 ++ (wsL_law_r18 ++ (wsL_law_r19 ++ (wsL_law_r20 ++ (wsL_law_r21 ++ (wsL_law_r22 ++ wsL_law_r23)))))))))))))))))))))) ++ wsX20 ++ wsX30 ++ wsX10 ++ wsX00 ++ ([] : List Cond)
theorem inJ9 : ∀ w ∈ wsJ90, w ∈ lw_tbl := by decide +kernel
abbrev vwCl : List vw_C := [(RX0, TX0, 4), (RX1, TX1, 7), (RX2, TX2, 6), (RX3, TX3, 9)]
end
section
theorem dX0_init_0 : decode cX0_init 0 = .ok (.aload_n 0, 1) := by decide +kernel
theorem dX0_init_1 : decode cX0_init 1 = .ok (.invokespecial 3, 3) := by decide +kernel
theorem dX0_init_4 : decode cX0_init 4 = .ok (.aload_n 0, 1) := by decide +kernel
theorem dX0_init_5 : decode cX0_init 5 = .ok (.bipush 8, 2) := by decide +kernel
theorem dX0_init_7 : decode cX0_init 7 = .ok (.newarray .int, 2) := by decide +kernel
theorem dX0_init_9 : decode cX0_init 9 = .ok (.putfield 9, 3) := by decide +kernel
theorem dX0_init_12 : decode cX0_init 12 = .ok (.aload_n 0, 1) := by decide +kernel
theorem dX0_init_13 : decode cX0_init 13 = .ok (.bipush 8, 2) := by decide +kernel
theorem dX0_init_15 : decode cX0_init 15 = .ok (.newarray .int, 2) := by decide +kernel
theorem dX0_init_17 : decode cX0_init 17 = .ok (.putfield 15, 3) := by decide +kernel
theorem dX0_init_20 : decode cX0_init 20 = .ok (.aload_n 0, 1) := by decide +kernel
theorem dX0_init_21 : decode cX0_init 21 = .ok (.bipush 8, 2) := by decide +kernel
theorem dX0_init_23 : decode cX0_init 23 = .ok (.newarray .int, 2) := by decide +kernel
theorem dX0_init_25 : decode cX0_init 25 = .ok (.putfield 18, 3) := by decide +kernel
theorem dX0_init_28 : decode cX0_init 28 = .ok (.aload_n 0, 1) := by decide +kernel
theorem dX0_init_29 : decode cX0_init 29 = .ok (.iconst 0, 1) := by decide +kernel
theorem dX0_init_30 : decode cX0_init 30 = .ok (.putfield 21, 3) := by decide +kernel
theorem dX0_init_33 : decode cX0_init 33 = .ok (.return_, 1) := by decide +kernel
theorem dX0_has_0 : decode cX0_has 0 = .ok (.iload_n 1, 1) := by decide +kernel
theorem dX0_has_1 : decode cX0_has 1 = .ok (.ifCond .lt 15, 3) := by decide +kernel
theorem dX0_has_4 : decode cX0_has 4 = .ok (.iload_n 1, 1) := by decide +kernel
theorem dX0_has_5 : decode cX0_has 5 = .ok (.aload_n 0, 1) := by decide +kernel
theorem dX0_has_6 : decode cX0_has 6 = .ok (.getfield 21, 3) := by decide +kernel
theorem dX0_has_9 : decode cX0_has 9 = .ok (.if_icmp .ge 7, 3) := by decide +kernel
theorem dX0_has_12 : decode cX0_has 12 = .ok (.iconst 1, 1) := by decide +kernel
theorem dX0_has_13 : decode cX0_has 13 = .ok (.goto 4, 3) := by decide +kernel
theorem dX0_has_16 : decode cX0_has 16 = .ok (.iconst 0, 1) := by decide +kernel
theorem dX0_has_17 : decode cX0_has 17 = .ok (.ireturn, 1) := by decide +kernel
theorem dX0_strength_0 : decode cX0_strength 0 = .ok (.aload_n 0, 1) := by decide +kernel
theorem dX0_strength_1 : decode cX0_strength 1 = .ok (.getfield 9, 3) := by decide +kernel
theorem dX0_strength_4 : decode cX0_strength 4 = .ok (.iload_n 1, 1) := by decide +kernel
theorem dX0_strength_5 : decode cX0_strength 5 = .ok (.iaload, 1) := by decide +kernel
theorem dX0_strength_6 : decode cX0_strength 6 = .ok (.iconst 2, 1) := by decide +kernel
theorem dX0_strength_7 : decode cX0_strength 7 = .ok (.if_icmp .ne 17, 3) := by decide +kernel
theorem dX0_strength_10 : decode cX0_strength 10 = .ok (.iload_n 2, 1) := by decide +kernel
theorem dX0_strength_11 : decode cX0_strength 11 = .ok (.iconst 1, 1) := by decide +kernel
theorem dX0_strength_12 : decode cX0_strength 12 = .ok (.if_icmp .ne 12, 3) := by decide +kernel
theorem dX0_strength_15 : decode cX0_strength 15 = .ok (.aload_n 0, 1) := by decide +kernel
theorem dX0_strength_16 : decode cX0_strength 16 = .ok (.getfield 18, 3) := by decide +kernel
theorem dX0_strength_19 : decode cX0_strength 19 = .ok (.iload_n 1, 1) := by decide +kernel
theorem dX0_strength_20 : decode cX0_strength 20 = .ok (.iaload, 1) := by decide +kernel
theorem dX0_strength_21 : decode cX0_strength 21 = .ok (.goto 9, 3) := by decide +kernel
theorem dX0_strength_24 : decode cX0_strength 24 = .ok (.aload_n 0, 1) := by decide +kernel
theorem dX0_strength_25 : decode cX0_strength 25 = .ok (.getfield 15, 3) := by decide +kernel
theorem dX0_strength_28 : decode cX0_strength 28 = .ok (.iload_n 1, 1) := by decide +kernel
theorem dX0_strength_29 : decode cX0_strength 29 = .ok (.iaload, 1) := by decide +kernel
theorem dX0_strength_30 : decode cX0_strength 30 = .ok (.ireturn, 1) := by decide +kernel
theorem dX0_bending_0 : decode cX0_bending 0 = .ok (.iconst 0, 1) := by decide +kernel
theorem dX0_bending_1 : decode cX0_bending 1 = .ok (.istore_n 1, 1) := by decide +kernel
theorem dX0_bending_2 : decode cX0_bending 2 = .ok (.iconst 0, 1) := by decide +kernel
theorem dX0_bending_3 : decode cX0_bending 3 = .ok (.istore_n 2, 1) := by decide +kernel
theorem dX0_bending_4 : decode cX0_bending 4 = .ok (.iload_n 2, 1) := by decide +kernel
theorem dX0_bending_5 : decode cX0_bending 5 = .ok (.aload_n 0, 1) := by decide +kernel
theorem dX0_bending_6 : decode cX0_bending 6 = .ok (.getfield 21, 3) := by decide +kernel
theorem dX0_bending_9 : decode cX0_bending 9 = .ok (.if_icmp .ge 32, 3) := by decide +kernel
theorem dX0_bending_12 : decode cX0_bending 12 = .ok (.aload_n 0, 1) := by decide +kernel
theorem dX0_bending_13 : decode cX0_bending 13 = .ok (.getfield 9, 3) := by decide +kernel
theorem dX0_bending_16 : decode cX0_bending 16 = .ok (.iload_n 2, 1) := by decide +kernel
theorem dX0_bending_17 : decode cX0_bending 17 = .ok (.iaload, 1) := by decide +kernel
theorem dX0_bending_18 : decode cX0_bending 18 = .ok (.iconst 1, 1) := by decide +kernel
theorem dX0_bending_19 : decode cX0_bending 19 = .ok (.if_icmp .eq 13, 3) := by decide +kernel
theorem dX0_bending_22 : decode cX0_bending 22 = .ok (.aload_n 0, 1) := by decide +kernel
theorem dX0_bending_23 : decode cX0_bending 23 = .ok (.getfield 9, 3) := by decide +kernel
theorem dX0_bending_26 : decode cX0_bending 26 = .ok (.iload_n 2, 1) := by decide +kernel
theorem dX0_bending_27 : decode cX0_bending 27 = .ok (.iaload, 1) := by decide +kernel
theorem dX0_bending_28 : decode cX0_bending 28 = .ok (.iconst 2, 1) := by decide +kernel
theorem dX0_bending_29 : decode cX0_bending 29 = .ok (.if_icmp .ne 6, 3) := by decide +kernel
theorem dX0_bending_32 : decode cX0_bending 32 = .ok (.iinc 1 1, 3) := by decide +kernel
theorem dX0_bending_35 : decode cX0_bending 35 = .ok (.iinc 2 1, 3) := by decide +kernel
theorem dX0_bending_38 : decode cX0_bending 38 = .ok (.goto (-34), 3) := by decide +kernel
theorem dX0_bending_41 : decode cX0_bending 41 = .ok (.iload_n 1, 1) := by decide +kernel
theorem dX0_bending_42 : decode cX0_bending 42 = .ok (.ireturn, 1) := by decide +kernel
theorem dX0_tilts_0 : decode cX0_tilts 0 = .ok (.iconst 0, 1) := by decide +kernel
theorem dX0_tilts_1 : decode cX0_tilts 1 = .ok (.istore_n 1, 1) := by decide +kernel
theorem dX0_tilts_2 : decode cX0_tilts 2 = .ok (.iconst 0, 1) := by decide +kernel
theorem dX0_tilts_3 : decode cX0_tilts 3 = .ok (.istore_n 2, 1) := by decide +kernel
theorem dX0_tilts_4 : decode cX0_tilts 4 = .ok (.iload_n 2, 1) := by decide +kernel
theorem dX0_tilts_5 : decode cX0_tilts 5 = .ok (.aload_n 0, 1) := by decide +kernel
theorem dX0_tilts_6 : decode cX0_tilts 6 = .ok (.getfield 21, 3) := by decide +kernel
theorem dX0_tilts_9 : decode cX0_tilts 9 = .ok (.if_icmp .ge 22, 3) := by decide +kernel
theorem dX0_tilts_12 : decode cX0_tilts 12 = .ok (.aload_n 0, 1) := by decide +kernel
theorem dX0_tilts_13 : decode cX0_tilts 13 = .ok (.getfield 9, 3) := by decide +kernel
theorem dX0_tilts_16 : decode cX0_tilts 16 = .ok (.iload_n 2, 1) := by decide +kernel
theorem dX0_tilts_17 : decode cX0_tilts 17 = .ok (.iaload, 1) := by decide +kernel
theorem dX0_tilts_18 : decode cX0_tilts 18 = .ok (.iconst 3, 1) := by decide +kernel
theorem dX0_tilts_19 : decode cX0_tilts 19 = .ok (.if_icmp .ne 6, 3) := by decide +kernel
theorem dX0_tilts_22 : decode cX0_tilts 22 = .ok (.iinc 1 1, 3) := by decide +kernel
theorem dX0_tilts_25 : decode cX0_tilts 25 = .ok (.iinc 2 1, 3) := by decide +kernel
theorem dX0_tilts_28 : decode cX0_tilts 28 = .ok (.goto (-24), 3) := by decide +kernel
theorem dX0_tilts_31 : decode cX0_tilts 31 = .ok (.iload_n 1, 1) := by decide +kernel
theorem dX0_tilts_32 : decode cX0_tilts 32 = .ok (.ireturn, 1) := by decide +kernel
set_option maxRecDepth 20000 in
theorem ggX0_hasRoomFor_X0_bending : GoodIn wsX0_hasRoomFor wsX0_bending := goodIn_r _ [5, 6, 7, 12, 13, 14, 15] (by decide +kernel) (by decide +kernel)
set_option maxRecDepth 20000 in
theorem gX0_hasRoomFor_X0_bending : GoodIn wsX0_hasRoomFor (wsV RX0 25 RX0 yX0_bending wsX0_bending) := goodIn_app (goodIn_of _ (by decide +kernel)) ggX0_hasRoomFor_X0_bending
set_option maxRecDepth 20000 in
theorem ggX0_hasRoomFor_X0_tilts : GoodIn wsX0_hasRoomFor wsX0_tilts := goodIn_r _ [11, 6, 7, 12, 13, 14, 15] (by decide +kernel) (by decide +kernel)
set_option maxRecDepth 20000 in
theorem gX0_hasRoomFor_X0_tilts : GoodIn wsX0_hasRoomFor (wsV RX0 29 RX0 yX0_tilts wsX0_tilts) := goodIn_app (goodIn_of _ (by decide +kernel)) ggX0_hasRoomFor_X0_tilts
theorem dX0_hasRoomFor_0 : decode cX0_hasRoomFor 0 = .ok (.iload_n 1, 1) := by decide +kernel
theorem dX0_hasRoomFor_1 : decode cX0_hasRoomFor 1 = .ok (.iconst 1, 1) := by decide +kernel
theorem dX0_hasRoomFor_2 : decode cX0_hasRoomFor 2 = .ok (.if_icmp .eq 8, 3) := by decide +kernel
theorem dX0_hasRoomFor_5 : decode cX0_hasRoomFor 5 = .ok (.iload_n 1, 1) := by decide +kernel
theorem dX0_hasRoomFor_6 : decode cX0_hasRoomFor 6 = .ok (.iconst 2, 1) := by decide +kernel
theorem dX0_hasRoomFor_7 : decode cX0_hasRoomFor 7 = .ok (.if_icmp .ne 17, 3) := by decide +kernel
theorem dX0_hasRoomFor_10 : decode cX0_hasRoomFor 10 = .ok (.aload_n 0, 1) := by decide +kernel
theorem dX0_hasRoomFor_11 : decode cX0_hasRoomFor 11 = .ok (.invokevirtual 25, 3) := by decide +kernel
theorem dX0_hasRoomFor_14 : decode cX0_hasRoomFor 14 = .ok (.iconst 3, 1) := by decide +kernel
theorem dX0_hasRoomFor_15 : decode cX0_hasRoomFor 15 = .ok (.if_icmp .ge 7, 3) := by decide +kernel
theorem dX0_hasRoomFor_18 : decode cX0_hasRoomFor 18 = .ok (.iconst 1, 1) := by decide +kernel
theorem dX0_hasRoomFor_19 : decode cX0_hasRoomFor 19 = .ok (.goto 4, 3) := by decide +kernel
theorem dX0_hasRoomFor_22 : decode cX0_hasRoomFor 22 = .ok (.iconst 0, 1) := by decide +kernel
theorem dX0_hasRoomFor_23 : decode cX0_hasRoomFor 23 = .ok (.ireturn, 1) := by decide +kernel
theorem dX0_hasRoomFor_24 : decode cX0_hasRoomFor 24 = .ok (.iload_n 1, 1) := by decide +kernel
theorem dX0_hasRoomFor_25 : decode cX0_hasRoomFor 25 = .ok (.iconst 3, 1) := by decide +kernel
theorem dX0_hasRoomFor_26 : decode cX0_hasRoomFor 26 = .ok (.if_icmp .ne 11, 3) := by decide +kernel
theorem dX0_hasRoomFor_29 : decode cX0_hasRoomFor 29 = .ok (.aload_n 0, 1) := by decide +kernel
theorem dX0_hasRoomFor_30 : decode cX0_hasRoomFor 30 = .ok (.invokevirtual 29, 3) := by decide +kernel
theorem dX0_hasRoomFor_33 : decode cX0_hasRoomFor 33 = .ok (.iconst 2, 1) := by decide +kernel
theorem dX0_hasRoomFor_34 : decode cX0_hasRoomFor 34 = .ok (.if_icmp .ge 7, 3) := by decide +kernel
theorem dX0_hasRoomFor_37 : decode cX0_hasRoomFor 37 = .ok (.iconst 1, 1) := by decide +kernel
theorem dX0_hasRoomFor_38 : decode cX0_hasRoomFor 38 = .ok (.goto 4, 3) := by decide +kernel
theorem dX0_hasRoomFor_41 : decode cX0_hasRoomFor 41 = .ok (.iconst 0, 1) := by decide +kernel
theorem dX0_hasRoomFor_42 : decode cX0_hasRoomFor 42 = .ok (.ireturn, 1) := by decide +kernel
theorem dX0_write_0 : decode cX0_write 0 = .ok (.aload_n 0, 1) := by decide +kernel
theorem dX0_write_1 : decode cX0_write 1 = .ok (.getfield 9, 3) := by decide +kernel
theorem dX0_write_4 : decode cX0_write 4 = .ok (.iload_n 1, 1) := by decide +kernel
theorem dX0_write_5 : decode cX0_write 5 = .ok (.iload_n 2, 1) := by decide +kernel
theorem dX0_write_6 : decode cX0_write 6 = .ok (.iastore, 1) := by decide +kernel
theorem dX0_write_7 : decode cX0_write 7 = .ok (.aload_n 0, 1) := by decide +kernel
theorem dX0_write_8 : decode cX0_write 8 = .ok (.getfield 15, 3) := by decide +kernel
theorem dX0_write_11 : decode cX0_write 11 = .ok (.iload_n 1, 1) := by decide +kernel
theorem dX0_write_12 : decode cX0_write 12 = .ok (.iload_n 3, 1) := by decide +kernel
theorem dX0_write_13 : decode cX0_write 13 = .ok (.iastore, 1) := by decide +kernel
theorem dX0_write_14 : decode cX0_write 14 = .ok (.aload_n 0, 1) := by decide +kernel
theorem dX0_write_15 : decode cX0_write 15 = .ok (.getfield 18, 3) := by decide +kernel
theorem dX0_write_18 : decode cX0_write 18 = .ok (.iload_n 1, 1) := by decide +kernel
theorem dX0_write_19 : decode cX0_write 19 = .ok (.iload 4, 2) := by decide +kernel
theorem dX0_write_21 : decode cX0_write 21 = .ok (.iastore, 1) := by decide +kernel
theorem dX0_write_22 : decode cX0_write 22 = .ok (.return_, 1) := by decide +kernel
set_option maxRecDepth 20000 in
theorem ggX0_insert_X0_write : GoodIn wsX0_insert wsX0_write := goodIn_r _ [9, 2, 3, 4, 10, 11, 12, 13] (by decide +kernel) (by decide +kernel)
set_option maxRecDepth 20000 in
theorem gX0_insert_X0_write : GoodIn wsX0_insert (wsV RX0 32 RX0 yX0_write wsX0_write) := goodIn_app (goodIn_of _ (by decide +kernel)) ggX0_insert_X0_write
theorem dX0_insert_0 : decode cX0_insert 0 = .ok (.aload_n 0, 1) := by decide +kernel
theorem dX0_insert_1 : decode cX0_insert 1 = .ok (.getfield 21, 3) := by decide +kernel
theorem dX0_insert_4 : decode cX0_insert 4 = .ok (.istore 5, 2) := by decide +kernel
theorem dX0_insert_6 : decode cX0_insert 6 = .ok (.iload 5, 2) := by decide +kernel
theorem dX0_insert_8 : decode cX0_insert 8 = .ok (.iload_n 1, 1) := by decide +kernel
theorem dX0_insert_9 : decode cX0_insert 9 = .ok (.if_icmp .le 42, 3) := by decide +kernel
theorem dX0_insert_12 : decode cX0_insert 12 = .ok (.aload_n 0, 1) := by decide +kernel
theorem dX0_insert_13 : decode cX0_insert 13 = .ok (.iload 5, 2) := by decide +kernel
theorem dX0_insert_15 : decode cX0_insert 15 = .ok (.aload_n 0, 1) := by decide +kernel
theorem dX0_insert_16 : decode cX0_insert 16 = .ok (.getfield 9, 3) := by decide +kernel
theorem dX0_insert_19 : decode cX0_insert 19 = .ok (.iload 5, 2) := by decide +kernel
theorem dX0_insert_21 : decode cX0_insert 21 = .ok (.iconst 1, 1) := by decide +kernel
theorem dX0_insert_22 : decode cX0_insert 22 = .ok (.isub, 1) := by decide +kernel
theorem dX0_insert_23 : decode cX0_insert 23 = .ok (.iaload, 1) := by decide +kernel
theorem dX0_insert_24 : decode cX0_insert 24 = .ok (.aload_n 0, 1) := by decide +kernel
theorem dX0_insert_25 : decode cX0_insert 25 = .ok (.getfield 15, 3) := by decide +kernel
theorem dX0_insert_28 : decode cX0_insert 28 = .ok (.iload 5, 2) := by decide +kernel
theorem dX0_insert_30 : decode cX0_insert 30 = .ok (.iconst 1, 1) := by decide +kernel
theorem dX0_insert_31 : decode cX0_insert 31 = .ok (.isub, 1) := by decide +kernel
theorem dX0_insert_32 : decode cX0_insert 32 = .ok (.iaload, 1) := by decide +kernel
theorem dX0_insert_33 : decode cX0_insert 33 = .ok (.aload_n 0, 1) := by decide +kernel
theorem dX0_insert_34 : decode cX0_insert 34 = .ok (.getfield 18, 3) := by decide +kernel
theorem dX0_insert_37 : decode cX0_insert 37 = .ok (.iload 5, 2) := by decide +kernel
theorem dX0_insert_39 : decode cX0_insert 39 = .ok (.iconst 1, 1) := by decide +kernel
theorem dX0_insert_40 : decode cX0_insert 40 = .ok (.isub, 1) := by decide +kernel
theorem dX0_insert_41 : decode cX0_insert 41 = .ok (.iaload, 1) := by decide +kernel
theorem dX0_insert_42 : decode cX0_insert 42 = .ok (.invokevirtual 32, 3) := by decide +kernel
theorem dX0_insert_45 : decode cX0_insert 45 = .ok (.iinc 5 (-1), 3) := by decide +kernel
theorem dX0_insert_48 : decode cX0_insert 48 = .ok (.goto (-42), 3) := by decide +kernel
theorem dX0_insert_51 : decode cX0_insert 51 = .ok (.aload_n 0, 1) := by decide +kernel
theorem dX0_insert_52 : decode cX0_insert 52 = .ok (.iload_n 1, 1) := by decide +kernel
theorem dX0_insert_53 : decode cX0_insert 53 = .ok (.iload_n 2, 1) := by decide +kernel
theorem dX0_insert_54 : decode cX0_insert 54 = .ok (.iload_n 3, 1) := by decide +kernel
theorem dX0_insert_55 : decode cX0_insert 55 = .ok (.iload 4, 2) := by decide +kernel
theorem dX0_insert_57 : decode cX0_insert 57 = .ok (.invokevirtual 32, 3) := by decide +kernel
theorem dX0_insert_60 : decode cX0_insert 60 = .ok (.aload_n 0, 1) := by decide +kernel
theorem dX0_insert_61 : decode cX0_insert 61 = .ok (.dup, 1) := by decide +kernel
theorem dX0_insert_62 : decode cX0_insert 62 = .ok (.getfield 21, 3) := by decide +kernel
theorem dX0_insert_65 : decode cX0_insert 65 = .ok (.iconst 1, 1) := by decide +kernel
theorem dX0_insert_66 : decode cX0_insert 66 = .ok (.iadd, 1) := by decide +kernel
theorem dX0_insert_67 : decode cX0_insert 67 = .ok (.putfield 21, 3) := by decide +kernel
theorem dX0_insert_70 : decode cX0_insert 70 = .ok (.return_, 1) := by decide +kernel
set_option maxRecDepth 20000 in
theorem ggX0_remove_X0_write : GoodIn wsX0_remove wsX0_write := goodIn_r _ [9, 2, 3, 4, 10, 11, 12, 13] (by decide +kernel) (by decide +kernel)
set_option maxRecDepth 20000 in
theorem gX0_remove_X0_write : GoodIn wsX0_remove (wsV RX0 32 RX0 yX0_write wsX0_write) := goodIn_app (goodIn_of _ (by decide +kernel)) ggX0_remove_X0_write
theorem dX0_remove_0 : decode cX0_remove 0 = .ok (.iload_n 1, 1) := by decide +kernel
theorem dX0_remove_1 : decode cX0_remove 1 = .ok (.istore_n 2, 1) := by decide +kernel
theorem dX0_remove_2 : decode cX0_remove 2 = .ok (.iload_n 2, 1) := by decide +kernel
theorem dX0_remove_3 : decode cX0_remove 3 = .ok (.aload_n 0, 1) := by decide +kernel
theorem dX0_remove_4 : decode cX0_remove 4 = .ok (.getfield 21, 3) := by decide +kernel
theorem dX0_remove_7 : decode cX0_remove 7 = .ok (.iconst 1, 1) := by decide +kernel
theorem dX0_remove_8 : decode cX0_remove 8 = .ok (.isub, 1) := by decide +kernel
theorem dX0_remove_9 : decode cX0_remove 9 = .ok (.if_icmp .ge 38, 3) := by decide +kernel
theorem dX0_remove_12 : decode cX0_remove 12 = .ok (.aload_n 0, 1) := by decide +kernel
theorem dX0_remove_13 : decode cX0_remove 13 = .ok (.iload_n 2, 1) := by decide +kernel
theorem dX0_remove_14 : decode cX0_remove 14 = .ok (.aload_n 0, 1) := by decide +kernel
theorem dX0_remove_15 : decode cX0_remove 15 = .ok (.getfield 9, 3) := by decide +kernel
theorem dX0_remove_18 : decode cX0_remove 18 = .ok (.iload_n 2, 1) := by decide +kernel
theorem dX0_remove_19 : decode cX0_remove 19 = .ok (.iconst 1, 1) := by decide +kernel
theorem dX0_remove_20 : decode cX0_remove 20 = .ok (.iadd, 1) := by decide +kernel
theorem dX0_remove_21 : decode cX0_remove 21 = .ok (.iaload, 1) := by decide +kernel
theorem dX0_remove_22 : decode cX0_remove 22 = .ok (.aload_n 0, 1) := by decide +kernel
theorem dX0_remove_23 : decode cX0_remove 23 = .ok (.getfield 15, 3) := by decide +kernel
theorem dX0_remove_26 : decode cX0_remove 26 = .ok (.iload_n 2, 1) := by decide +kernel
theorem dX0_remove_27 : decode cX0_remove 27 = .ok (.iconst 1, 1) := by decide +kernel
theorem dX0_remove_28 : decode cX0_remove 28 = .ok (.iadd, 1) := by decide +kernel
theorem dX0_remove_29 : decode cX0_remove 29 = .ok (.iaload, 1) := by decide +kernel
theorem dX0_remove_30 : decode cX0_remove 30 = .ok (.aload_n 0, 1) := by decide +kernel
theorem dX0_remove_31 : decode cX0_remove 31 = .ok (.getfield 18, 3) := by decide +kernel
theorem dX0_remove_34 : decode cX0_remove 34 = .ok (.iload_n 2, 1) := by decide +kernel
theorem dX0_remove_35 : decode cX0_remove 35 = .ok (.iconst 1, 1) := by decide +kernel
theorem dX0_remove_36 : decode cX0_remove 36 = .ok (.iadd, 1) := by decide +kernel
theorem dX0_remove_37 : decode cX0_remove 37 = .ok (.iaload, 1) := by decide +kernel
theorem dX0_remove_38 : decode cX0_remove 38 = .ok (.invokevirtual 32, 3) := by decide +kernel
theorem dX0_remove_41 : decode cX0_remove 41 = .ok (.iinc 2 1, 3) := by decide +kernel
theorem dX0_remove_44 : decode cX0_remove 44 = .ok (.goto (-42), 3) := by decide +kernel
theorem dX0_remove_47 : decode cX0_remove 47 = .ok (.aload_n 0, 1) := by decide +kernel
theorem dX0_remove_48 : decode cX0_remove 48 = .ok (.dup, 1) := by decide +kernel
theorem dX0_remove_49 : decode cX0_remove 49 = .ok (.getfield 21, 3) := by decide +kernel
theorem dX0_remove_52 : decode cX0_remove 52 = .ok (.iconst 1, 1) := by decide +kernel
theorem dX0_remove_53 : decode cX0_remove 53 = .ok (.isub, 1) := by decide +kernel
theorem dX0_remove_54 : decode cX0_remove 54 = .ok (.putfield 21, 3) := by decide +kernel
theorem dX0_remove_57 : decode cX0_remove 57 = .ok (.return_, 1) := by decide +kernel
set_option maxRecDepth 20000 in
theorem ggX0_reverse_X0_write : GoodIn wsX0_reverse wsX0_write := goodIn_r _ [9, 2, 3, 4, 10, 11, 12, 13] (by decide +kernel) (by decide +kernel)
set_option maxRecDepth 20000 in
theorem gX0_reverse_X0_write : GoodIn wsX0_reverse (wsV RX0 32 RX0 yX0_write wsX0_write) := goodIn_app (goodIn_of _ (by decide +kernel)) ggX0_reverse_X0_write
theorem dX0_reverse_0 : decode cX0_reverse 0 = .ok (.iconst 0, 1) := by decide +kernel
theorem dX0_reverse_1 : decode cX0_reverse 1 = .ok (.istore_n 1, 1) := by decide +kernel
theorem dX0_reverse_2 : decode cX0_reverse 2 = .ok (.aload_n 0, 1) := by decide +kernel
theorem dX0_reverse_3 : decode cX0_reverse 3 = .ok (.getfield 21, 3) := by decide +kernel
theorem dX0_reverse_6 : decode cX0_reverse 6 = .ok (.iconst 1, 1) := by decide +kernel
theorem dX0_reverse_7 : decode cX0_reverse 7 = .ok (.isub, 1) := by decide +kernel
theorem dX0_reverse_8 : decode cX0_reverse 8 = .ok (.istore_n 2, 1) := by decide +kernel
theorem dX0_reverse_9 : decode cX0_reverse 9 = .ok (.iload_n 1, 1) := by decide +kernel
theorem dX0_reverse_10 : decode cX0_reverse 10 = .ok (.iload_n 2, 1) := by decide +kernel
theorem dX0_reverse_11 : decode cX0_reverse 11 = .ok (.if_icmp .ge 68, 3) := by decide +kernel
theorem dX0_reverse_14 : decode cX0_reverse 14 = .ok (.aload_n 0, 1) := by decide +kernel
theorem dX0_reverse_15 : decode cX0_reverse 15 = .ok (.getfield 9, 3) := by decide +kernel
theorem dX0_reverse_18 : decode cX0_reverse 18 = .ok (.iload_n 1, 1) := by decide +kernel
theorem dX0_reverse_19 : decode cX0_reverse 19 = .ok (.iaload, 1) := by decide +kernel
theorem dX0_reverse_20 : decode cX0_reverse 20 = .ok (.istore_n 3, 1) := by decide +kernel
theorem dX0_reverse_21 : decode cX0_reverse 21 = .ok (.aload_n 0, 1) := by decide +kernel
theorem dX0_reverse_22 : decode cX0_reverse 22 = .ok (.getfield 15, 3) := by decide +kernel
theorem dX0_reverse_25 : decode cX0_reverse 25 = .ok (.iload_n 1, 1) := by decide +kernel
theorem dX0_reverse_26 : decode cX0_reverse 26 = .ok (.iaload, 1) := by decide +kernel
theorem dX0_reverse_27 : decode cX0_reverse 27 = .ok (.istore 4, 2) := by decide +kernel
theorem dX0_reverse_29 : decode cX0_reverse 29 = .ok (.aload_n 0, 1) := by decide +kernel
theorem dX0_reverse_30 : decode cX0_reverse 30 = .ok (.getfield 18, 3) := by decide +kernel
theorem dX0_reverse_33 : decode cX0_reverse 33 = .ok (.iload_n 1, 1) := by decide +kernel
theorem dX0_reverse_34 : decode cX0_reverse 34 = .ok (.iaload, 1) := by decide +kernel
theorem dX0_reverse_35 : decode cX0_reverse 35 = .ok (.istore 5, 2) := by decide +kernel
theorem dX0_reverse_37 : decode cX0_reverse 37 = .ok (.aload_n 0, 1) := by decide +kernel
theorem dX0_reverse_38 : decode cX0_reverse 38 = .ok (.iload_n 1, 1) := by decide +kernel
theorem dX0_reverse_39 : decode cX0_reverse 39 = .ok (.aload_n 0, 1) := by decide +kernel
theorem dX0_reverse_40 : decode cX0_reverse 40 = .ok (.getfield 9, 3) := by decide +kernel
theorem dX0_reverse_43 : decode cX0_reverse 43 = .ok (.iload_n 2, 1) := by decide +kernel
theorem dX0_reverse_44 : decode cX0_reverse 44 = .ok (.iaload, 1) := by decide +kernel
theorem dX0_reverse_45 : decode cX0_reverse 45 = .ok (.aload_n 0, 1) := by decide +kernel
theorem dX0_reverse_46 : decode cX0_reverse 46 = .ok (.getfield 15, 3) := by decide +kernel
theorem dX0_reverse_49 : decode cX0_reverse 49 = .ok (.iload_n 2, 1) := by decide +kernel
theorem dX0_reverse_50 : decode cX0_reverse 50 = .ok (.iaload, 1) := by decide +kernel
theorem dX0_reverse_51 : decode cX0_reverse 51 = .ok (.aload_n 0, 1) := by decide +kernel
theorem dX0_reverse_52 : decode cX0_reverse 52 = .ok (.getfield 18, 3) := by decide +kernel
theorem dX0_reverse_55 : decode cX0_reverse 55 = .ok (.iload_n 2, 1) := by decide +kernel
theorem dX0_reverse_56 : decode cX0_reverse 56 = .ok (.iaload, 1) := by decide +kernel
theorem dX0_reverse_57 : decode cX0_reverse 57 = .ok (.invokevirtual 32, 3) := by decide +kernel
theorem dX0_reverse_60 : decode cX0_reverse 60 = .ok (.aload_n 0, 1) := by decide +kernel
theorem dX0_reverse_61 : decode cX0_reverse 61 = .ok (.iload_n 2, 1) := by decide +kernel
theorem dX0_reverse_62 : decode cX0_reverse 62 = .ok (.iload_n 3, 1) := by decide +kernel
theorem dX0_reverse_63 : decode cX0_reverse 63 = .ok (.iload 4, 2) := by decide +kernel
theorem dX0_reverse_65 : decode cX0_reverse 65 = .ok (.iload 5, 2) := by decide +kernel
theorem dX0_reverse_67 : decode cX0_reverse 67 = .ok (.invokevirtual 32, 3) := by decide +kernel
theorem dX0_reverse_70 : decode cX0_reverse 70 = .ok (.iinc 1 1, 3) := by decide +kernel
theorem dX0_reverse_73 : decode cX0_reverse 73 = .ok (.iinc 2 (-1), 3) := by decide +kernel
theorem dX0_reverse_76 : decode cX0_reverse 76 = .ok (.goto (-67), 3) := by decide +kernel
theorem dX0_reverse_79 : decode cX0_reverse 79 = .ok (.return_, 1) := by decide +kernel
set_option maxRecDepth 20000 in
theorem ggX0_append_X0_write : GoodIn wsX0_append wsX0_write := goodIn_r _ [9, 2, 3, 4, 10, 11, 12, 13] (by decide +kernel) (by decide +kernel)
set_option maxRecDepth 20000 in
theorem gX0_append_X0_write : GoodIn wsX0_append (wsV RX0 32 RX0 yX0_write wsX0_write) := goodIn_app (goodIn_of _ (by decide +kernel)) ggX0_append_X0_write
theorem dX0_append_0 : decode cX0_append 0 = .ok (.aload_n 1, 1) := by decide +kernel
theorem dX0_append_1 : decode cX0_append 1 = .ok (.getfield 21, 3) := by decide +kernel
theorem dX0_append_4 : decode cX0_append 4 = .ok (.istore_n 2, 1) := by decide +kernel
theorem dX0_append_5 : decode cX0_append 5 = .ok (.iconst 0, 1) := by decide +kernel
theorem dX0_append_6 : decode cX0_append 6 = .ok (.istore_n 3, 1) := by decide +kernel
theorem dX0_append_7 : decode cX0_append 7 = .ok (.iload_n 3, 1) := by decide +kernel
theorem dX0_append_8 : decode cX0_append 8 = .ok (.iload_n 2, 1) := by decide +kernel
theorem dX0_append_9 : decode cX0_append 9 = .ok (.if_icmp .ge 45, 3) := by decide +kernel
theorem dX0_append_12 : decode cX0_append 12 = .ok (.aload_n 0, 1) := by decide +kernel
theorem dX0_append_13 : decode cX0_append 13 = .ok (.aload_n 0, 1) := by decide +kernel
theorem dX0_append_14 : decode cX0_append 14 = .ok (.getfield 21, 3) := by decide +kernel
theorem dX0_append_17 : decode cX0_append 17 = .ok (.aload_n 1, 1) := by decide +kernel
theorem dX0_append_18 : decode cX0_append 18 = .ok (.getfield 9, 3) := by decide +kernel
theorem dX0_append_21 : decode cX0_append 21 = .ok (.iload_n 3, 1) := by decide +kernel
theorem dX0_append_22 : decode cX0_append 22 = .ok (.iaload, 1) := by decide +kernel
theorem dX0_append_23 : decode cX0_append 23 = .ok (.aload_n 1, 1) := by decide +kernel
theorem dX0_append_24 : decode cX0_append 24 = .ok (.getfield 15, 3) := by decide +kernel
theorem dX0_append_27 : decode cX0_append 27 = .ok (.iload_n 3, 1) := by decide +kernel
theorem dX0_append_28 : decode cX0_append 28 = .ok (.iaload, 1) := by decide +kernel
theorem dX0_append_29 : decode cX0_append 29 = .ok (.aload_n 1, 1) := by decide +kernel
theorem dX0_append_30 : decode cX0_append 30 = .ok (.getfield 18, 3) := by decide +kernel
theorem dX0_append_33 : decode cX0_append 33 = .ok (.iload_n 3, 1) := by decide +kernel
theorem dX0_append_34 : decode cX0_append 34 = .ok (.iaload, 1) := by decide +kernel
theorem dX0_append_35 : decode cX0_append 35 = .ok (.invokevirtual 32, 3) := by decide +kernel
theorem dX0_append_38 : decode cX0_append 38 = .ok (.aload_n 0, 1) := by decide +kernel
theorem dX0_append_39 : decode cX0_append 39 = .ok (.dup, 1) := by decide +kernel
theorem dX0_append_40 : decode cX0_append 40 = .ok (.getfield 21, 3) := by decide +kernel
theorem dX0_append_43 : decode cX0_append 43 = .ok (.iconst 1, 1) := by decide +kernel
theorem dX0_append_44 : decode cX0_append 44 = .ok (.iadd, 1) := by decide +kernel
theorem dX0_append_45 : decode cX0_append 45 = .ok (.putfield 21, 3) := by decide +kernel
theorem dX0_append_48 : decode cX0_append 48 = .ok (.iinc 3 1, 3) := by decide +kernel
theorem dX0_append_51 : decode cX0_append 51 = .ok (.goto (-44), 3) := by decide +kernel
theorem dX0_append_54 : decode cX0_append 54 = .ok (.return_, 1) := by decide +kernel
theorem dX1_init_0 : decode cX1_init 0 = .ok (.aload_n 0, 1) := by decide +kernel
theorem dX1_init_1 : decode cX1_init 1 = .ok (.invokespecial 3, 3) := by decide +kernel
theorem dX1_init_4 : decode cX1_init 4 = .ok (.return_, 1) := by decide +kernel
theorem dX1_clear_0 : decode cX1_clear 0 = .ok (.aload_n 0, 1) := by decide +kernel
theorem dX1_clear_1 : decode cX1_clear 1 = .ok (.lconst 1, 1) := by decide +kernel
theorem dX1_clear_2 : decode cX1_clear 2 = .ok (.putfield 9, 3) := by decide +kernel
theorem dX1_clear_5 : decode cX1_clear 5 = .ok (.aload_n 0, 1) := by decide +kernel
theorem dX1_clear_6 : decode cX1_clear 6 = .ok (.lconst 0, 1) := by decide +kernel
theorem dX1_clear_7 : decode cX1_clear 7 = .ok (.putfield 15, 3) := by decide +kernel
theorem dX1_clear_10 : decode cX1_clear 10 = .ok (.aload_n 0, 1) := by decide +kernel
theorem dX1_clear_11 : decode cX1_clear 11 = .ok (.lconst 0, 1) := by decide +kernel
theorem dX1_clear_12 : decode cX1_clear 12 = .ok (.putfield 18, 3) := by decide +kernel
theorem dX1_clear_15 : decode cX1_clear 15 = .ok (.aload_n 0, 1) := by decide +kernel
theorem dX1_clear_16 : decode cX1_clear 16 = .ok (.lconst 1, 1) := by decide +kernel
theorem dX1_clear_17 : decode cX1_clear 17 = .ok (.putfield 21, 3) := by decide +kernel
theorem dX1_clear_20 : decode cX1_clear 20 = .ok (.aload_n 0, 1) := by decide +kernel
theorem dX1_clear_21 : decode cX1_clear 21 = .ok (.lconst 0, 1) := by decide +kernel
theorem dX1_clear_22 : decode cX1_clear 22 = .ok (.putfield 24, 3) := by decide +kernel
theorem dX1_clear_25 : decode cX1_clear 25 = .ok (.aload_n 0, 1) := by decide +kernel
theorem dX1_clear_26 : decode cX1_clear 26 = .ok (.lconst 0, 1) := by decide +kernel
theorem dX1_clear_27 : decode cX1_clear 27 = .ok (.putfield 27, 3) := by decide +kernel
theorem dX1_clear_30 : decode cX1_clear 30 = .ok (.aload_n 0, 1) := by decide +kernel
theorem dX1_clear_31 : decode cX1_clear 31 = .ok (.lconst 1, 1) := by decide +kernel
theorem dX1_clear_32 : decode cX1_clear 32 = .ok (.putfield 30, 3) := by decide +kernel
theorem dX1_clear_35 : decode cX1_clear 35 = .ok (.return_, 1) := by decide +kernel
set_option maxRecDepth 20000 in
theorem ggX1_lead_X1_clear : GoodIn wsX1_lead wsX1_clear := goodIn_r _ [7, 8, 9, 10, 11, 12, 13, 14, 45, 46, 47, 48, 49, 50, 51] (by decide +kernel) (by decide +kernel)
set_option maxRecDepth 20000 in
theorem gX1_lead_X1_clear : GoodIn wsX1_lead (wsV RX1 33 RX1 yX1_clear wsX1_clear) := goodIn_app (goodIn_of _ (by decide +kernel)) ggX1_lead_X1_clear
set_option maxRecDepth 20000 in
theorem ggX1_lead_X0_has : GoodIn wsX1_lead wsX0_has := goodIn_r _ [19, 20, 41, 42, 43, 44] (by decide +kernel) (by decide +kernel)
set_option maxRecDepth 20000 in
theorem gX1_lead_X0_has : GoodIn wsX1_lead (wsV RX1 36 RX0 yX0_has wsX0_has) := goodIn_app (goodIn_of _ (by decide +kernel)) ggX1_lead_X0_has
set_option maxRecDepth 20000 in
theorem ggX1_lead_X0_strength : GoodIn wsX1_lead wsX0_strength := goodIn_r _ [24, 25, 26, 27, 41, 42, 43, 44] (by decide +kernel) (by decide +kernel)
set_option maxRecDepth 20000 in
theorem gX1_lead_X0_strength : GoodIn wsX1_lead (wsV RX1 46 RX0 yX0_strength wsX0_strength) := goodIn_app (goodIn_of _ (by decide +kernel)) ggX1_lead_X0_strength
set_option maxRecDepth 20000 in
theorem ggX1_lead_X1_go : GoodIn wsX1_lead wsX1_go := goodIn_r _ [31, 13, 14, 32, 33, 34, 6, 35, 8, 10, 9, 11, 12, 36, 37, 38, 39, 40, 45, 46, 47, 48, 49, 50, 51] (by decide +kernel) (by decide +kernel)
set_option maxRecDepth 20000 in
theorem gX1_lead_X1_go : GoodIn wsX1_lead (wsV RX1 50 RX1 yX1_go wsX1_go) := goodIn_app (goodIn_of _ (by decide +kernel)) ggX1_lead_X1_go
theorem dX1_lead_0 : decode cX1_lead 0 = .ok (.aload_n 0, 1) := by decide +kernel
theorem dX1_lead_1 : decode cX1_lead 1 = .ok (.invokevirtual 33, 3) := by decide +kernel
theorem dX1_lead_4 : decode cX1_lead 4 = .ok (.iload_n 3, 1) := by decide +kernel
theorem dX1_lead_5 : decode cX1_lead 5 = .ok (.istore 5, 2) := by decide +kernel
theorem dX1_lead_7 : decode cX1_lead 7 = .ok (.iconst 0, 1) := by decide +kernel
theorem dX1_lead_8 : decode cX1_lead 8 = .ok (.istore 6, 2) := by decide +kernel
theorem dX1_lead_10 : decode cX1_lead 10 = .ok (.iload 6, 2) := by decide +kernel
theorem dX1_lead_12 : decode cX1_lead 12 = .ok (.iload 4, 2) := by decide +kernel
theorem dX1_lead_14 : decode cX1_lead 14 = .ok (.if_icmp .ge 57, 3) := by decide +kernel
theorem dX1_lead_17 : decode cX1_lead 17 = .ok (.aload_n 1, 1) := by decide +kernel
theorem dX1_lead_18 : decode cX1_lead 18 = .ok (.iload 5, 2) := by decide +kernel
theorem dX1_lead_20 : decode cX1_lead 20 = .ok (.invokevirtual 36, 3) := by decide +kernel
theorem dX1_lead_23 : decode cX1_lead 23 = .ok (.ifCond .eq 21, 3) := by decide +kernel
theorem dX1_lead_26 : decode cX1_lead 26 = .ok (.aload_n 0, 1) := by decide +kernel
theorem dX1_lead_27 : decode cX1_lead 27 = .ok (.aload_n 1, 1) := by decide +kernel
theorem dX1_lead_28 : decode cX1_lead 28 = .ok (.getfield 42, 3) := by decide +kernel
theorem dX1_lead_31 : decode cX1_lead 31 = .ok (.iload 5, 2) := by decide +kernel
theorem dX1_lead_33 : decode cX1_lead 33 = .ok (.iaload, 1) := by decide +kernel
theorem dX1_lead_34 : decode cX1_lead 34 = .ok (.aload_n 1, 1) := by decide +kernel
theorem dX1_lead_35 : decode cX1_lead 35 = .ok (.iload 5, 2) := by decide +kernel
theorem dX1_lead_37 : decode cX1_lead 37 = .ok (.iload_n 2, 1) := by decide +kernel
theorem dX1_lead_38 : decode cX1_lead 38 = .ok (.invokevirtual 46, 3) := by decide +kernel
theorem dX1_lead_41 : decode cX1_lead 41 = .ok (.invokevirtual 50, 3) := by decide +kernel
theorem dX1_lead_44 : decode cX1_lead 44 = .ok (.iload 5, 2) := by decide +kernel
theorem dX1_lead_46 : decode cX1_lead 46 = .ok (.iconst 1, 1) := by decide +kernel
theorem dX1_lead_47 : decode cX1_lead 47 = .ok (.iadd, 1) := by decide +kernel
theorem dX1_lead_48 : decode cX1_lead 48 = .ok (.aload_n 1, 1) := by decide +kernel
theorem dX1_lead_49 : decode cX1_lead 49 = .ok (.getfield 54, 3) := by decide +kernel
theorem dX1_lead_52 : decode cX1_lead 52 = .ok (.if_icmp .ge 10, 3) := by decide +kernel
theorem dX1_lead_55 : decode cX1_lead 55 = .ok (.iload 5, 2) := by decide +kernel
theorem dX1_lead_57 : decode cX1_lead 57 = .ok (.iconst 1, 1) := by decide +kernel
theorem dX1_lead_58 : decode cX1_lead 58 = .ok (.iadd, 1) := by decide +kernel
theorem dX1_lead_59 : decode cX1_lead 59 = .ok (.goto 4, 3) := by decide +kernel
theorem dX1_lead_62 : decode cX1_lead 62 = .ok (.iconst 0, 1) := by decide +kernel
theorem dX1_lead_63 : decode cX1_lead 63 = .ok (.istore 5, 2) := by decide +kernel
theorem dX1_lead_65 : decode cX1_lead 65 = .ok (.iinc 6 1, 3) := by decide +kernel
theorem dX1_lead_68 : decode cX1_lead 68 = .ok (.goto (-58), 3) := by decide +kernel
theorem dX1_lead_71 : decode cX1_lead 71 = .ok (.return_, 1) := by decide +kernel
set_option maxRecDepth 20000 in
theorem ggX1_leadThrough_X1_lead : GoodIn wsX1_leadThrough wsX1_lead := goodIn_r _ [6, 7, 1, 8, 9, 10, 5, 11, 12, 13, 14, 15, 16, 17, 18, 19, 20, 21, 22, 23, 24, 25, 26, 27, 28, 29, 30, 31, 32, 33, 34, 35, 36, 37, 38, 39, 40, 41, 42, 43, 44, 45, 46, 47, 48, 49, 50, 51, 52, 53, 54, 55] (by decide +kernel) (by decide +kernel)
set_option maxRecDepth 20000 in
theorem gX1_leadThrough_X1_lead : GoodIn wsX1_leadThrough (wsV RX1 58 RX1 yX1_lead wsX1_lead) := goodIn_app (goodIn_of _ (by decide +kernel)) ggX1_leadThrough_X1_lead
theorem dX1_leadThrough_0 : decode cX1_leadThrough 0 = .ok (.aload_n 0, 1) := by decide +kernel
theorem dX1_leadThrough_1 : decode cX1_leadThrough 1 = .ok (.aload_n 1, 1) := by decide +kernel
theorem dX1_leadThrough_2 : decode cX1_leadThrough 2 = .ok (.iload_n 2, 1) := by decide +kernel
theorem dX1_leadThrough_3 : decode cX1_leadThrough 3 = .ok (.iconst 0, 1) := by decide +kernel
theorem dX1_leadThrough_4 : decode cX1_leadThrough 4 = .ok (.aload_n 1, 1) := by decide +kernel
theorem dX1_leadThrough_5 : decode cX1_leadThrough 5 = .ok (.getfield 54, 3) := by decide +kernel
theorem dX1_leadThrough_8 : decode cX1_leadThrough 8 = .ok (.invokevirtual 58, 3) := by decide +kernel
theorem dX1_leadThrough_11 : decode cX1_leadThrough 11 = .ok (.return_, 1) := by decide +kernel
set_option maxRecDepth 20000 in
theorem ggX1_go_X1_stretchBy : GoodIn wsX1_go wsX1_stretchBy := goodIn_r _ [7, 8, 9, 10, 11, 12, 1, 18, 19, 20, 21, 22, 23, 24] (by decide +kernel) (by decide +kernel)
set_option maxRecDepth 20000 in
theorem gX1_go_X1_stretchBy : GoodIn wsX1_go (wsV RX1 62 RX1 yX1_stretchBy wsX1_stretchBy) := goodIn_app (goodIn_of _ (by decide +kernel)) ggX1_go_X1_stretchBy
set_option maxRecDepth 20000 in
theorem ggX1_go_X1_bendBy : GoodIn wsX1_go wsX1_bendBy := goodIn_r _ [16, 17, 9, 8, 11, 10, 1, 12, 2, 18, 19, 20, 21, 22, 23, 24] (by decide +kernel) (by decide +kernel)
set_option maxRecDepth 20000 in
theorem gX1_go_X1_bendBy : GoodIn wsX1_go (wsV RX1 66 RX1 yX1_bendBy wsX1_bendBy) := goodIn_app (goodIn_of _ (by decide +kernel)) ggX1_go_X1_bendBy
theorem dX1_go_0 : decode cX1_go 0 = .ok (.iload_n 1, 1) := by decide +kernel
theorem dX1_go_1 : decode cX1_go 1 = .ok (.tableswitch 68 0 3 #[31, 40, 40, 49], 31) := by decide +kernel
theorem dX1_go_32 : decode cX1_go 32 = .ok (.aload_n 0, 1) := by decide +kernel
theorem dX1_go_33 : decode cX1_go 33 = .ok (.iload_n 2, 1) := by decide +kernel
theorem dX1_go_34 : decode cX1_go 34 = .ok (.i2l, 1) := by decide +kernel
theorem dX1_go_35 : decode cX1_go 35 = .ok (.invokevirtual 62, 3) := by decide +kernel
theorem dX1_go_38 : decode cX1_go 38 = .ok (.goto 31, 3) := by decide +kernel
theorem dX1_go_41 : decode cX1_go 41 = .ok (.aload_n 0, 1) := by decide +kernel
theorem dX1_go_42 : decode cX1_go 42 = .ok (.iload_n 2, 1) := by decide +kernel
theorem dX1_go_43 : decode cX1_go 43 = .ok (.i2l, 1) := by decide +kernel
theorem dX1_go_44 : decode cX1_go 44 = .ok (.invokevirtual 66, 3) := by decide +kernel
theorem dX1_go_47 : decode cX1_go 47 = .ok (.goto 22, 3) := by decide +kernel
theorem dX1_go_50 : decode cX1_go 50 = .ok (.aload_n 0, 1) := by decide +kernel
theorem dX1_go_51 : decode cX1_go 51 = .ok (.dup, 1) := by decide +kernel
theorem dX1_go_52 : decode cX1_go 52 = .ok (.getfield 27, 3) := by decide +kernel
theorem dX1_go_55 : decode cX1_go 55 = .ok (.iload_n 2, 1) := by decide +kernel
theorem dX1_go_56 : decode cX1_go 56 = .ok (.i2l, 1) := by decide +kernel
theorem dX1_go_57 : decode cX1_go 57 = .ok (.aload_n 0, 1) := by decide +kernel
theorem dX1_go_58 : decode cX1_go 58 = .ok (.getfield 30, 3) := by decide +kernel
theorem dX1_go_61 : decode cX1_go 61 = .ok (.lmul, 1) := by decide +kernel
theorem dX1_go_62 : decode cX1_go 62 = .ok (.ladd, 1) := by decide +kernel
theorem dX1_go_63 : decode cX1_go 63 = .ok (.putfield 27, 3) := by decide +kernel
theorem dX1_go_66 : decode cX1_go 66 = .ok (.goto 3, 3) := by decide +kernel
theorem dX1_go_69 : decode cX1_go 69 = .ok (.return_, 1) := by decide +kernel
theorem dX1_stretchBy_0 : decode cX1_stretchBy 0 = .ok (.aload_n 0, 1) := by decide +kernel
theorem dX1_stretchBy_1 : decode cX1_stretchBy 1 = .ok (.dup, 1) := by decide +kernel
theorem dX1_stretchBy_2 : decode cX1_stretchBy 2 = .ok (.getfield 9, 3) := by decide +kernel
theorem dX1_stretchBy_5 : decode cX1_stretchBy 5 = .ok (.lload_n 1, 1) := by decide +kernel
theorem dX1_stretchBy_6 : decode cX1_stretchBy 6 = .ok (.aload_n 0, 1) := by decide +kernel
theorem dX1_stretchBy_7 : decode cX1_stretchBy 7 = .ok (.getfield 18, 3) := by decide +kernel
theorem dX1_stretchBy_10 : decode cX1_stretchBy 10 = .ok (.lmul, 1) := by decide +kernel
theorem dX1_stretchBy_11 : decode cX1_stretchBy 11 = .ok (.ladd, 1) := by decide +kernel
theorem dX1_stretchBy_12 : decode cX1_stretchBy 12 = .ok (.putfield 9, 3) := by decide +kernel
theorem dX1_stretchBy_15 : decode cX1_stretchBy 15 = .ok (.aload_n 0, 1) := by decide +kernel
theorem dX1_stretchBy_16 : decode cX1_stretchBy 16 = .ok (.dup, 1) := by decide +kernel
theorem dX1_stretchBy_17 : decode cX1_stretchBy 17 = .ok (.getfield 15, 3) := by decide +kernel
theorem dX1_stretchBy_20 : decode cX1_stretchBy 20 = .ok (.lload_n 1, 1) := by decide +kernel
theorem dX1_stretchBy_21 : decode cX1_stretchBy 21 = .ok (.aload_n 0, 1) := by decide +kernel
theorem dX1_stretchBy_22 : decode cX1_stretchBy 22 = .ok (.getfield 21, 3) := by decide +kernel
theorem dX1_stretchBy_25 : decode cX1_stretchBy 25 = .ok (.lmul, 1) := by decide +kernel
theorem dX1_stretchBy_26 : decode cX1_stretchBy 26 = .ok (.ladd, 1) := by decide +kernel
theorem dX1_stretchBy_27 : decode cX1_stretchBy 27 = .ok (.putfield 15, 3) := by decide +kernel
theorem dX1_stretchBy_30 : decode cX1_stretchBy 30 = .ok (.aload_n 0, 1) := by decide +kernel
theorem dX1_stretchBy_31 : decode cX1_stretchBy 31 = .ok (.dup, 1) := by decide +kernel
theorem dX1_stretchBy_32 : decode cX1_stretchBy 32 = .ok (.getfield 24, 3) := by decide +kernel
theorem dX1_stretchBy_35 : decode cX1_stretchBy 35 = .ok (.lload_n 1, 1) := by decide +kernel
theorem dX1_stretchBy_36 : decode cX1_stretchBy 36 = .ok (.aload_n 0, 1) := by decide +kernel
theorem dX1_stretchBy_37 : decode cX1_stretchBy 37 = .ok (.getfield 27, 3) := by decide +kernel
theorem dX1_stretchBy_40 : decode cX1_stretchBy 40 = .ok (.lmul, 1) := by decide +kernel
theorem dX1_stretchBy_41 : decode cX1_stretchBy 41 = .ok (.ladd, 1) := by decide +kernel
theorem dX1_stretchBy_42 : decode cX1_stretchBy 42 = .ok (.putfield 24, 3) := by decide +kernel
theorem dX1_stretchBy_45 : decode cX1_stretchBy 45 = .ok (.return_, 1) := by decide +kernel
theorem dX1_bendBy_0 : decode cX1_bendBy 0 = .ok (.lload_n 1, 1) := by decide +kernel
theorem dX1_bendBy_1 : decode cX1_bendBy 1 = .ok (.lconst 0, 1) := by decide +kernel
theorem dX1_bendBy_2 : decode cX1_bendBy 2 = .ok (.lcmp, 1) := by decide +kernel
theorem dX1_bendBy_3 : decode cX1_bendBy 3 = .ok (.ifCond .ge 9, 3) := by decide +kernel
theorem dX1_bendBy_6 : decode cX1_bendBy 6 = .ok (.ldc2_w 69, 3) := by decide +kernel
theorem dX1_bendBy_9 : decode cX1_bendBy 9 = .ok (.goto 4, 3) := by decide +kernel
theorem dX1_bendBy_12 : decode cX1_bendBy 12 = .ok (.lconst 1, 1) := by decide +kernel
theorem dX1_bendBy_13 : decode cX1_bendBy 13 = .ok (.lstore_n 3, 1) := by decide +kernel
theorem dX1_bendBy_14 : decode cX1_bendBy 14 = .ok (.lload_n 3, 1) := by decide +kernel
theorem dX1_bendBy_15 : decode cX1_bendBy 15 = .ok (.lload_n 1, 1) := by decide +kernel
theorem dX1_bendBy_16 : decode cX1_bendBy 16 = .ok (.lmul, 1) := by decide +kernel
theorem dX1_bendBy_17 : decode cX1_bendBy 17 = .ok (.lstore 5, 2) := by decide +kernel
theorem dX1_bendBy_19 : decode cX1_bendBy 19 = .ok (.aload_n 0, 1) := by decide +kernel
theorem dX1_bendBy_20 : decode cX1_bendBy 20 = .ok (.lload 5, 2) := by decide +kernel
theorem dX1_bendBy_22 : decode cX1_bendBy 22 = .ok (.aload_n 0, 1) := by decide +kernel
theorem dX1_bendBy_23 : decode cX1_bendBy 23 = .ok (.getfield 18, 3) := by decide +kernel
theorem dX1_bendBy_26 : decode cX1_bendBy 26 = .ok (.lmul, 1) := by decide +kernel
theorem dX1_bendBy_27 : decode cX1_bendBy 27 = .ok (.lload_n 3, 1) := by decide +kernel
theorem dX1_bendBy_28 : decode cX1_bendBy 28 = .ok (.aload_n 0, 1) := by decide +kernel
theorem dX1_bendBy_29 : decode cX1_bendBy 29 = .ok (.getfield 9, 3) := by decide +kernel
theorem dX1_bendBy_32 : decode cX1_bendBy 32 = .ok (.lmul, 1) := by decide +kernel
theorem dX1_bendBy_33 : decode cX1_bendBy 33 = .ok (.lsub, 1) := by decide +kernel
theorem dX1_bendBy_34 : decode cX1_bendBy 34 = .ok (.putfield 18, 3) := by decide +kernel
theorem dX1_bendBy_37 : decode cX1_bendBy 37 = .ok (.aload_n 0, 1) := by decide +kernel
theorem dX1_bendBy_38 : decode cX1_bendBy 38 = .ok (.lload 5, 2) := by decide +kernel
theorem dX1_bendBy_40 : decode cX1_bendBy 40 = .ok (.aload_n 0, 1) := by decide +kernel
theorem dX1_bendBy_41 : decode cX1_bendBy 41 = .ok (.getfield 21, 3) := by decide +kernel
theorem dX1_bendBy_44 : decode cX1_bendBy 44 = .ok (.lmul, 1) := by decide +kernel
theorem dX1_bendBy_45 : decode cX1_bendBy 45 = .ok (.lload_n 3, 1) := by decide +kernel
theorem dX1_bendBy_46 : decode cX1_bendBy 46 = .ok (.aload_n 0, 1) := by decide +kernel
theorem dX1_bendBy_47 : decode cX1_bendBy 47 = .ok (.getfield 15, 3) := by decide +kernel
theorem dX1_bendBy_50 : decode cX1_bendBy 50 = .ok (.lmul, 1) := by decide +kernel
theorem dX1_bendBy_51 : decode cX1_bendBy 51 = .ok (.lsub, 1) := by decide +kernel
theorem dX1_bendBy_52 : decode cX1_bendBy 52 = .ok (.putfield 21, 3) := by decide +kernel
theorem dX1_bendBy_55 : decode cX1_bendBy 55 = .ok (.aload_n 0, 1) := by decide +kernel
theorem dX1_bendBy_56 : decode cX1_bendBy 56 = .ok (.lload 5, 2) := by decide +kernel
theorem dX1_bendBy_58 : decode cX1_bendBy 58 = .ok (.aload_n 0, 1) := by decide +kernel
theorem dX1_bendBy_59 : decode cX1_bendBy 59 = .ok (.getfield 27, 3) := by decide +kernel
theorem dX1_bendBy_62 : decode cX1_bendBy 62 = .ok (.lmul, 1) := by decide +kernel
theorem dX1_bendBy_63 : decode cX1_bendBy 63 = .ok (.lload_n 3, 1) := by decide +kernel
theorem dX1_bendBy_64 : decode cX1_bendBy 64 = .ok (.aload_n 0, 1) := by decide +kernel
theorem dX1_bendBy_65 : decode cX1_bendBy 65 = .ok (.getfield 24, 3) := by decide +kernel
theorem dX1_bendBy_68 : decode cX1_bendBy 68 = .ok (.lmul, 1) := by decide +kernel
theorem dX1_bendBy_69 : decode cX1_bendBy 69 = .ok (.lsub, 1) := by decide +kernel
theorem dX1_bendBy_70 : decode cX1_bendBy 70 = .ok (.putfield 27, 3) := by decide +kernel
theorem dX1_bendBy_73 : decode cX1_bendBy 73 = .ok (.aload_n 0, 1) := by decide +kernel
theorem dX1_bendBy_74 : decode cX1_bendBy 74 = .ok (.dup, 1) := by decide +kernel
theorem dX1_bendBy_75 : decode cX1_bendBy 75 = .ok (.getfield 9, 3) := by decide +kernel
theorem dX1_bendBy_78 : decode cX1_bendBy 78 = .ok (.lload 5, 2) := by decide +kernel
theorem dX1_bendBy_80 : decode cX1_bendBy 80 = .ok (.lmul, 1) := by decide +kernel
theorem dX1_bendBy_81 : decode cX1_bendBy 81 = .ok (.putfield 9, 3) := by decide +kernel
theorem dX1_bendBy_84 : decode cX1_bendBy 84 = .ok (.aload_n 0, 1) := by decide +kernel
theorem dX1_bendBy_85 : decode cX1_bendBy 85 = .ok (.dup, 1) := by decide +kernel
theorem dX1_bendBy_86 : decode cX1_bendBy 86 = .ok (.getfield 15, 3) := by decide +kernel
theorem dX1_bendBy_89 : decode cX1_bendBy 89 = .ok (.lload 5, 2) := by decide +kernel
theorem dX1_bendBy_91 : decode cX1_bendBy 91 = .ok (.lmul, 1) := by decide +kernel
theorem dX1_bendBy_92 : decode cX1_bendBy 92 = .ok (.putfield 15, 3) := by decide +kernel
theorem dX1_bendBy_95 : decode cX1_bendBy 95 = .ok (.aload_n 0, 1) := by decide +kernel
theorem dX1_bendBy_96 : decode cX1_bendBy 96 = .ok (.dup, 1) := by decide +kernel
theorem dX1_bendBy_97 : decode cX1_bendBy 97 = .ok (.getfield 24, 3) := by decide +kernel
theorem dX1_bendBy_100 : decode cX1_bendBy 100 = .ok (.lload 5, 2) := by decide +kernel
theorem dX1_bendBy_102 : decode cX1_bendBy 102 = .ok (.lmul, 1) := by decide +kernel
theorem dX1_bendBy_103 : decode cX1_bendBy 103 = .ok (.putfield 24, 3) := by decide +kernel
theorem dX1_bendBy_106 : decode cX1_bendBy 106 = .ok (.aload_n 0, 1) := by decide +kernel
theorem dX1_bendBy_107 : decode cX1_bendBy 107 = .ok (.dup, 1) := by decide +kernel
theorem dX1_bendBy_108 : decode cX1_bendBy 108 = .ok (.getfield 30, 3) := by decide +kernel
theorem dX1_bendBy_111 : decode cX1_bendBy 111 = .ok (.lload 5, 2) := by decide +kernel
theorem dX1_bendBy_113 : decode cX1_bendBy 113 = .ok (.lmul, 1) := by decide +kernel
theorem dX1_bendBy_114 : decode cX1_bendBy 114 = .ok (.putfield 30, 3) := by decide +kernel
theorem dX1_bendBy_117 : decode cX1_bendBy 117 = .ok (.return_, 1) := by decide +kernel
theorem dX1_above_0 : decode cX1_above 0 = .ok (.iload_n 1, 1) := by decide +kernel
theorem dX1_above_1 : decode cX1_above 1 = .ok (.tableswitch 60 0 4 #[35, 40, 45, 50, 55], 35) := by decide +kernel
theorem dX1_above_36 : decode cX1_above 36 = .ok (.aload_n 0, 1) := by decide +kernel
theorem dX1_above_37 : decode cX1_above 37 = .ok (.getfield 9, 3) := by decide +kernel
theorem dX1_above_40 : decode cX1_above 40 = .ok (.lreturn, 1) := by decide +kernel
theorem dX1_above_41 : decode cX1_above 41 = .ok (.aload_n 0, 1) := by decide +kernel
theorem dX1_above_42 : decode cX1_above 42 = .ok (.getfield 15, 3) := by decide +kernel
theorem dX1_above_45 : decode cX1_above 45 = .ok (.lreturn, 1) := by decide +kernel
theorem dX1_above_46 : decode cX1_above 46 = .ok (.aload_n 0, 1) := by decide +kernel
theorem dX1_above_47 : decode cX1_above 47 = .ok (.getfield 18, 3) := by decide +kernel
theorem dX1_above_50 : decode cX1_above 50 = .ok (.lreturn, 1) := by decide +kernel
theorem dX1_above_51 : decode cX1_above 51 = .ok (.aload_n 0, 1) := by decide +kernel
theorem dX1_above_52 : decode cX1_above 52 = .ok (.getfield 21, 3) := by decide +kernel
theorem dX1_above_55 : decode cX1_above 55 = .ok (.lreturn, 1) := by decide +kernel
theorem dX1_above_56 : decode cX1_above 56 = .ok (.aload_n 0, 1) := by decide +kernel
theorem dX1_above_57 : decode cX1_above 57 = .ok (.getfield 24, 3) := by decide +kernel
theorem dX1_above_60 : decode cX1_above 60 = .ok (.lreturn, 1) := by decide +kernel
theorem dX1_above_61 : decode cX1_above 61 = .ok (.aload_n 0, 1) := by decide +kernel
theorem dX1_above_62 : decode cX1_above 62 = .ok (.getfield 27, 3) := by decide +kernel
theorem dX1_above_65 : decode cX1_above 65 = .ok (.lreturn, 1) := by decide +kernel
theorem dX1_farAbove_0 : decode cX1_farAbove 0 = .ok (.aload_n 0, 1) := by decide +kernel
theorem dX1_farAbove_1 : decode cX1_farAbove 1 = .ok (.getfield 9, 3) := by decide +kernel
theorem dX1_farAbove_4 : decode cX1_farAbove 4 = .ok (.lload_n 1, 1) := by decide +kernel
theorem dX1_farAbove_5 : decode cX1_farAbove 5 = .ok (.lmul, 1) := by decide +kernel
theorem dX1_farAbove_6 : decode cX1_farAbove 6 = .ok (.aload_n 0, 1) := by decide +kernel
theorem dX1_farAbove_7 : decode cX1_farAbove 7 = .ok (.getfield 15, 3) := by decide +kernel
theorem dX1_farAbove_10 : decode cX1_farAbove 10 = .ok (.lload_n 3, 1) := by decide +kernel
theorem dX1_farAbove_11 : decode cX1_farAbove 11 = .ok (.lmul, 1) := by decide +kernel
theorem dX1_farAbove_12 : decode cX1_farAbove 12 = .ok (.ladd, 1) := by decide +kernel
theorem dX1_farAbove_13 : decode cX1_farAbove 13 = .ok (.aload_n 0, 1) := by decide +kernel
theorem dX1_farAbove_14 : decode cX1_farAbove 14 = .ok (.getfield 24, 3) := by decide +kernel
theorem dX1_farAbove_17 : decode cX1_farAbove 17 = .ok (.ladd, 1) := by decide +kernel
theorem dX1_farAbove_18 : decode cX1_farAbove 18 = .ok (.lreturn, 1) := by decide +kernel
theorem dX1_leanAbove_0 : decode cX1_leanAbove 0 = .ok (.aload_n 0, 1) := by decide +kernel
theorem dX1_leanAbove_1 : decode cX1_leanAbove 1 = .ok (.getfield 18, 3) := by decide +kernel
theorem dX1_leanAbove_4 : decode cX1_leanAbove 4 = .ok (.lload_n 1, 1) := by decide +kernel
theorem dX1_leanAbove_5 : decode cX1_leanAbove 5 = .ok (.lmul, 1) := by decide +kernel
theorem dX1_leanAbove_6 : decode cX1_leanAbove 6 = .ok (.aload_n 0, 1) := by decide +kernel
theorem dX1_leanAbove_7 : decode cX1_leanAbove 7 = .ok (.getfield 21, 3) := by decide +kernel
theorem dX1_leanAbove_10 : decode cX1_leanAbove 10 = .ok (.lload_n 3, 1) := by decide +kernel
theorem dX1_leanAbove_11 : decode cX1_leanAbove 11 = .ok (.lmul, 1) := by decide +kernel
theorem dX1_leanAbove_12 : decode cX1_leanAbove 12 = .ok (.ladd, 1) := by decide +kernel
theorem dX1_leanAbove_13 : decode cX1_leanAbove 13 = .ok (.aload_n 0, 1) := by decide +kernel
theorem dX1_leanAbove_14 : decode cX1_leanAbove 14 = .ok (.getfield 27, 3) := by decide +kernel
theorem dX1_leanAbove_17 : decode cX1_leanAbove 17 = .ok (.ladd, 1) := by decide +kernel
theorem dX1_leanAbove_18 : decode cX1_leanAbove 18 = .ok (.lreturn, 1) := by decide +kernel
theorem dX1_steepestWithin_0 : decode cX1_steepestWithin 0 = .ok (.lload_n 1, 1) := by decide +kernel
theorem dX1_steepestWithin_1 : decode cX1_steepestWithin 1 = .ok (.aload_n 0, 1) := by decide +kernel
theorem dX1_steepestWithin_2 : decode cX1_steepestWithin 2 = .ok (.getfield 30, 3) := by decide +kernel
theorem dX1_steepestWithin_5 : decode cX1_steepestWithin 5 = .ok (.lmul, 1) := by decide +kernel
theorem dX1_steepestWithin_6 : decode cX1_steepestWithin 6 = .ok (.lstore_n 3, 1) := by decide +kernel
theorem dX1_steepestWithin_7 : decode cX1_steepestWithin 7 = .ok (.aload_n 0, 1) := by decide +kernel
theorem dX1_steepestWithin_8 : decode cX1_steepestWithin 8 = .ok (.getfield 24, 3) := by decide +kernel
theorem dX1_steepestWithin_11 : decode cX1_steepestWithin 11 = .ok (.invokestatic 71, 3) := by decide +kernel
theorem dX1_steepestWithin_14 : decode cX1_steepestWithin 14 = .ok (.lload_n 3, 1) := by decide +kernel
theorem dX1_steepestWithin_15 : decode cX1_steepestWithin 15 = .ok (.lcmp, 1) := by decide +kernel
theorem dX1_steepestWithin_16 : decode cX1_steepestWithin 16 = .ok (.ifCond .le 7, 3) := by decide +kernel
theorem dX1_steepestWithin_19 : decode cX1_steepestWithin 19 = .ok (.ldc2_w 69, 3) := by decide +kernel
theorem dX1_steepestWithin_22 : decode cX1_steepestWithin 22 = .ok (.lreturn, 1) := by decide +kernel
theorem dX1_steepestWithin_23 : decode cX1_steepestWithin 23 = .ok (.aload_n 0, 1) := by decide +kernel
theorem dX1_steepestWithin_24 : decode cX1_steepestWithin 24 = .ok (.getfield 15, 3) := by decide +kernel
theorem dX1_steepestWithin_27 : decode cX1_steepestWithin 27 = .ok (.lconst 0, 1) := by decide +kernel
theorem dX1_steepestWithin_28 : decode cX1_steepestWithin 28 = .ok (.lcmp, 1) := by decide +kernel
theorem dX1_steepestWithin_29 : decode cX1_steepestWithin 29 = .ok (.ifCond .ne 7, 3) := by decide +kernel
theorem dX1_steepestWithin_32 : decode cX1_steepestWithin 32 = .ok (.ldc2_w 77, 3) := by decide +kernel
theorem dX1_steepestWithin_35 : decode cX1_steepestWithin 35 = .ok (.lreturn, 1) := by decide +kernel
theorem dX1_steepestWithin_36 : decode cX1_steepestWithin 36 = .ok (.aload_n 0, 1) := by decide +kernel
theorem dX1_steepestWithin_37 : decode cX1_steepestWithin 37 = .ok (.getfield 15, 3) := by decide +kernel
theorem dX1_steepestWithin_40 : decode cX1_steepestWithin 40 = .ok (.lconst 0, 1) := by decide +kernel
theorem dX1_steepestWithin_41 : decode cX1_steepestWithin 41 = .ok (.lcmp, 1) := by decide +kernel
theorem dX1_steepestWithin_42 : decode cX1_steepestWithin 42 = .ok (.ifCond .le 17, 3) := by decide +kernel
theorem dX1_steepestWithin_45 : decode cX1_steepestWithin 45 = .ok (.lload_n 3, 1) := by decide +kernel
theorem dX1_steepestWithin_46 : decode cX1_steepestWithin 46 = .ok (.aload_n 0, 1) := by decide +kernel
theorem dX1_steepestWithin_47 : decode cX1_steepestWithin 47 = .ok (.getfield 24, 3) := by decide +kernel
theorem dX1_steepestWithin_50 : decode cX1_steepestWithin 50 = .ok (.lsub, 1) := by decide +kernel
theorem dX1_steepestWithin_51 : decode cX1_steepestWithin 51 = .ok (.aload_n 0, 1) := by decide +kernel
theorem dX1_steepestWithin_52 : decode cX1_steepestWithin 52 = .ok (.getfield 15, 3) := by decide +kernel
theorem dX1_steepestWithin_55 : decode cX1_steepestWithin 55 = .ok (.ldiv, 1) := by decide +kernel
theorem dX1_steepestWithin_56 : decode cX1_steepestWithin 56 = .ok (.goto 15, 3) := by decide +kernel
theorem dX1_steepestWithin_59 : decode cX1_steepestWithin 59 = .ok (.lload_n 3, 1) := by decide +kernel
theorem dX1_steepestWithin_60 : decode cX1_steepestWithin 60 = .ok (.aload_n 0, 1) := by decide +kernel
theorem dX1_steepestWithin_61 : decode cX1_steepestWithin 61 = .ok (.getfield 24, 3) := by decide +kernel
theorem dX1_steepestWithin_64 : decode cX1_steepestWithin 64 = .ok (.ladd, 1) := by decide +kernel
theorem dX1_steepestWithin_65 : decode cX1_steepestWithin 65 = .ok (.aload_n 0, 1) := by decide +kernel
theorem dX1_steepestWithin_66 : decode cX1_steepestWithin 66 = .ok (.getfield 15, 3) := by decide +kernel
theorem dX1_steepestWithin_69 : decode cX1_steepestWithin 69 = .ok (.lneg, 1) := by decide +kernel
theorem dX1_steepestWithin_70 : decode cX1_steepestWithin 70 = .ok (.ldiv, 1) := by decide +kernel
theorem dX1_steepestWithin_71 : decode cX1_steepestWithin 71 = .ok (.lreturn, 1) := by decide +kernel
theorem dX1_sum_0 : decode cX1_sum 0 = .ok (.aload_n 0, 1) := by decide +kernel
theorem dX1_sum_1 : decode cX1_sum 1 = .ok (.getfield 9, 3) := by decide +kernel
theorem dX1_sum_4 : decode cX1_sum 4 = .ok (.aload_n 0, 1) := by decide +kernel
theorem dX1_sum_5 : decode cX1_sum 5 = .ok (.getfield 21, 3) := by decide +kernel
theorem dX1_sum_8 : decode cX1_sum 8 = .ok (.ladd, 1) := by decide +kernel
theorem dX1_sum_9 : decode cX1_sum 9 = .ok (.lreturn, 1) := by decide +kernel
set_option maxRecDepth 20000 in
theorem ggX1_isBetween_X1_sum : GoodIn wsX1_isBetween wsX1_sum := goodIn_r _ [8, 9, 10, 11, 12, 13, 14, 15, 16, 17] (by decide +kernel) (by decide +kernel)
set_option maxRecDepth 20000 in
theorem gX1_isBetween_X1_sum : GoodIn wsX1_isBetween (wsV RX1 79 RX1 yX1_sum wsX1_sum) := goodIn_app (goodIn_of _ (by decide +kernel)) ggX1_isBetween_X1_sum
theorem dX1_isBetween_0 : decode cX1_isBetween 0 = .ok (.aload_n 0, 1) := by decide +kernel
theorem dX1_isBetween_1 : decode cX1_isBetween 1 = .ok (.invokevirtual 79, 3) := by decide +kernel
theorem dX1_isBetween_4 : decode cX1_isBetween 4 = .ok (.ldc2_w 83, 3) := by decide +kernel
theorem dX1_isBetween_7 : decode cX1_isBetween 7 = .ok (.aload_n 0, 1) := by decide +kernel
theorem dX1_isBetween_8 : decode cX1_isBetween 8 = .ok (.getfield 30, 3) := by decide +kernel
theorem dX1_isBetween_11 : decode cX1_isBetween 11 = .ok (.lmul, 1) := by decide +kernel
theorem dX1_isBetween_12 : decode cX1_isBetween 12 = .ok (.lcmp, 1) := by decide +kernel
theorem dX1_isBetween_13 : decode cX1_isBetween 13 = .ok (.ifCond .le 23, 3) := by decide +kernel
theorem dX1_isBetween_16 : decode cX1_isBetween 16 = .ok (.aload_n 0, 1) := by decide +kernel
theorem dX1_isBetween_17 : decode cX1_isBetween 17 = .ok (.invokevirtual 79, 3) := by decide +kernel
theorem dX1_isBetween_20 : decode cX1_isBetween 20 = .ok (.ldc2_w 85, 3) := by decide +kernel
theorem dX1_isBetween_23 : decode cX1_isBetween 23 = .ok (.aload_n 0, 1) := by decide +kernel
theorem dX1_isBetween_24 : decode cX1_isBetween 24 = .ok (.getfield 30, 3) := by decide +kernel
theorem dX1_isBetween_27 : decode cX1_isBetween 27 = .ok (.lmul, 1) := by decide +kernel
theorem dX1_isBetween_28 : decode cX1_isBetween 28 = .ok (.lcmp, 1) := by decide +kernel
theorem dX1_isBetween_29 : decode cX1_isBetween 29 = .ok (.ifCond .ge 7, 3) := by decide +kernel
theorem dX1_isBetween_32 : decode cX1_isBetween 32 = .ok (.iconst 1, 1) := by decide +kernel
theorem dX1_isBetween_33 : decode cX1_isBetween 33 = .ok (.goto 4, 3) := by decide +kernel
theorem dX1_isBetween_36 : decode cX1_isBetween 36 = .ok (.iconst 0, 1) := by decide +kernel
theorem dX1_isBetween_37 : decode cX1_isBetween 37 = .ok (.ireturn, 1) := by decide +kernel
theorem dX1_isPlain_0 : decode cX1_isPlain 0 = .ok (.aload_n 0, 1) := by decide +kernel
theorem dX1_isPlain_1 : decode cX1_isPlain 1 = .ok (.getfield 9, 3) := by decide +kernel
theorem dX1_isPlain_4 : decode cX1_isPlain 4 = .ok (.lload_n 1, 1) := by decide +kernel
theorem dX1_isPlain_5 : decode cX1_isPlain 5 = .ok (.lcmp, 1) := by decide +kernel
theorem dX1_isPlain_6 : decode cX1_isPlain 6 = .ok (.ifCond .ne 34, 3) := by decide +kernel
theorem dX1_isPlain_9 : decode cX1_isPlain 9 = .ok (.aload_n 0, 1) := by decide +kernel
theorem dX1_isPlain_10 : decode cX1_isPlain 10 = .ok (.getfield 21, 3) := by decide +kernel
theorem dX1_isPlain_13 : decode cX1_isPlain 13 = .ok (.lload_n 1, 1) := by decide +kernel
theorem dX1_isPlain_14 : decode cX1_isPlain 14 = .ok (.lcmp, 1) := by decide +kernel
theorem dX1_isPlain_15 : decode cX1_isPlain 15 = .ok (.ifCond .ne 25, 3) := by decide +kernel
theorem dX1_isPlain_18 : decode cX1_isPlain 18 = .ok (.aload_n 0, 1) := by decide +kernel
theorem dX1_isPlain_19 : decode cX1_isPlain 19 = .ok (.getfield 15, 3) := by decide +kernel
theorem dX1_isPlain_22 : decode cX1_isPlain 22 = .ok (.lconst 0, 1) := by decide +kernel
theorem dX1_isPlain_23 : decode cX1_isPlain 23 = .ok (.lcmp, 1) := by decide +kernel
theorem dX1_isPlain_24 : decode cX1_isPlain 24 = .ok (.ifCond .ne 16, 3) := by decide +kernel
theorem dX1_isPlain_27 : decode cX1_isPlain 27 = .ok (.aload_n 0, 1) := by decide +kernel
theorem dX1_isPlain_28 : decode cX1_isPlain 28 = .ok (.getfield 18, 3) := by decide +kernel
theorem dX1_isPlain_31 : decode cX1_isPlain 31 = .ok (.lconst 0, 1) := by decide +kernel
theorem dX1_isPlain_32 : decode cX1_isPlain 32 = .ok (.lcmp, 1) := by decide +kernel
theorem dX1_isPlain_33 : decode cX1_isPlain 33 = .ok (.ifCond .ne 7, 3) := by decide +kernel
theorem dX1_isPlain_36 : decode cX1_isPlain 36 = .ok (.iconst 1, 1) := by decide +kernel
theorem dX1_isPlain_37 : decode cX1_isPlain 37 = .ok (.goto 4, 3) := by decide +kernel
theorem dX1_isPlain_40 : decode cX1_isPlain 40 = .ok (.iconst 0, 1) := by decide +kernel
theorem dX1_isPlain_41 : decode cX1_isPlain 41 = .ok (.ireturn, 1) := by decide +kernel
set_option maxRecDepth 20000 in
theorem ggX1_manner_X1_isBetween : GoodIn wsX1_manner wsX1_isBetween := goodIn_r _ [8, 3, 1, 2, 9, 10, 11, 7, 12, 13, 14, 21, 22, 23, 24, 25, 26, 27] (by decide +kernel) (by decide +kernel)
set_option maxRecDepth 20000 in
theorem gX1_manner_X1_isBetween : GoodIn wsX1_manner (wsV RX1 87 RX1 yX1_isBetween wsX1_isBetween) := goodIn_app (goodIn_of _ (by decide +kernel)) ggX1_manner_X1_isBetween
set_option maxRecDepth 20000 in
theorem ggX1_manner_X1_isPlain : GoodIn wsX1_manner wsX1_isPlain := goodIn_r _ [18, 13, 14, 19, 20, 21, 22, 23, 24, 25, 26, 27] (by decide +kernel) (by decide +kernel)
set_option maxRecDepth 20000 in
theorem gX1_manner_X1_isPlain : GoodIn wsX1_manner (wsV RX1 91 RX1 yX1_isPlain wsX1_isPlain) := goodIn_app (goodIn_of _ (by decide +kernel)) ggX1_manner_X1_isPlain
set_option maxRecDepth 20000 in
theorem ggX1_manner_X1_sum : GoodIn wsX1_manner wsX1_sum := goodIn_r _ [12, 13, 14, 21, 22, 23, 24, 25, 26, 27] (by decide +kernel) (by decide +kernel)
set_option maxRecDepth 20000 in
theorem gX1_manner_X1_sum : GoodIn wsX1_manner (wsV RX1 79 RX1 yX1_sum wsX1_sum) := goodIn_app (goodIn_of _ (by decide +kernel)) ggX1_manner_X1_sum
theorem dX1_manner_0 : decode cX1_manner 0 = .ok (.aload_n 0, 1) := by decide +kernel
theorem dX1_manner_1 : decode cX1_manner 1 = .ok (.invokevirtual 87, 3) := by decide +kernel
theorem dX1_manner_4 : decode cX1_manner 4 = .ok (.ifCond .ne 26, 3) := by decide +kernel
theorem dX1_manner_7 : decode cX1_manner 7 = .ok (.aload_n 0, 1) := by decide +kernel
theorem dX1_manner_8 : decode cX1_manner 8 = .ok (.aload_n 0, 1) := by decide +kernel
theorem dX1_manner_9 : decode cX1_manner 9 = .ok (.getfield 30, 3) := by decide +kernel
theorem dX1_manner_12 : decode cX1_manner 12 = .ok (.invokevirtual 91, 3) := by decide +kernel
theorem dX1_manner_15 : decode cX1_manner 15 = .ok (.ifCond .ne 15, 3) := by decide +kernel
theorem dX1_manner_18 : decode cX1_manner 18 = .ok (.aload_n 0, 1) := by decide +kernel
theorem dX1_manner_19 : decode cX1_manner 19 = .ok (.aload_n 0, 1) := by decide +kernel
theorem dX1_manner_20 : decode cX1_manner 20 = .ok (.getfield 30, 3) := by decide +kernel
theorem dX1_manner_23 : decode cX1_manner 23 = .ok (.lneg, 1) := by decide +kernel
theorem dX1_manner_24 : decode cX1_manner 24 = .ok (.invokevirtual 91, 3) := by decide +kernel
theorem dX1_manner_27 : decode cX1_manner 27 = .ok (.ifCond .eq 5, 3) := by decide +kernel
theorem dX1_manner_30 : decode cX1_manner 30 = .ok (.iconst 0, 1) := by decide +kernel
theorem dX1_manner_31 : decode cX1_manner 31 = .ok (.ireturn, 1) := by decide +kernel
theorem dX1_manner_32 : decode cX1_manner 32 = .ok (.aload_n 0, 1) := by decide +kernel
theorem dX1_manner_33 : decode cX1_manner 33 = .ok (.invokevirtual 79, 3) := by decide +kernel
theorem dX1_manner_36 : decode cX1_manner 36 = .ok (.ldc2_w 85, 3) := by decide +kernel
theorem dX1_manner_39 : decode cX1_manner 39 = .ok (.aload_n 0, 1) := by decide +kernel
theorem dX1_manner_40 : decode cX1_manner 40 = .ok (.getfield 30, 3) := by decide +kernel
theorem dX1_manner_43 : decode cX1_manner 43 = .ok (.lmul, 1) := by decide +kernel
theorem dX1_manner_44 : decode cX1_manner 44 = .ok (.lcmp, 1) := by decide +kernel
theorem dX1_manner_45 : decode cX1_manner 45 = .ok (.ifCond .eq 19, 3) := by decide +kernel
theorem dX1_manner_48 : decode cX1_manner 48 = .ok (.aload_n 0, 1) := by decide +kernel
theorem dX1_manner_49 : decode cX1_manner 49 = .ok (.invokevirtual 79, 3) := by decide +kernel
theorem dX1_manner_52 : decode cX1_manner 52 = .ok (.ldc2_w 83, 3) := by decide +kernel
theorem dX1_manner_55 : decode cX1_manner 55 = .ok (.aload_n 0, 1) := by decide +kernel
theorem dX1_manner_56 : decode cX1_manner 56 = .ok (.getfield 30, 3) := by decide +kernel
theorem dX1_manner_59 : decode cX1_manner 59 = .ok (.lmul, 1) := by decide +kernel
theorem dX1_manner_60 : decode cX1_manner 60 = .ok (.lcmp, 1) := by decide +kernel
theorem dX1_manner_61 : decode cX1_manner 61 = .ok (.ifCond .ne 7, 3) := by decide +kernel
theorem dX1_manner_64 : decode cX1_manner 64 = .ok (.iconst 1, 1) := by decide +kernel
theorem dX1_manner_65 : decode cX1_manner 65 = .ok (.goto 4, 3) := by decide +kernel
theorem dX1_manner_68 : decode cX1_manner 68 = .ok (.iconst 2, 1) := by decide +kernel
theorem dX1_manner_69 : decode cX1_manner 69 = .ok (.ireturn, 1) := by decide +kernel
set_option maxRecDepth 20000 in
theorem ggX1_roundsToComeBack_X1_isPlain : GoodIn wsX1_roundsToComeBack wsX1_isPlain := goodIn_r _ [6, 7, 8, 9, 10, 15, 16, 17, 18, 19, 20, 21] (by decide +kernel) (by decide +kernel)
set_option maxRecDepth 20000 in
theorem gX1_roundsToComeBack_X1_isPlain : GoodIn wsX1_roundsToComeBack (wsV RX1 91 RX1 yX1_isPlain wsX1_isPlain) := goodIn_app (goodIn_of _ (by decide +kernel)) ggX1_roundsToComeBack_X1_isPlain
set_option maxRecDepth 20000 in
theorem ggX1_roundsToComeBack_X1_sum : GoodIn wsX1_roundsToComeBack wsX1_sum := goodIn_r _ [14, 7, 8, 15, 16, 17, 18, 19, 20, 21] (by decide +kernel) (by decide +kernel)
set_option maxRecDepth 20000 in
theorem gX1_roundsToComeBack_X1_sum : GoodIn wsX1_roundsToComeBack (wsV RX1 79 RX1 yX1_sum wsX1_sum) := goodIn_app (goodIn_of _ (by decide +kernel)) ggX1_roundsToComeBack_X1_sum
theorem dX1_roundsToComeBack_0 : decode cX1_roundsToComeBack 0 = .ok (.aload_n 0, 1) := by decide +kernel
theorem dX1_roundsToComeBack_1 : decode cX1_roundsToComeBack 1 = .ok (.aload_n 0, 1) := by decide +kernel
theorem dX1_roundsToComeBack_2 : decode cX1_roundsToComeBack 2 = .ok (.getfield 30, 3) := by decide +kernel
theorem dX1_roundsToComeBack_5 : decode cX1_roundsToComeBack 5 = .ok (.invokevirtual 91, 3) := by decide +kernel
theorem dX1_roundsToComeBack_8 : decode cX1_roundsToComeBack 8 = .ok (.ifCond .eq 5, 3) := by decide +kernel
theorem dX1_roundsToComeBack_11 : decode cX1_roundsToComeBack 11 = .ok (.iconst 1, 1) := by decide +kernel
theorem dX1_roundsToComeBack_12 : decode cX1_roundsToComeBack 12 = .ok (.ireturn, 1) := by decide +kernel
theorem dX1_roundsToComeBack_13 : decode cX1_roundsToComeBack 13 = .ok (.aload_n 0, 1) := by decide +kernel
theorem dX1_roundsToComeBack_14 : decode cX1_roundsToComeBack 14 = .ok (.aload_n 0, 1) := by decide +kernel
theorem dX1_roundsToComeBack_15 : decode cX1_roundsToComeBack 15 = .ok (.getfield 30, 3) := by decide +kernel
theorem dX1_roundsToComeBack_18 : decode cX1_roundsToComeBack 18 = .ok (.lneg, 1) := by decide +kernel
theorem dX1_roundsToComeBack_19 : decode cX1_roundsToComeBack 19 = .ok (.invokevirtual 91, 3) := by decide +kernel
theorem dX1_roundsToComeBack_22 : decode cX1_roundsToComeBack 22 = .ok (.ifCond .eq 5, 3) := by decide +kernel
theorem dX1_roundsToComeBack_25 : decode cX1_roundsToComeBack 25 = .ok (.iconst 2, 1) := by decide +kernel
theorem dX1_roundsToComeBack_26 : decode cX1_roundsToComeBack 26 = .ok (.ireturn, 1) := by decide +kernel
theorem dX1_roundsToComeBack_27 : decode cX1_roundsToComeBack 27 = .ok (.aload_n 0, 1) := by decide +kernel
theorem dX1_roundsToComeBack_28 : decode cX1_roundsToComeBack 28 = .ok (.invokevirtual 79, 3) := by decide +kernel
theorem dX1_roundsToComeBack_31 : decode cX1_roundsToComeBack 31 = .ok (.aload_n 0, 1) := by decide +kernel
theorem dX1_roundsToComeBack_32 : decode cX1_roundsToComeBack 32 = .ok (.getfield 30, 3) := by decide +kernel
theorem dX1_roundsToComeBack_35 : decode cX1_roundsToComeBack 35 = .ok (.lneg, 1) := by decide +kernel
theorem dX1_roundsToComeBack_36 : decode cX1_roundsToComeBack 36 = .ok (.lcmp, 1) := by decide +kernel
theorem dX1_roundsToComeBack_37 : decode cX1_roundsToComeBack 37 = .ok (.ifCond .ne 5, 3) := by decide +kernel
theorem dX1_roundsToComeBack_40 : decode cX1_roundsToComeBack 40 = .ok (.iconst 3, 1) := by decide +kernel
theorem dX1_roundsToComeBack_41 : decode cX1_roundsToComeBack 41 = .ok (.ireturn, 1) := by decide +kernel
theorem dX1_roundsToComeBack_42 : decode cX1_roundsToComeBack 42 = .ok (.aload_n 0, 1) := by decide +kernel
theorem dX1_roundsToComeBack_43 : decode cX1_roundsToComeBack 43 = .ok (.invokevirtual 79, 3) := by decide +kernel
theorem dX1_roundsToComeBack_46 : decode cX1_roundsToComeBack 46 = .ok (.lconst 0, 1) := by decide +kernel
theorem dX1_roundsToComeBack_47 : decode cX1_roundsToComeBack 47 = .ok (.lcmp, 1) := by decide +kernel
theorem dX1_roundsToComeBack_48 : decode cX1_roundsToComeBack 48 = .ok (.ifCond .ne 5, 3) := by decide +kernel
theorem dX1_roundsToComeBack_51 : decode cX1_roundsToComeBack 51 = .ok (.iconst 4, 1) := by decide +kernel
theorem dX1_roundsToComeBack_52 : decode cX1_roundsToComeBack 52 = .ok (.ireturn, 1) := by decide +kernel
theorem dX1_roundsToComeBack_53 : decode cX1_roundsToComeBack 53 = .ok (.aload_n 0, 1) := by decide +kernel
theorem dX1_roundsToComeBack_54 : decode cX1_roundsToComeBack 54 = .ok (.invokevirtual 79, 3) := by decide +kernel
theorem dX1_roundsToComeBack_57 : decode cX1_roundsToComeBack 57 = .ok (.aload_n 0, 1) := by decide +kernel
theorem dX1_roundsToComeBack_58 : decode cX1_roundsToComeBack 58 = .ok (.getfield 30, 3) := by decide +kernel
theorem dX1_roundsToComeBack_61 : decode cX1_roundsToComeBack 61 = .ok (.lcmp, 1) := by decide +kernel
theorem dX1_roundsToComeBack_62 : decode cX1_roundsToComeBack 62 = .ok (.ifCond .ne 8, 3) := by decide +kernel
theorem dX1_roundsToComeBack_65 : decode cX1_roundsToComeBack 65 = .ok (.bipush 6, 2) := by decide +kernel
theorem dX1_roundsToComeBack_67 : decode cX1_roundsToComeBack 67 = .ok (.goto 4, 3) := by decide +kernel
theorem dX1_roundsToComeBack_70 : decode cX1_roundsToComeBack 70 = .ok (.iconst 0, 1) := by decide +kernel
theorem dX1_roundsToComeBack_71 : decode cX1_roundsToComeBack 71 = .ok (.ireturn, 1) := by decide +kernel
set_option maxRecDepth 20000 in
theorem ggX2_init_X1_init : GoodIn wsX2_init wsX1_init := goodIn_r _ [16, 17, 2, 3] (by decide +kernel) (by decide +kernel)
set_option maxRecDepth 20000 in
theorem gX2_init_X1_init_n30 : GoodIn wsX2_init (wsX1_init) := ggX2_init_X1_init
theorem dX2_init_0 : decode cX2_init 0 = .ok (.aload_n 0, 1) := by decide +kernel
theorem dX2_init_1 : decode cX2_init 1 = .ok (.invokespecial 3, 3) := by decide +kernel
theorem dX2_init_4 : decode cX2_init 4 = .ok (.aload_n 0, 1) := by decide +kernel
theorem dX2_init_5 : decode cX2_init 5 = .ok (.iconst 4, 1) := by decide +kernel
theorem dX2_init_6 : decode cX2_init 6 = .ok (.anewarray 11, 3) := by decide +kernel
theorem dX2_init_9 : decode cX2_init 9 = .ok (.putfield 13, 3) := by decide +kernel
theorem dX2_init_12 : decode cX2_init 12 = .ok (.aload_n 0, 1) := by decide +kernel
theorem dX2_init_13 : decode cX2_init 13 = .ok (.iconst 0, 1) := by decide +kernel
theorem dX2_init_14 : decode cX2_init 14 = .ok (.putfield 17, 3) := by decide +kernel
theorem dX2_init_17 : decode cX2_init 17 = .ok (.aload_n 0, 1) := by decide +kernel
theorem dX2_init_18 : decode cX2_init 18 = .ok (.bipush 12, 2) := by decide +kernel
theorem dX2_init_20 : decode cX2_init 20 = .ok (.newarray .int, 2) := by decide +kernel
theorem dX2_init_22 : decode cX2_init 22 = .ok (.putfield 21, 3) := by decide +kernel
theorem dX2_init_25 : decode cX2_init 25 = .ok (.aload_n 0, 1) := by decide +kernel
theorem dX2_init_26 : decode cX2_init 26 = .ok (.iconst 0, 1) := by decide +kernel
theorem dX2_init_27 : decode cX2_init 27 = .ok (.putfield 25, 3) := by decide +kernel
theorem dX2_init_30 : decode cX2_init 30 = .ok (.aload_n 0, 1) := by decide +kernel
theorem dX2_init_31 : decode cX2_init 31 = .ok (.new 28, 3) := by decide +kernel
theorem dX2_init_34 : decode cX2_init 34 = .ok (.dup, 1) := by decide +kernel
theorem dX2_init_35 : decode cX2_init 35 = .ok (.invokespecial 30, 3) := by decide +kernel
theorem dX2_init_38 : decode cX2_init 38 = .ok (.putfield 31, 3) := by decide +kernel
theorem dX2_init_41 : decode cX2_init 41 = .ok (.aload_n 0, 1) := by decide +kernel
theorem dX2_init_42 : decode cX2_init 42 = .ok (.new 28, 3) := by decide +kernel
theorem dX2_init_45 : decode cX2_init 45 = .ok (.dup, 1) := by decide +kernel
theorem dX2_init_46 : decode cX2_init 46 = .ok (.invokespecial 30, 3) := by decide +kernel
theorem dX2_init_49 : decode cX2_init 49 = .ok (.putfield 35, 3) := by decide +kernel
theorem dX2_init_52 : decode cX2_init 52 = .ok (.return_, 1) := by decide +kernel
set_option maxRecDepth 20000 in
theorem ggX2_bench_X0_init : GoodIn wsX2_bench wsX0_init := goodIn_r _ [8, 9, 10, 11, 12, 13, 14, 15, 16, 23, 24, 25, 26] (by decide +kernel) (by decide +kernel)
set_option maxRecDepth 20000 in
theorem gX2_bench_X0_init : GoodIn wsX2_bench (wsX0_init) := ggX2_bench_X0_init
theorem dX2_bench_0 : decode cX2_bench 0 = .ok (.aload_n 0, 1) := by decide +kernel
theorem dX2_bench_1 : decode cX2_bench 1 = .ok (.getfield 17, 3) := by decide +kernel
theorem dX2_bench_4 : decode cX2_bench 4 = .ok (.iconst 4, 1) := by decide +kernel
theorem dX2_bench_5 : decode cX2_bench 5 = .ok (.if_icmp .lt 6, 3) := by decide +kernel
theorem dX2_bench_8 : decode cX2_bench 8 = .ok (.bipush (-4), 2) := by decide +kernel
theorem dX2_bench_10 : decode cX2_bench 10 = .ok (.ireturn, 1) := by decide +kernel
theorem dX2_bench_11 : decode cX2_bench 11 = .ok (.aload_n 0, 1) := by decide +kernel
theorem dX2_bench_12 : decode cX2_bench 12 = .ok (.getfield 13, 3) := by decide +kernel
theorem dX2_bench_15 : decode cX2_bench 15 = .ok (.aload_n 0, 1) := by decide +kernel
theorem dX2_bench_16 : decode cX2_bench 16 = .ok (.getfield 17, 3) := by decide +kernel
theorem dX2_bench_19 : decode cX2_bench 19 = .ok (.new 11, 3) := by decide +kernel
theorem dX2_bench_22 : decode cX2_bench 22 = .ok (.dup, 1) := by decide +kernel
theorem dX2_bench_23 : decode cX2_bench 23 = .ok (.invokespecial 38, 3) := by decide +kernel
theorem dX2_bench_26 : decode cX2_bench 26 = .ok (.aastore, 1) := by decide +kernel
theorem dX2_bench_27 : decode cX2_bench 27 = .ok (.aload_n 0, 1) := by decide +kernel
theorem dX2_bench_28 : decode cX2_bench 28 = .ok (.dup, 1) := by decide +kernel
theorem dX2_bench_29 : decode cX2_bench 29 = .ok (.getfield 17, 3) := by decide +kernel
theorem dX2_bench_32 : decode cX2_bench 32 = .ok (.iconst 1, 1) := by decide +kernel
theorem dX2_bench_33 : decode cX2_bench 33 = .ok (.iadd, 1) := by decide +kernel
theorem dX2_bench_34 : decode cX2_bench 34 = .ok (.putfield 17, 3) := by decide +kernel
theorem dX2_bench_37 : decode cX2_bench 37 = .ok (.aload_n 0, 1) := by decide +kernel
theorem dX2_bench_38 : decode cX2_bench 38 = .ok (.getfield 17, 3) := by decide +kernel
theorem dX2_bench_41 : decode cX2_bench 41 = .ok (.iconst 1, 1) := by decide +kernel
theorem dX2_bench_42 : decode cX2_bench 42 = .ok (.isub, 1) := by decide +kernel
theorem dX2_bench_43 : decode cX2_bench 43 = .ok (.ireturn, 1) := by decide +kernel
set_option maxRecDepth 20000 in
theorem ggX2_put_X2_rowAt : GoodIn wsX2_put wsX2_rowAt := goodIn_r _ [6, 7, 8, 44, 45, 46, 47, 48, 49] (by decide +kernel) (by decide +kernel)
set_option maxRecDepth 20000 in
theorem gX2_put_X2_rowAt : GoodIn wsX2_put (wsV RX2 39 RX2 yX2_rowAt wsX2_rowAt) := goodIn_app (goodIn_of _ (by decide +kernel)) ggX2_put_X2_rowAt
set_option maxRecDepth 20000 in
theorem ggX2_put_X2_isPart : GoodIn wsX2_put wsX2_isPart := goodIn_r _ [11, 12, 13, 5, 14] (by decide +kernel) (by decide +kernel)
set_option maxRecDepth 20000 in
theorem gX2_put_X2_isPart : GoodIn wsX2_put (va_wsS RX2 46 yX2_isPart wsX2_isPart) := goodIn_app (goodIn_of _ (by decide +kernel)) ggX2_put_X2_isPart
set_option maxRecDepth 20000 in
theorem ggX2_put_X0_hasRoomFor : GoodIn wsX2_put wsX0_hasRoomFor := goodIn_r _ [19, 20, 21, 22, 18, 23, 24, 25, 26, 27, 28, 29, 40, 41, 42, 43] (by decide +kernel) (by decide +kernel)
set_option maxRecDepth 20000 in
theorem gX2_put_X0_hasRoomFor : GoodIn wsX2_put (wsV RX2 50 RX0 yX0_hasRoomFor wsX0_hasRoomFor) := goodIn_app (goodIn_of _ (by decide +kernel)) ggX2_put_X0_hasRoomFor
set_option maxRecDepth 20000 in
theorem ggX2_put_X0_insert : GoodIn wsX2_put wsX0_insert := goodIn_r _ [33, 24, 25, 34, 35, 36, 37, 38, 18, 39, 40, 41, 42, 43] (by decide +kernel) (by decide +kernel)
set_option maxRecDepth 20000 in
theorem gX2_put_X0_insert : GoodIn wsX2_put (wsV RX2 54 RX0 yX0_insert wsX0_insert) := goodIn_app (goodIn_of _ (by decide +kernel)) ggX2_put_X0_insert
theorem dX2_put_0 : decode cX2_put 0 = .ok (.aload_n 0, 1) := by decide +kernel
theorem dX2_put_1 : decode cX2_put 1 = .ok (.iload_n 1, 1) := by decide +kernel
theorem dX2_put_2 : decode cX2_put 2 = .ok (.invokevirtual 39, 3) := by decide +kernel
theorem dX2_put_5 : decode cX2_put 5 = .ok (.astore 6, 2) := by decide +kernel
theorem dX2_put_7 : decode cX2_put 7 = .ok (.aload 6, 2) := by decide +kernel
theorem dX2_put_9 : decode cX2_put 9 = .ok (.ifnull 16, 3) := by decide +kernel
theorem dX2_put_12 : decode cX2_put 12 = .ok (.iload_n 2, 1) := by decide +kernel
theorem dX2_put_13 : decode cX2_put 13 = .ok (.ifCond .lt 12, 3) := by decide +kernel
theorem dX2_put_16 : decode cX2_put 16 = .ok (.iload_n 2, 1) := by decide +kernel
theorem dX2_put_17 : decode cX2_put 17 = .ok (.aload 6, 2) := by decide +kernel
theorem dX2_put_19 : decode cX2_put 19 = .ok (.getfield 43, 3) := by decide +kernel
theorem dX2_put_22 : decode cX2_put 22 = .ok (.if_icmp .le 5, 3) := by decide +kernel
theorem dX2_put_25 : decode cX2_put 25 = .ok (.iconst (-1), 1) := by decide +kernel
theorem dX2_put_26 : decode cX2_put 26 = .ok (.ireturn, 1) := by decide +kernel
theorem dX2_put_27 : decode cX2_put 27 = .ok (.iload_n 3, 1) := by decide +kernel
theorem dX2_put_28 : decode cX2_put 28 = .ok (.iload 4, 2) := by decide +kernel
theorem dX2_put_30 : decode cX2_put 30 = .ok (.iload 5, 2) := by decide +kernel
theorem dX2_put_32 : decode cX2_put 32 = .ok (.invokestatic 46, 3) := by decide +kernel
theorem dX2_put_35 : decode cX2_put 35 = .ok (.ifCond .ne 6, 3) := by decide +kernel
theorem dX2_put_38 : decode cX2_put 38 = .ok (.bipush (-2), 2) := by decide +kernel
theorem dX2_put_40 : decode cX2_put 40 = .ok (.ireturn, 1) := by decide +kernel
theorem dX2_put_41 : decode cX2_put 41 = .ok (.aload 6, 2) := by decide +kernel
theorem dX2_put_43 : decode cX2_put 43 = .ok (.getfield 43, 3) := by decide +kernel
theorem dX2_put_46 : decode cX2_put 46 = .ok (.bipush 8, 2) := by decide +kernel
theorem dX2_put_48 : decode cX2_put 48 = .ok (.if_icmp .ge 12, 3) := by decide +kernel
theorem dX2_put_51 : decode cX2_put 51 = .ok (.aload 6, 2) := by decide +kernel
theorem dX2_put_53 : decode cX2_put 53 = .ok (.iload_n 3, 1) := by decide +kernel
theorem dX2_put_54 : decode cX2_put 54 = .ok (.invokevirtual 50, 3) := by decide +kernel
theorem dX2_put_57 : decode cX2_put 57 = .ok (.ifCond .ne 6, 3) := by decide +kernel
theorem dX2_put_60 : decode cX2_put 60 = .ok (.bipush (-4), 2) := by decide +kernel
theorem dX2_put_62 : decode cX2_put 62 = .ok (.ireturn, 1) := by decide +kernel
theorem dX2_put_63 : decode cX2_put 63 = .ok (.aload 6, 2) := by decide +kernel
theorem dX2_put_65 : decode cX2_put 65 = .ok (.iload_n 2, 1) := by decide +kernel
theorem dX2_put_66 : decode cX2_put 66 = .ok (.iload_n 3, 1) := by decide +kernel
theorem dX2_put_67 : decode cX2_put 67 = .ok (.iload 4, 2) := by decide +kernel
theorem dX2_put_69 : decode cX2_put 69 = .ok (.iload 5, 2) := by decide +kernel
theorem dX2_put_71 : decode cX2_put 71 = .ok (.invokevirtual 54, 3) := by decide +kernel
theorem dX2_put_74 : decode cX2_put 74 = .ok (.aload 6, 2) := by decide +kernel
theorem dX2_put_76 : decode cX2_put 76 = .ok (.getfield 43, 3) := by decide +kernel
theorem dX2_put_79 : decode cX2_put 79 = .ok (.ireturn, 1) := by decide +kernel
set_option maxRecDepth 20000 in
theorem ggX2_take_X2_rowAt : GoodIn wsX2_take wsX2_rowAt := goodIn_r _ [6, 7, 8, 30, 31, 32, 33, 34, 35] (by decide +kernel) (by decide +kernel)
set_option maxRecDepth 20000 in
theorem gX2_take_X2_rowAt : GoodIn wsX2_take (wsV RX2 39 RX2 yX2_rowAt wsX2_rowAt) := goodIn_app (goodIn_of _ (by decide +kernel)) ggX2_take_X2_rowAt
set_option maxRecDepth 20000 in
theorem ggX2_take_X0_has : GoodIn wsX2_take wsX0_has := goodIn_r _ [13, 14, 26, 27, 28, 29] (by decide +kernel) (by decide +kernel)
set_option maxRecDepth 20000 in
theorem gX2_take_X0_has : GoodIn wsX2_take (wsV RX2 58 RX0 yX0_has wsX0_has) := goodIn_app (goodIn_of _ (by decide +kernel)) ggX2_take_X0_has
set_option maxRecDepth 20000 in
theorem ggX2_take_X0_remove : GoodIn wsX2_take wsX0_remove := goodIn_r _ [18, 14, 19, 20, 21, 22, 23, 24, 12, 25, 26, 27, 28, 29] (by decide +kernel) (by decide +kernel)
set_option maxRecDepth 20000 in
theorem gX2_take_X0_remove : GoodIn wsX2_take (wsV RX2 64 RX0 yX0_remove wsX0_remove) := goodIn_app (goodIn_of _ (by decide +kernel)) ggX2_take_X0_remove
theorem dX2_take_0 : decode cX2_take 0 = .ok (.aload_n 0, 1) := by decide +kernel
theorem dX2_take_1 : decode cX2_take 1 = .ok (.iload_n 1, 1) := by decide +kernel
theorem dX2_take_2 : decode cX2_take 2 = .ok (.invokevirtual 39, 3) := by decide +kernel
theorem dX2_take_5 : decode cX2_take 5 = .ok (.astore_n 3, 1) := by decide +kernel
theorem dX2_take_6 : decode cX2_take 6 = .ok (.aload_n 3, 1) := by decide +kernel
theorem dX2_take_7 : decode cX2_take 7 = .ok (.ifnull 11, 3) := by decide +kernel
theorem dX2_take_10 : decode cX2_take 10 = .ok (.aload_n 3, 1) := by decide +kernel
theorem dX2_take_11 : decode cX2_take 11 = .ok (.iload_n 2, 1) := by decide +kernel
theorem dX2_take_12 : decode cX2_take 12 = .ok (.invokevirtual 58, 3) := by decide +kernel
theorem dX2_take_15 : decode cX2_take 15 = .ok (.ifCond .ne 5, 3) := by decide +kernel
theorem dX2_take_18 : decode cX2_take 18 = .ok (.iconst (-1), 1) := by decide +kernel
theorem dX2_take_19 : decode cX2_take 19 = .ok (.ireturn, 1) := by decide +kernel
theorem dX2_take_20 : decode cX2_take 20 = .ok (.aload_n 3, 1) := by decide +kernel
theorem dX2_take_21 : decode cX2_take 21 = .ok (.getfield 61, 3) := by decide +kernel
theorem dX2_take_24 : decode cX2_take 24 = .ok (.iload_n 2, 1) := by decide +kernel
theorem dX2_take_25 : decode cX2_take 25 = .ok (.iaload, 1) := by decide +kernel
theorem dX2_take_26 : decode cX2_take 26 = .ok (.istore 4, 2) := by decide +kernel
theorem dX2_take_28 : decode cX2_take 28 = .ok (.aload_n 3, 1) := by decide +kernel
theorem dX2_take_29 : decode cX2_take 29 = .ok (.iload_n 2, 1) := by decide +kernel
theorem dX2_take_30 : decode cX2_take 30 = .ok (.invokevirtual 64, 3) := by decide +kernel
theorem dX2_take_33 : decode cX2_take 33 = .ok (.iload 4, 2) := by decide +kernel
theorem dX2_take_35 : decode cX2_take 35 = .ok (.ireturn, 1) := by decide +kernel
set_option maxRecDepth 20000 in
theorem ggX2_set_X2_rowAt : GoodIn wsX2_set wsX2_rowAt := goodIn_r _ [8, 9, 10, 27, 28, 29, 30, 31, 32] (by decide +kernel) (by decide +kernel)
set_option maxRecDepth 20000 in
theorem gX2_set_X2_rowAt : GoodIn wsX2_set (wsV RX2 39 RX2 yX2_rowAt wsX2_rowAt) := goodIn_app (goodIn_of _ (by decide +kernel)) ggX2_set_X2_rowAt
set_option maxRecDepth 20000 in
theorem ggX2_set_X0_has : GoodIn wsX2_set wsX0_has := goodIn_r _ [15, 16, 23, 24, 25, 26] (by decide +kernel) (by decide +kernel)
set_option maxRecDepth 20000 in
theorem gX2_set_X0_has : GoodIn wsX2_set (wsV RX2 58 RX0 yX0_has wsX0_has) := goodIn_app (goodIn_of _ (by decide +kernel)) ggX2_set_X0_has
set_option maxRecDepth 20000 in
theorem ggX2_set_X2_isPart : GoodIn wsX2_set wsX2_isPart := goodIn_r _ [19, 20, 21, 7, 22] (by decide +kernel) (by decide +kernel)
set_option maxRecDepth 20000 in
theorem gX2_set_X2_isPart : GoodIn wsX2_set (va_wsS RX2 46 yX2_isPart wsX2_isPart) := goodIn_app (goodIn_of _ (by decide +kernel)) ggX2_set_X2_isPart
theorem dX2_set_0 : decode cX2_set 0 = .ok (.aload_n 0, 1) := by decide +kernel
theorem dX2_set_1 : decode cX2_set 1 = .ok (.iload_n 1, 1) := by decide +kernel
theorem dX2_set_2 : decode cX2_set 2 = .ok (.invokevirtual 39, 3) := by decide +kernel
theorem dX2_set_5 : decode cX2_set 5 = .ok (.astore 5, 2) := by decide +kernel
theorem dX2_set_7 : decode cX2_set 7 = .ok (.aload 5, 2) := by decide +kernel
theorem dX2_set_9 : decode cX2_set 9 = .ok (.ifnull 12, 3) := by decide +kernel
theorem dX2_set_12 : decode cX2_set 12 = .ok (.aload 5, 2) := by decide +kernel
theorem dX2_set_14 : decode cX2_set 14 = .ok (.iload_n 2, 1) := by decide +kernel
theorem dX2_set_15 : decode cX2_set 15 = .ok (.invokevirtual 58, 3) := by decide +kernel
theorem dX2_set_18 : decode cX2_set 18 = .ok (.ifCond .ne 5, 3) := by decide +kernel
theorem dX2_set_21 : decode cX2_set 21 = .ok (.iconst (-1), 1) := by decide +kernel
theorem dX2_set_22 : decode cX2_set 22 = .ok (.ireturn, 1) := by decide +kernel
theorem dX2_set_23 : decode cX2_set 23 = .ok (.aload 5, 2) := by decide +kernel
theorem dX2_set_25 : decode cX2_set 25 = .ok (.getfield 61, 3) := by decide +kernel
theorem dX2_set_28 : decode cX2_set 28 = .ok (.iload_n 2, 1) := by decide +kernel
theorem dX2_set_29 : decode cX2_set 29 = .ok (.iaload, 1) := by decide +kernel
theorem dX2_set_30 : decode cX2_set 30 = .ok (.iload_n 3, 1) := by decide +kernel
theorem dX2_set_31 : decode cX2_set 31 = .ok (.iload 4, 2) := by decide +kernel
theorem dX2_set_33 : decode cX2_set 33 = .ok (.invokestatic 46, 3) := by decide +kernel
theorem dX2_set_36 : decode cX2_set 36 = .ok (.ifCond .ne 6, 3) := by decide +kernel
theorem dX2_set_39 : decode cX2_set 39 = .ok (.bipush (-2), 2) := by decide +kernel
theorem dX2_set_41 : decode cX2_set 41 = .ok (.ireturn, 1) := by decide +kernel
theorem dX2_set_42 : decode cX2_set 42 = .ok (.aload 5, 2) := by decide +kernel
theorem dX2_set_44 : decode cX2_set 44 = .ok (.getfield 68, 3) := by decide +kernel
theorem dX2_set_47 : decode cX2_set 47 = .ok (.iload_n 2, 1) := by decide +kernel
theorem dX2_set_48 : decode cX2_set 48 = .ok (.iload_n 3, 1) := by decide +kernel
theorem dX2_set_49 : decode cX2_set 49 = .ok (.iastore, 1) := by decide +kernel
theorem dX2_set_50 : decode cX2_set 50 = .ok (.aload 5, 2) := by decide +kernel
theorem dX2_set_52 : decode cX2_set 52 = .ok (.getfield 71, 3) := by decide +kernel
theorem dX2_set_55 : decode cX2_set 55 = .ok (.iload_n 2, 1) := by decide +kernel
theorem dX2_set_56 : decode cX2_set 56 = .ok (.iload 4, 2) := by decide +kernel
theorem dX2_set_58 : decode cX2_set 58 = .ok (.iastore, 1) := by decide +kernel
theorem dX2_set_59 : decode cX2_set 59 = .ok (.iconst 0, 1) := by decide +kernel
theorem dX2_set_60 : decode cX2_set 60 = .ok (.ireturn, 1) := by decide +kernel
set_option maxRecDepth 20000 in
theorem ggX2_part_X2_rowAt : GoodIn wsX2_part wsX2_rowAt := goodIn_r _ [8, 9, 10, 21, 22, 23, 24, 25, 26] (by decide +kernel) (by decide +kernel)
set_option maxRecDepth 20000 in
theorem gX2_part_X2_rowAt : GoodIn wsX2_part (wsV RX2 39 RX2 yX2_rowAt wsX2_rowAt) := goodIn_app (goodIn_of _ (by decide +kernel)) ggX2_part_X2_rowAt
set_option maxRecDepth 20000 in
theorem ggX2_part_X0_has : GoodIn wsX2_part wsX0_has := goodIn_r _ [15, 16, 17, 18, 19, 20] (by decide +kernel) (by decide +kernel)
set_option maxRecDepth 20000 in
theorem gX2_part_X0_has : GoodIn wsX2_part (wsV RX2 58 RX0 yX0_has wsX0_has) := goodIn_app (goodIn_of _ (by decide +kernel)) ggX2_part_X0_has
theorem dX2_part_0 : decode cX2_part 0 = .ok (.aload_n 0, 1) := by decide +kernel
theorem dX2_part_1 : decode cX2_part 1 = .ok (.iload_n 1, 1) := by decide +kernel
theorem dX2_part_2 : decode cX2_part 2 = .ok (.invokevirtual 39, 3) := by decide +kernel
theorem dX2_part_5 : decode cX2_part 5 = .ok (.astore 4, 2) := by decide +kernel
theorem dX2_part_7 : decode cX2_part 7 = .ok (.aload 4, 2) := by decide +kernel
theorem dX2_part_9 : decode cX2_part 9 = .ok (.ifnull 12, 3) := by decide +kernel
theorem dX2_part_12 : decode cX2_part 12 = .ok (.aload 4, 2) := by decide +kernel
theorem dX2_part_14 : decode cX2_part 14 = .ok (.iload_n 2, 1) := by decide +kernel
theorem dX2_part_15 : decode cX2_part 15 = .ok (.invokevirtual 58, 3) := by decide +kernel
theorem dX2_part_18 : decode cX2_part 18 = .ok (.ifCond .ne 6, 3) := by decide +kernel
theorem dX2_part_21 : decode cX2_part 21 = .ok (.bipush (-100), 2) := by decide +kernel
theorem dX2_part_23 : decode cX2_part 23 = .ok (.ireturn, 1) := by decide +kernel
theorem dX2_part_24 : decode cX2_part 24 = .ok (.iload_n 3, 1) := by decide +kernel
theorem dX2_part_25 : decode cX2_part 25 = .ok (.tableswitch 51 0 2 #[27, 35, 43], 27) := by decide +kernel
theorem dX2_part_52 : decode cX2_part 52 = .ok (.aload 4, 2) := by decide +kernel
theorem dX2_part_54 : decode cX2_part 54 = .ok (.getfield 61, 3) := by decide +kernel
theorem dX2_part_57 : decode cX2_part 57 = .ok (.iload_n 2, 1) := by decide +kernel
theorem dX2_part_58 : decode cX2_part 58 = .ok (.iaload, 1) := by decide +kernel
theorem dX2_part_59 : decode cX2_part 59 = .ok (.ireturn, 1) := by decide +kernel
theorem dX2_part_60 : decode cX2_part 60 = .ok (.aload 4, 2) := by decide +kernel
theorem dX2_part_62 : decode cX2_part 62 = .ok (.getfield 68, 3) := by decide +kernel
theorem dX2_part_65 : decode cX2_part 65 = .ok (.iload_n 2, 1) := by decide +kernel
theorem dX2_part_66 : decode cX2_part 66 = .ok (.iaload, 1) := by decide +kernel
theorem dX2_part_67 : decode cX2_part 67 = .ok (.ireturn, 1) := by decide +kernel
theorem dX2_part_68 : decode cX2_part 68 = .ok (.aload 4, 2) := by decide +kernel
theorem dX2_part_70 : decode cX2_part 70 = .ok (.getfield 71, 3) := by decide +kernel
theorem dX2_part_73 : decode cX2_part 73 = .ok (.iload_n 2, 1) := by decide +kernel
theorem dX2_part_74 : decode cX2_part 74 = .ok (.iaload, 1) := by decide +kernel
theorem dX2_part_75 : decode cX2_part 75 = .ok (.ireturn, 1) := by decide +kernel
theorem dX2_part_76 : decode cX2_part 76 = .ok (.bipush (-100), 2) := by decide +kernel
theorem dX2_part_78 : decode cX2_part 78 = .ok (.ireturn, 1) := by decide +kernel
set_option maxRecDepth 20000 in
theorem ggX2_turn_X2_rowAt : GoodIn wsX2_turn wsX2_rowAt := goodIn_r _ [6, 7, 8, 26, 27, 28, 29, 30, 31] (by decide +kernel) (by decide +kernel)
set_option maxRecDepth 20000 in
theorem gX2_turn_X2_rowAt : GoodIn wsX2_turn (wsV RX2 39 RX2 yX2_rowAt wsX2_rowAt) := goodIn_app (goodIn_of _ (by decide +kernel)) ggX2_turn_X2_rowAt
set_option maxRecDepth 20000 in
theorem ggX2_turn_X0_reverse : GoodIn wsX2_turn wsX0_reverse := goodIn_r _ [13, 14, 15, 16, 17, 18, 19, 20, 12, 21, 22, 23, 24, 25] (by decide +kernel) (by decide +kernel)
set_option maxRecDepth 20000 in
theorem gX2_turn_X0_reverse : GoodIn wsX2_turn (wsV RX2 74 RX0 yX0_reverse wsX0_reverse) := goodIn_app (goodIn_of _ (by decide +kernel)) ggX2_turn_X0_reverse
theorem dX2_turn_0 : decode cX2_turn 0 = .ok (.aload_n 0, 1) := by decide +kernel
theorem dX2_turn_1 : decode cX2_turn 1 = .ok (.iload_n 1, 1) := by decide +kernel
theorem dX2_turn_2 : decode cX2_turn 2 = .ok (.invokevirtual 39, 3) := by decide +kernel
theorem dX2_turn_5 : decode cX2_turn 5 = .ok (.astore_n 2, 1) := by decide +kernel
theorem dX2_turn_6 : decode cX2_turn 6 = .ok (.aload_n 2, 1) := by decide +kernel
theorem dX2_turn_7 : decode cX2_turn 7 = .ok (.ifnonnull 5, 3) := by decide +kernel
theorem dX2_turn_10 : decode cX2_turn 10 = .ok (.iconst (-1), 1) := by decide +kernel
theorem dX2_turn_11 : decode cX2_turn 11 = .ok (.ireturn, 1) := by decide +kernel
theorem dX2_turn_12 : decode cX2_turn 12 = .ok (.aload_n 2, 1) := by decide +kernel
theorem dX2_turn_13 : decode cX2_turn 13 = .ok (.invokevirtual 74, 3) := by decide +kernel
theorem dX2_turn_16 : decode cX2_turn 16 = .ok (.aload_n 2, 1) := by decide +kernel
theorem dX2_turn_17 : decode cX2_turn 17 = .ok (.getfield 43, 3) := by decide +kernel
theorem dX2_turn_20 : decode cX2_turn 20 = .ok (.ireturn, 1) := by decide +kernel
set_option maxRecDepth 20000 in
theorem ggX2_join_X2_rowAt : GoodIn wsX2_join wsX2_rowAt := goodIn_r _ [6, 7, 8, 34, 35, 36, 37, 38, 39] (by decide +kernel) (by decide +kernel)
set_option maxRecDepth 20000 in
theorem gX2_join_X2_rowAt : GoodIn wsX2_join (wsV RX2 39 RX2 yX2_rowAt wsX2_rowAt) := goodIn_app (goodIn_of _ (by decide +kernel)) ggX2_join_X2_rowAt
set_option maxRecDepth 20000 in
theorem ggX2_join_X0_bending : GoodIn wsX2_join wsX0_bending := goodIn_r _ [13, 14, 15, 30, 31, 32, 33] (by decide +kernel) (by decide +kernel)
set_option maxRecDepth 20000 in
theorem gX2_join_X0_bending : GoodIn wsX2_join (wsV RX2 77 RX0 yX0_bending wsX0_bending) := goodIn_app (goodIn_of _ (by decide +kernel)) ggX2_join_X0_bending
set_option maxRecDepth 20000 in
theorem ggX2_join_X0_tilts : GoodIn wsX2_join wsX0_tilts := goodIn_r _ [19, 14, 15, 30, 31, 32, 33] (by decide +kernel) (by decide +kernel)
set_option maxRecDepth 20000 in
theorem gX2_join_X0_tilts : GoodIn wsX2_join (wsV RX2 81 RX0 yX0_tilts wsX0_tilts) := goodIn_app (goodIn_of _ (by decide +kernel)) ggX2_join_X0_tilts
set_option maxRecDepth 20000 in
theorem ggX2_join_X0_append : GoodIn wsX2_join wsX0_append := goodIn_r _ [23, 14, 15, 24, 25, 26, 27, 28, 12, 29, 30, 31, 32, 33] (by decide +kernel) (by decide +kernel)
set_option maxRecDepth 20000 in
theorem gX2_join_X0_append : GoodIn wsX2_join (wsV RX2 84 RX0 yX0_append wsX0_append) := goodIn_app (goodIn_of _ (by decide +kernel)) ggX2_join_X0_append
theorem dX2_join_0 : decode cX2_join 0 = .ok (.aload_n 0, 1) := by decide +kernel
theorem dX2_join_1 : decode cX2_join 1 = .ok (.iload_n 1, 1) := by decide +kernel
theorem dX2_join_2 : decode cX2_join 2 = .ok (.invokevirtual 39, 3) := by decide +kernel
theorem dX2_join_5 : decode cX2_join 5 = .ok (.astore_n 3, 1) := by decide +kernel
theorem dX2_join_6 : decode cX2_join 6 = .ok (.aload_n 0, 1) := by decide +kernel
theorem dX2_join_7 : decode cX2_join 7 = .ok (.iload_n 2, 1) := by decide +kernel
theorem dX2_join_8 : decode cX2_join 8 = .ok (.invokevirtual 39, 3) := by decide +kernel
theorem dX2_join_11 : decode cX2_join 11 = .ok (.astore 4, 2) := by decide +kernel
theorem dX2_join_13 : decode cX2_join 13 = .ok (.aload_n 3, 1) := by decide +kernel
theorem dX2_join_14 : decode cX2_join 14 = .ok (.ifnull 8, 3) := by decide +kernel
theorem dX2_join_17 : decode cX2_join 17 = .ok (.aload 4, 2) := by decide +kernel
theorem dX2_join_19 : decode cX2_join 19 = .ok (.ifnonnull 5, 3) := by decide +kernel
theorem dX2_join_22 : decode cX2_join 22 = .ok (.iconst (-1), 1) := by decide +kernel
theorem dX2_join_23 : decode cX2_join 23 = .ok (.ireturn, 1) := by decide +kernel
theorem dX2_join_24 : decode cX2_join 24 = .ok (.aload_n 3, 1) := by decide +kernel
theorem dX2_join_25 : decode cX2_join 25 = .ok (.getfield 43, 3) := by decide +kernel
theorem dX2_join_28 : decode cX2_join 28 = .ok (.aload 4, 2) := by decide +kernel
theorem dX2_join_30 : decode cX2_join 30 = .ok (.getfield 43, 3) := by decide +kernel
theorem dX2_join_33 : decode cX2_join 33 = .ok (.iadd, 1) := by decide +kernel
theorem dX2_join_34 : decode cX2_join 34 = .ok (.bipush 8, 2) := by decide +kernel
theorem dX2_join_36 : decode cX2_join 36 = .ok (.if_icmp .gt 31, 3) := by decide +kernel
theorem dX2_join_39 : decode cX2_join 39 = .ok (.aload_n 3, 1) := by decide +kernel
theorem dX2_join_40 : decode cX2_join 40 = .ok (.invokevirtual 77, 3) := by decide +kernel
theorem dX2_join_43 : decode cX2_join 43 = .ok (.aload 4, 2) := by decide +kernel
theorem dX2_join_45 : decode cX2_join 45 = .ok (.invokevirtual 77, 3) := by decide +kernel
theorem dX2_join_48 : decode cX2_join 48 = .ok (.iadd, 1) := by decide +kernel
theorem dX2_join_49 : decode cX2_join 49 = .ok (.iconst 3, 1) := by decide +kernel
theorem dX2_join_50 : decode cX2_join 50 = .ok (.if_icmp .gt 17, 3) := by decide +kernel
theorem dX2_join_53 : decode cX2_join 53 = .ok (.aload_n 3, 1) := by decide +kernel
theorem dX2_join_54 : decode cX2_join 54 = .ok (.invokevirtual 81, 3) := by decide +kernel
theorem dX2_join_57 : decode cX2_join 57 = .ok (.aload 4, 2) := by decide +kernel
theorem dX2_join_59 : decode cX2_join 59 = .ok (.invokevirtual 81, 3) := by decide +kernel
theorem dX2_join_62 : decode cX2_join 62 = .ok (.iadd, 1) := by decide +kernel
theorem dX2_join_63 : decode cX2_join 63 = .ok (.iconst 2, 1) := by decide +kernel
theorem dX2_join_64 : decode cX2_join 64 = .ok (.if_icmp .le 6, 3) := by decide +kernel
theorem dX2_join_67 : decode cX2_join 67 = .ok (.bipush (-4), 2) := by decide +kernel
theorem dX2_join_69 : decode cX2_join 69 = .ok (.ireturn, 1) := by decide +kernel
theorem dX2_join_70 : decode cX2_join 70 = .ok (.aload_n 3, 1) := by decide +kernel
theorem dX2_join_71 : decode cX2_join 71 = .ok (.aload 4, 2) := by decide +kernel
theorem dX2_join_73 : decode cX2_join 73 = .ok (.invokevirtual 84, 3) := by decide +kernel
theorem dX2_join_76 : decode cX2_join 76 = .ok (.aload_n 3, 1) := by decide +kernel
theorem dX2_join_77 : decode cX2_join 77 = .ok (.getfield 43, 3) := by decide +kernel
theorem dX2_join_80 : decode cX2_join 80 = .ok (.ireturn, 1) := by decide +kernel
set_option maxRecDepth 20000 in
theorem ggX2_table_X2_rowAt : GoodIn wsX2_table wsX2_rowAt := goodIn_r _ [8, 9, 10, 76, 77, 78, 79, 80, 81] (by decide +kernel) (by decide +kernel)
set_option maxRecDepth 20000 in
theorem gX2_table_X2_rowAt : GoodIn wsX2_table (wsV RX2 39 RX2 yX2_rowAt wsX2_rowAt) := goodIn_app (goodIn_of _ (by decide +kernel)) ggX2_table_X2_rowAt
set_option maxRecDepth 20000 in
theorem ggX2_table_X2_isEither : GoodIn wsX2_table wsX2_isEither := goodIn_r _ [13] (by decide +kernel) (by decide +kernel)
set_option maxRecDepth 20000 in
theorem gX2_table_X2_isEither : GoodIn wsX2_table (va_wsS RX2 88 yX2_isEither wsX2_isEither) := goodIn_app (goodIn_of _ (by decide +kernel)) ggX2_table_X2_isEither
set_option maxRecDepth 20000 in
theorem ggX2_table_X1_leadThrough : GoodIn wsX2_table wsX1_leadThrough := goodIn_r _ [18, 19, 20, 21, 22, 17, 23, 24, 25, 26, 27, 28, 29, 30, 31, 32, 33, 34, 35, 36, 37, 38, 39, 40, 41, 42, 43, 44, 45, 46, 47, 48, 49, 50, 51, 52, 53, 54, 55, 56, 57, 58, 59, 60, 61, 89, 90, 91, 92, 82, 83, 84, 85, 86, 87, 88] (by decide +kernel) (by decide +kernel)
set_option maxRecDepth 20000 in
theorem gX2_table_X1_leadThrough : GoodIn wsX2_table (wsV RX2 93 RX1 yX1_leadThrough wsX1_leadThrough) := goodIn_app (goodIn_of _ (by decide +kernel)) ggX2_table_X1_leadThrough
set_option maxRecDepth 20000 in
theorem ggX2_table_X1_above : GoodIn wsX2_table wsX1_above := goodIn_r _ [65, 29, 30, 31, 32, 33, 34, 82, 83, 84, 85, 86, 87, 88] (by decide +kernel) (by decide +kernel)
set_option maxRecDepth 20000 in
theorem gX2_table_X1_above : GoodIn wsX2_table (wsV RX2 97 RX1 yX1_above wsX1_above) := goodIn_app (goodIn_of _ (by decide +kernel)) ggX2_table_X1_above
set_option maxRecDepth 20000 in
theorem ggX2_table_X2_told : GoodIn wsX2_table wsX2_told := goodIn_r _ [68, 69, 70, 71, 72, 1, 73, 74, 7, 75] (by decide +kernel) (by decide +kernel)
set_option maxRecDepth 20000 in
theorem gX2_table_X2_told : GoodIn wsX2_table (va_wsS RX2 105 yX2_told wsX2_told) := goodIn_app (goodIn_of _ (by decide +kernel)) ggX2_table_X2_told
theorem dX2_table_0 : decode cX2_table 0 = .ok (.aload_n 0, 1) := by decide +kernel
theorem dX2_table_1 : decode cX2_table 1 = .ok (.iload_n 1, 1) := by decide +kernel
theorem dX2_table_2 : decode cX2_table 2 = .ok (.invokevirtual 39, 3) := by decide +kernel
theorem dX2_table_5 : decode cX2_table 5 = .ok (.astore 5, 2) := by decide +kernel
theorem dX2_table_7 : decode cX2_table 7 = .ok (.aload 5, 2) := by decide +kernel
theorem dX2_table_9 : decode cX2_table 9 = .ok (.ifnull 27, 3) := by decide +kernel
theorem dX2_table_12 : decode cX2_table 12 = .ok (.iload_n 2, 1) := by decide +kernel
theorem dX2_table_13 : decode cX2_table 13 = .ok (.invokestatic 88, 3) := by decide +kernel
theorem dX2_table_16 : decode cX2_table 16 = .ok (.ifCond .eq 20, 3) := by decide +kernel
theorem dX2_table_19 : decode cX2_table 19 = .ok (.iload 4, 2) := by decide +kernel
theorem dX2_table_21 : decode cX2_table 21 = .ok (.invokestatic 88, 3) := by decide +kernel
theorem dX2_table_24 : decode cX2_table 24 = .ok (.ifCond .eq 12, 3) := by decide +kernel
theorem dX2_table_27 : decode cX2_table 27 = .ok (.iload_n 3, 1) := by decide +kernel
theorem dX2_table_28 : decode cX2_table 28 = .ok (.ifCond .lt 8, 3) := by decide +kernel
theorem dX2_table_31 : decode cX2_table 31 = .ok (.iload_n 3, 1) := by decide +kernel
theorem dX2_table_32 : decode cX2_table 32 = .ok (.iconst 5, 1) := by decide +kernel
theorem dX2_table_33 : decode cX2_table 33 = .ok (.if_icmp .le 7, 3) := by decide +kernel
theorem dX2_table_36 : decode cX2_table 36 = .ok (.ldc2_w 91, 3) := by decide +kernel
theorem dX2_table_39 : decode cX2_table 39 = .ok (.lreturn, 1) := by decide +kernel
theorem dX2_table_40 : decode cX2_table 40 = .ok (.aload_n 0, 1) := by decide +kernel
theorem dX2_table_41 : decode cX2_table 41 = .ok (.getfield 31, 3) := by decide +kernel
theorem dX2_table_44 : decode cX2_table 44 = .ok (.aload 5, 2) := by decide +kernel
theorem dX2_table_46 : decode cX2_table 46 = .ok (.iload_n 2, 1) := by decide +kernel
theorem dX2_table_47 : decode cX2_table 47 = .ok (.invokevirtual 93, 3) := by decide +kernel
theorem dX2_table_50 : decode cX2_table 50 = .ok (.aload_n 0, 1) := by decide +kernel
theorem dX2_table_51 : decode cX2_table 51 = .ok (.getfield 31, 3) := by decide +kernel
theorem dX2_table_54 : decode cX2_table 54 = .ok (.iload_n 3, 1) := by decide +kernel
theorem dX2_table_55 : decode cX2_table 55 = .ok (.invokevirtual 97, 3) := by decide +kernel
theorem dX2_table_58 : decode cX2_table 58 = .ok (.aload_n 0, 1) := by decide +kernel
theorem dX2_table_59 : decode cX2_table 59 = .ok (.getfield 31, 3) := by decide +kernel
theorem dX2_table_62 : decode cX2_table 62 = .ok (.getfield 101, 3) := by decide +kernel
theorem dX2_table_65 : decode cX2_table 65 = .ok (.iload 4, 2) := by decide +kernel
theorem dX2_table_67 : decode cX2_table 67 = .ok (.invokestatic 105, 3) := by decide +kernel
theorem dX2_table_70 : decode cX2_table 70 = .ok (.lreturn, 1) := by decide +kernel
set_option maxRecDepth 20000 in
theorem ggX2_ray_X2_rowAt : GoodIn wsX2_ray wsX2_rowAt := goodIn_r _ [9, 10, 11, 84, 85, 86, 87, 88, 89] (by decide +kernel) (by decide +kernel)
set_option maxRecDepth 20000 in
theorem gX2_ray_X2_rowAt : GoodIn wsX2_ray (wsV RX2 39 RX2 yX2_rowAt wsX2_rowAt) := goodIn_app (goodIn_of _ (by decide +kernel)) ggX2_ray_X2_rowAt
set_option maxRecDepth 20000 in
theorem ggX2_ray_X2_isEither : GoodIn wsX2_ray wsX2_isEither := goodIn_r _ [14] (by decide +kernel) (by decide +kernel)
set_option maxRecDepth 20000 in
theorem gX2_ray_X2_isEither : GoodIn wsX2_ray (va_wsS RX2 88 yX2_isEither wsX2_isEither) := goodIn_app (goodIn_of _ (by decide +kernel)) ggX2_ray_X2_isEither
set_option maxRecDepth 20000 in
theorem ggX2_ray_X2_isNear : GoodIn wsX2_ray wsX2_isNear := goodIn_r _ [17] (by decide +kernel) (by decide +kernel)
set_option maxRecDepth 20000 in
theorem gX2_ray_X2_isNear : GoodIn wsX2_ray (va_wsS RX2 109 yX2_isNear wsX2_isNear) := goodIn_app (goodIn_of _ (by decide +kernel)) ggX2_ray_X2_isNear
set_option maxRecDepth 20000 in
theorem ggX2_ray_X1_lead : GoodIn wsX2_ray wsX1_lead := goodIn_r _ [22, 23, 24, 25, 26, 27, 21, 28, 29, 30, 31, 32, 33, 34, 35, 36, 37, 38, 39, 40, 41, 42, 43, 44, 45, 46, 47, 48, 49, 50, 51, 52, 53, 54, 55, 56, 57, 58, 59, 60, 61, 80, 81, 82, 83, 90, 91, 92, 93, 94, 95, 96] (by decide +kernel) (by decide +kernel)
set_option maxRecDepth 20000 in
theorem gX2_ray_X1_lead : GoodIn wsX2_ray (wsV RX2 112 RX1 yX1_lead wsX1_lead) := goodIn_app (goodIn_of _ (by decide +kernel)) ggX2_ray_X1_lead
set_option maxRecDepth 20000 in
theorem ggX2_ray_X1_farAbove : GoodIn wsX2_ray wsX1_farAbove := goodIn_r _ [65, 29, 30, 33, 90, 91, 92, 93, 94, 95, 96] (by decide +kernel) (by decide +kernel)
set_option maxRecDepth 20000 in
theorem gX2_ray_X1_farAbove : GoodIn wsX2_ray (wsV RX2 116 RX1 yX1_farAbove wsX1_farAbove) := goodIn_app (goodIn_of _ (by decide +kernel)) ggX2_ray_X1_farAbove
set_option maxRecDepth 20000 in
theorem ggX2_ray_X1_leanAbove : GoodIn wsX2_ray wsX1_leanAbove := goodIn_r _ [69, 31, 32, 34, 90, 91, 92, 93, 94, 95, 96] (by decide +kernel) (by decide +kernel)
set_option maxRecDepth 20000 in
theorem gX2_ray_X1_leanAbove : GoodIn wsX2_ray (wsV RX2 120 RX1 yX1_leanAbove wsX1_leanAbove) := goodIn_app (goodIn_of _ (by decide +kernel)) ggX2_ray_X1_leanAbove
set_option maxRecDepth 20000 in
theorem ggX2_ray_X2_told : GoodIn wsX2_ray wsX2_told := goodIn_r _ [72, 73, 74, 75, 76, 1, 77, 78, 8, 79] (by decide +kernel) (by decide +kernel)
set_option maxRecDepth 20000 in
theorem gX2_ray_X2_told : GoodIn wsX2_ray (va_wsS RX2 105 yX2_told wsX2_told) := goodIn_app (goodIn_of _ (by decide +kernel)) ggX2_ray_X2_told
theorem dX2_ray_0 : decode cX2_ray 0 = .ok (.aload_n 0, 1) := by decide +kernel
theorem dX2_ray_1 : decode cX2_ray 1 = .ok (.iload_n 1, 1) := by decide +kernel
theorem dX2_ray_2 : decode cX2_ray 2 = .ok (.invokevirtual 39, 3) := by decide +kernel
theorem dX2_ray_5 : decode cX2_ray 5 = .ok (.astore 8, 2) := by decide +kernel
theorem dX2_ray_7 : decode cX2_ray 7 = .ok (.aload 8, 2) := by decide +kernel
theorem dX2_ray_9 : decode cX2_ray 9 = .ok (.ifnull 26, 3) := by decide +kernel
theorem dX2_ray_12 : decode cX2_ray 12 = .ok (.iload_n 2, 1) := by decide +kernel
theorem dX2_ray_13 : decode cX2_ray 13 = .ok (.invokestatic 88, 3) := by decide +kernel
theorem dX2_ray_16 : decode cX2_ray 16 = .ok (.ifCond .eq 19, 3) := by decide +kernel
theorem dX2_ray_19 : decode cX2_ray 19 = .ok (.iload 6, 2) := by decide +kernel
theorem dX2_ray_21 : decode cX2_ray 21 = .ok (.invokestatic 88, 3) := by decide +kernel
theorem dX2_ray_24 : decode cX2_ray 24 = .ok (.ifCond .eq 11, 3) := by decide +kernel
theorem dX2_ray_27 : decode cX2_ray 27 = .ok (.iload 7, 2) := by decide +kernel
theorem dX2_ray_29 : decode cX2_ray 29 = .ok (.invokestatic 88, 3) := by decide +kernel
theorem dX2_ray_32 : decode cX2_ray 32 = .ok (.ifCond .ne 7, 3) := by decide +kernel
theorem dX2_ray_35 : decode cX2_ray 35 = .ok (.ldc2_w 91, 3) := by decide +kernel
theorem dX2_ray_38 : decode cX2_ray 38 = .ok (.lreturn, 1) := by decide +kernel
theorem dX2_ray_39 : decode cX2_ray 39 = .ok (.iload_n 3, 1) := by decide +kernel
theorem dX2_ray_40 : decode cX2_ray 40 = .ok (.invokestatic 109, 3) := by decide +kernel
theorem dX2_ray_43 : decode cX2_ray 43 = .ok (.ifCond .eq 26, 3) := by decide +kernel
theorem dX2_ray_46 : decode cX2_ray 46 = .ok (.iload 4, 2) := by decide +kernel
theorem dX2_ray_48 : decode cX2_ray 48 = .ok (.invokestatic 109, 3) := by decide +kernel
theorem dX2_ray_51 : decode cX2_ray 51 = .ok (.ifCond .eq 18, 3) := by decide +kernel
theorem dX2_ray_54 : decode cX2_ray 54 = .ok (.iload 5, 2) := by decide +kernel
theorem dX2_ray_56 : decode cX2_ray 56 = .ok (.ifCond .lt 13, 3) := by decide +kernel
theorem dX2_ray_59 : decode cX2_ray 59 = .ok (.iload 5, 2) := by decide +kernel
theorem dX2_ray_61 : decode cX2_ray 61 = .ok (.aload 8, 2) := by decide +kernel
theorem dX2_ray_63 : decode cX2_ray 63 = .ok (.getfield 43, 3) := by decide +kernel
theorem dX2_ray_66 : decode cX2_ray 66 = .ok (.if_icmp .le 7, 3) := by decide +kernel
theorem dX2_ray_69 : decode cX2_ray 69 = .ok (.ldc2_w 91, 3) := by decide +kernel
theorem dX2_ray_72 : decode cX2_ray 72 = .ok (.lreturn, 1) := by decide +kernel
theorem dX2_ray_73 : decode cX2_ray 73 = .ok (.aload_n 0, 1) := by decide +kernel
theorem dX2_ray_74 : decode cX2_ray 74 = .ok (.getfield 31, 3) := by decide +kernel
theorem dX2_ray_77 : decode cX2_ray 77 = .ok (.aload 8, 2) := by decide +kernel
theorem dX2_ray_79 : decode cX2_ray 79 = .ok (.iload_n 2, 1) := by decide +kernel
theorem dX2_ray_80 : decode cX2_ray 80 = .ok (.iconst 0, 1) := by decide +kernel
theorem dX2_ray_81 : decode cX2_ray 81 = .ok (.iload 5, 2) := by decide +kernel
theorem dX2_ray_83 : decode cX2_ray 83 = .ok (.invokevirtual 112, 3) := by decide +kernel
theorem dX2_ray_86 : decode cX2_ray 86 = .ok (.iload 6, 2) := by decide +kernel
theorem dX2_ray_88 : decode cX2_ray 88 = .ok (.ifCond .ne 18, 3) := by decide +kernel
theorem dX2_ray_91 : decode cX2_ray 91 = .ok (.aload_n 0, 1) := by decide +kernel
theorem dX2_ray_92 : decode cX2_ray 92 = .ok (.getfield 31, 3) := by decide +kernel
theorem dX2_ray_95 : decode cX2_ray 95 = .ok (.iload_n 3, 1) := by decide +kernel
theorem dX2_ray_96 : decode cX2_ray 96 = .ok (.i2l, 1) := by decide +kernel
theorem dX2_ray_97 : decode cX2_ray 97 = .ok (.iload 4, 2) := by decide +kernel
theorem dX2_ray_99 : decode cX2_ray 99 = .ok (.i2l, 1) := by decide +kernel
theorem dX2_ray_100 : decode cX2_ray 100 = .ok (.invokevirtual 116, 3) := by decide +kernel
theorem dX2_ray_103 : decode cX2_ray 103 = .ok (.goto 15, 3) := by decide +kernel
theorem dX2_ray_106 : decode cX2_ray 106 = .ok (.aload_n 0, 1) := by decide +kernel
theorem dX2_ray_107 : decode cX2_ray 107 = .ok (.getfield 31, 3) := by decide +kernel
theorem dX2_ray_110 : decode cX2_ray 110 = .ok (.iload_n 3, 1) := by decide +kernel
theorem dX2_ray_111 : decode cX2_ray 111 = .ok (.i2l, 1) := by decide +kernel
theorem dX2_ray_112 : decode cX2_ray 112 = .ok (.iload 4, 2) := by decide +kernel
theorem dX2_ray_114 : decode cX2_ray 114 = .ok (.i2l, 1) := by decide +kernel
theorem dX2_ray_115 : decode cX2_ray 115 = .ok (.invokevirtual 120, 3) := by decide +kernel
theorem dX2_ray_118 : decode cX2_ray 118 = .ok (.lstore 9, 2) := by decide +kernel
theorem dX2_ray_120 : decode cX2_ray 120 = .ok (.lload 9, 2) := by decide +kernel
theorem dX2_ray_122 : decode cX2_ray 122 = .ok (.aload_n 0, 1) := by decide +kernel
theorem dX2_ray_123 : decode cX2_ray 123 = .ok (.getfield 31, 3) := by decide +kernel
theorem dX2_ray_126 : decode cX2_ray 126 = .ok (.getfield 101, 3) := by decide +kernel
theorem dX2_ray_129 : decode cX2_ray 129 = .ok (.iload 7, 2) := by decide +kernel
theorem dX2_ray_131 : decode cX2_ray 131 = .ok (.invokestatic 105, 3) := by decide +kernel
theorem dX2_ray_134 : decode cX2_ray 134 = .ok (.lreturn, 1) := by decide +kernel
set_option maxRecDepth 20000 in
theorem ggX2_stops_X2_rowAt : GoodIn wsX2_stops wsX2_rowAt := goodIn_r _ [14, 15, 16, 60, 61, 62, 63, 64, 65] (by decide +kernel) (by decide +kernel)
set_option maxRecDepth 20000 in
theorem gX2_stops_X2_rowAt : GoodIn wsX2_stops (wsV RX2 39 RX2 yX2_rowAt wsX2_rowAt) := goodIn_app (goodIn_of _ (by decide +kernel)) ggX2_stops_X2_rowAt
set_option maxRecDepth 20000 in
theorem ggX2_stops_X2_isEither : GoodIn wsX2_stops wsX2_isEither := goodIn_r _ [19] (by decide +kernel) (by decide +kernel)
set_option maxRecDepth 20000 in
theorem gX2_stops_X2_isEither : GoodIn wsX2_stops (va_wsS RX2 88 yX2_isEither wsX2_isEither) := goodIn_app (goodIn_of _ (by decide +kernel)) ggX2_stops_X2_isEither
set_option maxRecDepth 20000 in
theorem ggX2_stops_X2_isNear : GoodIn wsX2_stops wsX2_isNear := goodIn_r _ [22] (by decide +kernel) (by decide +kernel)
set_option maxRecDepth 20000 in
theorem gX2_stops_X2_isNear : GoodIn wsX2_stops (va_wsS RX2 109 yX2_isNear wsX2_isNear) := goodIn_app (goodIn_of _ (by decide +kernel)) ggX2_stops_X2_isNear
set_option maxRecDepth 20000 in
theorem ggX2_stops_X1_clear : GoodIn wsX2_stops wsX1_clear := goodIn_r _ [27, 28, 29, 30, 31, 32, 33, 34, 70, 71, 72, 73, 74, 75, 76] (by decide +kernel) (by decide +kernel)
set_option maxRecDepth 20000 in
theorem gX2_stops_X1_clear : GoodIn wsX2_stops (wsV RX2 123 RX1 yX1_clear wsX1_clear) := goodIn_app (goodIn_of _ (by decide +kernel)) ggX2_stops_X1_clear
set_option maxRecDepth 20000 in
theorem ggX2_stops_X0_strength : GoodIn wsX2_stops wsX0_strength := goodIn_r _ [39, 40, 41, 42, 66, 67, 68, 69] (by decide +kernel) (by decide +kernel)
set_option maxRecDepth 20000 in
theorem gX2_stops_X0_strength : GoodIn wsX2_stops (wsV RX2 126 RX0 yX0_strength wsX0_strength) := goodIn_app (goodIn_of _ (by decide +kernel)) ggX2_stops_X0_strength
set_option maxRecDepth 20000 in
theorem ggX2_stops_X1_go : GoodIn wsX2_stops wsX1_go := goodIn_r _ [46, 33, 34, 47, 48, 49, 26, 50, 28, 30, 29, 31, 32, 51, 52, 53, 54, 55, 70, 71, 72, 73, 74, 75, 76] (by decide +kernel) (by decide +kernel)
set_option maxRecDepth 20000 in
theorem gX2_stops_X1_go : GoodIn wsX2_stops (wsV RX2 130 RX1 yX1_go wsX1_go) := goodIn_app (goodIn_of _ (by decide +kernel)) ggX2_stops_X1_go
set_option maxRecDepth 20000 in
theorem ggX2_stops_X1_farAbove : GoodIn wsX2_stops wsX1_farAbove := goodIn_r _ [59, 28, 29, 32, 70, 71, 72, 73, 74, 75, 76] (by decide +kernel) (by decide +kernel)
set_option maxRecDepth 20000 in
theorem gX2_stops_X1_farAbove : GoodIn wsX2_stops (wsV RX2 116 RX1 yX1_farAbove wsX1_farAbove) := goodIn_app (goodIn_of _ (by decide +kernel)) ggX2_stops_X1_farAbove
theorem dX2_stops_0 : decode cX2_stops 0 = .ok (.aload_n 0, 1) := by decide +kernel
theorem dX2_stops_1 : decode cX2_stops 1 = .ok (.iload_n 1, 1) := by decide +kernel
theorem dX2_stops_2 : decode cX2_stops 2 = .ok (.invokevirtual 39, 3) := by decide +kernel
theorem dX2_stops_5 : decode cX2_stops 5 = .ok (.astore 5, 2) := by decide +kernel
theorem dX2_stops_7 : decode cX2_stops 7 = .ok (.aload 5, 2) := by decide +kernel
theorem dX2_stops_9 : decode cX2_stops 9 = .ok (.ifnull 25, 3) := by decide +kernel
theorem dX2_stops_12 : decode cX2_stops 12 = .ok (.iload_n 2, 1) := by decide +kernel
theorem dX2_stops_13 : decode cX2_stops 13 = .ok (.invokestatic 88, 3) := by decide +kernel
theorem dX2_stops_16 : decode cX2_stops 16 = .ok (.ifCond .eq 18, 3) := by decide +kernel
theorem dX2_stops_19 : decode cX2_stops 19 = .ok (.iload_n 3, 1) := by decide +kernel
theorem dX2_stops_20 : decode cX2_stops 20 = .ok (.invokestatic 109, 3) := by decide +kernel
theorem dX2_stops_23 : decode cX2_stops 23 = .ok (.ifCond .eq 11, 3) := by decide +kernel
theorem dX2_stops_26 : decode cX2_stops 26 = .ok (.iload 4, 2) := by decide +kernel
theorem dX2_stops_28 : decode cX2_stops 28 = .ok (.invokestatic 109, 3) := by decide +kernel
theorem dX2_stops_31 : decode cX2_stops 31 = .ok (.ifCond .ne 5, 3) := by decide +kernel
theorem dX2_stops_34 : decode cX2_stops 34 = .ok (.iconst (-1), 1) := by decide +kernel
theorem dX2_stops_35 : decode cX2_stops 35 = .ok (.ireturn, 1) := by decide +kernel
theorem dX2_stops_36 : decode cX2_stops 36 = .ok (.aload_n 0, 1) := by decide +kernel
theorem dX2_stops_37 : decode cX2_stops 37 = .ok (.getfield 31, 3) := by decide +kernel
theorem dX2_stops_40 : decode cX2_stops 40 = .ok (.invokevirtual 123, 3) := by decide +kernel
theorem dX2_stops_43 : decode cX2_stops 43 = .ok (.iconst 0, 1) := by decide +kernel
theorem dX2_stops_44 : decode cX2_stops 44 = .ok (.istore 6, 2) := by decide +kernel
theorem dX2_stops_46 : decode cX2_stops 46 = .ok (.iload 6, 2) := by decide +kernel
theorem dX2_stops_48 : decode cX2_stops 48 = .ok (.aload 5, 2) := by decide +kernel
theorem dX2_stops_50 : decode cX2_stops 50 = .ok (.getfield 43, 3) := by decide +kernel
theorem dX2_stops_53 : decode cX2_stops 53 = .ok (.if_icmp .ge 83, 3) := by decide +kernel
theorem dX2_stops_56 : decode cX2_stops 56 = .ok (.aload_n 0, 1) := by decide +kernel
theorem dX2_stops_57 : decode cX2_stops 57 = .ok (.getfield 31, 3) := by decide +kernel
theorem dX2_stops_60 : decode cX2_stops 60 = .ok (.aload 5, 2) := by decide +kernel
theorem dX2_stops_62 : decode cX2_stops 62 = .ok (.getfield 61, 3) := by decide +kernel
theorem dX2_stops_65 : decode cX2_stops 65 = .ok (.iload 6, 2) := by decide +kernel
theorem dX2_stops_67 : decode cX2_stops 67 = .ok (.iaload, 1) := by decide +kernel
theorem dX2_stops_68 : decode cX2_stops 68 = .ok (.aload 5, 2) := by decide +kernel
theorem dX2_stops_70 : decode cX2_stops 70 = .ok (.iload 6, 2) := by decide +kernel
theorem dX2_stops_72 : decode cX2_stops 72 = .ok (.iload_n 2, 1) := by decide +kernel
theorem dX2_stops_73 : decode cX2_stops 73 = .ok (.invokevirtual 126, 3) := by decide +kernel
theorem dX2_stops_76 : decode cX2_stops 76 = .ok (.invokevirtual 130, 3) := by decide +kernel
theorem dX2_stops_79 : decode cX2_stops 79 = .ok (.aload 5, 2) := by decide +kernel
theorem dX2_stops_81 : decode cX2_stops 81 = .ok (.getfield 61, 3) := by decide +kernel
theorem dX2_stops_84 : decode cX2_stops 84 = .ok (.iload 6, 2) := by decide +kernel
theorem dX2_stops_86 : decode cX2_stops 86 = .ok (.iaload, 1) := by decide +kernel
theorem dX2_stops_87 : decode cX2_stops 87 = .ok (.iconst 4, 1) := by decide +kernel
theorem dX2_stops_88 : decode cX2_stops 88 = .ok (.if_icmp .ne 42, 3) := by decide +kernel
theorem dX2_stops_91 : decode cX2_stops 91 = .ok (.aload_n 0, 1) := by decide +kernel
theorem dX2_stops_92 : decode cX2_stops 92 = .ok (.getfield 31, 3) := by decide +kernel
theorem dX2_stops_95 : decode cX2_stops 95 = .ok (.iload_n 3, 1) := by decide +kernel
theorem dX2_stops_96 : decode cX2_stops 96 = .ok (.i2l, 1) := by decide +kernel
theorem dX2_stops_97 : decode cX2_stops 97 = .ok (.iload 4, 2) := by decide +kernel
theorem dX2_stops_99 : decode cX2_stops 99 = .ok (.i2l, 1) := by decide +kernel
theorem dX2_stops_100 : decode cX2_stops 100 = .ok (.invokevirtual 116, 3) := by decide +kernel
theorem dX2_stops_103 : decode cX2_stops 103 = .ok (.invokestatic 134, 3) := by decide +kernel
theorem dX2_stops_106 : decode cX2_stops 106 = .ok (.aload 5, 2) := by decide +kernel
theorem dX2_stops_108 : decode cX2_stops 108 = .ok (.getfield 68, 3) := by decide +kernel
theorem dX2_stops_111 : decode cX2_stops 111 = .ok (.iload 6, 2) := by decide +kernel
theorem dX2_stops_113 : decode cX2_stops 113 = .ok (.iaload, 1) := by decide +kernel
theorem dX2_stops_114 : decode cX2_stops 114 = .ok (.i2l, 1) := by decide +kernel
theorem dX2_stops_115 : decode cX2_stops 115 = .ok (.aload_n 0, 1) := by decide +kernel
theorem dX2_stops_116 : decode cX2_stops 116 = .ok (.getfield 31, 3) := by decide +kernel
theorem dX2_stops_119 : decode cX2_stops 119 = .ok (.getfield 101, 3) := by decide +kernel
theorem dX2_stops_122 : decode cX2_stops 122 = .ok (.lmul, 1) := by decide +kernel
theorem dX2_stops_123 : decode cX2_stops 123 = .ok (.lcmp, 1) := by decide +kernel
theorem dX2_stops_124 : decode cX2_stops 124 = .ok (.ifCond .le 6, 3) := by decide +kernel
theorem dX2_stops_127 : decode cX2_stops 127 = .ok (.iload 6, 2) := by decide +kernel
theorem dX2_stops_129 : decode cX2_stops 129 = .ok (.ireturn, 1) := by decide +kernel
theorem dX2_stops_130 : decode cX2_stops 130 = .ok (.iinc 6 1, 3) := by decide +kernel
theorem dX2_stops_133 : decode cX2_stops 133 = .ok (.goto (-87), 3) := by decide +kernel
theorem dX2_stops_136 : decode cX2_stops 136 = .ok (.iconst (-1), 1) := by decide +kernel
theorem dX2_stops_137 : decode cX2_stops 137 = .ok (.ireturn, 1) := by decide +kernel
set_option maxRecDepth 20000 in
theorem ggX2_full_X2_rowAt : GoodIn wsX2_full wsX2_rowAt := goodIn_r _ [14, 15, 16, 61, 62, 63, 64, 65, 66] (by decide +kernel) (by decide +kernel)
set_option maxRecDepth 20000 in
theorem gX2_full_X2_rowAt : GoodIn wsX2_full (wsV RX2 39 RX2 yX2_rowAt wsX2_rowAt) := goodIn_app (goodIn_of _ (by decide +kernel)) ggX2_full_X2_rowAt
set_option maxRecDepth 20000 in
theorem ggX2_full_X2_isEither : GoodIn wsX2_full wsX2_isEither := goodIn_r _ [19] (by decide +kernel) (by decide +kernel)
set_option maxRecDepth 20000 in
theorem gX2_full_X2_isEither : GoodIn wsX2_full (va_wsS RX2 88 yX2_isEither wsX2_isEither) := goodIn_app (goodIn_of _ (by decide +kernel)) ggX2_full_X2_isEither
set_option maxRecDepth 20000 in
theorem ggX2_full_X1_clear : GoodIn wsX2_full wsX1_clear := goodIn_r _ [24, 25, 26, 27, 28, 29, 30, 31, 71, 72, 73, 74, 75, 76, 77] (by decide +kernel) (by decide +kernel)
set_option maxRecDepth 20000 in
theorem gX2_full_X1_clear : GoodIn wsX2_full (wsV RX2 123 RX1 yX1_clear wsX1_clear) := goodIn_app (goodIn_of _ (by decide +kernel)) ggX2_full_X1_clear
set_option maxRecDepth 20000 in
theorem ggX2_full_X0_strength : GoodIn wsX2_full wsX0_strength := goodIn_r _ [36, 37, 38, 39, 67, 68, 69, 70] (by decide +kernel) (by decide +kernel)
set_option maxRecDepth 20000 in
theorem gX2_full_X0_strength : GoodIn wsX2_full (wsV RX2 126 RX0 yX0_strength wsX0_strength) := goodIn_app (goodIn_of _ (by decide +kernel)) ggX2_full_X0_strength
set_option maxRecDepth 20000 in
theorem ggX2_full_X1_go : GoodIn wsX2_full wsX1_go := goodIn_r _ [43, 30, 31, 44, 45, 46, 23, 47, 25, 27, 26, 28, 29, 48, 49, 50, 51, 52, 71, 72, 73, 74, 75, 76, 77] (by decide +kernel) (by decide +kernel)
set_option maxRecDepth 20000 in
theorem gX2_full_X1_go : GoodIn wsX2_full (wsV RX2 130 RX1 yX1_go wsX1_go) := goodIn_app (goodIn_of _ (by decide +kernel)) ggX2_full_X1_go
set_option maxRecDepth 20000 in
theorem ggX2_full_X1_steepestWithin : GoodIn wsX2_full wsX1_steepestWithin := goodIn_r _ [56, 31, 29, 57, 58, 8, 59, 52, 26, 60, 71, 72, 73, 74, 75, 76, 77] (by decide +kernel) (by decide +kernel)
set_option maxRecDepth 20000 in
theorem gX2_full_X1_steepestWithin : GoodIn wsX2_full (wsV RX2 142 RX1 yX1_steepestWithin wsX1_steepestWithin) := goodIn_app (goodIn_of _ (by decide +kernel)) ggX2_full_X1_steepestWithin
theorem dX2_full_0 : decode cX2_full 0 = .ok (.aload_n 0, 1) := by decide +kernel
theorem dX2_full_1 : decode cX2_full 1 = .ok (.iload_n 1, 1) := by decide +kernel
theorem dX2_full_2 : decode cX2_full 2 = .ok (.invokevirtual 39, 3) := by decide +kernel
theorem dX2_full_5 : decode cX2_full 5 = .ok (.astore_n 3, 1) := by decide +kernel
theorem dX2_full_6 : decode cX2_full 6 = .ok (.aload_n 3, 1) := by decide +kernel
theorem dX2_full_7 : decode cX2_full 7 = .ok (.ifnull 10, 3) := by decide +kernel
theorem dX2_full_10 : decode cX2_full 10 = .ok (.iload_n 2, 1) := by decide +kernel
theorem dX2_full_11 : decode cX2_full 11 = .ok (.invokestatic 88, 3) := by decide +kernel
theorem dX2_full_14 : decode cX2_full 14 = .ok (.ifCond .ne 5, 3) := by decide +kernel
theorem dX2_full_17 : decode cX2_full 17 = .ok (.iconst (-1), 1) := by decide +kernel
theorem dX2_full_18 : decode cX2_full 18 = .ok (.ireturn, 1) := by decide +kernel
theorem dX2_full_19 : decode cX2_full 19 = .ok (.ldc2_w 140, 3) := by decide +kernel
theorem dX2_full_22 : decode cX2_full 22 = .ok (.lstore 4, 2) := by decide +kernel
theorem dX2_full_24 : decode cX2_full 24 = .ok (.aload_n 0, 1) := by decide +kernel
theorem dX2_full_25 : decode cX2_full 25 = .ok (.getfield 31, 3) := by decide +kernel
theorem dX2_full_28 : decode cX2_full 28 = .ok (.invokevirtual 123, 3) := by decide +kernel
theorem dX2_full_31 : decode cX2_full 31 = .ok (.iconst 0, 1) := by decide +kernel
theorem dX2_full_32 : decode cX2_full 32 = .ok (.istore 6, 2) := by decide +kernel
theorem dX2_full_34 : decode cX2_full 34 = .ok (.iload 6, 2) := by decide +kernel
theorem dX2_full_36 : decode cX2_full 36 = .ok (.aload_n 3, 1) := by decide +kernel
theorem dX2_full_37 : decode cX2_full 37 = .ok (.getfield 43, 3) := by decide +kernel
theorem dX2_full_40 : decode cX2_full 40 = .ok (.if_icmp .ge 63, 3) := by decide +kernel
theorem dX2_full_43 : decode cX2_full 43 = .ok (.aload_n 0, 1) := by decide +kernel
theorem dX2_full_44 : decode cX2_full 44 = .ok (.getfield 31, 3) := by decide +kernel
theorem dX2_full_47 : decode cX2_full 47 = .ok (.aload_n 3, 1) := by decide +kernel
theorem dX2_full_48 : decode cX2_full 48 = .ok (.getfield 61, 3) := by decide +kernel
theorem dX2_full_51 : decode cX2_full 51 = .ok (.iload 6, 2) := by decide +kernel
theorem dX2_full_53 : decode cX2_full 53 = .ok (.iaload, 1) := by decide +kernel
theorem dX2_full_54 : decode cX2_full 54 = .ok (.aload_n 3, 1) := by decide +kernel
theorem dX2_full_55 : decode cX2_full 55 = .ok (.iload 6, 2) := by decide +kernel
theorem dX2_full_57 : decode cX2_full 57 = .ok (.iload_n 2, 1) := by decide +kernel
theorem dX2_full_58 : decode cX2_full 58 = .ok (.invokevirtual 126, 3) := by decide +kernel
theorem dX2_full_61 : decode cX2_full 61 = .ok (.invokevirtual 130, 3) := by decide +kernel
theorem dX2_full_64 : decode cX2_full 64 = .ok (.aload_n 3, 1) := by decide +kernel
theorem dX2_full_65 : decode cX2_full 65 = .ok (.getfield 61, 3) := by decide +kernel
theorem dX2_full_68 : decode cX2_full 68 = .ok (.iload 6, 2) := by decide +kernel
theorem dX2_full_70 : decode cX2_full 70 = .ok (.iaload, 1) := by decide +kernel
theorem dX2_full_71 : decode cX2_full 71 = .ok (.iconst 4, 1) := by decide +kernel
theorem dX2_full_72 : decode cX2_full 72 = .ok (.if_icmp .ne 25, 3) := by decide +kernel
theorem dX2_full_75 : decode cX2_full 75 = .ok (.lload 4, 2) := by decide +kernel
theorem dX2_full_77 : decode cX2_full 77 = .ok (.aload_n 0, 1) := by decide +kernel
theorem dX2_full_78 : decode cX2_full 78 = .ok (.getfield 31, 3) := by decide +kernel
theorem dX2_full_81 : decode cX2_full 81 = .ok (.aload_n 3, 1) := by decide +kernel
theorem dX2_full_82 : decode cX2_full 82 = .ok (.getfield 68, 3) := by decide +kernel
theorem dX2_full_85 : decode cX2_full 85 = .ok (.iload 6, 2) := by decide +kernel
theorem dX2_full_87 : decode cX2_full 87 = .ok (.iaload, 1) := by decide +kernel
theorem dX2_full_88 : decode cX2_full 88 = .ok (.i2l, 1) := by decide +kernel
theorem dX2_full_89 : decode cX2_full 89 = .ok (.invokevirtual 142, 3) := by decide +kernel
theorem dX2_full_92 : decode cX2_full 92 = .ok (.invokestatic 145, 3) := by decide +kernel
theorem dX2_full_95 : decode cX2_full 95 = .ok (.lstore 4, 2) := by decide +kernel
theorem dX2_full_97 : decode cX2_full 97 = .ok (.iinc 6 1, 3) := by decide +kernel
theorem dX2_full_100 : decode cX2_full 100 = .ok (.goto (-66), 3) := by decide +kernel
theorem dX2_full_103 : decode cX2_full 103 = .ok (.lload 4, 2) := by decide +kernel
theorem dX2_full_105 : decode cX2_full 105 = .ok (.l2i, 1) := by decide +kernel
theorem dX2_full_106 : decode cX2_full 106 = .ok (.ireturn, 1) := by decide +kernel
set_option maxRecDepth 20000 in
theorem ggX2_image_X2_rowAt : GoodIn wsX2_image wsX2_rowAt := goodIn_r _ [10, 11, 12, 74, 75, 76, 77, 78, 79] (by decide +kernel) (by decide +kernel)
set_option maxRecDepth 20000 in
theorem gX2_image_X2_rowAt : GoodIn wsX2_image (wsV RX2 39 RX2 yX2_rowAt wsX2_rowAt) := goodIn_app (goodIn_of _ (by decide +kernel)) ggX2_image_X2_rowAt
set_option maxRecDepth 20000 in
theorem ggX2_image_X2_isEither : GoodIn wsX2_image wsX2_isEither := goodIn_r _ [15] (by decide +kernel) (by decide +kernel)
set_option maxRecDepth 20000 in
theorem gX2_image_X2_isEither : GoodIn wsX2_image (va_wsS RX2 88 yX2_isEither wsX2_isEither) := goodIn_app (goodIn_of _ (by decide +kernel)) ggX2_image_X2_isEither
set_option maxRecDepth 20000 in
theorem ggX2_image_X1_leadThrough : GoodIn wsX2_image wsX1_leadThrough := goodIn_r _ [20, 21, 22, 23, 24, 19, 25, 26, 27, 28, 29, 30, 31, 32, 33, 34, 35, 36, 37, 38, 39, 40, 41, 42, 43, 44, 45, 46, 47, 48, 49, 50, 51, 52, 53, 54, 55, 56, 57, 58, 59, 60, 61, 62, 63, 87, 88, 89, 90, 80, 81, 82, 83, 84, 85, 86] (by decide +kernel) (by decide +kernel)
set_option maxRecDepth 20000 in
theorem gX2_image_X1_leadThrough : GoodIn wsX2_image (wsV RX2 93 RX1 yX1_leadThrough wsX1_leadThrough) := goodIn_app (goodIn_of _ (by decide +kernel)) ggX2_image_X1_leadThrough
set_option maxRecDepth 20000 in
theorem ggX2_image_X2_told : GoodIn wsX2_image wsX2_told := goodIn_r _ [66, 67, 68, 69, 70, 1, 71, 72, 9, 73] (by decide +kernel) (by decide +kernel)
set_option maxRecDepth 20000 in
theorem gX2_image_X2_told : GoodIn wsX2_image (va_wsS RX2 105 yX2_told wsX2_told) := goodIn_app (goodIn_of _ (by decide +kernel)) ggX2_image_X2_told
theorem dX2_image_0 : decode cX2_image 0 = .ok (.aload_n 0, 1) := by decide +kernel
theorem dX2_image_1 : decode cX2_image 1 = .ok (.iload_n 1, 1) := by decide +kernel
theorem dX2_image_2 : decode cX2_image 2 = .ok (.invokevirtual 39, 3) := by decide +kernel
theorem dX2_image_5 : decode cX2_image 5 = .ok (.astore 5, 2) := by decide +kernel
theorem dX2_image_7 : decode cX2_image 7 = .ok (.aload 5, 2) := by decide +kernel
theorem dX2_image_9 : decode cX2_image 9 = .ok (.ifnull 25, 3) := by decide +kernel
theorem dX2_image_12 : decode cX2_image 12 = .ok (.iload_n 2, 1) := by decide +kernel
theorem dX2_image_13 : decode cX2_image 13 = .ok (.invokestatic 88, 3) := by decide +kernel
theorem dX2_image_16 : decode cX2_image 16 = .ok (.ifCond .eq 18, 3) := by decide +kernel
theorem dX2_image_19 : decode cX2_image 19 = .ok (.iload_n 3, 1) := by decide +kernel
theorem dX2_image_20 : decode cX2_image 20 = .ok (.invokestatic 88, 3) := by decide +kernel
theorem dX2_image_23 : decode cX2_image 23 = .ok (.ifCond .eq 11, 3) := by decide +kernel
theorem dX2_image_26 : decode cX2_image 26 = .ok (.iload 4, 2) := by decide +kernel
theorem dX2_image_28 : decode cX2_image 28 = .ok (.invokestatic 88, 3) := by decide +kernel
theorem dX2_image_31 : decode cX2_image 31 = .ok (.ifCond .ne 7, 3) := by decide +kernel
theorem dX2_image_34 : decode cX2_image 34 = .ok (.ldc2_w 91, 3) := by decide +kernel
theorem dX2_image_37 : decode cX2_image 37 = .ok (.lreturn, 1) := by decide +kernel
theorem dX2_image_38 : decode cX2_image 38 = .ok (.aload_n 0, 1) := by decide +kernel
theorem dX2_image_39 : decode cX2_image 39 = .ok (.getfield 31, 3) := by decide +kernel
theorem dX2_image_42 : decode cX2_image 42 = .ok (.aload 5, 2) := by decide +kernel
theorem dX2_image_44 : decode cX2_image 44 = .ok (.iload_n 2, 1) := by decide +kernel
theorem dX2_image_45 : decode cX2_image 45 = .ok (.invokevirtual 93, 3) := by decide +kernel
theorem dX2_image_48 : decode cX2_image 48 = .ok (.iload_n 3, 1) := by decide +kernel
theorem dX2_image_49 : decode cX2_image 49 = .ok (.ifCond .ne 26, 3) := by decide +kernel
theorem dX2_image_52 : decode cX2_image 52 = .ok (.aload_n 0, 1) := by decide +kernel
theorem dX2_image_53 : decode cX2_image 53 = .ok (.getfield 31, 3) := by decide +kernel
theorem dX2_image_56 : decode cX2_image 56 = .ok (.getfield 148, 3) := by decide +kernel
theorem dX2_image_59 : decode cX2_image 59 = .ok (.lneg, 1) := by decide +kernel
theorem dX2_image_60 : decode cX2_image 60 = .ok (.aload_n 0, 1) := by decide +kernel
theorem dX2_image_61 : decode cX2_image 61 = .ok (.getfield 31, 3) := by decide +kernel
theorem dX2_image_64 : decode cX2_image 64 = .ok (.getfield 151, 3) := by decide +kernel
theorem dX2_image_67 : decode cX2_image 67 = .ok (.iload 4, 2) := by decide +kernel
theorem dX2_image_69 : decode cX2_image 69 = .ok (.invokestatic 105, 3) := by decide +kernel
theorem dX2_image_72 : decode cX2_image 72 = .ok (.goto 22, 3) := by decide +kernel
theorem dX2_image_75 : decode cX2_image 75 = .ok (.aload_n 0, 1) := by decide +kernel
theorem dX2_image_76 : decode cX2_image 76 = .ok (.getfield 31, 3) := by decide +kernel
theorem dX2_image_79 : decode cX2_image 79 = .ok (.getfield 101, 3) := by decide +kernel
theorem dX2_image_82 : decode cX2_image 82 = .ok (.aload_n 0, 1) := by decide +kernel
theorem dX2_image_83 : decode cX2_image 83 = .ok (.getfield 31, 3) := by decide +kernel
theorem dX2_image_86 : decode cX2_image 86 = .ok (.getfield 151, 3) := by decide +kernel
theorem dX2_image_89 : decode cX2_image 89 = .ok (.iload 4, 2) := by decide +kernel
theorem dX2_image_91 : decode cX2_image 91 = .ok (.invokestatic 105, 3) := by decide +kernel
theorem dX2_image_94 : decode cX2_image 94 = .ok (.lreturn, 1) := by decide +kernel
set_option maxRecDepth 20000 in
theorem ggX2_same_X2_rowAt : GoodIn wsX2_same wsX2_rowAt := goodIn_r _ [8, 9, 10, 66, 67, 68, 69, 70, 71] (by decide +kernel) (by decide +kernel)
set_option maxRecDepth 20000 in
theorem gX2_same_X2_rowAt : GoodIn wsX2_same (wsV RX2 39 RX2 yX2_rowAt wsX2_rowAt) := goodIn_app (goodIn_of _ (by decide +kernel)) ggX2_same_X2_rowAt
set_option maxRecDepth 20000 in
theorem ggX2_same_X2_isEither : GoodIn wsX2_same wsX2_isEither := goodIn_r _ [13] (by decide +kernel) (by decide +kernel)
set_option maxRecDepth 20000 in
theorem gX2_same_X2_isEither : GoodIn wsX2_same (va_wsS RX2 88 yX2_isEither wsX2_isEither) := goodIn_app (goodIn_of _ (by decide +kernel)) ggX2_same_X2_isEither
set_option maxRecDepth 20000 in
theorem ggX2_same_X1_leadThrough : GoodIn wsX2_same wsX1_leadThrough := goodIn_r _ [18, 19, 20, 21, 22, 17, 23, 24, 25, 26, 27, 28, 29, 30, 31, 32, 33, 34, 35, 36, 37, 38, 39, 40, 41, 42, 43, 44, 45, 46, 47, 48, 49, 50, 51, 52, 53, 54, 55, 56, 57, 58, 59, 60, 61, 79, 80, 81, 82, 72, 73, 74, 75, 76, 77, 78] (by decide +kernel) (by decide +kernel)
set_option maxRecDepth 20000 in
theorem gX2_same_X1_leadThrough : GoodIn wsX2_same (wsV RX2 93 RX1 yX1_leadThrough wsX1_leadThrough) := goodIn_app (goodIn_of _ (by decide +kernel)) ggX2_same_X1_leadThrough
set_option maxRecDepth 20000 in
theorem ggX2_same_X1_above : GoodIn wsX2_same wsX1_above := goodIn_r _ [65, 29, 30, 31, 32, 33, 34, 72, 73, 74, 75, 76, 77, 78] (by decide +kernel) (by decide +kernel)
set_option maxRecDepth 20000 in
theorem gX2_same_X1_above : GoodIn wsX2_same (wsV RX2 97 RX1 yX1_above wsX1_above) := goodIn_app (goodIn_of _ (by decide +kernel)) ggX2_same_X1_above
theorem dX2_same_0 : decode cX2_same 0 = .ok (.aload_n 0, 1) := by decide +kernel
theorem dX2_same_1 : decode cX2_same 1 = .ok (.iload_n 1, 1) := by decide +kernel
theorem dX2_same_2 : decode cX2_same 2 = .ok (.invokevirtual 39, 3) := by decide +kernel
theorem dX2_same_5 : decode cX2_same 5 = .ok (.astore 4, 2) := by decide +kernel
theorem dX2_same_7 : decode cX2_same 7 = .ok (.aload_n 0, 1) := by decide +kernel
theorem dX2_same_8 : decode cX2_same 8 = .ok (.iload_n 2, 1) := by decide +kernel
theorem dX2_same_9 : decode cX2_same 9 = .ok (.invokevirtual 39, 3) := by decide +kernel
theorem dX2_same_12 : decode cX2_same 12 = .ok (.astore 5, 2) := by decide +kernel
theorem dX2_same_14 : decode cX2_same 14 = .ok (.aload 4, 2) := by decide +kernel
theorem dX2_same_16 : decode cX2_same 16 = .ok (.ifnull 15, 3) := by decide +kernel
theorem dX2_same_19 : decode cX2_same 19 = .ok (.aload 5, 2) := by decide +kernel
theorem dX2_same_21 : decode cX2_same 21 = .ok (.ifnull 10, 3) := by decide +kernel
theorem dX2_same_24 : decode cX2_same 24 = .ok (.iload_n 3, 1) := by decide +kernel
theorem dX2_same_25 : decode cX2_same 25 = .ok (.invokestatic 88, 3) := by decide +kernel
theorem dX2_same_28 : decode cX2_same 28 = .ok (.ifCond .ne 5, 3) := by decide +kernel
theorem dX2_same_31 : decode cX2_same 31 = .ok (.iconst (-1), 1) := by decide +kernel
theorem dX2_same_32 : decode cX2_same 32 = .ok (.ireturn, 1) := by decide +kernel
theorem dX2_same_33 : decode cX2_same 33 = .ok (.aload_n 0, 1) := by decide +kernel
theorem dX2_same_34 : decode cX2_same 34 = .ok (.getfield 31, 3) := by decide +kernel
theorem dX2_same_37 : decode cX2_same 37 = .ok (.aload 4, 2) := by decide +kernel
theorem dX2_same_39 : decode cX2_same 39 = .ok (.iload_n 3, 1) := by decide +kernel
theorem dX2_same_40 : decode cX2_same 40 = .ok (.invokevirtual 93, 3) := by decide +kernel
theorem dX2_same_43 : decode cX2_same 43 = .ok (.aload_n 0, 1) := by decide +kernel
theorem dX2_same_44 : decode cX2_same 44 = .ok (.getfield 35, 3) := by decide +kernel
theorem dX2_same_47 : decode cX2_same 47 = .ok (.aload 5, 2) := by decide +kernel
theorem dX2_same_49 : decode cX2_same 49 = .ok (.iload_n 3, 1) := by decide +kernel
theorem dX2_same_50 : decode cX2_same 50 = .ok (.invokevirtual 93, 3) := by decide +kernel
theorem dX2_same_53 : decode cX2_same 53 = .ok (.iconst 0, 1) := by decide +kernel
theorem dX2_same_54 : decode cX2_same 54 = .ok (.istore 6, 2) := by decide +kernel
theorem dX2_same_56 : decode cX2_same 56 = .ok (.iload 6, 2) := by decide +kernel
theorem dX2_same_58 : decode cX2_same 58 = .ok (.bipush 6, 2) := by decide +kernel
theorem dX2_same_60 : decode cX2_same 60 = .ok (.if_icmp .ge 49, 3) := by decide +kernel
theorem dX2_same_63 : decode cX2_same 63 = .ok (.aload_n 0, 1) := by decide +kernel
theorem dX2_same_64 : decode cX2_same 64 = .ok (.getfield 31, 3) := by decide +kernel
theorem dX2_same_67 : decode cX2_same 67 = .ok (.iload 6, 2) := by decide +kernel
theorem dX2_same_69 : decode cX2_same 69 = .ok (.invokevirtual 97, 3) := by decide +kernel
theorem dX2_same_72 : decode cX2_same 72 = .ok (.aload_n 0, 1) := by decide +kernel
theorem dX2_same_73 : decode cX2_same 73 = .ok (.getfield 35, 3) := by decide +kernel
theorem dX2_same_76 : decode cX2_same 76 = .ok (.getfield 101, 3) := by decide +kernel
theorem dX2_same_79 : decode cX2_same 79 = .ok (.lmul, 1) := by decide +kernel
theorem dX2_same_80 : decode cX2_same 80 = .ok (.aload_n 0, 1) := by decide +kernel
theorem dX2_same_81 : decode cX2_same 81 = .ok (.getfield 35, 3) := by decide +kernel
theorem dX2_same_84 : decode cX2_same 84 = .ok (.iload 6, 2) := by decide +kernel
theorem dX2_same_86 : decode cX2_same 86 = .ok (.invokevirtual 97, 3) := by decide +kernel
theorem dX2_same_89 : decode cX2_same 89 = .ok (.aload_n 0, 1) := by decide +kernel
theorem dX2_same_90 : decode cX2_same 90 = .ok (.getfield 31, 3) := by decide +kernel
theorem dX2_same_93 : decode cX2_same 93 = .ok (.getfield 101, 3) := by decide +kernel
theorem dX2_same_96 : decode cX2_same 96 = .ok (.lmul, 1) := by decide +kernel
theorem dX2_same_97 : decode cX2_same 97 = .ok (.lcmp, 1) := by decide +kernel
theorem dX2_same_98 : decode cX2_same 98 = .ok (.ifCond .eq 5, 3) := by decide +kernel
theorem dX2_same_101 : decode cX2_same 101 = .ok (.iconst 0, 1) := by decide +kernel
theorem dX2_same_102 : decode cX2_same 102 = .ok (.ireturn, 1) := by decide +kernel
theorem dX2_same_103 : decode cX2_same 103 = .ok (.iinc 6 1, 3) := by decide +kernel
theorem dX2_same_106 : decode cX2_same 106 = .ok (.goto (-50), 3) := by decide +kernel
theorem dX2_same_109 : decode cX2_same 109 = .ok (.iconst 1, 1) := by decide +kernel
theorem dX2_same_110 : decode cX2_same 110 = .ok (.ireturn, 1) := by decide +kernel
set_option maxRecDepth 20000 in
theorem ggX2_round_X2_rowAt : GoodIn wsX2_round wsX2_rowAt := goodIn_r _ [6, 7, 8, 78, 79, 80, 81, 82, 83] (by decide +kernel) (by decide +kernel)
set_option maxRecDepth 20000 in
theorem gX2_round_X2_rowAt : GoodIn wsX2_round (wsV RX2 39 RX2 yX2_rowAt wsX2_rowAt) := goodIn_app (goodIn_of _ (by decide +kernel)) ggX2_round_X2_rowAt
set_option maxRecDepth 20000 in
theorem ggX2_round_X2_isEither : GoodIn wsX2_round wsX2_isEither := goodIn_r _ [11] (by decide +kernel) (by decide +kernel)
set_option maxRecDepth 20000 in
theorem gX2_round_X2_isEither : GoodIn wsX2_round (va_wsS RX2 88 yX2_isEither wsX2_isEither) := goodIn_app (goodIn_of _ (by decide +kernel)) ggX2_round_X2_isEither
set_option maxRecDepth 20000 in
theorem ggX2_round_X1_leadThrough : GoodIn wsX2_round wsX1_leadThrough := goodIn_r _ [16, 17, 18, 19, 20, 15, 21, 22, 23, 24, 25, 26, 27, 28, 29, 30, 31, 32, 33, 34, 35, 36, 37, 38, 39, 40, 41, 42, 43, 44, 45, 46, 47, 48, 49, 50, 51, 52, 53, 54, 55, 56, 57, 58, 59, 84, 85, 86, 87, 88, 89, 90, 91, 92, 93, 94] (by decide +kernel) (by decide +kernel)
set_option maxRecDepth 20000 in
theorem gX2_round_X1_leadThrough : GoodIn wsX2_round (wsV RX2 93 RX1 yX1_leadThrough wsX1_leadThrough) := goodIn_app (goodIn_of _ (by decide +kernel)) ggX2_round_X1_leadThrough
set_option maxRecDepth 20000 in
theorem ggX2_round_X1_manner : GoodIn wsX2_round wsX1_manner := goodIn_r _ [63, 33, 64, 65, 66, 67, 68, 15, 69, 70, 71, 72, 73, 27, 30, 74, 75, 76, 77, 28, 29, 88, 89, 90, 91, 92, 93, 94] (by decide +kernel) (by decide +kernel)
set_option maxRecDepth 20000 in
theorem gX2_round_X1_manner : GoodIn wsX2_round (wsV RX2 154 RX1 yX1_manner wsX1_manner) := goodIn_app (goodIn_of _ (by decide +kernel)) ggX2_round_X1_manner
theorem dX2_round_0 : decode cX2_round 0 = .ok (.aload_n 0, 1) := by decide +kernel
theorem dX2_round_1 : decode cX2_round 1 = .ok (.iload_n 1, 1) := by decide +kernel
theorem dX2_round_2 : decode cX2_round 2 = .ok (.invokevirtual 39, 3) := by decide +kernel
theorem dX2_round_5 : decode cX2_round 5 = .ok (.astore_n 3, 1) := by decide +kernel
theorem dX2_round_6 : decode cX2_round 6 = .ok (.aload_n 3, 1) := by decide +kernel
theorem dX2_round_7 : decode cX2_round 7 = .ok (.ifnull 10, 3) := by decide +kernel
theorem dX2_round_10 : decode cX2_round 10 = .ok (.iload_n 2, 1) := by decide +kernel
theorem dX2_round_11 : decode cX2_round 11 = .ok (.invokestatic 88, 3) := by decide +kernel
theorem dX2_round_14 : decode cX2_round 14 = .ok (.ifCond .ne 5, 3) := by decide +kernel
theorem dX2_round_17 : decode cX2_round 17 = .ok (.iconst (-1), 1) := by decide +kernel
theorem dX2_round_18 : decode cX2_round 18 = .ok (.ireturn, 1) := by decide +kernel
theorem dX2_round_19 : decode cX2_round 19 = .ok (.aload_n 0, 1) := by decide +kernel
theorem dX2_round_20 : decode cX2_round 20 = .ok (.getfield 31, 3) := by decide +kernel
theorem dX2_round_23 : decode cX2_round 23 = .ok (.aload_n 3, 1) := by decide +kernel
theorem dX2_round_24 : decode cX2_round 24 = .ok (.iload_n 2, 1) := by decide +kernel
theorem dX2_round_25 : decode cX2_round 25 = .ok (.invokevirtual 93, 3) := by decide +kernel
theorem dX2_round_28 : decode cX2_round 28 = .ok (.aload_n 0, 1) := by decide +kernel
theorem dX2_round_29 : decode cX2_round 29 = .ok (.getfield 31, 3) := by decide +kernel
theorem dX2_round_32 : decode cX2_round 32 = .ok (.invokevirtual 154, 3) := by decide +kernel
theorem dX2_round_35 : decode cX2_round 35 = .ok (.ireturn, 1) := by decide +kernel
set_option maxRecDepth 20000 in
theorem ggX2_trace_X2_rowAt : GoodIn wsX2_trace wsX2_rowAt := goodIn_r _ [8, 9, 10, 76, 77, 78, 79, 80, 81] (by decide +kernel) (by decide +kernel)
set_option maxRecDepth 20000 in
theorem gX2_trace_X2_rowAt : GoodIn wsX2_trace (wsV RX2 39 RX2 yX2_rowAt wsX2_rowAt) := goodIn_app (goodIn_of _ (by decide +kernel)) ggX2_trace_X2_rowAt
set_option maxRecDepth 20000 in
theorem ggX2_trace_X2_isEither : GoodIn wsX2_trace wsX2_isEither := goodIn_r _ [13] (by decide +kernel) (by decide +kernel)
set_option maxRecDepth 20000 in
theorem gX2_trace_X2_isEither : GoodIn wsX2_trace (va_wsS RX2 88 yX2_isEither wsX2_isEither) := goodIn_app (goodIn_of _ (by decide +kernel)) ggX2_trace_X2_isEither
set_option maxRecDepth 20000 in
theorem ggX2_trace_X1_leadThrough : GoodIn wsX2_trace wsX1_leadThrough := goodIn_r _ [18, 19, 20, 21, 22, 17, 23, 24, 25, 26, 27, 28, 29, 30, 31, 32, 33, 34, 35, 36, 37, 38, 39, 40, 41, 42, 43, 44, 45, 46, 47, 48, 49, 50, 51, 52, 53, 54, 55, 56, 57, 58, 59, 60, 61, 89, 90, 91, 92, 82, 83, 84, 85, 86, 87, 88] (by decide +kernel) (by decide +kernel)
set_option maxRecDepth 20000 in
theorem gX2_trace_X1_leadThrough : GoodIn wsX2_trace (wsV RX2 93 RX1 yX1_leadThrough wsX1_leadThrough) := goodIn_app (goodIn_of _ (by decide +kernel)) ggX2_trace_X1_leadThrough
set_option maxRecDepth 20000 in
theorem ggX2_trace_X1_sum : GoodIn wsX2_trace wsX1_sum := goodIn_r _ [65, 29, 32, 82, 83, 84, 85, 86, 87, 88] (by decide +kernel) (by decide +kernel)
set_option maxRecDepth 20000 in
theorem gX2_trace_X1_sum : GoodIn wsX2_trace (wsV RX2 157 RX1 yX1_sum wsX1_sum) := goodIn_app (goodIn_of _ (by decide +kernel)) ggX2_trace_X1_sum
set_option maxRecDepth 20000 in
theorem ggX2_trace_X2_told : GoodIn wsX2_trace wsX2_told := goodIn_r _ [68, 69, 70, 71, 72, 1, 73, 74, 7, 75] (by decide +kernel) (by decide +kernel)
set_option maxRecDepth 20000 in
theorem gX2_trace_X2_told : GoodIn wsX2_trace (va_wsS RX2 105 yX2_told wsX2_told) := goodIn_app (goodIn_of _ (by decide +kernel)) ggX2_trace_X2_told
theorem dX2_trace_0 : decode cX2_trace 0 = .ok (.aload_n 0, 1) := by decide +kernel
theorem dX2_trace_1 : decode cX2_trace 1 = .ok (.iload_n 1, 1) := by decide +kernel
theorem dX2_trace_2 : decode cX2_trace 2 = .ok (.invokevirtual 39, 3) := by decide +kernel
theorem dX2_trace_5 : decode cX2_trace 5 = .ok (.astore 4, 2) := by decide +kernel
theorem dX2_trace_7 : decode cX2_trace 7 = .ok (.aload 4, 2) := by decide +kernel
theorem dX2_trace_9 : decode cX2_trace 9 = .ok (.ifnull 17, 3) := by decide +kernel
theorem dX2_trace_12 : decode cX2_trace 12 = .ok (.iload_n 2, 1) := by decide +kernel
theorem dX2_trace_13 : decode cX2_trace 13 = .ok (.invokestatic 88, 3) := by decide +kernel
theorem dX2_trace_16 : decode cX2_trace 16 = .ok (.ifCond .eq 10, 3) := by decide +kernel
theorem dX2_trace_19 : decode cX2_trace 19 = .ok (.iload_n 3, 1) := by decide +kernel
theorem dX2_trace_20 : decode cX2_trace 20 = .ok (.invokestatic 88, 3) := by decide +kernel
theorem dX2_trace_23 : decode cX2_trace 23 = .ok (.ifCond .ne 7, 3) := by decide +kernel
theorem dX2_trace_26 : decode cX2_trace 26 = .ok (.ldc2_w 91, 3) := by decide +kernel
theorem dX2_trace_29 : decode cX2_trace 29 = .ok (.lreturn, 1) := by decide +kernel
theorem dX2_trace_30 : decode cX2_trace 30 = .ok (.aload_n 0, 1) := by decide +kernel
theorem dX2_trace_31 : decode cX2_trace 31 = .ok (.getfield 31, 3) := by decide +kernel
theorem dX2_trace_34 : decode cX2_trace 34 = .ok (.aload 4, 2) := by decide +kernel
theorem dX2_trace_36 : decode cX2_trace 36 = .ok (.iload_n 2, 1) := by decide +kernel
theorem dX2_trace_37 : decode cX2_trace 37 = .ok (.invokevirtual 93, 3) := by decide +kernel
theorem dX2_trace_40 : decode cX2_trace 40 = .ok (.aload_n 0, 1) := by decide +kernel
theorem dX2_trace_41 : decode cX2_trace 41 = .ok (.getfield 31, 3) := by decide +kernel
theorem dX2_trace_44 : decode cX2_trace 44 = .ok (.invokevirtual 157, 3) := by decide +kernel
theorem dX2_trace_47 : decode cX2_trace 47 = .ok (.aload_n 0, 1) := by decide +kernel
theorem dX2_trace_48 : decode cX2_trace 48 = .ok (.getfield 31, 3) := by decide +kernel
theorem dX2_trace_51 : decode cX2_trace 51 = .ok (.getfield 101, 3) := by decide +kernel
theorem dX2_trace_54 : decode cX2_trace 54 = .ok (.iload_n 3, 1) := by decide +kernel
theorem dX2_trace_55 : decode cX2_trace 55 = .ok (.invokestatic 105, 3) := by decide +kernel
theorem dX2_trace_58 : decode cX2_trace 58 = .ok (.lreturn, 1) := by decide +kernel
set_option maxRecDepth 20000 in
theorem ggX2_turns_X2_rowAt : GoodIn wsX2_turns wsX2_rowAt := goodIn_r _ [6, 7, 8, 72, 73, 74, 75, 76, 77] (by decide +kernel) (by decide +kernel)
set_option maxRecDepth 20000 in
theorem gX2_turns_X2_rowAt : GoodIn wsX2_turns (wsV RX2 39 RX2 yX2_rowAt wsX2_rowAt) := goodIn_app (goodIn_of _ (by decide +kernel)) ggX2_turns_X2_rowAt
set_option maxRecDepth 20000 in
theorem ggX2_turns_X2_isEither : GoodIn wsX2_turns wsX2_isEither := goodIn_r _ [11] (by decide +kernel) (by decide +kernel)
set_option maxRecDepth 20000 in
theorem gX2_turns_X2_isEither : GoodIn wsX2_turns (va_wsS RX2 88 yX2_isEither wsX2_isEither) := goodIn_app (goodIn_of _ (by decide +kernel)) ggX2_turns_X2_isEither
set_option maxRecDepth 20000 in
theorem ggX2_turns_X1_leadThrough : GoodIn wsX2_turns wsX1_leadThrough := goodIn_r _ [16, 17, 18, 19, 20, 15, 21, 22, 23, 24, 25, 26, 27, 28, 29, 30, 31, 32, 33, 34, 35, 36, 37, 38, 39, 40, 41, 42, 43, 44, 45, 46, 47, 48, 49, 50, 51, 52, 53, 54, 55, 56, 57, 58, 59, 78, 79, 80, 81, 82, 83, 84, 85, 86, 87, 88] (by decide +kernel) (by decide +kernel)
set_option maxRecDepth 20000 in
theorem gX2_turns_X1_leadThrough : GoodIn wsX2_turns (wsV RX2 93 RX1 yX1_leadThrough wsX1_leadThrough) := goodIn_app (goodIn_of _ (by decide +kernel)) ggX2_turns_X1_leadThrough
set_option maxRecDepth 20000 in
theorem ggX2_turns_X1_roundsToComeBack : GoodIn wsX2_turns wsX1_roundsToComeBack := goodIn_r _ [63, 33, 64, 65, 66, 15, 67, 27, 30, 28, 29, 68, 69, 70, 71, 82, 83, 84, 85, 86, 87, 88] (by decide +kernel) (by decide +kernel)
set_option maxRecDepth 20000 in
theorem gX2_turns_X1_roundsToComeBack : GoodIn wsX2_turns (wsV RX2 161 RX1 yX1_roundsToComeBack wsX1_roundsToComeBack) := goodIn_app (goodIn_of _ (by decide +kernel)) ggX2_turns_X1_roundsToComeBack
theorem dX2_turns_0 : decode cX2_turns 0 = .ok (.aload_n 0, 1) := by decide +kernel
theorem dX2_turns_1 : decode cX2_turns 1 = .ok (.iload_n 1, 1) := by decide +kernel
theorem dX2_turns_2 : decode cX2_turns 2 = .ok (.invokevirtual 39, 3) := by decide +kernel
theorem dX2_turns_5 : decode cX2_turns 5 = .ok (.astore_n 3, 1) := by decide +kernel
theorem dX2_turns_6 : decode cX2_turns 6 = .ok (.aload_n 3, 1) := by decide +kernel
theorem dX2_turns_7 : decode cX2_turns 7 = .ok (.ifnull 10, 3) := by decide +kernel
theorem dX2_turns_10 : decode cX2_turns 10 = .ok (.iload_n 2, 1) := by decide +kernel
theorem dX2_turns_11 : decode cX2_turns 11 = .ok (.invokestatic 88, 3) := by decide +kernel
theorem dX2_turns_14 : decode cX2_turns 14 = .ok (.ifCond .ne 5, 3) := by decide +kernel
theorem dX2_turns_17 : decode cX2_turns 17 = .ok (.iconst (-1), 1) := by decide +kernel
theorem dX2_turns_18 : decode cX2_turns 18 = .ok (.ireturn, 1) := by decide +kernel
theorem dX2_turns_19 : decode cX2_turns 19 = .ok (.aload_n 0, 1) := by decide +kernel
theorem dX2_turns_20 : decode cX2_turns 20 = .ok (.getfield 31, 3) := by decide +kernel
theorem dX2_turns_23 : decode cX2_turns 23 = .ok (.aload_n 3, 1) := by decide +kernel
theorem dX2_turns_24 : decode cX2_turns 24 = .ok (.iload_n 2, 1) := by decide +kernel
theorem dX2_turns_25 : decode cX2_turns 25 = .ok (.invokevirtual 93, 3) := by decide +kernel
theorem dX2_turns_28 : decode cX2_turns 28 = .ok (.aload_n 0, 1) := by decide +kernel
theorem dX2_turns_29 : decode cX2_turns 29 = .ok (.getfield 31, 3) := by decide +kernel
theorem dX2_turns_32 : decode cX2_turns 32 = .ok (.invokevirtual 161, 3) := by decide +kernel
theorem dX2_turns_35 : decode cX2_turns 35 = .ok (.ireturn, 1) := by decide +kernel
set_option maxRecDepth 20000 in
theorem ggX2_beam_X2_rowAt : GoodIn wsX2_beam wsX2_rowAt := goodIn_r _ [14, 15, 16, 86, 87, 88, 89, 90, 91] (by decide +kernel) (by decide +kernel)
set_option maxRecDepth 20000 in
theorem gX2_beam_X2_rowAt : GoodIn wsX2_beam (wsV RX2 39 RX2 yX2_rowAt wsX2_rowAt) := goodIn_app (goodIn_of _ (by decide +kernel)) ggX2_beam_X2_rowAt
set_option maxRecDepth 20000 in
theorem ggX2_beam_X0_has : GoodIn wsX2_beam wsX0_has := goodIn_r _ [21, 22, 92, 93, 94, 95] (by decide +kernel) (by decide +kernel)
set_option maxRecDepth 20000 in
theorem gX2_beam_X0_has : GoodIn wsX2_beam (wsV RX2 58 RX0 yX0_has wsX0_has) := goodIn_app (goodIn_of _ (by decide +kernel)) ggX2_beam_X0_has
set_option maxRecDepth 20000 in
theorem ggX2_beam_X2_isEither : GoodIn wsX2_beam wsX2_isEither := goodIn_r _ [25] (by decide +kernel) (by decide +kernel)
set_option maxRecDepth 20000 in
theorem gX2_beam_X2_isEither : GoodIn wsX2_beam (va_wsS RX2 88 yX2_isEither wsX2_isEither) := goodIn_app (goodIn_of _ (by decide +kernel)) ggX2_beam_X2_isEither
set_option maxRecDepth 20000 in
theorem ggX2_beam_X1_lead : GoodIn wsX2_beam wsX1_lead := goodIn_r _ [30, 31, 32, 33, 34, 35, 29, 36, 37, 38, 39, 40, 41, 42, 43, 44, 18, 19, 20, 21, 22, 45, 46, 47, 48, 49, 50, 51, 52, 53, 54, 55, 56, 57, 58, 59, 60, 61, 62, 63, 64, 92, 93, 94, 95, 96, 97, 98, 99, 100, 101, 102] (by decide +kernel) (by decide +kernel)
set_option maxRecDepth 20000 in
theorem gX2_beam_X1_lead : GoodIn wsX2_beam (wsV RX2 112 RX1 yX1_lead wsX1_lead) := goodIn_app (goodIn_of _ (by decide +kernel)) ggX2_beam_X1_lead
set_option maxRecDepth 20000 in
theorem ggX2_beam_X1_isBetween : GoodIn wsX2_beam wsX1_isBetween := goodIn_r _ [68, 69, 43, 70, 71, 72, 73, 29, 74, 37, 40, 96, 97, 98, 99, 100, 101, 102] (by decide +kernel) (by decide +kernel)
set_option maxRecDepth 20000 in
theorem gX2_beam_X1_isBetween : GoodIn wsX2_beam (wsV RX2 164 RX1 yX1_isBetween wsX1_isBetween) := goodIn_app (goodIn_of _ (by decide +kernel)) ggX2_beam_X1_isBetween
set_option maxRecDepth 20000 in
theorem ggX2_beam_X1_sum : GoodIn wsX2_beam wsX1_sum := goodIn_r _ [74, 37, 40, 96, 97, 98, 99, 100, 101, 102] (by decide +kernel) (by decide +kernel)
set_option maxRecDepth 20000 in
theorem gX2_beam_X1_sum : GoodIn wsX2_beam (wsV RX2 157 RX1 yX1_sum wsX1_sum) := goodIn_app (goodIn_of _ (by decide +kernel)) ggX2_beam_X1_sum
set_option maxRecDepth 20000 in
theorem ggX2_beam_X2_told : GoodIn wsX2_beam wsX2_told := goodIn_r _ [78, 79, 80, 81, 82, 1, 83, 84, 13, 85] (by decide +kernel) (by decide +kernel)
set_option maxRecDepth 20000 in
theorem gX2_beam_X2_told : GoodIn wsX2_beam (va_wsS RX2 105 yX2_told wsX2_told) := goodIn_app (goodIn_of _ (by decide +kernel)) ggX2_beam_X2_told
theorem dX2_beam_0 : decode cX2_beam 0 = .ok (.aload_n 0, 1) := by decide +kernel
theorem dX2_beam_1 : decode cX2_beam 1 = .ok (.iload_n 1, 1) := by decide +kernel
theorem dX2_beam_2 : decode cX2_beam 2 = .ok (.invokevirtual 39, 3) := by decide +kernel
theorem dX2_beam_5 : decode cX2_beam 5 = .ok (.astore 6, 2) := by decide +kernel
theorem dX2_beam_7 : decode cX2_beam 7 = .ok (.aload 6, 2) := by decide +kernel
theorem dX2_beam_9 : decode cX2_beam 9 = .ok (.ifnull 35, 3) := by decide +kernel
theorem dX2_beam_12 : decode cX2_beam 12 = .ok (.aload 6, 2) := by decide +kernel
theorem dX2_beam_14 : decode cX2_beam 14 = .ok (.iload_n 3, 1) := by decide +kernel
theorem dX2_beam_15 : decode cX2_beam 15 = .ok (.invokevirtual 58, 3) := by decide +kernel
theorem dX2_beam_18 : decode cX2_beam 18 = .ok (.ifCond .eq 26, 3) := by decide +kernel
theorem dX2_beam_21 : decode cX2_beam 21 = .ok (.iload_n 2, 1) := by decide +kernel
theorem dX2_beam_22 : decode cX2_beam 22 = .ok (.invokestatic 88, 3) := by decide +kernel
theorem dX2_beam_25 : decode cX2_beam 25 = .ok (.ifCond .eq 19, 3) := by decide +kernel
theorem dX2_beam_28 : decode cX2_beam 28 = .ok (.iload 4, 2) := by decide +kernel
theorem dX2_beam_30 : decode cX2_beam 30 = .ok (.invokestatic 88, 3) := by decide +kernel
theorem dX2_beam_33 : decode cX2_beam 33 = .ok (.ifCond .eq 11, 3) := by decide +kernel
theorem dX2_beam_36 : decode cX2_beam 36 = .ok (.iload 5, 2) := by decide +kernel
theorem dX2_beam_38 : decode cX2_beam 38 = .ok (.invokestatic 88, 3) := by decide +kernel
theorem dX2_beam_41 : decode cX2_beam 41 = .ok (.ifCond .ne 7, 3) := by decide +kernel
theorem dX2_beam_44 : decode cX2_beam 44 = .ok (.ldc2_w 91, 3) := by decide +kernel
theorem dX2_beam_47 : decode cX2_beam 47 = .ok (.lreturn, 1) := by decide +kernel
theorem dX2_beam_48 : decode cX2_beam 48 = .ok (.aload_n 0, 1) := by decide +kernel
theorem dX2_beam_49 : decode cX2_beam 49 = .ok (.getfield 31, 3) := by decide +kernel
theorem dX2_beam_52 : decode cX2_beam 52 = .ok (.aload 6, 2) := by decide +kernel
theorem dX2_beam_54 : decode cX2_beam 54 = .ok (.iload_n 2, 1) := by decide +kernel
theorem dX2_beam_55 : decode cX2_beam 55 = .ok (.iload_n 3, 1) := by decide +kernel
theorem dX2_beam_56 : decode cX2_beam 56 = .ok (.aload 6, 2) := by decide +kernel
theorem dX2_beam_58 : decode cX2_beam 58 = .ok (.getfield 43, 3) := by decide +kernel
theorem dX2_beam_61 : decode cX2_beam 61 = .ok (.invokevirtual 112, 3) := by decide +kernel
theorem dX2_beam_64 : decode cX2_beam 64 = .ok (.aload_n 0, 1) := by decide +kernel
theorem dX2_beam_65 : decode cX2_beam 65 = .ok (.getfield 31, 3) := by decide +kernel
theorem dX2_beam_68 : decode cX2_beam 68 = .ok (.invokevirtual 164, 3) := by decide +kernel
theorem dX2_beam_71 : decode cX2_beam 71 = .ok (.ifCond .ne 7, 3) := by decide +kernel
theorem dX2_beam_74 : decode cX2_beam 74 = .ok (.ldc2_w 91, 3) := by decide +kernel
theorem dX2_beam_77 : decode cX2_beam 77 = .ok (.lreturn, 1) := by decide +kernel
theorem dX2_beam_78 : decode cX2_beam 78 = .ok (.iload 4, 2) := by decide +kernel
theorem dX2_beam_80 : decode cX2_beam 80 = .ok (.ifCond .ne 62, 3) := by decide +kernel
theorem dX2_beam_83 : decode cX2_beam 83 = .ok (.aload_n 0, 1) := by decide +kernel
theorem dX2_beam_84 : decode cX2_beam 84 = .ok (.getfield 31, 3) := by decide +kernel
theorem dX2_beam_87 : decode cX2_beam 87 = .ok (.invokevirtual 157, 3) := by decide +kernel
theorem dX2_beam_90 : decode cX2_beam 90 = .ok (.lstore 7, 2) := by decide +kernel
theorem dX2_beam_92 : decode cX2_beam 92 = .ok (.ldc2_w 168, 3) := by decide +kernel
theorem dX2_beam_95 : decode cX2_beam 95 = .ok (.aload_n 0, 1) := by decide +kernel
theorem dX2_beam_96 : decode cX2_beam 96 = .ok (.getfield 31, 3) := by decide +kernel
theorem dX2_beam_99 : decode cX2_beam 99 = .ok (.getfield 148, 3) := by decide +kernel
theorem dX2_beam_102 : decode cX2_beam 102 = .ok (.lmul, 1) := by decide +kernel
theorem dX2_beam_103 : decode cX2_beam 103 = .ok (.aload_n 0, 1) := by decide +kernel
theorem dX2_beam_104 : decode cX2_beam 104 = .ok (.getfield 31, 3) := by decide +kernel
theorem dX2_beam_107 : decode cX2_beam 107 = .ok (.getfield 148, 3) := by decide +kernel
theorem dX2_beam_110 : decode cX2_beam 110 = .ok (.lmul, 1) := by decide +kernel
theorem dX2_beam_111 : decode cX2_beam 111 = .ok (.ldc2_w 168, 3) := by decide +kernel
theorem dX2_beam_114 : decode cX2_beam 114 = .ok (.aload_n 0, 1) := by decide +kernel
theorem dX2_beam_115 : decode cX2_beam 115 = .ok (.getfield 31, 3) := by decide +kernel
theorem dX2_beam_118 : decode cX2_beam 118 = .ok (.getfield 101, 3) := by decide +kernel
theorem dX2_beam_121 : decode cX2_beam 121 = .ok (.lmul, 1) := by decide +kernel
theorem dX2_beam_122 : decode cX2_beam 122 = .ok (.aload_n 0, 1) := by decide +kernel
theorem dX2_beam_123 : decode cX2_beam 123 = .ok (.getfield 31, 3) := by decide +kernel
theorem dX2_beam_126 : decode cX2_beam 126 = .ok (.getfield 101, 3) := by decide +kernel
theorem dX2_beam_129 : decode cX2_beam 129 = .ok (.lmul, 1) := by decide +kernel
theorem dX2_beam_130 : decode cX2_beam 130 = .ok (.lload 7, 2) := by decide +kernel
theorem dX2_beam_132 : decode cX2_beam 132 = .ok (.lload 7, 2) := by decide +kernel
theorem dX2_beam_134 : decode cX2_beam 134 = .ok (.lmul, 1) := by decide +kernel
theorem dX2_beam_135 : decode cX2_beam 135 = .ok (.lsub, 1) := by decide +kernel
theorem dX2_beam_136 : decode cX2_beam 136 = .ok (.iload 5, 2) := by decide +kernel
theorem dX2_beam_138 : decode cX2_beam 138 = .ok (.invokestatic 105, 3) := by decide +kernel
theorem dX2_beam_141 : decode cX2_beam 141 = .ok (.lreturn, 1) := by decide +kernel
theorem dX2_beam_142 : decode cX2_beam 142 = .ok (.aload_n 0, 1) := by decide +kernel
theorem dX2_beam_143 : decode cX2_beam 143 = .ok (.getfield 31, 3) := by decide +kernel
theorem dX2_beam_146 : decode cX2_beam 146 = .ok (.getfield 151, 3) := by decide +kernel
theorem dX2_beam_149 : decode cX2_beam 149 = .ok (.aload_n 0, 1) := by decide +kernel
theorem dX2_beam_150 : decode cX2_beam 150 = .ok (.getfield 31, 3) := by decide +kernel
theorem dX2_beam_153 : decode cX2_beam 153 = .ok (.getfield 170, 3) := by decide +kernel
theorem dX2_beam_156 : decode cX2_beam 156 = .ok (.lsub, 1) := by decide +kernel
theorem dX2_beam_157 : decode cX2_beam 157 = .ok (.ldc2_w 173, 3) := by decide +kernel
theorem dX2_beam_160 : decode cX2_beam 160 = .ok (.aload_n 0, 1) := by decide +kernel
theorem dX2_beam_161 : decode cX2_beam 161 = .ok (.getfield 31, 3) := by decide +kernel
theorem dX2_beam_164 : decode cX2_beam 164 = .ok (.getfield 148, 3) := by decide +kernel
theorem dX2_beam_167 : decode cX2_beam 167 = .ok (.lmul, 1) := by decide +kernel
theorem dX2_beam_168 : decode cX2_beam 168 = .ok (.iload 5, 2) := by decide +kernel
theorem dX2_beam_170 : decode cX2_beam 170 = .ok (.invokestatic 105, 3) := by decide +kernel
theorem dX2_beam_173 : decode cX2_beam 173 = .ok (.lreturn, 1) := by decide +kernel
set_option maxRecDepth 20000 in
theorem ggX2_waist_X2_rowAt : GoodIn wsX2_waist wsX2_rowAt := goodIn_r _ [12, 13, 14, 77, 78, 79, 80, 81, 82] (by decide +kernel) (by decide +kernel)
set_option maxRecDepth 20000 in
theorem gX2_waist_X2_rowAt : GoodIn wsX2_waist (wsV RX2 39 RX2 yX2_rowAt wsX2_rowAt) := goodIn_app (goodIn_of _ (by decide +kernel)) ggX2_waist_X2_rowAt
set_option maxRecDepth 20000 in
theorem ggX2_waist_X2_isEither : GoodIn wsX2_waist wsX2_isEither := goodIn_r _ [17] (by decide +kernel) (by decide +kernel)
set_option maxRecDepth 20000 in
theorem gX2_waist_X2_isEither : GoodIn wsX2_waist (va_wsS RX2 88 yX2_isEither wsX2_isEither) := goodIn_app (goodIn_of _ (by decide +kernel)) ggX2_waist_X2_isEither
set_option maxRecDepth 20000 in
theorem ggX2_waist_X1_leadThrough : GoodIn wsX2_waist wsX1_leadThrough := goodIn_r _ [22, 23, 24, 25, 26, 21, 27, 28, 29, 30, 31, 32, 33, 34, 35, 36, 37, 38, 39, 40, 41, 42, 43, 44, 45, 46, 47, 48, 49, 50, 51, 52, 53, 54, 55, 56, 57, 58, 59, 60, 61, 62, 63, 64, 65, 90, 91, 92, 93, 83, 84, 85, 86, 87, 88, 89] (by decide +kernel) (by decide +kernel)
set_option maxRecDepth 20000 in
theorem gX2_waist_X1_leadThrough : GoodIn wsX2_waist (wsV RX2 93 RX1 yX1_leadThrough wsX1_leadThrough) := goodIn_app (goodIn_of _ (by decide +kernel)) ggX2_waist_X1_leadThrough
set_option maxRecDepth 20000 in
theorem ggX2_waist_X1_isBetween : GoodIn wsX2_waist wsX1_isBetween := goodIn_r _ [69, 70, 39, 71, 72, 73, 74, 21, 75, 33, 36, 83, 84, 85, 86, 87, 88, 89] (by decide +kernel) (by decide +kernel)
set_option maxRecDepth 20000 in
theorem gX2_waist_X1_isBetween : GoodIn wsX2_waist (wsV RX2 164 RX1 yX1_isBetween wsX1_isBetween) := goodIn_app (goodIn_of _ (by decide +kernel)) ggX2_waist_X1_isBetween
set_option maxRecDepth 20000 in
theorem ggX2_waist_X1_lead : GoodIn wsX2_waist wsX1_lead := goodIn_r _ [27, 28, 23, 29, 30, 31, 21, 32, 33, 34, 35, 36, 37, 38, 39, 40, 41, 42, 43, 44, 45, 46, 47, 48, 49, 50, 51, 52, 53, 54, 55, 56, 57, 58, 59, 60, 61, 62, 63, 64, 65, 90, 91, 92, 93, 83, 84, 85, 86, 87, 88, 89] (by decide +kernel) (by decide +kernel)
set_option maxRecDepth 20000 in
theorem gX2_waist_X1_lead : GoodIn wsX2_waist (wsV RX2 112 RX1 yX1_lead wsX1_lead) := goodIn_app (goodIn_of _ (by decide +kernel)) ggX2_waist_X1_lead
theorem dX2_waist_0 : decode cX2_waist 0 = .ok (.aload_n 0, 1) := by decide +kernel
theorem dX2_waist_1 : decode cX2_waist 1 = .ok (.iload_n 1, 1) := by decide +kernel
theorem dX2_waist_2 : decode cX2_waist 2 = .ok (.invokevirtual 39, 3) := by decide +kernel
theorem dX2_waist_5 : decode cX2_waist 5 = .ok (.astore_n 3, 1) := by decide +kernel
theorem dX2_waist_6 : decode cX2_waist 6 = .ok (.aload_n 3, 1) := by decide +kernel
theorem dX2_waist_7 : decode cX2_waist 7 = .ok (.ifnull 10, 3) := by decide +kernel
theorem dX2_waist_10 : decode cX2_waist 10 = .ok (.iload_n 2, 1) := by decide +kernel
theorem dX2_waist_11 : decode cX2_waist 11 = .ok (.invokestatic 88, 3) := by decide +kernel
theorem dX2_waist_14 : decode cX2_waist 14 = .ok (.ifCond .ne 5, 3) := by decide +kernel
theorem dX2_waist_17 : decode cX2_waist 17 = .ok (.iconst (-1), 1) := by decide +kernel
theorem dX2_waist_18 : decode cX2_waist 18 = .ok (.ireturn, 1) := by decide +kernel
theorem dX2_waist_19 : decode cX2_waist 19 = .ok (.aload_n 0, 1) := by decide +kernel
theorem dX2_waist_20 : decode cX2_waist 20 = .ok (.getfield 31, 3) := by decide +kernel
theorem dX2_waist_23 : decode cX2_waist 23 = .ok (.aload_n 3, 1) := by decide +kernel
theorem dX2_waist_24 : decode cX2_waist 24 = .ok (.iload_n 2, 1) := by decide +kernel
theorem dX2_waist_25 : decode cX2_waist 25 = .ok (.invokevirtual 93, 3) := by decide +kernel
theorem dX2_waist_28 : decode cX2_waist 28 = .ok (.aload_n 0, 1) := by decide +kernel
theorem dX2_waist_29 : decode cX2_waist 29 = .ok (.getfield 31, 3) := by decide +kernel
theorem dX2_waist_32 : decode cX2_waist 32 = .ok (.invokevirtual 164, 3) := by decide +kernel
theorem dX2_waist_35 : decode cX2_waist 35 = .ok (.ifCond .ne 5, 3) := by decide +kernel
theorem dX2_waist_38 : decode cX2_waist 38 = .ok (.iconst (-1), 1) := by decide +kernel
theorem dX2_waist_39 : decode cX2_waist 39 = .ok (.ireturn, 1) := by decide +kernel
theorem dX2_waist_40 : decode cX2_waist 40 = .ok (.iconst 0, 1) := by decide +kernel
theorem dX2_waist_41 : decode cX2_waist 41 = .ok (.istore 4, 2) := by decide +kernel
theorem dX2_waist_43 : decode cX2_waist 43 = .ok (.aload_n 0, 1) := by decide +kernel
theorem dX2_waist_44 : decode cX2_waist 44 = .ok (.getfield 31, 3) := by decide +kernel
theorem dX2_waist_47 : decode cX2_waist 47 = .ok (.getfield 148, 3) := by decide +kernel
theorem dX2_waist_50 : decode cX2_waist 50 = .ok (.invokestatic 134, 3) := by decide +kernel
theorem dX2_waist_53 : decode cX2_waist 53 = .ok (.lstore 5, 2) := by decide +kernel
theorem dX2_waist_55 : decode cX2_waist 55 = .ok (.iconst 1, 1) := by decide +kernel
theorem dX2_waist_56 : decode cX2_waist 56 = .ok (.istore 7, 2) := by decide +kernel
theorem dX2_waist_58 : decode cX2_waist 58 = .ok (.iload 7, 2) := by decide +kernel
theorem dX2_waist_60 : decode cX2_waist 60 = .ok (.aload_n 3, 1) := by decide +kernel
theorem dX2_waist_61 : decode cX2_waist 61 = .ok (.getfield 43, 3) := by decide +kernel
theorem dX2_waist_64 : decode cX2_waist 64 = .ok (.if_icmp .ge 52, 3) := by decide +kernel
theorem dX2_waist_67 : decode cX2_waist 67 = .ok (.aload_n 0, 1) := by decide +kernel
theorem dX2_waist_68 : decode cX2_waist 68 = .ok (.getfield 31, 3) := by decide +kernel
theorem dX2_waist_71 : decode cX2_waist 71 = .ok (.aload_n 3, 1) := by decide +kernel
theorem dX2_waist_72 : decode cX2_waist 72 = .ok (.iload_n 2, 1) := by decide +kernel
theorem dX2_waist_73 : decode cX2_waist 73 = .ok (.iload 7, 2) := by decide +kernel
theorem dX2_waist_75 : decode cX2_waist 75 = .ok (.aload_n 3, 1) := by decide +kernel
theorem dX2_waist_76 : decode cX2_waist 76 = .ok (.getfield 43, 3) := by decide +kernel
theorem dX2_waist_79 : decode cX2_waist 79 = .ok (.invokevirtual 112, 3) := by decide +kernel
theorem dX2_waist_82 : decode cX2_waist 82 = .ok (.aload_n 0, 1) := by decide +kernel
theorem dX2_waist_83 : decode cX2_waist 83 = .ok (.getfield 31, 3) := by decide +kernel
theorem dX2_waist_86 : decode cX2_waist 86 = .ok (.getfield 148, 3) := by decide +kernel
theorem dX2_waist_89 : decode cX2_waist 89 = .ok (.invokestatic 134, 3) := by decide +kernel
theorem dX2_waist_92 : decode cX2_waist 92 = .ok (.lstore 8, 2) := by decide +kernel
theorem dX2_waist_94 : decode cX2_waist 94 = .ok (.lload 8, 2) := by decide +kernel
theorem dX2_waist_96 : decode cX2_waist 96 = .ok (.lload 5, 2) := by decide +kernel
theorem dX2_waist_98 : decode cX2_waist 98 = .ok (.lcmp, 1) := by decide +kernel
theorem dX2_waist_99 : decode cX2_waist 99 = .ok (.ifCond .ge 11, 3) := by decide +kernel
theorem dX2_waist_102 : decode cX2_waist 102 = .ok (.iload 7, 2) := by decide +kernel
theorem dX2_waist_104 : decode cX2_waist 104 = .ok (.istore 4, 2) := by decide +kernel
theorem dX2_waist_106 : decode cX2_waist 106 = .ok (.lload 8, 2) := by decide +kernel
theorem dX2_waist_108 : decode cX2_waist 108 = .ok (.lstore 5, 2) := by decide +kernel
theorem dX2_waist_110 : decode cX2_waist 110 = .ok (.iinc 7 1, 3) := by decide +kernel
theorem dX2_waist_113 : decode cX2_waist 113 = .ok (.goto (-55), 3) := by decide +kernel
theorem dX2_waist_116 : decode cX2_waist 116 = .ok (.iload 4, 2) := by decide +kernel
theorem dX2_waist_118 : decode cX2_waist 118 = .ok (.ireturn, 1) := by decide +kernel
set_option maxRecDepth 20000 in
theorem ggX2_axis_X2_rowAt : GoodIn wsX2_axis wsX2_rowAt := goodIn_r _ [16, 17, 18, 81, 82, 83, 84, 85, 86] (by decide +kernel) (by decide +kernel)
set_option maxRecDepth 20000 in
theorem gX2_axis_X2_rowAt : GoodIn wsX2_axis (wsV RX2 39 RX2 yX2_rowAt wsX2_rowAt) := goodIn_app (goodIn_of _ (by decide +kernel)) ggX2_axis_X2_rowAt
set_option maxRecDepth 20000 in
theorem ggX2_axis_X0_has : GoodIn wsX2_axis wsX0_has := goodIn_r _ [23, 24, 87, 88, 89, 90] (by decide +kernel) (by decide +kernel)
set_option maxRecDepth 20000 in
theorem gX2_axis_X0_has : GoodIn wsX2_axis (wsV RX2 58 RX0 yX0_has wsX0_has) := goodIn_app (goodIn_of _ (by decide +kernel)) ggX2_axis_X0_has
set_option maxRecDepth 20000 in
theorem ggX2_axis_X2_isEither : GoodIn wsX2_axis wsX2_isEither := goodIn_r _ [27] (by decide +kernel) (by decide +kernel)
set_option maxRecDepth 20000 in
theorem gX2_axis_X2_isEither : GoodIn wsX2_axis (va_wsS RX2 88 yX2_isEither wsX2_isEither) := goodIn_app (goodIn_of _ (by decide +kernel)) ggX2_axis_X2_isEither
set_option maxRecDepth 20000 in
theorem ggX2_axis_X1_lead : GoodIn wsX2_axis wsX1_lead := goodIn_r _ [32, 33, 34, 35, 36, 37, 31, 38, 39, 40, 41, 42, 43, 44, 45, 46, 20, 21, 22, 23, 24, 47, 48, 49, 50, 51, 52, 53, 54, 55, 56, 57, 58, 59, 60, 61, 62, 63, 64, 65, 66, 87, 88, 89, 90, 91, 92, 93, 94, 95, 96, 97] (by decide +kernel) (by decide +kernel)
set_option maxRecDepth 20000 in
theorem gX2_axis_X1_lead : GoodIn wsX2_axis (wsV RX2 112 RX1 yX1_lead wsX1_lead) := goodIn_app (goodIn_of _ (by decide +kernel)) ggX2_axis_X1_lead
set_option maxRecDepth 20000 in
theorem ggX2_axis_X1_sum : GoodIn wsX2_axis wsX1_sum := goodIn_r _ [70, 39, 42, 91, 92, 93, 94, 95, 96, 97] (by decide +kernel) (by decide +kernel)
set_option maxRecDepth 20000 in
theorem gX2_axis_X1_sum : GoodIn wsX2_axis (wsV RX2 157 RX1 yX1_sum wsX1_sum) := goodIn_app (goodIn_of _ (by decide +kernel)) ggX2_axis_X1_sum
set_option maxRecDepth 20000 in
theorem ggX2_axis_X2_told : GoodIn wsX2_axis wsX2_told := goodIn_r _ [73, 74, 75, 76, 77, 1, 78, 79, 15, 80] (by decide +kernel) (by decide +kernel)
set_option maxRecDepth 20000 in
theorem gX2_axis_X2_told : GoodIn wsX2_axis (va_wsS RX2 105 yX2_told wsX2_told) := goodIn_app (goodIn_of _ (by decide +kernel)) ggX2_axis_X2_told
theorem dX2_axis_0 : decode cX2_axis 0 = .ok (.aload_n 0, 1) := by decide +kernel
theorem dX2_axis_1 : decode cX2_axis 1 = .ok (.iload_n 1, 1) := by decide +kernel
theorem dX2_axis_2 : decode cX2_axis 2 = .ok (.invokevirtual 39, 3) := by decide +kernel
theorem dX2_axis_5 : decode cX2_axis 5 = .ok (.astore 6, 2) := by decide +kernel
theorem dX2_axis_7 : decode cX2_axis 7 = .ok (.aload 6, 2) := by decide +kernel
theorem dX2_axis_9 : decode cX2_axis 9 = .ok (.ifnull 35, 3) := by decide +kernel
theorem dX2_axis_12 : decode cX2_axis 12 = .ok (.aload 6, 2) := by decide +kernel
theorem dX2_axis_14 : decode cX2_axis 14 = .ok (.iload_n 3, 1) := by decide +kernel
theorem dX2_axis_15 : decode cX2_axis 15 = .ok (.invokevirtual 58, 3) := by decide +kernel
theorem dX2_axis_18 : decode cX2_axis 18 = .ok (.ifCond .eq 26, 3) := by decide +kernel
theorem dX2_axis_21 : decode cX2_axis 21 = .ok (.iload_n 2, 1) := by decide +kernel
theorem dX2_axis_22 : decode cX2_axis 22 = .ok (.invokestatic 88, 3) := by decide +kernel
theorem dX2_axis_25 : decode cX2_axis 25 = .ok (.ifCond .eq 19, 3) := by decide +kernel
theorem dX2_axis_28 : decode cX2_axis 28 = .ok (.iload 4, 2) := by decide +kernel
theorem dX2_axis_30 : decode cX2_axis 30 = .ok (.invokestatic 88, 3) := by decide +kernel
theorem dX2_axis_33 : decode cX2_axis 33 = .ok (.ifCond .eq 11, 3) := by decide +kernel
theorem dX2_axis_36 : decode cX2_axis 36 = .ok (.iload 5, 2) := by decide +kernel
theorem dX2_axis_38 : decode cX2_axis 38 = .ok (.invokestatic 88, 3) := by decide +kernel
theorem dX2_axis_41 : decode cX2_axis 41 = .ok (.ifCond .ne 7, 3) := by decide +kernel
theorem dX2_axis_44 : decode cX2_axis 44 = .ok (.ldc2_w 91, 3) := by decide +kernel
theorem dX2_axis_47 : decode cX2_axis 47 = .ok (.lreturn, 1) := by decide +kernel
theorem dX2_axis_48 : decode cX2_axis 48 = .ok (.aload_n 0, 1) := by decide +kernel
theorem dX2_axis_49 : decode cX2_axis 49 = .ok (.getfield 31, 3) := by decide +kernel
theorem dX2_axis_52 : decode cX2_axis 52 = .ok (.aload 6, 2) := by decide +kernel
theorem dX2_axis_54 : decode cX2_axis 54 = .ok (.iload_n 2, 1) := by decide +kernel
theorem dX2_axis_55 : decode cX2_axis 55 = .ok (.iload_n 3, 1) := by decide +kernel
theorem dX2_axis_56 : decode cX2_axis 56 = .ok (.aload 6, 2) := by decide +kernel
theorem dX2_axis_58 : decode cX2_axis 58 = .ok (.getfield 43, 3) := by decide +kernel
theorem dX2_axis_61 : decode cX2_axis 61 = .ok (.invokevirtual 112, 3) := by decide +kernel
theorem dX2_axis_64 : decode cX2_axis 64 = .ok (.aload_n 0, 1) := by decide +kernel
theorem dX2_axis_65 : decode cX2_axis 65 = .ok (.getfield 31, 3) := by decide +kernel
theorem dX2_axis_68 : decode cX2_axis 68 = .ok (.getfield 101, 3) := by decide +kernel
theorem dX2_axis_71 : decode cX2_axis 71 = .ok (.ldc2_w 173, 3) := by decide +kernel
theorem dX2_axis_74 : decode cX2_axis 74 = .ok (.aload_n 0, 1) := by decide +kernel
theorem dX2_axis_75 : decode cX2_axis 75 = .ok (.getfield 31, 3) := by decide +kernel
theorem dX2_axis_78 : decode cX2_axis 78 = .ok (.getfield 101, 3) := by decide +kernel
theorem dX2_axis_81 : decode cX2_axis 81 = .ok (.lmul, 1) := by decide +kernel
theorem dX2_axis_82 : decode cX2_axis 82 = .ok (.aload_n 0, 1) := by decide +kernel
theorem dX2_axis_83 : decode cX2_axis 83 = .ok (.getfield 31, 3) := by decide +kernel
theorem dX2_axis_86 : decode cX2_axis 86 = .ok (.invokevirtual 157, 3) := by decide +kernel
theorem dX2_axis_89 : decode cX2_axis 89 = .ok (.lsub, 1) := by decide +kernel
theorem dX2_axis_90 : decode cX2_axis 90 = .ok (.lmul, 1) := by decide +kernel
theorem dX2_axis_91 : decode cX2_axis 91 = .ok (.lstore 7, 2) := by decide +kernel
theorem dX2_axis_93 : decode cX2_axis 93 = .ok (.iload 4, 2) := by decide +kernel
theorem dX2_axis_95 : decode cX2_axis 95 = .ok (.ifCond .ne 45, 3) := by decide +kernel
theorem dX2_axis_98 : decode cX2_axis 98 = .ok (.aload_n 0, 1) := by decide +kernel
theorem dX2_axis_99 : decode cX2_axis 99 = .ok (.getfield 31, 3) := by decide +kernel
theorem dX2_axis_102 : decode cX2_axis 102 = .ok (.getfield 101, 3) := by decide +kernel
theorem dX2_axis_105 : decode cX2_axis 105 = .ok (.aload_n 0, 1) := by decide +kernel
theorem dX2_axis_106 : decode cX2_axis 106 = .ok (.getfield 31, 3) := by decide +kernel
theorem dX2_axis_109 : decode cX2_axis 109 = .ok (.getfield 151, 3) := by decide +kernel
theorem dX2_axis_112 : decode cX2_axis 112 = .ok (.lsub, 1) := by decide +kernel
theorem dX2_axis_113 : decode cX2_axis 113 = .ok (.aload_n 0, 1) := by decide +kernel
theorem dX2_axis_114 : decode cX2_axis 114 = .ok (.getfield 31, 3) := by decide +kernel
theorem dX2_axis_117 : decode cX2_axis 117 = .ok (.getfield 175, 3) := by decide +kernel
theorem dX2_axis_120 : decode cX2_axis 120 = .ok (.lmul, 1) := by decide +kernel
theorem dX2_axis_121 : decode cX2_axis 121 = .ok (.aload_n 0, 1) := by decide +kernel
theorem dX2_axis_122 : decode cX2_axis 122 = .ok (.getfield 31, 3) := by decide +kernel
theorem dX2_axis_125 : decode cX2_axis 125 = .ok (.getfield 148, 3) := by decide +kernel
theorem dX2_axis_128 : decode cX2_axis 128 = .ok (.aload_n 0, 1) := by decide +kernel
theorem dX2_axis_129 : decode cX2_axis 129 = .ok (.getfield 31, 3) := by decide +kernel
theorem dX2_axis_132 : decode cX2_axis 132 = .ok (.getfield 178, 3) := by decide +kernel
theorem dX2_axis_135 : decode cX2_axis 135 = .ok (.lmul, 1) := by decide +kernel
theorem dX2_axis_136 : decode cX2_axis 136 = .ok (.ladd, 1) := by decide +kernel
theorem dX2_axis_137 : decode cX2_axis 137 = .ok (.goto 42, 3) := by decide +kernel
theorem dX2_axis_140 : decode cX2_axis 140 = .ok (.aload_n 0, 1) := by decide +kernel
theorem dX2_axis_141 : decode cX2_axis 141 = .ok (.getfield 31, 3) := by decide +kernel
theorem dX2_axis_144 : decode cX2_axis 144 = .ok (.getfield 181, 3) := by decide +kernel
theorem dX2_axis_147 : decode cX2_axis 147 = .ok (.aload_n 0, 1) := by decide +kernel
theorem dX2_axis_148 : decode cX2_axis 148 = .ok (.getfield 31, 3) := by decide +kernel
theorem dX2_axis_151 : decode cX2_axis 151 = .ok (.getfield 175, 3) := by decide +kernel
theorem dX2_axis_154 : decode cX2_axis 154 = .ok (.lmul, 1) := by decide +kernel
theorem dX2_axis_155 : decode cX2_axis 155 = .ok (.aload_n 0, 1) := by decide +kernel
theorem dX2_axis_156 : decode cX2_axis 156 = .ok (.getfield 31, 3) := by decide +kernel
theorem dX2_axis_159 : decode cX2_axis 159 = .ok (.getfield 101, 3) := by decide +kernel
theorem dX2_axis_162 : decode cX2_axis 162 = .ok (.aload_n 0, 1) := by decide +kernel
theorem dX2_axis_163 : decode cX2_axis 163 = .ok (.getfield 31, 3) := by decide +kernel
theorem dX2_axis_166 : decode cX2_axis 166 = .ok (.getfield 170, 3) := by decide +kernel
theorem dX2_axis_169 : decode cX2_axis 169 = .ok (.lsub, 1) := by decide +kernel
theorem dX2_axis_170 : decode cX2_axis 170 = .ok (.aload_n 0, 1) := by decide +kernel
theorem dX2_axis_171 : decode cX2_axis 171 = .ok (.getfield 31, 3) := by decide +kernel
theorem dX2_axis_174 : decode cX2_axis 174 = .ok (.getfield 178, 3) := by decide +kernel
theorem dX2_axis_177 : decode cX2_axis 177 = .ok (.lmul, 1) := by decide +kernel
theorem dX2_axis_178 : decode cX2_axis 178 = .ok (.ladd, 1) := by decide +kernel
theorem dX2_axis_179 : decode cX2_axis 179 = .ok (.lstore 9, 2) := by decide +kernel
theorem dX2_axis_181 : decode cX2_axis 181 = .ok (.lload 9, 2) := by decide +kernel
theorem dX2_axis_183 : decode cX2_axis 183 = .ok (.lload 7, 2) := by decide +kernel
theorem dX2_axis_185 : decode cX2_axis 185 = .ok (.iload 5, 2) := by decide +kernel
theorem dX2_axis_187 : decode cX2_axis 187 = .ok (.invokestatic 105, 3) := by decide +kernel
theorem dX2_axis_190 : decode cX2_axis 190 = .ok (.lreturn, 1) := by decide +kernel
set_option maxRecDepth 20000 in
theorem ggX2_span_X2_rowAt : GoodIn wsX2_span wsX2_rowAt := goodIn_r _ [6, 7, 8, 91, 92, 93, 94, 95, 96] (by decide +kernel) (by decide +kernel)
set_option maxRecDepth 20000 in
theorem gX2_span_X2_rowAt : GoodIn wsX2_span (wsV RX2 39 RX2 yX2_rowAt wsX2_rowAt) := goodIn_app (goodIn_of _ (by decide +kernel)) ggX2_span_X2_rowAt
set_option maxRecDepth 20000 in
theorem ggX2_span_X0_has : GoodIn wsX2_span wsX0_has := goodIn_r _ [13, 14, 87, 88, 89, 90] (by decide +kernel) (by decide +kernel)
set_option maxRecDepth 20000 in
theorem gX2_span_X0_has : GoodIn wsX2_span (wsV RX2 58 RX0 yX0_has wsX0_has) := goodIn_app (goodIn_of _ (by decide +kernel)) ggX2_span_X0_has
set_option maxRecDepth 20000 in
theorem ggX2_span_X2_holdsWith : GoodIn wsX2_span wsX2_holdsWith := goodIn_r _ [18, 19, 20, 21, 22, 5, 23, 24, 25, 26, 27, 28, 29, 30, 31, 32, 33, 34, 35, 36, 37, 38, 39, 40, 41, 42, 43, 44, 45, 46, 47, 48, 10, 11, 12, 13, 14, 49, 50, 51, 52, 53, 54, 55, 56, 57, 58, 59, 60, 61, 62, 63, 64, 65, 66, 67, 68, 69, 70, 71, 72, 73, 74, 75, 76, 77, 78, 79, 80, 81, 82, 83, 84, 85, 86, 87, 88, 89, 90, 91, 92, 93, 94, 95, 96, 97, 98, 99, 100, 101, 102, 103] (by decide +kernel) (by decide +kernel)
set_option maxRecDepth 20000 in
theorem gX2_span_X2_holdsWith : GoodIn wsX2_span (wsV RX2 184 RX2 yX2_holdsWith wsX2_holdsWith) := goodIn_app (goodIn_of _ (by decide +kernel)) ggX2_span_X2_holdsWith
theorem dX2_span_0 : decode cX2_span 0 = .ok (.aload_n 0, 1) := by decide +kernel
theorem dX2_span_1 : decode cX2_span 1 = .ok (.iload_n 1, 1) := by decide +kernel
theorem dX2_span_2 : decode cX2_span 2 = .ok (.invokevirtual 39, 3) := by decide +kernel
theorem dX2_span_5 : decode cX2_span 5 = .ok (.astore 4, 2) := by decide +kernel
theorem dX2_span_7 : decode cX2_span 7 = .ok (.aload 4, 2) := by decide +kernel
theorem dX2_span_9 : decode cX2_span 9 = .ok (.ifnull 16, 3) := by decide +kernel
theorem dX2_span_12 : decode cX2_span 12 = .ok (.aload 4, 2) := by decide +kernel
theorem dX2_span_14 : decode cX2_span 14 = .ok (.iload_n 2, 1) := by decide +kernel
theorem dX2_span_15 : decode cX2_span 15 = .ok (.invokevirtual 58, 3) := by decide +kernel
theorem dX2_span_18 : decode cX2_span 18 = .ok (.ifCond .eq 7, 3) := by decide +kernel
theorem dX2_span_21 : decode cX2_span 21 = .ok (.iload_n 3, 1) := by decide +kernel
theorem dX2_span_22 : decode cX2_span 22 = .ok (.ifCond .ge 5, 3) := by decide +kernel
theorem dX2_span_25 : decode cX2_span 25 = .ok (.iconst (-1), 1) := by decide +kernel
theorem dX2_span_26 : decode cX2_span 26 = .ok (.ireturn, 1) := by decide +kernel
theorem dX2_span_27 : decode cX2_span 27 = .ok (.aload 4, 2) := by decide +kernel
theorem dX2_span_29 : decode cX2_span 29 = .ok (.getfield 61, 3) := by decide +kernel
theorem dX2_span_32 : decode cX2_span 32 = .ok (.iload_n 2, 1) := by decide +kernel
theorem dX2_span_33 : decode cX2_span 33 = .ok (.iaload, 1) := by decide +kernel
theorem dX2_span_34 : decode cX2_span 34 = .ok (.ifCond .eq 6, 3) := by decide +kernel
theorem dX2_span_37 : decode cX2_span 37 = .ok (.bipush (-3), 2) := by decide +kernel
theorem dX2_span_39 : decode cX2_span 39 = .ok (.ireturn, 1) := by decide +kernel
theorem dX2_span_40 : decode cX2_span 40 = .ok (.iconst 0, 1) := by decide +kernel
theorem dX2_span_41 : decode cX2_span 41 = .ok (.istore 5, 2) := by decide +kernel
theorem dX2_span_43 : decode cX2_span 43 = .ok (.iconst 0, 1) := by decide +kernel
theorem dX2_span_44 : decode cX2_span 44 = .ok (.istore 6, 2) := by decide +kernel
theorem dX2_span_46 : decode cX2_span 46 = .ok (.iload 6, 2) := by decide +kernel
theorem dX2_span_48 : decode cX2_span 48 = .ok (.bipush 20, 2) := by decide +kernel
theorem dX2_span_50 : decode cX2_span 50 = .ok (.if_icmp .gt 33, 3) := by decide +kernel
theorem dX2_span_53 : decode cX2_span 53 = .ok (.aload_n 0, 1) := by decide +kernel
theorem dX2_span_54 : decode cX2_span 54 = .ok (.aload 4, 2) := by decide +kernel
theorem dX2_span_56 : decode cX2_span 56 = .ok (.iload_n 2, 1) := by decide +kernel
theorem dX2_span_57 : decode cX2_span 57 = .ok (.iload 6, 2) := by decide +kernel
theorem dX2_span_59 : decode cX2_span 59 = .ok (.invokevirtual 184, 3) := by decide +kernel
theorem dX2_span_62 : decode cX2_span 62 = .ok (.ifCond .eq 15, 3) := by decide +kernel
theorem dX2_span_65 : decode cX2_span 65 = .ok (.iload 5, 2) := by decide +kernel
theorem dX2_span_67 : decode cX2_span 67 = .ok (.iload_n 3, 1) := by decide +kernel
theorem dX2_span_68 : decode cX2_span 68 = .ok (.if_icmp .ne 6, 3) := by decide +kernel
theorem dX2_span_71 : decode cX2_span 71 = .ok (.iload 6, 2) := by decide +kernel
theorem dX2_span_73 : decode cX2_span 73 = .ok (.ireturn, 1) := by decide +kernel
theorem dX2_span_74 : decode cX2_span 74 = .ok (.iinc 5 1, 3) := by decide +kernel
theorem dX2_span_77 : decode cX2_span 77 = .ok (.iinc 6 1, 3) := by decide +kernel
theorem dX2_span_80 : decode cX2_span 80 = .ok (.goto (-34), 3) := by decide +kernel
theorem dX2_span_83 : decode cX2_span 83 = .ok (.iconst (-1), 1) := by decide +kernel
theorem dX2_span_84 : decode cX2_span 84 = .ok (.ireturn, 1) := by decide +kernel
set_option maxRecDepth 20000 in
theorem ggX2_own_X2_isStrength : GoodIn wsX2_own wsX2_isStrength := goodIn_r _ [6] (by decide +kernel) (by decide +kernel)
set_option maxRecDepth 20000 in
theorem gX2_own_X2_isStrength : GoodIn wsX2_own (va_wsS RX2 188 yX2_isStrength wsX2_isStrength) := goodIn_app (goodIn_of _ (by decide +kernel)) ggX2_own_X2_isStrength
theorem dX2_own_0 : decode cX2_own 0 = .ok (.iload_n 1, 1) := by decide +kernel
theorem dX2_own_1 : decode cX2_own 1 = .ok (.invokestatic 188, 3) := by decide +kernel
theorem dX2_own_4 : decode cX2_own 4 = .ok (.ifCond .ne 6, 3) := by decide +kernel
theorem dX2_own_7 : decode cX2_own 7 = .ok (.bipush (-2), 2) := by decide +kernel
theorem dX2_own_9 : decode cX2_own 9 = .ok (.ireturn, 1) := by decide +kernel
theorem dX2_own_10 : decode cX2_own 10 = .ok (.aload_n 0, 1) := by decide +kernel
theorem dX2_own_11 : decode cX2_own 11 = .ok (.getfield 25, 3) := by decide +kernel
theorem dX2_own_14 : decode cX2_own 14 = .ok (.bipush 12, 2) := by decide +kernel
theorem dX2_own_16 : decode cX2_own 16 = .ok (.if_icmp .lt 6, 3) := by decide +kernel
theorem dX2_own_19 : decode cX2_own 19 = .ok (.bipush (-4), 2) := by decide +kernel
theorem dX2_own_21 : decode cX2_own 21 = .ok (.ireturn, 1) := by decide +kernel
theorem dX2_own_22 : decode cX2_own 22 = .ok (.aload_n 0, 1) := by decide +kernel
theorem dX2_own_23 : decode cX2_own 23 = .ok (.getfield 21, 3) := by decide +kernel
theorem dX2_own_26 : decode cX2_own 26 = .ok (.aload_n 0, 1) := by decide +kernel
theorem dX2_own_27 : decode cX2_own 27 = .ok (.getfield 25, 3) := by decide +kernel
theorem dX2_own_30 : decode cX2_own 30 = .ok (.iload_n 1, 1) := by decide +kernel
theorem dX2_own_31 : decode cX2_own 31 = .ok (.iastore, 1) := by decide +kernel
theorem dX2_own_32 : decode cX2_own 32 = .ok (.aload_n 0, 1) := by decide +kernel
theorem dX2_own_33 : decode cX2_own 33 = .ok (.dup, 1) := by decide +kernel
theorem dX2_own_34 : decode cX2_own 34 = .ok (.getfield 25, 3) := by decide +kernel
theorem dX2_own_37 : decode cX2_own 37 = .ok (.iconst 1, 1) := by decide +kernel
theorem dX2_own_38 : decode cX2_own 38 = .ok (.iadd, 1) := by decide +kernel
theorem dX2_own_39 : decode cX2_own 39 = .ok (.putfield 25, 3) := by decide +kernel
theorem dX2_own_42 : decode cX2_own 42 = .ok (.aload_n 0, 1) := by decide +kernel
theorem dX2_own_43 : decode cX2_own 43 = .ok (.getfield 25, 3) := by decide +kernel
theorem dX2_own_46 : decode cX2_own 46 = .ok (.ireturn, 1) := by decide +kernel
set_option maxRecDepth 20000 in
theorem ggX2_fit_X2_rowAt : GoodIn wsX2_fit wsX2_rowAt := goodIn_r _ [8, 9, 10, 93, 94, 95, 96, 97, 98] (by decide +kernel) (by decide +kernel)
set_option maxRecDepth 20000 in
theorem gX2_fit_X2_rowAt : GoodIn wsX2_fit (wsV RX2 39 RX2 yX2_rowAt wsX2_rowAt) := goodIn_app (goodIn_of _ (by decide +kernel)) ggX2_fit_X2_rowAt
set_option maxRecDepth 20000 in
theorem ggX2_fit_X0_has : GoodIn wsX2_fit wsX0_has := goodIn_r _ [15, 16, 89, 90, 91, 92] (by decide +kernel) (by decide +kernel)
set_option maxRecDepth 20000 in
theorem gX2_fit_X0_has : GoodIn wsX2_fit (wsV RX2 58 RX0 yX0_has wsX0_has) := goodIn_app (goodIn_of _ (by decide +kernel)) ggX2_fit_X0_has
set_option maxRecDepth 20000 in
theorem ggX2_fit_X2_holdsWith : GoodIn wsX2_fit wsX2_holdsWith := goodIn_r _ [20, 21, 22, 23, 24, 7, 25, 26, 27, 28, 29, 30, 31, 32, 33, 34, 35, 36, 37, 38, 39, 40, 41, 42, 43, 44, 45, 46, 47, 48, 49, 50, 12, 13, 14, 15, 16, 51, 52, 53, 54, 55, 56, 57, 58, 59, 60, 61, 62, 63, 64, 65, 66, 67, 68, 69, 70, 71, 72, 73, 74, 75, 76, 77, 78, 79, 80, 81, 82, 83, 84, 85, 86, 87, 88, 89, 90, 91, 92, 93, 94, 95, 96, 97, 98, 99, 100, 101, 102, 103, 104, 105] (by decide +kernel) (by decide +kernel)
set_option maxRecDepth 20000 in
theorem gX2_fit_X2_holdsWith : GoodIn wsX2_fit (wsV RX2 184 RX2 yX2_holdsWith wsX2_holdsWith) := goodIn_app (goodIn_of _ (by decide +kernel)) ggX2_fit_X2_holdsWith
theorem dX2_fit_0 : decode cX2_fit 0 = .ok (.aload_n 0, 1) := by decide +kernel
theorem dX2_fit_1 : decode cX2_fit 1 = .ok (.iload_n 1, 1) := by decide +kernel
theorem dX2_fit_2 : decode cX2_fit 2 = .ok (.invokevirtual 39, 3) := by decide +kernel
theorem dX2_fit_5 : decode cX2_fit 5 = .ok (.astore_n 3, 1) := by decide +kernel
theorem dX2_fit_6 : decode cX2_fit 6 = .ok (.aload_n 3, 1) := by decide +kernel
theorem dX2_fit_7 : decode cX2_fit 7 = .ok (.ifnull 11, 3) := by decide +kernel
theorem dX2_fit_10 : decode cX2_fit 10 = .ok (.aload_n 3, 1) := by decide +kernel
theorem dX2_fit_11 : decode cX2_fit 11 = .ok (.iload_n 2, 1) := by decide +kernel
theorem dX2_fit_12 : decode cX2_fit 12 = .ok (.invokevirtual 58, 3) := by decide +kernel
theorem dX2_fit_15 : decode cX2_fit 15 = .ok (.ifCond .ne 5, 3) := by decide +kernel
theorem dX2_fit_18 : decode cX2_fit 18 = .ok (.iconst (-1), 1) := by decide +kernel
theorem dX2_fit_19 : decode cX2_fit 19 = .ok (.ireturn, 1) := by decide +kernel
theorem dX2_fit_20 : decode cX2_fit 20 = .ok (.aload_n 3, 1) := by decide +kernel
theorem dX2_fit_21 : decode cX2_fit 21 = .ok (.getfield 61, 3) := by decide +kernel
theorem dX2_fit_24 : decode cX2_fit 24 = .ok (.iload_n 2, 1) := by decide +kernel
theorem dX2_fit_25 : decode cX2_fit 25 = .ok (.iaload, 1) := by decide +kernel
theorem dX2_fit_26 : decode cX2_fit 26 = .ok (.iconst 1, 1) := by decide +kernel
theorem dX2_fit_27 : decode cX2_fit 27 = .ok (.if_icmp .eq 6, 3) := by decide +kernel
theorem dX2_fit_30 : decode cX2_fit 30 = .ok (.bipush (-3), 2) := by decide +kernel
theorem dX2_fit_32 : decode cX2_fit 32 = .ok (.ireturn, 1) := by decide +kernel
theorem dX2_fit_33 : decode cX2_fit 33 = .ok (.iconst 0, 1) := by decide +kernel
theorem dX2_fit_34 : decode cX2_fit 34 = .ok (.istore 4, 2) := by decide +kernel
theorem dX2_fit_36 : decode cX2_fit 36 = .ok (.iload 4, 2) := by decide +kernel
theorem dX2_fit_38 : decode cX2_fit 38 = .ok (.aload_n 0, 1) := by decide +kernel
theorem dX2_fit_39 : decode cX2_fit 39 = .ok (.getfield 25, 3) := by decide +kernel
theorem dX2_fit_42 : decode cX2_fit 42 = .ok (.if_icmp .ge 28, 3) := by decide +kernel
theorem dX2_fit_45 : decode cX2_fit 45 = .ok (.aload_n 0, 1) := by decide +kernel
theorem dX2_fit_46 : decode cX2_fit 46 = .ok (.aload_n 3, 1) := by decide +kernel
theorem dX2_fit_47 : decode cX2_fit 47 = .ok (.iload_n 2, 1) := by decide +kernel
theorem dX2_fit_48 : decode cX2_fit 48 = .ok (.aload_n 0, 1) := by decide +kernel
theorem dX2_fit_49 : decode cX2_fit 49 = .ok (.getfield 21, 3) := by decide +kernel
theorem dX2_fit_52 : decode cX2_fit 52 = .ok (.iload 4, 2) := by decide +kernel
theorem dX2_fit_54 : decode cX2_fit 54 = .ok (.iaload, 1) := by decide +kernel
theorem dX2_fit_55 : decode cX2_fit 55 = .ok (.invokevirtual 184, 3) := by decide +kernel
theorem dX2_fit_58 : decode cX2_fit 58 = .ok (.ifCond .eq 6, 3) := by decide +kernel
theorem dX2_fit_61 : decode cX2_fit 61 = .ok (.iload 4, 2) := by decide +kernel
theorem dX2_fit_63 : decode cX2_fit 63 = .ok (.ireturn, 1) := by decide +kernel
theorem dX2_fit_64 : decode cX2_fit 64 = .ok (.iinc 4 1, 3) := by decide +kernel
theorem dX2_fit_67 : decode cX2_fit 67 = .ok (.goto (-31), 3) := by decide +kernel
theorem dX2_fit_70 : decode cX2_fit 70 = .ok (.iconst (-1), 1) := by decide +kernel
theorem dX2_fit_71 : decode cX2_fit 71 = .ok (.ireturn, 1) := by decide +kernel
set_option maxRecDepth 20000 in
theorem ggX2_swap_X2_rowAt : GoodIn wsX2_swap wsX2_rowAt := goodIn_r _ [8, 9, 10, 26, 27, 28, 29, 30, 31] (by decide +kernel) (by decide +kernel)
set_option maxRecDepth 20000 in
theorem gX2_swap_X2_rowAt : GoodIn wsX2_swap (wsV RX2 39 RX2 yX2_rowAt wsX2_rowAt) := goodIn_app (goodIn_of _ (by decide +kernel)) ggX2_swap_X2_rowAt
set_option maxRecDepth 20000 in
theorem ggX2_swap_X0_has : GoodIn wsX2_swap wsX0_has := goodIn_r _ [15, 16, 22, 23, 24, 25] (by decide +kernel) (by decide +kernel)
set_option maxRecDepth 20000 in
theorem gX2_swap_X0_has : GoodIn wsX2_swap (wsV RX2 58 RX0 yX0_has wsX0_has) := goodIn_app (goodIn_of _ (by decide +kernel)) ggX2_swap_X0_has
set_option maxRecDepth 20000 in
theorem ggX2_swap_X2_isPlace : GoodIn wsX2_swap wsX2_isPlace := goodIn_r _ [20, 21, 26, 27, 28, 29, 30, 31] (by decide +kernel) (by decide +kernel)
set_option maxRecDepth 20000 in
theorem gX2_swap_X2_isPlace : GoodIn wsX2_swap (wsV RX2 191 RX2 yX2_isPlace wsX2_isPlace) := goodIn_app (goodIn_of _ (by decide +kernel)) ggX2_swap_X2_isPlace
theorem dX2_swap_0 : decode cX2_swap 0 = .ok (.aload_n 0, 1) := by decide +kernel
theorem dX2_swap_1 : decode cX2_swap 1 = .ok (.iload_n 1, 1) := by decide +kernel
theorem dX2_swap_2 : decode cX2_swap 2 = .ok (.invokevirtual 39, 3) := by decide +kernel
theorem dX2_swap_5 : decode cX2_swap 5 = .ok (.astore 4, 2) := by decide +kernel
theorem dX2_swap_7 : decode cX2_swap 7 = .ok (.aload 4, 2) := by decide +kernel
theorem dX2_swap_9 : decode cX2_swap 9 = .ok (.ifnull 20, 3) := by decide +kernel
theorem dX2_swap_12 : decode cX2_swap 12 = .ok (.aload 4, 2) := by decide +kernel
theorem dX2_swap_14 : decode cX2_swap 14 = .ok (.iload_n 2, 1) := by decide +kernel
theorem dX2_swap_15 : decode cX2_swap 15 = .ok (.invokevirtual 58, 3) := by decide +kernel
theorem dX2_swap_18 : decode cX2_swap 18 = .ok (.ifCond .eq 11, 3) := by decide +kernel
theorem dX2_swap_21 : decode cX2_swap 21 = .ok (.aload_n 0, 1) := by decide +kernel
theorem dX2_swap_22 : decode cX2_swap 22 = .ok (.iload_n 3, 1) := by decide +kernel
theorem dX2_swap_23 : decode cX2_swap 23 = .ok (.invokevirtual 191, 3) := by decide +kernel
theorem dX2_swap_26 : decode cX2_swap 26 = .ok (.ifCond .ne 5, 3) := by decide +kernel
theorem dX2_swap_29 : decode cX2_swap 29 = .ok (.iconst (-1), 1) := by decide +kernel
theorem dX2_swap_30 : decode cX2_swap 30 = .ok (.ireturn, 1) := by decide +kernel
theorem dX2_swap_31 : decode cX2_swap 31 = .ok (.aload 4, 2) := by decide +kernel
theorem dX2_swap_33 : decode cX2_swap 33 = .ok (.getfield 61, 3) := by decide +kernel
theorem dX2_swap_36 : decode cX2_swap 36 = .ok (.iload_n 2, 1) := by decide +kernel
theorem dX2_swap_37 : decode cX2_swap 37 = .ok (.iaload, 1) := by decide +kernel
theorem dX2_swap_38 : decode cX2_swap 38 = .ok (.iconst 1, 1) := by decide +kernel
theorem dX2_swap_39 : decode cX2_swap 39 = .ok (.if_icmp .eq 6, 3) := by decide +kernel
theorem dX2_swap_42 : decode cX2_swap 42 = .ok (.bipush (-3), 2) := by decide +kernel
theorem dX2_swap_44 : decode cX2_swap 44 = .ok (.ireturn, 1) := by decide +kernel
theorem dX2_swap_45 : decode cX2_swap 45 = .ok (.aload 4, 2) := by decide +kernel
theorem dX2_swap_47 : decode cX2_swap 47 = .ok (.getfield 68, 3) := by decide +kernel
theorem dX2_swap_50 : decode cX2_swap 50 = .ok (.iload_n 2, 1) := by decide +kernel
theorem dX2_swap_51 : decode cX2_swap 51 = .ok (.iaload, 1) := by decide +kernel
theorem dX2_swap_52 : decode cX2_swap 52 = .ok (.istore 5, 2) := by decide +kernel
theorem dX2_swap_54 : decode cX2_swap 54 = .ok (.aload 4, 2) := by decide +kernel
theorem dX2_swap_56 : decode cX2_swap 56 = .ok (.getfield 68, 3) := by decide +kernel
theorem dX2_swap_59 : decode cX2_swap 59 = .ok (.iload_n 2, 1) := by decide +kernel
theorem dX2_swap_60 : decode cX2_swap 60 = .ok (.aload_n 0, 1) := by decide +kernel
theorem dX2_swap_61 : decode cX2_swap 61 = .ok (.getfield 21, 3) := by decide +kernel
theorem dX2_swap_64 : decode cX2_swap 64 = .ok (.iload_n 3, 1) := by decide +kernel
theorem dX2_swap_65 : decode cX2_swap 65 = .ok (.iaload, 1) := by decide +kernel
theorem dX2_swap_66 : decode cX2_swap 66 = .ok (.iastore, 1) := by decide +kernel
theorem dX2_swap_67 : decode cX2_swap 67 = .ok (.aload_n 0, 1) := by decide +kernel
theorem dX2_swap_68 : decode cX2_swap 68 = .ok (.getfield 21, 3) := by decide +kernel
theorem dX2_swap_71 : decode cX2_swap 71 = .ok (.iload_n 3, 1) := by decide +kernel
theorem dX2_swap_72 : decode cX2_swap 72 = .ok (.iload 5, 2) := by decide +kernel
theorem dX2_swap_74 : decode cX2_swap 74 = .ok (.iastore, 1) := by decide +kernel
theorem dX2_swap_75 : decode cX2_swap 75 = .ok (.iload 5, 2) := by decide +kernel
theorem dX2_swap_77 : decode cX2_swap 77 = .ok (.ireturn, 1) := by decide +kernel
set_option maxRecDepth 20000 in
theorem ggX2_count_X2_partsOfAll : GoodIn wsX2_count wsX2_partsOfAll := goodIn_r _ [7, 8, 9, 86, 87, 88, 89, 90, 91, 92, 93, 94, 95] (by decide +kernel) (by decide +kernel)
set_option maxRecDepth 20000 in
theorem gX2_count_X2_partsOfAll : GoodIn wsX2_count (wsV RX2 194 RX2 yX2_partsOfAll wsX2_partsOfAll) := goodIn_app (goodIn_of _ (by decide +kernel)) ggX2_count_X2_partsOfAll
set_option maxRecDepth 20000 in
theorem ggX2_count_X2_holdingRows : GoodIn wsX2_count wsX2_holdingRows := goodIn_r _ [13, 8, 14, 15, 16, 6, 17, 18, 19, 20, 21, 22, 23, 24, 25, 26, 27, 28, 29, 30, 31, 32, 33, 34, 35, 36, 37, 38, 39, 40, 41, 42, 43, 44, 45, 46, 47, 48, 49, 50, 51, 52, 53, 54, 55, 56, 57, 58, 59, 60, 61, 62, 63, 64, 65, 66, 67, 68, 69, 70, 71, 72, 73, 74, 75, 76, 77, 78, 79, 80, 81, 82, 83, 84, 85, 86, 87, 88, 89, 90, 91, 92, 93, 94, 95, 96, 97, 98, 99, 100, 101, 102] (by decide +kernel) (by decide +kernel)
set_option maxRecDepth 20000 in
theorem gX2_count_X2_holdingRows : GoodIn wsX2_count (wsV RX2 197 RX2 yX2_holdingRows wsX2_holdingRows) := goodIn_app (goodIn_of _ (by decide +kernel)) ggX2_count_X2_holdingRows
theorem dX2_count_0 : decode cX2_count 0 = .ok (.iload_n 1, 1) := by decide +kernel
theorem dX2_count_1 : decode cX2_count 1 = .ok (.tableswitch 51 0 3 #[31, 36, 41, 46], 31) := by decide +kernel
theorem dX2_count_32 : decode cX2_count 32 = .ok (.aload_n 0, 1) := by decide +kernel
theorem dX2_count_33 : decode cX2_count 33 = .ok (.getfield 17, 3) := by decide +kernel
theorem dX2_count_36 : decode cX2_count 36 = .ok (.ireturn, 1) := by decide +kernel
theorem dX2_count_37 : decode cX2_count 37 = .ok (.aload_n 0, 1) := by decide +kernel
theorem dX2_count_38 : decode cX2_count 38 = .ok (.invokevirtual 194, 3) := by decide +kernel
theorem dX2_count_41 : decode cX2_count 41 = .ok (.ireturn, 1) := by decide +kernel
theorem dX2_count_42 : decode cX2_count 42 = .ok (.aload_n 0, 1) := by decide +kernel
theorem dX2_count_43 : decode cX2_count 43 = .ok (.getfield 25, 3) := by decide +kernel
theorem dX2_count_46 : decode cX2_count 46 = .ok (.ireturn, 1) := by decide +kernel
theorem dX2_count_47 : decode cX2_count 47 = .ok (.aload_n 0, 1) := by decide +kernel
theorem dX2_count_48 : decode cX2_count 48 = .ok (.invokevirtual 197, 3) := by decide +kernel
theorem dX2_count_51 : decode cX2_count 51 = .ok (.ireturn, 1) := by decide +kernel
theorem dX2_count_52 : decode cX2_count 52 = .ok (.iconst (-1), 1) := by decide +kernel
theorem dX2_count_53 : decode cX2_count 53 = .ok (.ireturn, 1) := by decide +kernel
set_option maxRecDepth 20000 in
theorem ggX2_drawer_X2_isPlace : GoodIn wsX2_drawer wsX2_isPlace := goodIn_r _ [6, 7, 8, 9, 10, 11, 12, 13] (by decide +kernel) (by decide +kernel)
set_option maxRecDepth 20000 in
theorem gX2_drawer_X2_isPlace : GoodIn wsX2_drawer (wsV RX2 191 RX2 yX2_isPlace wsX2_isPlace) := goodIn_app (goodIn_of _ (by decide +kernel)) ggX2_drawer_X2_isPlace
theorem dX2_drawer_0 : decode cX2_drawer 0 = .ok (.aload_n 0, 1) := by decide +kernel
theorem dX2_drawer_1 : decode cX2_drawer 1 = .ok (.iload_n 1, 1) := by decide +kernel
theorem dX2_drawer_2 : decode cX2_drawer 2 = .ok (.invokevirtual 191, 3) := by decide +kernel
theorem dX2_drawer_5 : decode cX2_drawer 5 = .ok (.ifCond .eq 12, 3) := by decide +kernel
theorem dX2_drawer_8 : decode cX2_drawer 8 = .ok (.aload_n 0, 1) := by decide +kernel
theorem dX2_drawer_9 : decode cX2_drawer 9 = .ok (.getfield 21, 3) := by decide +kernel
theorem dX2_drawer_12 : decode cX2_drawer 12 = .ok (.iload_n 1, 1) := by decide +kernel
theorem dX2_drawer_13 : decode cX2_drawer 13 = .ok (.iaload, 1) := by decide +kernel
theorem dX2_drawer_14 : decode cX2_drawer 14 = .ok (.goto 4, 3) := by decide +kernel
theorem dX2_drawer_17 : decode cX2_drawer 17 = .ok (.iconst 0, 1) := by decide +kernel
theorem dX2_drawer_18 : decode cX2_drawer 18 = .ok (.ireturn, 1) := by decide +kernel
theorem dX2_rowAt_0 : decode cX2_rowAt 0 = .ok (.iload_n 1, 1) := by decide +kernel
theorem dX2_rowAt_1 : decode cX2_rowAt 1 = .ok (.ifCond .lt 20, 3) := by decide +kernel
theorem dX2_rowAt_4 : decode cX2_rowAt 4 = .ok (.iload_n 1, 1) := by decide +kernel
theorem dX2_rowAt_5 : decode cX2_rowAt 5 = .ok (.aload_n 0, 1) := by decide +kernel
theorem dX2_rowAt_6 : decode cX2_rowAt 6 = .ok (.getfield 17, 3) := by decide +kernel
theorem dX2_rowAt_9 : decode cX2_rowAt 9 = .ok (.if_icmp .ge 12, 3) := by decide +kernel
theorem dX2_rowAt_12 : decode cX2_rowAt 12 = .ok (.aload_n 0, 1) := by decide +kernel
theorem dX2_rowAt_13 : decode cX2_rowAt 13 = .ok (.getfield 13, 3) := by decide +kernel
theorem dX2_rowAt_16 : decode cX2_rowAt 16 = .ok (.iload_n 1, 1) := by decide +kernel
theorem dX2_rowAt_17 : decode cX2_rowAt 17 = .ok (.aaload, 1) := by decide +kernel
theorem dX2_rowAt_18 : decode cX2_rowAt 18 = .ok (.goto 4, 3) := by decide +kernel
theorem dX2_rowAt_21 : decode cX2_rowAt 21 = .ok (.aconst_null, 1) := by decide +kernel
theorem dX2_rowAt_22 : decode cX2_rowAt 22 = .ok (.areturn, 1) := by decide +kernel
theorem dX2_isPlace_0 : decode cX2_isPlace 0 = .ok (.iload_n 1, 1) := by decide +kernel
theorem dX2_isPlace_1 : decode cX2_isPlace 1 = .ok (.ifCond .lt 15, 3) := by decide +kernel
theorem dX2_isPlace_4 : decode cX2_isPlace 4 = .ok (.iload_n 1, 1) := by decide +kernel
theorem dX2_isPlace_5 : decode cX2_isPlace 5 = .ok (.aload_n 0, 1) := by decide +kernel
theorem dX2_isPlace_6 : decode cX2_isPlace 6 = .ok (.getfield 25, 3) := by decide +kernel
theorem dX2_isPlace_9 : decode cX2_isPlace 9 = .ok (.if_icmp .ge 7, 3) := by decide +kernel
theorem dX2_isPlace_12 : decode cX2_isPlace 12 = .ok (.iconst 1, 1) := by decide +kernel
theorem dX2_isPlace_13 : decode cX2_isPlace 13 = .ok (.goto 4, 3) := by decide +kernel
theorem dX2_isPlace_16 : decode cX2_isPlace 16 = .ok (.iconst 0, 1) := by decide +kernel
theorem dX2_isPlace_17 : decode cX2_isPlace 17 = .ok (.ireturn, 1) := by decide +kernel
theorem dX2_partsOfAll_0 : decode cX2_partsOfAll 0 = .ok (.iconst 0, 1) := by decide +kernel
theorem dX2_partsOfAll_1 : decode cX2_partsOfAll 1 = .ok (.istore_n 1, 1) := by decide +kernel
theorem dX2_partsOfAll_2 : decode cX2_partsOfAll 2 = .ok (.aload_n 0, 1) := by decide +kernel
theorem dX2_partsOfAll_3 : decode cX2_partsOfAll 3 = .ok (.getfield 13, 3) := by decide +kernel
theorem dX2_partsOfAll_6 : decode cX2_partsOfAll 6 = .ok (.astore_n 2, 1) := by decide +kernel
theorem dX2_partsOfAll_7 : decode cX2_partsOfAll 7 = .ok (.aload_n 2, 1) := by decide +kernel
theorem dX2_partsOfAll_8 : decode cX2_partsOfAll 8 = .ok (.arraylength, 1) := by decide +kernel
theorem dX2_partsOfAll_9 : decode cX2_partsOfAll 9 = .ok (.istore_n 3, 1) := by decide +kernel
theorem dX2_partsOfAll_10 : decode cX2_partsOfAll 10 = .ok (.iconst 0, 1) := by decide +kernel
theorem dX2_partsOfAll_11 : decode cX2_partsOfAll 11 = .ok (.istore 4, 2) := by decide +kernel
theorem dX2_partsOfAll_13 : decode cX2_partsOfAll 13 = .ok (.iload 4, 2) := by decide +kernel
theorem dX2_partsOfAll_15 : decode cX2_partsOfAll 15 = .ok (.iload_n 3, 1) := by decide +kernel
theorem dX2_partsOfAll_16 : decode cX2_partsOfAll 16 = .ok (.if_icmp .ge 28, 3) := by decide +kernel
theorem dX2_partsOfAll_19 : decode cX2_partsOfAll 19 = .ok (.aload_n 2, 1) := by decide +kernel
theorem dX2_partsOfAll_20 : decode cX2_partsOfAll 20 = .ok (.iload 4, 2) := by decide +kernel
theorem dX2_partsOfAll_22 : decode cX2_partsOfAll 22 = .ok (.aaload, 1) := by decide +kernel
theorem dX2_partsOfAll_23 : decode cX2_partsOfAll 23 = .ok (.astore 5, 2) := by decide +kernel
theorem dX2_partsOfAll_25 : decode cX2_partsOfAll 25 = .ok (.aload 5, 2) := by decide +kernel
theorem dX2_partsOfAll_27 : decode cX2_partsOfAll 27 = .ok (.ifnull 11, 3) := by decide +kernel
theorem dX2_partsOfAll_30 : decode cX2_partsOfAll 30 = .ok (.iload_n 1, 1) := by decide +kernel
theorem dX2_partsOfAll_31 : decode cX2_partsOfAll 31 = .ok (.aload 5, 2) := by decide +kernel
theorem dX2_partsOfAll_33 : decode cX2_partsOfAll 33 = .ok (.getfield 43, 3) := by decide +kernel
theorem dX2_partsOfAll_36 : decode cX2_partsOfAll 36 = .ok (.iadd, 1) := by decide +kernel
theorem dX2_partsOfAll_37 : decode cX2_partsOfAll 37 = .ok (.istore_n 1, 1) := by decide +kernel
theorem dX2_partsOfAll_38 : decode cX2_partsOfAll 38 = .ok (.iinc 4 1, 3) := by decide +kernel
theorem dX2_partsOfAll_41 : decode cX2_partsOfAll 41 = .ok (.goto (-28), 3) := by decide +kernel
theorem dX2_partsOfAll_44 : decode cX2_partsOfAll 44 = .ok (.iload_n 1, 1) := by decide +kernel
theorem dX2_partsOfAll_45 : decode cX2_partsOfAll 45 = .ok (.ireturn, 1) := by decide +kernel
set_option maxRecDepth 20000 in
theorem ggX2_holdingRows_X2_holdsBothWays : GoodIn wsX2_holdingRows wsX2_holdsBothWays := goodIn_r _ [6, 7, 8, 9, 10, 11, 12, 13, 14, 15, 16, 17, 18, 19, 20, 21, 22, 23, 24, 25, 26, 27, 28, 29, 30, 31, 32, 33, 34, 35, 36, 37, 38, 39, 40, 41, 42, 43, 44, 45, 46, 47, 48, 49, 50, 51, 52, 53, 54, 55, 56, 57, 58, 59, 60, 61, 62, 63, 64, 65, 66, 67, 68, 69, 70, 71, 72, 73, 74, 75, 76, 77, 78, 79, 80, 81, 82, 83, 84, 85, 86, 87, 88, 89, 90, 91] (by decide +kernel) (by decide +kernel)
set_option maxRecDepth 20000 in
theorem gX2_holdingRows_X2_holdsBothWays : GoodIn wsX2_holdingRows (wsV RX2 200 RX2 yX2_holdsBothWays wsX2_holdsBothWays) := goodIn_app (goodIn_of _ (by decide +kernel)) ggX2_holdingRows_X2_holdsBothWays
theorem dX2_holdingRows_0 : decode cX2_holdingRows 0 = .ok (.iconst 0, 1) := by decide +kernel
theorem dX2_holdingRows_1 : decode cX2_holdingRows 1 = .ok (.istore_n 1, 1) := by decide +kernel
theorem dX2_holdingRows_2 : decode cX2_holdingRows 2 = .ok (.aload_n 0, 1) := by decide +kernel
theorem dX2_holdingRows_3 : decode cX2_holdingRows 3 = .ok (.getfield 13, 3) := by decide +kernel
theorem dX2_holdingRows_6 : decode cX2_holdingRows 6 = .ok (.astore_n 2, 1) := by decide +kernel
theorem dX2_holdingRows_7 : decode cX2_holdingRows 7 = .ok (.aload_n 2, 1) := by decide +kernel
theorem dX2_holdingRows_8 : decode cX2_holdingRows 8 = .ok (.arraylength, 1) := by decide +kernel
theorem dX2_holdingRows_9 : decode cX2_holdingRows 9 = .ok (.istore_n 3, 1) := by decide +kernel
theorem dX2_holdingRows_10 : decode cX2_holdingRows 10 = .ok (.iconst 0, 1) := by decide +kernel
theorem dX2_holdingRows_11 : decode cX2_holdingRows 11 = .ok (.istore 4, 2) := by decide +kernel
theorem dX2_holdingRows_13 : decode cX2_holdingRows 13 = .ok (.iload 4, 2) := by decide +kernel
theorem dX2_holdingRows_15 : decode cX2_holdingRows 15 = .ok (.iload_n 3, 1) := by decide +kernel
theorem dX2_holdingRows_16 : decode cX2_holdingRows 16 = .ok (.if_icmp .ge 32, 3) := by decide +kernel
theorem dX2_holdingRows_19 : decode cX2_holdingRows 19 = .ok (.aload_n 2, 1) := by decide +kernel
theorem dX2_holdingRows_20 : decode cX2_holdingRows 20 = .ok (.iload 4, 2) := by decide +kernel
theorem dX2_holdingRows_22 : decode cX2_holdingRows 22 = .ok (.aaload, 1) := by decide +kernel
theorem dX2_holdingRows_23 : decode cX2_holdingRows 23 = .ok (.astore 5, 2) := by decide +kernel
theorem dX2_holdingRows_25 : decode cX2_holdingRows 25 = .ok (.aload 5, 2) := by decide +kernel
theorem dX2_holdingRows_27 : decode cX2_holdingRows 27 = .ok (.ifnull 15, 3) := by decide +kernel
theorem dX2_holdingRows_30 : decode cX2_holdingRows 30 = .ok (.aload_n 0, 1) := by decide +kernel
theorem dX2_holdingRows_31 : decode cX2_holdingRows 31 = .ok (.aload 5, 2) := by decide +kernel
theorem dX2_holdingRows_33 : decode cX2_holdingRows 33 = .ok (.invokevirtual 200, 3) := by decide +kernel
theorem dX2_holdingRows_36 : decode cX2_holdingRows 36 = .ok (.ifCond .eq 6, 3) := by decide +kernel
theorem dX2_holdingRows_39 : decode cX2_holdingRows 39 = .ok (.iinc 1 1, 3) := by decide +kernel
theorem dX2_holdingRows_42 : decode cX2_holdingRows 42 = .ok (.iinc 4 1, 3) := by decide +kernel
theorem dX2_holdingRows_45 : decode cX2_holdingRows 45 = .ok (.goto (-32), 3) := by decide +kernel
theorem dX2_holdingRows_48 : decode cX2_holdingRows 48 = .ok (.iload_n 1, 1) := by decide +kernel
theorem dX2_holdingRows_49 : decode cX2_holdingRows 49 = .ok (.ireturn, 1) := by decide +kernel
set_option maxRecDepth 20000 in
theorem ggX2_holdsBothWays_X1_leadThrough : GoodIn wsX2_holdsBothWays wsX1_leadThrough := goodIn_r _ [7, 8, 9, 10, 11, 6, 12, 13, 14, 15, 16, 17, 18, 19, 20, 21, 22, 23, 24, 25, 26, 27, 28, 29, 30, 31, 32, 33, 34, 35, 36, 37, 38, 39, 40, 41, 42, 43, 44, 45, 46, 47, 48, 49, 50, 75, 76, 77, 78, 79, 80, 81, 82, 83, 84, 85] (by decide +kernel) (by decide +kernel)
set_option maxRecDepth 20000 in
theorem gX2_holdsBothWays_X1_leadThrough : GoodIn wsX2_holdsBothWays (wsV RX2 93 RX1 yX1_leadThrough wsX1_leadThrough) := goodIn_app (goodIn_of _ (by decide +kernel)) ggX2_holdsBothWays_X1_leadThrough
set_option maxRecDepth 20000 in
theorem ggX2_holdsBothWays_X1_manner : GoodIn wsX2_holdsBothWays wsX1_manner := goodIn_r _ [54, 24, 55, 56, 57, 58, 59, 6, 60, 61, 62, 63, 64, 18, 21, 65, 66, 67, 68, 19, 20, 79, 80, 81, 82, 83, 84, 85] (by decide +kernel) (by decide +kernel)
set_option maxRecDepth 20000 in
theorem gX2_holdsBothWays_X1_manner : GoodIn wsX2_holdsBothWays (wsV RX2 154 RX1 yX1_manner wsX1_manner) := goodIn_app (goodIn_of _ (by decide +kernel)) ggX2_holdsBothWays_X1_manner
theorem dX2_holdsBothWays_0 : decode cX2_holdsBothWays 0 = .ok (.aload_n 0, 1) := by decide +kernel
theorem dX2_holdsBothWays_1 : decode cX2_holdsBothWays 1 = .ok (.getfield 31, 3) := by decide +kernel
theorem dX2_holdsBothWays_4 : decode cX2_holdsBothWays 4 = .ok (.aload_n 1, 1) := by decide +kernel
theorem dX2_holdsBothWays_5 : decode cX2_holdsBothWays 5 = .ok (.iconst 0, 1) := by decide +kernel
theorem dX2_holdsBothWays_6 : decode cX2_holdsBothWays 6 = .ok (.invokevirtual 93, 3) := by decide +kernel
theorem dX2_holdsBothWays_9 : decode cX2_holdsBothWays 9 = .ok (.aload_n 0, 1) := by decide +kernel
theorem dX2_holdsBothWays_10 : decode cX2_holdsBothWays 10 = .ok (.getfield 35, 3) := by decide +kernel
theorem dX2_holdsBothWays_13 : decode cX2_holdsBothWays 13 = .ok (.aload_n 1, 1) := by decide +kernel
theorem dX2_holdsBothWays_14 : decode cX2_holdsBothWays 14 = .ok (.iconst 1, 1) := by decide +kernel
theorem dX2_holdsBothWays_15 : decode cX2_holdsBothWays 15 = .ok (.invokevirtual 93, 3) := by decide +kernel
theorem dX2_holdsBothWays_18 : decode cX2_holdsBothWays 18 = .ok (.aload_n 0, 1) := by decide +kernel
theorem dX2_holdsBothWays_19 : decode cX2_holdsBothWays 19 = .ok (.getfield 31, 3) := by decide +kernel
theorem dX2_holdsBothWays_22 : decode cX2_holdsBothWays 22 = .ok (.invokevirtual 154, 3) := by decide +kernel
theorem dX2_holdsBothWays_25 : decode cX2_holdsBothWays 25 = .ok (.ifCond .ne 17, 3) := by decide +kernel
theorem dX2_holdsBothWays_28 : decode cX2_holdsBothWays 28 = .ok (.aload_n 0, 1) := by decide +kernel
theorem dX2_holdsBothWays_29 : decode cX2_holdsBothWays 29 = .ok (.getfield 35, 3) := by decide +kernel
theorem dX2_holdsBothWays_32 : decode cX2_holdsBothWays 32 = .ok (.invokevirtual 154, 3) := by decide +kernel
theorem dX2_holdsBothWays_35 : decode cX2_holdsBothWays 35 = .ok (.ifCond .ne 7, 3) := by decide +kernel
theorem dX2_holdsBothWays_38 : decode cX2_holdsBothWays 38 = .ok (.iconst 1, 1) := by decide +kernel
theorem dX2_holdsBothWays_39 : decode cX2_holdsBothWays 39 = .ok (.goto 4, 3) := by decide +kernel
theorem dX2_holdsBothWays_42 : decode cX2_holdsBothWays 42 = .ok (.iconst 0, 1) := by decide +kernel
theorem dX2_holdsBothWays_43 : decode cX2_holdsBothWays 43 = .ok (.ireturn, 1) := by decide +kernel
set_option maxRecDepth 20000 in
theorem ggX2_holdsWith_X2_holdsBothWays : GoodIn wsX2_holdsWith wsX2_holdsBothWays := goodIn_r _ [6, 7, 8, 9, 10, 11, 12, 13, 14, 15, 16, 17, 18, 19, 20, 21, 22, 23, 24, 25, 26, 27, 28, 29, 30, 31, 32, 33, 34, 35, 36, 37, 38, 39, 40, 41, 42, 43, 44, 45, 46, 47, 48, 49, 50, 51, 52, 53, 54, 55, 56, 57, 58, 59, 60, 61, 62, 63, 64, 65, 66, 67, 68, 69, 70, 71, 72, 73, 74, 79, 80, 81, 82, 83, 84, 75, 76, 77, 78, 85, 86, 87, 88, 89, 90, 91] (by decide +kernel) (by decide +kernel)
set_option maxRecDepth 20000 in
theorem gX2_holdsWith_X2_holdsBothWays : GoodIn wsX2_holdsWith (wsV RX2 200 RX2 yX2_holdsBothWays wsX2_holdsBothWays) := goodIn_app (goodIn_of _ (by decide +kernel)) ggX2_holdsWith_X2_holdsBothWays
theorem dX2_holdsWith_0 : decode cX2_holdsWith 0 = .ok (.aload_n 1, 1) := by decide +kernel
theorem dX2_holdsWith_1 : decode cX2_holdsWith 1 = .ok (.getfield 68, 3) := by decide +kernel
theorem dX2_holdsWith_4 : decode cX2_holdsWith 4 = .ok (.iload_n 2, 1) := by decide +kernel
theorem dX2_holdsWith_5 : decode cX2_holdsWith 5 = .ok (.iaload, 1) := by decide +kernel
theorem dX2_holdsWith_6 : decode cX2_holdsWith 6 = .ok (.istore 4, 2) := by decide +kernel
theorem dX2_holdsWith_8 : decode cX2_holdsWith 8 = .ok (.aload_n 1, 1) := by decide +kernel
theorem dX2_holdsWith_9 : decode cX2_holdsWith 9 = .ok (.getfield 68, 3) := by decide +kernel
theorem dX2_holdsWith_12 : decode cX2_holdsWith 12 = .ok (.iload_n 2, 1) := by decide +kernel
theorem dX2_holdsWith_13 : decode cX2_holdsWith 13 = .ok (.iload_n 3, 1) := by decide +kernel
theorem dX2_holdsWith_14 : decode cX2_holdsWith 14 = .ok (.iastore, 1) := by decide +kernel
theorem dX2_holdsWith_15 : decode cX2_holdsWith 15 = .ok (.aload_n 0, 1) := by decide +kernel
theorem dX2_holdsWith_16 : decode cX2_holdsWith 16 = .ok (.aload_n 1, 1) := by decide +kernel
theorem dX2_holdsWith_17 : decode cX2_holdsWith 17 = .ok (.invokevirtual 200, 3) := by decide +kernel
theorem dX2_holdsWith_20 : decode cX2_holdsWith 20 = .ok (.istore 5, 2) := by decide +kernel
theorem dX2_holdsWith_22 : decode cX2_holdsWith 22 = .ok (.aload_n 1, 1) := by decide +kernel
theorem dX2_holdsWith_23 : decode cX2_holdsWith 23 = .ok (.getfield 68, 3) := by decide +kernel
theorem dX2_holdsWith_26 : decode cX2_holdsWith 26 = .ok (.iload_n 2, 1) := by decide +kernel
theorem dX2_holdsWith_27 : decode cX2_holdsWith 27 = .ok (.iload 4, 2) := by decide +kernel
theorem dX2_holdsWith_29 : decode cX2_holdsWith 29 = .ok (.iastore, 1) := by decide +kernel
theorem dX2_holdsWith_30 : decode cX2_holdsWith 30 = .ok (.iload 5, 2) := by decide +kernel
theorem dX2_holdsWith_32 : decode cX2_holdsWith 32 = .ok (.ireturn, 1) := by decide +kernel
theorem dX2_isEither_0 : decode cX2_isEither 0 = .ok (.iload_n 0, 1) := by decide +kernel
theorem dX2_isEither_1 : decode cX2_isEither 1 = .ok (.ifCond .eq 8, 3) := by decide +kernel
theorem dX2_isEither_4 : decode cX2_isEither 4 = .ok (.iload_n 0, 1) := by decide +kernel
theorem dX2_isEither_5 : decode cX2_isEither 5 = .ok (.iconst 1, 1) := by decide +kernel
theorem dX2_isEither_6 : decode cX2_isEither 6 = .ok (.if_icmp .ne 7, 3) := by decide +kernel
theorem dX2_isEither_9 : decode cX2_isEither 9 = .ok (.iconst 1, 1) := by decide +kernel
theorem dX2_isEither_10 : decode cX2_isEither 10 = .ok (.goto 4, 3) := by decide +kernel
theorem dX2_isEither_13 : decode cX2_isEither 13 = .ok (.iconst 0, 1) := by decide +kernel
theorem dX2_isEither_14 : decode cX2_isEither 14 = .ok (.ireturn, 1) := by decide +kernel
theorem dX2_isNear_0 : decode cX2_isNear 0 = .ok (.iload_n 0, 1) := by decide +kernel
theorem dX2_isNear_1 : decode cX2_isNear 1 = .ok (.sipush (-1000), 3) := by decide +kernel
theorem dX2_isNear_4 : decode cX2_isNear 4 = .ok (.if_icmp .lt 14, 3) := by decide +kernel
theorem dX2_isNear_7 : decode cX2_isNear 7 = .ok (.iload_n 0, 1) := by decide +kernel
theorem dX2_isNear_8 : decode cX2_isNear 8 = .ok (.sipush 1000, 3) := by decide +kernel
theorem dX2_isNear_11 : decode cX2_isNear 11 = .ok (.if_icmp .gt 7, 3) := by decide +kernel
theorem dX2_isNear_14 : decode cX2_isNear 14 = .ok (.iconst 1, 1) := by decide +kernel
theorem dX2_isNear_15 : decode cX2_isNear 15 = .ok (.goto 4, 3) := by decide +kernel
theorem dX2_isNear_18 : decode cX2_isNear 18 = .ok (.iconst 0, 1) := by decide +kernel
theorem dX2_isNear_19 : decode cX2_isNear 19 = .ok (.ireturn, 1) := by decide +kernel
theorem dX2_isStrength_0 : decode cX2_isStrength 0 = .ok (.iload_n 0, 1) := by decide +kernel
theorem dX2_isStrength_1 : decode cX2_isStrength 1 = .ok (.bipush (-9), 2) := by decide +kernel
theorem dX2_isStrength_3 : decode cX2_isStrength 3 = .ok (.if_icmp .lt 17, 3) := by decide +kernel
theorem dX2_isStrength_6 : decode cX2_isStrength 6 = .ok (.iload_n 0, 1) := by decide +kernel
theorem dX2_isStrength_7 : decode cX2_isStrength 7 = .ok (.bipush 9, 2) := by decide +kernel
theorem dX2_isStrength_9 : decode cX2_isStrength 9 = .ok (.if_icmp .gt 11, 3) := by decide +kernel
theorem dX2_isStrength_12 : decode cX2_isStrength 12 = .ok (.iload_n 0, 1) := by decide +kernel
theorem dX2_isStrength_13 : decode cX2_isStrength 13 = .ok (.ifCond .eq 7, 3) := by decide +kernel
theorem dX2_isStrength_16 : decode cX2_isStrength 16 = .ok (.iconst 1, 1) := by decide +kernel
theorem dX2_isStrength_17 : decode cX2_isStrength 17 = .ok (.goto 4, 3) := by decide +kernel
theorem dX2_isStrength_20 : decode cX2_isStrength 20 = .ok (.iconst 0, 1) := by decide +kernel
theorem dX2_isStrength_21 : decode cX2_isStrength 21 = .ok (.ireturn, 1) := by decide +kernel
set_option maxRecDepth 20000 in
theorem ggX2_isPart_X2_isStrength : GoodIn wsX2_isPart wsX2_isStrength := goodIn_r _ [4] (by decide +kernel) (by decide +kernel)
set_option maxRecDepth 20000 in
theorem gX2_isPart_X2_isStrength : GoodIn wsX2_isPart (va_wsS RX2 188 yX2_isStrength wsX2_isStrength) := goodIn_app (goodIn_of _ (by decide +kernel)) ggX2_isPart_X2_isStrength
theorem dX2_isPart_0 : decode cX2_isPart 0 = .ok (.iload_n 0, 1) := by decide +kernel
theorem dX2_isPart_1 : decode cX2_isPart 1 = .ok (.iconst 2, 1) := by decide +kernel
theorem dX2_isPart_2 : decode cX2_isPart 2 = .ok (.if_icmp .ne 23, 3) := by decide +kernel
theorem dX2_isPart_5 : decode cX2_isPart 5 = .ok (.iload_n 1, 1) := by decide +kernel
theorem dX2_isPart_6 : decode cX2_isPart 6 = .ok (.invokestatic 188, 3) := by decide +kernel
theorem dX2_isPart_9 : decode cX2_isPart 9 = .ok (.ifCond .eq 14, 3) := by decide +kernel
theorem dX2_isPart_12 : decode cX2_isPart 12 = .ok (.iload_n 2, 1) := by decide +kernel
theorem dX2_isPart_13 : decode cX2_isPart 13 = .ok (.invokestatic 188, 3) := by decide +kernel
theorem dX2_isPart_16 : decode cX2_isPart 16 = .ok (.ifCond .eq 7, 3) := by decide +kernel
theorem dX2_isPart_19 : decode cX2_isPart 19 = .ok (.iconst 1, 1) := by decide +kernel
theorem dX2_isPart_20 : decode cX2_isPart 20 = .ok (.goto 4, 3) := by decide +kernel
theorem dX2_isPart_23 : decode cX2_isPart 23 = .ok (.iconst 0, 1) := by decide +kernel
theorem dX2_isPart_24 : decode cX2_isPart 24 = .ok (.ireturn, 1) := by decide +kernel
theorem dX2_isPart_25 : decode cX2_isPart 25 = .ok (.iload_n 2, 1) := by decide +kernel
theorem dX2_isPart_26 : decode cX2_isPart 26 = .ok (.ifCond .eq 5, 3) := by decide +kernel
theorem dX2_isPart_29 : decode cX2_isPart 29 = .ok (.iconst 0, 1) := by decide +kernel
theorem dX2_isPart_30 : decode cX2_isPart 30 = .ok (.ireturn, 1) := by decide +kernel
theorem dX2_isPart_31 : decode cX2_isPart 31 = .ok (.iload_n 0, 1) := by decide +kernel
theorem dX2_isPart_32 : decode cX2_isPart 32 = .ok (.tableswitch 92 0 4 #[36, 52, 92, 57, 74], 36) := by decide +kernel
theorem dX2_isPart_68 : decode cX2_isPart 68 = .ok (.iload_n 1, 1) := by decide +kernel
theorem dX2_isPart_69 : decode cX2_isPart 69 = .ok (.ifCond .lt 13, 3) := by decide +kernel
theorem dX2_isPart_72 : decode cX2_isPart 72 = .ok (.iload_n 1, 1) := by decide +kernel
theorem dX2_isPart_73 : decode cX2_isPart 73 = .ok (.bipush 20, 2) := by decide +kernel
theorem dX2_isPart_75 : decode cX2_isPart 75 = .ok (.if_icmp .gt 7, 3) := by decide +kernel
theorem dX2_isPart_78 : decode cX2_isPart 78 = .ok (.iconst 1, 1) := by decide +kernel
theorem dX2_isPart_79 : decode cX2_isPart 79 = .ok (.goto 4, 3) := by decide +kernel
theorem dX2_isPart_82 : decode cX2_isPart 82 = .ok (.iconst 0, 1) := by decide +kernel
theorem dX2_isPart_83 : decode cX2_isPart 83 = .ok (.ireturn, 1) := by decide +kernel
theorem dX2_isPart_84 : decode cX2_isPart 84 = .ok (.iload_n 1, 1) := by decide +kernel
theorem dX2_isPart_85 : decode cX2_isPart 85 = .ok (.invokestatic 188, 3) := by decide +kernel
theorem dX2_isPart_88 : decode cX2_isPart 88 = .ok (.ireturn, 1) := by decide +kernel
theorem dX2_isPart_89 : decode cX2_isPart 89 = .ok (.iload_n 1, 1) := by decide +kernel
theorem dX2_isPart_90 : decode cX2_isPart 90 = .ok (.bipush (-3), 2) := by decide +kernel
theorem dX2_isPart_92 : decode cX2_isPart 92 = .ok (.if_icmp .lt 12, 3) := by decide +kernel
theorem dX2_isPart_95 : decode cX2_isPart 95 = .ok (.iload_n 1, 1) := by decide +kernel
theorem dX2_isPart_96 : decode cX2_isPart 96 = .ok (.iconst 3, 1) := by decide +kernel
theorem dX2_isPart_97 : decode cX2_isPart 97 = .ok (.if_icmp .gt 7, 3) := by decide +kernel
theorem dX2_isPart_100 : decode cX2_isPart 100 = .ok (.iconst 1, 1) := by decide +kernel
theorem dX2_isPart_101 : decode cX2_isPart 101 = .ok (.goto 4, 3) := by decide +kernel
theorem dX2_isPart_104 : decode cX2_isPart 104 = .ok (.iconst 0, 1) := by decide +kernel
theorem dX2_isPart_105 : decode cX2_isPart 105 = .ok (.ireturn, 1) := by decide +kernel
theorem dX2_isPart_106 : decode cX2_isPart 106 = .ok (.iload_n 1, 1) := by decide +kernel
theorem dX2_isPart_107 : decode cX2_isPart 107 = .ok (.iconst 1, 1) := by decide +kernel
theorem dX2_isPart_108 : decode cX2_isPart 108 = .ok (.if_icmp .lt 14, 3) := by decide +kernel
theorem dX2_isPart_111 : decode cX2_isPart 111 = .ok (.iload_n 1, 1) := by decide +kernel
theorem dX2_isPart_112 : decode cX2_isPart 112 = .ok (.sipush 1000, 3) := by decide +kernel
theorem dX2_isPart_115 : decode cX2_isPart 115 = .ok (.if_icmp .gt 7, 3) := by decide +kernel
theorem dX2_isPart_118 : decode cX2_isPart 118 = .ok (.iconst 1, 1) := by decide +kernel
theorem dX2_isPart_119 : decode cX2_isPart 119 = .ok (.goto 4, 3) := by decide +kernel
theorem dX2_isPart_122 : decode cX2_isPart 122 = .ok (.iconst 0, 1) := by decide +kernel
theorem dX2_isPart_123 : decode cX2_isPart 123 = .ok (.ireturn, 1) := by decide +kernel
theorem dX2_isPart_124 : decode cX2_isPart 124 = .ok (.iconst 0, 1) := by decide +kernel
theorem dX2_isPart_125 : decode cX2_isPart 125 = .ok (.ireturn, 1) := by decide +kernel
set_option maxRecDepth 20000 in
theorem ggX2_told_X2_commonDivisor : GoodIn wsX2_told wsX2_commonDivisor := goodIn_r _ [9] (by decide +kernel) (by decide +kernel)
set_option maxRecDepth 20000 in
theorem gX2_told_X2_commonDivisor : GoodIn wsX2_told (va_wsS RX2 204 yX2_commonDivisor wsX2_commonDivisor) := goodIn_app (goodIn_of _ (by decide +kernel)) ggX2_told_X2_commonDivisor
theorem dX2_told_0 : decode cX2_told 0 = .ok (.lload_n 0, 1) := by decide +kernel
theorem dX2_told_1 : decode cX2_told 1 = .ok (.invokestatic 134, 3) := by decide +kernel
theorem dX2_told_4 : decode cX2_told 4 = .ok (.lload_n 2, 1) := by decide +kernel
theorem dX2_told_5 : decode cX2_told 5 = .ok (.invokestatic 134, 3) := by decide +kernel
theorem dX2_told_8 : decode cX2_told 8 = .ok (.invokestatic 204, 3) := by decide +kernel
theorem dX2_told_11 : decode cX2_told 11 = .ok (.lstore 5, 2) := by decide +kernel
theorem dX2_told_13 : decode cX2_told 13 = .ok (.lload_n 2, 1) := by decide +kernel
theorem dX2_told_14 : decode cX2_told 14 = .ok (.lconst 0, 1) := by decide +kernel
theorem dX2_told_15 : decode cX2_told 15 = .ok (.lcmp, 1) := by decide +kernel
theorem dX2_told_16 : decode cX2_told 16 = .ok (.ifCond .eq 10, 3) := by decide +kernel
theorem dX2_told_19 : decode cX2_told 19 = .ok (.lload 5, 2) := by decide +kernel
theorem dX2_told_21 : decode cX2_told 21 = .ok (.lconst 0, 1) := by decide +kernel
theorem dX2_told_22 : decode cX2_told 22 = .ok (.lcmp, 1) := by decide +kernel
theorem dX2_told_23 : decode cX2_told 23 = .ok (.ifCond .ne 7, 3) := by decide +kernel
theorem dX2_told_26 : decode cX2_told 26 = .ok (.ldc2_w 91, 3) := by decide +kernel
theorem dX2_told_29 : decode cX2_told 29 = .ok (.lreturn, 1) := by decide +kernel
theorem dX2_told_30 : decode cX2_told 30 = .ok (.iload 4, 2) := by decide +kernel
theorem dX2_told_32 : decode cX2_told 32 = .ok (.ifCond .ne 7, 3) := by decide +kernel
theorem dX2_told_35 : decode cX2_told 35 = .ok (.lload_n 0, 1) := by decide +kernel
theorem dX2_told_36 : decode cX2_told 36 = .ok (.goto 4, 3) := by decide +kernel
theorem dX2_told_39 : decode cX2_told 39 = .ok (.lload_n 2, 1) := by decide +kernel
theorem dX2_told_40 : decode cX2_told 40 = .ok (.lload 5, 2) := by decide +kernel
theorem dX2_told_42 : decode cX2_told 42 = .ok (.ldiv, 1) := by decide +kernel
theorem dX2_told_43 : decode cX2_told 43 = .ok (.lstore 7, 2) := by decide +kernel
theorem dX2_told_45 : decode cX2_told 45 = .ok (.lload_n 2, 1) := by decide +kernel
theorem dX2_told_46 : decode cX2_told 46 = .ok (.lconst 0, 1) := by decide +kernel
theorem dX2_told_47 : decode cX2_told 47 = .ok (.lcmp, 1) := by decide +kernel
theorem dX2_told_48 : decode cX2_told 48 = .ok (.ifCond .ge 9, 3) := by decide +kernel
theorem dX2_told_51 : decode cX2_told 51 = .ok (.lload 7, 2) := by decide +kernel
theorem dX2_told_53 : decode cX2_told 53 = .ok (.lneg, 1) := by decide +kernel
theorem dX2_told_54 : decode cX2_told 54 = .ok (.goto 5, 3) := by decide +kernel
theorem dX2_told_57 : decode cX2_told 57 = .ok (.lload 7, 2) := by decide +kernel
theorem dX2_told_59 : decode cX2_told 59 = .ok (.lreturn, 1) := by decide +kernel
theorem dX2_commonDivisor_0 : decode cX2_commonDivisor 0 = .ok (.lload_n 0, 1) := by decide +kernel
theorem dX2_commonDivisor_1 : decode cX2_commonDivisor 1 = .ok (.lstore 4, 2) := by decide +kernel
theorem dX2_commonDivisor_3 : decode cX2_commonDivisor 3 = .ok (.lload_n 2, 1) := by decide +kernel
theorem dX2_commonDivisor_4 : decode cX2_commonDivisor 4 = .ok (.lstore 6, 2) := by decide +kernel
theorem dX2_commonDivisor_6 : decode cX2_commonDivisor 6 = .ok (.iconst 0, 1) := by decide +kernel
theorem dX2_commonDivisor_7 : decode cX2_commonDivisor 7 = .ok (.istore 8, 2) := by decide +kernel
theorem dX2_commonDivisor_9 : decode cX2_commonDivisor 9 = .ok (.iload 8, 2) := by decide +kernel
theorem dX2_commonDivisor_11 : decode cX2_commonDivisor 11 = .ok (.bipush 100, 2) := by decide +kernel
theorem dX2_commonDivisor_13 : decode cX2_commonDivisor 13 = .ok (.if_icmp .ge 31, 3) := by decide +kernel
theorem dX2_commonDivisor_16 : decode cX2_commonDivisor 16 = .ok (.lload 6, 2) := by decide +kernel
theorem dX2_commonDivisor_18 : decode cX2_commonDivisor 18 = .ok (.lconst 0, 1) := by decide +kernel
theorem dX2_commonDivisor_19 : decode cX2_commonDivisor 19 = .ok (.lcmp, 1) := by decide +kernel
theorem dX2_commonDivisor_20 : decode cX2_commonDivisor 20 = .ok (.ifCond .eq 24, 3) := by decide +kernel
theorem dX2_commonDivisor_23 : decode cX2_commonDivisor 23 = .ok (.lload 4, 2) := by decide +kernel
theorem dX2_commonDivisor_25 : decode cX2_commonDivisor 25 = .ok (.lload 6, 2) := by decide +kernel
theorem dX2_commonDivisor_27 : decode cX2_commonDivisor 27 = .ok (.lrem, 1) := by decide +kernel
theorem dX2_commonDivisor_28 : decode cX2_commonDivisor 28 = .ok (.lstore 9, 2) := by decide +kernel
theorem dX2_commonDivisor_30 : decode cX2_commonDivisor 30 = .ok (.lload 6, 2) := by decide +kernel
theorem dX2_commonDivisor_32 : decode cX2_commonDivisor 32 = .ok (.lstore 4, 2) := by decide +kernel
theorem dX2_commonDivisor_34 : decode cX2_commonDivisor 34 = .ok (.lload 9, 2) := by decide +kernel
theorem dX2_commonDivisor_36 : decode cX2_commonDivisor 36 = .ok (.lstore 6, 2) := by decide +kernel
theorem dX2_commonDivisor_38 : decode cX2_commonDivisor 38 = .ok (.iinc 8 1, 3) := by decide +kernel
theorem dX2_commonDivisor_41 : decode cX2_commonDivisor 41 = .ok (.goto (-32), 3) := by decide +kernel
theorem dX2_commonDivisor_44 : decode cX2_commonDivisor 44 = .ok (.lload 4, 2) := by decide +kernel
theorem dX2_commonDivisor_46 : decode cX2_commonDivisor 46 = .ok (.lreturn, 1) := by decide +kernel
end
section
theorem dX3_init_0 : decode cX3_init 0 = .ok (.aload_n 0, 1) := by decide +kernel
theorem dX3_init_1 : decode cX3_init 1 = .ok (.invokespecial 1, 3) := by decide +kernel
theorem dX3_init_4 : decode cX3_init 4 = .ok (.aload_n 0, 1) := by decide +kernel
theorem dX3_init_5 : decode cX3_init 5 = .ok (.iconst 0, 1) := by decide +kernel
theorem dX3_init_6 : decode cX3_init 6 = .ok (.putfield 7, 3) := by decide +kernel
theorem dX3_init_9 : decode cX3_init 9 = .ok (.aload_n 0, 1) := by decide +kernel
theorem dX3_init_10 : decode cX3_init 10 = .ok (.iconst 4, 1) := by decide +kernel
theorem dX3_init_11 : decode cX3_init 11 = .ok (.newarray .int, 2) := by decide +kernel
theorem dX3_init_13 : decode cX3_init 13 = .ok (.putfield 13, 3) := by decide +kernel
theorem dX3_init_16 : decode cX3_init 16 = .ok (.aload_n 0, 1) := by decide +kernel
theorem dX3_init_17 : decode cX3_init 17 = .ok (.bipush 32, 2) := by decide +kernel
theorem dX3_init_19 : decode cX3_init 19 = .ok (.newarray .int, 2) := by decide +kernel
theorem dX3_init_21 : decode cX3_init 21 = .ok (.putfield 17, 3) := by decide +kernel
theorem dX3_init_24 : decode cX3_init 24 = .ok (.aload_n 0, 1) := by decide +kernel
theorem dX3_init_25 : decode cX3_init 25 = .ok (.bipush 32, 2) := by decide +kernel
theorem dX3_init_27 : decode cX3_init 27 = .ok (.newarray .int, 2) := by decide +kernel
theorem dX3_init_29 : decode cX3_init 29 = .ok (.putfield 20, 3) := by decide +kernel
theorem dX3_init_32 : decode cX3_init 32 = .ok (.aload_n 0, 1) := by decide +kernel
theorem dX3_init_33 : decode cX3_init 33 = .ok (.bipush 32, 2) := by decide +kernel
theorem dX3_init_35 : decode cX3_init 35 = .ok (.newarray .int, 2) := by decide +kernel
theorem dX3_init_37 : decode cX3_init 37 = .ok (.putfield 23, 3) := by decide +kernel
theorem dX3_init_40 : decode cX3_init 40 = .ok (.aload_n 0, 1) := by decide +kernel
theorem dX3_init_41 : decode cX3_init 41 = .ok (.iconst 0, 1) := by decide +kernel
theorem dX3_init_42 : decode cX3_init 42 = .ok (.putfield 26, 3) := by decide +kernel
theorem dX3_init_45 : decode cX3_init 45 = .ok (.aload_n 0, 1) := by decide +kernel
theorem dX3_init_46 : decode cX3_init 46 = .ok (.bipush 12, 2) := by decide +kernel
theorem dX3_init_48 : decode cX3_init 48 = .ok (.newarray .int, 2) := by decide +kernel
theorem dX3_init_50 : decode cX3_init 50 = .ok (.putfield 29, 3) := by decide +kernel
theorem dX3_init_53 : decode cX3_init 53 = .ok (.aload_n 0, 1) := by decide +kernel
theorem dX3_init_54 : decode cX3_init 54 = .ok (.bipush 6, 2) := by decide +kernel
theorem dX3_init_56 : decode cX3_init 56 = .ok (.newarray .long, 2) := by decide +kernel
theorem dX3_init_58 : decode cX3_init 58 = .ok (.putfield 32, 3) := by decide +kernel
theorem dX3_init_61 : decode cX3_init 61 = .ok (.aload_n 0, 1) := by decide +kernel
theorem dX3_init_62 : decode cX3_init 62 = .ok (.lconst 1, 1) := by decide +kernel
theorem dX3_init_63 : decode cX3_init 63 = .ok (.putfield 36, 3) := by decide +kernel
theorem dX3_init_66 : decode cX3_init 66 = .ok (.return_, 1) := by decide +kernel
theorem dX3_in_0 : decode cX3_in 0 = .ok (.iload_n 1, 1) := by decide +kernel
theorem dX3_in_1 : decode cX3_in 1 = .ok (.iload_n 2, 1) := by decide +kernel
theorem dX3_in_2 : decode cX3_in 2 = .ok (.if_icmp .lt 12, 3) := by decide +kernel
theorem dX3_in_5 : decode cX3_in 5 = .ok (.iload_n 1, 1) := by decide +kernel
theorem dX3_in_6 : decode cX3_in 6 = .ok (.iload_n 3, 1) := by decide +kernel
theorem dX3_in_7 : decode cX3_in 7 = .ok (.if_icmp .gt 7, 3) := by decide +kernel
theorem dX3_in_10 : decode cX3_in 10 = .ok (.iconst 1, 1) := by decide +kernel
theorem dX3_in_11 : decode cX3_in 11 = .ok (.goto 4, 3) := by decide +kernel
theorem dX3_in_14 : decode cX3_in 14 = .ok (.iconst 0, 1) := by decide +kernel
theorem dX3_in_15 : decode cX3_in 15 = .ok (.ireturn, 1) := by decide +kernel
set_option maxRecDepth 20000 in
theorem ggX3_isBench_X3_in : GoodIn wsX3_isBench wsX3_in := goodIn_r _ [6] (by decide +kernel) (by decide +kernel)
set_option maxRecDepth 20000 in
theorem gX3_isBench_X3_in : GoodIn wsX3_isBench (wsV RX3 40 RX3 yX3_in wsX3_in) := goodIn_app (goodIn_of _ (by decide +kernel)) ggX3_isBench_X3_in
theorem dX3_isBench_0 : decode cX3_isBench 0 = .ok (.aload_n 0, 1) := by decide +kernel
theorem dX3_isBench_1 : decode cX3_isBench 1 = .ok (.iload_n 1, 1) := by decide +kernel
theorem dX3_isBench_2 : decode cX3_isBench 2 = .ok (.iconst 0, 1) := by decide +kernel
theorem dX3_isBench_3 : decode cX3_isBench 3 = .ok (.aload_n 0, 1) := by decide +kernel
theorem dX3_isBench_4 : decode cX3_isBench 4 = .ok (.getfield 7, 3) := by decide +kernel
theorem dX3_isBench_7 : decode cX3_isBench 7 = .ok (.iconst 1, 1) := by decide +kernel
theorem dX3_isBench_8 : decode cX3_isBench 8 = .ok (.isub, 1) := by decide +kernel
theorem dX3_isBench_9 : decode cX3_isBench 9 = .ok (.invokevirtual 40, 3) := by decide +kernel
theorem dX3_isBench_12 : decode cX3_isBench 12 = .ok (.ireturn, 1) := by decide +kernel
set_option maxRecDepth 20000 in
theorem ggX3_isPart_X3_isBench : GoodIn wsX3_isPart wsX3_isBench := goodIn_r _ [6, 7, 8, 9, 10, 5, 11, 12, 13, 14, 15, 16, 17, 18, 19, 20] (by decide +kernel) (by decide +kernel)
set_option maxRecDepth 20000 in
theorem gX3_isPart_X3_isBench : GoodIn wsX3_isPart (wsV RX3 44 RX3 yX3_isBench wsX3_isBench) := goodIn_app (goodIn_of _ (by decide +kernel)) ggX3_isPart_X3_isBench
set_option maxRecDepth 20000 in
theorem ggX3_isPart_X3_in : GoodIn wsX3_isPart wsX3_in := goodIn_r _ [11] (by decide +kernel) (by decide +kernel)
set_option maxRecDepth 20000 in
theorem gX3_isPart_X3_in : GoodIn wsX3_isPart (wsV RX3 40 RX3 yX3_in wsX3_in) := goodIn_app (goodIn_of _ (by decide +kernel)) ggX3_isPart_X3_in
theorem dX3_isPart_0 : decode cX3_isPart 0 = .ok (.aload_n 0, 1) := by decide +kernel
theorem dX3_isPart_1 : decode cX3_isPart 1 = .ok (.iload_n 1, 1) := by decide +kernel
theorem dX3_isPart_2 : decode cX3_isPart 2 = .ok (.invokevirtual 44, 3) := by decide +kernel
theorem dX3_isPart_5 : decode cX3_isPart 5 = .ok (.ifCond .eq 24, 3) := by decide +kernel
theorem dX3_isPart_8 : decode cX3_isPart 8 = .ok (.aload_n 0, 1) := by decide +kernel
theorem dX3_isPart_9 : decode cX3_isPart 9 = .ok (.iload_n 2, 1) := by decide +kernel
theorem dX3_isPart_10 : decode cX3_isPart 10 = .ok (.iconst 0, 1) := by decide +kernel
theorem dX3_isPart_11 : decode cX3_isPart 11 = .ok (.aload_n 0, 1) := by decide +kernel
theorem dX3_isPart_12 : decode cX3_isPart 12 = .ok (.getfield 13, 3) := by decide +kernel
theorem dX3_isPart_15 : decode cX3_isPart 15 = .ok (.iload_n 1, 1) := by decide +kernel
theorem dX3_isPart_16 : decode cX3_isPart 16 = .ok (.iaload, 1) := by decide +kernel
theorem dX3_isPart_17 : decode cX3_isPart 17 = .ok (.iconst 1, 1) := by decide +kernel
theorem dX3_isPart_18 : decode cX3_isPart 18 = .ok (.isub, 1) := by decide +kernel
theorem dX3_isPart_19 : decode cX3_isPart 19 = .ok (.invokevirtual 40, 3) := by decide +kernel
theorem dX3_isPart_22 : decode cX3_isPart 22 = .ok (.ifCond .eq 7, 3) := by decide +kernel
theorem dX3_isPart_25 : decode cX3_isPart 25 = .ok (.iconst 1, 1) := by decide +kernel
theorem dX3_isPart_26 : decode cX3_isPart 26 = .ok (.goto 4, 3) := by decide +kernel
theorem dX3_isPart_29 : decode cX3_isPart 29 = .ok (.iconst 0, 1) := by decide +kernel
theorem dX3_isPart_30 : decode cX3_isPart 30 = .ok (.ireturn, 1) := by decide +kernel
theorem dX3_isWay_0 : decode cX3_isWay 0 = .ok (.iload_n 1, 1) := by decide +kernel
theorem dX3_isWay_1 : decode cX3_isWay 1 = .ok (.ifCond .eq 8, 3) := by decide +kernel
theorem dX3_isWay_4 : decode cX3_isWay 4 = .ok (.iload_n 1, 1) := by decide +kernel
theorem dX3_isWay_5 : decode cX3_isWay 5 = .ok (.iconst 1, 1) := by decide +kernel
theorem dX3_isWay_6 : decode cX3_isWay 6 = .ok (.if_icmp .ne 7, 3) := by decide +kernel
theorem dX3_isWay_9 : decode cX3_isWay 9 = .ok (.iconst 1, 1) := by decide +kernel
theorem dX3_isWay_10 : decode cX3_isWay 10 = .ok (.goto 4, 3) := by decide +kernel
theorem dX3_isWay_13 : decode cX3_isWay 13 = .ok (.iconst 0, 1) := by decide +kernel
theorem dX3_isWay_14 : decode cX3_isWay 14 = .ok (.ireturn, 1) := by decide +kernel
set_option maxRecDepth 20000 in
theorem ggX3_isBent_X3_in : GoodIn wsX3_isBent wsX3_in := goodIn_r _ [5] (by decide +kernel) (by decide +kernel)
set_option maxRecDepth 20000 in
theorem gX3_isBent_X3_in : GoodIn wsX3_isBent (wsV RX3 40 RX3 yX3_in wsX3_in) := goodIn_app (goodIn_of _ (by decide +kernel)) ggX3_isBent_X3_in
theorem dX3_isBent_0 : decode cX3_isBent 0 = .ok (.aload_n 0, 1) := by decide +kernel
theorem dX3_isBent_1 : decode cX3_isBent 1 = .ok (.iload_n 1, 1) := by decide +kernel
theorem dX3_isBent_2 : decode cX3_isBent 2 = .ok (.bipush (-9), 2) := by decide +kernel
theorem dX3_isBent_4 : decode cX3_isBent 4 = .ok (.bipush 9, 2) := by decide +kernel
theorem dX3_isBent_6 : decode cX3_isBent 6 = .ok (.invokevirtual 40, 3) := by decide +kernel
theorem dX3_isBent_9 : decode cX3_isBent 9 = .ok (.ifCond .eq 11, 3) := by decide +kernel
theorem dX3_isBent_12 : decode cX3_isBent 12 = .ok (.iload_n 1, 1) := by decide +kernel
theorem dX3_isBent_13 : decode cX3_isBent 13 = .ok (.ifCond .eq 7, 3) := by decide +kernel
theorem dX3_isBent_16 : decode cX3_isBent 16 = .ok (.iconst 1, 1) := by decide +kernel
theorem dX3_isBent_17 : decode cX3_isBent 17 = .ok (.goto 4, 3) := by decide +kernel
theorem dX3_isBent_20 : decode cX3_isBent 20 = .ok (.iconst 0, 1) := by decide +kernel
theorem dX3_isBent_21 : decode cX3_isBent 21 = .ok (.ireturn, 1) := by decide +kernel
set_option maxRecDepth 20000 in
theorem ggX3_isGood_X3_in : GoodIn wsX3_isGood wsX3_in := goodIn_r _ [5] (by decide +kernel) (by decide +kernel)
set_option maxRecDepth 20000 in
theorem gX3_isGood_X3_in : GoodIn wsX3_isGood (wsV RX3 40 RX3 yX3_in wsX3_in) := goodIn_app (goodIn_of _ (by decide +kernel)) ggX3_isGood_X3_in
set_option maxRecDepth 20000 in
theorem ggX3_isGood_X3_isBent : GoodIn wsX3_isGood wsX3_isBent := goodIn_r _ [9, 1, 2, 3, 4, 5] (by decide +kernel) (by decide +kernel)
set_option maxRecDepth 20000 in
theorem gX3_isGood_X3_isBent : GoodIn wsX3_isGood (wsV RX3 48 RX3 yX3_isBent wsX3_isBent) := goodIn_app (goodIn_of _ (by decide +kernel)) ggX3_isGood_X3_isBent
theorem dX3_isGood_0 : decode cX3_isGood 0 = .ok (.iload_n 1, 1) := by decide +kernel
theorem dX3_isGood_1 : decode cX3_isGood 1 = .ok (.tableswitch 139 0 4 #[35, 56, 74, 96, 117], 35) := by decide +kernel
theorem dX3_isGood_36 : decode cX3_isGood 36 = .ok (.aload_n 0, 1) := by decide +kernel
theorem dX3_isGood_37 : decode cX3_isGood 37 = .ok (.iload_n 2, 1) := by decide +kernel
theorem dX3_isGood_38 : decode cX3_isGood 38 = .ok (.iconst 0, 1) := by decide +kernel
theorem dX3_isGood_39 : decode cX3_isGood 39 = .ok (.bipush 20, 2) := by decide +kernel
theorem dX3_isGood_41 : decode cX3_isGood 41 = .ok (.invokevirtual 40, 3) := by decide +kernel
theorem dX3_isGood_44 : decode cX3_isGood 44 = .ok (.ifCond .eq 11, 3) := by decide +kernel
theorem dX3_isGood_47 : decode cX3_isGood 47 = .ok (.iload_n 3, 1) := by decide +kernel
theorem dX3_isGood_48 : decode cX3_isGood 48 = .ok (.ifCond .ne 7, 3) := by decide +kernel
theorem dX3_isGood_51 : decode cX3_isGood 51 = .ok (.iconst 1, 1) := by decide +kernel
theorem dX3_isGood_52 : decode cX3_isGood 52 = .ok (.goto 4, 3) := by decide +kernel
theorem dX3_isGood_55 : decode cX3_isGood 55 = .ok (.iconst 0, 1) := by decide +kernel
theorem dX3_isGood_56 : decode cX3_isGood 56 = .ok (.ireturn, 1) := by decide +kernel
theorem dX3_isGood_57 : decode cX3_isGood 57 = .ok (.aload_n 0, 1) := by decide +kernel
theorem dX3_isGood_58 : decode cX3_isGood 58 = .ok (.iload_n 2, 1) := by decide +kernel
theorem dX3_isGood_59 : decode cX3_isGood 59 = .ok (.invokevirtual 48, 3) := by decide +kernel
theorem dX3_isGood_62 : decode cX3_isGood 62 = .ok (.ifCond .eq 11, 3) := by decide +kernel
theorem dX3_isGood_65 : decode cX3_isGood 65 = .ok (.iload_n 3, 1) := by decide +kernel
theorem dX3_isGood_66 : decode cX3_isGood 66 = .ok (.ifCond .ne 7, 3) := by decide +kernel
theorem dX3_isGood_69 : decode cX3_isGood 69 = .ok (.iconst 1, 1) := by decide +kernel
theorem dX3_isGood_70 : decode cX3_isGood 70 = .ok (.goto 4, 3) := by decide +kernel
theorem dX3_isGood_73 : decode cX3_isGood 73 = .ok (.iconst 0, 1) := by decide +kernel
theorem dX3_isGood_74 : decode cX3_isGood 74 = .ok (.ireturn, 1) := by decide +kernel
theorem dX3_isGood_75 : decode cX3_isGood 75 = .ok (.aload_n 0, 1) := by decide +kernel
theorem dX3_isGood_76 : decode cX3_isGood 76 = .ok (.iload_n 2, 1) := by decide +kernel
theorem dX3_isGood_77 : decode cX3_isGood 77 = .ok (.invokevirtual 48, 3) := by decide +kernel
theorem dX3_isGood_80 : decode cX3_isGood 80 = .ok (.ifCond .eq 15, 3) := by decide +kernel
theorem dX3_isGood_83 : decode cX3_isGood 83 = .ok (.aload_n 0, 1) := by decide +kernel
theorem dX3_isGood_84 : decode cX3_isGood 84 = .ok (.iload_n 3, 1) := by decide +kernel
theorem dX3_isGood_85 : decode cX3_isGood 85 = .ok (.invokevirtual 48, 3) := by decide +kernel
theorem dX3_isGood_88 : decode cX3_isGood 88 = .ok (.ifCond .eq 7, 3) := by decide +kernel
theorem dX3_isGood_91 : decode cX3_isGood 91 = .ok (.iconst 1, 1) := by decide +kernel
theorem dX3_isGood_92 : decode cX3_isGood 92 = .ok (.goto 4, 3) := by decide +kernel
theorem dX3_isGood_95 : decode cX3_isGood 95 = .ok (.iconst 0, 1) := by decide +kernel
theorem dX3_isGood_96 : decode cX3_isGood 96 = .ok (.ireturn, 1) := by decide +kernel
theorem dX3_isGood_97 : decode cX3_isGood 97 = .ok (.aload_n 0, 1) := by decide +kernel
theorem dX3_isGood_98 : decode cX3_isGood 98 = .ok (.iload_n 2, 1) := by decide +kernel
theorem dX3_isGood_99 : decode cX3_isGood 99 = .ok (.bipush (-3), 2) := by decide +kernel
theorem dX3_isGood_101 : decode cX3_isGood 101 = .ok (.iconst 3, 1) := by decide +kernel
theorem dX3_isGood_102 : decode cX3_isGood 102 = .ok (.invokevirtual 40, 3) := by decide +kernel
theorem dX3_isGood_105 : decode cX3_isGood 105 = .ok (.ifCond .eq 11, 3) := by decide +kernel
theorem dX3_isGood_108 : decode cX3_isGood 108 = .ok (.iload_n 3, 1) := by decide +kernel
theorem dX3_isGood_109 : decode cX3_isGood 109 = .ok (.ifCond .ne 7, 3) := by decide +kernel
theorem dX3_isGood_112 : decode cX3_isGood 112 = .ok (.iconst 1, 1) := by decide +kernel
theorem dX3_isGood_113 : decode cX3_isGood 113 = .ok (.goto 4, 3) := by decide +kernel
theorem dX3_isGood_116 : decode cX3_isGood 116 = .ok (.iconst 0, 1) := by decide +kernel
theorem dX3_isGood_117 : decode cX3_isGood 117 = .ok (.ireturn, 1) := by decide +kernel
theorem dX3_isGood_118 : decode cX3_isGood 118 = .ok (.aload_n 0, 1) := by decide +kernel
theorem dX3_isGood_119 : decode cX3_isGood 119 = .ok (.iload_n 2, 1) := by decide +kernel
theorem dX3_isGood_120 : decode cX3_isGood 120 = .ok (.iconst 1, 1) := by decide +kernel
theorem dX3_isGood_121 : decode cX3_isGood 121 = .ok (.sipush 1000, 3) := by decide +kernel
theorem dX3_isGood_124 : decode cX3_isGood 124 = .ok (.invokevirtual 40, 3) := by decide +kernel
theorem dX3_isGood_127 : decode cX3_isGood 127 = .ok (.ifCond .eq 11, 3) := by decide +kernel
theorem dX3_isGood_130 : decode cX3_isGood 130 = .ok (.iload_n 3, 1) := by decide +kernel
theorem dX3_isGood_131 : decode cX3_isGood 131 = .ok (.ifCond .ne 7, 3) := by decide +kernel
theorem dX3_isGood_134 : decode cX3_isGood 134 = .ok (.iconst 1, 1) := by decide +kernel
theorem dX3_isGood_135 : decode cX3_isGood 135 = .ok (.goto 4, 3) := by decide +kernel
theorem dX3_isGood_138 : decode cX3_isGood 138 = .ok (.iconst 0, 1) := by decide +kernel
theorem dX3_isGood_139 : decode cX3_isGood 139 = .ok (.ireturn, 1) := by decide +kernel
theorem dX3_isGood_140 : decode cX3_isGood 140 = .ok (.iconst 0, 1) := by decide +kernel
theorem dX3_isGood_141 : decode cX3_isGood 141 = .ok (.ireturn, 1) := by decide +kernel
theorem dX3_bench_0 : decode cX3_bench 0 = .ok (.aload_n 0, 1) := by decide +kernel
theorem dX3_bench_1 : decode cX3_bench 1 = .ok (.getfield 7, 3) := by decide +kernel
theorem dX3_bench_4 : decode cX3_bench 4 = .ok (.iconst 4, 1) := by decide +kernel
theorem dX3_bench_5 : decode cX3_bench 5 = .ok (.if_icmp .ne 6, 3) := by decide +kernel
theorem dX3_bench_8 : decode cX3_bench 8 = .ok (.bipush (-4), 2) := by decide +kernel
theorem dX3_bench_10 : decode cX3_bench 10 = .ok (.ireturn, 1) := by decide +kernel
theorem dX3_bench_11 : decode cX3_bench 11 = .ok (.aload_n 0, 1) := by decide +kernel
theorem dX3_bench_12 : decode cX3_bench 12 = .ok (.getfield 13, 3) := by decide +kernel
theorem dX3_bench_15 : decode cX3_bench 15 = .ok (.aload_n 0, 1) := by decide +kernel
theorem dX3_bench_16 : decode cX3_bench 16 = .ok (.getfield 7, 3) := by decide +kernel
theorem dX3_bench_19 : decode cX3_bench 19 = .ok (.iconst 0, 1) := by decide +kernel
theorem dX3_bench_20 : decode cX3_bench 20 = .ok (.iastore, 1) := by decide +kernel
theorem dX3_bench_21 : decode cX3_bench 21 = .ok (.aload_n 0, 1) := by decide +kernel
theorem dX3_bench_22 : decode cX3_bench 22 = .ok (.dup, 1) := by decide +kernel
theorem dX3_bench_23 : decode cX3_bench 23 = .ok (.getfield 7, 3) := by decide +kernel
theorem dX3_bench_26 : decode cX3_bench 26 = .ok (.iconst 1, 1) := by decide +kernel
theorem dX3_bench_27 : decode cX3_bench 27 = .ok (.iadd, 1) := by decide +kernel
theorem dX3_bench_28 : decode cX3_bench 28 = .ok (.putfield 7, 3) := by decide +kernel
theorem dX3_bench_31 : decode cX3_bench 31 = .ok (.aload_n 0, 1) := by decide +kernel
theorem dX3_bench_32 : decode cX3_bench 32 = .ok (.getfield 7, 3) := by decide +kernel
theorem dX3_bench_35 : decode cX3_bench 35 = .ok (.iconst 1, 1) := by decide +kernel
theorem dX3_bench_36 : decode cX3_bench 36 = .ok (.isub, 1) := by decide +kernel
theorem dX3_bench_37 : decode cX3_bench 37 = .ok (.ireturn, 1) := by decide +kernel
theorem dX3_bent_0 : decode cX3_bent 0 = .ok (.iconst 0, 1) := by decide +kernel
theorem dX3_bent_1 : decode cX3_bent 1 = .ok (.istore_n 2, 1) := by decide +kernel
theorem dX3_bent_2 : decode cX3_bent 2 = .ok (.iconst 0, 1) := by decide +kernel
theorem dX3_bent_3 : decode cX3_bent 3 = .ok (.istore_n 3, 1) := by decide +kernel
theorem dX3_bent_4 : decode cX3_bent 4 = .ok (.iload_n 3, 1) := by decide +kernel
theorem dX3_bent_5 : decode cX3_bent 5 = .ok (.aload_n 0, 1) := by decide +kernel
theorem dX3_bent_6 : decode cX3_bent 6 = .ok (.getfield 13, 3) := by decide +kernel
theorem dX3_bent_9 : decode cX3_bent 9 = .ok (.iload_n 1, 1) := by decide +kernel
theorem dX3_bent_10 : decode cX3_bent 10 = .ok (.iaload, 1) := by decide +kernel
theorem dX3_bent_11 : decode cX3_bent 11 = .ok (.if_icmp .ge 47, 3) := by decide +kernel
theorem dX3_bent_14 : decode cX3_bent 14 = .ok (.iload_n 2, 1) := by decide +kernel
theorem dX3_bent_15 : decode cX3_bent 15 = .ok (.aload_n 0, 1) := by decide +kernel
theorem dX3_bent_16 : decode cX3_bent 16 = .ok (.getfield 17, 3) := by decide +kernel
theorem dX3_bent_19 : decode cX3_bent 19 = .ok (.bipush 8, 2) := by decide +kernel
theorem dX3_bent_21 : decode cX3_bent 21 = .ok (.iload_n 1, 1) := by decide +kernel
theorem dX3_bent_22 : decode cX3_bent 22 = .ok (.imul, 1) := by decide +kernel
theorem dX3_bent_23 : decode cX3_bent 23 = .ok (.iload_n 3, 1) := by decide +kernel
theorem dX3_bent_24 : decode cX3_bent 24 = .ok (.iadd, 1) := by decide +kernel
theorem dX3_bent_25 : decode cX3_bent 25 = .ok (.iaload, 1) := by decide +kernel
theorem dX3_bent_26 : decode cX3_bent 26 = .ok (.iconst 1, 1) := by decide +kernel
theorem dX3_bent_27 : decode cX3_bent 27 = .ok (.if_icmp .eq 18, 3) := by decide +kernel
theorem dX3_bent_30 : decode cX3_bent 30 = .ok (.aload_n 0, 1) := by decide +kernel
theorem dX3_bent_31 : decode cX3_bent 31 = .ok (.getfield 17, 3) := by decide +kernel
theorem dX3_bent_34 : decode cX3_bent 34 = .ok (.bipush 8, 2) := by decide +kernel
theorem dX3_bent_36 : decode cX3_bent 36 = .ok (.iload_n 1, 1) := by decide +kernel
theorem dX3_bent_37 : decode cX3_bent 37 = .ok (.imul, 1) := by decide +kernel
theorem dX3_bent_38 : decode cX3_bent 38 = .ok (.iload_n 3, 1) := by decide +kernel
theorem dX3_bent_39 : decode cX3_bent 39 = .ok (.iadd, 1) := by decide +kernel
theorem dX3_bent_40 : decode cX3_bent 40 = .ok (.iaload, 1) := by decide +kernel
theorem dX3_bent_41 : decode cX3_bent 41 = .ok (.iconst 2, 1) := by decide +kernel
theorem dX3_bent_42 : decode cX3_bent 42 = .ok (.if_icmp .ne 7, 3) := by decide +kernel
theorem dX3_bent_45 : decode cX3_bent 45 = .ok (.iconst 1, 1) := by decide +kernel
theorem dX3_bent_46 : decode cX3_bent 46 = .ok (.goto 4, 3) := by decide +kernel
theorem dX3_bent_49 : decode cX3_bent 49 = .ok (.iconst 0, 1) := by decide +kernel
theorem dX3_bent_50 : decode cX3_bent 50 = .ok (.iadd, 1) := by decide +kernel
theorem dX3_bent_51 : decode cX3_bent 51 = .ok (.istore_n 2, 1) := by decide +kernel
theorem dX3_bent_52 : decode cX3_bent 52 = .ok (.iinc 3 1, 3) := by decide +kernel
theorem dX3_bent_55 : decode cX3_bent 55 = .ok (.goto (-51), 3) := by decide +kernel
theorem dX3_bent_58 : decode cX3_bent 58 = .ok (.iload_n 2, 1) := by decide +kernel
theorem dX3_bent_59 : decode cX3_bent 59 = .ok (.ireturn, 1) := by decide +kernel
theorem dX3_tilts_0 : decode cX3_tilts 0 = .ok (.iconst 0, 1) := by decide +kernel
theorem dX3_tilts_1 : decode cX3_tilts 1 = .ok (.istore_n 2, 1) := by decide +kernel
theorem dX3_tilts_2 : decode cX3_tilts 2 = .ok (.iconst 0, 1) := by decide +kernel
theorem dX3_tilts_3 : decode cX3_tilts 3 = .ok (.istore_n 3, 1) := by decide +kernel
theorem dX3_tilts_4 : decode cX3_tilts 4 = .ok (.iload_n 3, 1) := by decide +kernel
theorem dX3_tilts_5 : decode cX3_tilts 5 = .ok (.aload_n 0, 1) := by decide +kernel
theorem dX3_tilts_6 : decode cX3_tilts 6 = .ok (.getfield 13, 3) := by decide +kernel
theorem dX3_tilts_9 : decode cX3_tilts 9 = .ok (.iload_n 1, 1) := by decide +kernel
theorem dX3_tilts_10 : decode cX3_tilts 10 = .ok (.iaload, 1) := by decide +kernel
theorem dX3_tilts_11 : decode cX3_tilts 11 = .ok (.if_icmp .ge 32, 3) := by decide +kernel
theorem dX3_tilts_14 : decode cX3_tilts 14 = .ok (.iload_n 2, 1) := by decide +kernel
theorem dX3_tilts_15 : decode cX3_tilts 15 = .ok (.aload_n 0, 1) := by decide +kernel
theorem dX3_tilts_16 : decode cX3_tilts 16 = .ok (.getfield 17, 3) := by decide +kernel
theorem dX3_tilts_19 : decode cX3_tilts 19 = .ok (.bipush 8, 2) := by decide +kernel
theorem dX3_tilts_21 : decode cX3_tilts 21 = .ok (.iload_n 1, 1) := by decide +kernel
theorem dX3_tilts_22 : decode cX3_tilts 22 = .ok (.imul, 1) := by decide +kernel
theorem dX3_tilts_23 : decode cX3_tilts 23 = .ok (.iload_n 3, 1) := by decide +kernel
theorem dX3_tilts_24 : decode cX3_tilts 24 = .ok (.iadd, 1) := by decide +kernel
theorem dX3_tilts_25 : decode cX3_tilts 25 = .ok (.iaload, 1) := by decide +kernel
theorem dX3_tilts_26 : decode cX3_tilts 26 = .ok (.iconst 3, 1) := by decide +kernel
theorem dX3_tilts_27 : decode cX3_tilts 27 = .ok (.if_icmp .ne 7, 3) := by decide +kernel
theorem dX3_tilts_30 : decode cX3_tilts 30 = .ok (.iconst 1, 1) := by decide +kernel
theorem dX3_tilts_31 : decode cX3_tilts 31 = .ok (.goto 4, 3) := by decide +kernel
theorem dX3_tilts_34 : decode cX3_tilts 34 = .ok (.iconst 0, 1) := by decide +kernel
theorem dX3_tilts_35 : decode cX3_tilts 35 = .ok (.iadd, 1) := by decide +kernel
theorem dX3_tilts_36 : decode cX3_tilts 36 = .ok (.istore_n 2, 1) := by decide +kernel
theorem dX3_tilts_37 : decode cX3_tilts 37 = .ok (.iinc 3 1, 3) := by decide +kernel
theorem dX3_tilts_40 : decode cX3_tilts 40 = .ok (.goto (-36), 3) := by decide +kernel
theorem dX3_tilts_43 : decode cX3_tilts 43 = .ok (.iload_n 2, 1) := by decide +kernel
theorem dX3_tilts_44 : decode cX3_tilts 44 = .ok (.ireturn, 1) := by decide +kernel
theorem dX3_lay_0 : decode cX3_lay 0 = .ok (.aload_n 0, 1) := by decide +kernel
theorem dX3_lay_1 : decode cX3_lay 1 = .ok (.getfield 17, 3) := by decide +kernel
theorem dX3_lay_4 : decode cX3_lay 4 = .ok (.iload_n 1, 1) := by decide +kernel
theorem dX3_lay_5 : decode cX3_lay 5 = .ok (.iload_n 2, 1) := by decide +kernel
theorem dX3_lay_6 : decode cX3_lay 6 = .ok (.iastore, 1) := by decide +kernel
theorem dX3_lay_7 : decode cX3_lay 7 = .ok (.aload_n 0, 1) := by decide +kernel
theorem dX3_lay_8 : decode cX3_lay 8 = .ok (.getfield 20, 3) := by decide +kernel
theorem dX3_lay_11 : decode cX3_lay 11 = .ok (.iload_n 1, 1) := by decide +kernel
theorem dX3_lay_12 : decode cX3_lay 12 = .ok (.iload_n 3, 1) := by decide +kernel
theorem dX3_lay_13 : decode cX3_lay 13 = .ok (.iastore, 1) := by decide +kernel
theorem dX3_lay_14 : decode cX3_lay 14 = .ok (.aload_n 0, 1) := by decide +kernel
theorem dX3_lay_15 : decode cX3_lay 15 = .ok (.getfield 23, 3) := by decide +kernel
theorem dX3_lay_18 : decode cX3_lay 18 = .ok (.iload_n 1, 1) := by decide +kernel
theorem dX3_lay_19 : decode cX3_lay 19 = .ok (.iload 4, 2) := by decide +kernel
theorem dX3_lay_21 : decode cX3_lay 21 = .ok (.iastore, 1) := by decide +kernel
theorem dX3_lay_22 : decode cX3_lay 22 = .ok (.return_, 1) := by decide +kernel
set_option maxRecDepth 20000 in
theorem ggX3_put_X3_isBench : GoodIn wsX3_put wsX3_isBench := goodIn_r _ [9, 10, 11, 12, 13, 8, 14, 35, 36, 37, 38, 39, 40, 41, 42, 43] (by decide +kernel) (by decide +kernel)
set_option maxRecDepth 20000 in
theorem gX3_put_X3_isBench : GoodIn wsX3_put (wsV RX3 44 RX3 yX3_isBench wsX3_isBench) := goodIn_app (goodIn_of _ (by decide +kernel)) ggX3_put_X3_isBench
set_option maxRecDepth 20000 in
theorem ggX3_put_X3_in : GoodIn wsX3_put wsX3_in := goodIn_r _ [14] (by decide +kernel) (by decide +kernel)
set_option maxRecDepth 20000 in
theorem gX3_put_X3_in : GoodIn wsX3_put (wsV RX3 40 RX3 yX3_in wsX3_in) := goodIn_app (goodIn_of _ (by decide +kernel)) ggX3_put_X3_in
set_option maxRecDepth 20000 in
theorem ggX3_put_X3_isGood : GoodIn wsX3_put wsX3_isGood := goodIn_r _ [18, 11, 12, 13, 8, 14, 19, 20, 21, 22] (by decide +kernel) (by decide +kernel)
set_option maxRecDepth 20000 in
theorem gX3_put_X3_isGood : GoodIn wsX3_put (wsV RX3 51 RX3 yX3_isGood wsX3_isGood) := goodIn_app (goodIn_of _ (by decide +kernel)) ggX3_put_X3_isGood
set_option maxRecDepth 20000 in
theorem ggX3_put_X3_bent : GoodIn wsX3_put wsX3_bent := goodIn_r _ [26, 1, 2, 35, 36, 37, 38, 39, 40, 41, 42, 43] (by decide +kernel) (by decide +kernel)
set_option maxRecDepth 20000 in
theorem gX3_put_X3_bent : GoodIn wsX3_put (wsV RX3 54 RX3 yX3_bent wsX3_bent) := goodIn_app (goodIn_of _ (by decide +kernel)) ggX3_put_X3_bent
set_option maxRecDepth 20000 in
theorem ggX3_put_X3_tilts : GoodIn wsX3_put wsX3_tilts := goodIn_r _ [30, 1, 2, 35, 36, 37, 38, 39, 40, 41, 42, 43] (by decide +kernel) (by decide +kernel)
set_option maxRecDepth 20000 in
theorem gX3_put_X3_tilts : GoodIn wsX3_put (wsV RX3 58 RX3 yX3_tilts wsX3_tilts) := goodIn_app (goodIn_of _ (by decide +kernel)) ggX3_put_X3_tilts
set_option maxRecDepth 20000 in
theorem ggX3_put_X3_lay : GoodIn wsX3_put wsX3_lay := goodIn_r _ [34, 2, 3, 4, 35, 36, 37, 38, 39, 40, 41, 42, 43] (by decide +kernel) (by decide +kernel)
set_option maxRecDepth 20000 in
theorem gX3_put_X3_lay : GoodIn wsX3_put (wsV RX3 61 RX3 yX3_lay wsX3_lay) := goodIn_app (goodIn_of _ (by decide +kernel)) ggX3_put_X3_lay
theorem dX3_put_0 : decode cX3_put 0 = .ok (.aload_n 0, 1) := by decide +kernel
theorem dX3_put_1 : decode cX3_put 1 = .ok (.iload_n 1, 1) := by decide +kernel
theorem dX3_put_2 : decode cX3_put 2 = .ok (.invokevirtual 44, 3) := by decide +kernel
theorem dX3_put_5 : decode cX3_put 5 = .ok (.ifCond .eq 18, 3) := by decide +kernel
theorem dX3_put_8 : decode cX3_put 8 = .ok (.aload_n 0, 1) := by decide +kernel
theorem dX3_put_9 : decode cX3_put 9 = .ok (.iload_n 2, 1) := by decide +kernel
theorem dX3_put_10 : decode cX3_put 10 = .ok (.iconst 0, 1) := by decide +kernel
theorem dX3_put_11 : decode cX3_put 11 = .ok (.aload_n 0, 1) := by decide +kernel
theorem dX3_put_12 : decode cX3_put 12 = .ok (.getfield 13, 3) := by decide +kernel
theorem dX3_put_15 : decode cX3_put 15 = .ok (.iload_n 1, 1) := by decide +kernel
theorem dX3_put_16 : decode cX3_put 16 = .ok (.iaload, 1) := by decide +kernel
theorem dX3_put_17 : decode cX3_put 17 = .ok (.invokevirtual 40, 3) := by decide +kernel
theorem dX3_put_20 : decode cX3_put 20 = .ok (.ifCond .ne 5, 3) := by decide +kernel
theorem dX3_put_23 : decode cX3_put 23 = .ok (.iconst (-1), 1) := by decide +kernel
theorem dX3_put_24 : decode cX3_put 24 = .ok (.ireturn, 1) := by decide +kernel
theorem dX3_put_25 : decode cX3_put 25 = .ok (.aload_n 0, 1) := by decide +kernel
theorem dX3_put_26 : decode cX3_put 26 = .ok (.iload_n 3, 1) := by decide +kernel
theorem dX3_put_27 : decode cX3_put 27 = .ok (.iload 4, 2) := by decide +kernel
theorem dX3_put_29 : decode cX3_put 29 = .ok (.iload 5, 2) := by decide +kernel
theorem dX3_put_31 : decode cX3_put 31 = .ok (.invokevirtual 51, 3) := by decide +kernel
theorem dX3_put_34 : decode cX3_put 34 = .ok (.ifCond .ne 6, 3) := by decide +kernel
theorem dX3_put_37 : decode cX3_put 37 = .ok (.bipush (-2), 2) := by decide +kernel
theorem dX3_put_39 : decode cX3_put 39 = .ok (.ireturn, 1) := by decide +kernel
theorem dX3_put_40 : decode cX3_put 40 = .ok (.aload_n 0, 1) := by decide +kernel
theorem dX3_put_41 : decode cX3_put 41 = .ok (.getfield 13, 3) := by decide +kernel
theorem dX3_put_44 : decode cX3_put 44 = .ok (.iload_n 1, 1) := by decide +kernel
theorem dX3_put_45 : decode cX3_put 45 = .ok (.iaload, 1) := by decide +kernel
theorem dX3_put_46 : decode cX3_put 46 = .ok (.bipush 8, 2) := by decide +kernel
theorem dX3_put_48 : decode cX3_put 48 = .ok (.if_icmp .eq 36, 3) := by decide +kernel
theorem dX3_put_51 : decode cX3_put 51 = .ok (.iload_n 3, 1) := by decide +kernel
theorem dX3_put_52 : decode cX3_put 52 = .ok (.iconst 1, 1) := by decide +kernel
theorem dX3_put_53 : decode cX3_put 53 = .ok (.if_icmp .eq 8, 3) := by decide +kernel
theorem dX3_put_56 : decode cX3_put 56 = .ok (.iload_n 3, 1) := by decide +kernel
theorem dX3_put_57 : decode cX3_put 57 = .ok (.iconst 2, 1) := by decide +kernel
theorem dX3_put_58 : decode cX3_put 58 = .ok (.if_icmp .ne 12, 3) := by decide +kernel
theorem dX3_put_61 : decode cX3_put 61 = .ok (.aload_n 0, 1) := by decide +kernel
theorem dX3_put_62 : decode cX3_put 62 = .ok (.iload_n 1, 1) := by decide +kernel
theorem dX3_put_63 : decode cX3_put 63 = .ok (.invokevirtual 54, 3) := by decide +kernel
theorem dX3_put_66 : decode cX3_put 66 = .ok (.iconst 3, 1) := by decide +kernel
theorem dX3_put_67 : decode cX3_put 67 = .ok (.if_icmp .eq 17, 3) := by decide +kernel
theorem dX3_put_70 : decode cX3_put 70 = .ok (.iload_n 3, 1) := by decide +kernel
theorem dX3_put_71 : decode cX3_put 71 = .ok (.iconst 3, 1) := by decide +kernel
theorem dX3_put_72 : decode cX3_put 72 = .ok (.if_icmp .ne 15, 3) := by decide +kernel
theorem dX3_put_75 : decode cX3_put 75 = .ok (.aload_n 0, 1) := by decide +kernel
theorem dX3_put_76 : decode cX3_put 76 = .ok (.iload_n 1, 1) := by decide +kernel
theorem dX3_put_77 : decode cX3_put 77 = .ok (.invokevirtual 58, 3) := by decide +kernel
theorem dX3_put_80 : decode cX3_put 80 = .ok (.iconst 2, 1) := by decide +kernel
theorem dX3_put_81 : decode cX3_put 81 = .ok (.if_icmp .ne 6, 3) := by decide +kernel
theorem dX3_put_84 : decode cX3_put 84 = .ok (.bipush (-4), 2) := by decide +kernel
theorem dX3_put_86 : decode cX3_put 86 = .ok (.ireturn, 1) := by decide +kernel
theorem dX3_put_87 : decode cX3_put 87 = .ok (.bipush 8, 2) := by decide +kernel
theorem dX3_put_89 : decode cX3_put 89 = .ok (.iload_n 1, 1) := by decide +kernel
theorem dX3_put_90 : decode cX3_put 90 = .ok (.imul, 1) := by decide +kernel
theorem dX3_put_91 : decode cX3_put 91 = .ok (.aload_n 0, 1) := by decide +kernel
theorem dX3_put_92 : decode cX3_put 92 = .ok (.getfield 13, 3) := by decide +kernel
theorem dX3_put_95 : decode cX3_put 95 = .ok (.iload_n 1, 1) := by decide +kernel
theorem dX3_put_96 : decode cX3_put 96 = .ok (.iaload, 1) := by decide +kernel
theorem dX3_put_97 : decode cX3_put 97 = .ok (.iadd, 1) := by decide +kernel
theorem dX3_put_98 : decode cX3_put 98 = .ok (.istore 6, 2) := by decide +kernel
theorem dX3_put_100 : decode cX3_put 100 = .ok (.iload 6, 2) := by decide +kernel
theorem dX3_put_102 : decode cX3_put 102 = .ok (.bipush 8, 2) := by decide +kernel
theorem dX3_put_104 : decode cX3_put 104 = .ok (.iload_n 1, 1) := by decide +kernel
theorem dX3_put_105 : decode cX3_put 105 = .ok (.imul, 1) := by decide +kernel
theorem dX3_put_106 : decode cX3_put 106 = .ok (.iload_n 2, 1) := by decide +kernel
theorem dX3_put_107 : decode cX3_put 107 = .ok (.iadd, 1) := by decide +kernel
theorem dX3_put_108 : decode cX3_put 108 = .ok (.if_icmp .le 42, 3) := by decide +kernel
theorem dX3_put_111 : decode cX3_put 111 = .ok (.aload_n 0, 1) := by decide +kernel
theorem dX3_put_112 : decode cX3_put 112 = .ok (.iload 6, 2) := by decide +kernel
theorem dX3_put_114 : decode cX3_put 114 = .ok (.aload_n 0, 1) := by decide +kernel
theorem dX3_put_115 : decode cX3_put 115 = .ok (.getfield 17, 3) := by decide +kernel
theorem dX3_put_118 : decode cX3_put 118 = .ok (.iload 6, 2) := by decide +kernel
theorem dX3_put_120 : decode cX3_put 120 = .ok (.iconst 1, 1) := by decide +kernel
theorem dX3_put_121 : decode cX3_put 121 = .ok (.isub, 1) := by decide +kernel
theorem dX3_put_122 : decode cX3_put 122 = .ok (.iaload, 1) := by decide +kernel
theorem dX3_put_123 : decode cX3_put 123 = .ok (.aload_n 0, 1) := by decide +kernel
theorem dX3_put_124 : decode cX3_put 124 = .ok (.getfield 20, 3) := by decide +kernel
theorem dX3_put_127 : decode cX3_put 127 = .ok (.iload 6, 2) := by decide +kernel
theorem dX3_put_129 : decode cX3_put 129 = .ok (.iconst 1, 1) := by decide +kernel
theorem dX3_put_130 : decode cX3_put 130 = .ok (.isub, 1) := by decide +kernel
theorem dX3_put_131 : decode cX3_put 131 = .ok (.iaload, 1) := by decide +kernel
theorem dX3_put_132 : decode cX3_put 132 = .ok (.aload_n 0, 1) := by decide +kernel
theorem dX3_put_133 : decode cX3_put 133 = .ok (.getfield 23, 3) := by decide +kernel
theorem dX3_put_136 : decode cX3_put 136 = .ok (.iload 6, 2) := by decide +kernel
theorem dX3_put_138 : decode cX3_put 138 = .ok (.iconst 1, 1) := by decide +kernel
theorem dX3_put_139 : decode cX3_put 139 = .ok (.isub, 1) := by decide +kernel
theorem dX3_put_140 : decode cX3_put 140 = .ok (.iaload, 1) := by decide +kernel
theorem dX3_put_141 : decode cX3_put 141 = .ok (.invokevirtual 61, 3) := by decide +kernel
theorem dX3_put_144 : decode cX3_put 144 = .ok (.iinc 6 (-1), 3) := by decide +kernel
theorem dX3_put_147 : decode cX3_put 147 = .ok (.goto (-47), 3) := by decide +kernel
theorem dX3_put_150 : decode cX3_put 150 = .ok (.aload_n 0, 1) := by decide +kernel
theorem dX3_put_151 : decode cX3_put 151 = .ok (.bipush 8, 2) := by decide +kernel
theorem dX3_put_153 : decode cX3_put 153 = .ok (.iload_n 1, 1) := by decide +kernel
theorem dX3_put_154 : decode cX3_put 154 = .ok (.imul, 1) := by decide +kernel
theorem dX3_put_155 : decode cX3_put 155 = .ok (.iload_n 2, 1) := by decide +kernel
theorem dX3_put_156 : decode cX3_put 156 = .ok (.iadd, 1) := by decide +kernel
theorem dX3_put_157 : decode cX3_put 157 = .ok (.iload_n 3, 1) := by decide +kernel
theorem dX3_put_158 : decode cX3_put 158 = .ok (.iload 4, 2) := by decide +kernel
theorem dX3_put_160 : decode cX3_put 160 = .ok (.iload 5, 2) := by decide +kernel
theorem dX3_put_162 : decode cX3_put 162 = .ok (.invokevirtual 61, 3) := by decide +kernel
theorem dX3_put_165 : decode cX3_put 165 = .ok (.aload_n 0, 1) := by decide +kernel
theorem dX3_put_166 : decode cX3_put 166 = .ok (.getfield 13, 3) := by decide +kernel
theorem dX3_put_169 : decode cX3_put 169 = .ok (.iload_n 1, 1) := by decide +kernel
theorem dX3_put_170 : decode cX3_put 170 = .ok (.dup2, 1) := by decide +kernel
theorem dX3_put_171 : decode cX3_put 171 = .ok (.iaload, 1) := by decide +kernel
theorem dX3_put_172 : decode cX3_put 172 = .ok (.iconst 1, 1) := by decide +kernel
theorem dX3_put_173 : decode cX3_put 173 = .ok (.iadd, 1) := by decide +kernel
theorem dX3_put_174 : decode cX3_put 174 = .ok (.iastore, 1) := by decide +kernel
theorem dX3_put_175 : decode cX3_put 175 = .ok (.aload_n 0, 1) := by decide +kernel
theorem dX3_put_176 : decode cX3_put 176 = .ok (.getfield 13, 3) := by decide +kernel
theorem dX3_put_179 : decode cX3_put 179 = .ok (.iload_n 1, 1) := by decide +kernel
theorem dX3_put_180 : decode cX3_put 180 = .ok (.iaload, 1) := by decide +kernel
theorem dX3_put_181 : decode cX3_put 181 = .ok (.ireturn, 1) := by decide +kernel
set_option maxRecDepth 20000 in
theorem ggX3_take_X3_isPart : GoodIn wsX3_take wsX3_isPart := goodIn_r _ [9, 2, 10, 11, 12, 8, 13, 14, 15, 16, 17, 18, 23, 24, 25, 26, 27, 28, 29, 30, 31] (by decide +kernel) (by decide +kernel)
set_option maxRecDepth 20000 in
theorem gX3_take_X3_isPart : GoodIn wsX3_take (wsV RX3 65 RX3 yX3_isPart wsX3_isPart) := goodIn_app (goodIn_of _ (by decide +kernel)) ggX3_take_X3_isPart
set_option maxRecDepth 20000 in
theorem ggX3_take_X3_lay : GoodIn wsX3_take wsX3_lay := goodIn_r _ [22, 1, 3, 4, 23, 24, 25, 26, 27, 28, 29, 30, 31] (by decide +kernel) (by decide +kernel)
set_option maxRecDepth 20000 in
theorem gX3_take_X3_lay : GoodIn wsX3_take (wsV RX3 61 RX3 yX3_lay wsX3_lay) := goodIn_app (goodIn_of _ (by decide +kernel)) ggX3_take_X3_lay
theorem dX3_take_0 : decode cX3_take 0 = .ok (.aload_n 0, 1) := by decide +kernel
theorem dX3_take_1 : decode cX3_take 1 = .ok (.iload_n 1, 1) := by decide +kernel
theorem dX3_take_2 : decode cX3_take 2 = .ok (.iload_n 2, 1) := by decide +kernel
theorem dX3_take_3 : decode cX3_take 3 = .ok (.invokevirtual 65, 3) := by decide +kernel
theorem dX3_take_6 : decode cX3_take 6 = .ok (.ifCond .ne 5, 3) := by decide +kernel
theorem dX3_take_9 : decode cX3_take 9 = .ok (.iconst (-1), 1) := by decide +kernel
theorem dX3_take_10 : decode cX3_take 10 = .ok (.ireturn, 1) := by decide +kernel
theorem dX3_take_11 : decode cX3_take 11 = .ok (.aload_n 0, 1) := by decide +kernel
theorem dX3_take_12 : decode cX3_take 12 = .ok (.getfield 17, 3) := by decide +kernel
theorem dX3_take_15 : decode cX3_take 15 = .ok (.bipush 8, 2) := by decide +kernel
theorem dX3_take_17 : decode cX3_take 17 = .ok (.iload_n 1, 1) := by decide +kernel
theorem dX3_take_18 : decode cX3_take 18 = .ok (.imul, 1) := by decide +kernel
theorem dX3_take_19 : decode cX3_take 19 = .ok (.iload_n 2, 1) := by decide +kernel
theorem dX3_take_20 : decode cX3_take 20 = .ok (.iadd, 1) := by decide +kernel
theorem dX3_take_21 : decode cX3_take 21 = .ok (.iaload, 1) := by decide +kernel
theorem dX3_take_22 : decode cX3_take 22 = .ok (.istore_n 3, 1) := by decide +kernel
theorem dX3_take_23 : decode cX3_take 23 = .ok (.aload_n 0, 1) := by decide +kernel
theorem dX3_take_24 : decode cX3_take 24 = .ok (.getfield 13, 3) := by decide +kernel
theorem dX3_take_27 : decode cX3_take 27 = .ok (.iload_n 1, 1) := by decide +kernel
theorem dX3_take_28 : decode cX3_take 28 = .ok (.dup2, 1) := by decide +kernel
theorem dX3_take_29 : decode cX3_take 29 = .ok (.iaload, 1) := by decide +kernel
theorem dX3_take_30 : decode cX3_take 30 = .ok (.iconst 1, 1) := by decide +kernel
theorem dX3_take_31 : decode cX3_take 31 = .ok (.isub, 1) := by decide +kernel
theorem dX3_take_32 : decode cX3_take 32 = .ok (.iastore, 1) := by decide +kernel
theorem dX3_take_33 : decode cX3_take 33 = .ok (.bipush 8, 2) := by decide +kernel
theorem dX3_take_35 : decode cX3_take 35 = .ok (.iload_n 1, 1) := by decide +kernel
theorem dX3_take_36 : decode cX3_take 36 = .ok (.imul, 1) := by decide +kernel
theorem dX3_take_37 : decode cX3_take 37 = .ok (.iload_n 2, 1) := by decide +kernel
theorem dX3_take_38 : decode cX3_take 38 = .ok (.iadd, 1) := by decide +kernel
theorem dX3_take_39 : decode cX3_take 39 = .ok (.istore 4, 2) := by decide +kernel
theorem dX3_take_41 : decode cX3_take 41 = .ok (.iload 4, 2) := by decide +kernel
theorem dX3_take_43 : decode cX3_take 43 = .ok (.bipush 8, 2) := by decide +kernel
theorem dX3_take_45 : decode cX3_take 45 = .ok (.iload_n 1, 1) := by decide +kernel
theorem dX3_take_46 : decode cX3_take 46 = .ok (.imul, 1) := by decide +kernel
theorem dX3_take_47 : decode cX3_take 47 = .ok (.aload_n 0, 1) := by decide +kernel
theorem dX3_take_48 : decode cX3_take 48 = .ok (.getfield 13, 3) := by decide +kernel
theorem dX3_take_51 : decode cX3_take 51 = .ok (.iload_n 1, 1) := by decide +kernel
theorem dX3_take_52 : decode cX3_take 52 = .ok (.iaload, 1) := by decide +kernel
theorem dX3_take_53 : decode cX3_take 53 = .ok (.iadd, 1) := by decide +kernel
theorem dX3_take_54 : decode cX3_take 54 = .ok (.if_icmp .ge 42, 3) := by decide +kernel
theorem dX3_take_57 : decode cX3_take 57 = .ok (.aload_n 0, 1) := by decide +kernel
theorem dX3_take_58 : decode cX3_take 58 = .ok (.iload 4, 2) := by decide +kernel
theorem dX3_take_60 : decode cX3_take 60 = .ok (.aload_n 0, 1) := by decide +kernel
theorem dX3_take_61 : decode cX3_take 61 = .ok (.getfield 17, 3) := by decide +kernel
theorem dX3_take_64 : decode cX3_take 64 = .ok (.iload 4, 2) := by decide +kernel
theorem dX3_take_66 : decode cX3_take 66 = .ok (.iconst 1, 1) := by decide +kernel
theorem dX3_take_67 : decode cX3_take 67 = .ok (.iadd, 1) := by decide +kernel
theorem dX3_take_68 : decode cX3_take 68 = .ok (.iaload, 1) := by decide +kernel
theorem dX3_take_69 : decode cX3_take 69 = .ok (.aload_n 0, 1) := by decide +kernel
theorem dX3_take_70 : decode cX3_take 70 = .ok (.getfield 20, 3) := by decide +kernel
theorem dX3_take_73 : decode cX3_take 73 = .ok (.iload 4, 2) := by decide +kernel
theorem dX3_take_75 : decode cX3_take 75 = .ok (.iconst 1, 1) := by decide +kernel
theorem dX3_take_76 : decode cX3_take 76 = .ok (.iadd, 1) := by decide +kernel
theorem dX3_take_77 : decode cX3_take 77 = .ok (.iaload, 1) := by decide +kernel
theorem dX3_take_78 : decode cX3_take 78 = .ok (.aload_n 0, 1) := by decide +kernel
theorem dX3_take_79 : decode cX3_take 79 = .ok (.getfield 23, 3) := by decide +kernel
theorem dX3_take_82 : decode cX3_take 82 = .ok (.iload 4, 2) := by decide +kernel
theorem dX3_take_84 : decode cX3_take 84 = .ok (.iconst 1, 1) := by decide +kernel
theorem dX3_take_85 : decode cX3_take 85 = .ok (.iadd, 1) := by decide +kernel
theorem dX3_take_86 : decode cX3_take 86 = .ok (.iaload, 1) := by decide +kernel
theorem dX3_take_87 : decode cX3_take 87 = .ok (.invokevirtual 61, 3) := by decide +kernel
theorem dX3_take_90 : decode cX3_take 90 = .ok (.iinc 4 1, 3) := by decide +kernel
theorem dX3_take_93 : decode cX3_take 93 = .ok (.goto (-52), 3) := by decide +kernel
theorem dX3_take_96 : decode cX3_take 96 = .ok (.iload_n 3, 1) := by decide +kernel
theorem dX3_take_97 : decode cX3_take 97 = .ok (.ireturn, 1) := by decide +kernel
set_option maxRecDepth 20000 in
theorem ggX3_set_X3_isPart : GoodIn wsX3_set wsX3_isPart := goodIn_r _ [8, 9, 10, 11, 12, 7, 13, 14, 15, 16, 17, 18, 27, 28, 29, 30, 31, 32, 33, 34, 35] (by decide +kernel) (by decide +kernel)
set_option maxRecDepth 20000 in
theorem gX3_set_X3_isPart : GoodIn wsX3_set (wsV RX3 65 RX3 yX3_isPart wsX3_isPart) := goodIn_app (goodIn_of _ (by decide +kernel)) ggX3_set_X3_isPart
set_option maxRecDepth 20000 in
theorem ggX3_set_X3_isGood : GoodIn wsX3_set wsX3_isGood := goodIn_r _ [22, 15, 16, 17, 7, 18, 23, 24, 25, 26] (by decide +kernel) (by decide +kernel)
set_option maxRecDepth 20000 in
theorem gX3_set_X3_isGood : GoodIn wsX3_set (wsV RX3 51 RX3 yX3_isGood wsX3_isGood) := goodIn_app (goodIn_of _ (by decide +kernel)) ggX3_set_X3_isGood
theorem dX3_set_0 : decode cX3_set 0 = .ok (.aload_n 0, 1) := by decide +kernel
theorem dX3_set_1 : decode cX3_set 1 = .ok (.iload_n 1, 1) := by decide +kernel
theorem dX3_set_2 : decode cX3_set 2 = .ok (.iload_n 2, 1) := by decide +kernel
theorem dX3_set_3 : decode cX3_set 3 = .ok (.invokevirtual 65, 3) := by decide +kernel
theorem dX3_set_6 : decode cX3_set 6 = .ok (.ifCond .ne 5, 3) := by decide +kernel
theorem dX3_set_9 : decode cX3_set 9 = .ok (.iconst (-1), 1) := by decide +kernel
theorem dX3_set_10 : decode cX3_set 10 = .ok (.ireturn, 1) := by decide +kernel
theorem dX3_set_11 : decode cX3_set 11 = .ok (.aload_n 0, 1) := by decide +kernel
theorem dX3_set_12 : decode cX3_set 12 = .ok (.aload_n 0, 1) := by decide +kernel
theorem dX3_set_13 : decode cX3_set 13 = .ok (.getfield 17, 3) := by decide +kernel
theorem dX3_set_16 : decode cX3_set 16 = .ok (.bipush 8, 2) := by decide +kernel
theorem dX3_set_18 : decode cX3_set 18 = .ok (.iload_n 1, 1) := by decide +kernel
theorem dX3_set_19 : decode cX3_set 19 = .ok (.imul, 1) := by decide +kernel
theorem dX3_set_20 : decode cX3_set 20 = .ok (.iload_n 2, 1) := by decide +kernel
theorem dX3_set_21 : decode cX3_set 21 = .ok (.iadd, 1) := by decide +kernel
theorem dX3_set_22 : decode cX3_set 22 = .ok (.iaload, 1) := by decide +kernel
theorem dX3_set_23 : decode cX3_set 23 = .ok (.iload_n 3, 1) := by decide +kernel
theorem dX3_set_24 : decode cX3_set 24 = .ok (.iload 4, 2) := by decide +kernel
theorem dX3_set_26 : decode cX3_set 26 = .ok (.invokevirtual 51, 3) := by decide +kernel
theorem dX3_set_29 : decode cX3_set 29 = .ok (.ifCond .ne 6, 3) := by decide +kernel
theorem dX3_set_32 : decode cX3_set 32 = .ok (.bipush (-2), 2) := by decide +kernel
theorem dX3_set_34 : decode cX3_set 34 = .ok (.ireturn, 1) := by decide +kernel
theorem dX3_set_35 : decode cX3_set 35 = .ok (.aload_n 0, 1) := by decide +kernel
theorem dX3_set_36 : decode cX3_set 36 = .ok (.getfield 20, 3) := by decide +kernel
theorem dX3_set_39 : decode cX3_set 39 = .ok (.bipush 8, 2) := by decide +kernel
theorem dX3_set_41 : decode cX3_set 41 = .ok (.iload_n 1, 1) := by decide +kernel
theorem dX3_set_42 : decode cX3_set 42 = .ok (.imul, 1) := by decide +kernel
theorem dX3_set_43 : decode cX3_set 43 = .ok (.iload_n 2, 1) := by decide +kernel
theorem dX3_set_44 : decode cX3_set 44 = .ok (.iadd, 1) := by decide +kernel
theorem dX3_set_45 : decode cX3_set 45 = .ok (.iload_n 3, 1) := by decide +kernel
theorem dX3_set_46 : decode cX3_set 46 = .ok (.iastore, 1) := by decide +kernel
theorem dX3_set_47 : decode cX3_set 47 = .ok (.aload_n 0, 1) := by decide +kernel
theorem dX3_set_48 : decode cX3_set 48 = .ok (.getfield 23, 3) := by decide +kernel
theorem dX3_set_51 : decode cX3_set 51 = .ok (.bipush 8, 2) := by decide +kernel
theorem dX3_set_53 : decode cX3_set 53 = .ok (.iload_n 1, 1) := by decide +kernel
theorem dX3_set_54 : decode cX3_set 54 = .ok (.imul, 1) := by decide +kernel
theorem dX3_set_55 : decode cX3_set 55 = .ok (.iload_n 2, 1) := by decide +kernel
theorem dX3_set_56 : decode cX3_set 56 = .ok (.iadd, 1) := by decide +kernel
theorem dX3_set_57 : decode cX3_set 57 = .ok (.iload 4, 2) := by decide +kernel
theorem dX3_set_59 : decode cX3_set 59 = .ok (.iastore, 1) := by decide +kernel
theorem dX3_set_60 : decode cX3_set 60 = .ok (.iconst 0, 1) := by decide +kernel
theorem dX3_set_61 : decode cX3_set 61 = .ok (.ireturn, 1) := by decide +kernel
set_option maxRecDepth 20000 in
theorem ggX3_part_X3_isPart : GoodIn wsX3_part wsX3_isPart := goodIn_r _ [8, 9, 10, 11, 12, 7, 13, 14, 15, 16, 17, 18, 19, 20, 21, 22, 23, 24, 25, 26, 27] (by decide +kernel) (by decide +kernel)
set_option maxRecDepth 20000 in
theorem gX3_part_X3_isPart : GoodIn wsX3_part (wsV RX3 65 RX3 yX3_isPart wsX3_isPart) := goodIn_app (goodIn_of _ (by decide +kernel)) ggX3_part_X3_isPart
set_option maxRecDepth 20000 in
theorem ggX3_part_X3_in : GoodIn wsX3_part wsX3_in := goodIn_r _ [18] (by decide +kernel) (by decide +kernel)
set_option maxRecDepth 20000 in
theorem gX3_part_X3_in : GoodIn wsX3_part (wsV RX3 40 RX3 yX3_in wsX3_in) := goodIn_app (goodIn_of _ (by decide +kernel)) ggX3_part_X3_in
theorem dX3_part_0 : decode cX3_part 0 = .ok (.aload_n 0, 1) := by decide +kernel
theorem dX3_part_1 : decode cX3_part 1 = .ok (.iload_n 1, 1) := by decide +kernel
theorem dX3_part_2 : decode cX3_part 2 = .ok (.iload_n 2, 1) := by decide +kernel
theorem dX3_part_3 : decode cX3_part 3 = .ok (.invokevirtual 65, 3) := by decide +kernel
theorem dX3_part_6 : decode cX3_part 6 = .ok (.ifCond .eq 13, 3) := by decide +kernel
theorem dX3_part_9 : decode cX3_part 9 = .ok (.aload_n 0, 1) := by decide +kernel
theorem dX3_part_10 : decode cX3_part 10 = .ok (.iload_n 3, 1) := by decide +kernel
theorem dX3_part_11 : decode cX3_part 11 = .ok (.iconst 0, 1) := by decide +kernel
theorem dX3_part_12 : decode cX3_part 12 = .ok (.iconst 2, 1) := by decide +kernel
theorem dX3_part_13 : decode cX3_part 13 = .ok (.invokevirtual 40, 3) := by decide +kernel
theorem dX3_part_16 : decode cX3_part 16 = .ok (.ifCond .ne 6, 3) := by decide +kernel
theorem dX3_part_19 : decode cX3_part 19 = .ok (.bipush (-100), 2) := by decide +kernel
theorem dX3_part_21 : decode cX3_part 21 = .ok (.ireturn, 1) := by decide +kernel
theorem dX3_part_22 : decode cX3_part 22 = .ok (.iload_n 3, 1) := by decide +kernel
theorem dX3_part_23 : decode cX3_part 23 = .ok (.ifCond .ne 17, 3) := by decide +kernel
theorem dX3_part_26 : decode cX3_part 26 = .ok (.aload_n 0, 1) := by decide +kernel
theorem dX3_part_27 : decode cX3_part 27 = .ok (.getfield 17, 3) := by decide +kernel
theorem dX3_part_30 : decode cX3_part 30 = .ok (.bipush 8, 2) := by decide +kernel
theorem dX3_part_32 : decode cX3_part 32 = .ok (.iload_n 1, 1) := by decide +kernel
theorem dX3_part_33 : decode cX3_part 33 = .ok (.imul, 1) := by decide +kernel
theorem dX3_part_34 : decode cX3_part 34 = .ok (.iload_n 2, 1) := by decide +kernel
theorem dX3_part_35 : decode cX3_part 35 = .ok (.iadd, 1) := by decide +kernel
theorem dX3_part_36 : decode cX3_part 36 = .ok (.iaload, 1) := by decide +kernel
theorem dX3_part_37 : decode cX3_part 37 = .ok (.goto 33, 3) := by decide +kernel
theorem dX3_part_40 : decode cX3_part 40 = .ok (.iload_n 3, 1) := by decide +kernel
theorem dX3_part_41 : decode cX3_part 41 = .ok (.iconst 1, 1) := by decide +kernel
theorem dX3_part_42 : decode cX3_part 42 = .ok (.if_icmp .ne 17, 3) := by decide +kernel
theorem dX3_part_45 : decode cX3_part 45 = .ok (.aload_n 0, 1) := by decide +kernel
theorem dX3_part_46 : decode cX3_part 46 = .ok (.getfield 20, 3) := by decide +kernel
theorem dX3_part_49 : decode cX3_part 49 = .ok (.bipush 8, 2) := by decide +kernel
theorem dX3_part_51 : decode cX3_part 51 = .ok (.iload_n 1, 1) := by decide +kernel
theorem dX3_part_52 : decode cX3_part 52 = .ok (.imul, 1) := by decide +kernel
theorem dX3_part_53 : decode cX3_part 53 = .ok (.iload_n 2, 1) := by decide +kernel
theorem dX3_part_54 : decode cX3_part 54 = .ok (.iadd, 1) := by decide +kernel
theorem dX3_part_55 : decode cX3_part 55 = .ok (.iaload, 1) := by decide +kernel
theorem dX3_part_56 : decode cX3_part 56 = .ok (.goto 14, 3) := by decide +kernel
theorem dX3_part_59 : decode cX3_part 59 = .ok (.aload_n 0, 1) := by decide +kernel
theorem dX3_part_60 : decode cX3_part 60 = .ok (.getfield 23, 3) := by decide +kernel
theorem dX3_part_63 : decode cX3_part 63 = .ok (.bipush 8, 2) := by decide +kernel
theorem dX3_part_65 : decode cX3_part 65 = .ok (.iload_n 1, 1) := by decide +kernel
theorem dX3_part_66 : decode cX3_part 66 = .ok (.imul, 1) := by decide +kernel
theorem dX3_part_67 : decode cX3_part 67 = .ok (.iload_n 2, 1) := by decide +kernel
theorem dX3_part_68 : decode cX3_part 68 = .ok (.iadd, 1) := by decide +kernel
theorem dX3_part_69 : decode cX3_part 69 = .ok (.iaload, 1) := by decide +kernel
theorem dX3_part_70 : decode cX3_part 70 = .ok (.ireturn, 1) := by decide +kernel
set_option maxRecDepth 20000 in
theorem ggX3_turn_X3_isBench : GoodIn wsX3_turn wsX3_isBench := goodIn_r _ [9, 10, 11, 12, 13, 8, 14, 19, 20, 21, 22, 23, 24, 25, 26, 27] (by decide +kernel) (by decide +kernel)
set_option maxRecDepth 20000 in
theorem gX3_turn_X3_isBench : GoodIn wsX3_turn (wsV RX3 44 RX3 yX3_isBench wsX3_isBench) := goodIn_app (goodIn_of _ (by decide +kernel)) ggX3_turn_X3_isBench
set_option maxRecDepth 20000 in
theorem ggX3_turn_X3_lay : GoodIn wsX3_turn wsX3_lay := goodIn_r _ [18, 2, 3, 4, 19, 20, 21, 22, 23, 24, 25, 26, 27] (by decide +kernel) (by decide +kernel)
set_option maxRecDepth 20000 in
theorem gX3_turn_X3_lay : GoodIn wsX3_turn (wsV RX3 61 RX3 yX3_lay wsX3_lay) := goodIn_app (goodIn_of _ (by decide +kernel)) ggX3_turn_X3_lay
theorem dX3_turn_0 : decode cX3_turn 0 = .ok (.aload_n 0, 1) := by decide +kernel
theorem dX3_turn_1 : decode cX3_turn 1 = .ok (.iload_n 1, 1) := by decide +kernel
theorem dX3_turn_2 : decode cX3_turn 2 = .ok (.invokevirtual 44, 3) := by decide +kernel
theorem dX3_turn_5 : decode cX3_turn 5 = .ok (.ifCond .ne 5, 3) := by decide +kernel
theorem dX3_turn_8 : decode cX3_turn 8 = .ok (.iconst (-1), 1) := by decide +kernel
theorem dX3_turn_9 : decode cX3_turn 9 = .ok (.ireturn, 1) := by decide +kernel
theorem dX3_turn_10 : decode cX3_turn 10 = .ok (.iconst 0, 1) := by decide +kernel
theorem dX3_turn_11 : decode cX3_turn 11 = .ok (.istore_n 2, 1) := by decide +kernel
theorem dX3_turn_12 : decode cX3_turn 12 = .ok (.iconst 2, 1) := by decide +kernel
theorem dX3_turn_13 : decode cX3_turn 13 = .ok (.iload_n 2, 1) := by decide +kernel
theorem dX3_turn_14 : decode cX3_turn 14 = .ok (.imul, 1) := by decide +kernel
theorem dX3_turn_15 : decode cX3_turn 15 = .ok (.aload_n 0, 1) := by decide +kernel
theorem dX3_turn_16 : decode cX3_turn 16 = .ok (.getfield 13, 3) := by decide +kernel
theorem dX3_turn_19 : decode cX3_turn 19 = .ok (.iload_n 1, 1) := by decide +kernel
theorem dX3_turn_20 : decode cX3_turn 20 = .ok (.iaload, 1) := by decide +kernel
theorem dX3_turn_21 : decode cX3_turn 21 = .ok (.iconst 1, 1) := by decide +kernel
theorem dX3_turn_22 : decode cX3_turn 22 = .ok (.isub, 1) := by decide +kernel
theorem dX3_turn_23 : decode cX3_turn 23 = .ok (.if_icmp .ge 95, 3) := by decide +kernel
theorem dX3_turn_26 : decode cX3_turn 26 = .ok (.bipush 8, 2) := by decide +kernel
theorem dX3_turn_28 : decode cX3_turn 28 = .ok (.iload_n 1, 1) := by decide +kernel
theorem dX3_turn_29 : decode cX3_turn 29 = .ok (.imul, 1) := by decide +kernel
theorem dX3_turn_30 : decode cX3_turn 30 = .ok (.iload_n 2, 1) := by decide +kernel
theorem dX3_turn_31 : decode cX3_turn 31 = .ok (.iadd, 1) := by decide +kernel
theorem dX3_turn_32 : decode cX3_turn 32 = .ok (.istore_n 3, 1) := by decide +kernel
theorem dX3_turn_33 : decode cX3_turn 33 = .ok (.bipush 8, 2) := by decide +kernel
theorem dX3_turn_35 : decode cX3_turn 35 = .ok (.iload_n 1, 1) := by decide +kernel
theorem dX3_turn_36 : decode cX3_turn 36 = .ok (.imul, 1) := by decide +kernel
theorem dX3_turn_37 : decode cX3_turn 37 = .ok (.aload_n 0, 1) := by decide +kernel
theorem dX3_turn_38 : decode cX3_turn 38 = .ok (.getfield 13, 3) := by decide +kernel
theorem dX3_turn_41 : decode cX3_turn 41 = .ok (.iload_n 1, 1) := by decide +kernel
theorem dX3_turn_42 : decode cX3_turn 42 = .ok (.iaload, 1) := by decide +kernel
theorem dX3_turn_43 : decode cX3_turn 43 = .ok (.iadd, 1) := by decide +kernel
theorem dX3_turn_44 : decode cX3_turn 44 = .ok (.iconst 1, 1) := by decide +kernel
theorem dX3_turn_45 : decode cX3_turn 45 = .ok (.isub, 1) := by decide +kernel
theorem dX3_turn_46 : decode cX3_turn 46 = .ok (.iload_n 2, 1) := by decide +kernel
theorem dX3_turn_47 : decode cX3_turn 47 = .ok (.isub, 1) := by decide +kernel
theorem dX3_turn_48 : decode cX3_turn 48 = .ok (.istore 4, 2) := by decide +kernel
theorem dX3_turn_50 : decode cX3_turn 50 = .ok (.aload_n 0, 1) := by decide +kernel
theorem dX3_turn_51 : decode cX3_turn 51 = .ok (.getfield 17, 3) := by decide +kernel
theorem dX3_turn_54 : decode cX3_turn 54 = .ok (.iload_n 3, 1) := by decide +kernel
theorem dX3_turn_55 : decode cX3_turn 55 = .ok (.iaload, 1) := by decide +kernel
theorem dX3_turn_56 : decode cX3_turn 56 = .ok (.istore 5, 2) := by decide +kernel
theorem dX3_turn_58 : decode cX3_turn 58 = .ok (.aload_n 0, 1) := by decide +kernel
theorem dX3_turn_59 : decode cX3_turn 59 = .ok (.getfield 20, 3) := by decide +kernel
theorem dX3_turn_62 : decode cX3_turn 62 = .ok (.iload_n 3, 1) := by decide +kernel
theorem dX3_turn_63 : decode cX3_turn 63 = .ok (.iaload, 1) := by decide +kernel
theorem dX3_turn_64 : decode cX3_turn 64 = .ok (.istore 6, 2) := by decide +kernel
theorem dX3_turn_66 : decode cX3_turn 66 = .ok (.aload_n 0, 1) := by decide +kernel
theorem dX3_turn_67 : decode cX3_turn 67 = .ok (.getfield 23, 3) := by decide +kernel
theorem dX3_turn_70 : decode cX3_turn 70 = .ok (.iload_n 3, 1) := by decide +kernel
theorem dX3_turn_71 : decode cX3_turn 71 = .ok (.iaload, 1) := by decide +kernel
theorem dX3_turn_72 : decode cX3_turn 72 = .ok (.istore 7, 2) := by decide +kernel
theorem dX3_turn_74 : decode cX3_turn 74 = .ok (.aload_n 0, 1) := by decide +kernel
theorem dX3_turn_75 : decode cX3_turn 75 = .ok (.iload_n 3, 1) := by decide +kernel
theorem dX3_turn_76 : decode cX3_turn 76 = .ok (.aload_n 0, 1) := by decide +kernel
theorem dX3_turn_77 : decode cX3_turn 77 = .ok (.getfield 17, 3) := by decide +kernel
theorem dX3_turn_80 : decode cX3_turn 80 = .ok (.iload 4, 2) := by decide +kernel
theorem dX3_turn_82 : decode cX3_turn 82 = .ok (.iaload, 1) := by decide +kernel
theorem dX3_turn_83 : decode cX3_turn 83 = .ok (.aload_n 0, 1) := by decide +kernel
theorem dX3_turn_84 : decode cX3_turn 84 = .ok (.getfield 20, 3) := by decide +kernel
theorem dX3_turn_87 : decode cX3_turn 87 = .ok (.iload 4, 2) := by decide +kernel
theorem dX3_turn_89 : decode cX3_turn 89 = .ok (.iaload, 1) := by decide +kernel
theorem dX3_turn_90 : decode cX3_turn 90 = .ok (.aload_n 0, 1) := by decide +kernel
theorem dX3_turn_91 : decode cX3_turn 91 = .ok (.getfield 23, 3) := by decide +kernel
theorem dX3_turn_94 : decode cX3_turn 94 = .ok (.iload 4, 2) := by decide +kernel
theorem dX3_turn_96 : decode cX3_turn 96 = .ok (.iaload, 1) := by decide +kernel
theorem dX3_turn_97 : decode cX3_turn 97 = .ok (.invokevirtual 61, 3) := by decide +kernel
theorem dX3_turn_100 : decode cX3_turn 100 = .ok (.aload_n 0, 1) := by decide +kernel
theorem dX3_turn_101 : decode cX3_turn 101 = .ok (.iload 4, 2) := by decide +kernel
theorem dX3_turn_103 : decode cX3_turn 103 = .ok (.iload 5, 2) := by decide +kernel
theorem dX3_turn_105 : decode cX3_turn 105 = .ok (.iload 6, 2) := by decide +kernel
theorem dX3_turn_107 : decode cX3_turn 107 = .ok (.iload 7, 2) := by decide +kernel
theorem dX3_turn_109 : decode cX3_turn 109 = .ok (.invokevirtual 61, 3) := by decide +kernel
theorem dX3_turn_112 : decode cX3_turn 112 = .ok (.iinc 2 1, 3) := by decide +kernel
theorem dX3_turn_115 : decode cX3_turn 115 = .ok (.goto (-103), 3) := by decide +kernel
theorem dX3_turn_118 : decode cX3_turn 118 = .ok (.aload_n 0, 1) := by decide +kernel
theorem dX3_turn_119 : decode cX3_turn 119 = .ok (.getfield 13, 3) := by decide +kernel
theorem dX3_turn_122 : decode cX3_turn 122 = .ok (.iload_n 1, 1) := by decide +kernel
theorem dX3_turn_123 : decode cX3_turn 123 = .ok (.iaload, 1) := by decide +kernel
theorem dX3_turn_124 : decode cX3_turn 124 = .ok (.ireturn, 1) := by decide +kernel
set_option maxRecDepth 20000 in
theorem ggX3_join_X3_isBench : GoodIn wsX3_join wsX3_isBench := goodIn_r _ [9, 10, 11, 12, 13, 8, 14, 27, 28, 29, 30, 31, 32, 33, 34, 35] (by decide +kernel) (by decide +kernel)
set_option maxRecDepth 20000 in
theorem gX3_join_X3_isBench : GoodIn wsX3_join (wsV RX3 44 RX3 yX3_isBench wsX3_isBench) := goodIn_app (goodIn_of _ (by decide +kernel)) ggX3_join_X3_isBench
set_option maxRecDepth 20000 in
theorem ggX3_join_X3_bent : GoodIn wsX3_join wsX3_bent := goodIn_r _ [18, 1, 2, 27, 28, 29, 30, 31, 32, 33, 34, 35] (by decide +kernel) (by decide +kernel)
set_option maxRecDepth 20000 in
theorem gX3_join_X3_bent : GoodIn wsX3_join (wsV RX3 54 RX3 yX3_bent wsX3_bent) := goodIn_app (goodIn_of _ (by decide +kernel)) ggX3_join_X3_bent
set_option maxRecDepth 20000 in
theorem ggX3_join_X3_tilts : GoodIn wsX3_join wsX3_tilts := goodIn_r _ [22, 1, 2, 27, 28, 29, 30, 31, 32, 33, 34, 35] (by decide +kernel) (by decide +kernel)
set_option maxRecDepth 20000 in
theorem gX3_join_X3_tilts : GoodIn wsX3_join (wsV RX3 58 RX3 yX3_tilts wsX3_tilts) := goodIn_app (goodIn_of _ (by decide +kernel)) ggX3_join_X3_tilts
set_option maxRecDepth 20000 in
theorem ggX3_join_X3_lay : GoodIn wsX3_join wsX3_lay := goodIn_r _ [26, 2, 3, 4, 27, 28, 29, 30, 31, 32, 33, 34, 35] (by decide +kernel) (by decide +kernel)
set_option maxRecDepth 20000 in
theorem gX3_join_X3_lay : GoodIn wsX3_join (wsV RX3 61 RX3 yX3_lay wsX3_lay) := goodIn_app (goodIn_of _ (by decide +kernel)) ggX3_join_X3_lay
theorem dX3_join_0 : decode cX3_join 0 = .ok (.aload_n 0, 1) := by decide +kernel
theorem dX3_join_1 : decode cX3_join 1 = .ok (.iload_n 1, 1) := by decide +kernel
theorem dX3_join_2 : decode cX3_join 2 = .ok (.invokevirtual 44, 3) := by decide +kernel
theorem dX3_join_5 : decode cX3_join 5 = .ok (.ifCond .eq 11, 3) := by decide +kernel
theorem dX3_join_8 : decode cX3_join 8 = .ok (.aload_n 0, 1) := by decide +kernel
theorem dX3_join_9 : decode cX3_join 9 = .ok (.iload_n 2, 1) := by decide +kernel
theorem dX3_join_10 : decode cX3_join 10 = .ok (.invokevirtual 44, 3) := by decide +kernel
theorem dX3_join_13 : decode cX3_join 13 = .ok (.ifCond .ne 5, 3) := by decide +kernel
theorem dX3_join_16 : decode cX3_join 16 = .ok (.iconst (-1), 1) := by decide +kernel
theorem dX3_join_17 : decode cX3_join 17 = .ok (.ireturn, 1) := by decide +kernel
theorem dX3_join_18 : decode cX3_join 18 = .ok (.aload_n 0, 1) := by decide +kernel
theorem dX3_join_19 : decode cX3_join 19 = .ok (.getfield 13, 3) := by decide +kernel
theorem dX3_join_22 : decode cX3_join 22 = .ok (.iload_n 1, 1) := by decide +kernel
theorem dX3_join_23 : decode cX3_join 23 = .ok (.iaload, 1) := by decide +kernel
theorem dX3_join_24 : decode cX3_join 24 = .ok (.aload_n 0, 1) := by decide +kernel
theorem dX3_join_25 : decode cX3_join 25 = .ok (.getfield 13, 3) := by decide +kernel
theorem dX3_join_28 : decode cX3_join 28 = .ok (.iload_n 2, 1) := by decide +kernel
theorem dX3_join_29 : decode cX3_join 29 = .ok (.iaload, 1) := by decide +kernel
theorem dX3_join_30 : decode cX3_join 30 = .ok (.iadd, 1) := by decide +kernel
theorem dX3_join_31 : decode cX3_join 31 = .ok (.bipush 8, 2) := by decide +kernel
theorem dX3_join_33 : decode cX3_join 33 = .ok (.if_icmp .gt 33, 3) := by decide +kernel
theorem dX3_join_36 : decode cX3_join 36 = .ok (.aload_n 0, 1) := by decide +kernel
theorem dX3_join_37 : decode cX3_join 37 = .ok (.iload_n 1, 1) := by decide +kernel
theorem dX3_join_38 : decode cX3_join 38 = .ok (.invokevirtual 54, 3) := by decide +kernel
theorem dX3_join_41 : decode cX3_join 41 = .ok (.aload_n 0, 1) := by decide +kernel
theorem dX3_join_42 : decode cX3_join 42 = .ok (.iload_n 2, 1) := by decide +kernel
theorem dX3_join_43 : decode cX3_join 43 = .ok (.invokevirtual 54, 3) := by decide +kernel
theorem dX3_join_46 : decode cX3_join 46 = .ok (.iadd, 1) := by decide +kernel
theorem dX3_join_47 : decode cX3_join 47 = .ok (.iconst 3, 1) := by decide +kernel
theorem dX3_join_48 : decode cX3_join 48 = .ok (.if_icmp .gt 18, 3) := by decide +kernel
theorem dX3_join_51 : decode cX3_join 51 = .ok (.aload_n 0, 1) := by decide +kernel
theorem dX3_join_52 : decode cX3_join 52 = .ok (.iload_n 1, 1) := by decide +kernel
theorem dX3_join_53 : decode cX3_join 53 = .ok (.invokevirtual 58, 3) := by decide +kernel
theorem dX3_join_56 : decode cX3_join 56 = .ok (.aload_n 0, 1) := by decide +kernel
theorem dX3_join_57 : decode cX3_join 57 = .ok (.iload_n 2, 1) := by decide +kernel
theorem dX3_join_58 : decode cX3_join 58 = .ok (.invokevirtual 58, 3) := by decide +kernel
theorem dX3_join_61 : decode cX3_join 61 = .ok (.iadd, 1) := by decide +kernel
theorem dX3_join_62 : decode cX3_join 62 = .ok (.iconst 2, 1) := by decide +kernel
theorem dX3_join_63 : decode cX3_join 63 = .ok (.if_icmp .le 6, 3) := by decide +kernel
theorem dX3_join_66 : decode cX3_join 66 = .ok (.bipush (-4), 2) := by decide +kernel
theorem dX3_join_68 : decode cX3_join 68 = .ok (.ireturn, 1) := by decide +kernel
theorem dX3_join_69 : decode cX3_join 69 = .ok (.aload_n 0, 1) := by decide +kernel
theorem dX3_join_70 : decode cX3_join 70 = .ok (.getfield 13, 3) := by decide +kernel
theorem dX3_join_73 : decode cX3_join 73 = .ok (.iload_n 2, 1) := by decide +kernel
theorem dX3_join_74 : decode cX3_join 74 = .ok (.iaload, 1) := by decide +kernel
theorem dX3_join_75 : decode cX3_join 75 = .ok (.istore_n 3, 1) := by decide +kernel
theorem dX3_join_76 : decode cX3_join 76 = .ok (.iconst 0, 1) := by decide +kernel
theorem dX3_join_77 : decode cX3_join 77 = .ok (.istore 4, 2) := by decide +kernel
theorem dX3_join_79 : decode cX3_join 79 = .ok (.iload 4, 2) := by decide +kernel
theorem dX3_join_81 : decode cX3_join 81 = .ok (.iload_n 3, 1) := by decide +kernel
theorem dX3_join_82 : decode cX3_join 82 = .ok (.if_icmp .ge 63, 3) := by decide +kernel
theorem dX3_join_85 : decode cX3_join 85 = .ok (.aload_n 0, 1) := by decide +kernel
theorem dX3_join_86 : decode cX3_join 86 = .ok (.bipush 8, 2) := by decide +kernel
theorem dX3_join_88 : decode cX3_join 88 = .ok (.iload_n 1, 1) := by decide +kernel
theorem dX3_join_89 : decode cX3_join 89 = .ok (.imul, 1) := by decide +kernel
theorem dX3_join_90 : decode cX3_join 90 = .ok (.aload_n 0, 1) := by decide +kernel
theorem dX3_join_91 : decode cX3_join 91 = .ok (.getfield 13, 3) := by decide +kernel
theorem dX3_join_94 : decode cX3_join 94 = .ok (.iload_n 1, 1) := by decide +kernel
theorem dX3_join_95 : decode cX3_join 95 = .ok (.iaload, 1) := by decide +kernel
theorem dX3_join_96 : decode cX3_join 96 = .ok (.iadd, 1) := by decide +kernel
theorem dX3_join_97 : decode cX3_join 97 = .ok (.iload 4, 2) := by decide +kernel
theorem dX3_join_99 : decode cX3_join 99 = .ok (.iadd, 1) := by decide +kernel
theorem dX3_join_100 : decode cX3_join 100 = .ok (.aload_n 0, 1) := by decide +kernel
theorem dX3_join_101 : decode cX3_join 101 = .ok (.getfield 17, 3) := by decide +kernel
theorem dX3_join_104 : decode cX3_join 104 = .ok (.bipush 8, 2) := by decide +kernel
theorem dX3_join_106 : decode cX3_join 106 = .ok (.iload_n 2, 1) := by decide +kernel
theorem dX3_join_107 : decode cX3_join 107 = .ok (.imul, 1) := by decide +kernel
theorem dX3_join_108 : decode cX3_join 108 = .ok (.iload 4, 2) := by decide +kernel
theorem dX3_join_110 : decode cX3_join 110 = .ok (.iadd, 1) := by decide +kernel
theorem dX3_join_111 : decode cX3_join 111 = .ok (.iaload, 1) := by decide +kernel
theorem dX3_join_112 : decode cX3_join 112 = .ok (.aload_n 0, 1) := by decide +kernel
theorem dX3_join_113 : decode cX3_join 113 = .ok (.getfield 20, 3) := by decide +kernel
theorem dX3_join_116 : decode cX3_join 116 = .ok (.bipush 8, 2) := by decide +kernel
theorem dX3_join_118 : decode cX3_join 118 = .ok (.iload_n 2, 1) := by decide +kernel
theorem dX3_join_119 : decode cX3_join 119 = .ok (.imul, 1) := by decide +kernel
theorem dX3_join_120 : decode cX3_join 120 = .ok (.iload 4, 2) := by decide +kernel
theorem dX3_join_122 : decode cX3_join 122 = .ok (.iadd, 1) := by decide +kernel
theorem dX3_join_123 : decode cX3_join 123 = .ok (.iaload, 1) := by decide +kernel
theorem dX3_join_124 : decode cX3_join 124 = .ok (.aload_n 0, 1) := by decide +kernel
theorem dX3_join_125 : decode cX3_join 125 = .ok (.getfield 23, 3) := by decide +kernel
theorem dX3_join_128 : decode cX3_join 128 = .ok (.bipush 8, 2) := by decide +kernel
theorem dX3_join_130 : decode cX3_join 130 = .ok (.iload_n 2, 1) := by decide +kernel
theorem dX3_join_131 : decode cX3_join 131 = .ok (.imul, 1) := by decide +kernel
theorem dX3_join_132 : decode cX3_join 132 = .ok (.iload 4, 2) := by decide +kernel
theorem dX3_join_134 : decode cX3_join 134 = .ok (.iadd, 1) := by decide +kernel
theorem dX3_join_135 : decode cX3_join 135 = .ok (.iaload, 1) := by decide +kernel
theorem dX3_join_136 : decode cX3_join 136 = .ok (.invokevirtual 61, 3) := by decide +kernel
theorem dX3_join_139 : decode cX3_join 139 = .ok (.iinc 4 1, 3) := by decide +kernel
theorem dX3_join_142 : decode cX3_join 142 = .ok (.goto (-63), 3) := by decide +kernel
theorem dX3_join_145 : decode cX3_join 145 = .ok (.aload_n 0, 1) := by decide +kernel
theorem dX3_join_146 : decode cX3_join 146 = .ok (.getfield 13, 3) := by decide +kernel
theorem dX3_join_149 : decode cX3_join 149 = .ok (.iload_n 1, 1) := by decide +kernel
theorem dX3_join_150 : decode cX3_join 150 = .ok (.dup2, 1) := by decide +kernel
theorem dX3_join_151 : decode cX3_join 151 = .ok (.iaload, 1) := by decide +kernel
theorem dX3_join_152 : decode cX3_join 152 = .ok (.iload_n 3, 1) := by decide +kernel
theorem dX3_join_153 : decode cX3_join 153 = .ok (.iadd, 1) := by decide +kernel
theorem dX3_join_154 : decode cX3_join 154 = .ok (.iastore, 1) := by decide +kernel
theorem dX3_join_155 : decode cX3_join 155 = .ok (.aload_n 0, 1) := by decide +kernel
theorem dX3_join_156 : decode cX3_join 156 = .ok (.getfield 13, 3) := by decide +kernel
theorem dX3_join_159 : decode cX3_join 159 = .ok (.iload_n 1, 1) := by decide +kernel
theorem dX3_join_160 : decode cX3_join 160 = .ok (.iaload, 1) := by decide +kernel
theorem dX3_join_161 : decode cX3_join 161 = .ok (.ireturn, 1) := by decide +kernel
theorem dX3_begin_0 : decode cX3_begin 0 = .ok (.iconst 0, 1) := by decide +kernel
theorem dX3_begin_1 : decode cX3_begin 1 = .ok (.istore_n 1, 1) := by decide +kernel
theorem dX3_begin_2 : decode cX3_begin 2 = .ok (.iload_n 1, 1) := by decide +kernel
theorem dX3_begin_3 : decode cX3_begin 3 = .ok (.bipush 6, 2) := by decide +kernel
theorem dX3_begin_5 : decode cX3_begin 5 = .ok (.if_icmp .ge 16, 3) := by decide +kernel
theorem dX3_begin_8 : decode cX3_begin 8 = .ok (.aload_n 0, 1) := by decide +kernel
theorem dX3_begin_9 : decode cX3_begin 9 = .ok (.getfield 32, 3) := by decide +kernel
theorem dX3_begin_12 : decode cX3_begin 12 = .ok (.iload_n 1, 1) := by decide +kernel
theorem dX3_begin_13 : decode cX3_begin 13 = .ok (.lconst 0, 1) := by decide +kernel
theorem dX3_begin_14 : decode cX3_begin 14 = .ok (.lastore, 1) := by decide +kernel
theorem dX3_begin_15 : decode cX3_begin 15 = .ok (.iinc 1 1, 3) := by decide +kernel
theorem dX3_begin_18 : decode cX3_begin 18 = .ok (.goto (-16), 3) := by decide +kernel
theorem dX3_begin_21 : decode cX3_begin 21 = .ok (.aload_n 0, 1) := by decide +kernel
theorem dX3_begin_22 : decode cX3_begin 22 = .ok (.getfield 32, 3) := by decide +kernel
theorem dX3_begin_25 : decode cX3_begin 25 = .ok (.iconst 0, 1) := by decide +kernel
theorem dX3_begin_26 : decode cX3_begin 26 = .ok (.lconst 1, 1) := by decide +kernel
theorem dX3_begin_27 : decode cX3_begin 27 = .ok (.lastore, 1) := by decide +kernel
theorem dX3_begin_28 : decode cX3_begin 28 = .ok (.aload_n 0, 1) := by decide +kernel
theorem dX3_begin_29 : decode cX3_begin 29 = .ok (.getfield 32, 3) := by decide +kernel
theorem dX3_begin_32 : decode cX3_begin 32 = .ok (.iconst 3, 1) := by decide +kernel
theorem dX3_begin_33 : decode cX3_begin 33 = .ok (.lconst 1, 1) := by decide +kernel
theorem dX3_begin_34 : decode cX3_begin 34 = .ok (.lastore, 1) := by decide +kernel
theorem dX3_begin_35 : decode cX3_begin 35 = .ok (.aload_n 0, 1) := by decide +kernel
theorem dX3_begin_36 : decode cX3_begin 36 = .ok (.lconst 1, 1) := by decide +kernel
theorem dX3_begin_37 : decode cX3_begin 37 = .ok (.putfield 36, 3) := by decide +kernel
theorem dX3_begin_40 : decode cX3_begin 40 = .ok (.return_, 1) := by decide +kernel
theorem dX3_bend_0 : decode cX3_bend 0 = .ok (.aload_n 0, 1) := by decide +kernel
theorem dX3_bend_1 : decode cX3_bend 1 = .ok (.getfield 32, 3) := by decide +kernel
theorem dX3_bend_4 : decode cX3_bend 4 = .ok (.iconst 2, 1) := by decide +kernel
theorem dX3_bend_5 : decode cX3_bend 5 = .ok (.laload, 1) := by decide +kernel
theorem dX3_bend_6 : decode cX3_bend 6 = .ok (.lload_n 1, 1) := by decide +kernel
theorem dX3_bend_7 : decode cX3_bend 7 = .ok (.lmul, 1) := by decide +kernel
theorem dX3_bend_8 : decode cX3_bend 8 = .ok (.aload_n 0, 1) := by decide +kernel
theorem dX3_bend_9 : decode cX3_bend 9 = .ok (.getfield 32, 3) := by decide +kernel
theorem dX3_bend_12 : decode cX3_bend 12 = .ok (.iconst 0, 1) := by decide +kernel
theorem dX3_bend_13 : decode cX3_bend 13 = .ok (.laload, 1) := by decide +kernel
theorem dX3_bend_14 : decode cX3_bend 14 = .ok (.lsub, 1) := by decide +kernel
theorem dX3_bend_15 : decode cX3_bend 15 = .ok (.lstore_n 3, 1) := by decide +kernel
theorem dX3_bend_16 : decode cX3_bend 16 = .ok (.aload_n 0, 1) := by decide +kernel
theorem dX3_bend_17 : decode cX3_bend 17 = .ok (.getfield 32, 3) := by decide +kernel
theorem dX3_bend_20 : decode cX3_bend 20 = .ok (.iconst 3, 1) := by decide +kernel
theorem dX3_bend_21 : decode cX3_bend 21 = .ok (.laload, 1) := by decide +kernel
theorem dX3_bend_22 : decode cX3_bend 22 = .ok (.lload_n 1, 1) := by decide +kernel
theorem dX3_bend_23 : decode cX3_bend 23 = .ok (.lmul, 1) := by decide +kernel
theorem dX3_bend_24 : decode cX3_bend 24 = .ok (.aload_n 0, 1) := by decide +kernel
theorem dX3_bend_25 : decode cX3_bend 25 = .ok (.getfield 32, 3) := by decide +kernel
theorem dX3_bend_28 : decode cX3_bend 28 = .ok (.iconst 1, 1) := by decide +kernel
theorem dX3_bend_29 : decode cX3_bend 29 = .ok (.laload, 1) := by decide +kernel
theorem dX3_bend_30 : decode cX3_bend 30 = .ok (.lsub, 1) := by decide +kernel
theorem dX3_bend_31 : decode cX3_bend 31 = .ok (.lstore 5, 2) := by decide +kernel
theorem dX3_bend_33 : decode cX3_bend 33 = .ok (.aload_n 0, 1) := by decide +kernel
theorem dX3_bend_34 : decode cX3_bend 34 = .ok (.getfield 32, 3) := by decide +kernel
theorem dX3_bend_37 : decode cX3_bend 37 = .ok (.iconst 5, 1) := by decide +kernel
theorem dX3_bend_38 : decode cX3_bend 38 = .ok (.laload, 1) := by decide +kernel
theorem dX3_bend_39 : decode cX3_bend 39 = .ok (.lload_n 1, 1) := by decide +kernel
theorem dX3_bend_40 : decode cX3_bend 40 = .ok (.lmul, 1) := by decide +kernel
theorem dX3_bend_41 : decode cX3_bend 41 = .ok (.aload_n 0, 1) := by decide +kernel
theorem dX3_bend_42 : decode cX3_bend 42 = .ok (.getfield 32, 3) := by decide +kernel
theorem dX3_bend_45 : decode cX3_bend 45 = .ok (.iconst 4, 1) := by decide +kernel
theorem dX3_bend_46 : decode cX3_bend 46 = .ok (.laload, 1) := by decide +kernel
theorem dX3_bend_47 : decode cX3_bend 47 = .ok (.lsub, 1) := by decide +kernel
theorem dX3_bend_48 : decode cX3_bend 48 = .ok (.lstore 7, 2) := by decide +kernel
theorem dX3_bend_50 : decode cX3_bend 50 = .ok (.aload_n 0, 1) := by decide +kernel
theorem dX3_bend_51 : decode cX3_bend 51 = .ok (.getfield 32, 3) := by decide +kernel
theorem dX3_bend_54 : decode cX3_bend 54 = .ok (.iconst 0, 1) := by decide +kernel
theorem dX3_bend_55 : decode cX3_bend 55 = .ok (.dup2, 1) := by decide +kernel
theorem dX3_bend_56 : decode cX3_bend 56 = .ok (.laload, 1) := by decide +kernel
theorem dX3_bend_57 : decode cX3_bend 57 = .ok (.lload_n 1, 1) := by decide +kernel
theorem dX3_bend_58 : decode cX3_bend 58 = .ok (.lmul, 1) := by decide +kernel
theorem dX3_bend_59 : decode cX3_bend 59 = .ok (.lastore, 1) := by decide +kernel
theorem dX3_bend_60 : decode cX3_bend 60 = .ok (.aload_n 0, 1) := by decide +kernel
theorem dX3_bend_61 : decode cX3_bend 61 = .ok (.getfield 32, 3) := by decide +kernel
theorem dX3_bend_64 : decode cX3_bend 64 = .ok (.iconst 1, 1) := by decide +kernel
theorem dX3_bend_65 : decode cX3_bend 65 = .ok (.dup2, 1) := by decide +kernel
theorem dX3_bend_66 : decode cX3_bend 66 = .ok (.laload, 1) := by decide +kernel
theorem dX3_bend_67 : decode cX3_bend 67 = .ok (.lload_n 1, 1) := by decide +kernel
theorem dX3_bend_68 : decode cX3_bend 68 = .ok (.lmul, 1) := by decide +kernel
theorem dX3_bend_69 : decode cX3_bend 69 = .ok (.lastore, 1) := by decide +kernel
theorem dX3_bend_70 : decode cX3_bend 70 = .ok (.aload_n 0, 1) := by decide +kernel
theorem dX3_bend_71 : decode cX3_bend 71 = .ok (.getfield 32, 3) := by decide +kernel
theorem dX3_bend_74 : decode cX3_bend 74 = .ok (.iconst 4, 1) := by decide +kernel
theorem dX3_bend_75 : decode cX3_bend 75 = .ok (.dup2, 1) := by decide +kernel
theorem dX3_bend_76 : decode cX3_bend 76 = .ok (.laload, 1) := by decide +kernel
theorem dX3_bend_77 : decode cX3_bend 77 = .ok (.lload_n 1, 1) := by decide +kernel
theorem dX3_bend_78 : decode cX3_bend 78 = .ok (.lmul, 1) := by decide +kernel
theorem dX3_bend_79 : decode cX3_bend 79 = .ok (.lastore, 1) := by decide +kernel
theorem dX3_bend_80 : decode cX3_bend 80 = .ok (.aload_n 0, 1) := by decide +kernel
theorem dX3_bend_81 : decode cX3_bend 81 = .ok (.getfield 32, 3) := by decide +kernel
theorem dX3_bend_84 : decode cX3_bend 84 = .ok (.iconst 2, 1) := by decide +kernel
theorem dX3_bend_85 : decode cX3_bend 85 = .ok (.lload_n 3, 1) := by decide +kernel
theorem dX3_bend_86 : decode cX3_bend 86 = .ok (.lastore, 1) := by decide +kernel
theorem dX3_bend_87 : decode cX3_bend 87 = .ok (.aload_n 0, 1) := by decide +kernel
theorem dX3_bend_88 : decode cX3_bend 88 = .ok (.getfield 32, 3) := by decide +kernel
theorem dX3_bend_91 : decode cX3_bend 91 = .ok (.iconst 3, 1) := by decide +kernel
theorem dX3_bend_92 : decode cX3_bend 92 = .ok (.lload 5, 2) := by decide +kernel
theorem dX3_bend_94 : decode cX3_bend 94 = .ok (.lastore, 1) := by decide +kernel
theorem dX3_bend_95 : decode cX3_bend 95 = .ok (.aload_n 0, 1) := by decide +kernel
theorem dX3_bend_96 : decode cX3_bend 96 = .ok (.getfield 32, 3) := by decide +kernel
theorem dX3_bend_99 : decode cX3_bend 99 = .ok (.iconst 5, 1) := by decide +kernel
theorem dX3_bend_100 : decode cX3_bend 100 = .ok (.lload 7, 2) := by decide +kernel
theorem dX3_bend_102 : decode cX3_bend 102 = .ok (.lastore, 1) := by decide +kernel
theorem dX3_bend_103 : decode cX3_bend 103 = .ok (.aload_n 0, 1) := by decide +kernel
theorem dX3_bend_104 : decode cX3_bend 104 = .ok (.dup, 1) := by decide +kernel
theorem dX3_bend_105 : decode cX3_bend 105 = .ok (.getfield 36, 3) := by decide +kernel
theorem dX3_bend_108 : decode cX3_bend 108 = .ok (.lload_n 1, 1) := by decide +kernel
theorem dX3_bend_109 : decode cX3_bend 109 = .ok (.lmul, 1) := by decide +kernel
theorem dX3_bend_110 : decode cX3_bend 110 = .ok (.putfield 36, 3) := by decide +kernel
theorem dX3_bend_113 : decode cX3_bend 113 = .ok (.return_, 1) := by decide +kernel
set_option maxRecDepth 20000 in
theorem ggX3_go_X3_bend : GoodIn wsX3_go wsX3_bend := goodIn_r _ [10, 3, 5, 11, 12, 13, 14, 15, 16, 17, 18, 19] (by decide +kernel) (by decide +kernel)
set_option maxRecDepth 20000 in
theorem gX3_go_X3_bend : GoodIn wsX3_go (wsV RX3 69 RX3 yX3_bend wsX3_bend) := goodIn_app (goodIn_of _ (by decide +kernel)) ggX3_go_X3_bend
theorem dX3_go_0 : decode cX3_go 0 = .ok (.aload_n 0, 1) := by decide +kernel
theorem dX3_go_1 : decode cX3_go 1 = .ok (.getfield 20, 3) := by decide +kernel
theorem dX3_go_4 : decode cX3_go 4 = .ok (.iload_n 1, 1) := by decide +kernel
theorem dX3_go_5 : decode cX3_go 5 = .ok (.iaload, 1) := by decide +kernel
theorem dX3_go_6 : decode cX3_go 6 = .ok (.i2l, 1) := by decide +kernel
theorem dX3_go_7 : decode cX3_go 7 = .ok (.lstore_n 3, 1) := by decide +kernel
theorem dX3_go_8 : decode cX3_go 8 = .ok (.aload_n 0, 1) := by decide +kernel
theorem dX3_go_9 : decode cX3_go 9 = .ok (.getfield 17, 3) := by decide +kernel
theorem dX3_go_12 : decode cX3_go 12 = .ok (.iload_n 1, 1) := by decide +kernel
theorem dX3_go_13 : decode cX3_go 13 = .ok (.iaload, 1) := by decide +kernel
theorem dX3_go_14 : decode cX3_go 14 = .ok (.tableswitch 132 0 3 #[30, 84, 92, 114], 30) := by decide +kernel
theorem dX3_go_44 : decode cX3_go 44 = .ok (.aload_n 0, 1) := by decide +kernel
theorem dX3_go_45 : decode cX3_go 45 = .ok (.getfield 32, 3) := by decide +kernel
theorem dX3_go_48 : decode cX3_go 48 = .ok (.iconst 0, 1) := by decide +kernel
theorem dX3_go_49 : decode cX3_go 49 = .ok (.dup2, 1) := by decide +kernel
theorem dX3_go_50 : decode cX3_go 50 = .ok (.laload, 1) := by decide +kernel
theorem dX3_go_51 : decode cX3_go 51 = .ok (.lload_n 3, 1) := by decide +kernel
theorem dX3_go_52 : decode cX3_go 52 = .ok (.aload_n 0, 1) := by decide +kernel
theorem dX3_go_53 : decode cX3_go 53 = .ok (.getfield 32, 3) := by decide +kernel
theorem dX3_go_56 : decode cX3_go 56 = .ok (.iconst 2, 1) := by decide +kernel
theorem dX3_go_57 : decode cX3_go 57 = .ok (.laload, 1) := by decide +kernel
theorem dX3_go_58 : decode cX3_go 58 = .ok (.lmul, 1) := by decide +kernel
theorem dX3_go_59 : decode cX3_go 59 = .ok (.ladd, 1) := by decide +kernel
theorem dX3_go_60 : decode cX3_go 60 = .ok (.lastore, 1) := by decide +kernel
theorem dX3_go_61 : decode cX3_go 61 = .ok (.aload_n 0, 1) := by decide +kernel
theorem dX3_go_62 : decode cX3_go 62 = .ok (.getfield 32, 3) := by decide +kernel
theorem dX3_go_65 : decode cX3_go 65 = .ok (.iconst 1, 1) := by decide +kernel
theorem dX3_go_66 : decode cX3_go 66 = .ok (.dup2, 1) := by decide +kernel
theorem dX3_go_67 : decode cX3_go 67 = .ok (.laload, 1) := by decide +kernel
theorem dX3_go_68 : decode cX3_go 68 = .ok (.lload_n 3, 1) := by decide +kernel
theorem dX3_go_69 : decode cX3_go 69 = .ok (.aload_n 0, 1) := by decide +kernel
theorem dX3_go_70 : decode cX3_go 70 = .ok (.getfield 32, 3) := by decide +kernel
theorem dX3_go_73 : decode cX3_go 73 = .ok (.iconst 3, 1) := by decide +kernel
theorem dX3_go_74 : decode cX3_go 74 = .ok (.laload, 1) := by decide +kernel
theorem dX3_go_75 : decode cX3_go 75 = .ok (.lmul, 1) := by decide +kernel
theorem dX3_go_76 : decode cX3_go 76 = .ok (.ladd, 1) := by decide +kernel
theorem dX3_go_77 : decode cX3_go 77 = .ok (.lastore, 1) := by decide +kernel
theorem dX3_go_78 : decode cX3_go 78 = .ok (.aload_n 0, 1) := by decide +kernel
theorem dX3_go_79 : decode cX3_go 79 = .ok (.getfield 32, 3) := by decide +kernel
theorem dX3_go_82 : decode cX3_go 82 = .ok (.iconst 4, 1) := by decide +kernel
theorem dX3_go_83 : decode cX3_go 83 = .ok (.dup2, 1) := by decide +kernel
theorem dX3_go_84 : decode cX3_go 84 = .ok (.laload, 1) := by decide +kernel
theorem dX3_go_85 : decode cX3_go 85 = .ok (.lload_n 3, 1) := by decide +kernel
theorem dX3_go_86 : decode cX3_go 86 = .ok (.aload_n 0, 1) := by decide +kernel
theorem dX3_go_87 : decode cX3_go 87 = .ok (.getfield 32, 3) := by decide +kernel
theorem dX3_go_90 : decode cX3_go 90 = .ok (.iconst 5, 1) := by decide +kernel
theorem dX3_go_91 : decode cX3_go 91 = .ok (.laload, 1) := by decide +kernel
theorem dX3_go_92 : decode cX3_go 92 = .ok (.lmul, 1) := by decide +kernel
theorem dX3_go_93 : decode cX3_go 93 = .ok (.ladd, 1) := by decide +kernel
theorem dX3_go_94 : decode cX3_go 94 = .ok (.lastore, 1) := by decide +kernel
theorem dX3_go_95 : decode cX3_go 95 = .ok (.goto 51, 3) := by decide +kernel
theorem dX3_go_98 : decode cX3_go 98 = .ok (.aload_n 0, 1) := by decide +kernel
theorem dX3_go_99 : decode cX3_go 99 = .ok (.lload_n 3, 1) := by decide +kernel
theorem dX3_go_100 : decode cX3_go 100 = .ok (.invokevirtual 69, 3) := by decide +kernel
theorem dX3_go_103 : decode cX3_go 103 = .ok (.goto 43, 3) := by decide +kernel
theorem dX3_go_106 : decode cX3_go 106 = .ok (.aload_n 0, 1) := by decide +kernel
theorem dX3_go_107 : decode cX3_go 107 = .ok (.iload_n 2, 1) := by decide +kernel
theorem dX3_go_108 : decode cX3_go 108 = .ok (.ifCond .ne 7, 3) := by decide +kernel
theorem dX3_go_111 : decode cX3_go 111 = .ok (.lload_n 3, 1) := by decide +kernel
theorem dX3_go_112 : decode cX3_go 112 = .ok (.goto 10, 3) := by decide +kernel
theorem dX3_go_115 : decode cX3_go 115 = .ok (.aload_n 0, 1) := by decide +kernel
theorem dX3_go_116 : decode cX3_go 116 = .ok (.getfield 23, 3) := by decide +kernel
theorem dX3_go_119 : decode cX3_go 119 = .ok (.iload_n 1, 1) := by decide +kernel
theorem dX3_go_120 : decode cX3_go 120 = .ok (.iaload, 1) := by decide +kernel
theorem dX3_go_121 : decode cX3_go 121 = .ok (.i2l, 1) := by decide +kernel
theorem dX3_go_122 : decode cX3_go 122 = .ok (.invokevirtual 69, 3) := by decide +kernel
theorem dX3_go_125 : decode cX3_go 125 = .ok (.goto 21, 3) := by decide +kernel
theorem dX3_go_128 : decode cX3_go 128 = .ok (.aload_n 0, 1) := by decide +kernel
theorem dX3_go_129 : decode cX3_go 129 = .ok (.getfield 32, 3) := by decide +kernel
theorem dX3_go_132 : decode cX3_go 132 = .ok (.iconst 5, 1) := by decide +kernel
theorem dX3_go_133 : decode cX3_go 133 = .ok (.dup2, 1) := by decide +kernel
theorem dX3_go_134 : decode cX3_go 134 = .ok (.laload, 1) := by decide +kernel
theorem dX3_go_135 : decode cX3_go 135 = .ok (.lload_n 3, 1) := by decide +kernel
theorem dX3_go_136 : decode cX3_go 136 = .ok (.aload_n 0, 1) := by decide +kernel
theorem dX3_go_137 : decode cX3_go 137 = .ok (.getfield 36, 3) := by decide +kernel
theorem dX3_go_140 : decode cX3_go 140 = .ok (.lmul, 1) := by decide +kernel
theorem dX3_go_141 : decode cX3_go 141 = .ok (.ladd, 1) := by decide +kernel
theorem dX3_go_142 : decode cX3_go 142 = .ok (.lastore, 1) := by decide +kernel
theorem dX3_go_143 : decode cX3_go 143 = .ok (.goto 3, 3) := by decide +kernel
theorem dX3_go_146 : decode cX3_go 146 = .ok (.aload_n 0, 1) := by decide +kernel
theorem dX3_go_147 : decode cX3_go 147 = .ok (.getfield 36, 3) := by decide +kernel
theorem dX3_go_150 : decode cX3_go 150 = .ok (.lconst 0, 1) := by decide +kernel
theorem dX3_go_151 : decode cX3_go 151 = .ok (.lcmp, 1) := by decide +kernel
theorem dX3_go_152 : decode cX3_go 152 = .ok (.ifCond .le 4, 3) := by decide +kernel
theorem dX3_go_155 : decode cX3_go 155 = .ok (.return_, 1) := by decide +kernel
theorem dX3_go_156 : decode cX3_go 156 = .ok (.aload_n 0, 1) := by decide +kernel
theorem dX3_go_157 : decode cX3_go 157 = .ok (.aload_n 0, 1) := by decide +kernel
theorem dX3_go_158 : decode cX3_go 158 = .ok (.getfield 36, 3) := by decide +kernel
theorem dX3_go_161 : decode cX3_go 161 = .ok (.lneg, 1) := by decide +kernel
theorem dX3_go_162 : decode cX3_go 162 = .ok (.putfield 36, 3) := by decide +kernel
theorem dX3_go_165 : decode cX3_go 165 = .ok (.iconst 0, 1) := by decide +kernel
theorem dX3_go_166 : decode cX3_go 166 = .ok (.istore 5, 2) := by decide +kernel
theorem dX3_go_168 : decode cX3_go 168 = .ok (.iload 5, 2) := by decide +kernel
theorem dX3_go_170 : decode cX3_go 170 = .ok (.bipush 6, 2) := by decide +kernel
theorem dX3_go_172 : decode cX3_go 172 = .ok (.if_icmp .ge 24, 3) := by decide +kernel
theorem dX3_go_175 : decode cX3_go 175 = .ok (.aload_n 0, 1) := by decide +kernel
theorem dX3_go_176 : decode cX3_go 176 = .ok (.getfield 32, 3) := by decide +kernel
theorem dX3_go_179 : decode cX3_go 179 = .ok (.iload 5, 2) := by decide +kernel
theorem dX3_go_181 : decode cX3_go 181 = .ok (.aload_n 0, 1) := by decide +kernel
theorem dX3_go_182 : decode cX3_go 182 = .ok (.getfield 32, 3) := by decide +kernel
theorem dX3_go_185 : decode cX3_go 185 = .ok (.iload 5, 2) := by decide +kernel
theorem dX3_go_187 : decode cX3_go 187 = .ok (.laload, 1) := by decide +kernel
theorem dX3_go_188 : decode cX3_go 188 = .ok (.lneg, 1) := by decide +kernel
theorem dX3_go_189 : decode cX3_go 189 = .ok (.lastore, 1) := by decide +kernel
theorem dX3_go_190 : decode cX3_go 190 = .ok (.iinc 5 1, 3) := by decide +kernel
theorem dX3_go_193 : decode cX3_go 193 = .ok (.goto (-25), 3) := by decide +kernel
theorem dX3_go_196 : decode cX3_go 196 = .ok (.return_, 1) := by decide +kernel
set_option maxRecDepth 20000 in
theorem ggX3_work_X3_begin : GoodIn wsX3_work wsX3_begin := goodIn_r _ [6, 7, 8, 20, 21, 22, 23, 24, 25, 26, 27, 28] (by decide +kernel) (by decide +kernel)
set_option maxRecDepth 20000 in
theorem gX3_work_X3_begin : GoodIn wsX3_work (wsV RX3 73 RX3 yX3_begin wsX3_begin) := goodIn_app (goodIn_of _ (by decide +kernel)) ggX3_work_X3_begin
set_option maxRecDepth 20000 in
theorem ggX3_work_X3_go : GoodIn wsX3_work wsX3_go := goodIn_r _ [12, 13, 14, 7, 15, 8, 16, 17, 18, 5, 19, 20, 21, 22, 23, 24, 25, 26, 27, 28] (by decide +kernel) (by decide +kernel)
set_option maxRecDepth 20000 in
theorem gX3_work_X3_go : GoodIn wsX3_work (wsV RX3 76 RX3 yX3_go wsX3_go) := goodIn_app (goodIn_of _ (by decide +kernel)) ggX3_work_X3_go
theorem dX3_work_0 : decode cX3_work 0 = .ok (.aload_n 0, 1) := by decide +kernel
theorem dX3_work_1 : decode cX3_work 1 = .ok (.invokevirtual 73, 3) := by decide +kernel
theorem dX3_work_4 : decode cX3_work 4 = .ok (.iconst 0, 1) := by decide +kernel
theorem dX3_work_5 : decode cX3_work 5 = .ok (.istore 5, 2) := by decide +kernel
theorem dX3_work_7 : decode cX3_work 7 = .ok (.iload 5, 2) := by decide +kernel
theorem dX3_work_9 : decode cX3_work 9 = .ok (.iload 4, 2) := by decide +kernel
theorem dX3_work_11 : decode cX3_work 11 = .ok (.if_icmp .ge 30, 3) := by decide +kernel
theorem dX3_work_14 : decode cX3_work 14 = .ok (.aload_n 0, 1) := by decide +kernel
theorem dX3_work_15 : decode cX3_work 15 = .ok (.bipush 8, 2) := by decide +kernel
theorem dX3_work_17 : decode cX3_work 17 = .ok (.iload_n 1, 1) := by decide +kernel
theorem dX3_work_18 : decode cX3_work 18 = .ok (.imul, 1) := by decide +kernel
theorem dX3_work_19 : decode cX3_work 19 = .ok (.iload_n 3, 1) := by decide +kernel
theorem dX3_work_20 : decode cX3_work 20 = .ok (.iload 5, 2) := by decide +kernel
theorem dX3_work_22 : decode cX3_work 22 = .ok (.iadd, 1) := by decide +kernel
theorem dX3_work_23 : decode cX3_work 23 = .ok (.aload_n 0, 1) := by decide +kernel
theorem dX3_work_24 : decode cX3_work 24 = .ok (.getfield 13, 3) := by decide +kernel
theorem dX3_work_27 : decode cX3_work 27 = .ok (.iload_n 1, 1) := by decide +kernel
theorem dX3_work_28 : decode cX3_work 28 = .ok (.iaload, 1) := by decide +kernel
theorem dX3_work_29 : decode cX3_work 29 = .ok (.irem, 1) := by decide +kernel
theorem dX3_work_30 : decode cX3_work 30 = .ok (.iadd, 1) := by decide +kernel
theorem dX3_work_31 : decode cX3_work 31 = .ok (.iload_n 2, 1) := by decide +kernel
theorem dX3_work_32 : decode cX3_work 32 = .ok (.invokevirtual 76, 3) := by decide +kernel
theorem dX3_work_35 : decode cX3_work 35 = .ok (.iinc 5 1, 3) := by decide +kernel
theorem dX3_work_38 : decode cX3_work 38 = .ok (.goto (-31), 3) := by decide +kernel
theorem dX3_work_41 : decode cX3_work 41 = .ok (.return_, 1) := by decide +kernel
theorem dX3_divisor_0 : decode cX3_divisor 0 = .ok (.lload_n 1, 1) := by decide +kernel
theorem dX3_divisor_1 : decode cX3_divisor 1 = .ok (.lconst 0, 1) := by decide +kernel
theorem dX3_divisor_2 : decode cX3_divisor 2 = .ok (.lcmp, 1) := by decide +kernel
theorem dX3_divisor_3 : decode cX3_divisor 3 = .ok (.ifCond .ge 8, 3) := by decide +kernel
theorem dX3_divisor_6 : decode cX3_divisor 6 = .ok (.lload_n 1, 1) := by decide +kernel
theorem dX3_divisor_7 : decode cX3_divisor 7 = .ok (.lneg, 1) := by decide +kernel
theorem dX3_divisor_8 : decode cX3_divisor 8 = .ok (.goto 4, 3) := by decide +kernel
theorem dX3_divisor_11 : decode cX3_divisor 11 = .ok (.lload_n 1, 1) := by decide +kernel
theorem dX3_divisor_12 : decode cX3_divisor 12 = .ok (.lstore 5, 2) := by decide +kernel
theorem dX3_divisor_14 : decode cX3_divisor 14 = .ok (.lload_n 3, 1) := by decide +kernel
theorem dX3_divisor_15 : decode cX3_divisor 15 = .ok (.lconst 0, 1) := by decide +kernel
theorem dX3_divisor_16 : decode cX3_divisor 16 = .ok (.lcmp, 1) := by decide +kernel
theorem dX3_divisor_17 : decode cX3_divisor 17 = .ok (.ifCond .ge 8, 3) := by decide +kernel
theorem dX3_divisor_20 : decode cX3_divisor 20 = .ok (.lload_n 3, 1) := by decide +kernel
theorem dX3_divisor_21 : decode cX3_divisor 21 = .ok (.lneg, 1) := by decide +kernel
theorem dX3_divisor_22 : decode cX3_divisor 22 = .ok (.goto 4, 3) := by decide +kernel
theorem dX3_divisor_25 : decode cX3_divisor 25 = .ok (.lload_n 3, 1) := by decide +kernel
theorem dX3_divisor_26 : decode cX3_divisor 26 = .ok (.lstore 7, 2) := by decide +kernel
theorem dX3_divisor_28 : decode cX3_divisor 28 = .ok (.lload 7, 2) := by decide +kernel
theorem dX3_divisor_30 : decode cX3_divisor 30 = .ok (.lconst 0, 1) := by decide +kernel
theorem dX3_divisor_31 : decode cX3_divisor 31 = .ok (.lcmp, 1) := by decide +kernel
theorem dX3_divisor_32 : decode cX3_divisor 32 = .ok (.ifCond .eq 21, 3) := by decide +kernel
theorem dX3_divisor_35 : decode cX3_divisor 35 = .ok (.lload 5, 2) := by decide +kernel
theorem dX3_divisor_37 : decode cX3_divisor 37 = .ok (.lload 7, 2) := by decide +kernel
theorem dX3_divisor_39 : decode cX3_divisor 39 = .ok (.lrem, 1) := by decide +kernel
theorem dX3_divisor_40 : decode cX3_divisor 40 = .ok (.lstore 9, 2) := by decide +kernel
theorem dX3_divisor_42 : decode cX3_divisor 42 = .ok (.lload 7, 2) := by decide +kernel
theorem dX3_divisor_44 : decode cX3_divisor 44 = .ok (.lstore 5, 2) := by decide +kernel
theorem dX3_divisor_46 : decode cX3_divisor 46 = .ok (.lload 9, 2) := by decide +kernel
theorem dX3_divisor_48 : decode cX3_divisor 48 = .ok (.lstore 7, 2) := by decide +kernel
theorem dX3_divisor_50 : decode cX3_divisor 50 = .ok (.goto (-22), 3) := by decide +kernel
theorem dX3_divisor_53 : decode cX3_divisor 53 = .ok (.lload 5, 2) := by decide +kernel
theorem dX3_divisor_55 : decode cX3_divisor 55 = .ok (.lreturn, 1) := by decide +kernel
set_option maxRecDepth 20000 in
theorem ggX3_lowest_X3_divisor : GoodIn wsX3_lowest wsX3_divisor := goodIn_r _ [5] (by decide +kernel) (by decide +kernel)
set_option maxRecDepth 20000 in
theorem gX3_lowest_X3_divisor : GoodIn wsX3_lowest (wsV RX3 80 RX3 yX3_divisor wsX3_divisor) := goodIn_app (goodIn_of _ (by decide +kernel)) ggX3_lowest_X3_divisor
theorem dX3_lowest_0 : decode cX3_lowest 0 = .ok (.lload_n 1, 1) := by decide +kernel
theorem dX3_lowest_1 : decode cX3_lowest 1 = .ok (.lconst 0, 1) := by decide +kernel
theorem dX3_lowest_2 : decode cX3_lowest 2 = .ok (.lcmp, 1) := by decide +kernel
theorem dX3_lowest_3 : decode cX3_lowest 3 = .ok (.ifCond .ne 14, 3) := by decide +kernel
theorem dX3_lowest_6 : decode cX3_lowest 6 = .ok (.iload 5, 2) := by decide +kernel
theorem dX3_lowest_8 : decode cX3_lowest 8 = .ok (.ifCond .ne 7, 3) := by decide +kernel
theorem dX3_lowest_11 : decode cX3_lowest 11 = .ok (.lconst 0, 1) := by decide +kernel
theorem dX3_lowest_12 : decode cX3_lowest 12 = .ok (.goto 4, 3) := by decide +kernel
theorem dX3_lowest_15 : decode cX3_lowest 15 = .ok (.lconst 1, 1) := by decide +kernel
theorem dX3_lowest_16 : decode cX3_lowest 16 = .ok (.lreturn, 1) := by decide +kernel
theorem dX3_lowest_17 : decode cX3_lowest 17 = .ok (.lload_n 3, 1) := by decide +kernel
theorem dX3_lowest_18 : decode cX3_lowest 18 = .ok (.lconst 0, 1) := by decide +kernel
theorem dX3_lowest_19 : decode cX3_lowest 19 = .ok (.lcmp, 1) := by decide +kernel
theorem dX3_lowest_20 : decode cX3_lowest 20 = .ok (.ifCond .ge 13, 3) := by decide +kernel
theorem dX3_lowest_23 : decode cX3_lowest 23 = .ok (.aload_n 0, 1) := by decide +kernel
theorem dX3_lowest_24 : decode cX3_lowest 24 = .ok (.lload_n 1, 1) := by decide +kernel
theorem dX3_lowest_25 : decode cX3_lowest 25 = .ok (.lload_n 3, 1) := by decide +kernel
theorem dX3_lowest_26 : decode cX3_lowest 26 = .ok (.invokevirtual 80, 3) := by decide +kernel
theorem dX3_lowest_29 : decode cX3_lowest 29 = .ok (.lneg, 1) := by decide +kernel
theorem dX3_lowest_30 : decode cX3_lowest 30 = .ok (.goto 9, 3) := by decide +kernel
theorem dX3_lowest_33 : decode cX3_lowest 33 = .ok (.aload_n 0, 1) := by decide +kernel
theorem dX3_lowest_34 : decode cX3_lowest 34 = .ok (.lload_n 1, 1) := by decide +kernel
theorem dX3_lowest_35 : decode cX3_lowest 35 = .ok (.lload_n 3, 1) := by decide +kernel
theorem dX3_lowest_36 : decode cX3_lowest 36 = .ok (.invokevirtual 80, 3) := by decide +kernel
theorem dX3_lowest_39 : decode cX3_lowest 39 = .ok (.lstore 6, 2) := by decide +kernel
theorem dX3_lowest_41 : decode cX3_lowest 41 = .ok (.iload 5, 2) := by decide +kernel
theorem dX3_lowest_43 : decode cX3_lowest 43 = .ok (.ifCond .ne 10, 3) := by decide +kernel
theorem dX3_lowest_46 : decode cX3_lowest 46 = .ok (.lload_n 1, 1) := by decide +kernel
theorem dX3_lowest_47 : decode cX3_lowest 47 = .ok (.lload 6, 2) := by decide +kernel
theorem dX3_lowest_49 : decode cX3_lowest 49 = .ok (.ldiv, 1) := by decide +kernel
theorem dX3_lowest_50 : decode cX3_lowest 50 = .ok (.goto 7, 3) := by decide +kernel
theorem dX3_lowest_53 : decode cX3_lowest 53 = .ok (.lload_n 3, 1) := by decide +kernel
theorem dX3_lowest_54 : decode cX3_lowest 54 = .ok (.lload 6, 2) := by decide +kernel
theorem dX3_lowest_56 : decode cX3_lowest 56 = .ok (.ldiv, 1) := by decide +kernel
theorem dX3_lowest_57 : decode cX3_lowest 57 = .ok (.lreturn, 1) := by decide +kernel
set_option maxRecDepth 20000 in
theorem ggX3_table_X3_isBench : GoodIn wsX3_table wsX3_isBench := goodIn_r _ [9, 10, 11, 12, 13, 8, 14, 46, 47, 48, 49, 50, 51, 52, 53, 54] (by decide +kernel) (by decide +kernel)
set_option maxRecDepth 20000 in
theorem gX3_table_X3_isBench : GoodIn wsX3_table (wsV RX3 44 RX3 yX3_isBench wsX3_isBench) := goodIn_app (goodIn_of _ (by decide +kernel)) ggX3_table_X3_isBench
set_option maxRecDepth 20000 in
theorem ggX3_table_X3_isWay : GoodIn wsX3_table wsX3_isWay := goodIn_r _ [18] (by decide +kernel) (by decide +kernel)
set_option maxRecDepth 20000 in
theorem gX3_table_X3_isWay : GoodIn wsX3_table (wsV RX3 84 RX3 yX3_isWay wsX3_isWay) := goodIn_app (goodIn_of _ (by decide +kernel)) ggX3_table_X3_isWay
set_option maxRecDepth 20000 in
theorem ggX3_table_X3_in : GoodIn wsX3_table wsX3_in := goodIn_r _ [14] (by decide +kernel) (by decide +kernel)
set_option maxRecDepth 20000 in
theorem gX3_table_X3_in : GoodIn wsX3_table (wsV RX3 40 RX3 yX3_in wsX3_in) := goodIn_app (goodIn_of _ (by decide +kernel)) ggX3_table_X3_in
set_option maxRecDepth 20000 in
theorem ggX3_table_X3_work : GoodIn wsX3_table wsX3_work := goodIn_r _ [22, 2, 23, 24, 25, 8, 26, 3, 4, 27, 28, 29, 30, 31, 32, 33, 34, 35, 36, 37, 46, 47, 48, 49, 50, 51, 52, 53, 54] (by decide +kernel) (by decide +kernel)
set_option maxRecDepth 20000 in
theorem gX3_table_X3_work : GoodIn wsX3_table (wsV RX3 89 RX3 yX3_work wsX3_work) := goodIn_app (goodIn_of _ (by decide +kernel)) ggX3_table_X3_work
set_option maxRecDepth 20000 in
theorem ggX3_table_X3_lowest : GoodIn wsX3_table wsX3_lowest := goodIn_r _ [41, 42, 43, 44, 8, 45] (by decide +kernel) (by decide +kernel)
set_option maxRecDepth 20000 in
theorem gX3_table_X3_lowest : GoodIn wsX3_table (wsV RX3 92 RX3 yX3_lowest wsX3_lowest) := goodIn_app (goodIn_of _ (by decide +kernel)) ggX3_table_X3_lowest
theorem dX3_table_0 : decode cX3_table 0 = .ok (.aload_n 0, 1) := by decide +kernel
theorem dX3_table_1 : decode cX3_table 1 = .ok (.iload_n 1, 1) := by decide +kernel
theorem dX3_table_2 : decode cX3_table 2 = .ok (.invokevirtual 44, 3) := by decide +kernel
theorem dX3_table_5 : decode cX3_table 5 = .ok (.ifCond .eq 32, 3) := by decide +kernel
theorem dX3_table_8 : decode cX3_table 8 = .ok (.aload_n 0, 1) := by decide +kernel
theorem dX3_table_9 : decode cX3_table 9 = .ok (.iload_n 2, 1) := by decide +kernel
theorem dX3_table_10 : decode cX3_table 10 = .ok (.invokevirtual 84, 3) := by decide +kernel
theorem dX3_table_13 : decode cX3_table 13 = .ok (.ifCond .eq 24, 3) := by decide +kernel
theorem dX3_table_16 : decode cX3_table 16 = .ok (.aload_n 0, 1) := by decide +kernel
theorem dX3_table_17 : decode cX3_table 17 = .ok (.iload_n 3, 1) := by decide +kernel
theorem dX3_table_18 : decode cX3_table 18 = .ok (.iconst 0, 1) := by decide +kernel
theorem dX3_table_19 : decode cX3_table 19 = .ok (.iconst 5, 1) := by decide +kernel
theorem dX3_table_20 : decode cX3_table 20 = .ok (.invokevirtual 40, 3) := by decide +kernel
theorem dX3_table_23 : decode cX3_table 23 = .ok (.ifCond .eq 14, 3) := by decide +kernel
theorem dX3_table_26 : decode cX3_table 26 = .ok (.aload_n 0, 1) := by decide +kernel
theorem dX3_table_27 : decode cX3_table 27 = .ok (.iload 4, 2) := by decide +kernel
theorem dX3_table_29 : decode cX3_table 29 = .ok (.iconst 0, 1) := by decide +kernel
theorem dX3_table_30 : decode cX3_table 30 = .ok (.iconst 1, 1) := by decide +kernel
theorem dX3_table_31 : decode cX3_table 31 = .ok (.invokevirtual 40, 3) := by decide +kernel
theorem dX3_table_34 : decode cX3_table 34 = .ok (.ifCond .ne 7, 3) := by decide +kernel
theorem dX3_table_37 : decode cX3_table 37 = .ok (.ldc2_w 87, 3) := by decide +kernel
theorem dX3_table_40 : decode cX3_table 40 = .ok (.lreturn, 1) := by decide +kernel
theorem dX3_table_41 : decode cX3_table 41 = .ok (.aload_n 0, 1) := by decide +kernel
theorem dX3_table_42 : decode cX3_table 42 = .ok (.iload_n 1, 1) := by decide +kernel
theorem dX3_table_43 : decode cX3_table 43 = .ok (.iload_n 2, 1) := by decide +kernel
theorem dX3_table_44 : decode cX3_table 44 = .ok (.iconst 0, 1) := by decide +kernel
theorem dX3_table_45 : decode cX3_table 45 = .ok (.aload_n 0, 1) := by decide +kernel
theorem dX3_table_46 : decode cX3_table 46 = .ok (.getfield 13, 3) := by decide +kernel
theorem dX3_table_49 : decode cX3_table 49 = .ok (.iload_n 1, 1) := by decide +kernel
theorem dX3_table_50 : decode cX3_table 50 = .ok (.iaload, 1) := by decide +kernel
theorem dX3_table_51 : decode cX3_table 51 = .ok (.invokevirtual 89, 3) := by decide +kernel
theorem dX3_table_54 : decode cX3_table 54 = .ok (.aload_n 0, 1) := by decide +kernel
theorem dX3_table_55 : decode cX3_table 55 = .ok (.aload_n 0, 1) := by decide +kernel
theorem dX3_table_56 : decode cX3_table 56 = .ok (.getfield 32, 3) := by decide +kernel
theorem dX3_table_59 : decode cX3_table 59 = .ok (.iload_n 3, 1) := by decide +kernel
theorem dX3_table_60 : decode cX3_table 60 = .ok (.laload, 1) := by decide +kernel
theorem dX3_table_61 : decode cX3_table 61 = .ok (.aload_n 0, 1) := by decide +kernel
theorem dX3_table_62 : decode cX3_table 62 = .ok (.getfield 36, 3) := by decide +kernel
theorem dX3_table_65 : decode cX3_table 65 = .ok (.iload 4, 2) := by decide +kernel
theorem dX3_table_67 : decode cX3_table 67 = .ok (.invokevirtual 92, 3) := by decide +kernel
theorem dX3_table_70 : decode cX3_table 70 = .ok (.lreturn, 1) := by decide +kernel
set_option maxRecDepth 20000 in
theorem ggX3_isRay_X3_in : GoodIn wsX3_isRay wsX3_in := goodIn_r _ [5] (by decide +kernel) (by decide +kernel)
set_option maxRecDepth 20000 in
theorem gX3_isRay_X3_in : GoodIn wsX3_isRay (wsV RX3 40 RX3 yX3_in wsX3_in) := goodIn_app (goodIn_of _ (by decide +kernel)) ggX3_isRay_X3_in
theorem dX3_isRay_0 : decode cX3_isRay 0 = .ok (.aload_n 0, 1) := by decide +kernel
theorem dX3_isRay_1 : decode cX3_isRay 1 = .ok (.iload_n 1, 1) := by decide +kernel
theorem dX3_isRay_2 : decode cX3_isRay 2 = .ok (.sipush (-1000), 3) := by decide +kernel
theorem dX3_isRay_5 : decode cX3_isRay 5 = .ok (.sipush 1000, 3) := by decide +kernel
theorem dX3_isRay_8 : decode cX3_isRay 8 = .ok (.invokevirtual 40, 3) := by decide +kernel
theorem dX3_isRay_11 : decode cX3_isRay 11 = .ok (.ifCond .eq 21, 3) := by decide +kernel
theorem dX3_isRay_14 : decode cX3_isRay 14 = .ok (.aload_n 0, 1) := by decide +kernel
theorem dX3_isRay_15 : decode cX3_isRay 15 = .ok (.iload_n 2, 1) := by decide +kernel
theorem dX3_isRay_16 : decode cX3_isRay 16 = .ok (.sipush (-1000), 3) := by decide +kernel
theorem dX3_isRay_19 : decode cX3_isRay 19 = .ok (.sipush 1000, 3) := by decide +kernel
theorem dX3_isRay_22 : decode cX3_isRay 22 = .ok (.invokevirtual 40, 3) := by decide +kernel
theorem dX3_isRay_25 : decode cX3_isRay 25 = .ok (.ifCond .eq 7, 3) := by decide +kernel
theorem dX3_isRay_28 : decode cX3_isRay 28 = .ok (.iconst 1, 1) := by decide +kernel
theorem dX3_isRay_29 : decode cX3_isRay 29 = .ok (.goto 4, 3) := by decide +kernel
theorem dX3_isRay_32 : decode cX3_isRay 32 = .ok (.iconst 0, 1) := by decide +kernel
theorem dX3_isRay_33 : decode cX3_isRay 33 = .ok (.ireturn, 1) := by decide +kernel
set_option maxRecDepth 20000 in
theorem ggX3_ray_X3_isBench : GoodIn wsX3_ray wsX3_isBench := goodIn_r _ [9, 10, 11, 12, 13, 8, 14, 50, 51, 52, 53, 54, 55, 56, 57, 58] (by decide +kernel) (by decide +kernel)
set_option maxRecDepth 20000 in
theorem gX3_ray_X3_isBench : GoodIn wsX3_ray (wsV RX3 44 RX3 yX3_isBench wsX3_isBench) := goodIn_app (goodIn_of _ (by decide +kernel)) ggX3_ray_X3_isBench
set_option maxRecDepth 20000 in
theorem ggX3_ray_X3_isWay : GoodIn wsX3_ray wsX3_isWay := goodIn_r _ [18] (by decide +kernel) (by decide +kernel)
set_option maxRecDepth 20000 in
theorem gX3_ray_X3_isWay : GoodIn wsX3_ray (wsV RX3 84 RX3 yX3_isWay wsX3_isWay) := goodIn_app (goodIn_of _ (by decide +kernel)) ggX3_ray_X3_isWay
set_option maxRecDepth 20000 in
theorem ggX3_ray_X3_isRay : GoodIn wsX3_ray wsX3_isRay := goodIn_r _ [22, 11, 12, 13, 8, 14] (by decide +kernel) (by decide +kernel)
set_option maxRecDepth 20000 in
theorem gX3_ray_X3_isRay : GoodIn wsX3_ray (wsV RX3 96 RX3 yX3_isRay wsX3_isRay) := goodIn_app (goodIn_of _ (by decide +kernel)) ggX3_ray_X3_isRay
set_option maxRecDepth 20000 in
theorem ggX3_ray_X3_in : GoodIn wsX3_ray wsX3_in := goodIn_r _ [14] (by decide +kernel) (by decide +kernel)
set_option maxRecDepth 20000 in
theorem gX3_ray_X3_in : GoodIn wsX3_ray (wsV RX3 40 RX3 yX3_in wsX3_in) := goodIn_app (goodIn_of _ (by decide +kernel)) ggX3_ray_X3_in
set_option maxRecDepth 20000 in
theorem ggX3_ray_X3_work : GoodIn wsX3_ray wsX3_work := goodIn_r _ [26, 1, 27, 28, 29, 8, 30, 3, 4, 31, 32, 33, 34, 35, 36, 37, 38, 39, 40, 41, 50, 51, 52, 53, 54, 55, 56, 57, 58] (by decide +kernel) (by decide +kernel)
set_option maxRecDepth 20000 in
theorem gX3_ray_X3_work : GoodIn wsX3_ray (wsV RX3 89 RX3 yX3_work wsX3_work) := goodIn_app (goodIn_of _ (by decide +kernel)) ggX3_ray_X3_work
set_option maxRecDepth 20000 in
theorem ggX3_ray_X3_lowest : GoodIn wsX3_ray wsX3_lowest := goodIn_r _ [45, 46, 47, 48, 8, 49] (by decide +kernel) (by decide +kernel)
set_option maxRecDepth 20000 in
theorem gX3_ray_X3_lowest : GoodIn wsX3_ray (wsV RX3 92 RX3 yX3_lowest wsX3_lowest) := goodIn_app (goodIn_of _ (by decide +kernel)) ggX3_ray_X3_lowest
theorem dX3_ray_0 : decode cX3_ray 0 = .ok (.aload_n 0, 1) := by decide +kernel
theorem dX3_ray_1 : decode cX3_ray 1 = .ok (.iload_n 1, 1) := by decide +kernel
theorem dX3_ray_2 : decode cX3_ray 2 = .ok (.invokevirtual 44, 3) := by decide +kernel
theorem dX3_ray_5 : decode cX3_ray 5 = .ok (.ifCond .eq 59, 3) := by decide +kernel
theorem dX3_ray_8 : decode cX3_ray 8 = .ok (.aload_n 0, 1) := by decide +kernel
theorem dX3_ray_9 : decode cX3_ray 9 = .ok (.iload_n 2, 1) := by decide +kernel
theorem dX3_ray_10 : decode cX3_ray 10 = .ok (.invokevirtual 84, 3) := by decide +kernel
theorem dX3_ray_13 : decode cX3_ray 13 = .ok (.ifCond .eq 51, 3) := by decide +kernel
theorem dX3_ray_16 : decode cX3_ray 16 = .ok (.aload_n 0, 1) := by decide +kernel
theorem dX3_ray_17 : decode cX3_ray 17 = .ok (.iload_n 3, 1) := by decide +kernel
theorem dX3_ray_18 : decode cX3_ray 18 = .ok (.iload 4, 2) := by decide +kernel
theorem dX3_ray_20 : decode cX3_ray 20 = .ok (.invokevirtual 96, 3) := by decide +kernel
theorem dX3_ray_23 : decode cX3_ray 23 = .ok (.ifCond .eq 41, 3) := by decide +kernel
theorem dX3_ray_26 : decode cX3_ray 26 = .ok (.aload_n 0, 1) := by decide +kernel
theorem dX3_ray_27 : decode cX3_ray 27 = .ok (.iload 5, 2) := by decide +kernel
theorem dX3_ray_29 : decode cX3_ray 29 = .ok (.iconst 0, 1) := by decide +kernel
theorem dX3_ray_30 : decode cX3_ray 30 = .ok (.aload_n 0, 1) := by decide +kernel
theorem dX3_ray_31 : decode cX3_ray 31 = .ok (.getfield 13, 3) := by decide +kernel
theorem dX3_ray_34 : decode cX3_ray 34 = .ok (.iload_n 1, 1) := by decide +kernel
theorem dX3_ray_35 : decode cX3_ray 35 = .ok (.iaload, 1) := by decide +kernel
theorem dX3_ray_36 : decode cX3_ray 36 = .ok (.invokevirtual 40, 3) := by decide +kernel
theorem dX3_ray_39 : decode cX3_ray 39 = .ok (.ifCond .eq 25, 3) := by decide +kernel
theorem dX3_ray_42 : decode cX3_ray 42 = .ok (.aload_n 0, 1) := by decide +kernel
theorem dX3_ray_43 : decode cX3_ray 43 = .ok (.iload 6, 2) := by decide +kernel
theorem dX3_ray_45 : decode cX3_ray 45 = .ok (.iconst 0, 1) := by decide +kernel
theorem dX3_ray_46 : decode cX3_ray 46 = .ok (.iconst 1, 1) := by decide +kernel
theorem dX3_ray_47 : decode cX3_ray 47 = .ok (.invokevirtual 40, 3) := by decide +kernel
theorem dX3_ray_50 : decode cX3_ray 50 = .ok (.ifCond .eq 14, 3) := by decide +kernel
theorem dX3_ray_53 : decode cX3_ray 53 = .ok (.aload_n 0, 1) := by decide +kernel
theorem dX3_ray_54 : decode cX3_ray 54 = .ok (.iload 7, 2) := by decide +kernel
theorem dX3_ray_56 : decode cX3_ray 56 = .ok (.iconst 0, 1) := by decide +kernel
theorem dX3_ray_57 : decode cX3_ray 57 = .ok (.iconst 1, 1) := by decide +kernel
theorem dX3_ray_58 : decode cX3_ray 58 = .ok (.invokevirtual 40, 3) := by decide +kernel
theorem dX3_ray_61 : decode cX3_ray 61 = .ok (.ifCond .ne 7, 3) := by decide +kernel
theorem dX3_ray_64 : decode cX3_ray 64 = .ok (.ldc2_w 87, 3) := by decide +kernel
theorem dX3_ray_67 : decode cX3_ray 67 = .ok (.lreturn, 1) := by decide +kernel
theorem dX3_ray_68 : decode cX3_ray 68 = .ok (.aload_n 0, 1) := by decide +kernel
theorem dX3_ray_69 : decode cX3_ray 69 = .ok (.iload_n 1, 1) := by decide +kernel
theorem dX3_ray_70 : decode cX3_ray 70 = .ok (.iload_n 2, 1) := by decide +kernel
theorem dX3_ray_71 : decode cX3_ray 71 = .ok (.iconst 0, 1) := by decide +kernel
theorem dX3_ray_72 : decode cX3_ray 72 = .ok (.iload 5, 2) := by decide +kernel
theorem dX3_ray_74 : decode cX3_ray 74 = .ok (.invokevirtual 89, 3) := by decide +kernel
theorem dX3_ray_77 : decode cX3_ray 77 = .ok (.aload_n 0, 1) := by decide +kernel
theorem dX3_ray_78 : decode cX3_ray 78 = .ok (.iload 6, 2) := by decide +kernel
theorem dX3_ray_80 : decode cX3_ray 80 = .ok (.ifCond .ne 33, 3) := by decide +kernel
theorem dX3_ray_83 : decode cX3_ray 83 = .ok (.aload_n 0, 1) := by decide +kernel
theorem dX3_ray_84 : decode cX3_ray 84 = .ok (.getfield 32, 3) := by decide +kernel
theorem dX3_ray_87 : decode cX3_ray 87 = .ok (.iconst 0, 1) := by decide +kernel
theorem dX3_ray_88 : decode cX3_ray 88 = .ok (.laload, 1) := by decide +kernel
theorem dX3_ray_89 : decode cX3_ray 89 = .ok (.iload_n 3, 1) := by decide +kernel
theorem dX3_ray_90 : decode cX3_ray 90 = .ok (.i2l, 1) := by decide +kernel
theorem dX3_ray_91 : decode cX3_ray 91 = .ok (.lmul, 1) := by decide +kernel
theorem dX3_ray_92 : decode cX3_ray 92 = .ok (.aload_n 0, 1) := by decide +kernel
theorem dX3_ray_93 : decode cX3_ray 93 = .ok (.getfield 32, 3) := by decide +kernel
theorem dX3_ray_96 : decode cX3_ray 96 = .ok (.iconst 1, 1) := by decide +kernel
theorem dX3_ray_97 : decode cX3_ray 97 = .ok (.laload, 1) := by decide +kernel
theorem dX3_ray_98 : decode cX3_ray 98 = .ok (.iload 4, 2) := by decide +kernel
theorem dX3_ray_100 : decode cX3_ray 100 = .ok (.i2l, 1) := by decide +kernel
theorem dX3_ray_101 : decode cX3_ray 101 = .ok (.lmul, 1) := by decide +kernel
theorem dX3_ray_102 : decode cX3_ray 102 = .ok (.ladd, 1) := by decide +kernel
theorem dX3_ray_103 : decode cX3_ray 103 = .ok (.aload_n 0, 1) := by decide +kernel
theorem dX3_ray_104 : decode cX3_ray 104 = .ok (.getfield 32, 3) := by decide +kernel
theorem dX3_ray_107 : decode cX3_ray 107 = .ok (.iconst 4, 1) := by decide +kernel
theorem dX3_ray_108 : decode cX3_ray 108 = .ok (.laload, 1) := by decide +kernel
theorem dX3_ray_109 : decode cX3_ray 109 = .ok (.ladd, 1) := by decide +kernel
theorem dX3_ray_110 : decode cX3_ray 110 = .ok (.goto 30, 3) := by decide +kernel
theorem dX3_ray_113 : decode cX3_ray 113 = .ok (.aload_n 0, 1) := by decide +kernel
theorem dX3_ray_114 : decode cX3_ray 114 = .ok (.getfield 32, 3) := by decide +kernel
theorem dX3_ray_117 : decode cX3_ray 117 = .ok (.iconst 2, 1) := by decide +kernel
theorem dX3_ray_118 : decode cX3_ray 118 = .ok (.laload, 1) := by decide +kernel
theorem dX3_ray_119 : decode cX3_ray 119 = .ok (.iload_n 3, 1) := by decide +kernel
theorem dX3_ray_120 : decode cX3_ray 120 = .ok (.i2l, 1) := by decide +kernel
theorem dX3_ray_121 : decode cX3_ray 121 = .ok (.lmul, 1) := by decide +kernel
theorem dX3_ray_122 : decode cX3_ray 122 = .ok (.aload_n 0, 1) := by decide +kernel
theorem dX3_ray_123 : decode cX3_ray 123 = .ok (.getfield 32, 3) := by decide +kernel
theorem dX3_ray_126 : decode cX3_ray 126 = .ok (.iconst 3, 1) := by decide +kernel
theorem dX3_ray_127 : decode cX3_ray 127 = .ok (.laload, 1) := by decide +kernel
theorem dX3_ray_128 : decode cX3_ray 128 = .ok (.iload 4, 2) := by decide +kernel
theorem dX3_ray_130 : decode cX3_ray 130 = .ok (.i2l, 1) := by decide +kernel
theorem dX3_ray_131 : decode cX3_ray 131 = .ok (.lmul, 1) := by decide +kernel
theorem dX3_ray_132 : decode cX3_ray 132 = .ok (.ladd, 1) := by decide +kernel
theorem dX3_ray_133 : decode cX3_ray 133 = .ok (.aload_n 0, 1) := by decide +kernel
theorem dX3_ray_134 : decode cX3_ray 134 = .ok (.getfield 32, 3) := by decide +kernel
theorem dX3_ray_137 : decode cX3_ray 137 = .ok (.iconst 5, 1) := by decide +kernel
theorem dX3_ray_138 : decode cX3_ray 138 = .ok (.laload, 1) := by decide +kernel
theorem dX3_ray_139 : decode cX3_ray 139 = .ok (.ladd, 1) := by decide +kernel
theorem dX3_ray_140 : decode cX3_ray 140 = .ok (.aload_n 0, 1) := by decide +kernel
theorem dX3_ray_141 : decode cX3_ray 141 = .ok (.getfield 36, 3) := by decide +kernel
theorem dX3_ray_144 : decode cX3_ray 144 = .ok (.iload 7, 2) := by decide +kernel
theorem dX3_ray_146 : decode cX3_ray 146 = .ok (.invokevirtual 92, 3) := by decide +kernel
theorem dX3_ray_149 : decode cX3_ray 149 = .ok (.lreturn, 1) := by decide +kernel
set_option maxRecDepth 20000 in
theorem ggX3_stopped_X3_begin : GoodIn wsX3_stopped wsX3_begin := goodIn_r _ [10, 2, 5, 20, 21, 22, 23, 24, 25, 26, 27, 28] (by decide +kernel) (by decide +kernel)
set_option maxRecDepth 20000 in
theorem gX3_stopped_X3_begin : GoodIn wsX3_stopped (wsV RX3 73 RX3 yX3_begin wsX3_begin) := goodIn_app (goodIn_of _ (by decide +kernel)) ggX3_stopped_X3_begin
set_option maxRecDepth 20000 in
theorem ggX3_stopped_X3_go : GoodIn wsX3_stopped wsX3_go := goodIn_r _ [14, 4, 3, 2, 15, 5, 16, 17, 18, 9, 19, 20, 21, 22, 23, 24, 25, 26, 27, 28] (by decide +kernel) (by decide +kernel)
set_option maxRecDepth 20000 in
theorem gX3_stopped_X3_go : GoodIn wsX3_stopped (wsV RX3 76 RX3 yX3_go wsX3_go) := goodIn_app (goodIn_of _ (by decide +kernel)) ggX3_stopped_X3_go
theorem dX3_stopped_0 : decode cX3_stopped 0 = .ok (.aload_n 0, 1) := by decide +kernel
theorem dX3_stopped_1 : decode cX3_stopped 1 = .ok (.invokevirtual 73, 3) := by decide +kernel
theorem dX3_stopped_4 : decode cX3_stopped 4 = .ok (.iconst 0, 1) := by decide +kernel
theorem dX3_stopped_5 : decode cX3_stopped 5 = .ok (.istore 5, 2) := by decide +kernel
theorem dX3_stopped_7 : decode cX3_stopped 7 = .ok (.iload 5, 2) := by decide +kernel
theorem dX3_stopped_9 : decode cX3_stopped 9 = .ok (.aload_n 0, 1) := by decide +kernel
theorem dX3_stopped_10 : decode cX3_stopped 10 = .ok (.getfield 13, 3) := by decide +kernel
theorem dX3_stopped_13 : decode cX3_stopped 13 = .ok (.iload_n 1, 1) := by decide +kernel
theorem dX3_stopped_14 : decode cX3_stopped 14 = .ok (.iaload, 1) := by decide +kernel
theorem dX3_stopped_15 : decode cX3_stopped 15 = .ok (.if_icmp .ge 106, 3) := by decide +kernel
theorem dX3_stopped_18 : decode cX3_stopped 18 = .ok (.aload_n 0, 1) := by decide +kernel
theorem dX3_stopped_19 : decode cX3_stopped 19 = .ok (.getfield 32, 3) := by decide +kernel
theorem dX3_stopped_22 : decode cX3_stopped 22 = .ok (.iconst 0, 1) := by decide +kernel
theorem dX3_stopped_23 : decode cX3_stopped 23 = .ok (.laload, 1) := by decide +kernel
theorem dX3_stopped_24 : decode cX3_stopped 24 = .ok (.iload_n 3, 1) := by decide +kernel
theorem dX3_stopped_25 : decode cX3_stopped 25 = .ok (.i2l, 1) := by decide +kernel
theorem dX3_stopped_26 : decode cX3_stopped 26 = .ok (.lmul, 1) := by decide +kernel
theorem dX3_stopped_27 : decode cX3_stopped 27 = .ok (.aload_n 0, 1) := by decide +kernel
theorem dX3_stopped_28 : decode cX3_stopped 28 = .ok (.getfield 32, 3) := by decide +kernel
theorem dX3_stopped_31 : decode cX3_stopped 31 = .ok (.iconst 1, 1) := by decide +kernel
theorem dX3_stopped_32 : decode cX3_stopped 32 = .ok (.laload, 1) := by decide +kernel
theorem dX3_stopped_33 : decode cX3_stopped 33 = .ok (.iload 4, 2) := by decide +kernel
theorem dX3_stopped_35 : decode cX3_stopped 35 = .ok (.i2l, 1) := by decide +kernel
theorem dX3_stopped_36 : decode cX3_stopped 36 = .ok (.lmul, 1) := by decide +kernel
theorem dX3_stopped_37 : decode cX3_stopped 37 = .ok (.ladd, 1) := by decide +kernel
theorem dX3_stopped_38 : decode cX3_stopped 38 = .ok (.aload_n 0, 1) := by decide +kernel
theorem dX3_stopped_39 : decode cX3_stopped 39 = .ok (.getfield 32, 3) := by decide +kernel
theorem dX3_stopped_42 : decode cX3_stopped 42 = .ok (.iconst 4, 1) := by decide +kernel
theorem dX3_stopped_43 : decode cX3_stopped 43 = .ok (.laload, 1) := by decide +kernel
theorem dX3_stopped_44 : decode cX3_stopped 44 = .ok (.ladd, 1) := by decide +kernel
theorem dX3_stopped_45 : decode cX3_stopped 45 = .ok (.lstore 6, 2) := by decide +kernel
theorem dX3_stopped_47 : decode cX3_stopped 47 = .ok (.aload_n 0, 1) := by decide +kernel
theorem dX3_stopped_48 : decode cX3_stopped 48 = .ok (.getfield 17, 3) := by decide +kernel
theorem dX3_stopped_51 : decode cX3_stopped 51 = .ok (.bipush 8, 2) := by decide +kernel
theorem dX3_stopped_53 : decode cX3_stopped 53 = .ok (.iload_n 1, 1) := by decide +kernel
theorem dX3_stopped_54 : decode cX3_stopped 54 = .ok (.imul, 1) := by decide +kernel
theorem dX3_stopped_55 : decode cX3_stopped 55 = .ok (.iload 5, 2) := by decide +kernel
theorem dX3_stopped_57 : decode cX3_stopped 57 = .ok (.iadd, 1) := by decide +kernel
theorem dX3_stopped_58 : decode cX3_stopped 58 = .ok (.iaload, 1) := by decide +kernel
theorem dX3_stopped_59 : decode cX3_stopped 59 = .ok (.iconst 4, 1) := by decide +kernel
theorem dX3_stopped_60 : decode cX3_stopped 60 = .ok (.if_icmp .ne 43, 3) := by decide +kernel
theorem dX3_stopped_63 : decode cX3_stopped 63 = .ok (.lload 6, 2) := by decide +kernel
theorem dX3_stopped_65 : decode cX3_stopped 65 = .ok (.lconst 0, 1) := by decide +kernel
theorem dX3_stopped_66 : decode cX3_stopped 66 = .ok (.lcmp, 1) := by decide +kernel
theorem dX3_stopped_67 : decode cX3_stopped 67 = .ok (.ifCond .ge 9, 3) := by decide +kernel
theorem dX3_stopped_70 : decode cX3_stopped 70 = .ok (.lload 6, 2) := by decide +kernel
theorem dX3_stopped_72 : decode cX3_stopped 72 = .ok (.lneg, 1) := by decide +kernel
theorem dX3_stopped_73 : decode cX3_stopped 73 = .ok (.goto 5, 3) := by decide +kernel
theorem dX3_stopped_76 : decode cX3_stopped 76 = .ok (.lload 6, 2) := by decide +kernel
theorem dX3_stopped_78 : decode cX3_stopped 78 = .ok (.aload_n 0, 1) := by decide +kernel
theorem dX3_stopped_79 : decode cX3_stopped 79 = .ok (.getfield 20, 3) := by decide +kernel
theorem dX3_stopped_82 : decode cX3_stopped 82 = .ok (.bipush 8, 2) := by decide +kernel
theorem dX3_stopped_84 : decode cX3_stopped 84 = .ok (.iload_n 1, 1) := by decide +kernel
theorem dX3_stopped_85 : decode cX3_stopped 85 = .ok (.imul, 1) := by decide +kernel
theorem dX3_stopped_86 : decode cX3_stopped 86 = .ok (.iload 5, 2) := by decide +kernel
theorem dX3_stopped_88 : decode cX3_stopped 88 = .ok (.iadd, 1) := by decide +kernel
theorem dX3_stopped_89 : decode cX3_stopped 89 = .ok (.iaload, 1) := by decide +kernel
theorem dX3_stopped_90 : decode cX3_stopped 90 = .ok (.i2l, 1) := by decide +kernel
theorem dX3_stopped_91 : decode cX3_stopped 91 = .ok (.aload_n 0, 1) := by decide +kernel
theorem dX3_stopped_92 : decode cX3_stopped 92 = .ok (.getfield 36, 3) := by decide +kernel
theorem dX3_stopped_95 : decode cX3_stopped 95 = .ok (.lmul, 1) := by decide +kernel
theorem dX3_stopped_96 : decode cX3_stopped 96 = .ok (.lcmp, 1) := by decide +kernel
theorem dX3_stopped_97 : decode cX3_stopped 97 = .ok (.ifCond .le 6, 3) := by decide +kernel
theorem dX3_stopped_100 : decode cX3_stopped 100 = .ok (.iload 5, 2) := by decide +kernel
theorem dX3_stopped_102 : decode cX3_stopped 102 = .ok (.ireturn, 1) := by decide +kernel
theorem dX3_stopped_103 : decode cX3_stopped 103 = .ok (.aload_n 0, 1) := by decide +kernel
theorem dX3_stopped_104 : decode cX3_stopped 104 = .ok (.bipush 8, 2) := by decide +kernel
theorem dX3_stopped_106 : decode cX3_stopped 106 = .ok (.iload_n 1, 1) := by decide +kernel
theorem dX3_stopped_107 : decode cX3_stopped 107 = .ok (.imul, 1) := by decide +kernel
theorem dX3_stopped_108 : decode cX3_stopped 108 = .ok (.iload 5, 2) := by decide +kernel
theorem dX3_stopped_110 : decode cX3_stopped 110 = .ok (.iadd, 1) := by decide +kernel
theorem dX3_stopped_111 : decode cX3_stopped 111 = .ok (.iload_n 2, 1) := by decide +kernel
theorem dX3_stopped_112 : decode cX3_stopped 112 = .ok (.invokevirtual 76, 3) := by decide +kernel
theorem dX3_stopped_115 : decode cX3_stopped 115 = .ok (.iinc 5 1, 3) := by decide +kernel
theorem dX3_stopped_118 : decode cX3_stopped 118 = .ok (.goto (-111), 3) := by decide +kernel
theorem dX3_stopped_121 : decode cX3_stopped 121 = .ok (.iconst (-1), 1) := by decide +kernel
theorem dX3_stopped_122 : decode cX3_stopped 122 = .ok (.ireturn, 1) := by decide +kernel
set_option maxRecDepth 20000 in
theorem ggX3_stops_X3_isBench : GoodIn wsX3_stops wsX3_isBench := goodIn_r _ [5, 6, 7, 8, 9, 4, 10, 41, 42, 43, 44, 45, 46, 47, 48, 49] (by decide +kernel) (by decide +kernel)
set_option maxRecDepth 20000 in
theorem gX3_stops_X3_isBench : GoodIn wsX3_stops (wsV RX3 44 RX3 yX3_isBench wsX3_isBench) := goodIn_app (goodIn_of _ (by decide +kernel)) ggX3_stops_X3_isBench
set_option maxRecDepth 20000 in
theorem ggX3_stops_X3_isWay : GoodIn wsX3_stops wsX3_isWay := goodIn_r _ [14] (by decide +kernel) (by decide +kernel)
set_option maxRecDepth 20000 in
theorem gX3_stops_X3_isWay : GoodIn wsX3_stops (wsV RX3 84 RX3 yX3_isWay wsX3_isWay) := goodIn_app (goodIn_of _ (by decide +kernel)) ggX3_stops_X3_isWay
set_option maxRecDepth 20000 in
theorem ggX3_stops_X3_isRay : GoodIn wsX3_stops wsX3_isRay := goodIn_r _ [18, 7, 8, 9, 4, 10] (by decide +kernel) (by decide +kernel)
set_option maxRecDepth 20000 in
theorem gX3_stops_X3_isRay : GoodIn wsX3_stops (wsV RX3 96 RX3 yX3_isRay wsX3_isRay) := goodIn_app (goodIn_of _ (by decide +kernel)) ggX3_stops_X3_isRay
set_option maxRecDepth 20000 in
theorem ggX3_stops_X3_stopped : GoodIn wsX3_stops wsX3_stopped := goodIn_r _ [22, 23, 24, 25, 26, 27, 28, 29, 30, 4, 31, 32, 33, 34, 35, 36, 37, 38, 39, 40, 41, 42, 43, 44, 45, 46, 47, 48, 49] (by decide +kernel) (by decide +kernel)
set_option maxRecDepth 20000 in
theorem gX3_stops_X3_stopped : GoodIn wsX3_stops (wsV RX3 99 RX3 yX3_stopped wsX3_stopped) := goodIn_app (goodIn_of _ (by decide +kernel)) ggX3_stops_X3_stopped
theorem dX3_stops_0 : decode cX3_stops 0 = .ok (.aload_n 0, 1) := by decide +kernel
theorem dX3_stops_1 : decode cX3_stops 1 = .ok (.iload_n 1, 1) := by decide +kernel
theorem dX3_stops_2 : decode cX3_stops 2 = .ok (.invokevirtual 44, 3) := by decide +kernel
theorem dX3_stops_5 : decode cX3_stops 5 = .ok (.ifCond .eq 33, 3) := by decide +kernel
theorem dX3_stops_8 : decode cX3_stops 8 = .ok (.aload_n 0, 1) := by decide +kernel
theorem dX3_stops_9 : decode cX3_stops 9 = .ok (.iload_n 2, 1) := by decide +kernel
theorem dX3_stops_10 : decode cX3_stops 10 = .ok (.invokevirtual 84, 3) := by decide +kernel
theorem dX3_stops_13 : decode cX3_stops 13 = .ok (.ifCond .eq 25, 3) := by decide +kernel
theorem dX3_stops_16 : decode cX3_stops 16 = .ok (.aload_n 0, 1) := by decide +kernel
theorem dX3_stops_17 : decode cX3_stops 17 = .ok (.iload_n 3, 1) := by decide +kernel
theorem dX3_stops_18 : decode cX3_stops 18 = .ok (.iload 4, 2) := by decide +kernel
theorem dX3_stops_20 : decode cX3_stops 20 = .ok (.invokevirtual 96, 3) := by decide +kernel
theorem dX3_stops_23 : decode cX3_stops 23 = .ok (.ifCond .eq 15, 3) := by decide +kernel
theorem dX3_stops_26 : decode cX3_stops 26 = .ok (.aload_n 0, 1) := by decide +kernel
theorem dX3_stops_27 : decode cX3_stops 27 = .ok (.iload_n 1, 1) := by decide +kernel
theorem dX3_stops_28 : decode cX3_stops 28 = .ok (.iload_n 2, 1) := by decide +kernel
theorem dX3_stops_29 : decode cX3_stops 29 = .ok (.iload_n 3, 1) := by decide +kernel
theorem dX3_stops_30 : decode cX3_stops 30 = .ok (.iload 4, 2) := by decide +kernel
theorem dX3_stops_32 : decode cX3_stops 32 = .ok (.invokevirtual 99, 3) := by decide +kernel
theorem dX3_stops_35 : decode cX3_stops 35 = .ok (.goto 4, 3) := by decide +kernel
theorem dX3_stops_38 : decode cX3_stops 38 = .ok (.iconst (-1), 1) := by decide +kernel
theorem dX3_stops_39 : decode cX3_stops 39 = .ok (.ireturn, 1) := by decide +kernel
set_option maxRecDepth 20000 in
theorem ggX3_full_X3_isBench : GoodIn wsX3_full wsX3_isBench := goodIn_r _ [5, 6, 7, 8, 9, 4, 10, 37, 38, 39, 40, 41, 42, 43, 44, 45] (by decide +kernel) (by decide +kernel)
set_option maxRecDepth 20000 in
theorem gX3_full_X3_isBench : GoodIn wsX3_full (wsV RX3 44 RX3 yX3_isBench wsX3_isBench) := goodIn_app (goodIn_of _ (by decide +kernel)) ggX3_full_X3_isBench
set_option maxRecDepth 20000 in
theorem ggX3_full_X3_isWay : GoodIn wsX3_full wsX3_isWay := goodIn_r _ [14] (by decide +kernel) (by decide +kernel)
set_option maxRecDepth 20000 in
theorem gX3_full_X3_isWay : GoodIn wsX3_full (wsV RX3 84 RX3 yX3_isWay wsX3_isWay) := goodIn_app (goodIn_of _ (by decide +kernel)) ggX3_full_X3_isWay
set_option maxRecDepth 20000 in
theorem ggX3_full_X3_stopped : GoodIn wsX3_full wsX3_stopped := goodIn_r _ [18, 19, 20, 21, 22, 23, 24, 25, 26, 4, 27, 28, 29, 30, 31, 32, 33, 34, 35, 36, 37, 38, 39, 40, 41, 42, 43, 44, 45] (by decide +kernel) (by decide +kernel)
set_option maxRecDepth 20000 in
theorem gX3_full_X3_stopped : GoodIn wsX3_full (wsV RX3 99 RX3 yX3_stopped wsX3_stopped) := goodIn_app (goodIn_of _ (by decide +kernel)) ggX3_full_X3_stopped
theorem dX3_full_0 : decode cX3_full 0 = .ok (.aload_n 0, 1) := by decide +kernel
theorem dX3_full_1 : decode cX3_full 1 = .ok (.iload_n 1, 1) := by decide +kernel
theorem dX3_full_2 : decode cX3_full 2 = .ok (.invokevirtual 44, 3) := by decide +kernel
theorem dX3_full_5 : decode cX3_full 5 = .ok (.ifCond .eq 11, 3) := by decide +kernel
theorem dX3_full_8 : decode cX3_full 8 = .ok (.aload_n 0, 1) := by decide +kernel
theorem dX3_full_9 : decode cX3_full 9 = .ok (.iload_n 2, 1) := by decide +kernel
theorem dX3_full_10 : decode cX3_full 10 = .ok (.invokevirtual 84, 3) := by decide +kernel
theorem dX3_full_13 : decode cX3_full 13 = .ok (.ifCond .ne 5, 3) := by decide +kernel
theorem dX3_full_16 : decode cX3_full 16 = .ok (.iconst (-1), 1) := by decide +kernel
theorem dX3_full_17 : decode cX3_full 17 = .ok (.ireturn, 1) := by decide +kernel
theorem dX3_full_18 : decode cX3_full 18 = .ok (.iconst 0, 1) := by decide +kernel
theorem dX3_full_19 : decode cX3_full 19 = .ok (.istore_n 3, 1) := by decide +kernel
theorem dX3_full_20 : decode cX3_full 20 = .ok (.iload_n 3, 1) := by decide +kernel
theorem dX3_full_21 : decode cX3_full 21 = .ok (.sipush 1000, 3) := by decide +kernel
theorem dX3_full_24 : decode cX3_full 24 = .ok (.if_icmp .gt 21, 3) := by decide +kernel
theorem dX3_full_27 : decode cX3_full 27 = .ok (.aload_n 0, 1) := by decide +kernel
theorem dX3_full_28 : decode cX3_full 28 = .ok (.iload_n 1, 1) := by decide +kernel
theorem dX3_full_29 : decode cX3_full 29 = .ok (.iload_n 2, 1) := by decide +kernel
theorem dX3_full_30 : decode cX3_full 30 = .ok (.iconst 0, 1) := by decide +kernel
theorem dX3_full_31 : decode cX3_full 31 = .ok (.iload_n 3, 1) := by decide +kernel
theorem dX3_full_32 : decode cX3_full 32 = .ok (.invokevirtual 99, 3) := by decide +kernel
theorem dX3_full_35 : decode cX3_full 35 = .ok (.iconst (-1), 1) := by decide +kernel
theorem dX3_full_36 : decode cX3_full 36 = .ok (.if_icmp .ne 9, 3) := by decide +kernel
theorem dX3_full_39 : decode cX3_full 39 = .ok (.iinc 3 1, 3) := by decide +kernel
theorem dX3_full_42 : decode cX3_full 42 = .ok (.goto (-22), 3) := by decide +kernel
theorem dX3_full_45 : decode cX3_full 45 = .ok (.iload_n 3, 1) := by decide +kernel
theorem dX3_full_46 : decode cX3_full 46 = .ok (.iconst 1, 1) := by decide +kernel
theorem dX3_full_47 : decode cX3_full 47 = .ok (.isub, 1) := by decide +kernel
theorem dX3_full_48 : decode cX3_full 48 = .ok (.ireturn, 1) := by decide +kernel
set_option maxRecDepth 20000 in
theorem ggX3_image_X3_isBench : GoodIn wsX3_image wsX3_isBench := goodIn_r _ [9, 10, 11, 12, 13, 8, 14, 46, 47, 48, 49, 50, 51, 52, 53, 54] (by decide +kernel) (by decide +kernel)
set_option maxRecDepth 20000 in
theorem gX3_image_X3_isBench : GoodIn wsX3_image (wsV RX3 44 RX3 yX3_isBench wsX3_isBench) := goodIn_app (goodIn_of _ (by decide +kernel)) ggX3_image_X3_isBench
set_option maxRecDepth 20000 in
theorem ggX3_image_X3_isWay : GoodIn wsX3_image wsX3_isWay := goodIn_r _ [18] (by decide +kernel) (by decide +kernel)
set_option maxRecDepth 20000 in
theorem gX3_image_X3_isWay : GoodIn wsX3_image (wsV RX3 84 RX3 yX3_isWay wsX3_isWay) := goodIn_app (goodIn_of _ (by decide +kernel)) ggX3_image_X3_isWay
set_option maxRecDepth 20000 in
theorem ggX3_image_X3_in : GoodIn wsX3_image wsX3_in := goodIn_r _ [14] (by decide +kernel) (by decide +kernel)
set_option maxRecDepth 20000 in
theorem gX3_image_X3_in : GoodIn wsX3_image (wsV RX3 40 RX3 yX3_in wsX3_in) := goodIn_app (goodIn_of _ (by decide +kernel)) ggX3_image_X3_in
set_option maxRecDepth 20000 in
theorem ggX3_image_X3_work : GoodIn wsX3_image wsX3_work := goodIn_r _ [22, 2, 23, 24, 25, 8, 26, 3, 4, 27, 28, 29, 30, 31, 32, 33, 34, 35, 36, 37, 46, 47, 48, 49, 50, 51, 52, 53, 54] (by decide +kernel) (by decide +kernel)
set_option maxRecDepth 20000 in
theorem gX3_image_X3_work : GoodIn wsX3_image (wsV RX3 89 RX3 yX3_work wsX3_work) := goodIn_app (goodIn_of _ (by decide +kernel)) ggX3_image_X3_work
set_option maxRecDepth 20000 in
theorem ggX3_image_X3_lowest : GoodIn wsX3_image wsX3_lowest := goodIn_r _ [41, 42, 43, 44, 8, 45] (by decide +kernel) (by decide +kernel)
set_option maxRecDepth 20000 in
theorem gX3_image_X3_lowest : GoodIn wsX3_image (wsV RX3 92 RX3 yX3_lowest wsX3_lowest) := goodIn_app (goodIn_of _ (by decide +kernel)) ggX3_image_X3_lowest
theorem dX3_image_0 : decode cX3_image 0 = .ok (.aload_n 0, 1) := by decide +kernel
theorem dX3_image_1 : decode cX3_image 1 = .ok (.iload_n 1, 1) := by decide +kernel
theorem dX3_image_2 : decode cX3_image 2 = .ok (.invokevirtual 44, 3) := by decide +kernel
theorem dX3_image_5 : decode cX3_image 5 = .ok (.ifCond .eq 32, 3) := by decide +kernel
theorem dX3_image_8 : decode cX3_image 8 = .ok (.aload_n 0, 1) := by decide +kernel
theorem dX3_image_9 : decode cX3_image 9 = .ok (.iload_n 2, 1) := by decide +kernel
theorem dX3_image_10 : decode cX3_image 10 = .ok (.invokevirtual 84, 3) := by decide +kernel
theorem dX3_image_13 : decode cX3_image 13 = .ok (.ifCond .eq 24, 3) := by decide +kernel
theorem dX3_image_16 : decode cX3_image 16 = .ok (.aload_n 0, 1) := by decide +kernel
theorem dX3_image_17 : decode cX3_image 17 = .ok (.iload_n 3, 1) := by decide +kernel
theorem dX3_image_18 : decode cX3_image 18 = .ok (.iconst 0, 1) := by decide +kernel
theorem dX3_image_19 : decode cX3_image 19 = .ok (.iconst 1, 1) := by decide +kernel
theorem dX3_image_20 : decode cX3_image 20 = .ok (.invokevirtual 40, 3) := by decide +kernel
theorem dX3_image_23 : decode cX3_image 23 = .ok (.ifCond .eq 14, 3) := by decide +kernel
theorem dX3_image_26 : decode cX3_image 26 = .ok (.aload_n 0, 1) := by decide +kernel
theorem dX3_image_27 : decode cX3_image 27 = .ok (.iload 4, 2) := by decide +kernel
theorem dX3_image_29 : decode cX3_image 29 = .ok (.iconst 0, 1) := by decide +kernel
theorem dX3_image_30 : decode cX3_image 30 = .ok (.iconst 1, 1) := by decide +kernel
theorem dX3_image_31 : decode cX3_image 31 = .ok (.invokevirtual 40, 3) := by decide +kernel
theorem dX3_image_34 : decode cX3_image 34 = .ok (.ifCond .ne 7, 3) := by decide +kernel
theorem dX3_image_37 : decode cX3_image 37 = .ok (.ldc2_w 87, 3) := by decide +kernel
theorem dX3_image_40 : decode cX3_image 40 = .ok (.lreturn, 1) := by decide +kernel
theorem dX3_image_41 : decode cX3_image 41 = .ok (.aload_n 0, 1) := by decide +kernel
theorem dX3_image_42 : decode cX3_image 42 = .ok (.iload_n 1, 1) := by decide +kernel
theorem dX3_image_43 : decode cX3_image 43 = .ok (.iload_n 2, 1) := by decide +kernel
theorem dX3_image_44 : decode cX3_image 44 = .ok (.iconst 0, 1) := by decide +kernel
theorem dX3_image_45 : decode cX3_image 45 = .ok (.aload_n 0, 1) := by decide +kernel
theorem dX3_image_46 : decode cX3_image 46 = .ok (.getfield 13, 3) := by decide +kernel
theorem dX3_image_49 : decode cX3_image 49 = .ok (.iload_n 1, 1) := by decide +kernel
theorem dX3_image_50 : decode cX3_image 50 = .ok (.iaload, 1) := by decide +kernel
theorem dX3_image_51 : decode cX3_image 51 = .ok (.invokevirtual 89, 3) := by decide +kernel
theorem dX3_image_54 : decode cX3_image 54 = .ok (.aload_n 0, 1) := by decide +kernel
theorem dX3_image_55 : decode cX3_image 55 = .ok (.getfield 32, 3) := by decide +kernel
theorem dX3_image_58 : decode cX3_image 58 = .ok (.iconst 3, 1) := by decide +kernel
theorem dX3_image_59 : decode cX3_image 59 = .ok (.laload, 1) := by decide +kernel
theorem dX3_image_60 : decode cX3_image 60 = .ok (.lconst 0, 1) := by decide +kernel
theorem dX3_image_61 : decode cX3_image 61 = .ok (.lcmp, 1) := by decide +kernel
theorem dX3_image_62 : decode cX3_image 62 = .ok (.ifCond .ne 7, 3) := by decide +kernel
theorem dX3_image_65 : decode cX3_image 65 = .ok (.ldc2_w 87, 3) := by decide +kernel
theorem dX3_image_68 : decode cX3_image 68 = .ok (.lreturn, 1) := by decide +kernel
theorem dX3_image_69 : decode cX3_image 69 = .ok (.iload_n 3, 1) := by decide +kernel
theorem dX3_image_70 : decode cX3_image 70 = .ok (.ifCond .ne 25, 3) := by decide +kernel
theorem dX3_image_73 : decode cX3_image 73 = .ok (.aload_n 0, 1) := by decide +kernel
theorem dX3_image_74 : decode cX3_image 74 = .ok (.aload_n 0, 1) := by decide +kernel
theorem dX3_image_75 : decode cX3_image 75 = .ok (.getfield 32, 3) := by decide +kernel
theorem dX3_image_78 : decode cX3_image 78 = .ok (.iconst 1, 1) := by decide +kernel
theorem dX3_image_79 : decode cX3_image 79 = .ok (.laload, 1) := by decide +kernel
theorem dX3_image_80 : decode cX3_image 80 = .ok (.lneg, 1) := by decide +kernel
theorem dX3_image_81 : decode cX3_image 81 = .ok (.aload_n 0, 1) := by decide +kernel
theorem dX3_image_82 : decode cX3_image 82 = .ok (.getfield 32, 3) := by decide +kernel
theorem dX3_image_85 : decode cX3_image 85 = .ok (.iconst 3, 1) := by decide +kernel
theorem dX3_image_86 : decode cX3_image 86 = .ok (.laload, 1) := by decide +kernel
theorem dX3_image_87 : decode cX3_image 87 = .ok (.iload 4, 2) := by decide +kernel
theorem dX3_image_89 : decode cX3_image 89 = .ok (.invokevirtual 92, 3) := by decide +kernel
theorem dX3_image_92 : decode cX3_image 92 = .ok (.goto 47, 3) := by decide +kernel
theorem dX3_image_95 : decode cX3_image 95 = .ok (.aload_n 0, 1) := by decide +kernel
theorem dX3_image_96 : decode cX3_image 96 = .ok (.aload_n 0, 1) := by decide +kernel
theorem dX3_image_97 : decode cX3_image 97 = .ok (.getfield 32, 3) := by decide +kernel
theorem dX3_image_100 : decode cX3_image 100 = .ok (.iconst 0, 1) := by decide +kernel
theorem dX3_image_101 : decode cX3_image 101 = .ok (.laload, 1) := by decide +kernel
theorem dX3_image_102 : decode cX3_image 102 = .ok (.aload_n 0, 1) := by decide +kernel
theorem dX3_image_103 : decode cX3_image 103 = .ok (.getfield 32, 3) := by decide +kernel
theorem dX3_image_106 : decode cX3_image 106 = .ok (.iconst 3, 1) := by decide +kernel
theorem dX3_image_107 : decode cX3_image 107 = .ok (.laload, 1) := by decide +kernel
theorem dX3_image_108 : decode cX3_image 108 = .ok (.lmul, 1) := by decide +kernel
theorem dX3_image_109 : decode cX3_image 109 = .ok (.aload_n 0, 1) := by decide +kernel
theorem dX3_image_110 : decode cX3_image 110 = .ok (.getfield 32, 3) := by decide +kernel
theorem dX3_image_113 : decode cX3_image 113 = .ok (.iconst 1, 1) := by decide +kernel
theorem dX3_image_114 : decode cX3_image 114 = .ok (.laload, 1) := by decide +kernel
theorem dX3_image_115 : decode cX3_image 115 = .ok (.aload_n 0, 1) := by decide +kernel
theorem dX3_image_116 : decode cX3_image 116 = .ok (.getfield 32, 3) := by decide +kernel
theorem dX3_image_119 : decode cX3_image 119 = .ok (.iconst 2, 1) := by decide +kernel
theorem dX3_image_120 : decode cX3_image 120 = .ok (.laload, 1) := by decide +kernel
theorem dX3_image_121 : decode cX3_image 121 = .ok (.lmul, 1) := by decide +kernel
theorem dX3_image_122 : decode cX3_image 122 = .ok (.lsub, 1) := by decide +kernel
theorem dX3_image_123 : decode cX3_image 123 = .ok (.aload_n 0, 1) := by decide +kernel
theorem dX3_image_124 : decode cX3_image 124 = .ok (.getfield 36, 3) := by decide +kernel
theorem dX3_image_127 : decode cX3_image 127 = .ok (.aload_n 0, 1) := by decide +kernel
theorem dX3_image_128 : decode cX3_image 128 = .ok (.getfield 32, 3) := by decide +kernel
theorem dX3_image_131 : decode cX3_image 131 = .ok (.iconst 3, 1) := by decide +kernel
theorem dX3_image_132 : decode cX3_image 132 = .ok (.laload, 1) := by decide +kernel
theorem dX3_image_133 : decode cX3_image 133 = .ok (.lmul, 1) := by decide +kernel
theorem dX3_image_134 : decode cX3_image 134 = .ok (.iload 4, 2) := by decide +kernel
theorem dX3_image_136 : decode cX3_image 136 = .ok (.invokevirtual 92, 3) := by decide +kernel
theorem dX3_image_139 : decode cX3_image 139 = .ok (.lreturn, 1) := by decide +kernel
set_option maxRecDepth 20000 in
theorem ggX3_same_X3_isBench : GoodIn wsX3_same wsX3_isBench := goodIn_r _ [8, 9, 10, 11, 12, 7, 13, 37, 38, 39, 40, 41, 42, 43, 44, 45] (by decide +kernel) (by decide +kernel)
set_option maxRecDepth 20000 in
theorem gX3_same_X3_isBench : GoodIn wsX3_same (wsV RX3 44 RX3 yX3_isBench wsX3_isBench) := goodIn_app (goodIn_of _ (by decide +kernel)) ggX3_same_X3_isBench
set_option maxRecDepth 20000 in
theorem ggX3_same_X3_isWay : GoodIn wsX3_same wsX3_isWay := goodIn_r _ [17] (by decide +kernel) (by decide +kernel)
set_option maxRecDepth 20000 in
theorem gX3_same_X3_isWay : GoodIn wsX3_same (wsV RX3 84 RX3 yX3_isWay wsX3_isWay) := goodIn_app (goodIn_of _ (by decide +kernel)) ggX3_same_X3_isWay
set_option maxRecDepth 20000 in
theorem ggX3_same_X3_work : GoodIn wsX3_same wsX3_work := goodIn_r _ [21, 1, 22, 23, 24, 7, 25, 2, 3, 26, 27, 28, 29, 30, 31, 32, 33, 34, 35, 36, 37, 38, 39, 40, 41, 42, 43, 44, 45] (by decide +kernel) (by decide +kernel)
set_option maxRecDepth 20000 in
theorem gX3_same_X3_work : GoodIn wsX3_same (wsV RX3 89 RX3 yX3_work wsX3_work) := goodIn_app (goodIn_of _ (by decide +kernel)) ggX3_same_X3_work
theorem dX3_same_0 : decode cX3_same 0 = .ok (.aload_n 0, 1) := by decide +kernel
theorem dX3_same_1 : decode cX3_same 1 = .ok (.iload_n 1, 1) := by decide +kernel
theorem dX3_same_2 : decode cX3_same 2 = .ok (.invokevirtual 44, 3) := by decide +kernel
theorem dX3_same_5 : decode cX3_same 5 = .ok (.ifCond .eq 19, 3) := by decide +kernel
theorem dX3_same_8 : decode cX3_same 8 = .ok (.aload_n 0, 1) := by decide +kernel
theorem dX3_same_9 : decode cX3_same 9 = .ok (.iload_n 2, 1) := by decide +kernel
theorem dX3_same_10 : decode cX3_same 10 = .ok (.invokevirtual 44, 3) := by decide +kernel
theorem dX3_same_13 : decode cX3_same 13 = .ok (.ifCond .eq 11, 3) := by decide +kernel
theorem dX3_same_16 : decode cX3_same 16 = .ok (.aload_n 0, 1) := by decide +kernel
theorem dX3_same_17 : decode cX3_same 17 = .ok (.iload_n 3, 1) := by decide +kernel
theorem dX3_same_18 : decode cX3_same 18 = .ok (.invokevirtual 84, 3) := by decide +kernel
theorem dX3_same_21 : decode cX3_same 21 = .ok (.ifCond .ne 5, 3) := by decide +kernel
theorem dX3_same_24 : decode cX3_same 24 = .ok (.iconst (-1), 1) := by decide +kernel
theorem dX3_same_25 : decode cX3_same 25 = .ok (.ireturn, 1) := by decide +kernel
theorem dX3_same_26 : decode cX3_same 26 = .ok (.iconst 0, 1) := by decide +kernel
theorem dX3_same_27 : decode cX3_same 27 = .ok (.istore 4, 2) := by decide +kernel
theorem dX3_same_29 : decode cX3_same 29 = .ok (.iload 4, 2) := by decide +kernel
theorem dX3_same_31 : decode cX3_same 31 = .ok (.bipush 6, 2) := by decide +kernel
theorem dX3_same_33 : decode cX3_same 33 = .ok (.if_icmp .ge 73, 3) := by decide +kernel
theorem dX3_same_36 : decode cX3_same 36 = .ok (.aload_n 0, 1) := by decide +kernel
theorem dX3_same_37 : decode cX3_same 37 = .ok (.iload_n 1, 1) := by decide +kernel
theorem dX3_same_38 : decode cX3_same 38 = .ok (.iload_n 3, 1) := by decide +kernel
theorem dX3_same_39 : decode cX3_same 39 = .ok (.iconst 0, 1) := by decide +kernel
theorem dX3_same_40 : decode cX3_same 40 = .ok (.aload_n 0, 1) := by decide +kernel
theorem dX3_same_41 : decode cX3_same 41 = .ok (.getfield 13, 3) := by decide +kernel
theorem dX3_same_44 : decode cX3_same 44 = .ok (.iload_n 1, 1) := by decide +kernel
theorem dX3_same_45 : decode cX3_same 45 = .ok (.iaload, 1) := by decide +kernel
theorem dX3_same_46 : decode cX3_same 46 = .ok (.invokevirtual 89, 3) := by decide +kernel
theorem dX3_same_49 : decode cX3_same 49 = .ok (.aload_n 0, 1) := by decide +kernel
theorem dX3_same_50 : decode cX3_same 50 = .ok (.getfield 32, 3) := by decide +kernel
theorem dX3_same_53 : decode cX3_same 53 = .ok (.iload 4, 2) := by decide +kernel
theorem dX3_same_55 : decode cX3_same 55 = .ok (.laload, 1) := by decide +kernel
theorem dX3_same_56 : decode cX3_same 56 = .ok (.lstore 5, 2) := by decide +kernel
theorem dX3_same_58 : decode cX3_same 58 = .ok (.aload_n 0, 1) := by decide +kernel
theorem dX3_same_59 : decode cX3_same 59 = .ok (.getfield 36, 3) := by decide +kernel
theorem dX3_same_62 : decode cX3_same 62 = .ok (.lstore 7, 2) := by decide +kernel
theorem dX3_same_64 : decode cX3_same 64 = .ok (.aload_n 0, 1) := by decide +kernel
theorem dX3_same_65 : decode cX3_same 65 = .ok (.iload_n 2, 1) := by decide +kernel
theorem dX3_same_66 : decode cX3_same 66 = .ok (.iload_n 3, 1) := by decide +kernel
theorem dX3_same_67 : decode cX3_same 67 = .ok (.iconst 0, 1) := by decide +kernel
theorem dX3_same_68 : decode cX3_same 68 = .ok (.aload_n 0, 1) := by decide +kernel
theorem dX3_same_69 : decode cX3_same 69 = .ok (.getfield 13, 3) := by decide +kernel
theorem dX3_same_72 : decode cX3_same 72 = .ok (.iload_n 2, 1) := by decide +kernel
theorem dX3_same_73 : decode cX3_same 73 = .ok (.iaload, 1) := by decide +kernel
theorem dX3_same_74 : decode cX3_same 74 = .ok (.invokevirtual 89, 3) := by decide +kernel
theorem dX3_same_77 : decode cX3_same 77 = .ok (.lload 5, 2) := by decide +kernel
theorem dX3_same_79 : decode cX3_same 79 = .ok (.aload_n 0, 1) := by decide +kernel
theorem dX3_same_80 : decode cX3_same 80 = .ok (.getfield 36, 3) := by decide +kernel
theorem dX3_same_83 : decode cX3_same 83 = .ok (.lmul, 1) := by decide +kernel
theorem dX3_same_84 : decode cX3_same 84 = .ok (.aload_n 0, 1) := by decide +kernel
theorem dX3_same_85 : decode cX3_same 85 = .ok (.getfield 32, 3) := by decide +kernel
theorem dX3_same_88 : decode cX3_same 88 = .ok (.iload 4, 2) := by decide +kernel
theorem dX3_same_90 : decode cX3_same 90 = .ok (.laload, 1) := by decide +kernel
theorem dX3_same_91 : decode cX3_same 91 = .ok (.lload 7, 2) := by decide +kernel
theorem dX3_same_93 : decode cX3_same 93 = .ok (.lmul, 1) := by decide +kernel
theorem dX3_same_94 : decode cX3_same 94 = .ok (.lcmp, 1) := by decide +kernel
theorem dX3_same_95 : decode cX3_same 95 = .ok (.ifCond .eq 5, 3) := by decide +kernel
theorem dX3_same_98 : decode cX3_same 98 = .ok (.iconst 0, 1) := by decide +kernel
theorem dX3_same_99 : decode cX3_same 99 = .ok (.ireturn, 1) := by decide +kernel
theorem dX3_same_100 : decode cX3_same 100 = .ok (.iinc 4 1, 3) := by decide +kernel
theorem dX3_same_103 : decode cX3_same 103 = .ok (.goto (-74), 3) := by decide +kernel
theorem dX3_same_106 : decode cX3_same 106 = .ok (.iconst 1, 1) := by decide +kernel
theorem dX3_same_107 : decode cX3_same 107 = .ok (.ireturn, 1) := by decide +kernel
theorem dX3_traceOf_0 : decode cX3_traceOf 0 = .ok (.aload_n 0, 1) := by decide +kernel
theorem dX3_traceOf_1 : decode cX3_traceOf 1 = .ok (.getfield 32, 3) := by decide +kernel
theorem dX3_traceOf_4 : decode cX3_traceOf 4 = .ok (.iconst 0, 1) := by decide +kernel
theorem dX3_traceOf_5 : decode cX3_traceOf 5 = .ok (.laload, 1) := by decide +kernel
theorem dX3_traceOf_6 : decode cX3_traceOf 6 = .ok (.aload_n 0, 1) := by decide +kernel
theorem dX3_traceOf_7 : decode cX3_traceOf 7 = .ok (.getfield 32, 3) := by decide +kernel
theorem dX3_traceOf_10 : decode cX3_traceOf 10 = .ok (.iconst 3, 1) := by decide +kernel
theorem dX3_traceOf_11 : decode cX3_traceOf 11 = .ok (.laload, 1) := by decide +kernel
theorem dX3_traceOf_12 : decode cX3_traceOf 12 = .ok (.ladd, 1) := by decide +kernel
theorem dX3_traceOf_13 : decode cX3_traceOf 13 = .ok (.lreturn, 1) := by decide +kernel
theorem dX3_isPlain_0 : decode cX3_isPlain 0 = .ok (.aload_n 0, 1) := by decide +kernel
theorem dX3_isPlain_1 : decode cX3_isPlain 1 = .ok (.getfield 32, 3) := by decide +kernel
theorem dX3_isPlain_4 : decode cX3_isPlain 4 = .ok (.iconst 0, 1) := by decide +kernel
theorem dX3_isPlain_5 : decode cX3_isPlain 5 = .ok (.laload, 1) := by decide +kernel
theorem dX3_isPlain_6 : decode cX3_isPlain 6 = .ok (.lload_n 1, 1) := by decide +kernel
theorem dX3_isPlain_7 : decode cX3_isPlain 7 = .ok (.aload_n 0, 1) := by decide +kernel
theorem dX3_isPlain_8 : decode cX3_isPlain 8 = .ok (.getfield 36, 3) := by decide +kernel
theorem dX3_isPlain_11 : decode cX3_isPlain 11 = .ok (.lmul, 1) := by decide +kernel
theorem dX3_isPlain_12 : decode cX3_isPlain 12 = .ok (.lcmp, 1) := by decide +kernel
theorem dX3_isPlain_13 : decode cX3_isPlain 13 = .ok (.ifCond .ne 45, 3) := by decide +kernel
theorem dX3_isPlain_16 : decode cX3_isPlain 16 = .ok (.aload_n 0, 1) := by decide +kernel
theorem dX3_isPlain_17 : decode cX3_isPlain 17 = .ok (.getfield 32, 3) := by decide +kernel
theorem dX3_isPlain_20 : decode cX3_isPlain 20 = .ok (.iconst 3, 1) := by decide +kernel
theorem dX3_isPlain_21 : decode cX3_isPlain 21 = .ok (.laload, 1) := by decide +kernel
theorem dX3_isPlain_22 : decode cX3_isPlain 22 = .ok (.lload_n 1, 1) := by decide +kernel
theorem dX3_isPlain_23 : decode cX3_isPlain 23 = .ok (.aload_n 0, 1) := by decide +kernel
theorem dX3_isPlain_24 : decode cX3_isPlain 24 = .ok (.getfield 36, 3) := by decide +kernel
theorem dX3_isPlain_27 : decode cX3_isPlain 27 = .ok (.lmul, 1) := by decide +kernel
theorem dX3_isPlain_28 : decode cX3_isPlain 28 = .ok (.lcmp, 1) := by decide +kernel
theorem dX3_isPlain_29 : decode cX3_isPlain 29 = .ok (.ifCond .ne 29, 3) := by decide +kernel
theorem dX3_isPlain_32 : decode cX3_isPlain 32 = .ok (.aload_n 0, 1) := by decide +kernel
theorem dX3_isPlain_33 : decode cX3_isPlain 33 = .ok (.getfield 32, 3) := by decide +kernel
theorem dX3_isPlain_36 : decode cX3_isPlain 36 = .ok (.iconst 1, 1) := by decide +kernel
theorem dX3_isPlain_37 : decode cX3_isPlain 37 = .ok (.laload, 1) := by decide +kernel
theorem dX3_isPlain_38 : decode cX3_isPlain 38 = .ok (.lconst 0, 1) := by decide +kernel
theorem dX3_isPlain_39 : decode cX3_isPlain 39 = .ok (.lcmp, 1) := by decide +kernel
theorem dX3_isPlain_40 : decode cX3_isPlain 40 = .ok (.ifCond .ne 18, 3) := by decide +kernel
theorem dX3_isPlain_43 : decode cX3_isPlain 43 = .ok (.aload_n 0, 1) := by decide +kernel
theorem dX3_isPlain_44 : decode cX3_isPlain 44 = .ok (.getfield 32, 3) := by decide +kernel
theorem dX3_isPlain_47 : decode cX3_isPlain 47 = .ok (.iconst 2, 1) := by decide +kernel
theorem dX3_isPlain_48 : decode cX3_isPlain 48 = .ok (.laload, 1) := by decide +kernel
theorem dX3_isPlain_49 : decode cX3_isPlain 49 = .ok (.lconst 0, 1) := by decide +kernel
theorem dX3_isPlain_50 : decode cX3_isPlain 50 = .ok (.lcmp, 1) := by decide +kernel
theorem dX3_isPlain_51 : decode cX3_isPlain 51 = .ok (.ifCond .ne 7, 3) := by decide +kernel
theorem dX3_isPlain_54 : decode cX3_isPlain 54 = .ok (.iconst 1, 1) := by decide +kernel
theorem dX3_isPlain_55 : decode cX3_isPlain 55 = .ok (.goto 4, 3) := by decide +kernel
theorem dX3_isPlain_58 : decode cX3_isPlain 58 = .ok (.iconst 0, 1) := by decide +kernel
theorem dX3_isPlain_59 : decode cX3_isPlain 59 = .ok (.ireturn, 1) := by decide +kernel
set_option maxRecDepth 20000 in
theorem ggX3_isBetween_X3_traceOf : GoodIn wsX3_isBetween wsX3_traceOf := goodIn_r _ [8, 9, 10, 11, 12, 13, 14, 15, 16, 17, 18] (by decide +kernel) (by decide +kernel)
set_option maxRecDepth 20000 in
theorem gX3_isBetween_X3_traceOf : GoodIn wsX3_isBetween (wsV RX3 103 RX3 yX3_traceOf wsX3_traceOf) := goodIn_app (goodIn_of _ (by decide +kernel)) ggX3_isBetween_X3_traceOf
theorem dX3_isBetween_0 : decode cX3_isBetween 0 = .ok (.aload_n 0, 1) := by decide +kernel
theorem dX3_isBetween_1 : decode cX3_isBetween 1 = .ok (.invokevirtual 103, 3) := by decide +kernel
theorem dX3_isBetween_4 : decode cX3_isBetween 4 = .ok (.ldc2_w 107, 3) := by decide +kernel
theorem dX3_isBetween_7 : decode cX3_isBetween 7 = .ok (.aload_n 0, 1) := by decide +kernel
theorem dX3_isBetween_8 : decode cX3_isBetween 8 = .ok (.getfield 36, 3) := by decide +kernel
theorem dX3_isBetween_11 : decode cX3_isBetween 11 = .ok (.lmul, 1) := by decide +kernel
theorem dX3_isBetween_12 : decode cX3_isBetween 12 = .ok (.lcmp, 1) := by decide +kernel
theorem dX3_isBetween_13 : decode cX3_isBetween 13 = .ok (.ifCond .ge 23, 3) := by decide +kernel
theorem dX3_isBetween_16 : decode cX3_isBetween 16 = .ok (.aload_n 0, 1) := by decide +kernel
theorem dX3_isBetween_17 : decode cX3_isBetween 17 = .ok (.invokevirtual 103, 3) := by decide +kernel
theorem dX3_isBetween_20 : decode cX3_isBetween 20 = .ok (.ldc2_w 109, 3) := by decide +kernel
theorem dX3_isBetween_23 : decode cX3_isBetween 23 = .ok (.aload_n 0, 1) := by decide +kernel
theorem dX3_isBetween_24 : decode cX3_isBetween 24 = .ok (.getfield 36, 3) := by decide +kernel
theorem dX3_isBetween_27 : decode cX3_isBetween 27 = .ok (.lmul, 1) := by decide +kernel
theorem dX3_isBetween_28 : decode cX3_isBetween 28 = .ok (.lcmp, 1) := by decide +kernel
theorem dX3_isBetween_29 : decode cX3_isBetween 29 = .ok (.ifCond .le 7, 3) := by decide +kernel
theorem dX3_isBetween_32 : decode cX3_isBetween 32 = .ok (.iconst 1, 1) := by decide +kernel
theorem dX3_isBetween_33 : decode cX3_isBetween 33 = .ok (.goto 4, 3) := by decide +kernel
theorem dX3_isBetween_36 : decode cX3_isBetween 36 = .ok (.iconst 0, 1) := by decide +kernel
theorem dX3_isBetween_37 : decode cX3_isBetween 37 = .ok (.ireturn, 1) := by decide +kernel
set_option maxRecDepth 20000 in
theorem ggX3_roundOf_X3_work : GoodIn wsX3_roundOf wsX3_work := goodIn_r _ [10, 1, 11, 12, 13, 9, 14, 15, 4, 16, 17, 18, 19, 20, 21, 22, 23, 24, 25, 26, 39, 40, 41, 42, 43, 44, 45, 46, 47] (by decide +kernel) (by decide +kernel)
set_option maxRecDepth 20000 in
theorem gX3_roundOf_X3_work : GoodIn wsX3_roundOf (wsV RX3 89 RX3 yX3_work wsX3_work) := goodIn_app (goodIn_of _ (by decide +kernel)) ggX3_roundOf_X3_work
set_option maxRecDepth 20000 in
theorem ggX3_roundOf_X3_isBetween : GoodIn wsX3_roundOf wsX3_isBetween := goodIn_r _ [30, 3, 4, 5, 31, 32, 33, 9, 34, 15, 39, 40, 41, 42, 43, 44, 45, 46, 47] (by decide +kernel) (by decide +kernel)
set_option maxRecDepth 20000 in
theorem gX3_roundOf_X3_isBetween : GoodIn wsX3_roundOf (wsV RX3 111 RX3 yX3_isBetween wsX3_isBetween) := goodIn_app (goodIn_of _ (by decide +kernel)) ggX3_roundOf_X3_isBetween
set_option maxRecDepth 20000 in
theorem ggX3_roundOf_X3_isPlain : GoodIn wsX3_roundOf wsX3_isPlain := goodIn_r _ [38, 15, 4, 39, 40, 41, 42, 43, 44, 45, 46, 47] (by decide +kernel) (by decide +kernel)
set_option maxRecDepth 20000 in
theorem gX3_roundOf_X3_isPlain : GoodIn wsX3_roundOf (wsV RX3 115 RX3 yX3_isPlain wsX3_isPlain) := goodIn_app (goodIn_of _ (by decide +kernel)) ggX3_roundOf_X3_isPlain
set_option maxRecDepth 20000 in
theorem ggX3_roundOf_X3_traceOf : GoodIn wsX3_roundOf wsX3_traceOf := goodIn_r _ [34, 15, 39, 40, 41, 42, 43, 44, 45, 46, 47] (by decide +kernel) (by decide +kernel)
set_option maxRecDepth 20000 in
theorem gX3_roundOf_X3_traceOf : GoodIn wsX3_roundOf (wsV RX3 103 RX3 yX3_traceOf wsX3_traceOf) := goodIn_app (goodIn_of _ (by decide +kernel)) ggX3_roundOf_X3_traceOf
theorem dX3_roundOf_0 : decode cX3_roundOf 0 = .ok (.aload_n 0, 1) := by decide +kernel
theorem dX3_roundOf_1 : decode cX3_roundOf 1 = .ok (.iload_n 1, 1) := by decide +kernel
theorem dX3_roundOf_2 : decode cX3_roundOf 2 = .ok (.iload_n 2, 1) := by decide +kernel
theorem dX3_roundOf_3 : decode cX3_roundOf 3 = .ok (.iconst 0, 1) := by decide +kernel
theorem dX3_roundOf_4 : decode cX3_roundOf 4 = .ok (.aload_n 0, 1) := by decide +kernel
theorem dX3_roundOf_5 : decode cX3_roundOf 5 = .ok (.getfield 13, 3) := by decide +kernel
theorem dX3_roundOf_8 : decode cX3_roundOf 8 = .ok (.iload_n 1, 1) := by decide +kernel
theorem dX3_roundOf_9 : decode cX3_roundOf 9 = .ok (.iaload, 1) := by decide +kernel
theorem dX3_roundOf_10 : decode cX3_roundOf 10 = .ok (.invokevirtual 89, 3) := by decide +kernel
theorem dX3_roundOf_13 : decode cX3_roundOf 13 = .ok (.aload_n 0, 1) := by decide +kernel
theorem dX3_roundOf_14 : decode cX3_roundOf 14 = .ok (.invokevirtual 111, 3) := by decide +kernel
theorem dX3_roundOf_17 : decode cX3_roundOf 17 = .ok (.ifCond .ne 21, 3) := by decide +kernel
theorem dX3_roundOf_20 : decode cX3_roundOf 20 = .ok (.aload_n 0, 1) := by decide +kernel
theorem dX3_roundOf_21 : decode cX3_roundOf 21 = .ok (.lconst 1, 1) := by decide +kernel
theorem dX3_roundOf_22 : decode cX3_roundOf 22 = .ok (.invokevirtual 115, 3) := by decide +kernel
theorem dX3_roundOf_25 : decode cX3_roundOf 25 = .ok (.ifCond .ne 13, 3) := by decide +kernel
theorem dX3_roundOf_28 : decode cX3_roundOf 28 = .ok (.aload_n 0, 1) := by decide +kernel
theorem dX3_roundOf_29 : decode cX3_roundOf 29 = .ok (.ldc2_w 119, 3) := by decide +kernel
theorem dX3_roundOf_32 : decode cX3_roundOf 32 = .ok (.invokevirtual 115, 3) := by decide +kernel
theorem dX3_roundOf_35 : decode cX3_roundOf 35 = .ok (.ifCond .eq 5, 3) := by decide +kernel
theorem dX3_roundOf_38 : decode cX3_roundOf 38 = .ok (.iconst 0, 1) := by decide +kernel
theorem dX3_roundOf_39 : decode cX3_roundOf 39 = .ok (.ireturn, 1) := by decide +kernel
theorem dX3_roundOf_40 : decode cX3_roundOf 40 = .ok (.aload_n 0, 1) := by decide +kernel
theorem dX3_roundOf_41 : decode cX3_roundOf 41 = .ok (.invokevirtual 103, 3) := by decide +kernel
theorem dX3_roundOf_44 : decode cX3_roundOf 44 = .ok (.ldc2_w 107, 3) := by decide +kernel
theorem dX3_roundOf_47 : decode cX3_roundOf 47 = .ok (.aload_n 0, 1) := by decide +kernel
theorem dX3_roundOf_48 : decode cX3_roundOf 48 = .ok (.getfield 36, 3) := by decide +kernel
theorem dX3_roundOf_51 : decode cX3_roundOf 51 = .ok (.lmul, 1) := by decide +kernel
theorem dX3_roundOf_52 : decode cX3_roundOf 52 = .ok (.lcmp, 1) := by decide +kernel
theorem dX3_roundOf_53 : decode cX3_roundOf 53 = .ok (.ifCond .eq 19, 3) := by decide +kernel
theorem dX3_roundOf_56 : decode cX3_roundOf 56 = .ok (.aload_n 0, 1) := by decide +kernel
theorem dX3_roundOf_57 : decode cX3_roundOf 57 = .ok (.invokevirtual 103, 3) := by decide +kernel
theorem dX3_roundOf_60 : decode cX3_roundOf 60 = .ok (.ldc2_w 109, 3) := by decide +kernel
theorem dX3_roundOf_63 : decode cX3_roundOf 63 = .ok (.aload_n 0, 1) := by decide +kernel
theorem dX3_roundOf_64 : decode cX3_roundOf 64 = .ok (.getfield 36, 3) := by decide +kernel
theorem dX3_roundOf_67 : decode cX3_roundOf 67 = .ok (.lmul, 1) := by decide +kernel
theorem dX3_roundOf_68 : decode cX3_roundOf 68 = .ok (.lcmp, 1) := by decide +kernel
theorem dX3_roundOf_69 : decode cX3_roundOf 69 = .ok (.ifCond .ne 7, 3) := by decide +kernel
theorem dX3_roundOf_72 : decode cX3_roundOf 72 = .ok (.iconst 1, 1) := by decide +kernel
theorem dX3_roundOf_73 : decode cX3_roundOf 73 = .ok (.goto 4, 3) := by decide +kernel
theorem dX3_roundOf_76 : decode cX3_roundOf 76 = .ok (.iconst 2, 1) := by decide +kernel
theorem dX3_roundOf_77 : decode cX3_roundOf 77 = .ok (.ireturn, 1) := by decide +kernel
set_option maxRecDepth 20000 in
theorem ggX3_round_X3_isBench : GoodIn wsX3_round wsX3_isBench := goodIn_r _ [5, 6, 7, 8, 9, 4, 10, 56, 57, 58, 59, 60, 61, 62, 63, 64] (by decide +kernel) (by decide +kernel)
set_option maxRecDepth 20000 in
theorem gX3_round_X3_isBench : GoodIn wsX3_round (wsV RX3 44 RX3 yX3_isBench wsX3_isBench) := goodIn_app (goodIn_of _ (by decide +kernel)) ggX3_round_X3_isBench
set_option maxRecDepth 20000 in
theorem ggX3_round_X3_isWay : GoodIn wsX3_round wsX3_isWay := goodIn_r _ [14] (by decide +kernel) (by decide +kernel)
set_option maxRecDepth 20000 in
theorem gX3_round_X3_isWay : GoodIn wsX3_round (wsV RX3 84 RX3 yX3_isWay wsX3_isWay) := goodIn_app (goodIn_of _ (by decide +kernel)) ggX3_round_X3_isWay
set_option maxRecDepth 20000 in
theorem ggX3_round_X3_roundOf : GoodIn wsX3_round wsX3_roundOf := goodIn_r _ [18, 19, 20, 21, 22, 23, 24, 25, 26, 4, 27, 28, 29, 30, 31, 32, 33, 34, 35, 36, 37, 38, 39, 40, 41, 42, 43, 44, 45, 46, 47, 48, 49, 50, 51, 52, 53, 54, 55, 56, 57, 58, 59, 60, 61, 62, 63, 64] (by decide +kernel) (by decide +kernel)
set_option maxRecDepth 20000 in
theorem gX3_round_X3_roundOf : GoodIn wsX3_round (wsV RX3 121 RX3 yX3_roundOf wsX3_roundOf) := goodIn_app (goodIn_of _ (by decide +kernel)) ggX3_round_X3_roundOf
theorem dX3_round_0 : decode cX3_round 0 = .ok (.aload_n 0, 1) := by decide +kernel
theorem dX3_round_1 : decode cX3_round 1 = .ok (.iload_n 1, 1) := by decide +kernel
theorem dX3_round_2 : decode cX3_round 2 = .ok (.invokevirtual 44, 3) := by decide +kernel
theorem dX3_round_5 : decode cX3_round 5 = .ok (.ifCond .eq 20, 3) := by decide +kernel
theorem dX3_round_8 : decode cX3_round 8 = .ok (.aload_n 0, 1) := by decide +kernel
theorem dX3_round_9 : decode cX3_round 9 = .ok (.iload_n 2, 1) := by decide +kernel
theorem dX3_round_10 : decode cX3_round 10 = .ok (.invokevirtual 84, 3) := by decide +kernel
theorem dX3_round_13 : decode cX3_round 13 = .ok (.ifCond .eq 12, 3) := by decide +kernel
theorem dX3_round_16 : decode cX3_round 16 = .ok (.aload_n 0, 1) := by decide +kernel
theorem dX3_round_17 : decode cX3_round 17 = .ok (.iload_n 1, 1) := by decide +kernel
theorem dX3_round_18 : decode cX3_round 18 = .ok (.iload_n 2, 1) := by decide +kernel
theorem dX3_round_19 : decode cX3_round 19 = .ok (.invokevirtual 121, 3) := by decide +kernel
theorem dX3_round_22 : decode cX3_round 22 = .ok (.goto 4, 3) := by decide +kernel
theorem dX3_round_25 : decode cX3_round 25 = .ok (.iconst (-1), 1) := by decide +kernel
theorem dX3_round_26 : decode cX3_round 26 = .ok (.ireturn, 1) := by decide +kernel
set_option maxRecDepth 20000 in
theorem ggX3_trace_X3_isBench : GoodIn wsX3_trace wsX3_isBench := goodIn_r _ [8, 9, 10, 11, 12, 7, 13, 50, 51, 52, 53, 54, 55, 56, 57, 58] (by decide +kernel) (by decide +kernel)
set_option maxRecDepth 20000 in
theorem gX3_trace_X3_isBench : GoodIn wsX3_trace (wsV RX3 44 RX3 yX3_isBench wsX3_isBench) := goodIn_app (goodIn_of _ (by decide +kernel)) ggX3_trace_X3_isBench
set_option maxRecDepth 20000 in
theorem ggX3_trace_X3_isWay : GoodIn wsX3_trace wsX3_isWay := goodIn_r _ [17] (by decide +kernel) (by decide +kernel)
set_option maxRecDepth 20000 in
theorem gX3_trace_X3_isWay : GoodIn wsX3_trace (wsV RX3 84 RX3 yX3_isWay wsX3_isWay) := goodIn_app (goodIn_of _ (by decide +kernel)) ggX3_trace_X3_isWay
set_option maxRecDepth 20000 in
theorem ggX3_trace_X3_in : GoodIn wsX3_trace wsX3_in := goodIn_r _ [13] (by decide +kernel) (by decide +kernel)
set_option maxRecDepth 20000 in
theorem gX3_trace_X3_in : GoodIn wsX3_trace (wsV RX3 40 RX3 yX3_in wsX3_in) := goodIn_app (goodIn_of _ (by decide +kernel)) ggX3_trace_X3_in
set_option maxRecDepth 20000 in
theorem ggX3_trace_X3_work : GoodIn wsX3_trace wsX3_work := goodIn_r _ [21, 2, 22, 23, 24, 7, 25, 26, 3, 27, 28, 29, 30, 31, 32, 33, 34, 35, 36, 37, 50, 51, 52, 53, 54, 55, 56, 57, 58] (by decide +kernel) (by decide +kernel)
set_option maxRecDepth 20000 in
theorem gX3_trace_X3_work : GoodIn wsX3_trace (wsV RX3 89 RX3 yX3_work wsX3_work) := goodIn_app (goodIn_of _ (by decide +kernel)) ggX3_trace_X3_work
set_option maxRecDepth 20000 in
theorem ggX3_trace_X3_traceOf : GoodIn wsX3_trace wsX3_traceOf := goodIn_r _ [41, 26, 50, 51, 52, 53, 54, 55, 56, 57, 58] (by decide +kernel) (by decide +kernel)
set_option maxRecDepth 20000 in
theorem gX3_trace_X3_traceOf : GoodIn wsX3_trace (wsV RX3 103 RX3 yX3_traceOf wsX3_traceOf) := goodIn_app (goodIn_of _ (by decide +kernel)) ggX3_trace_X3_traceOf
set_option maxRecDepth 20000 in
theorem ggX3_trace_X3_lowest : GoodIn wsX3_trace wsX3_lowest := goodIn_r _ [45, 46, 47, 48, 7, 49] (by decide +kernel) (by decide +kernel)
set_option maxRecDepth 20000 in
theorem gX3_trace_X3_lowest : GoodIn wsX3_trace (wsV RX3 92 RX3 yX3_lowest wsX3_lowest) := goodIn_app (goodIn_of _ (by decide +kernel)) ggX3_trace_X3_lowest
theorem dX3_trace_0 : decode cX3_trace 0 = .ok (.aload_n 0, 1) := by decide +kernel
theorem dX3_trace_1 : decode cX3_trace 1 = .ok (.iload_n 1, 1) := by decide +kernel
theorem dX3_trace_2 : decode cX3_trace 2 = .ok (.invokevirtual 44, 3) := by decide +kernel
theorem dX3_trace_5 : decode cX3_trace 5 = .ok (.ifCond .eq 21, 3) := by decide +kernel
theorem dX3_trace_8 : decode cX3_trace 8 = .ok (.aload_n 0, 1) := by decide +kernel
theorem dX3_trace_9 : decode cX3_trace 9 = .ok (.iload_n 2, 1) := by decide +kernel
theorem dX3_trace_10 : decode cX3_trace 10 = .ok (.invokevirtual 84, 3) := by decide +kernel
theorem dX3_trace_13 : decode cX3_trace 13 = .ok (.ifCond .eq 13, 3) := by decide +kernel
theorem dX3_trace_16 : decode cX3_trace 16 = .ok (.aload_n 0, 1) := by decide +kernel
theorem dX3_trace_17 : decode cX3_trace 17 = .ok (.iload_n 3, 1) := by decide +kernel
theorem dX3_trace_18 : decode cX3_trace 18 = .ok (.iconst 0, 1) := by decide +kernel
theorem dX3_trace_19 : decode cX3_trace 19 = .ok (.iconst 1, 1) := by decide +kernel
theorem dX3_trace_20 : decode cX3_trace 20 = .ok (.invokevirtual 40, 3) := by decide +kernel
theorem dX3_trace_23 : decode cX3_trace 23 = .ok (.ifCond .ne 7, 3) := by decide +kernel
theorem dX3_trace_26 : decode cX3_trace 26 = .ok (.ldc2_w 87, 3) := by decide +kernel
theorem dX3_trace_29 : decode cX3_trace 29 = .ok (.lreturn, 1) := by decide +kernel
theorem dX3_trace_30 : decode cX3_trace 30 = .ok (.aload_n 0, 1) := by decide +kernel
theorem dX3_trace_31 : decode cX3_trace 31 = .ok (.iload_n 1, 1) := by decide +kernel
theorem dX3_trace_32 : decode cX3_trace 32 = .ok (.iload_n 2, 1) := by decide +kernel
theorem dX3_trace_33 : decode cX3_trace 33 = .ok (.iconst 0, 1) := by decide +kernel
theorem dX3_trace_34 : decode cX3_trace 34 = .ok (.aload_n 0, 1) := by decide +kernel
theorem dX3_trace_35 : decode cX3_trace 35 = .ok (.getfield 13, 3) := by decide +kernel
theorem dX3_trace_38 : decode cX3_trace 38 = .ok (.iload_n 1, 1) := by decide +kernel
theorem dX3_trace_39 : decode cX3_trace 39 = .ok (.iaload, 1) := by decide +kernel
theorem dX3_trace_40 : decode cX3_trace 40 = .ok (.invokevirtual 89, 3) := by decide +kernel
theorem dX3_trace_43 : decode cX3_trace 43 = .ok (.aload_n 0, 1) := by decide +kernel
theorem dX3_trace_44 : decode cX3_trace 44 = .ok (.aload_n 0, 1) := by decide +kernel
theorem dX3_trace_45 : decode cX3_trace 45 = .ok (.invokevirtual 103, 3) := by decide +kernel
theorem dX3_trace_48 : decode cX3_trace 48 = .ok (.aload_n 0, 1) := by decide +kernel
theorem dX3_trace_49 : decode cX3_trace 49 = .ok (.getfield 36, 3) := by decide +kernel
theorem dX3_trace_52 : decode cX3_trace 52 = .ok (.iload_n 3, 1) := by decide +kernel
theorem dX3_trace_53 : decode cX3_trace 53 = .ok (.invokevirtual 92, 3) := by decide +kernel
theorem dX3_trace_56 : decode cX3_trace 56 = .ok (.lreturn, 1) := by decide +kernel
set_option maxRecDepth 20000 in
theorem ggX3_turns_X3_isBench : GoodIn wsX3_turns wsX3_isBench := goodIn_r _ [8, 9, 10, 11, 12, 7, 13, 46, 47, 48, 49, 50, 51, 52, 53, 54] (by decide +kernel) (by decide +kernel)
set_option maxRecDepth 20000 in
theorem gX3_turns_X3_isBench : GoodIn wsX3_turns (wsV RX3 44 RX3 yX3_isBench wsX3_isBench) := goodIn_app (goodIn_of _ (by decide +kernel)) ggX3_turns_X3_isBench
set_option maxRecDepth 20000 in
theorem ggX3_turns_X3_isWay : GoodIn wsX3_turns wsX3_isWay := goodIn_r _ [17] (by decide +kernel) (by decide +kernel)
set_option maxRecDepth 20000 in
theorem gX3_turns_X3_isWay : GoodIn wsX3_turns (wsV RX3 84 RX3 yX3_isWay wsX3_isWay) := goodIn_app (goodIn_of _ (by decide +kernel)) ggX3_turns_X3_isWay
set_option maxRecDepth 20000 in
theorem ggX3_turns_X3_work : GoodIn wsX3_turns wsX3_work := goodIn_r _ [21, 1, 22, 23, 24, 7, 25, 26, 3, 27, 28, 29, 30, 31, 32, 33, 34, 35, 36, 37, 46, 47, 48, 49, 50, 51, 52, 53, 54] (by decide +kernel) (by decide +kernel)
set_option maxRecDepth 20000 in
theorem gX3_turns_X3_work : GoodIn wsX3_turns (wsV RX3 89 RX3 yX3_work wsX3_work) := goodIn_app (goodIn_of _ (by decide +kernel)) ggX3_turns_X3_work
set_option maxRecDepth 20000 in
theorem ggX3_turns_X3_isPlain : GoodIn wsX3_turns wsX3_isPlain := goodIn_r _ [41, 26, 3, 46, 47, 48, 49, 50, 51, 52, 53, 54] (by decide +kernel) (by decide +kernel)
set_option maxRecDepth 20000 in
theorem gX3_turns_X3_isPlain : GoodIn wsX3_turns (wsV RX3 115 RX3 yX3_isPlain wsX3_isPlain) := goodIn_app (goodIn_of _ (by decide +kernel)) ggX3_turns_X3_isPlain
set_option maxRecDepth 20000 in
theorem ggX3_turns_X3_traceOf : GoodIn wsX3_turns wsX3_traceOf := goodIn_r _ [45, 26, 46, 47, 48, 49, 50, 51, 52, 53, 54] (by decide +kernel) (by decide +kernel)
set_option maxRecDepth 20000 in
theorem gX3_turns_X3_traceOf : GoodIn wsX3_turns (wsV RX3 103 RX3 yX3_traceOf wsX3_traceOf) := goodIn_app (goodIn_of _ (by decide +kernel)) ggX3_turns_X3_traceOf
theorem dX3_turns_0 : decode cX3_turns 0 = .ok (.aload_n 0, 1) := by decide +kernel
theorem dX3_turns_1 : decode cX3_turns 1 = .ok (.iload_n 1, 1) := by decide +kernel
theorem dX3_turns_2 : decode cX3_turns 2 = .ok (.invokevirtual 44, 3) := by decide +kernel
theorem dX3_turns_5 : decode cX3_turns 5 = .ok (.ifCond .eq 11, 3) := by decide +kernel
theorem dX3_turns_8 : decode cX3_turns 8 = .ok (.aload_n 0, 1) := by decide +kernel
theorem dX3_turns_9 : decode cX3_turns 9 = .ok (.iload_n 2, 1) := by decide +kernel
theorem dX3_turns_10 : decode cX3_turns 10 = .ok (.invokevirtual 84, 3) := by decide +kernel
theorem dX3_turns_13 : decode cX3_turns 13 = .ok (.ifCond .ne 5, 3) := by decide +kernel
theorem dX3_turns_16 : decode cX3_turns 16 = .ok (.iconst (-1), 1) := by decide +kernel
theorem dX3_turns_17 : decode cX3_turns 17 = .ok (.ireturn, 1) := by decide +kernel
theorem dX3_turns_18 : decode cX3_turns 18 = .ok (.aload_n 0, 1) := by decide +kernel
theorem dX3_turns_19 : decode cX3_turns 19 = .ok (.iload_n 1, 1) := by decide +kernel
theorem dX3_turns_20 : decode cX3_turns 20 = .ok (.iload_n 2, 1) := by decide +kernel
theorem dX3_turns_21 : decode cX3_turns 21 = .ok (.iconst 0, 1) := by decide +kernel
theorem dX3_turns_22 : decode cX3_turns 22 = .ok (.aload_n 0, 1) := by decide +kernel
theorem dX3_turns_23 : decode cX3_turns 23 = .ok (.getfield 13, 3) := by decide +kernel
theorem dX3_turns_26 : decode cX3_turns 26 = .ok (.iload_n 1, 1) := by decide +kernel
theorem dX3_turns_27 : decode cX3_turns 27 = .ok (.iaload, 1) := by decide +kernel
theorem dX3_turns_28 : decode cX3_turns 28 = .ok (.invokevirtual 89, 3) := by decide +kernel
theorem dX3_turns_31 : decode cX3_turns 31 = .ok (.aload_n 0, 1) := by decide +kernel
theorem dX3_turns_32 : decode cX3_turns 32 = .ok (.lconst 1, 1) := by decide +kernel
theorem dX3_turns_33 : decode cX3_turns 33 = .ok (.invokevirtual 115, 3) := by decide +kernel
theorem dX3_turns_36 : decode cX3_turns 36 = .ok (.ifCond .eq 5, 3) := by decide +kernel
theorem dX3_turns_39 : decode cX3_turns 39 = .ok (.iconst 1, 1) := by decide +kernel
theorem dX3_turns_40 : decode cX3_turns 40 = .ok (.ireturn, 1) := by decide +kernel
theorem dX3_turns_41 : decode cX3_turns 41 = .ok (.aload_n 0, 1) := by decide +kernel
theorem dX3_turns_42 : decode cX3_turns 42 = .ok (.ldc2_w 119, 3) := by decide +kernel
theorem dX3_turns_45 : decode cX3_turns 45 = .ok (.invokevirtual 115, 3) := by decide +kernel
theorem dX3_turns_48 : decode cX3_turns 48 = .ok (.ifCond .eq 5, 3) := by decide +kernel
theorem dX3_turns_51 : decode cX3_turns 51 = .ok (.iconst 2, 1) := by decide +kernel
theorem dX3_turns_52 : decode cX3_turns 52 = .ok (.ireturn, 1) := by decide +kernel
theorem dX3_turns_53 : decode cX3_turns 53 = .ok (.aload_n 0, 1) := by decide +kernel
theorem dX3_turns_54 : decode cX3_turns 54 = .ok (.invokevirtual 103, 3) := by decide +kernel
theorem dX3_turns_57 : decode cX3_turns 57 = .ok (.aload_n 0, 1) := by decide +kernel
theorem dX3_turns_58 : decode cX3_turns 58 = .ok (.getfield 36, 3) := by decide +kernel
theorem dX3_turns_61 : decode cX3_turns 61 = .ok (.lneg, 1) := by decide +kernel
theorem dX3_turns_62 : decode cX3_turns 62 = .ok (.lcmp, 1) := by decide +kernel
theorem dX3_turns_63 : decode cX3_turns 63 = .ok (.ifCond .ne 7, 3) := by decide +kernel
theorem dX3_turns_66 : decode cX3_turns 66 = .ok (.iconst 3, 1) := by decide +kernel
theorem dX3_turns_67 : decode cX3_turns 67 = .ok (.goto 34, 3) := by decide +kernel
theorem dX3_turns_70 : decode cX3_turns 70 = .ok (.aload_n 0, 1) := by decide +kernel
theorem dX3_turns_71 : decode cX3_turns 71 = .ok (.invokevirtual 103, 3) := by decide +kernel
theorem dX3_turns_74 : decode cX3_turns 74 = .ok (.lconst 0, 1) := by decide +kernel
theorem dX3_turns_75 : decode cX3_turns 75 = .ok (.lcmp, 1) := by decide +kernel
theorem dX3_turns_76 : decode cX3_turns 76 = .ok (.ifCond .ne 7, 3) := by decide +kernel
theorem dX3_turns_79 : decode cX3_turns 79 = .ok (.iconst 4, 1) := by decide +kernel
theorem dX3_turns_80 : decode cX3_turns 80 = .ok (.goto 21, 3) := by decide +kernel
theorem dX3_turns_83 : decode cX3_turns 83 = .ok (.aload_n 0, 1) := by decide +kernel
theorem dX3_turns_84 : decode cX3_turns 84 = .ok (.invokevirtual 103, 3) := by decide +kernel
theorem dX3_turns_87 : decode cX3_turns 87 = .ok (.aload_n 0, 1) := by decide +kernel
theorem dX3_turns_88 : decode cX3_turns 88 = .ok (.getfield 36, 3) := by decide +kernel
theorem dX3_turns_91 : decode cX3_turns 91 = .ok (.lcmp, 1) := by decide +kernel
theorem dX3_turns_92 : decode cX3_turns 92 = .ok (.ifCond .ne 8, 3) := by decide +kernel
theorem dX3_turns_95 : decode cX3_turns 95 = .ok (.bipush 6, 2) := by decide +kernel
theorem dX3_turns_97 : decode cX3_turns 97 = .ok (.goto 4, 3) := by decide +kernel
theorem dX3_turns_100 : decode cX3_turns 100 = .ok (.iconst 0, 1) := by decide +kernel
theorem dX3_turns_101 : decode cX3_turns 101 = .ok (.ireturn, 1) := by decide +kernel
theorem dX3_wideAbove_0 : decode cX3_wideAbove 0 = .ok (.ldc2_w 125, 3) := by decide +kernel
theorem dX3_wideAbove_3 : decode cX3_wideAbove 3 = .ok (.aload_n 0, 1) := by decide +kernel
theorem dX3_wideAbove_4 : decode cX3_wideAbove 4 = .ok (.getfield 32, 3) := by decide +kernel
theorem dX3_wideAbove_7 : decode cX3_wideAbove 7 = .ok (.iconst 1, 1) := by decide +kernel
theorem dX3_wideAbove_8 : decode cX3_wideAbove 8 = .ok (.laload, 1) := by decide +kernel
theorem dX3_wideAbove_9 : decode cX3_wideAbove 9 = .ok (.lmul, 1) := by decide +kernel
theorem dX3_wideAbove_10 : decode cX3_wideAbove 10 = .ok (.aload_n 0, 1) := by decide +kernel
theorem dX3_wideAbove_11 : decode cX3_wideAbove 11 = .ok (.getfield 32, 3) := by decide +kernel
theorem dX3_wideAbove_14 : decode cX3_wideAbove 14 = .ok (.iconst 1, 1) := by decide +kernel
theorem dX3_wideAbove_15 : decode cX3_wideAbove 15 = .ok (.laload, 1) := by decide +kernel
theorem dX3_wideAbove_16 : decode cX3_wideAbove 16 = .ok (.lmul, 1) := by decide +kernel
theorem dX3_wideAbove_17 : decode cX3_wideAbove 17 = .ok (.lreturn, 1) := by decide +kernel
set_option maxRecDepth 20000 in
theorem ggX3_wideBelow_X3_traceOf : GoodIn wsX3_wideBelow wsX3_traceOf := goodIn_r _ [7, 8, 9, 10, 11, 12, 13, 14, 15, 16, 17] (by decide +kernel) (by decide +kernel)
set_option maxRecDepth 20000 in
theorem gX3_wideBelow_X3_traceOf : GoodIn wsX3_wideBelow (wsV RX3 103 RX3 yX3_traceOf wsX3_traceOf) := goodIn_app (goodIn_of _ (by decide +kernel)) ggX3_wideBelow_X3_traceOf
theorem dX3_wideBelow_0 : decode cX3_wideBelow 0 = .ok (.ldc2_w 125, 3) := by decide +kernel
theorem dX3_wideBelow_3 : decode cX3_wideBelow 3 = .ok (.aload_n 0, 1) := by decide +kernel
theorem dX3_wideBelow_4 : decode cX3_wideBelow 4 = .ok (.getfield 36, 3) := by decide +kernel
theorem dX3_wideBelow_7 : decode cX3_wideBelow 7 = .ok (.lmul, 1) := by decide +kernel
theorem dX3_wideBelow_8 : decode cX3_wideBelow 8 = .ok (.aload_n 0, 1) := by decide +kernel
theorem dX3_wideBelow_9 : decode cX3_wideBelow 9 = .ok (.getfield 36, 3) := by decide +kernel
theorem dX3_wideBelow_12 : decode cX3_wideBelow 12 = .ok (.lmul, 1) := by decide +kernel
theorem dX3_wideBelow_13 : decode cX3_wideBelow 13 = .ok (.aload_n 0, 1) := by decide +kernel
theorem dX3_wideBelow_14 : decode cX3_wideBelow 14 = .ok (.invokevirtual 103, 3) := by decide +kernel
theorem dX3_wideBelow_17 : decode cX3_wideBelow 17 = .ok (.aload_n 0, 1) := by decide +kernel
theorem dX3_wideBelow_18 : decode cX3_wideBelow 18 = .ok (.invokevirtual 103, 3) := by decide +kernel
theorem dX3_wideBelow_21 : decode cX3_wideBelow 21 = .ok (.lmul, 1) := by decide +kernel
theorem dX3_wideBelow_22 : decode cX3_wideBelow 22 = .ok (.lsub, 1) := by decide +kernel
theorem dX3_wideBelow_23 : decode cX3_wideBelow 23 = .ok (.lreturn, 1) := by decide +kernel
set_option maxRecDepth 20000 in
theorem ggX3_beam_X3_isPart : GoodIn wsX3_beam wsX3_isPart := goodIn_r _ [9, 2, 10, 11, 12, 8, 13, 14, 15, 16, 17, 18, 69, 70, 71, 72, 73, 74, 75, 76, 77] (by decide +kernel) (by decide +kernel)
set_option maxRecDepth 20000 in
theorem gX3_beam_X3_isPart : GoodIn wsX3_beam (wsV RX3 65 RX3 yX3_isPart wsX3_isPart) := goodIn_app (goodIn_of _ (by decide +kernel)) ggX3_beam_X3_isPart
set_option maxRecDepth 20000 in
theorem ggX3_beam_X3_isWay : GoodIn wsX3_beam wsX3_isWay := goodIn_r _ [22] (by decide +kernel) (by decide +kernel)
set_option maxRecDepth 20000 in
theorem gX3_beam_X3_isWay : GoodIn wsX3_beam (wsV RX3 84 RX3 yX3_isWay wsX3_isWay) := goodIn_app (goodIn_of _ (by decide +kernel)) ggX3_beam_X3_isWay
set_option maxRecDepth 20000 in
theorem ggX3_beam_X3_in : GoodIn wsX3_beam wsX3_in := goodIn_r _ [18] (by decide +kernel) (by decide +kernel)
set_option maxRecDepth 20000 in
theorem gX3_beam_X3_in : GoodIn wsX3_beam (wsV RX3 40 RX3 yX3_in wsX3_in) := goodIn_app (goodIn_of _ (by decide +kernel)) ggX3_beam_X3_in
set_option maxRecDepth 20000 in
theorem ggX3_beam_X3_work : GoodIn wsX3_beam wsX3_work := goodIn_r _ [26, 2, 27, 28, 29, 8, 30, 3, 31, 32, 33, 34, 35, 36, 37, 38, 39, 40, 41, 42, 69, 70, 71, 72, 73, 74, 75, 76, 77] (by decide +kernel) (by decide +kernel)
set_option maxRecDepth 20000 in
theorem gX3_beam_X3_work : GoodIn wsX3_beam (wsV RX3 89 RX3 yX3_work wsX3_work) := goodIn_app (goodIn_of _ (by decide +kernel)) ggX3_beam_X3_work
set_option maxRecDepth 20000 in
theorem ggX3_beam_X3_isBetween : GoodIn wsX3_beam wsX3_isBetween := goodIn_r _ [46, 4, 31, 47, 48, 49, 50, 8, 51, 3, 69, 70, 71, 72, 73, 74, 75, 76, 77] (by decide +kernel) (by decide +kernel)
set_option maxRecDepth 20000 in
theorem gX3_beam_X3_isBetween : GoodIn wsX3_beam (wsV RX3 111 RX3 yX3_isBetween wsX3_isBetween) := goodIn_app (goodIn_of _ (by decide +kernel)) ggX3_beam_X3_isBetween
set_option maxRecDepth 20000 in
theorem ggX3_beam_X3_wideAbove : GoodIn wsX3_beam wsX3_wideAbove := goodIn_r _ [55, 56, 3, 69, 70, 71, 72, 73, 74, 75, 76, 77] (by decide +kernel) (by decide +kernel)
set_option maxRecDepth 20000 in
theorem gX3_beam_X3_wideAbove : GoodIn wsX3_beam (wsV RX3 127 RX3 yX3_wideAbove wsX3_wideAbove) := goodIn_app (goodIn_of _ (by decide +kernel)) ggX3_beam_X3_wideAbove
set_option maxRecDepth 20000 in
theorem ggX3_beam_X3_wideBelow : GoodIn wsX3_beam wsX3_wideBelow := goodIn_r _ [60, 56, 31, 48, 49, 50, 8, 51, 3, 69, 70, 71, 72, 73, 74, 75, 76, 77] (by decide +kernel) (by decide +kernel)
set_option maxRecDepth 20000 in
theorem gX3_beam_X3_wideBelow : GoodIn wsX3_beam (wsV RX3 130 RX3 yX3_wideBelow wsX3_wideBelow) := goodIn_app (goodIn_of _ (by decide +kernel)) ggX3_beam_X3_wideBelow
set_option maxRecDepth 20000 in
theorem ggX3_beam_X3_lowest : GoodIn wsX3_beam wsX3_lowest := goodIn_r _ [64, 65, 66, 67, 8, 68] (by decide +kernel) (by decide +kernel)
set_option maxRecDepth 20000 in
theorem gX3_beam_X3_lowest : GoodIn wsX3_beam (wsV RX3 92 RX3 yX3_lowest wsX3_lowest) := goodIn_app (goodIn_of _ (by decide +kernel)) ggX3_beam_X3_lowest
theorem dX3_beam_0 : decode cX3_beam 0 = .ok (.aload_n 0, 1) := by decide +kernel
theorem dX3_beam_1 : decode cX3_beam 1 = .ok (.iload_n 1, 1) := by decide +kernel
theorem dX3_beam_2 : decode cX3_beam 2 = .ok (.iload_n 3, 1) := by decide +kernel
theorem dX3_beam_3 : decode cX3_beam 3 = .ok (.invokevirtual 65, 3) := by decide +kernel
theorem dX3_beam_6 : decode cX3_beam 6 = .ok (.ifCond .eq 33, 3) := by decide +kernel
theorem dX3_beam_9 : decode cX3_beam 9 = .ok (.aload_n 0, 1) := by decide +kernel
theorem dX3_beam_10 : decode cX3_beam 10 = .ok (.iload_n 2, 1) := by decide +kernel
theorem dX3_beam_11 : decode cX3_beam 11 = .ok (.invokevirtual 84, 3) := by decide +kernel
theorem dX3_beam_14 : decode cX3_beam 14 = .ok (.ifCond .eq 25, 3) := by decide +kernel
theorem dX3_beam_17 : decode cX3_beam 17 = .ok (.aload_n 0, 1) := by decide +kernel
theorem dX3_beam_18 : decode cX3_beam 18 = .ok (.iload 4, 2) := by decide +kernel
theorem dX3_beam_20 : decode cX3_beam 20 = .ok (.iconst 0, 1) := by decide +kernel
theorem dX3_beam_21 : decode cX3_beam 21 = .ok (.iconst 1, 1) := by decide +kernel
theorem dX3_beam_22 : decode cX3_beam 22 = .ok (.invokevirtual 40, 3) := by decide +kernel
theorem dX3_beam_25 : decode cX3_beam 25 = .ok (.ifCond .eq 14, 3) := by decide +kernel
theorem dX3_beam_28 : decode cX3_beam 28 = .ok (.aload_n 0, 1) := by decide +kernel
theorem dX3_beam_29 : decode cX3_beam 29 = .ok (.iload 5, 2) := by decide +kernel
theorem dX3_beam_31 : decode cX3_beam 31 = .ok (.iconst 0, 1) := by decide +kernel
theorem dX3_beam_32 : decode cX3_beam 32 = .ok (.iconst 1, 1) := by decide +kernel
theorem dX3_beam_33 : decode cX3_beam 33 = .ok (.invokevirtual 40, 3) := by decide +kernel
theorem dX3_beam_36 : decode cX3_beam 36 = .ok (.ifCond .ne 7, 3) := by decide +kernel
theorem dX3_beam_39 : decode cX3_beam 39 = .ok (.ldc2_w 87, 3) := by decide +kernel
theorem dX3_beam_42 : decode cX3_beam 42 = .ok (.lreturn, 1) := by decide +kernel
theorem dX3_beam_43 : decode cX3_beam 43 = .ok (.aload_n 0, 1) := by decide +kernel
theorem dX3_beam_44 : decode cX3_beam 44 = .ok (.iload_n 1, 1) := by decide +kernel
theorem dX3_beam_45 : decode cX3_beam 45 = .ok (.iload_n 2, 1) := by decide +kernel
theorem dX3_beam_46 : decode cX3_beam 46 = .ok (.iload_n 3, 1) := by decide +kernel
theorem dX3_beam_47 : decode cX3_beam 47 = .ok (.aload_n 0, 1) := by decide +kernel
theorem dX3_beam_48 : decode cX3_beam 48 = .ok (.getfield 13, 3) := by decide +kernel
theorem dX3_beam_51 : decode cX3_beam 51 = .ok (.iload_n 1, 1) := by decide +kernel
theorem dX3_beam_52 : decode cX3_beam 52 = .ok (.iaload, 1) := by decide +kernel
theorem dX3_beam_53 : decode cX3_beam 53 = .ok (.invokevirtual 89, 3) := by decide +kernel
theorem dX3_beam_56 : decode cX3_beam 56 = .ok (.aload_n 0, 1) := by decide +kernel
theorem dX3_beam_57 : decode cX3_beam 57 = .ok (.invokevirtual 111, 3) := by decide +kernel
theorem dX3_beam_60 : decode cX3_beam 60 = .ok (.ifCond .ne 7, 3) := by decide +kernel
theorem dX3_beam_63 : decode cX3_beam 63 = .ok (.ldc2_w 87, 3) := by decide +kernel
theorem dX3_beam_66 : decode cX3_beam 66 = .ok (.lreturn, 1) := by decide +kernel
theorem dX3_beam_67 : decode cX3_beam 67 = .ok (.iload 4, 2) := by decide +kernel
theorem dX3_beam_69 : decode cX3_beam 69 = .ok (.ifCond .ne 20, 3) := by decide +kernel
theorem dX3_beam_72 : decode cX3_beam 72 = .ok (.aload_n 0, 1) := by decide +kernel
theorem dX3_beam_73 : decode cX3_beam 73 = .ok (.aload_n 0, 1) := by decide +kernel
theorem dX3_beam_74 : decode cX3_beam 74 = .ok (.invokevirtual 127, 3) := by decide +kernel
theorem dX3_beam_77 : decode cX3_beam 77 = .ok (.aload_n 0, 1) := by decide +kernel
theorem dX3_beam_78 : decode cX3_beam 78 = .ok (.invokevirtual 130, 3) := by decide +kernel
theorem dX3_beam_81 : decode cX3_beam 81 = .ok (.iload 5, 2) := by decide +kernel
theorem dX3_beam_83 : decode cX3_beam 83 = .ok (.invokevirtual 92, 3) := by decide +kernel
theorem dX3_beam_86 : decode cX3_beam 86 = .ok (.goto 32, 3) := by decide +kernel
theorem dX3_beam_89 : decode cX3_beam 89 = .ok (.aload_n 0, 1) := by decide +kernel
theorem dX3_beam_90 : decode cX3_beam 90 = .ok (.aload_n 0, 1) := by decide +kernel
theorem dX3_beam_91 : decode cX3_beam 91 = .ok (.getfield 32, 3) := by decide +kernel
theorem dX3_beam_94 : decode cX3_beam 94 = .ok (.iconst 3, 1) := by decide +kernel
theorem dX3_beam_95 : decode cX3_beam 95 = .ok (.laload, 1) := by decide +kernel
theorem dX3_beam_96 : decode cX3_beam 96 = .ok (.aload_n 0, 1) := by decide +kernel
theorem dX3_beam_97 : decode cX3_beam 97 = .ok (.getfield 32, 3) := by decide +kernel
theorem dX3_beam_100 : decode cX3_beam 100 = .ok (.iconst 0, 1) := by decide +kernel
theorem dX3_beam_101 : decode cX3_beam 101 = .ok (.laload, 1) := by decide +kernel
theorem dX3_beam_102 : decode cX3_beam 102 = .ok (.lsub, 1) := by decide +kernel
theorem dX3_beam_103 : decode cX3_beam 103 = .ok (.ldc2_w 107, 3) := by decide +kernel
theorem dX3_beam_106 : decode cX3_beam 106 = .ok (.aload_n 0, 1) := by decide +kernel
theorem dX3_beam_107 : decode cX3_beam 107 = .ok (.getfield 32, 3) := by decide +kernel
theorem dX3_beam_110 : decode cX3_beam 110 = .ok (.iconst 1, 1) := by decide +kernel
theorem dX3_beam_111 : decode cX3_beam 111 = .ok (.laload, 1) := by decide +kernel
theorem dX3_beam_112 : decode cX3_beam 112 = .ok (.lmul, 1) := by decide +kernel
theorem dX3_beam_113 : decode cX3_beam 113 = .ok (.iload 5, 2) := by decide +kernel
theorem dX3_beam_115 : decode cX3_beam 115 = .ok (.invokevirtual 92, 3) := by decide +kernel
theorem dX3_beam_118 : decode cX3_beam 118 = .ok (.lreturn, 1) := by decide +kernel
set_option maxRecDepth 20000 in
theorem ggX3_waist_X3_isBench : GoodIn wsX3_waist wsX3_isBench := goodIn_r _ [7, 8, 9, 10, 11, 6, 12, 47, 48, 49, 50, 51, 52, 53, 54, 55] (by decide +kernel) (by decide +kernel)
set_option maxRecDepth 20000 in
theorem gX3_waist_X3_isBench : GoodIn wsX3_waist (wsV RX3 44 RX3 yX3_isBench wsX3_isBench) := goodIn_app (goodIn_of _ (by decide +kernel)) ggX3_waist_X3_isBench
set_option maxRecDepth 20000 in
theorem ggX3_waist_X3_isWay : GoodIn wsX3_waist wsX3_isWay := goodIn_r _ [16] (by decide +kernel) (by decide +kernel)
set_option maxRecDepth 20000 in
theorem gX3_waist_X3_isWay : GoodIn wsX3_waist (wsV RX3 84 RX3 yX3_isWay wsX3_isWay) := goodIn_app (goodIn_of _ (by decide +kernel)) ggX3_waist_X3_isWay
set_option maxRecDepth 20000 in
theorem ggX3_waist_X3_work : GoodIn wsX3_waist wsX3_work := goodIn_r _ [20, 1, 21, 22, 23, 6, 24, 2, 25, 26, 27, 28, 29, 30, 31, 32, 33, 34, 35, 36, 47, 48, 49, 50, 51, 52, 53, 54, 55] (by decide +kernel) (by decide +kernel)
set_option maxRecDepth 20000 in
theorem gX3_waist_X3_work : GoodIn wsX3_waist (wsV RX3 89 RX3 yX3_work wsX3_work) := goodIn_app (goodIn_of _ (by decide +kernel)) ggX3_waist_X3_work
set_option maxRecDepth 20000 in
theorem ggX3_waist_X3_isBetween : GoodIn wsX3_waist wsX3_isBetween := goodIn_r _ [40, 41, 25, 42, 43, 44, 45, 6, 46, 2, 47, 48, 49, 50, 51, 52, 53, 54, 55] (by decide +kernel) (by decide +kernel)
set_option maxRecDepth 20000 in
theorem gX3_waist_X3_isBetween : GoodIn wsX3_waist (wsV RX3 111 RX3 yX3_isBetween wsX3_isBetween) := goodIn_app (goodIn_of _ (by decide +kernel)) ggX3_waist_X3_isBetween
theorem dX3_waist_0 : decode cX3_waist 0 = .ok (.aload_n 0, 1) := by decide +kernel
theorem dX3_waist_1 : decode cX3_waist 1 = .ok (.iload_n 1, 1) := by decide +kernel
theorem dX3_waist_2 : decode cX3_waist 2 = .ok (.invokevirtual 44, 3) := by decide +kernel
theorem dX3_waist_5 : decode cX3_waist 5 = .ok (.ifCond .eq 20, 3) := by decide +kernel
theorem dX3_waist_8 : decode cX3_waist 8 = .ok (.aload_n 0, 1) := by decide +kernel
theorem dX3_waist_9 : decode cX3_waist 9 = .ok (.iload_n 2, 1) := by decide +kernel
theorem dX3_waist_10 : decode cX3_waist 10 = .ok (.invokevirtual 84, 3) := by decide +kernel
theorem dX3_waist_13 : decode cX3_waist 13 = .ok (.ifCond .eq 12, 3) := by decide +kernel
theorem dX3_waist_16 : decode cX3_waist 16 = .ok (.aload_n 0, 1) := by decide +kernel
theorem dX3_waist_17 : decode cX3_waist 17 = .ok (.getfield 13, 3) := by decide +kernel
theorem dX3_waist_20 : decode cX3_waist 20 = .ok (.iload_n 1, 1) := by decide +kernel
theorem dX3_waist_21 : decode cX3_waist 21 = .ok (.iaload, 1) := by decide +kernel
theorem dX3_waist_22 : decode cX3_waist 22 = .ok (.ifCond .ne 5, 3) := by decide +kernel
theorem dX3_waist_25 : decode cX3_waist 25 = .ok (.iconst (-1), 1) := by decide +kernel
theorem dX3_waist_26 : decode cX3_waist 26 = .ok (.ireturn, 1) := by decide +kernel
theorem dX3_waist_27 : decode cX3_waist 27 = .ok (.iconst (-1), 1) := by decide +kernel
theorem dX3_waist_28 : decode cX3_waist 28 = .ok (.istore_n 3, 1) := by decide +kernel
theorem dX3_waist_29 : decode cX3_waist 29 = .ok (.lconst 0, 1) := by decide +kernel
theorem dX3_waist_30 : decode cX3_waist 30 = .ok (.lstore 4, 2) := by decide +kernel
theorem dX3_waist_32 : decode cX3_waist 32 = .ok (.iconst 0, 1) := by decide +kernel
theorem dX3_waist_33 : decode cX3_waist 33 = .ok (.istore 6, 2) := by decide +kernel
theorem dX3_waist_35 : decode cX3_waist 35 = .ok (.iload 6, 2) := by decide +kernel
theorem dX3_waist_37 : decode cX3_waist 37 = .ok (.aload_n 0, 1) := by decide +kernel
theorem dX3_waist_38 : decode cX3_waist 38 = .ok (.getfield 13, 3) := by decide +kernel
theorem dX3_waist_41 : decode cX3_waist 41 = .ok (.iload_n 1, 1) := by decide +kernel
theorem dX3_waist_42 : decode cX3_waist 42 = .ok (.iaload, 1) := by decide +kernel
theorem dX3_waist_43 : decode cX3_waist 43 = .ok (.if_icmp .ge 83, 3) := by decide +kernel
theorem dX3_waist_46 : decode cX3_waist 46 = .ok (.aload_n 0, 1) := by decide +kernel
theorem dX3_waist_47 : decode cX3_waist 47 = .ok (.iload_n 1, 1) := by decide +kernel
theorem dX3_waist_48 : decode cX3_waist 48 = .ok (.iload_n 2, 1) := by decide +kernel
theorem dX3_waist_49 : decode cX3_waist 49 = .ok (.iload 6, 2) := by decide +kernel
theorem dX3_waist_51 : decode cX3_waist 51 = .ok (.aload_n 0, 1) := by decide +kernel
theorem dX3_waist_52 : decode cX3_waist 52 = .ok (.getfield 13, 3) := by decide +kernel
theorem dX3_waist_55 : decode cX3_waist 55 = .ok (.iload_n 1, 1) := by decide +kernel
theorem dX3_waist_56 : decode cX3_waist 56 = .ok (.iaload, 1) := by decide +kernel
theorem dX3_waist_57 : decode cX3_waist 57 = .ok (.invokevirtual 89, 3) := by decide +kernel
theorem dX3_waist_60 : decode cX3_waist 60 = .ok (.aload_n 0, 1) := by decide +kernel
theorem dX3_waist_61 : decode cX3_waist 61 = .ok (.invokevirtual 111, 3) := by decide +kernel
theorem dX3_waist_64 : decode cX3_waist 64 = .ok (.ifCond .ne 5, 3) := by decide +kernel
theorem dX3_waist_67 : decode cX3_waist 67 = .ok (.iconst (-1), 1) := by decide +kernel
theorem dX3_waist_68 : decode cX3_waist 68 = .ok (.ireturn, 1) := by decide +kernel
theorem dX3_waist_69 : decode cX3_waist 69 = .ok (.aload_n 0, 1) := by decide +kernel
theorem dX3_waist_70 : decode cX3_waist 70 = .ok (.getfield 32, 3) := by decide +kernel
theorem dX3_waist_73 : decode cX3_waist 73 = .ok (.iconst 1, 1) := by decide +kernel
theorem dX3_waist_74 : decode cX3_waist 74 = .ok (.laload, 1) := by decide +kernel
theorem dX3_waist_75 : decode cX3_waist 75 = .ok (.lconst 0, 1) := by decide +kernel
theorem dX3_waist_76 : decode cX3_waist 76 = .ok (.lcmp, 1) := by decide +kernel
theorem dX3_waist_77 : decode cX3_waist 77 = .ok (.ifCond .ge 13, 3) := by decide +kernel
theorem dX3_waist_80 : decode cX3_waist 80 = .ok (.aload_n 0, 1) := by decide +kernel
theorem dX3_waist_81 : decode cX3_waist 81 = .ok (.getfield 32, 3) := by decide +kernel
theorem dX3_waist_84 : decode cX3_waist 84 = .ok (.iconst 1, 1) := by decide +kernel
theorem dX3_waist_85 : decode cX3_waist 85 = .ok (.laload, 1) := by decide +kernel
theorem dX3_waist_86 : decode cX3_waist 86 = .ok (.lneg, 1) := by decide +kernel
theorem dX3_waist_87 : decode cX3_waist 87 = .ok (.goto 9, 3) := by decide +kernel
theorem dX3_waist_90 : decode cX3_waist 90 = .ok (.aload_n 0, 1) := by decide +kernel
theorem dX3_waist_91 : decode cX3_waist 91 = .ok (.getfield 32, 3) := by decide +kernel
theorem dX3_waist_94 : decode cX3_waist 94 = .ok (.iconst 1, 1) := by decide +kernel
theorem dX3_waist_95 : decode cX3_waist 95 = .ok (.laload, 1) := by decide +kernel
theorem dX3_waist_96 : decode cX3_waist 96 = .ok (.lstore 7, 2) := by decide +kernel
theorem dX3_waist_98 : decode cX3_waist 98 = .ok (.iload_n 3, 1) := by decide +kernel
theorem dX3_waist_99 : decode cX3_waist 99 = .ok (.ifCond .lt 14, 3) := by decide +kernel
theorem dX3_waist_102 : decode cX3_waist 102 = .ok (.lload 7, 2) := by decide +kernel
theorem dX3_waist_104 : decode cX3_waist 104 = .ok (.lload 4, 2) := by decide +kernel
theorem dX3_waist_106 : decode cX3_waist 106 = .ok (.lcmp, 1) := by decide +kernel
theorem dX3_waist_107 : decode cX3_waist 107 = .ok (.ifCond .lt 6, 3) := by decide +kernel
theorem dX3_waist_110 : decode cX3_waist 110 = .ok (.goto 10, 3) := by decide +kernel
theorem dX3_waist_113 : decode cX3_waist 113 = .ok (.iload 6, 2) := by decide +kernel
theorem dX3_waist_115 : decode cX3_waist 115 = .ok (.istore_n 3, 1) := by decide +kernel
theorem dX3_waist_116 : decode cX3_waist 116 = .ok (.lload 7, 2) := by decide +kernel
theorem dX3_waist_118 : decode cX3_waist 118 = .ok (.lstore 4, 2) := by decide +kernel
theorem dX3_waist_120 : decode cX3_waist 120 = .ok (.iinc 6 1, 3) := by decide +kernel
theorem dX3_waist_123 : decode cX3_waist 123 = .ok (.goto (-88), 3) := by decide +kernel
theorem dX3_waist_126 : decode cX3_waist 126 = .ok (.iload_n 3, 1) := by decide +kernel
theorem dX3_waist_127 : decode cX3_waist 127 = .ok (.ireturn, 1) := by decide +kernel
set_option maxRecDepth 20000 in
theorem ggX3_axis_X3_isPart : GoodIn wsX3_axis wsX3_isPart := goodIn_r _ [10, 2, 11, 12, 13, 9, 14, 15, 16, 17, 18, 19, 55, 56, 57, 58, 59, 60, 61, 62, 63] (by decide +kernel) (by decide +kernel)
set_option maxRecDepth 20000 in
theorem gX3_axis_X3_isPart : GoodIn wsX3_axis (wsV RX3 65 RX3 yX3_isPart wsX3_isPart) := goodIn_app (goodIn_of _ (by decide +kernel)) ggX3_axis_X3_isPart
set_option maxRecDepth 20000 in
theorem ggX3_axis_X3_isWay : GoodIn wsX3_axis wsX3_isWay := goodIn_r _ [23] (by decide +kernel) (by decide +kernel)
set_option maxRecDepth 20000 in
theorem gX3_axis_X3_isWay : GoodIn wsX3_axis (wsV RX3 84 RX3 yX3_isWay wsX3_isWay) := goodIn_app (goodIn_of _ (by decide +kernel)) ggX3_axis_X3_isWay
set_option maxRecDepth 20000 in
theorem ggX3_axis_X3_in : GoodIn wsX3_axis wsX3_in := goodIn_r _ [19] (by decide +kernel) (by decide +kernel)
set_option maxRecDepth 20000 in
theorem gX3_axis_X3_in : GoodIn wsX3_axis (wsV RX3 40 RX3 yX3_in wsX3_in) := goodIn_app (goodIn_of _ (by decide +kernel)) ggX3_axis_X3_in
set_option maxRecDepth 20000 in
theorem ggX3_axis_X3_work : GoodIn wsX3_axis wsX3_work := goodIn_r _ [27, 2, 28, 29, 30, 9, 31, 5, 4, 32, 33, 34, 35, 36, 37, 38, 39, 40, 41, 42, 55, 56, 57, 58, 59, 60, 61, 62, 63] (by decide +kernel) (by decide +kernel)
set_option maxRecDepth 20000 in
theorem gX3_axis_X3_work : GoodIn wsX3_axis (wsV RX3 89 RX3 yX3_work wsX3_work) := goodIn_app (goodIn_of _ (by decide +kernel)) ggX3_axis_X3_work
set_option maxRecDepth 20000 in
theorem ggX3_axis_X3_traceOf : GoodIn wsX3_axis wsX3_traceOf := goodIn_r _ [46, 5, 55, 56, 57, 58, 59, 60, 61, 62, 63] (by decide +kernel) (by decide +kernel)
set_option maxRecDepth 20000 in
theorem gX3_axis_X3_traceOf : GoodIn wsX3_axis (wsV RX3 103 RX3 yX3_traceOf wsX3_traceOf) := goodIn_app (goodIn_of _ (by decide +kernel)) ggX3_axis_X3_traceOf
set_option maxRecDepth 20000 in
theorem ggX3_axis_X3_lowest : GoodIn wsX3_axis wsX3_lowest := goodIn_r _ [50, 51, 52, 53, 9, 54] (by decide +kernel) (by decide +kernel)
set_option maxRecDepth 20000 in
theorem gX3_axis_X3_lowest : GoodIn wsX3_axis (wsV RX3 92 RX3 yX3_lowest wsX3_lowest) := goodIn_app (goodIn_of _ (by decide +kernel)) ggX3_axis_X3_lowest
theorem dX3_axis_0 : decode cX3_axis 0 = .ok (.aload_n 0, 1) := by decide +kernel
theorem dX3_axis_1 : decode cX3_axis 1 = .ok (.iload_n 1, 1) := by decide +kernel
theorem dX3_axis_2 : decode cX3_axis 2 = .ok (.iload_n 3, 1) := by decide +kernel
theorem dX3_axis_3 : decode cX3_axis 3 = .ok (.invokevirtual 65, 3) := by decide +kernel
theorem dX3_axis_6 : decode cX3_axis 6 = .ok (.ifCond .eq 33, 3) := by decide +kernel
theorem dX3_axis_9 : decode cX3_axis 9 = .ok (.aload_n 0, 1) := by decide +kernel
theorem dX3_axis_10 : decode cX3_axis 10 = .ok (.iload_n 2, 1) := by decide +kernel
theorem dX3_axis_11 : decode cX3_axis 11 = .ok (.invokevirtual 84, 3) := by decide +kernel
theorem dX3_axis_14 : decode cX3_axis 14 = .ok (.ifCond .eq 25, 3) := by decide +kernel
theorem dX3_axis_17 : decode cX3_axis 17 = .ok (.aload_n 0, 1) := by decide +kernel
theorem dX3_axis_18 : decode cX3_axis 18 = .ok (.iload 4, 2) := by decide +kernel
theorem dX3_axis_20 : decode cX3_axis 20 = .ok (.iconst 0, 1) := by decide +kernel
theorem dX3_axis_21 : decode cX3_axis 21 = .ok (.iconst 1, 1) := by decide +kernel
theorem dX3_axis_22 : decode cX3_axis 22 = .ok (.invokevirtual 40, 3) := by decide +kernel
theorem dX3_axis_25 : decode cX3_axis 25 = .ok (.ifCond .eq 14, 3) := by decide +kernel
theorem dX3_axis_28 : decode cX3_axis 28 = .ok (.aload_n 0, 1) := by decide +kernel
theorem dX3_axis_29 : decode cX3_axis 29 = .ok (.iload 5, 2) := by decide +kernel
theorem dX3_axis_31 : decode cX3_axis 31 = .ok (.iconst 0, 1) := by decide +kernel
theorem dX3_axis_32 : decode cX3_axis 32 = .ok (.iconst 1, 1) := by decide +kernel
theorem dX3_axis_33 : decode cX3_axis 33 = .ok (.invokevirtual 40, 3) := by decide +kernel
theorem dX3_axis_36 : decode cX3_axis 36 = .ok (.ifCond .ne 7, 3) := by decide +kernel
theorem dX3_axis_39 : decode cX3_axis 39 = .ok (.ldc2_w 87, 3) := by decide +kernel
theorem dX3_axis_42 : decode cX3_axis 42 = .ok (.lreturn, 1) := by decide +kernel
theorem dX3_axis_43 : decode cX3_axis 43 = .ok (.aload_n 0, 1) := by decide +kernel
theorem dX3_axis_44 : decode cX3_axis 44 = .ok (.iload_n 1, 1) := by decide +kernel
theorem dX3_axis_45 : decode cX3_axis 45 = .ok (.iload_n 2, 1) := by decide +kernel
theorem dX3_axis_46 : decode cX3_axis 46 = .ok (.iload_n 3, 1) := by decide +kernel
theorem dX3_axis_47 : decode cX3_axis 47 = .ok (.aload_n 0, 1) := by decide +kernel
theorem dX3_axis_48 : decode cX3_axis 48 = .ok (.getfield 13, 3) := by decide +kernel
theorem dX3_axis_51 : decode cX3_axis 51 = .ok (.iload_n 1, 1) := by decide +kernel
theorem dX3_axis_52 : decode cX3_axis 52 = .ok (.iaload, 1) := by decide +kernel
theorem dX3_axis_53 : decode cX3_axis 53 = .ok (.invokevirtual 89, 3) := by decide +kernel
theorem dX3_axis_56 : decode cX3_axis 56 = .ok (.aload_n 0, 1) := by decide +kernel
theorem dX3_axis_57 : decode cX3_axis 57 = .ok (.invokevirtual 103, 3) := by decide +kernel
theorem dX3_axis_60 : decode cX3_axis 60 = .ok (.ldc2_w 107, 3) := by decide +kernel
theorem dX3_axis_63 : decode cX3_axis 63 = .ok (.aload_n 0, 1) := by decide +kernel
theorem dX3_axis_64 : decode cX3_axis 64 = .ok (.getfield 36, 3) := by decide +kernel
theorem dX3_axis_67 : decode cX3_axis 67 = .ok (.lmul, 1) := by decide +kernel
theorem dX3_axis_68 : decode cX3_axis 68 = .ok (.lcmp, 1) := by decide +kernel
theorem dX3_axis_69 : decode cX3_axis 69 = .ok (.ifCond .ne 7, 3) := by decide +kernel
theorem dX3_axis_72 : decode cX3_axis 72 = .ok (.ldc2_w 87, 3) := by decide +kernel
theorem dX3_axis_75 : decode cX3_axis 75 = .ok (.lreturn, 1) := by decide +kernel
theorem dX3_axis_76 : decode cX3_axis 76 = .ok (.iload 4, 2) := by decide +kernel
theorem dX3_axis_78 : decode cX3_axis 78 = .ok (.ifCond .ne 38, 3) := by decide +kernel
theorem dX3_axis_81 : decode cX3_axis 81 = .ok (.aload_n 0, 1) := by decide +kernel
theorem dX3_axis_82 : decode cX3_axis 82 = .ok (.getfield 32, 3) := by decide +kernel
theorem dX3_axis_85 : decode cX3_axis 85 = .ok (.iconst 1, 1) := by decide +kernel
theorem dX3_axis_86 : decode cX3_axis 86 = .ok (.laload, 1) := by decide +kernel
theorem dX3_axis_87 : decode cX3_axis 87 = .ok (.aload_n 0, 1) := by decide +kernel
theorem dX3_axis_88 : decode cX3_axis 88 = .ok (.getfield 32, 3) := by decide +kernel
theorem dX3_axis_91 : decode cX3_axis 91 = .ok (.iconst 5, 1) := by decide +kernel
theorem dX3_axis_92 : decode cX3_axis 92 = .ok (.laload, 1) := by decide +kernel
theorem dX3_axis_93 : decode cX3_axis 93 = .ok (.lmul, 1) := by decide +kernel
theorem dX3_axis_94 : decode cX3_axis 94 = .ok (.aload_n 0, 1) := by decide +kernel
theorem dX3_axis_95 : decode cX3_axis 95 = .ok (.getfield 32, 3) := by decide +kernel
theorem dX3_axis_98 : decode cX3_axis 98 = .ok (.iconst 4, 1) := by decide +kernel
theorem dX3_axis_99 : decode cX3_axis 99 = .ok (.laload, 1) := by decide +kernel
theorem dX3_axis_100 : decode cX3_axis 100 = .ok (.aload_n 0, 1) := by decide +kernel
theorem dX3_axis_101 : decode cX3_axis 101 = .ok (.getfield 32, 3) := by decide +kernel
theorem dX3_axis_104 : decode cX3_axis 104 = .ok (.iconst 3, 1) := by decide +kernel
theorem dX3_axis_105 : decode cX3_axis 105 = .ok (.laload, 1) := by decide +kernel
theorem dX3_axis_106 : decode cX3_axis 106 = .ok (.aload_n 0, 1) := by decide +kernel
theorem dX3_axis_107 : decode cX3_axis 107 = .ok (.getfield 36, 3) := by decide +kernel
theorem dX3_axis_110 : decode cX3_axis 110 = .ok (.lsub, 1) := by decide +kernel
theorem dX3_axis_111 : decode cX3_axis 111 = .ok (.lmul, 1) := by decide +kernel
theorem dX3_axis_112 : decode cX3_axis 112 = .ok (.lsub, 1) := by decide +kernel
theorem dX3_axis_113 : decode cX3_axis 113 = .ok (.goto 35, 3) := by decide +kernel
theorem dX3_axis_116 : decode cX3_axis 116 = .ok (.aload_n 0, 1) := by decide +kernel
theorem dX3_axis_117 : decode cX3_axis 117 = .ok (.getfield 32, 3) := by decide +kernel
theorem dX3_axis_120 : decode cX3_axis 120 = .ok (.iconst 2, 1) := by decide +kernel
theorem dX3_axis_121 : decode cX3_axis 121 = .ok (.laload, 1) := by decide +kernel
theorem dX3_axis_122 : decode cX3_axis 122 = .ok (.aload_n 0, 1) := by decide +kernel
theorem dX3_axis_123 : decode cX3_axis 123 = .ok (.getfield 32, 3) := by decide +kernel
theorem dX3_axis_126 : decode cX3_axis 126 = .ok (.iconst 4, 1) := by decide +kernel
theorem dX3_axis_127 : decode cX3_axis 127 = .ok (.laload, 1) := by decide +kernel
theorem dX3_axis_128 : decode cX3_axis 128 = .ok (.lmul, 1) := by decide +kernel
theorem dX3_axis_129 : decode cX3_axis 129 = .ok (.aload_n 0, 1) := by decide +kernel
theorem dX3_axis_130 : decode cX3_axis 130 = .ok (.getfield 32, 3) := by decide +kernel
theorem dX3_axis_133 : decode cX3_axis 133 = .ok (.iconst 5, 1) := by decide +kernel
theorem dX3_axis_134 : decode cX3_axis 134 = .ok (.laload, 1) := by decide +kernel
theorem dX3_axis_135 : decode cX3_axis 135 = .ok (.aload_n 0, 1) := by decide +kernel
theorem dX3_axis_136 : decode cX3_axis 136 = .ok (.getfield 32, 3) := by decide +kernel
theorem dX3_axis_139 : decode cX3_axis 139 = .ok (.iconst 0, 1) := by decide +kernel
theorem dX3_axis_140 : decode cX3_axis 140 = .ok (.laload, 1) := by decide +kernel
theorem dX3_axis_141 : decode cX3_axis 141 = .ok (.aload_n 0, 1) := by decide +kernel
theorem dX3_axis_142 : decode cX3_axis 142 = .ok (.getfield 36, 3) := by decide +kernel
theorem dX3_axis_145 : decode cX3_axis 145 = .ok (.lsub, 1) := by decide +kernel
theorem dX3_axis_146 : decode cX3_axis 146 = .ok (.lmul, 1) := by decide +kernel
theorem dX3_axis_147 : decode cX3_axis 147 = .ok (.lsub, 1) := by decide +kernel
theorem dX3_axis_148 : decode cX3_axis 148 = .ok (.lstore 6, 2) := by decide +kernel
theorem dX3_axis_150 : decode cX3_axis 150 = .ok (.aload_n 0, 1) := by decide +kernel
theorem dX3_axis_151 : decode cX3_axis 151 = .ok (.lload 6, 2) := by decide +kernel
theorem dX3_axis_153 : decode cX3_axis 153 = .ok (.aload_n 0, 1) := by decide +kernel
theorem dX3_axis_154 : decode cX3_axis 154 = .ok (.getfield 36, 3) := by decide +kernel
theorem dX3_axis_157 : decode cX3_axis 157 = .ok (.ldc2_w 107, 3) := by decide +kernel
theorem dX3_axis_160 : decode cX3_axis 160 = .ok (.aload_n 0, 1) := by decide +kernel
theorem dX3_axis_161 : decode cX3_axis 161 = .ok (.getfield 36, 3) := by decide +kernel
theorem dX3_axis_164 : decode cX3_axis 164 = .ok (.lmul, 1) := by decide +kernel
theorem dX3_axis_165 : decode cX3_axis 165 = .ok (.aload_n 0, 1) := by decide +kernel
theorem dX3_axis_166 : decode cX3_axis 166 = .ok (.invokevirtual 103, 3) := by decide +kernel
theorem dX3_axis_169 : decode cX3_axis 169 = .ok (.lsub, 1) := by decide +kernel
theorem dX3_axis_170 : decode cX3_axis 170 = .ok (.lmul, 1) := by decide +kernel
theorem dX3_axis_171 : decode cX3_axis 171 = .ok (.iload 5, 2) := by decide +kernel
theorem dX3_axis_173 : decode cX3_axis 173 = .ok (.invokevirtual 92, 3) := by decide +kernel
theorem dX3_axis_176 : decode cX3_axis 176 = .ok (.lreturn, 1) := by decide +kernel
set_option maxRecDepth 20000 in
theorem ggX3_holdsBoth_X3_roundOf : GoodIn wsX3_holdsBoth wsX3_roundOf := goodIn_r _ [5, 6, 7, 8, 9, 10, 11, 12, 13, 4, 14, 15, 16, 17, 18, 19, 20, 21, 22, 23, 24, 25, 26, 27, 28, 29, 30, 31, 32, 33, 34, 35, 36, 37, 38, 39, 40, 41, 42, 43, 44, 45, 46, 47, 48, 49, 50, 51] (by decide +kernel) (by decide +kernel)
set_option maxRecDepth 20000 in
theorem gX3_holdsBoth_X3_roundOf : GoodIn wsX3_holdsBoth (wsV RX3 121 RX3 yX3_roundOf wsX3_roundOf) := goodIn_app (goodIn_of _ (by decide +kernel)) ggX3_holdsBoth_X3_roundOf
theorem dX3_holdsBoth_0 : decode cX3_holdsBoth 0 = .ok (.aload_n 0, 1) := by decide +kernel
theorem dX3_holdsBoth_1 : decode cX3_holdsBoth 1 = .ok (.iload_n 1, 1) := by decide +kernel
theorem dX3_holdsBoth_2 : decode cX3_holdsBoth 2 = .ok (.iconst 0, 1) := by decide +kernel
theorem dX3_holdsBoth_3 : decode cX3_holdsBoth 3 = .ok (.invokevirtual 121, 3) := by decide +kernel
theorem dX3_holdsBoth_6 : decode cX3_holdsBoth 6 = .ok (.ifCond .ne 16, 3) := by decide +kernel
theorem dX3_holdsBoth_9 : decode cX3_holdsBoth 9 = .ok (.aload_n 0, 1) := by decide +kernel
theorem dX3_holdsBoth_10 : decode cX3_holdsBoth 10 = .ok (.iload_n 1, 1) := by decide +kernel
theorem dX3_holdsBoth_11 : decode cX3_holdsBoth 11 = .ok (.iconst 1, 1) := by decide +kernel
theorem dX3_holdsBoth_12 : decode cX3_holdsBoth 12 = .ok (.invokevirtual 121, 3) := by decide +kernel
theorem dX3_holdsBoth_15 : decode cX3_holdsBoth 15 = .ok (.ifCond .ne 7, 3) := by decide +kernel
theorem dX3_holdsBoth_18 : decode cX3_holdsBoth 18 = .ok (.iconst 1, 1) := by decide +kernel
theorem dX3_holdsBoth_19 : decode cX3_holdsBoth 19 = .ok (.goto 4, 3) := by decide +kernel
theorem dX3_holdsBoth_22 : decode cX3_holdsBoth 22 = .ok (.iconst 0, 1) := by decide +kernel
theorem dX3_holdsBoth_23 : decode cX3_holdsBoth 23 = .ok (.ireturn, 1) := by decide +kernel
set_option maxRecDepth 20000 in
theorem ggX3_holdsWith_X3_holdsBoth : GoodIn wsX3_holdsWith wsX3_holdsBoth := goodIn_r _ [6, 7, 8, 9, 5, 10, 11, 12, 13, 14, 15, 16, 17, 18, 19, 20, 21, 22, 23, 24, 25, 26, 27, 28, 1, 29, 30, 31, 32, 33, 34, 35, 36, 37, 38, 39, 40, 41, 42, 43, 44, 45, 46, 47, 48, 49, 50, 51, 52, 53, 54, 55] (by decide +kernel) (by decide +kernel)
set_option maxRecDepth 20000 in
theorem gX3_holdsWith_X3_holdsBoth : GoodIn wsX3_holdsWith (wsV RX3 133 RX3 yX3_holdsBoth wsX3_holdsBoth) := goodIn_app (goodIn_of _ (by decide +kernel)) ggX3_holdsWith_X3_holdsBoth
theorem dX3_holdsWith_0 : decode cX3_holdsWith 0 = .ok (.aload_n 0, 1) := by decide +kernel
theorem dX3_holdsWith_1 : decode cX3_holdsWith 1 = .ok (.getfield 20, 3) := by decide +kernel
theorem dX3_holdsWith_4 : decode cX3_holdsWith 4 = .ok (.bipush 8, 2) := by decide +kernel
theorem dX3_holdsWith_6 : decode cX3_holdsWith 6 = .ok (.iload_n 1, 1) := by decide +kernel
theorem dX3_holdsWith_7 : decode cX3_holdsWith 7 = .ok (.imul, 1) := by decide +kernel
theorem dX3_holdsWith_8 : decode cX3_holdsWith 8 = .ok (.iload_n 2, 1) := by decide +kernel
theorem dX3_holdsWith_9 : decode cX3_holdsWith 9 = .ok (.iadd, 1) := by decide +kernel
theorem dX3_holdsWith_10 : decode cX3_holdsWith 10 = .ok (.iaload, 1) := by decide +kernel
theorem dX3_holdsWith_11 : decode cX3_holdsWith 11 = .ok (.istore 4, 2) := by decide +kernel
theorem dX3_holdsWith_13 : decode cX3_holdsWith 13 = .ok (.aload_n 0, 1) := by decide +kernel
theorem dX3_holdsWith_14 : decode cX3_holdsWith 14 = .ok (.getfield 20, 3) := by decide +kernel
theorem dX3_holdsWith_17 : decode cX3_holdsWith 17 = .ok (.bipush 8, 2) := by decide +kernel
theorem dX3_holdsWith_19 : decode cX3_holdsWith 19 = .ok (.iload_n 1, 1) := by decide +kernel
theorem dX3_holdsWith_20 : decode cX3_holdsWith 20 = .ok (.imul, 1) := by decide +kernel
theorem dX3_holdsWith_21 : decode cX3_holdsWith 21 = .ok (.iload_n 2, 1) := by decide +kernel
theorem dX3_holdsWith_22 : decode cX3_holdsWith 22 = .ok (.iadd, 1) := by decide +kernel
theorem dX3_holdsWith_23 : decode cX3_holdsWith 23 = .ok (.iload_n 3, 1) := by decide +kernel
theorem dX3_holdsWith_24 : decode cX3_holdsWith 24 = .ok (.iastore, 1) := by decide +kernel
theorem dX3_holdsWith_25 : decode cX3_holdsWith 25 = .ok (.aload_n 0, 1) := by decide +kernel
theorem dX3_holdsWith_26 : decode cX3_holdsWith 26 = .ok (.iload_n 1, 1) := by decide +kernel
theorem dX3_holdsWith_27 : decode cX3_holdsWith 27 = .ok (.invokevirtual 133, 3) := by decide +kernel
theorem dX3_holdsWith_30 : decode cX3_holdsWith 30 = .ok (.istore 5, 2) := by decide +kernel
theorem dX3_holdsWith_32 : decode cX3_holdsWith 32 = .ok (.aload_n 0, 1) := by decide +kernel
theorem dX3_holdsWith_33 : decode cX3_holdsWith 33 = .ok (.getfield 20, 3) := by decide +kernel
theorem dX3_holdsWith_36 : decode cX3_holdsWith 36 = .ok (.bipush 8, 2) := by decide +kernel
theorem dX3_holdsWith_38 : decode cX3_holdsWith 38 = .ok (.iload_n 1, 1) := by decide +kernel
theorem dX3_holdsWith_39 : decode cX3_holdsWith 39 = .ok (.imul, 1) := by decide +kernel
theorem dX3_holdsWith_40 : decode cX3_holdsWith 40 = .ok (.iload_n 2, 1) := by decide +kernel
theorem dX3_holdsWith_41 : decode cX3_holdsWith 41 = .ok (.iadd, 1) := by decide +kernel
theorem dX3_holdsWith_42 : decode cX3_holdsWith 42 = .ok (.iload 4, 2) := by decide +kernel
theorem dX3_holdsWith_44 : decode cX3_holdsWith 44 = .ok (.iastore, 1) := by decide +kernel
theorem dX3_holdsWith_45 : decode cX3_holdsWith 45 = .ok (.iload 5, 2) := by decide +kernel
theorem dX3_holdsWith_47 : decode cX3_holdsWith 47 = .ok (.ireturn, 1) := by decide +kernel
set_option maxRecDepth 20000 in
theorem ggX3_span_X3_isPart : GoodIn wsX3_span wsX3_isPart := goodIn_r _ [6, 7, 8, 9, 10, 5, 11, 12, 13, 14, 15, 16, 64, 65, 66, 67, 68, 69, 70, 71, 72] (by decide +kernel) (by decide +kernel)
set_option maxRecDepth 20000 in
theorem gX3_span_X3_isPart : GoodIn wsX3_span (wsV RX3 65 RX3 yX3_isPart wsX3_isPart) := goodIn_app (goodIn_of _ (by decide +kernel)) ggX3_span_X3_isPart
set_option maxRecDepth 20000 in
theorem ggX3_span_X3_holdsWith : GoodIn wsX3_span wsX3_holdsWith := goodIn_r _ [20, 21, 22, 23, 24, 5, 25, 26, 27, 28, 29, 7, 30, 31, 32, 33, 34, 35, 36, 37, 38, 39, 40, 41, 42, 43, 44, 45, 46, 1, 47, 48, 49, 50, 51, 52, 53, 54, 55, 56, 57, 58, 59, 60, 61, 62, 63, 64, 65, 66, 67, 68, 69, 70, 71, 72] (by decide +kernel) (by decide +kernel)
set_option maxRecDepth 20000 in
theorem gX3_span_X3_holdsWith : GoodIn wsX3_span (wsV RX3 136 RX3 yX3_holdsWith wsX3_holdsWith) := goodIn_app (goodIn_of _ (by decide +kernel)) ggX3_span_X3_holdsWith
theorem dX3_span_0 : decode cX3_span 0 = .ok (.aload_n 0, 1) := by decide +kernel
theorem dX3_span_1 : decode cX3_span 1 = .ok (.iload_n 1, 1) := by decide +kernel
theorem dX3_span_2 : decode cX3_span 2 = .ok (.iload_n 2, 1) := by decide +kernel
theorem dX3_span_3 : decode cX3_span 3 = .ok (.invokevirtual 65, 3) := by decide +kernel
theorem dX3_span_6 : decode cX3_span 6 = .ok (.ifCond .eq 7, 3) := by decide +kernel
theorem dX3_span_9 : decode cX3_span 9 = .ok (.iload_n 3, 1) := by decide +kernel
theorem dX3_span_10 : decode cX3_span 10 = .ok (.ifCond .ge 5, 3) := by decide +kernel
theorem dX3_span_13 : decode cX3_span 13 = .ok (.iconst (-1), 1) := by decide +kernel
theorem dX3_span_14 : decode cX3_span 14 = .ok (.ireturn, 1) := by decide +kernel
theorem dX3_span_15 : decode cX3_span 15 = .ok (.aload_n 0, 1) := by decide +kernel
theorem dX3_span_16 : decode cX3_span 16 = .ok (.getfield 17, 3) := by decide +kernel
theorem dX3_span_19 : decode cX3_span 19 = .ok (.bipush 8, 2) := by decide +kernel
theorem dX3_span_21 : decode cX3_span 21 = .ok (.iload_n 1, 1) := by decide +kernel
theorem dX3_span_22 : decode cX3_span 22 = .ok (.imul, 1) := by decide +kernel
theorem dX3_span_23 : decode cX3_span 23 = .ok (.iload_n 2, 1) := by decide +kernel
theorem dX3_span_24 : decode cX3_span 24 = .ok (.iadd, 1) := by decide +kernel
theorem dX3_span_25 : decode cX3_span 25 = .ok (.iaload, 1) := by decide +kernel
theorem dX3_span_26 : decode cX3_span 26 = .ok (.ifCond .eq 6, 3) := by decide +kernel
theorem dX3_span_29 : decode cX3_span 29 = .ok (.bipush (-3), 2) := by decide +kernel
theorem dX3_span_31 : decode cX3_span 31 = .ok (.ireturn, 1) := by decide +kernel
theorem dX3_span_32 : decode cX3_span 32 = .ok (.iload_n 3, 1) := by decide +kernel
theorem dX3_span_33 : decode cX3_span 33 = .ok (.istore 4, 2) := by decide +kernel
theorem dX3_span_35 : decode cX3_span 35 = .ok (.iconst 0, 1) := by decide +kernel
theorem dX3_span_36 : decode cX3_span 36 = .ok (.istore 5, 2) := by decide +kernel
theorem dX3_span_38 : decode cX3_span 38 = .ok (.iload 5, 2) := by decide +kernel
theorem dX3_span_40 : decode cX3_span 40 = .ok (.bipush 20, 2) := by decide +kernel
theorem dX3_span_42 : decode cX3_span 42 = .ok (.if_icmp .gt 38, 3) := by decide +kernel
theorem dX3_span_45 : decode cX3_span 45 = .ok (.iload_n 3, 1) := by decide +kernel
theorem dX3_span_46 : decode cX3_span 46 = .ok (.ifCond .lt 34, 3) := by decide +kernel
theorem dX3_span_49 : decode cX3_span 49 = .ok (.aload_n 0, 1) := by decide +kernel
theorem dX3_span_50 : decode cX3_span 50 = .ok (.iload_n 1, 1) := by decide +kernel
theorem dX3_span_51 : decode cX3_span 51 = .ok (.iload_n 2, 1) := by decide +kernel
theorem dX3_span_52 : decode cX3_span 52 = .ok (.iload 5, 2) := by decide +kernel
theorem dX3_span_54 : decode cX3_span 54 = .ok (.invokevirtual 136, 3) := by decide +kernel
theorem dX3_span_57 : decode cX3_span 57 = .ok (.ifCond .ne 6, 3) := by decide +kernel
theorem dX3_span_60 : decode cX3_span 60 = .ok (.goto 14, 3) := by decide +kernel
theorem dX3_span_63 : decode cX3_span 63 = .ok (.iload 4, 2) := by decide +kernel
theorem dX3_span_65 : decode cX3_span 65 = .ok (.ifCond .ne 6, 3) := by decide +kernel
theorem dX3_span_68 : decode cX3_span 68 = .ok (.iload 5, 2) := by decide +kernel
theorem dX3_span_70 : decode cX3_span 70 = .ok (.ireturn, 1) := by decide +kernel
theorem dX3_span_71 : decode cX3_span 71 = .ok (.iinc 4 (-1), 3) := by decide +kernel
theorem dX3_span_74 : decode cX3_span 74 = .ok (.iinc 5 1, 3) := by decide +kernel
theorem dX3_span_77 : decode cX3_span 77 = .ok (.goto (-39), 3) := by decide +kernel
theorem dX3_span_80 : decode cX3_span 80 = .ok (.iconst (-1), 1) := by decide +kernel
theorem dX3_span_81 : decode cX3_span 81 = .ok (.ireturn, 1) := by decide +kernel
set_option maxRecDepth 20000 in
theorem ggX3_own_X3_isBent : GoodIn wsX3_own wsX3_isBent := goodIn_r _ [7, 8, 9, 10, 6, 11] (by decide +kernel) (by decide +kernel)
set_option maxRecDepth 20000 in
theorem gX3_own_X3_isBent : GoodIn wsX3_own (wsV RX3 48 RX3 yX3_isBent wsX3_isBent) := goodIn_app (goodIn_of _ (by decide +kernel)) ggX3_own_X3_isBent
theorem dX3_own_0 : decode cX3_own 0 = .ok (.aload_n 0, 1) := by decide +kernel
theorem dX3_own_1 : decode cX3_own 1 = .ok (.iload_n 1, 1) := by decide +kernel
theorem dX3_own_2 : decode cX3_own 2 = .ok (.invokevirtual 48, 3) := by decide +kernel
theorem dX3_own_5 : decode cX3_own 5 = .ok (.ifCond .ne 6, 3) := by decide +kernel
theorem dX3_own_8 : decode cX3_own 8 = .ok (.bipush (-2), 2) := by decide +kernel
theorem dX3_own_10 : decode cX3_own 10 = .ok (.ireturn, 1) := by decide +kernel
theorem dX3_own_11 : decode cX3_own 11 = .ok (.aload_n 0, 1) := by decide +kernel
theorem dX3_own_12 : decode cX3_own 12 = .ok (.getfield 26, 3) := by decide +kernel
theorem dX3_own_15 : decode cX3_own 15 = .ok (.bipush 12, 2) := by decide +kernel
theorem dX3_own_17 : decode cX3_own 17 = .ok (.if_icmp .ne 6, 3) := by decide +kernel
theorem dX3_own_20 : decode cX3_own 20 = .ok (.bipush (-4), 2) := by decide +kernel
theorem dX3_own_22 : decode cX3_own 22 = .ok (.ireturn, 1) := by decide +kernel
theorem dX3_own_23 : decode cX3_own 23 = .ok (.aload_n 0, 1) := by decide +kernel
theorem dX3_own_24 : decode cX3_own 24 = .ok (.getfield 29, 3) := by decide +kernel
theorem dX3_own_27 : decode cX3_own 27 = .ok (.aload_n 0, 1) := by decide +kernel
theorem dX3_own_28 : decode cX3_own 28 = .ok (.getfield 26, 3) := by decide +kernel
theorem dX3_own_31 : decode cX3_own 31 = .ok (.iload_n 1, 1) := by decide +kernel
theorem dX3_own_32 : decode cX3_own 32 = .ok (.iastore, 1) := by decide +kernel
theorem dX3_own_33 : decode cX3_own 33 = .ok (.aload_n 0, 1) := by decide +kernel
theorem dX3_own_34 : decode cX3_own 34 = .ok (.dup, 1) := by decide +kernel
theorem dX3_own_35 : decode cX3_own 35 = .ok (.getfield 26, 3) := by decide +kernel
theorem dX3_own_38 : decode cX3_own 38 = .ok (.iconst 1, 1) := by decide +kernel
theorem dX3_own_39 : decode cX3_own 39 = .ok (.iadd, 1) := by decide +kernel
theorem dX3_own_40 : decode cX3_own 40 = .ok (.putfield 26, 3) := by decide +kernel
theorem dX3_own_43 : decode cX3_own 43 = .ok (.aload_n 0, 1) := by decide +kernel
theorem dX3_own_44 : decode cX3_own 44 = .ok (.getfield 26, 3) := by decide +kernel
theorem dX3_own_47 : decode cX3_own 47 = .ok (.ireturn, 1) := by decide +kernel
set_option maxRecDepth 20000 in
theorem ggX3_fit_X3_isPart : GoodIn wsX3_fit wsX3_isPart := goodIn_r _ [8, 9, 10, 11, 12, 7, 13, 14, 15, 16, 17, 18, 66, 67, 68, 69, 70, 71, 72, 73, 74] (by decide +kernel) (by decide +kernel)
set_option maxRecDepth 20000 in
theorem gX3_fit_X3_isPart : GoodIn wsX3_fit (wsV RX3 65 RX3 yX3_isPart wsX3_isPart) := goodIn_app (goodIn_of _ (by decide +kernel)) ggX3_fit_X3_isPart
set_option maxRecDepth 20000 in
theorem ggX3_fit_X3_holdsWith : GoodIn wsX3_fit wsX3_holdsWith := goodIn_r _ [22, 23, 24, 25, 26, 7, 27, 28, 29, 30, 31, 9, 32, 33, 34, 35, 36, 37, 38, 39, 40, 41, 42, 43, 44, 45, 46, 47, 48, 1, 49, 50, 51, 52, 53, 54, 55, 56, 57, 58, 59, 60, 61, 62, 63, 64, 65, 66, 67, 68, 69, 70, 71, 72, 73, 74] (by decide +kernel) (by decide +kernel)
set_option maxRecDepth 20000 in
theorem gX3_fit_X3_holdsWith : GoodIn wsX3_fit (wsV RX3 136 RX3 yX3_holdsWith wsX3_holdsWith) := goodIn_app (goodIn_of _ (by decide +kernel)) ggX3_fit_X3_holdsWith
theorem dX3_fit_0 : decode cX3_fit 0 = .ok (.aload_n 0, 1) := by decide +kernel
theorem dX3_fit_1 : decode cX3_fit 1 = .ok (.iload_n 1, 1) := by decide +kernel
theorem dX3_fit_2 : decode cX3_fit 2 = .ok (.iload_n 2, 1) := by decide +kernel
theorem dX3_fit_3 : decode cX3_fit 3 = .ok (.invokevirtual 65, 3) := by decide +kernel
theorem dX3_fit_6 : decode cX3_fit 6 = .ok (.ifCond .ne 5, 3) := by decide +kernel
theorem dX3_fit_9 : decode cX3_fit 9 = .ok (.iconst (-1), 1) := by decide +kernel
theorem dX3_fit_10 : decode cX3_fit 10 = .ok (.ireturn, 1) := by decide +kernel
theorem dX3_fit_11 : decode cX3_fit 11 = .ok (.aload_n 0, 1) := by decide +kernel
theorem dX3_fit_12 : decode cX3_fit 12 = .ok (.getfield 17, 3) := by decide +kernel
theorem dX3_fit_15 : decode cX3_fit 15 = .ok (.bipush 8, 2) := by decide +kernel
theorem dX3_fit_17 : decode cX3_fit 17 = .ok (.iload_n 1, 1) := by decide +kernel
theorem dX3_fit_18 : decode cX3_fit 18 = .ok (.imul, 1) := by decide +kernel
theorem dX3_fit_19 : decode cX3_fit 19 = .ok (.iload_n 2, 1) := by decide +kernel
theorem dX3_fit_20 : decode cX3_fit 20 = .ok (.iadd, 1) := by decide +kernel
theorem dX3_fit_21 : decode cX3_fit 21 = .ok (.iaload, 1) := by decide +kernel
theorem dX3_fit_22 : decode cX3_fit 22 = .ok (.iconst 1, 1) := by decide +kernel
theorem dX3_fit_23 : decode cX3_fit 23 = .ok (.if_icmp .eq 6, 3) := by decide +kernel
theorem dX3_fit_26 : decode cX3_fit 26 = .ok (.bipush (-3), 2) := by decide +kernel
theorem dX3_fit_28 : decode cX3_fit 28 = .ok (.ireturn, 1) := by decide +kernel
theorem dX3_fit_29 : decode cX3_fit 29 = .ok (.iconst 0, 1) := by decide +kernel
theorem dX3_fit_30 : decode cX3_fit 30 = .ok (.istore_n 3, 1) := by decide +kernel
theorem dX3_fit_31 : decode cX3_fit 31 = .ok (.iload_n 3, 1) := by decide +kernel
theorem dX3_fit_32 : decode cX3_fit 32 = .ok (.aload_n 0, 1) := by decide +kernel
theorem dX3_fit_33 : decode cX3_fit 33 = .ok (.getfield 26, 3) := by decide +kernel
theorem dX3_fit_36 : decode cX3_fit 36 = .ok (.if_icmp .ge 26, 3) := by decide +kernel
theorem dX3_fit_39 : decode cX3_fit 39 = .ok (.aload_n 0, 1) := by decide +kernel
theorem dX3_fit_40 : decode cX3_fit 40 = .ok (.iload_n 1, 1) := by decide +kernel
theorem dX3_fit_41 : decode cX3_fit 41 = .ok (.iload_n 2, 1) := by decide +kernel
theorem dX3_fit_42 : decode cX3_fit 42 = .ok (.aload_n 0, 1) := by decide +kernel
theorem dX3_fit_43 : decode cX3_fit 43 = .ok (.getfield 29, 3) := by decide +kernel
theorem dX3_fit_46 : decode cX3_fit 46 = .ok (.iload_n 3, 1) := by decide +kernel
theorem dX3_fit_47 : decode cX3_fit 47 = .ok (.iaload, 1) := by decide +kernel
theorem dX3_fit_48 : decode cX3_fit 48 = .ok (.invokevirtual 136, 3) := by decide +kernel
theorem dX3_fit_51 : decode cX3_fit 51 = .ok (.ifCond .eq 5, 3) := by decide +kernel
theorem dX3_fit_54 : decode cX3_fit 54 = .ok (.iload_n 3, 1) := by decide +kernel
theorem dX3_fit_55 : decode cX3_fit 55 = .ok (.ireturn, 1) := by decide +kernel
theorem dX3_fit_56 : decode cX3_fit 56 = .ok (.iinc 3 1, 3) := by decide +kernel
theorem dX3_fit_59 : decode cX3_fit 59 = .ok (.goto (-28), 3) := by decide +kernel
theorem dX3_fit_62 : decode cX3_fit 62 = .ok (.iconst (-1), 1) := by decide +kernel
theorem dX3_fit_63 : decode cX3_fit 63 = .ok (.ireturn, 1) := by decide +kernel
set_option maxRecDepth 20000 in
theorem ggX3_swap_X3_isPart : GoodIn wsX3_swap wsX3_isPart := goodIn_r _ [9, 10, 11, 12, 13, 8, 14, 15, 16, 17, 18, 19, 20, 21, 22, 23, 24, 25, 26, 27, 28] (by decide +kernel) (by decide +kernel)
set_option maxRecDepth 20000 in
theorem gX3_swap_X3_isPart : GoodIn wsX3_swap (wsV RX3 65 RX3 yX3_isPart wsX3_isPart) := goodIn_app (goodIn_of _ (by decide +kernel)) ggX3_swap_X3_isPart
set_option maxRecDepth 20000 in
theorem ggX3_swap_X3_in : GoodIn wsX3_swap wsX3_in := goodIn_r _ [19] (by decide +kernel) (by decide +kernel)
set_option maxRecDepth 20000 in
theorem gX3_swap_X3_in : GoodIn wsX3_swap (wsV RX3 40 RX3 yX3_in wsX3_in) := goodIn_app (goodIn_of _ (by decide +kernel)) ggX3_swap_X3_in
theorem dX3_swap_0 : decode cX3_swap 0 = .ok (.aload_n 0, 1) := by decide +kernel
theorem dX3_swap_1 : decode cX3_swap 1 = .ok (.iload_n 1, 1) := by decide +kernel
theorem dX3_swap_2 : decode cX3_swap 2 = .ok (.iload_n 2, 1) := by decide +kernel
theorem dX3_swap_3 : decode cX3_swap 3 = .ok (.invokevirtual 65, 3) := by decide +kernel
theorem dX3_swap_6 : decode cX3_swap 6 = .ok (.ifCond .eq 18, 3) := by decide +kernel
theorem dX3_swap_9 : decode cX3_swap 9 = .ok (.aload_n 0, 1) := by decide +kernel
theorem dX3_swap_10 : decode cX3_swap 10 = .ok (.iload_n 3, 1) := by decide +kernel
theorem dX3_swap_11 : decode cX3_swap 11 = .ok (.iconst 0, 1) := by decide +kernel
theorem dX3_swap_12 : decode cX3_swap 12 = .ok (.aload_n 0, 1) := by decide +kernel
theorem dX3_swap_13 : decode cX3_swap 13 = .ok (.getfield 26, 3) := by decide +kernel
theorem dX3_swap_16 : decode cX3_swap 16 = .ok (.iconst 1, 1) := by decide +kernel
theorem dX3_swap_17 : decode cX3_swap 17 = .ok (.isub, 1) := by decide +kernel
theorem dX3_swap_18 : decode cX3_swap 18 = .ok (.invokevirtual 40, 3) := by decide +kernel
theorem dX3_swap_21 : decode cX3_swap 21 = .ok (.ifCond .ne 5, 3) := by decide +kernel
theorem dX3_swap_24 : decode cX3_swap 24 = .ok (.iconst (-1), 1) := by decide +kernel
theorem dX3_swap_25 : decode cX3_swap 25 = .ok (.ireturn, 1) := by decide +kernel
theorem dX3_swap_26 : decode cX3_swap 26 = .ok (.aload_n 0, 1) := by decide +kernel
theorem dX3_swap_27 : decode cX3_swap 27 = .ok (.getfield 17, 3) := by decide +kernel
theorem dX3_swap_30 : decode cX3_swap 30 = .ok (.bipush 8, 2) := by decide +kernel
theorem dX3_swap_32 : decode cX3_swap 32 = .ok (.iload_n 1, 1) := by decide +kernel
theorem dX3_swap_33 : decode cX3_swap 33 = .ok (.imul, 1) := by decide +kernel
theorem dX3_swap_34 : decode cX3_swap 34 = .ok (.iload_n 2, 1) := by decide +kernel
theorem dX3_swap_35 : decode cX3_swap 35 = .ok (.iadd, 1) := by decide +kernel
theorem dX3_swap_36 : decode cX3_swap 36 = .ok (.iaload, 1) := by decide +kernel
theorem dX3_swap_37 : decode cX3_swap 37 = .ok (.iconst 1, 1) := by decide +kernel
theorem dX3_swap_38 : decode cX3_swap 38 = .ok (.if_icmp .eq 6, 3) := by decide +kernel
theorem dX3_swap_41 : decode cX3_swap 41 = .ok (.bipush (-3), 2) := by decide +kernel
theorem dX3_swap_43 : decode cX3_swap 43 = .ok (.ireturn, 1) := by decide +kernel
theorem dX3_swap_44 : decode cX3_swap 44 = .ok (.aload_n 0, 1) := by decide +kernel
theorem dX3_swap_45 : decode cX3_swap 45 = .ok (.getfield 20, 3) := by decide +kernel
theorem dX3_swap_48 : decode cX3_swap 48 = .ok (.bipush 8, 2) := by decide +kernel
theorem dX3_swap_50 : decode cX3_swap 50 = .ok (.iload_n 1, 1) := by decide +kernel
theorem dX3_swap_51 : decode cX3_swap 51 = .ok (.imul, 1) := by decide +kernel
theorem dX3_swap_52 : decode cX3_swap 52 = .ok (.iload_n 2, 1) := by decide +kernel
theorem dX3_swap_53 : decode cX3_swap 53 = .ok (.iadd, 1) := by decide +kernel
theorem dX3_swap_54 : decode cX3_swap 54 = .ok (.iaload, 1) := by decide +kernel
theorem dX3_swap_55 : decode cX3_swap 55 = .ok (.istore 4, 2) := by decide +kernel
theorem dX3_swap_57 : decode cX3_swap 57 = .ok (.aload_n 0, 1) := by decide +kernel
theorem dX3_swap_58 : decode cX3_swap 58 = .ok (.getfield 20, 3) := by decide +kernel
theorem dX3_swap_61 : decode cX3_swap 61 = .ok (.bipush 8, 2) := by decide +kernel
theorem dX3_swap_63 : decode cX3_swap 63 = .ok (.iload_n 1, 1) := by decide +kernel
theorem dX3_swap_64 : decode cX3_swap 64 = .ok (.imul, 1) := by decide +kernel
theorem dX3_swap_65 : decode cX3_swap 65 = .ok (.iload_n 2, 1) := by decide +kernel
theorem dX3_swap_66 : decode cX3_swap 66 = .ok (.iadd, 1) := by decide +kernel
theorem dX3_swap_67 : decode cX3_swap 67 = .ok (.aload_n 0, 1) := by decide +kernel
theorem dX3_swap_68 : decode cX3_swap 68 = .ok (.getfield 29, 3) := by decide +kernel
theorem dX3_swap_71 : decode cX3_swap 71 = .ok (.iload_n 3, 1) := by decide +kernel
theorem dX3_swap_72 : decode cX3_swap 72 = .ok (.iaload, 1) := by decide +kernel
theorem dX3_swap_73 : decode cX3_swap 73 = .ok (.iastore, 1) := by decide +kernel
theorem dX3_swap_74 : decode cX3_swap 74 = .ok (.aload_n 0, 1) := by decide +kernel
theorem dX3_swap_75 : decode cX3_swap 75 = .ok (.getfield 29, 3) := by decide +kernel
theorem dX3_swap_78 : decode cX3_swap 78 = .ok (.iload_n 3, 1) := by decide +kernel
theorem dX3_swap_79 : decode cX3_swap 79 = .ok (.iload 4, 2) := by decide +kernel
theorem dX3_swap_81 : decode cX3_swap 81 = .ok (.iastore, 1) := by decide +kernel
theorem dX3_swap_82 : decode cX3_swap 82 = .ok (.iload 4, 2) := by decide +kernel
theorem dX3_swap_84 : decode cX3_swap 84 = .ok (.ireturn, 1) := by decide +kernel
set_option maxRecDepth 20000 in
theorem ggX3_count_X3_holdsBoth : GoodIn wsX3_count wsX3_holdsBoth := goodIn_r _ [8, 9, 10, 11, 7, 12, 2, 13, 14, 15, 16, 17, 18, 19, 20, 21, 22, 23, 24, 25, 26, 27, 28, 29, 30, 31, 32, 33, 34, 35, 36, 37, 38, 39, 40, 41, 42, 43, 44, 45, 46, 47, 48, 49, 50, 51, 52, 53, 54, 55, 56, 57] (by decide +kernel) (by decide +kernel)
set_option maxRecDepth 20000 in
theorem gX3_count_X3_holdsBoth : GoodIn wsX3_count (wsV RX3 133 RX3 yX3_holdsBoth wsX3_holdsBoth) := goodIn_app (goodIn_of _ (by decide +kernel)) ggX3_count_X3_holdsBoth
theorem dX3_count_0 : decode cX3_count 0 = .ok (.iconst 0, 1) := by decide +kernel
theorem dX3_count_1 : decode cX3_count 1 = .ok (.istore_n 2, 1) := by decide +kernel
theorem dX3_count_2 : decode cX3_count 2 = .ok (.iload_n 1, 1) := by decide +kernel
theorem dX3_count_3 : decode cX3_count 3 = .ok (.tableswitch 100 0 3 #[29, 34, 61, 66], 29) := by decide +kernel
theorem dX3_count_32 : decode cX3_count 32 = .ok (.aload_n 0, 1) := by decide +kernel
theorem dX3_count_33 : decode cX3_count 33 = .ok (.getfield 7, 3) := by decide +kernel
theorem dX3_count_36 : decode cX3_count 36 = .ok (.ireturn, 1) := by decide +kernel
theorem dX3_count_37 : decode cX3_count 37 = .ok (.iconst 0, 1) := by decide +kernel
theorem dX3_count_38 : decode cX3_count 38 = .ok (.istore_n 3, 1) := by decide +kernel
theorem dX3_count_39 : decode cX3_count 39 = .ok (.iload_n 3, 1) := by decide +kernel
theorem dX3_count_40 : decode cX3_count 40 = .ok (.aload_n 0, 1) := by decide +kernel
theorem dX3_count_41 : decode cX3_count 41 = .ok (.getfield 7, 3) := by decide +kernel
theorem dX3_count_44 : decode cX3_count 44 = .ok (.if_icmp .ge 18, 3) := by decide +kernel
theorem dX3_count_47 : decode cX3_count 47 = .ok (.iload_n 2, 1) := by decide +kernel
theorem dX3_count_48 : decode cX3_count 48 = .ok (.aload_n 0, 1) := by decide +kernel
theorem dX3_count_49 : decode cX3_count 49 = .ok (.getfield 13, 3) := by decide +kernel
theorem dX3_count_52 : decode cX3_count 52 = .ok (.iload_n 3, 1) := by decide +kernel
theorem dX3_count_53 : decode cX3_count 53 = .ok (.iaload, 1) := by decide +kernel
theorem dX3_count_54 : decode cX3_count 54 = .ok (.iadd, 1) := by decide +kernel
theorem dX3_count_55 : decode cX3_count 55 = .ok (.istore_n 2, 1) := by decide +kernel
theorem dX3_count_56 : decode cX3_count 56 = .ok (.iinc 3 1, 3) := by decide +kernel
theorem dX3_count_59 : decode cX3_count 59 = .ok (.goto (-20), 3) := by decide +kernel
theorem dX3_count_62 : decode cX3_count 62 = .ok (.iload_n 2, 1) := by decide +kernel
theorem dX3_count_63 : decode cX3_count 63 = .ok (.ireturn, 1) := by decide +kernel
theorem dX3_count_64 : decode cX3_count 64 = .ok (.aload_n 0, 1) := by decide +kernel
theorem dX3_count_65 : decode cX3_count 65 = .ok (.getfield 26, 3) := by decide +kernel
theorem dX3_count_68 : decode cX3_count 68 = .ok (.ireturn, 1) := by decide +kernel
theorem dX3_count_69 : decode cX3_count 69 = .ok (.iconst 0, 1) := by decide +kernel
theorem dX3_count_70 : decode cX3_count 70 = .ok (.istore_n 3, 1) := by decide +kernel
theorem dX3_count_71 : decode cX3_count 71 = .ok (.iload_n 3, 1) := by decide +kernel
theorem dX3_count_72 : decode cX3_count 72 = .ok (.aload_n 0, 1) := by decide +kernel
theorem dX3_count_73 : decode cX3_count 73 = .ok (.getfield 7, 3) := by decide +kernel
theorem dX3_count_76 : decode cX3_count 76 = .ok (.if_icmp .ge 25, 3) := by decide +kernel
theorem dX3_count_79 : decode cX3_count 79 = .ok (.iload_n 2, 1) := by decide +kernel
theorem dX3_count_80 : decode cX3_count 80 = .ok (.aload_n 0, 1) := by decide +kernel
theorem dX3_count_81 : decode cX3_count 81 = .ok (.iload_n 3, 1) := by decide +kernel
theorem dX3_count_82 : decode cX3_count 82 = .ok (.invokevirtual 133, 3) := by decide +kernel
theorem dX3_count_85 : decode cX3_count 85 = .ok (.ifCond .eq 7, 3) := by decide +kernel
theorem dX3_count_88 : decode cX3_count 88 = .ok (.iconst 1, 1) := by decide +kernel
theorem dX3_count_89 : decode cX3_count 89 = .ok (.goto 4, 3) := by decide +kernel
theorem dX3_count_92 : decode cX3_count 92 = .ok (.iconst 0, 1) := by decide +kernel
theorem dX3_count_93 : decode cX3_count 93 = .ok (.iadd, 1) := by decide +kernel
theorem dX3_count_94 : decode cX3_count 94 = .ok (.istore_n 2, 1) := by decide +kernel
theorem dX3_count_95 : decode cX3_count 95 = .ok (.iinc 3 1, 3) := by decide +kernel
theorem dX3_count_98 : decode cX3_count 98 = .ok (.goto (-27), 3) := by decide +kernel
theorem dX3_count_101 : decode cX3_count 101 = .ok (.iload_n 2, 1) := by decide +kernel
theorem dX3_count_102 : decode cX3_count 102 = .ok (.ireturn, 1) := by decide +kernel
theorem dX3_count_103 : decode cX3_count 103 = .ok (.iconst (-1), 1) := by decide +kernel
theorem dX3_count_104 : decode cX3_count 104 = .ok (.ireturn, 1) := by decide +kernel
set_option maxRecDepth 20000 in
theorem ggX3_drawer_X3_in : GoodIn wsX3_drawer wsX3_in := goodIn_r _ [7] (by decide +kernel) (by decide +kernel)
set_option maxRecDepth 20000 in
theorem gX3_drawer_X3_in : GoodIn wsX3_drawer (wsV RX3 40 RX3 yX3_in wsX3_in) := goodIn_app (goodIn_of _ (by decide +kernel)) ggX3_drawer_X3_in
theorem dX3_drawer_0 : decode cX3_drawer 0 = .ok (.aload_n 0, 1) := by decide +kernel
theorem dX3_drawer_1 : decode cX3_drawer 1 = .ok (.iload_n 1, 1) := by decide +kernel
theorem dX3_drawer_2 : decode cX3_drawer 2 = .ok (.iconst 0, 1) := by decide +kernel
theorem dX3_drawer_3 : decode cX3_drawer 3 = .ok (.aload_n 0, 1) := by decide +kernel
theorem dX3_drawer_4 : decode cX3_drawer 4 = .ok (.getfield 26, 3) := by decide +kernel
theorem dX3_drawer_7 : decode cX3_drawer 7 = .ok (.iconst 1, 1) := by decide +kernel
theorem dX3_drawer_8 : decode cX3_drawer 8 = .ok (.isub, 1) := by decide +kernel
theorem dX3_drawer_9 : decode cX3_drawer 9 = .ok (.invokevirtual 40, 3) := by decide +kernel
theorem dX3_drawer_12 : decode cX3_drawer 12 = .ok (.ifCond .eq 12, 3) := by decide +kernel
theorem dX3_drawer_15 : decode cX3_drawer 15 = .ok (.aload_n 0, 1) := by decide +kernel
theorem dX3_drawer_16 : decode cX3_drawer 16 = .ok (.getfield 29, 3) := by decide +kernel
theorem dX3_drawer_19 : decode cX3_drawer 19 = .ok (.iload_n 1, 1) := by decide +kernel
theorem dX3_drawer_20 : decode cX3_drawer 20 = .ok (.iaload, 1) := by decide +kernel
theorem dX3_drawer_21 : decode cX3_drawer 21 = .ok (.goto 4, 3) := by decide +kernel
theorem dX3_drawer_24 : decode cX3_drawer 24 = .ok (.iconst 0, 1) := by decide +kernel
theorem dX3_drawer_25 : decode cX3_drawer 25 = .ok (.ireturn, 1) := by decide +kernel
theorem dJ9_abs_067f4_0 : decode cJ9_abs_067f4 0 = .ok (.lload_n 0, 1) := by decide +kernel
theorem dJ9_abs_067f4_1 : decode cJ9_abs_067f4 1 = .ok (.lconst 0, 1) := by decide +kernel
theorem dJ9_abs_067f4_2 : decode cJ9_abs_067f4 2 = .ok (.lcmp, 1) := by decide +kernel
theorem dJ9_abs_067f4_3 : decode cJ9_abs_067f4 3 = .ok (.ifCond .ge 8, 3) := by decide +kernel
theorem dJ9_abs_067f4_6 : decode cJ9_abs_067f4 6 = .ok (.lload_n 0, 1) := by decide +kernel
theorem dJ9_abs_067f4_7 : decode cJ9_abs_067f4 7 = .ok (.lneg, 1) := by decide +kernel
theorem dJ9_abs_067f4_8 : decode cJ9_abs_067f4 8 = .ok (.goto 4, 3) := by decide +kernel
theorem dJ9_abs_067f4_11 : decode cJ9_abs_067f4 11 = .ok (.lload_n 0, 1) := by decide +kernel
theorem dJ9_abs_067f4_12 : decode cJ9_abs_067f4 12 = .ok (.lreturn, 1) := by decide +kernel
theorem dJ9_min_f86c9_0 : decode cJ9_min_f86c9 0 = .ok (.lload_n 0, 1) := by decide +kernel
theorem dJ9_min_f86c9_1 : decode cJ9_min_f86c9 1 = .ok (.lload_n 2, 1) := by decide +kernel
theorem dJ9_min_f86c9_2 : decode cJ9_min_f86c9 2 = .ok (.lcmp, 1) := by decide +kernel
theorem dJ9_min_f86c9_3 : decode cJ9_min_f86c9 3 = .ok (.ifCond .gt 7, 3) := by decide +kernel
theorem dJ9_min_f86c9_6 : decode cJ9_min_f86c9 6 = .ok (.lload_n 0, 1) := by decide +kernel
theorem dJ9_min_f86c9_7 : decode cJ9_min_f86c9 7 = .ok (.goto 4, 3) := by decide +kernel
theorem dJ9_min_f86c9_10 : decode cJ9_min_f86c9 10 = .ok (.lload_n 2, 1) := by decide +kernel
theorem dJ9_min_f86c9_11 : decode cJ9_min_f86c9 11 = .ok (.lreturn, 1) := by decide +kernel
end
section
set_option maxRecDepth 20000 in
theorem ggL_law_X2_init : GoodIn wsL_law wsX2_init := goodIn_r _ [8, 9, 10, 11, 12, 13, 14, 15, 16, 17, 18, 19, 20, 21, 22, 23, 24, 25, 542, 543, 544, 545, 546, 547, 557, 558, 559, 560, 561, 562, 563] (by decide +kernel) (by decide +kernel)
set_option maxRecDepth 20000 in
theorem gL_law_X2_init : GoodIn wsL_law (wsX2_init) := ggL_law_X2_init
set_option maxRecDepth 20000 in
theorem ggL_law_X3_init : GoodIn wsL_law wsX3_init := goodIn_r _ [28, 29, 10, 11, 30, 15, 31, 32, 33, 34, 35, 36, 37, 38, 39, 548, 549, 550, 551, 552, 553, 554, 555, 556] (by decide +kernel) (by decide +kernel)
set_option maxRecDepth 20000 in
theorem gL_law_X3_init : GoodIn wsL_law (wsX3_init) := ggL_law_X3_init
set_option maxRecDepth 20000 in
theorem ggL_law_X2_bench : GoodIn wsL_law wsX2_bench := goodIn_r _ [43, 14, 13, 12, 44, 45, 46, 47, 48, 49, 10, 11, 15, 50, 51, 52, 53, 542, 543, 544, 545, 546, 547, 564, 565, 566, 567] (by decide +kernel) (by decide +kernel)
set_option maxRecDepth 20000 in
theorem gL_law_X2_bench : GoodIn wsL_law (wsV RL 13 RX2 yX2_bench wsX2_bench) := goodIn_app (goodIn_of _ (by decide +kernel)) ggL_law_X2_bench
set_option maxRecDepth 20000 in
theorem ggL_law_X3_bench : GoodIn wsL_law wsX3_bench := goodIn_r _ [57, 30, 31, 548, 549, 550, 551, 552, 553, 554, 555, 556] (by decide +kernel) (by decide +kernel)
set_option maxRecDepth 20000 in
theorem gL_law_X3_bench : GoodIn wsL_law (wsV RL 17 RX3 yX3_bench wsX3_bench) := goodIn_app (goodIn_of _ (by decide +kernel)) ggL_law_X3_bench
set_option maxRecDepth 20000 in
theorem ggL_law_X2_put : GoodIn wsL_law wsX2_put := goodIn_r _ [61, 62, 63, 64, 65, 2, 66, 14, 13, 67, 68, 69, 70, 71, 72, 73, 74, 75, 45, 76, 77, 78, 79, 80, 53, 50, 81, 82, 83, 84, 85, 86, 87, 88, 51, 52, 89, 90, 91, 92, 564, 565, 566, 567, 542, 543, 544, 545, 546, 547] (by decide +kernel) (by decide +kernel)
set_option maxRecDepth 20000 in
theorem gL_law_X2_put : GoodIn wsL_law (wsV RL 18 RX2 yX2_put wsX2_put) := goodIn_app (goodIn_of _ (by decide +kernel)) ggL_law_X2_put
set_option maxRecDepth 20000 in
theorem ggL_law_X3_put : GoodIn wsL_law wsX3_put := goodIn_r _ [96, 31, 32, 33, 34, 97, 98, 99, 5, 100, 30, 101, 102, 103, 104, 105, 106, 107, 108, 109, 110, 111, 112, 113, 114, 115, 116, 117, 118, 119, 120, 121, 122, 123, 124, 548, 549, 550, 551, 552, 553, 554, 555, 556] (by decide +kernel) (by decide +kernel)
set_option maxRecDepth 20000 in
theorem gL_law_X3_put : GoodIn wsL_law (wsV RL 22 RX3 yX3_put wsX3_put) := goodIn_app (goodIn_of _ (by decide +kernel)) ggL_law_X3_put
set_option maxRecDepth 20000 in
theorem ggL_law_X2_take : GoodIn wsL_law wsX2_take := goodIn_r _ [128, 129, 63, 64, 65, 2, 66, 14, 13, 130, 131, 132, 45, 133, 53, 134, 135, 136, 137, 50, 51, 52, 89, 90, 91, 92, 564, 565, 566, 567, 542, 543, 544, 545, 546, 547] (by decide +kernel) (by decide +kernel)
set_option maxRecDepth 20000 in
theorem gL_law_X2_take : GoodIn wsL_law (wsV RL 23 RX2 yX2_take wsX2_take) := goodIn_app (goodIn_of _ (by decide +kernel)) ggL_law_X2_take
set_option maxRecDepth 20000 in
theorem ggL_law_X3_take : GoodIn wsL_law wsX3_take := goodIn_r _ [141, 32, 31, 33, 34, 142, 143, 144, 5, 145, 97, 98, 99, 100, 30, 101, 102, 103, 104, 121, 122, 123, 124, 548, 549, 550, 551, 552, 553, 554, 555, 556] (by decide +kernel) (by decide +kernel)
set_option maxRecDepth 20000 in
theorem gL_law_X3_take : GoodIn wsL_law (wsV RL 27 RX3 yX3_take wsX3_take) := goodIn_app (goodIn_of _ (by decide +kernel)) ggL_law_X3_take
set_option maxRecDepth 20000 in
theorem ggL_law_X2_set : GoodIn wsL_law wsX2_set := goodIn_r _ [149, 129, 150, 151, 63, 64, 65, 2, 66, 14, 13, 130, 131, 132, 45, 133, 53, 67, 68, 69, 70, 71, 72, 564, 565, 566, 567, 542, 543, 544, 545, 546, 547] (by decide +kernel) (by decide +kernel)
set_option maxRecDepth 20000 in
theorem gL_law_X2_set : GoodIn wsL_law (wsV RL 28 RX2 yX2_set wsX2_set) := goodIn_app (goodIn_of _ (by decide +kernel)) ggL_law_X2_set
set_option maxRecDepth 20000 in
theorem ggL_law_X3_set : GoodIn wsL_law wsX3_set := goodIn_r _ [155, 32, 33, 34, 142, 143, 144, 5, 145, 31, 97, 98, 99, 100, 30, 101, 102, 103, 104, 105, 106, 107, 108, 109, 110, 111, 112, 548, 549, 550, 551, 552, 553, 554, 555, 556] (by decide +kernel) (by decide +kernel)
set_option maxRecDepth 20000 in
theorem gL_law_X3_set : GoodIn wsL_law (wsV RL 32 RX3 yX3_set wsX3_set) := goodIn_app (goodIn_of _ (by decide +kernel)) ggL_law_X3_set
set_option maxRecDepth 20000 in
theorem ggL_law_X2_part : GoodIn wsL_law wsX2_part := goodIn_r _ [159, 129, 150, 151, 63, 64, 65, 2, 66, 14, 13, 130, 131, 132, 45, 133, 53, 564, 565, 566, 567, 542, 543, 544, 545, 546, 547] (by decide +kernel) (by decide +kernel)
set_option maxRecDepth 20000 in
theorem gL_law_X2_part : GoodIn wsL_law (wsV RL 33 RX2 yX2_part wsX2_part) := goodIn_app (goodIn_of _ (by decide +kernel)) ggL_law_X2_part
set_option maxRecDepth 20000 in
theorem ggL_law_X3_part : GoodIn wsL_law wsX3_part := goodIn_r _ [163, 32, 33, 34, 142, 143, 144, 5, 145, 31, 97, 98, 99, 100, 30, 101, 102, 103, 104, 548, 549, 550, 551, 552, 553, 554, 555, 556] (by decide +kernel) (by decide +kernel)
set_option maxRecDepth 20000 in
theorem gL_law_X3_part : GoodIn wsL_law (wsV RL 37 RX3 yX3_part wsX3_part) := goodIn_app (goodIn_of _ (by decide +kernel)) ggL_law_X3_part
set_option maxRecDepth 20000 in
theorem ggL_law_X2_turn : GoodIn wsL_law wsX2_turn := goodIn_r _ [167, 62, 63, 64, 65, 2, 66, 14, 13, 168, 169, 170, 45, 171, 53, 50, 51, 52, 89, 90, 91, 92, 564, 565, 566, 567, 542, 543, 544, 545, 546, 547] (by decide +kernel) (by decide +kernel)
set_option maxRecDepth 20000 in
theorem gL_law_X2_turn : GoodIn wsL_law (wsV RL 38 RX2 yX2_turn wsX2_turn) := goodIn_app (goodIn_of _ (by decide +kernel)) ggL_law_X2_turn
set_option maxRecDepth 20000 in
theorem ggL_law_X3_turn : GoodIn wsL_law wsX3_turn := goodIn_r _ [175, 31, 32, 33, 34, 97, 98, 99, 5, 100, 30, 101, 102, 103, 104, 121, 122, 123, 124, 548, 549, 550, 551, 552, 553, 554, 555, 556] (by decide +kernel) (by decide +kernel)
set_option maxRecDepth 20000 in
theorem gL_law_X3_turn : GoodIn wsL_law (wsV RL 42 RX3 yX3_turn wsX3_turn) := goodIn_app (goodIn_of _ (by decide +kernel)) ggL_law_X3_turn
set_option maxRecDepth 20000 in
theorem ggL_law_X2_join : GoodIn wsL_law wsX2_join := goodIn_r _ [179, 62, 63, 64, 65, 2, 66, 14, 13, 180, 78, 79, 45, 80, 53, 50, 181, 82, 83, 84, 182, 183, 184, 185, 51, 52, 89, 90, 91, 92, 564, 565, 566, 567, 542, 543, 544, 545, 546, 547] (by decide +kernel) (by decide +kernel)
set_option maxRecDepth 20000 in
theorem gL_law_X2_join : GoodIn wsL_law (wsV RL 43 RX2 yX2_join wsX2_join) := goodIn_app (goodIn_of _ (by decide +kernel)) ggL_law_X2_join
set_option maxRecDepth 20000 in
theorem ggL_law_X3_join : GoodIn wsL_law wsX3_join := goodIn_r _ [189, 31, 32, 33, 34, 97, 98, 99, 5, 100, 30, 101, 102, 103, 104, 113, 114, 115, 116, 117, 118, 119, 120, 121, 122, 123, 124, 548, 549, 550, 551, 552, 553, 554, 555, 556] (by decide +kernel) (by decide +kernel)
set_option maxRecDepth 20000 in
theorem gL_law_X3_join : GoodIn wsL_law (wsV RL 46 RX3 yX3_join wsX3_join) := goodIn_app (goodIn_of _ (by decide +kernel)) ggL_law_X3_join
set_option maxRecDepth 20000 in
theorem ggL_law_X2_table : GoodIn wsL_law wsX2_table := goodIn_r _ [193, 194, 21, 195, 63, 64, 65, 2, 66, 14, 13, 196, 197, 198, 199, 200, 201, 20, 202, 203, 204, 205, 206, 207, 208, 209, 210, 211, 212, 213, 214, 215, 216, 217, 218, 219, 220, 131, 132, 45, 133, 53, 221, 222, 223, 224, 50, 52, 51, 225, 226, 227, 228, 229, 230, 231, 232, 233, 234, 235, 236, 237, 238, 239, 240, 241, 242, 243, 244, 245, 246, 247, 248, 249, 250, 251, 542, 543, 544, 545, 546, 547, 557, 558, 559, 560, 561, 562, 563, 564, 565, 566, 567] (by decide +kernel) (by decide +kernel)
set_option maxRecDepth 20000 in
theorem gL_law_X2_table : GoodIn wsL_law (wsV RL 47 RX2 yX2_table wsX2_table) := goodIn_app (goodIn_of _ (by decide +kernel)) ggL_law_X2_table
set_option maxRecDepth 20000 in
theorem ggL_law_X3_table : GoodIn wsL_law wsX3_table := goodIn_r _ [255, 256, 31, 38, 39, 97, 98, 99, 5, 100, 30, 101, 102, 103, 104, 257, 258, 259, 260, 261, 262, 263, 264, 265, 266, 267, 268, 269, 270, 271, 272, 33, 32, 34, 273, 274, 275, 276, 277, 278, 279, 280, 281, 282, 283, 284, 548, 549, 550, 551, 552, 553, 554, 555, 556] (by decide +kernel) (by decide +kernel)
set_option maxRecDepth 20000 in
theorem gL_law_X3_table : GoodIn wsL_law (wsV RL 51 RX3 yX3_table wsX3_table) := goodIn_app (goodIn_of _ (by decide +kernel)) ggL_law_X3_table
set_option maxRecDepth 20000 in
theorem ggL_law_X2_ray : GoodIn wsL_law wsX2_ray := goodIn_r _ [288, 194, 62, 21, 195, 63, 64, 65, 2, 66, 14, 13, 196, 197, 198, 289, 290, 291, 292, 205, 206, 20, 207, 208, 203, 209, 210, 211, 212, 213, 214, 215, 216, 217, 218, 219, 220, 131, 132, 45, 133, 53, 221, 222, 223, 224, 50, 52, 51, 225, 226, 227, 228, 229, 230, 231, 232, 233, 234, 235, 236, 237, 293, 294, 295, 296, 297, 298, 299, 300, 242, 243, 244, 245, 246, 247, 248, 249, 250, 251, 564, 565, 566, 567, 542, 543, 544, 545, 546, 547, 557, 558, 559, 560, 561, 562, 563] (by decide +kernel) (by decide +kernel)
set_option maxRecDepth 20000 in
theorem gL_law_X2_ray : GoodIn wsL_law (wsV RL 52 RX2 yX2_ray wsX2_ray) := goodIn_app (goodIn_of _ (by decide +kernel)) ggL_law_X2_ray
set_option maxRecDepth 20000 in
theorem ggL_law_X3_ray : GoodIn wsL_law wsX3_ray := goodIn_r _ [304, 31, 256, 38, 39, 97, 98, 99, 5, 100, 30, 101, 102, 103, 104, 257, 258, 259, 260, 305, 306, 307, 308, 261, 262, 263, 264, 265, 266, 267, 268, 269, 270, 271, 272, 33, 32, 34, 273, 274, 275, 276, 277, 278, 279, 280, 281, 282, 283, 284, 548, 549, 550, 551, 552, 553, 554, 555, 556] (by decide +kernel) (by decide +kernel)
set_option maxRecDepth 20000 in
theorem gL_law_X3_ray : GoodIn wsL_law (wsV RL 56 RX3 yX3_ray wsX3_ray) := goodIn_app (goodIn_of _ (by decide +kernel)) ggL_law_X3_ray
set_option maxRecDepth 20000 in
theorem ggL_law_X2_stops : GoodIn wsL_law wsX2_stops := goodIn_r _ [312, 21, 62, 129, 245, 246, 247, 248, 150, 195, 63, 64, 65, 2, 66, 14, 13, 196, 197, 198, 289, 290, 291, 313, 210, 211, 20, 212, 213, 214, 215, 216, 217, 218, 219, 314, 222, 223, 45, 224, 50, 52, 51, 315, 226, 227, 228, 229, 230, 231, 232, 233, 234, 235, 236, 237, 293, 294, 295, 296, 542, 543, 544, 545, 546, 547, 564, 565, 566, 567, 557, 558, 559, 560, 561, 562, 563] (by decide +kernel) (by decide +kernel)
set_option maxRecDepth 20000 in
theorem gL_law_X2_stops : GoodIn wsL_law (wsV RL 57 RX2 yX2_stops wsX2_stops) := goodIn_app (goodIn_of _ (by decide +kernel)) ggL_law_X2_stops
set_option maxRecDepth 20000 in
theorem ggL_law_X3_stops : GoodIn wsL_law wsX3_stops := goodIn_r _ [319, 97, 98, 99, 5, 100, 30, 101, 102, 103, 104, 257, 258, 259, 260, 305, 306, 307, 308, 320, 321, 322, 323, 31, 38, 32, 33, 39, 265, 266, 267, 268, 269, 270, 271, 272, 34, 273, 274, 275, 276, 548, 549, 550, 551, 552, 553, 554, 555, 556] (by decide +kernel) (by decide +kernel)
set_option maxRecDepth 20000 in
theorem gL_law_X3_stops : GoodIn wsL_law (wsV RL 60 RX3 yX3_stops wsX3_stops) := goodIn_app (goodIn_of _ (by decide +kernel)) ggL_law_X3_stops
set_option maxRecDepth 20000 in
theorem ggL_law_X2_full : GoodIn wsL_law wsX2_full := goodIn_r _ [327, 328, 21, 62, 129, 150, 329, 330, 247, 331, 63, 64, 65, 2, 66, 14, 13, 196, 197, 198, 313, 210, 211, 20, 212, 213, 214, 215, 216, 217, 218, 219, 314, 222, 223, 45, 224, 50, 52, 51, 315, 226, 227, 228, 229, 230, 231, 232, 233, 234, 235, 236, 237, 332, 333, 334, 335, 336, 246, 248, 337, 542, 543, 544, 545, 546, 547, 564, 565, 566, 567, 557, 558, 559, 560, 561, 562, 563] (by decide +kernel) (by decide +kernel)
set_option maxRecDepth 20000 in
theorem gL_law_X2_full : GoodIn wsL_law (wsV RL 61 RX2 yX2_full wsX2_full) := goodIn_app (goodIn_of _ (by decide +kernel)) ggL_law_X2_full
set_option maxRecDepth 20000 in
theorem ggL_law_X3_full : GoodIn wsL_law wsX3_full := goodIn_r _ [341, 97, 98, 99, 5, 100, 30, 101, 102, 103, 104, 257, 258, 259, 260, 320, 321, 322, 323, 31, 38, 32, 33, 39, 265, 266, 267, 268, 269, 270, 271, 272, 34, 273, 274, 275, 276, 548, 549, 550, 551, 552, 553, 554, 555, 556] (by decide +kernel) (by decide +kernel)
set_option maxRecDepth 20000 in
theorem gL_law_X3_full : GoodIn wsL_law (wsV RL 64 RX3 yX3_full wsX3_full) := goodIn_app (goodIn_of _ (by decide +kernel)) ggL_law_X3_full
set_option maxRecDepth 20000 in
theorem ggL_law_X2_image : GoodIn wsL_law wsX2_image := goodIn_r _ [345, 194, 21, 346, 347, 195, 63, 64, 65, 2, 66, 14, 13, 196, 197, 198, 199, 200, 201, 20, 202, 203, 204, 205, 206, 207, 208, 209, 210, 211, 212, 213, 214, 215, 216, 217, 218, 219, 220, 131, 132, 45, 133, 53, 221, 222, 223, 224, 50, 52, 51, 225, 226, 227, 228, 229, 230, 231, 232, 233, 234, 235, 236, 237, 242, 243, 244, 245, 246, 247, 248, 249, 250, 251, 542, 543, 544, 545, 546, 547, 557, 558, 559, 560, 561, 562, 563, 564, 565, 566, 567] (by decide +kernel) (by decide +kernel)
set_option maxRecDepth 20000 in
theorem gL_law_X2_image : GoodIn wsL_law (wsV RL 65 RX2 yX2_image wsX2_image) := goodIn_app (goodIn_of _ (by decide +kernel)) ggL_law_X2_image
set_option maxRecDepth 20000 in
theorem ggL_law_X3_image : GoodIn wsL_law wsX3_image := goodIn_r _ [351, 256, 31, 38, 39, 97, 98, 99, 5, 100, 30, 101, 102, 103, 104, 257, 258, 259, 260, 261, 262, 263, 264, 265, 266, 267, 268, 269, 270, 271, 272, 33, 32, 34, 273, 274, 275, 276, 277, 278, 279, 280, 281, 282, 283, 284, 548, 549, 550, 551, 552, 553, 554, 555, 556] (by decide +kernel) (by decide +kernel)
set_option maxRecDepth 20000 in
theorem gL_law_X3_image : GoodIn wsL_law (wsV RL 68 RX3 yX3_image wsX3_image) := goodIn_app (goodIn_of _ (by decide +kernel)) ggL_law_X3_image
set_option maxRecDepth 20000 in
theorem ggL_law_X2_same : GoodIn wsL_law wsX2_same := goodIn_r _ [355, 21, 22, 195, 63, 64, 65, 2, 66, 14, 13, 196, 197, 198, 199, 200, 201, 20, 202, 203, 204, 205, 206, 207, 208, 209, 210, 211, 212, 213, 214, 215, 216, 217, 218, 219, 220, 131, 132, 45, 133, 53, 221, 222, 223, 224, 50, 52, 51, 225, 226, 227, 228, 229, 230, 231, 232, 233, 234, 235, 236, 237, 238, 239, 240, 241, 542, 543, 544, 545, 546, 547, 557, 558, 559, 560, 561, 562, 563, 564, 565, 566, 567] (by decide +kernel) (by decide +kernel)
set_option maxRecDepth 20000 in
theorem gL_law_X2_same : GoodIn wsL_law (wsV RL 69 RX2 yX2_same wsX2_same) := goodIn_app (goodIn_of _ (by decide +kernel)) ggL_law_X2_same
set_option maxRecDepth 20000 in
theorem ggL_law_X3_same : GoodIn wsL_law wsX3_same := goodIn_r _ [359, 31, 38, 39, 97, 98, 99, 5, 100, 30, 101, 102, 103, 104, 257, 258, 259, 260, 261, 262, 263, 264, 265, 266, 267, 268, 269, 270, 271, 272, 33, 32, 34, 273, 274, 275, 276, 548, 549, 550, 551, 552, 553, 554, 555, 556] (by decide +kernel) (by decide +kernel)
set_option maxRecDepth 20000 in
theorem gL_law_X3_same : GoodIn wsL_law (wsV RL 72 RX3 yX3_same wsX3_same) := goodIn_app (goodIn_of _ (by decide +kernel)) ggL_law_X3_same
set_option maxRecDepth 20000 in
theorem ggL_law_X2_round : GoodIn wsL_law wsX2_round := goodIn_r _ [363, 21, 63, 64, 65, 2, 66, 14, 13, 196, 197, 198, 199, 200, 201, 20, 202, 203, 204, 205, 206, 207, 208, 209, 210, 211, 212, 213, 214, 215, 216, 217, 218, 219, 220, 131, 132, 45, 133, 53, 221, 222, 223, 224, 50, 52, 51, 225, 226, 227, 228, 229, 230, 231, 232, 233, 234, 235, 236, 237, 364, 365, 366, 367, 368, 369, 370, 371, 372, 373, 374, 375, 376, 377, 378, 379, 380, 381, 542, 543, 544, 545, 546, 547, 564, 565, 566, 567, 557, 558, 559, 560, 561, 562, 563] (by decide +kernel) (by decide +kernel)
set_option maxRecDepth 20000 in
theorem gL_law_X2_round : GoodIn wsL_law (wsV RL 73 RX2 yX2_round wsX2_round) := goodIn_app (goodIn_of _ (by decide +kernel)) ggL_law_X2_round
set_option maxRecDepth 20000 in
theorem ggL_law_X3_round : GoodIn wsL_law wsX3_round := goodIn_r _ [385, 97, 98, 99, 5, 100, 30, 101, 102, 103, 104, 257, 258, 259, 260, 386, 387, 388, 389, 31, 390, 391, 39, 392, 261, 262, 263, 264, 265, 266, 267, 268, 38, 269, 270, 271, 272, 33, 32, 34, 273, 274, 275, 276, 393, 394, 395, 396, 397, 398, 399, 400, 401, 402, 403, 404, 548, 549, 550, 551, 552, 553, 554, 555, 556] (by decide +kernel) (by decide +kernel)
set_option maxRecDepth 20000 in
theorem gL_law_X3_round : GoodIn wsL_law (wsV RL 76 RX3 yX3_round wsX3_round) := goodIn_app (goodIn_of _ (by decide +kernel)) ggL_law_X3_round
set_option maxRecDepth 20000 in
theorem ggL_law_X2_trace : GoodIn wsL_law wsX2_trace := goodIn_r _ [408, 194, 21, 195, 63, 64, 65, 2, 66, 14, 13, 196, 197, 198, 199, 200, 201, 20, 202, 203, 204, 205, 206, 207, 208, 209, 210, 211, 212, 213, 214, 215, 216, 217, 218, 219, 220, 131, 132, 45, 133, 53, 221, 222, 223, 224, 50, 52, 51, 225, 226, 227, 228, 229, 230, 231, 232, 233, 234, 235, 236, 237, 409, 375, 376, 377, 242, 243, 244, 245, 246, 247, 248, 249, 250, 251, 542, 543, 544, 545, 546, 547, 557, 558, 559, 560, 561, 562, 563, 564, 565, 566, 567] (by decide +kernel) (by decide +kernel)
set_option maxRecDepth 20000 in
theorem gL_law_X2_trace : GoodIn wsL_law (wsV RL 77 RX2 yX2_trace wsX2_trace) := goodIn_app (goodIn_of _ (by decide +kernel)) ggL_law_X2_trace
set_option maxRecDepth 20000 in
theorem ggL_law_X3_trace : GoodIn wsL_law wsX3_trace := goodIn_r _ [413, 256, 31, 39, 97, 98, 99, 5, 100, 30, 101, 102, 103, 104, 257, 258, 259, 260, 261, 262, 263, 264, 265, 266, 267, 268, 38, 269, 270, 271, 272, 33, 32, 34, 273, 274, 275, 276, 397, 398, 399, 400, 277, 278, 279, 280, 281, 282, 283, 284, 548, 549, 550, 551, 552, 553, 554, 555, 556] (by decide +kernel) (by decide +kernel)
set_option maxRecDepth 20000 in
theorem gL_law_X3_trace : GoodIn wsL_law (wsV RL 81 RX3 yX3_trace wsX3_trace) := goodIn_app (goodIn_of _ (by decide +kernel)) ggL_law_X3_trace
set_option maxRecDepth 20000 in
theorem ggL_law_X2_turns : GoodIn wsL_law wsX2_turns := goodIn_r _ [417, 21, 63, 64, 65, 2, 66, 14, 13, 196, 197, 198, 199, 200, 201, 20, 202, 203, 204, 205, 206, 207, 208, 209, 210, 211, 212, 213, 214, 215, 216, 217, 218, 219, 220, 131, 132, 45, 133, 53, 221, 222, 223, 224, 50, 52, 51, 225, 226, 227, 228, 229, 230, 231, 232, 233, 234, 235, 236, 237, 418, 419, 420, 421, 378, 379, 380, 381, 374, 375, 376, 377, 542, 543, 544, 545, 546, 547, 564, 565, 566, 567, 557, 558, 559, 560, 561, 562, 563] (by decide +kernel) (by decide +kernel)
set_option maxRecDepth 20000 in
theorem gL_law_X2_turns : GoodIn wsL_law (wsV RL 82 RX2 yX2_turns wsX2_turns) := goodIn_app (goodIn_of _ (by decide +kernel)) ggL_law_X2_turns
set_option maxRecDepth 20000 in
theorem ggL_law_X3_turns : GoodIn wsL_law wsX3_turns := goodIn_r _ [425, 31, 390, 39, 97, 98, 99, 5, 100, 30, 101, 102, 103, 104, 257, 258, 259, 260, 261, 262, 263, 264, 265, 266, 267, 268, 38, 269, 270, 271, 272, 33, 32, 34, 273, 274, 275, 276, 401, 402, 403, 404, 397, 398, 399, 400, 548, 549, 550, 551, 552, 553, 554, 555, 556] (by decide +kernel) (by decide +kernel)
set_option maxRecDepth 20000 in
theorem gL_law_X3_turns : GoodIn wsL_law (wsV RL 85 RX3 yX3_turns wsX3_turns) := goodIn_app (goodIn_of _ (by decide +kernel)) ggL_law_X3_turns
set_option maxRecDepth 20000 in
theorem ggL_law_X2_beam : GoodIn wsL_law wsX2_beam := goodIn_r _ [429, 194, 21, 62, 430, 346, 195, 347, 431, 432, 63, 64, 65, 2, 66, 14, 13, 130, 131, 132, 45, 133, 53, 196, 197, 198, 292, 205, 206, 20, 207, 208, 203, 209, 210, 211, 212, 213, 214, 215, 216, 217, 218, 219, 220, 221, 222, 223, 224, 50, 52, 51, 225, 226, 227, 228, 229, 230, 231, 232, 233, 234, 235, 236, 237, 433, 371, 372, 373, 369, 368, 374, 375, 376, 377, 409, 242, 243, 244, 245, 246, 247, 248, 249, 250, 251, 542, 543, 544, 545, 546, 547, 564, 565, 566, 567, 557, 558, 559, 560, 561, 562, 563] (by decide +kernel) (by decide +kernel)
set_option maxRecDepth 20000 in
theorem gL_law_X2_beam : GoodIn wsL_law (wsV RL 86 RX2 yX2_beam wsX2_beam) := goodIn_app (goodIn_of _ (by decide +kernel)) ggL_law_X2_beam
set_option maxRecDepth 20000 in
theorem ggL_law_X3_beam : GoodIn wsL_law wsX3_beam := goodIn_r _ [437, 256, 31, 38, 391, 142, 143, 144, 5, 145, 97, 98, 99, 100, 30, 101, 102, 103, 104, 257, 258, 259, 260, 261, 262, 263, 264, 265, 266, 267, 268, 39, 269, 270, 271, 272, 33, 32, 34, 273, 274, 275, 276, 393, 394, 395, 396, 392, 397, 398, 399, 400, 438, 439, 440, 441, 442, 443, 444, 445, 446, 277, 278, 279, 280, 281, 282, 283, 284, 548, 549, 550, 551, 552, 553, 554, 555, 556] (by decide +kernel) (by decide +kernel)
set_option maxRecDepth 20000 in
theorem gL_law_X3_beam : GoodIn wsL_law (wsV RL 90 RX3 yX3_beam wsX3_beam) := goodIn_app (goodIn_of _ (by decide +kernel)) ggL_law_X3_beam
set_option maxRecDepth 20000 in
theorem ggL_law_X2_waist : GoodIn wsL_law wsX2_waist := goodIn_r _ [450, 21, 346, 245, 246, 247, 248, 62, 63, 64, 65, 2, 66, 14, 13, 196, 197, 198, 199, 200, 201, 20, 202, 203, 204, 205, 206, 207, 208, 209, 210, 211, 212, 213, 214, 215, 216, 217, 218, 219, 220, 131, 132, 45, 133, 53, 221, 222, 223, 224, 50, 52, 51, 225, 226, 227, 228, 229, 230, 231, 232, 233, 234, 235, 236, 237, 433, 371, 372, 373, 369, 368, 374, 375, 376, 377, 292, 542, 543, 544, 545, 546, 547, 557, 558, 559, 560, 561, 562, 563, 564, 565, 566, 567] (by decide +kernel) (by decide +kernel)
set_option maxRecDepth 20000 in
theorem gL_law_X2_waist : GoodIn wsL_law (wsV RL 91 RX2 yX2_waist wsX2_waist) := goodIn_app (goodIn_of _ (by decide +kernel)) ggL_law_X2_waist
set_option maxRecDepth 20000 in
theorem ggL_law_X3_waist : GoodIn wsL_law wsX3_waist := goodIn_r _ [454, 31, 38, 97, 98, 99, 5, 100, 30, 101, 102, 103, 104, 257, 258, 259, 260, 261, 262, 263, 264, 265, 266, 267, 268, 39, 269, 270, 271, 272, 33, 32, 34, 273, 274, 275, 276, 393, 394, 395, 396, 391, 392, 397, 398, 399, 400, 548, 549, 550, 551, 552, 553, 554, 555, 556] (by decide +kernel) (by decide +kernel)
set_option maxRecDepth 20000 in
theorem gL_law_X3_waist : GoodIn wsL_law (wsV RL 94 RX3 yX3_waist wsX3_waist) := goodIn_app (goodIn_of _ (by decide +kernel)) ggL_law_X3_waist
set_option maxRecDepth 20000 in
theorem ggL_law_X2_axis : GoodIn wsL_law wsX2_axis := goodIn_r _ [458, 194, 21, 62, 195, 432, 347, 459, 346, 460, 461, 431, 63, 64, 65, 2, 66, 14, 13, 130, 131, 132, 45, 133, 53, 196, 197, 198, 292, 205, 206, 20, 207, 208, 203, 209, 210, 211, 212, 213, 214, 215, 216, 217, 218, 219, 220, 221, 222, 223, 224, 50, 52, 51, 225, 226, 227, 228, 229, 230, 231, 232, 233, 234, 235, 236, 237, 409, 375, 376, 377, 242, 243, 244, 245, 246, 247, 248, 249, 250, 251, 542, 543, 544, 545, 546, 547, 564, 565, 566, 567, 557, 558, 559, 560, 561, 562, 563] (by decide +kernel) (by decide +kernel)
set_option maxRecDepth 20000 in
theorem gL_law_X2_axis : GoodIn wsL_law (wsV RL 95 RX2 yX2_axis wsX2_axis) := goodIn_app (goodIn_of _ (by decide +kernel)) ggL_law_X2_axis
set_option maxRecDepth 20000 in
theorem ggL_law_X3_axis : GoodIn wsL_law wsX3_axis := goodIn_r _ [465, 256, 31, 391, 39, 38, 142, 143, 144, 5, 145, 97, 98, 99, 100, 30, 101, 102, 103, 104, 257, 258, 259, 260, 261, 262, 263, 264, 265, 266, 267, 268, 269, 270, 271, 272, 33, 32, 34, 273, 274, 275, 276, 397, 398, 399, 400, 277, 278, 279, 280, 281, 282, 283, 284, 548, 549, 550, 551, 552, 553, 554, 555, 556] (by decide +kernel) (by decide +kernel)
set_option maxRecDepth 20000 in
theorem gL_law_X3_axis : GoodIn wsL_law (wsV RL 98 RX3 yX3_axis wsX3_axis) := goodIn_app (goodIn_of _ (by decide +kernel)) ggL_law_X3_axis
set_option maxRecDepth 20000 in
theorem ggL_law_X2_span : GoodIn wsL_law wsX2_span := goodIn_r _ [469, 129, 63, 64, 65, 2, 66, 14, 13, 130, 131, 132, 45, 133, 53, 470, 471, 472, 473, 150, 474, 475, 476, 477, 21, 22, 199, 200, 201, 20, 202, 203, 204, 205, 206, 207, 208, 209, 210, 211, 212, 213, 214, 215, 216, 217, 218, 219, 220, 221, 222, 223, 224, 50, 52, 51, 225, 226, 227, 228, 229, 230, 231, 232, 233, 234, 235, 236, 237, 364, 365, 366, 367, 368, 369, 370, 371, 372, 373, 374, 375, 376, 377, 378, 379, 380, 381, 564, 565, 566, 567, 542, 543, 544, 545, 546, 547, 557, 558, 559, 560, 561, 562, 563] (by decide +kernel) (by decide +kernel)
set_option maxRecDepth 20000 in
theorem gL_law_X2_span : GoodIn wsL_law (wsV RL 99 RX2 yX2_span wsX2_span) := goodIn_app (goodIn_of _ (by decide +kernel)) ggL_law_X2_span
set_option maxRecDepth 20000 in
theorem ggL_law_X3_span : GoodIn wsL_law wsX3_span := goodIn_r _ [481, 32, 142, 143, 144, 5, 145, 31, 97, 98, 99, 100, 30, 101, 102, 103, 104, 482, 483, 484, 485, 33, 486, 487, 488, 489, 386, 387, 388, 389, 390, 391, 39, 392, 261, 262, 263, 264, 265, 266, 267, 268, 38, 269, 270, 271, 272, 34, 273, 274, 275, 276, 393, 394, 395, 396, 397, 398, 399, 400, 401, 402, 403, 404, 548, 549, 550, 551, 552, 553, 554, 555, 556] (by decide +kernel) (by decide +kernel)
set_option maxRecDepth 20000 in
theorem gL_law_X3_span : GoodIn wsL_law (wsV RL 102 RX3 yX3_span wsX3_span) := goodIn_app (goodIn_of _ (by decide +kernel)) ggL_law_X3_span
set_option maxRecDepth 20000 in
theorem ggL_law_X2_own : GoodIn wsL_law wsX2_own := goodIn_r _ [493, 17, 16, 70, 71, 2, 72, 542, 543, 544, 545, 546, 547] (by decide +kernel) (by decide +kernel)
set_option maxRecDepth 20000 in
theorem gL_law_X2_own : GoodIn wsL_law (wsV RL 103 RX2 yX2_own wsX2_own) := goodIn_app (goodIn_of _ (by decide +kernel)) ggL_law_X2_own
set_option maxRecDepth 20000 in
theorem ggL_law_X3_own : GoodIn wsL_law wsX3_own := goodIn_r _ [497, 35, 36, 109, 110, 111, 5, 112, 101, 102, 103, 104, 548, 549, 550, 551, 552, 553, 554, 555, 556] (by decide +kernel) (by decide +kernel)
set_option maxRecDepth 20000 in
theorem gL_law_X3_own : GoodIn wsL_law (wsV RL 106 RX3 yX3_own wsX3_own) := goodIn_app (goodIn_of _ (by decide +kernel)) ggL_law_X3_own
set_option maxRecDepth 20000 in
theorem ggL_law_X2_fit : GoodIn wsL_law wsX2_fit := goodIn_r _ [501, 129, 17, 16, 63, 64, 65, 2, 66, 14, 13, 130, 131, 132, 45, 133, 53, 470, 471, 472, 473, 150, 474, 475, 476, 477, 21, 22, 199, 200, 201, 20, 202, 203, 204, 205, 206, 207, 208, 209, 210, 211, 212, 213, 214, 215, 216, 217, 218, 219, 220, 221, 222, 223, 224, 50, 52, 51, 225, 226, 227, 228, 229, 230, 231, 232, 233, 234, 235, 236, 237, 364, 365, 366, 367, 368, 369, 370, 371, 372, 373, 374, 375, 376, 377, 378, 379, 380, 381, 564, 565, 566, 567, 542, 543, 544, 545, 546, 547, 557, 558, 559, 560, 561, 562, 563] (by decide +kernel) (by decide +kernel)
set_option maxRecDepth 20000 in
theorem gL_law_X2_fit : GoodIn wsL_law (wsV RL 107 RX2 yX2_fit wsX2_fit) := goodIn_app (goodIn_of _ (by decide +kernel)) ggL_law_X2_fit
set_option maxRecDepth 20000 in
theorem ggL_law_X3_fit : GoodIn wsL_law wsX3_fit := goodIn_r _ [505, 32, 35, 36, 142, 143, 144, 5, 145, 31, 97, 98, 99, 100, 30, 101, 102, 103, 104, 482, 483, 484, 485, 33, 486, 487, 488, 489, 386, 387, 388, 389, 390, 391, 39, 392, 261, 262, 263, 264, 265, 266, 267, 268, 38, 269, 270, 271, 272, 34, 273, 274, 275, 276, 393, 394, 395, 396, 397, 398, 399, 400, 401, 402, 403, 404, 548, 549, 550, 551, 552, 553, 554, 555, 556] (by decide +kernel) (by decide +kernel)
set_option maxRecDepth 20000 in
theorem gL_law_X3_fit : GoodIn wsL_law (wsV RL 110 RX3 yX3_fit wsX3_fit) := goodIn_app (goodIn_of _ (by decide +kernel)) ggL_law_X3_fit
set_option maxRecDepth 20000 in
theorem ggL_law_X2_swap : GoodIn wsL_law wsX2_swap := goodIn_r _ [509, 129, 150, 16, 63, 64, 65, 2, 66, 14, 13, 130, 131, 132, 45, 133, 53, 510, 511, 512, 513, 17, 564, 565, 566, 567, 542, 543, 544, 545, 546, 547] (by decide +kernel) (by decide +kernel)
set_option maxRecDepth 20000 in
theorem gL_law_X2_swap : GoodIn wsL_law (wsV RL 111 RX2 yX2_swap wsX2_swap) := goodIn_app (goodIn_of _ (by decide +kernel)) ggL_law_X2_swap
set_option maxRecDepth 20000 in
theorem ggL_law_X3_swap : GoodIn wsL_law wsX3_swap := goodIn_r _ [517, 35, 32, 33, 36, 142, 143, 144, 5, 145, 31, 97, 98, 99, 100, 30, 101, 102, 103, 104, 548, 549, 550, 551, 552, 553, 554, 555, 556] (by decide +kernel) (by decide +kernel)
set_option maxRecDepth 20000 in
theorem gL_law_X3_swap : GoodIn wsL_law (wsV RL 114 RX3 yX3_swap wsX3_swap) := goodIn_app (goodIn_of _ (by decide +kernel)) ggL_law_X3_swap
set_option maxRecDepth 20000 in
theorem ggL_law_X2_count : GoodIn wsL_law wsX2_count := goodIn_r _ [521, 14, 17, 522, 523, 524, 2, 525, 13, 62, 526, 527, 528, 529, 474, 475, 476, 477, 21, 22, 199, 200, 201, 20, 202, 203, 204, 205, 206, 207, 208, 209, 210, 211, 212, 213, 214, 215, 216, 217, 218, 219, 220, 131, 132, 45, 133, 53, 221, 222, 223, 224, 50, 52, 51, 225, 226, 227, 228, 229, 230, 231, 232, 233, 234, 235, 236, 237, 364, 365, 366, 367, 368, 369, 370, 371, 372, 373, 374, 375, 376, 377, 378, 379, 380, 381, 542, 543, 544, 545, 546, 547, 564, 565, 566, 567, 557, 558, 559, 560, 561, 562, 563] (by decide +kernel) (by decide +kernel)
set_option maxRecDepth 20000 in
theorem gL_law_X2_count : GoodIn wsL_law (wsV RL 115 RX2 yX2_count wsX2_count) := goodIn_app (goodIn_of _ (by decide +kernel)) ggL_law_X2_count
set_option maxRecDepth 20000 in
theorem ggL_law_X3_count : GoodIn wsL_law wsX3_count := goodIn_r _ [533, 30, 31, 35, 486, 487, 488, 5, 489, 386, 387, 388, 389, 390, 391, 39, 392, 261, 262, 263, 264, 265, 266, 267, 268, 38, 269, 270, 271, 272, 33, 32, 34, 273, 274, 275, 276, 393, 394, 395, 396, 397, 398, 399, 400, 401, 402, 403, 404, 548, 549, 550, 551, 552, 553, 554, 555, 556] (by decide +kernel) (by decide +kernel)
set_option maxRecDepth 20000 in
theorem gL_law_X3_count : GoodIn wsL_law (wsV RL 118 RX3 yX3_count wsX3_count) := goodIn_app (goodIn_of _ (by decide +kernel)) ggL_law_X3_count
set_option maxRecDepth 20000 in
theorem ggL_law_X2_drawer : GoodIn wsL_law wsX2_drawer := goodIn_r _ [537, 16, 510, 511, 512, 2, 513, 17, 542, 543, 544, 545, 546, 547] (by decide +kernel) (by decide +kernel)
set_option maxRecDepth 20000 in
theorem gL_law_X2_drawer : GoodIn wsL_law (wsV RL 119 RX2 yX2_drawer wsX2_drawer) := goodIn_app (goodIn_of _ (by decide +kernel)) ggL_law_X2_drawer
set_option maxRecDepth 20000 in
theorem ggL_law_X3_drawer : GoodIn wsL_law wsX3_drawer := goodIn_r _ [541, 35, 36, 101, 102, 103, 5, 104, 548, 549, 550, 551, 552, 553, 554, 555, 556] (by decide +kernel) (by decide +kernel)
set_option maxRecDepth 20000 in
theorem gL_law_X3_drawer : GoodIn wsL_law (wsV RL 122 RX3 yX3_drawer wsX3_drawer) := goodIn_app (goodIn_of _ (by decide +kernel)) ggL_law_X3_drawer
theorem dL_law_0 : decode cL_law 0 = .ok (.new 7, 3) := by decide +kernel
theorem dL_law_3 : decode cL_law 3 = .ok (.dup, 1) := by decide +kernel
theorem dL_law_4 : decode cL_law 4 = .ok (.invokespecial 9, 3) := by decide +kernel
theorem dL_law_7 : decode cL_law 7 = .ok (.astore_n 1, 1) := by decide +kernel
theorem dL_law_8 : decode cL_law 8 = .ok (.new 10, 3) := by decide +kernel
theorem dL_law_11 : decode cL_law 11 = .ok (.dup, 1) := by decide +kernel
theorem dL_law_12 : decode cL_law 12 = .ok (.invokespecial 12, 3) := by decide +kernel
theorem dL_law_15 : decode cL_law 15 = .ok (.astore_n 2, 1) := by decide +kernel
theorem dL_law_16 : decode cL_law 16 = .ok (.iconst 0, 1) := by decide +kernel
theorem dL_law_17 : decode cL_law 17 = .ok (.istore_n 3, 1) := by decide +kernel
theorem dL_law_18 : decode cL_law 18 = .ok (.iload_n 3, 1) := by decide +kernel
theorem dL_law_19 : decode cL_law 19 = .ok (.aload_n 0, 1) := by decide +kernel
theorem dL_law_20 : decode cL_law 20 = .ok (.arraylength, 1) := by decide +kernel
theorem dL_law_21 : decode cL_law 21 = .ok (.bipush 8, 2) := by decide +kernel
theorem dL_law_23 : decode cL_law 23 = .ok (.isub, 1) := by decide +kernel
theorem dL_law_24 : decode cL_law 24 = .ok (.if_icmp .gt 1175, 3) := by decide +kernel
theorem dL_law_27 : decode cL_law 27 = .ok (.aload_n 0, 1) := by decide +kernel
theorem dL_law_28 : decode cL_law 28 = .ok (.iload_n 3, 1) := by decide +kernel
theorem dL_law_29 : decode cL_law 29 = .ok (.iaload, 1) := by decide +kernel
theorem dL_law_30 : decode cL_law 30 = .ok (.bipush 31, 2) := by decide +kernel
theorem dL_law_32 : decode cL_law 32 = .ok (.iand, 1) := by decide +kernel
theorem dL_law_33 : decode cL_law 33 = .ok (.tableswitch 1160 0 24 #[115, 128, 191, 224, 277, 320, 343, 376, 430, 518, 571, 604, 658, 701, 734, 778, 811, 875, 908, 972, 1015, 1038, 1071, 1114, 1137], 115) := by decide +kernel
theorem dL_law_148 : decode cL_law 148 = .ok (.aload_n 1, 1) := by decide +kernel
theorem dL_law_149 : decode cL_law 149 = .ok (.invokevirtual 13, 3) := by decide +kernel
theorem dL_law_152 : decode cL_law 152 = .ok (.aload_n 2, 1) := by decide +kernel
theorem dL_law_153 : decode cL_law 153 = .ok (.invokevirtual 17, 3) := by decide +kernel
theorem dL_law_156 : decode cL_law 156 = .ok (.if_icmp .eq 1037, 3) := by decide +kernel
theorem dL_law_159 : decode cL_law 159 = .ok (.iconst 0, 1) := by decide +kernel
theorem dL_law_160 : decode cL_law 160 = .ok (.ireturn, 1) := by decide +kernel
theorem dL_law_161 : decode cL_law 161 = .ok (.aload_n 1, 1) := by decide +kernel
theorem dL_law_162 : decode cL_law 162 = .ok (.aload_n 0, 1) := by decide +kernel
theorem dL_law_163 : decode cL_law 163 = .ok (.iload_n 3, 1) := by decide +kernel
theorem dL_law_164 : decode cL_law 164 = .ok (.iconst 1, 1) := by decide +kernel
theorem dL_law_165 : decode cL_law 165 = .ok (.iadd, 1) := by decide +kernel
theorem dL_law_166 : decode cL_law 166 = .ok (.iaload, 1) := by decide +kernel
theorem dL_law_167 : decode cL_law 167 = .ok (.aload_n 0, 1) := by decide +kernel
theorem dL_law_168 : decode cL_law 168 = .ok (.iload_n 3, 1) := by decide +kernel
theorem dL_law_169 : decode cL_law 169 = .ok (.iconst 2, 1) := by decide +kernel
theorem dL_law_170 : decode cL_law 170 = .ok (.iadd, 1) := by decide +kernel
theorem dL_law_171 : decode cL_law 171 = .ok (.iaload, 1) := by decide +kernel
theorem dL_law_172 : decode cL_law 172 = .ok (.aload_n 0, 1) := by decide +kernel
theorem dL_law_173 : decode cL_law 173 = .ok (.iload_n 3, 1) := by decide +kernel
theorem dL_law_174 : decode cL_law 174 = .ok (.iconst 3, 1) := by decide +kernel
theorem dL_law_175 : decode cL_law 175 = .ok (.iadd, 1) := by decide +kernel
theorem dL_law_176 : decode cL_law 176 = .ok (.iaload, 1) := by decide +kernel
theorem dL_law_177 : decode cL_law 177 = .ok (.aload_n 0, 1) := by decide +kernel
theorem dL_law_178 : decode cL_law 178 = .ok (.iload_n 3, 1) := by decide +kernel
theorem dL_law_179 : decode cL_law 179 = .ok (.iconst 4, 1) := by decide +kernel
theorem dL_law_180 : decode cL_law 180 = .ok (.iadd, 1) := by decide +kernel
theorem dL_law_181 : decode cL_law 181 = .ok (.iaload, 1) := by decide +kernel
theorem dL_law_182 : decode cL_law 182 = .ok (.aload_n 0, 1) := by decide +kernel
theorem dL_law_183 : decode cL_law 183 = .ok (.iload_n 3, 1) := by decide +kernel
theorem dL_law_184 : decode cL_law 184 = .ok (.iconst 5, 1) := by decide +kernel
theorem dL_law_185 : decode cL_law 185 = .ok (.iadd, 1) := by decide +kernel
theorem dL_law_186 : decode cL_law 186 = .ok (.iaload, 1) := by decide +kernel
theorem dL_law_187 : decode cL_law 187 = .ok (.invokevirtual 18, 3) := by decide +kernel
theorem dL_law_190 : decode cL_law 190 = .ok (.aload_n 2, 1) := by decide +kernel
theorem dL_law_191 : decode cL_law 191 = .ok (.aload_n 0, 1) := by decide +kernel
theorem dL_law_192 : decode cL_law 192 = .ok (.iload_n 3, 1) := by decide +kernel
theorem dL_law_193 : decode cL_law 193 = .ok (.iconst 1, 1) := by decide +kernel
theorem dL_law_194 : decode cL_law 194 = .ok (.iadd, 1) := by decide +kernel
theorem dL_law_195 : decode cL_law 195 = .ok (.iaload, 1) := by decide +kernel
theorem dL_law_196 : decode cL_law 196 = .ok (.aload_n 0, 1) := by decide +kernel
theorem dL_law_197 : decode cL_law 197 = .ok (.iload_n 3, 1) := by decide +kernel
theorem dL_law_198 : decode cL_law 198 = .ok (.iconst 2, 1) := by decide +kernel
theorem dL_law_199 : decode cL_law 199 = .ok (.iadd, 1) := by decide +kernel
theorem dL_law_200 : decode cL_law 200 = .ok (.iaload, 1) := by decide +kernel
theorem dL_law_201 : decode cL_law 201 = .ok (.aload_n 0, 1) := by decide +kernel
theorem dL_law_202 : decode cL_law 202 = .ok (.iload_n 3, 1) := by decide +kernel
theorem dL_law_203 : decode cL_law 203 = .ok (.iconst 3, 1) := by decide +kernel
theorem dL_law_204 : decode cL_law 204 = .ok (.iadd, 1) := by decide +kernel
theorem dL_law_205 : decode cL_law 205 = .ok (.iaload, 1) := by decide +kernel
theorem dL_law_206 : decode cL_law 206 = .ok (.aload_n 0, 1) := by decide +kernel
theorem dL_law_207 : decode cL_law 207 = .ok (.iload_n 3, 1) := by decide +kernel
theorem dL_law_208 : decode cL_law 208 = .ok (.iconst 4, 1) := by decide +kernel
theorem dL_law_209 : decode cL_law 209 = .ok (.iadd, 1) := by decide +kernel
theorem dL_law_210 : decode cL_law 210 = .ok (.iaload, 1) := by decide +kernel
theorem dL_law_211 : decode cL_law 211 = .ok (.aload_n 0, 1) := by decide +kernel
theorem dL_law_212 : decode cL_law 212 = .ok (.iload_n 3, 1) := by decide +kernel
theorem dL_law_213 : decode cL_law 213 = .ok (.iconst 5, 1) := by decide +kernel
theorem dL_law_214 : decode cL_law 214 = .ok (.iadd, 1) := by decide +kernel
theorem dL_law_215 : decode cL_law 215 = .ok (.iaload, 1) := by decide +kernel
theorem dL_law_216 : decode cL_law 216 = .ok (.invokevirtual 22, 3) := by decide +kernel
theorem dL_law_219 : decode cL_law 219 = .ok (.if_icmp .eq 974, 3) := by decide +kernel
theorem dL_law_222 : decode cL_law 222 = .ok (.iconst 0, 1) := by decide +kernel
theorem dL_law_223 : decode cL_law 223 = .ok (.ireturn, 1) := by decide +kernel
theorem dL_law_224 : decode cL_law 224 = .ok (.aload_n 1, 1) := by decide +kernel
theorem dL_law_225 : decode cL_law 225 = .ok (.aload_n 0, 1) := by decide +kernel
theorem dL_law_226 : decode cL_law 226 = .ok (.iload_n 3, 1) := by decide +kernel
theorem dL_law_227 : decode cL_law 227 = .ok (.iconst 1, 1) := by decide +kernel
theorem dL_law_228 : decode cL_law 228 = .ok (.iadd, 1) := by decide +kernel
theorem dL_law_229 : decode cL_law 229 = .ok (.iaload, 1) := by decide +kernel
theorem dL_law_230 : decode cL_law 230 = .ok (.aload_n 0, 1) := by decide +kernel
theorem dL_law_231 : decode cL_law 231 = .ok (.iload_n 3, 1) := by decide +kernel
theorem dL_law_232 : decode cL_law 232 = .ok (.iconst 2, 1) := by decide +kernel
theorem dL_law_233 : decode cL_law 233 = .ok (.iadd, 1) := by decide +kernel
theorem dL_law_234 : decode cL_law 234 = .ok (.iaload, 1) := by decide +kernel
theorem dL_law_235 : decode cL_law 235 = .ok (.invokevirtual 23, 3) := by decide +kernel
theorem dL_law_238 : decode cL_law 238 = .ok (.aload_n 2, 1) := by decide +kernel
theorem dL_law_239 : decode cL_law 239 = .ok (.aload_n 0, 1) := by decide +kernel
theorem dL_law_240 : decode cL_law 240 = .ok (.iload_n 3, 1) := by decide +kernel
theorem dL_law_241 : decode cL_law 241 = .ok (.iconst 1, 1) := by decide +kernel
theorem dL_law_242 : decode cL_law 242 = .ok (.iadd, 1) := by decide +kernel
theorem dL_law_243 : decode cL_law 243 = .ok (.iaload, 1) := by decide +kernel
theorem dL_law_244 : decode cL_law 244 = .ok (.aload_n 0, 1) := by decide +kernel
theorem dL_law_245 : decode cL_law 245 = .ok (.iload_n 3, 1) := by decide +kernel
theorem dL_law_246 : decode cL_law 246 = .ok (.iconst 2, 1) := by decide +kernel
theorem dL_law_247 : decode cL_law 247 = .ok (.iadd, 1) := by decide +kernel
theorem dL_law_248 : decode cL_law 248 = .ok (.iaload, 1) := by decide +kernel
theorem dL_law_249 : decode cL_law 249 = .ok (.invokevirtual 27, 3) := by decide +kernel
theorem dL_law_252 : decode cL_law 252 = .ok (.if_icmp .eq 941, 3) := by decide +kernel
theorem dL_law_255 : decode cL_law 255 = .ok (.iconst 0, 1) := by decide +kernel
theorem dL_law_256 : decode cL_law 256 = .ok (.ireturn, 1) := by decide +kernel
theorem dL_law_257 : decode cL_law 257 = .ok (.aload_n 1, 1) := by decide +kernel
theorem dL_law_258 : decode cL_law 258 = .ok (.aload_n 0, 1) := by decide +kernel
theorem dL_law_259 : decode cL_law 259 = .ok (.iload_n 3, 1) := by decide +kernel
theorem dL_law_260 : decode cL_law 260 = .ok (.iconst 1, 1) := by decide +kernel
theorem dL_law_261 : decode cL_law 261 = .ok (.iadd, 1) := by decide +kernel
theorem dL_law_262 : decode cL_law 262 = .ok (.iaload, 1) := by decide +kernel
theorem dL_law_263 : decode cL_law 263 = .ok (.aload_n 0, 1) := by decide +kernel
theorem dL_law_264 : decode cL_law 264 = .ok (.iload_n 3, 1) := by decide +kernel
theorem dL_law_265 : decode cL_law 265 = .ok (.iconst 2, 1) := by decide +kernel
theorem dL_law_266 : decode cL_law 266 = .ok (.iadd, 1) := by decide +kernel
theorem dL_law_267 : decode cL_law 267 = .ok (.iaload, 1) := by decide +kernel
theorem dL_law_268 : decode cL_law 268 = .ok (.aload_n 0, 1) := by decide +kernel
theorem dL_law_269 : decode cL_law 269 = .ok (.iload_n 3, 1) := by decide +kernel
theorem dL_law_270 : decode cL_law 270 = .ok (.iconst 3, 1) := by decide +kernel
theorem dL_law_271 : decode cL_law 271 = .ok (.iadd, 1) := by decide +kernel
theorem dL_law_272 : decode cL_law 272 = .ok (.iaload, 1) := by decide +kernel
theorem dL_law_273 : decode cL_law 273 = .ok (.aload_n 0, 1) := by decide +kernel
theorem dL_law_274 : decode cL_law 274 = .ok (.iload_n 3, 1) := by decide +kernel
theorem dL_law_275 : decode cL_law 275 = .ok (.iconst 4, 1) := by decide +kernel
theorem dL_law_276 : decode cL_law 276 = .ok (.iadd, 1) := by decide +kernel
theorem dL_law_277 : decode cL_law 277 = .ok (.iaload, 1) := by decide +kernel
theorem dL_law_278 : decode cL_law 278 = .ok (.invokevirtual 28, 3) := by decide +kernel
theorem dL_law_281 : decode cL_law 281 = .ok (.aload_n 2, 1) := by decide +kernel
theorem dL_law_282 : decode cL_law 282 = .ok (.aload_n 0, 1) := by decide +kernel
theorem dL_law_283 : decode cL_law 283 = .ok (.iload_n 3, 1) := by decide +kernel
theorem dL_law_284 : decode cL_law 284 = .ok (.iconst 1, 1) := by decide +kernel
theorem dL_law_285 : decode cL_law 285 = .ok (.iadd, 1) := by decide +kernel
theorem dL_law_286 : decode cL_law 286 = .ok (.iaload, 1) := by decide +kernel
theorem dL_law_287 : decode cL_law 287 = .ok (.aload_n 0, 1) := by decide +kernel
theorem dL_law_288 : decode cL_law 288 = .ok (.iload_n 3, 1) := by decide +kernel
theorem dL_law_289 : decode cL_law 289 = .ok (.iconst 2, 1) := by decide +kernel
theorem dL_law_290 : decode cL_law 290 = .ok (.iadd, 1) := by decide +kernel
theorem dL_law_291 : decode cL_law 291 = .ok (.iaload, 1) := by decide +kernel
theorem dL_law_292 : decode cL_law 292 = .ok (.aload_n 0, 1) := by decide +kernel
theorem dL_law_293 : decode cL_law 293 = .ok (.iload_n 3, 1) := by decide +kernel
theorem dL_law_294 : decode cL_law 294 = .ok (.iconst 3, 1) := by decide +kernel
theorem dL_law_295 : decode cL_law 295 = .ok (.iadd, 1) := by decide +kernel
theorem dL_law_296 : decode cL_law 296 = .ok (.iaload, 1) := by decide +kernel
theorem dL_law_297 : decode cL_law 297 = .ok (.aload_n 0, 1) := by decide +kernel
theorem dL_law_298 : decode cL_law 298 = .ok (.iload_n 3, 1) := by decide +kernel
theorem dL_law_299 : decode cL_law 299 = .ok (.iconst 4, 1) := by decide +kernel
theorem dL_law_300 : decode cL_law 300 = .ok (.iadd, 1) := by decide +kernel
theorem dL_law_301 : decode cL_law 301 = .ok (.iaload, 1) := by decide +kernel
theorem dL_law_302 : decode cL_law 302 = .ok (.invokevirtual 32, 3) := by decide +kernel
theorem dL_law_305 : decode cL_law 305 = .ok (.if_icmp .eq 888, 3) := by decide +kernel
theorem dL_law_308 : decode cL_law 308 = .ok (.iconst 0, 1) := by decide +kernel
theorem dL_law_309 : decode cL_law 309 = .ok (.ireturn, 1) := by decide +kernel
theorem dL_law_310 : decode cL_law 310 = .ok (.aload_n 1, 1) := by decide +kernel
theorem dL_law_311 : decode cL_law 311 = .ok (.aload_n 0, 1) := by decide +kernel
theorem dL_law_312 : decode cL_law 312 = .ok (.iload_n 3, 1) := by decide +kernel
theorem dL_law_313 : decode cL_law 313 = .ok (.iconst 1, 1) := by decide +kernel
theorem dL_law_314 : decode cL_law 314 = .ok (.iadd, 1) := by decide +kernel
theorem dL_law_315 : decode cL_law 315 = .ok (.iaload, 1) := by decide +kernel
theorem dL_law_316 : decode cL_law 316 = .ok (.aload_n 0, 1) := by decide +kernel
theorem dL_law_317 : decode cL_law 317 = .ok (.iload_n 3, 1) := by decide +kernel
theorem dL_law_318 : decode cL_law 318 = .ok (.iconst 2, 1) := by decide +kernel
theorem dL_law_319 : decode cL_law 319 = .ok (.iadd, 1) := by decide +kernel
theorem dL_law_320 : decode cL_law 320 = .ok (.iaload, 1) := by decide +kernel
theorem dL_law_321 : decode cL_law 321 = .ok (.aload_n 0, 1) := by decide +kernel
theorem dL_law_322 : decode cL_law 322 = .ok (.iload_n 3, 1) := by decide +kernel
theorem dL_law_323 : decode cL_law 323 = .ok (.iconst 3, 1) := by decide +kernel
theorem dL_law_324 : decode cL_law 324 = .ok (.iadd, 1) := by decide +kernel
theorem dL_law_325 : decode cL_law 325 = .ok (.iaload, 1) := by decide +kernel
theorem dL_law_326 : decode cL_law 326 = .ok (.invokevirtual 33, 3) := by decide +kernel
theorem dL_law_329 : decode cL_law 329 = .ok (.aload_n 2, 1) := by decide +kernel
theorem dL_law_330 : decode cL_law 330 = .ok (.aload_n 0, 1) := by decide +kernel
theorem dL_law_331 : decode cL_law 331 = .ok (.iload_n 3, 1) := by decide +kernel
theorem dL_law_332 : decode cL_law 332 = .ok (.iconst 1, 1) := by decide +kernel
theorem dL_law_333 : decode cL_law 333 = .ok (.iadd, 1) := by decide +kernel
theorem dL_law_334 : decode cL_law 334 = .ok (.iaload, 1) := by decide +kernel
theorem dL_law_335 : decode cL_law 335 = .ok (.aload_n 0, 1) := by decide +kernel
theorem dL_law_336 : decode cL_law 336 = .ok (.iload_n 3, 1) := by decide +kernel
theorem dL_law_337 : decode cL_law 337 = .ok (.iconst 2, 1) := by decide +kernel
theorem dL_law_338 : decode cL_law 338 = .ok (.iadd, 1) := by decide +kernel
theorem dL_law_339 : decode cL_law 339 = .ok (.iaload, 1) := by decide +kernel
theorem dL_law_340 : decode cL_law 340 = .ok (.aload_n 0, 1) := by decide +kernel
theorem dL_law_341 : decode cL_law 341 = .ok (.iload_n 3, 1) := by decide +kernel
theorem dL_law_342 : decode cL_law 342 = .ok (.iconst 3, 1) := by decide +kernel
theorem dL_law_343 : decode cL_law 343 = .ok (.iadd, 1) := by decide +kernel
theorem dL_law_344 : decode cL_law 344 = .ok (.iaload, 1) := by decide +kernel
theorem dL_law_345 : decode cL_law 345 = .ok (.invokevirtual 37, 3) := by decide +kernel
theorem dL_law_348 : decode cL_law 348 = .ok (.if_icmp .eq 845, 3) := by decide +kernel
theorem dL_law_351 : decode cL_law 351 = .ok (.iconst 0, 1) := by decide +kernel
theorem dL_law_352 : decode cL_law 352 = .ok (.ireturn, 1) := by decide +kernel
theorem dL_law_353 : decode cL_law 353 = .ok (.aload_n 1, 1) := by decide +kernel
theorem dL_law_354 : decode cL_law 354 = .ok (.aload_n 0, 1) := by decide +kernel
theorem dL_law_355 : decode cL_law 355 = .ok (.iload_n 3, 1) := by decide +kernel
theorem dL_law_356 : decode cL_law 356 = .ok (.iconst 1, 1) := by decide +kernel
theorem dL_law_357 : decode cL_law 357 = .ok (.iadd, 1) := by decide +kernel
theorem dL_law_358 : decode cL_law 358 = .ok (.iaload, 1) := by decide +kernel
theorem dL_law_359 : decode cL_law 359 = .ok (.invokevirtual 38, 3) := by decide +kernel
theorem dL_law_362 : decode cL_law 362 = .ok (.aload_n 2, 1) := by decide +kernel
theorem dL_law_363 : decode cL_law 363 = .ok (.aload_n 0, 1) := by decide +kernel
theorem dL_law_364 : decode cL_law 364 = .ok (.iload_n 3, 1) := by decide +kernel
theorem dL_law_365 : decode cL_law 365 = .ok (.iconst 1, 1) := by decide +kernel
theorem dL_law_366 : decode cL_law 366 = .ok (.iadd, 1) := by decide +kernel
theorem dL_law_367 : decode cL_law 367 = .ok (.iaload, 1) := by decide +kernel
theorem dL_law_368 : decode cL_law 368 = .ok (.invokevirtual 42, 3) := by decide +kernel
theorem dL_law_371 : decode cL_law 371 = .ok (.if_icmp .eq 822, 3) := by decide +kernel
theorem dL_law_374 : decode cL_law 374 = .ok (.iconst 0, 1) := by decide +kernel
theorem dL_law_375 : decode cL_law 375 = .ok (.ireturn, 1) := by decide +kernel
theorem dL_law_376 : decode cL_law 376 = .ok (.aload_n 1, 1) := by decide +kernel
theorem dL_law_377 : decode cL_law 377 = .ok (.aload_n 0, 1) := by decide +kernel
theorem dL_law_378 : decode cL_law 378 = .ok (.iload_n 3, 1) := by decide +kernel
theorem dL_law_379 : decode cL_law 379 = .ok (.iconst 1, 1) := by decide +kernel
theorem dL_law_380 : decode cL_law 380 = .ok (.iadd, 1) := by decide +kernel
theorem dL_law_381 : decode cL_law 381 = .ok (.iaload, 1) := by decide +kernel
theorem dL_law_382 : decode cL_law 382 = .ok (.aload_n 0, 1) := by decide +kernel
theorem dL_law_383 : decode cL_law 383 = .ok (.iload_n 3, 1) := by decide +kernel
theorem dL_law_384 : decode cL_law 384 = .ok (.iconst 2, 1) := by decide +kernel
theorem dL_law_385 : decode cL_law 385 = .ok (.iadd, 1) := by decide +kernel
theorem dL_law_386 : decode cL_law 386 = .ok (.iaload, 1) := by decide +kernel
theorem dL_law_387 : decode cL_law 387 = .ok (.invokevirtual 43, 3) := by decide +kernel
theorem dL_law_390 : decode cL_law 390 = .ok (.aload_n 2, 1) := by decide +kernel
theorem dL_law_391 : decode cL_law 391 = .ok (.aload_n 0, 1) := by decide +kernel
theorem dL_law_392 : decode cL_law 392 = .ok (.iload_n 3, 1) := by decide +kernel
theorem dL_law_393 : decode cL_law 393 = .ok (.iconst 1, 1) := by decide +kernel
theorem dL_law_394 : decode cL_law 394 = .ok (.iadd, 1) := by decide +kernel
theorem dL_law_395 : decode cL_law 395 = .ok (.iaload, 1) := by decide +kernel
theorem dL_law_396 : decode cL_law 396 = .ok (.aload_n 0, 1) := by decide +kernel
theorem dL_law_397 : decode cL_law 397 = .ok (.iload_n 3, 1) := by decide +kernel
theorem dL_law_398 : decode cL_law 398 = .ok (.iconst 2, 1) := by decide +kernel
theorem dL_law_399 : decode cL_law 399 = .ok (.iadd, 1) := by decide +kernel
theorem dL_law_400 : decode cL_law 400 = .ok (.iaload, 1) := by decide +kernel
theorem dL_law_401 : decode cL_law 401 = .ok (.invokevirtual 46, 3) := by decide +kernel
theorem dL_law_404 : decode cL_law 404 = .ok (.if_icmp .eq 789, 3) := by decide +kernel
theorem dL_law_407 : decode cL_law 407 = .ok (.iconst 0, 1) := by decide +kernel
theorem dL_law_408 : decode cL_law 408 = .ok (.ireturn, 1) := by decide +kernel
theorem dL_law_409 : decode cL_law 409 = .ok (.aload_n 1, 1) := by decide +kernel
theorem dL_law_410 : decode cL_law 410 = .ok (.aload_n 0, 1) := by decide +kernel
theorem dL_law_411 : decode cL_law 411 = .ok (.iload_n 3, 1) := by decide +kernel
theorem dL_law_412 : decode cL_law 412 = .ok (.iconst 1, 1) := by decide +kernel
theorem dL_law_413 : decode cL_law 413 = .ok (.iadd, 1) := by decide +kernel
theorem dL_law_414 : decode cL_law 414 = .ok (.iaload, 1) := by decide +kernel
theorem dL_law_415 : decode cL_law 415 = .ok (.aload_n 0, 1) := by decide +kernel
theorem dL_law_416 : decode cL_law 416 = .ok (.iload_n 3, 1) := by decide +kernel
theorem dL_law_417 : decode cL_law 417 = .ok (.iconst 2, 1) := by decide +kernel
theorem dL_law_418 : decode cL_law 418 = .ok (.iadd, 1) := by decide +kernel
theorem dL_law_419 : decode cL_law 419 = .ok (.iaload, 1) := by decide +kernel
theorem dL_law_420 : decode cL_law 420 = .ok (.aload_n 0, 1) := by decide +kernel
theorem dL_law_421 : decode cL_law 421 = .ok (.iload_n 3, 1) := by decide +kernel
theorem dL_law_422 : decode cL_law 422 = .ok (.iconst 3, 1) := by decide +kernel
theorem dL_law_423 : decode cL_law 423 = .ok (.iadd, 1) := by decide +kernel
theorem dL_law_424 : decode cL_law 424 = .ok (.iaload, 1) := by decide +kernel
theorem dL_law_425 : decode cL_law 425 = .ok (.aload_n 0, 1) := by decide +kernel
theorem dL_law_426 : decode cL_law 426 = .ok (.iload_n 3, 1) := by decide +kernel
theorem dL_law_427 : decode cL_law 427 = .ok (.iconst 4, 1) := by decide +kernel
theorem dL_law_428 : decode cL_law 428 = .ok (.iadd, 1) := by decide +kernel
theorem dL_law_429 : decode cL_law 429 = .ok (.iaload, 1) := by decide +kernel
theorem dL_law_430 : decode cL_law 430 = .ok (.invokevirtual 47, 3) := by decide +kernel
theorem dL_law_433 : decode cL_law 433 = .ok (.aload_n 2, 1) := by decide +kernel
theorem dL_law_434 : decode cL_law 434 = .ok (.aload_n 0, 1) := by decide +kernel
theorem dL_law_435 : decode cL_law 435 = .ok (.iload_n 3, 1) := by decide +kernel
theorem dL_law_436 : decode cL_law 436 = .ok (.iconst 1, 1) := by decide +kernel
theorem dL_law_437 : decode cL_law 437 = .ok (.iadd, 1) := by decide +kernel
theorem dL_law_438 : decode cL_law 438 = .ok (.iaload, 1) := by decide +kernel
theorem dL_law_439 : decode cL_law 439 = .ok (.aload_n 0, 1) := by decide +kernel
theorem dL_law_440 : decode cL_law 440 = .ok (.iload_n 3, 1) := by decide +kernel
theorem dL_law_441 : decode cL_law 441 = .ok (.iconst 2, 1) := by decide +kernel
theorem dL_law_442 : decode cL_law 442 = .ok (.iadd, 1) := by decide +kernel
theorem dL_law_443 : decode cL_law 443 = .ok (.iaload, 1) := by decide +kernel
theorem dL_law_444 : decode cL_law 444 = .ok (.aload_n 0, 1) := by decide +kernel
theorem dL_law_445 : decode cL_law 445 = .ok (.iload_n 3, 1) := by decide +kernel
theorem dL_law_446 : decode cL_law 446 = .ok (.iconst 3, 1) := by decide +kernel
theorem dL_law_447 : decode cL_law 447 = .ok (.iadd, 1) := by decide +kernel
theorem dL_law_448 : decode cL_law 448 = .ok (.iaload, 1) := by decide +kernel
theorem dL_law_449 : decode cL_law 449 = .ok (.aload_n 0, 1) := by decide +kernel
theorem dL_law_450 : decode cL_law 450 = .ok (.iload_n 3, 1) := by decide +kernel
theorem dL_law_451 : decode cL_law 451 = .ok (.iconst 4, 1) := by decide +kernel
theorem dL_law_452 : decode cL_law 452 = .ok (.iadd, 1) := by decide +kernel
theorem dL_law_453 : decode cL_law 453 = .ok (.iaload, 1) := by decide +kernel
theorem dL_law_454 : decode cL_law 454 = .ok (.invokevirtual 51, 3) := by decide +kernel
theorem dL_law_457 : decode cL_law 457 = .ok (.lcmp, 1) := by decide +kernel
theorem dL_law_458 : decode cL_law 458 = .ok (.ifCond .eq 735, 3) := by decide +kernel
theorem dL_law_461 : decode cL_law 461 = .ok (.iconst 0, 1) := by decide +kernel
theorem dL_law_462 : decode cL_law 462 = .ok (.ireturn, 1) := by decide +kernel
theorem dL_law_463 : decode cL_law 463 = .ok (.aload_n 1, 1) := by decide +kernel
theorem dL_law_464 : decode cL_law 464 = .ok (.aload_n 0, 1) := by decide +kernel
theorem dL_law_465 : decode cL_law 465 = .ok (.iload_n 3, 1) := by decide +kernel
theorem dL_law_466 : decode cL_law 466 = .ok (.iconst 1, 1) := by decide +kernel
theorem dL_law_467 : decode cL_law 467 = .ok (.iadd, 1) := by decide +kernel
theorem dL_law_468 : decode cL_law 468 = .ok (.iaload, 1) := by decide +kernel
theorem dL_law_469 : decode cL_law 469 = .ok (.aload_n 0, 1) := by decide +kernel
theorem dL_law_470 : decode cL_law 470 = .ok (.iload_n 3, 1) := by decide +kernel
theorem dL_law_471 : decode cL_law 471 = .ok (.iconst 2, 1) := by decide +kernel
theorem dL_law_472 : decode cL_law 472 = .ok (.iadd, 1) := by decide +kernel
theorem dL_law_473 : decode cL_law 473 = .ok (.iaload, 1) := by decide +kernel
theorem dL_law_474 : decode cL_law 474 = .ok (.aload_n 0, 1) := by decide +kernel
theorem dL_law_475 : decode cL_law 475 = .ok (.iload_n 3, 1) := by decide +kernel
theorem dL_law_476 : decode cL_law 476 = .ok (.iconst 3, 1) := by decide +kernel
theorem dL_law_477 : decode cL_law 477 = .ok (.iadd, 1) := by decide +kernel
theorem dL_law_478 : decode cL_law 478 = .ok (.iaload, 1) := by decide +kernel
theorem dL_law_479 : decode cL_law 479 = .ok (.aload_n 0, 1) := by decide +kernel
theorem dL_law_480 : decode cL_law 480 = .ok (.iload_n 3, 1) := by decide +kernel
theorem dL_law_481 : decode cL_law 481 = .ok (.iconst 4, 1) := by decide +kernel
theorem dL_law_482 : decode cL_law 482 = .ok (.iadd, 1) := by decide +kernel
theorem dL_law_483 : decode cL_law 483 = .ok (.iaload, 1) := by decide +kernel
theorem dL_law_484 : decode cL_law 484 = .ok (.aload_n 0, 1) := by decide +kernel
theorem dL_law_485 : decode cL_law 485 = .ok (.iload_n 3, 1) := by decide +kernel
theorem dL_law_486 : decode cL_law 486 = .ok (.iconst 5, 1) := by decide +kernel
theorem dL_law_487 : decode cL_law 487 = .ok (.iadd, 1) := by decide +kernel
theorem dL_law_488 : decode cL_law 488 = .ok (.iaload, 1) := by decide +kernel
theorem dL_law_489 : decode cL_law 489 = .ok (.aload_n 0, 1) := by decide +kernel
theorem dL_law_490 : decode cL_law 490 = .ok (.iload_n 3, 1) := by decide +kernel
theorem dL_law_491 : decode cL_law 491 = .ok (.bipush 6, 2) := by decide +kernel
theorem dL_law_493 : decode cL_law 493 = .ok (.iadd, 1) := by decide +kernel
theorem dL_law_494 : decode cL_law 494 = .ok (.iaload, 1) := by decide +kernel
theorem dL_law_495 : decode cL_law 495 = .ok (.aload_n 0, 1) := by decide +kernel
theorem dL_law_496 : decode cL_law 496 = .ok (.iload_n 3, 1) := by decide +kernel
theorem dL_law_497 : decode cL_law 497 = .ok (.bipush 7, 2) := by decide +kernel
theorem dL_law_499 : decode cL_law 499 = .ok (.iadd, 1) := by decide +kernel
theorem dL_law_500 : decode cL_law 500 = .ok (.iaload, 1) := by decide +kernel
theorem dL_law_501 : decode cL_law 501 = .ok (.invokevirtual 52, 3) := by decide +kernel
theorem dL_law_504 : decode cL_law 504 = .ok (.aload_n 2, 1) := by decide +kernel
theorem dL_law_505 : decode cL_law 505 = .ok (.aload_n 0, 1) := by decide +kernel
theorem dL_law_506 : decode cL_law 506 = .ok (.iload_n 3, 1) := by decide +kernel
theorem dL_law_507 : decode cL_law 507 = .ok (.iconst 1, 1) := by decide +kernel
theorem dL_law_508 : decode cL_law 508 = .ok (.iadd, 1) := by decide +kernel
theorem dL_law_509 : decode cL_law 509 = .ok (.iaload, 1) := by decide +kernel
theorem dL_law_510 : decode cL_law 510 = .ok (.aload_n 0, 1) := by decide +kernel
theorem dL_law_511 : decode cL_law 511 = .ok (.iload_n 3, 1) := by decide +kernel
theorem dL_law_512 : decode cL_law 512 = .ok (.iconst 2, 1) := by decide +kernel
theorem dL_law_513 : decode cL_law 513 = .ok (.iadd, 1) := by decide +kernel
theorem dL_law_514 : decode cL_law 514 = .ok (.iaload, 1) := by decide +kernel
theorem dL_law_515 : decode cL_law 515 = .ok (.aload_n 0, 1) := by decide +kernel
theorem dL_law_516 : decode cL_law 516 = .ok (.iload_n 3, 1) := by decide +kernel
theorem dL_law_517 : decode cL_law 517 = .ok (.iconst 3, 1) := by decide +kernel
theorem dL_law_518 : decode cL_law 518 = .ok (.iadd, 1) := by decide +kernel
theorem dL_law_519 : decode cL_law 519 = .ok (.iaload, 1) := by decide +kernel
theorem dL_law_520 : decode cL_law 520 = .ok (.aload_n 0, 1) := by decide +kernel
theorem dL_law_521 : decode cL_law 521 = .ok (.iload_n 3, 1) := by decide +kernel
theorem dL_law_522 : decode cL_law 522 = .ok (.iconst 4, 1) := by decide +kernel
theorem dL_law_523 : decode cL_law 523 = .ok (.iadd, 1) := by decide +kernel
theorem dL_law_524 : decode cL_law 524 = .ok (.iaload, 1) := by decide +kernel
theorem dL_law_525 : decode cL_law 525 = .ok (.aload_n 0, 1) := by decide +kernel
theorem dL_law_526 : decode cL_law 526 = .ok (.iload_n 3, 1) := by decide +kernel
theorem dL_law_527 : decode cL_law 527 = .ok (.iconst 5, 1) := by decide +kernel
theorem dL_law_528 : decode cL_law 528 = .ok (.iadd, 1) := by decide +kernel
theorem dL_law_529 : decode cL_law 529 = .ok (.iaload, 1) := by decide +kernel
theorem dL_law_530 : decode cL_law 530 = .ok (.aload_n 0, 1) := by decide +kernel
theorem dL_law_531 : decode cL_law 531 = .ok (.iload_n 3, 1) := by decide +kernel
theorem dL_law_532 : decode cL_law 532 = .ok (.bipush 6, 2) := by decide +kernel
theorem dL_law_534 : decode cL_law 534 = .ok (.iadd, 1) := by decide +kernel
theorem dL_law_535 : decode cL_law 535 = .ok (.iaload, 1) := by decide +kernel
theorem dL_law_536 : decode cL_law 536 = .ok (.aload_n 0, 1) := by decide +kernel
theorem dL_law_537 : decode cL_law 537 = .ok (.iload_n 3, 1) := by decide +kernel
theorem dL_law_538 : decode cL_law 538 = .ok (.bipush 7, 2) := by decide +kernel
theorem dL_law_540 : decode cL_law 540 = .ok (.iadd, 1) := by decide +kernel
theorem dL_law_541 : decode cL_law 541 = .ok (.iaload, 1) := by decide +kernel
theorem dL_law_542 : decode cL_law 542 = .ok (.invokevirtual 56, 3) := by decide +kernel
theorem dL_law_545 : decode cL_law 545 = .ok (.lcmp, 1) := by decide +kernel
theorem dL_law_546 : decode cL_law 546 = .ok (.ifCond .eq 647, 3) := by decide +kernel
theorem dL_law_549 : decode cL_law 549 = .ok (.iconst 0, 1) := by decide +kernel
theorem dL_law_550 : decode cL_law 550 = .ok (.ireturn, 1) := by decide +kernel
theorem dL_law_551 : decode cL_law 551 = .ok (.aload_n 1, 1) := by decide +kernel
theorem dL_law_552 : decode cL_law 552 = .ok (.aload_n 0, 1) := by decide +kernel
theorem dL_law_553 : decode cL_law 553 = .ok (.iload_n 3, 1) := by decide +kernel
theorem dL_law_554 : decode cL_law 554 = .ok (.iconst 1, 1) := by decide +kernel
theorem dL_law_555 : decode cL_law 555 = .ok (.iadd, 1) := by decide +kernel
theorem dL_law_556 : decode cL_law 556 = .ok (.iaload, 1) := by decide +kernel
theorem dL_law_557 : decode cL_law 557 = .ok (.aload_n 0, 1) := by decide +kernel
theorem dL_law_558 : decode cL_law 558 = .ok (.iload_n 3, 1) := by decide +kernel
theorem dL_law_559 : decode cL_law 559 = .ok (.iconst 2, 1) := by decide +kernel
theorem dL_law_560 : decode cL_law 560 = .ok (.iadd, 1) := by decide +kernel
theorem dL_law_561 : decode cL_law 561 = .ok (.iaload, 1) := by decide +kernel
theorem dL_law_562 : decode cL_law 562 = .ok (.aload_n 0, 1) := by decide +kernel
theorem dL_law_563 : decode cL_law 563 = .ok (.iload_n 3, 1) := by decide +kernel
theorem dL_law_564 : decode cL_law 564 = .ok (.iconst 3, 1) := by decide +kernel
theorem dL_law_565 : decode cL_law 565 = .ok (.iadd, 1) := by decide +kernel
theorem dL_law_566 : decode cL_law 566 = .ok (.iaload, 1) := by decide +kernel
theorem dL_law_567 : decode cL_law 567 = .ok (.aload_n 0, 1) := by decide +kernel
theorem dL_law_568 : decode cL_law 568 = .ok (.iload_n 3, 1) := by decide +kernel
theorem dL_law_569 : decode cL_law 569 = .ok (.iconst 4, 1) := by decide +kernel
theorem dL_law_570 : decode cL_law 570 = .ok (.iadd, 1) := by decide +kernel
theorem dL_law_571 : decode cL_law 571 = .ok (.iaload, 1) := by decide +kernel
theorem dL_law_572 : decode cL_law 572 = .ok (.invokevirtual 57, 3) := by decide +kernel
theorem dL_law_575 : decode cL_law 575 = .ok (.aload_n 2, 1) := by decide +kernel
theorem dL_law_576 : decode cL_law 576 = .ok (.aload_n 0, 1) := by decide +kernel
theorem dL_law_577 : decode cL_law 577 = .ok (.iload_n 3, 1) := by decide +kernel
theorem dL_law_578 : decode cL_law 578 = .ok (.iconst 1, 1) := by decide +kernel
theorem dL_law_579 : decode cL_law 579 = .ok (.iadd, 1) := by decide +kernel
theorem dL_law_580 : decode cL_law 580 = .ok (.iaload, 1) := by decide +kernel
theorem dL_law_581 : decode cL_law 581 = .ok (.aload_n 0, 1) := by decide +kernel
theorem dL_law_582 : decode cL_law 582 = .ok (.iload_n 3, 1) := by decide +kernel
theorem dL_law_583 : decode cL_law 583 = .ok (.iconst 2, 1) := by decide +kernel
theorem dL_law_584 : decode cL_law 584 = .ok (.iadd, 1) := by decide +kernel
theorem dL_law_585 : decode cL_law 585 = .ok (.iaload, 1) := by decide +kernel
theorem dL_law_586 : decode cL_law 586 = .ok (.aload_n 0, 1) := by decide +kernel
theorem dL_law_587 : decode cL_law 587 = .ok (.iload_n 3, 1) := by decide +kernel
theorem dL_law_588 : decode cL_law 588 = .ok (.iconst 3, 1) := by decide +kernel
theorem dL_law_589 : decode cL_law 589 = .ok (.iadd, 1) := by decide +kernel
theorem dL_law_590 : decode cL_law 590 = .ok (.iaload, 1) := by decide +kernel
theorem dL_law_591 : decode cL_law 591 = .ok (.aload_n 0, 1) := by decide +kernel
theorem dL_law_592 : decode cL_law 592 = .ok (.iload_n 3, 1) := by decide +kernel
theorem dL_law_593 : decode cL_law 593 = .ok (.iconst 4, 1) := by decide +kernel
theorem dL_law_594 : decode cL_law 594 = .ok (.iadd, 1) := by decide +kernel
theorem dL_law_595 : decode cL_law 595 = .ok (.iaload, 1) := by decide +kernel
theorem dL_law_596 : decode cL_law 596 = .ok (.invokevirtual 60, 3) := by decide +kernel
theorem dL_law_599 : decode cL_law 599 = .ok (.if_icmp .eq 594, 3) := by decide +kernel
theorem dL_law_602 : decode cL_law 602 = .ok (.iconst 0, 1) := by decide +kernel
theorem dL_law_603 : decode cL_law 603 = .ok (.ireturn, 1) := by decide +kernel
theorem dL_law_604 : decode cL_law 604 = .ok (.aload_n 1, 1) := by decide +kernel
theorem dL_law_605 : decode cL_law 605 = .ok (.aload_n 0, 1) := by decide +kernel
theorem dL_law_606 : decode cL_law 606 = .ok (.iload_n 3, 1) := by decide +kernel
theorem dL_law_607 : decode cL_law 607 = .ok (.iconst 1, 1) := by decide +kernel
theorem dL_law_608 : decode cL_law 608 = .ok (.iadd, 1) := by decide +kernel
theorem dL_law_609 : decode cL_law 609 = .ok (.iaload, 1) := by decide +kernel
theorem dL_law_610 : decode cL_law 610 = .ok (.aload_n 0, 1) := by decide +kernel
theorem dL_law_611 : decode cL_law 611 = .ok (.iload_n 3, 1) := by decide +kernel
theorem dL_law_612 : decode cL_law 612 = .ok (.iconst 2, 1) := by decide +kernel
theorem dL_law_613 : decode cL_law 613 = .ok (.iadd, 1) := by decide +kernel
theorem dL_law_614 : decode cL_law 614 = .ok (.iaload, 1) := by decide +kernel
theorem dL_law_615 : decode cL_law 615 = .ok (.invokevirtual 61, 3) := by decide +kernel
theorem dL_law_618 : decode cL_law 618 = .ok (.aload_n 2, 1) := by decide +kernel
theorem dL_law_619 : decode cL_law 619 = .ok (.aload_n 0, 1) := by decide +kernel
theorem dL_law_620 : decode cL_law 620 = .ok (.iload_n 3, 1) := by decide +kernel
theorem dL_law_621 : decode cL_law 621 = .ok (.iconst 1, 1) := by decide +kernel
theorem dL_law_622 : decode cL_law 622 = .ok (.iadd, 1) := by decide +kernel
theorem dL_law_623 : decode cL_law 623 = .ok (.iaload, 1) := by decide +kernel
theorem dL_law_624 : decode cL_law 624 = .ok (.aload_n 0, 1) := by decide +kernel
theorem dL_law_625 : decode cL_law 625 = .ok (.iload_n 3, 1) := by decide +kernel
theorem dL_law_626 : decode cL_law 626 = .ok (.iconst 2, 1) := by decide +kernel
theorem dL_law_627 : decode cL_law 627 = .ok (.iadd, 1) := by decide +kernel
theorem dL_law_628 : decode cL_law 628 = .ok (.iaload, 1) := by decide +kernel
theorem dL_law_629 : decode cL_law 629 = .ok (.invokevirtual 64, 3) := by decide +kernel
theorem dL_law_632 : decode cL_law 632 = .ok (.if_icmp .eq 561, 3) := by decide +kernel
theorem dL_law_635 : decode cL_law 635 = .ok (.iconst 0, 1) := by decide +kernel
theorem dL_law_636 : decode cL_law 636 = .ok (.ireturn, 1) := by decide +kernel
theorem dL_law_637 : decode cL_law 637 = .ok (.aload_n 1, 1) := by decide +kernel
theorem dL_law_638 : decode cL_law 638 = .ok (.aload_n 0, 1) := by decide +kernel
theorem dL_law_639 : decode cL_law 639 = .ok (.iload_n 3, 1) := by decide +kernel
theorem dL_law_640 : decode cL_law 640 = .ok (.iconst 1, 1) := by decide +kernel
theorem dL_law_641 : decode cL_law 641 = .ok (.iadd, 1) := by decide +kernel
theorem dL_law_642 : decode cL_law 642 = .ok (.iaload, 1) := by decide +kernel
theorem dL_law_643 : decode cL_law 643 = .ok (.aload_n 0, 1) := by decide +kernel
theorem dL_law_644 : decode cL_law 644 = .ok (.iload_n 3, 1) := by decide +kernel
theorem dL_law_645 : decode cL_law 645 = .ok (.iconst 2, 1) := by decide +kernel
theorem dL_law_646 : decode cL_law 646 = .ok (.iadd, 1) := by decide +kernel
theorem dL_law_647 : decode cL_law 647 = .ok (.iaload, 1) := by decide +kernel
theorem dL_law_648 : decode cL_law 648 = .ok (.aload_n 0, 1) := by decide +kernel
theorem dL_law_649 : decode cL_law 649 = .ok (.iload_n 3, 1) := by decide +kernel
theorem dL_law_650 : decode cL_law 650 = .ok (.iconst 3, 1) := by decide +kernel
theorem dL_law_651 : decode cL_law 651 = .ok (.iadd, 1) := by decide +kernel
theorem dL_law_652 : decode cL_law 652 = .ok (.iaload, 1) := by decide +kernel
theorem dL_law_653 : decode cL_law 653 = .ok (.aload_n 0, 1) := by decide +kernel
theorem dL_law_654 : decode cL_law 654 = .ok (.iload_n 3, 1) := by decide +kernel
theorem dL_law_655 : decode cL_law 655 = .ok (.iconst 4, 1) := by decide +kernel
theorem dL_law_656 : decode cL_law 656 = .ok (.iadd, 1) := by decide +kernel
theorem dL_law_657 : decode cL_law 657 = .ok (.iaload, 1) := by decide +kernel
theorem dL_law_658 : decode cL_law 658 = .ok (.invokevirtual 65, 3) := by decide +kernel
theorem dL_law_661 : decode cL_law 661 = .ok (.aload_n 2, 1) := by decide +kernel
theorem dL_law_662 : decode cL_law 662 = .ok (.aload_n 0, 1) := by decide +kernel
theorem dL_law_663 : decode cL_law 663 = .ok (.iload_n 3, 1) := by decide +kernel
theorem dL_law_664 : decode cL_law 664 = .ok (.iconst 1, 1) := by decide +kernel
theorem dL_law_665 : decode cL_law 665 = .ok (.iadd, 1) := by decide +kernel
theorem dL_law_666 : decode cL_law 666 = .ok (.iaload, 1) := by decide +kernel
theorem dL_law_667 : decode cL_law 667 = .ok (.aload_n 0, 1) := by decide +kernel
theorem dL_law_668 : decode cL_law 668 = .ok (.iload_n 3, 1) := by decide +kernel
theorem dL_law_669 : decode cL_law 669 = .ok (.iconst 2, 1) := by decide +kernel
theorem dL_law_670 : decode cL_law 670 = .ok (.iadd, 1) := by decide +kernel
theorem dL_law_671 : decode cL_law 671 = .ok (.iaload, 1) := by decide +kernel
theorem dL_law_672 : decode cL_law 672 = .ok (.aload_n 0, 1) := by decide +kernel
theorem dL_law_673 : decode cL_law 673 = .ok (.iload_n 3, 1) := by decide +kernel
theorem dL_law_674 : decode cL_law 674 = .ok (.iconst 3, 1) := by decide +kernel
theorem dL_law_675 : decode cL_law 675 = .ok (.iadd, 1) := by decide +kernel
theorem dL_law_676 : decode cL_law 676 = .ok (.iaload, 1) := by decide +kernel
theorem dL_law_677 : decode cL_law 677 = .ok (.aload_n 0, 1) := by decide +kernel
theorem dL_law_678 : decode cL_law 678 = .ok (.iload_n 3, 1) := by decide +kernel
theorem dL_law_679 : decode cL_law 679 = .ok (.iconst 4, 1) := by decide +kernel
theorem dL_law_680 : decode cL_law 680 = .ok (.iadd, 1) := by decide +kernel
theorem dL_law_681 : decode cL_law 681 = .ok (.iaload, 1) := by decide +kernel
theorem dL_law_682 : decode cL_law 682 = .ok (.invokevirtual 68, 3) := by decide +kernel
theorem dL_law_685 : decode cL_law 685 = .ok (.lcmp, 1) := by decide +kernel
theorem dL_law_686 : decode cL_law 686 = .ok (.ifCond .eq 507, 3) := by decide +kernel
theorem dL_law_689 : decode cL_law 689 = .ok (.iconst 0, 1) := by decide +kernel
theorem dL_law_690 : decode cL_law 690 = .ok (.ireturn, 1) := by decide +kernel
theorem dL_law_691 : decode cL_law 691 = .ok (.aload_n 1, 1) := by decide +kernel
theorem dL_law_692 : decode cL_law 692 = .ok (.aload_n 0, 1) := by decide +kernel
theorem dL_law_693 : decode cL_law 693 = .ok (.iload_n 3, 1) := by decide +kernel
theorem dL_law_694 : decode cL_law 694 = .ok (.iconst 1, 1) := by decide +kernel
theorem dL_law_695 : decode cL_law 695 = .ok (.iadd, 1) := by decide +kernel
theorem dL_law_696 : decode cL_law 696 = .ok (.iaload, 1) := by decide +kernel
theorem dL_law_697 : decode cL_law 697 = .ok (.aload_n 0, 1) := by decide +kernel
theorem dL_law_698 : decode cL_law 698 = .ok (.iload_n 3, 1) := by decide +kernel
theorem dL_law_699 : decode cL_law 699 = .ok (.iconst 2, 1) := by decide +kernel
theorem dL_law_700 : decode cL_law 700 = .ok (.iadd, 1) := by decide +kernel
theorem dL_law_701 : decode cL_law 701 = .ok (.iaload, 1) := by decide +kernel
theorem dL_law_702 : decode cL_law 702 = .ok (.aload_n 0, 1) := by decide +kernel
theorem dL_law_703 : decode cL_law 703 = .ok (.iload_n 3, 1) := by decide +kernel
theorem dL_law_704 : decode cL_law 704 = .ok (.iconst 3, 1) := by decide +kernel
theorem dL_law_705 : decode cL_law 705 = .ok (.iadd, 1) := by decide +kernel
theorem dL_law_706 : decode cL_law 706 = .ok (.iaload, 1) := by decide +kernel
theorem dL_law_707 : decode cL_law 707 = .ok (.invokevirtual 69, 3) := by decide +kernel
theorem dL_law_710 : decode cL_law 710 = .ok (.aload_n 2, 1) := by decide +kernel
theorem dL_law_711 : decode cL_law 711 = .ok (.aload_n 0, 1) := by decide +kernel
theorem dL_law_712 : decode cL_law 712 = .ok (.iload_n 3, 1) := by decide +kernel
theorem dL_law_713 : decode cL_law 713 = .ok (.iconst 1, 1) := by decide +kernel
theorem dL_law_714 : decode cL_law 714 = .ok (.iadd, 1) := by decide +kernel
theorem dL_law_715 : decode cL_law 715 = .ok (.iaload, 1) := by decide +kernel
theorem dL_law_716 : decode cL_law 716 = .ok (.aload_n 0, 1) := by decide +kernel
theorem dL_law_717 : decode cL_law 717 = .ok (.iload_n 3, 1) := by decide +kernel
theorem dL_law_718 : decode cL_law 718 = .ok (.iconst 2, 1) := by decide +kernel
theorem dL_law_719 : decode cL_law 719 = .ok (.iadd, 1) := by decide +kernel
theorem dL_law_720 : decode cL_law 720 = .ok (.iaload, 1) := by decide +kernel
theorem dL_law_721 : decode cL_law 721 = .ok (.aload_n 0, 1) := by decide +kernel
theorem dL_law_722 : decode cL_law 722 = .ok (.iload_n 3, 1) := by decide +kernel
theorem dL_law_723 : decode cL_law 723 = .ok (.iconst 3, 1) := by decide +kernel
theorem dL_law_724 : decode cL_law 724 = .ok (.iadd, 1) := by decide +kernel
theorem dL_law_725 : decode cL_law 725 = .ok (.iaload, 1) := by decide +kernel
theorem dL_law_726 : decode cL_law 726 = .ok (.invokevirtual 72, 3) := by decide +kernel
theorem dL_law_729 : decode cL_law 729 = .ok (.if_icmp .eq 464, 3) := by decide +kernel
theorem dL_law_732 : decode cL_law 732 = .ok (.iconst 0, 1) := by decide +kernel
theorem dL_law_733 : decode cL_law 733 = .ok (.ireturn, 1) := by decide +kernel
theorem dL_law_734 : decode cL_law 734 = .ok (.aload_n 1, 1) := by decide +kernel
theorem dL_law_735 : decode cL_law 735 = .ok (.aload_n 0, 1) := by decide +kernel
theorem dL_law_736 : decode cL_law 736 = .ok (.iload_n 3, 1) := by decide +kernel
theorem dL_law_737 : decode cL_law 737 = .ok (.iconst 1, 1) := by decide +kernel
theorem dL_law_738 : decode cL_law 738 = .ok (.iadd, 1) := by decide +kernel
theorem dL_law_739 : decode cL_law 739 = .ok (.iaload, 1) := by decide +kernel
theorem dL_law_740 : decode cL_law 740 = .ok (.aload_n 0, 1) := by decide +kernel
theorem dL_law_741 : decode cL_law 741 = .ok (.iload_n 3, 1) := by decide +kernel
theorem dL_law_742 : decode cL_law 742 = .ok (.iconst 2, 1) := by decide +kernel
theorem dL_law_743 : decode cL_law 743 = .ok (.iadd, 1) := by decide +kernel
theorem dL_law_744 : decode cL_law 744 = .ok (.iaload, 1) := by decide +kernel
theorem dL_law_745 : decode cL_law 745 = .ok (.invokevirtual 73, 3) := by decide +kernel
theorem dL_law_748 : decode cL_law 748 = .ok (.aload_n 2, 1) := by decide +kernel
theorem dL_law_749 : decode cL_law 749 = .ok (.aload_n 0, 1) := by decide +kernel
theorem dL_law_750 : decode cL_law 750 = .ok (.iload_n 3, 1) := by decide +kernel
theorem dL_law_751 : decode cL_law 751 = .ok (.iconst 1, 1) := by decide +kernel
theorem dL_law_752 : decode cL_law 752 = .ok (.iadd, 1) := by decide +kernel
theorem dL_law_753 : decode cL_law 753 = .ok (.iaload, 1) := by decide +kernel
theorem dL_law_754 : decode cL_law 754 = .ok (.aload_n 0, 1) := by decide +kernel
theorem dL_law_755 : decode cL_law 755 = .ok (.iload_n 3, 1) := by decide +kernel
theorem dL_law_756 : decode cL_law 756 = .ok (.iconst 2, 1) := by decide +kernel
theorem dL_law_757 : decode cL_law 757 = .ok (.iadd, 1) := by decide +kernel
theorem dL_law_758 : decode cL_law 758 = .ok (.iaload, 1) := by decide +kernel
theorem dL_law_759 : decode cL_law 759 = .ok (.invokevirtual 76, 3) := by decide +kernel
theorem dL_law_762 : decode cL_law 762 = .ok (.if_icmp .eq 431, 3) := by decide +kernel
theorem dL_law_765 : decode cL_law 765 = .ok (.iconst 0, 1) := by decide +kernel
theorem dL_law_766 : decode cL_law 766 = .ok (.ireturn, 1) := by decide +kernel
theorem dL_law_767 : decode cL_law 767 = .ok (.aload_n 1, 1) := by decide +kernel
theorem dL_law_768 : decode cL_law 768 = .ok (.aload_n 0, 1) := by decide +kernel
theorem dL_law_769 : decode cL_law 769 = .ok (.iload_n 3, 1) := by decide +kernel
theorem dL_law_770 : decode cL_law 770 = .ok (.iconst 1, 1) := by decide +kernel
theorem dL_law_771 : decode cL_law 771 = .ok (.iadd, 1) := by decide +kernel
theorem dL_law_772 : decode cL_law 772 = .ok (.iaload, 1) := by decide +kernel
theorem dL_law_773 : decode cL_law 773 = .ok (.aload_n 0, 1) := by decide +kernel
theorem dL_law_774 : decode cL_law 774 = .ok (.iload_n 3, 1) := by decide +kernel
theorem dL_law_775 : decode cL_law 775 = .ok (.iconst 2, 1) := by decide +kernel
theorem dL_law_776 : decode cL_law 776 = .ok (.iadd, 1) := by decide +kernel
theorem dL_law_777 : decode cL_law 777 = .ok (.iaload, 1) := by decide +kernel
theorem dL_law_778 : decode cL_law 778 = .ok (.aload_n 0, 1) := by decide +kernel
theorem dL_law_779 : decode cL_law 779 = .ok (.iload_n 3, 1) := by decide +kernel
theorem dL_law_780 : decode cL_law 780 = .ok (.iconst 3, 1) := by decide +kernel
theorem dL_law_781 : decode cL_law 781 = .ok (.iadd, 1) := by decide +kernel
theorem dL_law_782 : decode cL_law 782 = .ok (.iaload, 1) := by decide +kernel
theorem dL_law_783 : decode cL_law 783 = .ok (.invokevirtual 77, 3) := by decide +kernel
theorem dL_law_786 : decode cL_law 786 = .ok (.aload_n 2, 1) := by decide +kernel
theorem dL_law_787 : decode cL_law 787 = .ok (.aload_n 0, 1) := by decide +kernel
theorem dL_law_788 : decode cL_law 788 = .ok (.iload_n 3, 1) := by decide +kernel
theorem dL_law_789 : decode cL_law 789 = .ok (.iconst 1, 1) := by decide +kernel
theorem dL_law_790 : decode cL_law 790 = .ok (.iadd, 1) := by decide +kernel
theorem dL_law_791 : decode cL_law 791 = .ok (.iaload, 1) := by decide +kernel
theorem dL_law_792 : decode cL_law 792 = .ok (.aload_n 0, 1) := by decide +kernel
theorem dL_law_793 : decode cL_law 793 = .ok (.iload_n 3, 1) := by decide +kernel
theorem dL_law_794 : decode cL_law 794 = .ok (.iconst 2, 1) := by decide +kernel
theorem dL_law_795 : decode cL_law 795 = .ok (.iadd, 1) := by decide +kernel
theorem dL_law_796 : decode cL_law 796 = .ok (.iaload, 1) := by decide +kernel
theorem dL_law_797 : decode cL_law 797 = .ok (.aload_n 0, 1) := by decide +kernel
theorem dL_law_798 : decode cL_law 798 = .ok (.iload_n 3, 1) := by decide +kernel
theorem dL_law_799 : decode cL_law 799 = .ok (.iconst 3, 1) := by decide +kernel
theorem dL_law_800 : decode cL_law 800 = .ok (.iadd, 1) := by decide +kernel
theorem dL_law_801 : decode cL_law 801 = .ok (.iaload, 1) := by decide +kernel
theorem dL_law_802 : decode cL_law 802 = .ok (.invokevirtual 81, 3) := by decide +kernel
theorem dL_law_805 : decode cL_law 805 = .ok (.lcmp, 1) := by decide +kernel
theorem dL_law_806 : decode cL_law 806 = .ok (.ifCond .eq 387, 3) := by decide +kernel
theorem dL_law_809 : decode cL_law 809 = .ok (.iconst 0, 1) := by decide +kernel
theorem dL_law_810 : decode cL_law 810 = .ok (.ireturn, 1) := by decide +kernel
theorem dL_law_811 : decode cL_law 811 = .ok (.aload_n 1, 1) := by decide +kernel
theorem dL_law_812 : decode cL_law 812 = .ok (.aload_n 0, 1) := by decide +kernel
theorem dL_law_813 : decode cL_law 813 = .ok (.iload_n 3, 1) := by decide +kernel
theorem dL_law_814 : decode cL_law 814 = .ok (.iconst 1, 1) := by decide +kernel
theorem dL_law_815 : decode cL_law 815 = .ok (.iadd, 1) := by decide +kernel
theorem dL_law_816 : decode cL_law 816 = .ok (.iaload, 1) := by decide +kernel
theorem dL_law_817 : decode cL_law 817 = .ok (.aload_n 0, 1) := by decide +kernel
theorem dL_law_818 : decode cL_law 818 = .ok (.iload_n 3, 1) := by decide +kernel
theorem dL_law_819 : decode cL_law 819 = .ok (.iconst 2, 1) := by decide +kernel
theorem dL_law_820 : decode cL_law 820 = .ok (.iadd, 1) := by decide +kernel
theorem dL_law_821 : decode cL_law 821 = .ok (.iaload, 1) := by decide +kernel
theorem dL_law_822 : decode cL_law 822 = .ok (.invokevirtual 82, 3) := by decide +kernel
theorem dL_law_825 : decode cL_law 825 = .ok (.aload_n 2, 1) := by decide +kernel
theorem dL_law_826 : decode cL_law 826 = .ok (.aload_n 0, 1) := by decide +kernel
theorem dL_law_827 : decode cL_law 827 = .ok (.iload_n 3, 1) := by decide +kernel
theorem dL_law_828 : decode cL_law 828 = .ok (.iconst 1, 1) := by decide +kernel
theorem dL_law_829 : decode cL_law 829 = .ok (.iadd, 1) := by decide +kernel
theorem dL_law_830 : decode cL_law 830 = .ok (.iaload, 1) := by decide +kernel
theorem dL_law_831 : decode cL_law 831 = .ok (.aload_n 0, 1) := by decide +kernel
theorem dL_law_832 : decode cL_law 832 = .ok (.iload_n 3, 1) := by decide +kernel
theorem dL_law_833 : decode cL_law 833 = .ok (.iconst 2, 1) := by decide +kernel
theorem dL_law_834 : decode cL_law 834 = .ok (.iadd, 1) := by decide +kernel
theorem dL_law_835 : decode cL_law 835 = .ok (.iaload, 1) := by decide +kernel
theorem dL_law_836 : decode cL_law 836 = .ok (.invokevirtual 85, 3) := by decide +kernel
theorem dL_law_839 : decode cL_law 839 = .ok (.if_icmp .eq 354, 3) := by decide +kernel
theorem dL_law_842 : decode cL_law 842 = .ok (.iconst 0, 1) := by decide +kernel
theorem dL_law_843 : decode cL_law 843 = .ok (.ireturn, 1) := by decide +kernel
theorem dL_law_844 : decode cL_law 844 = .ok (.aload_n 1, 1) := by decide +kernel
theorem dL_law_845 : decode cL_law 845 = .ok (.aload_n 0, 1) := by decide +kernel
theorem dL_law_846 : decode cL_law 846 = .ok (.iload_n 3, 1) := by decide +kernel
theorem dL_law_847 : decode cL_law 847 = .ok (.iconst 1, 1) := by decide +kernel
theorem dL_law_848 : decode cL_law 848 = .ok (.iadd, 1) := by decide +kernel
theorem dL_law_849 : decode cL_law 849 = .ok (.iaload, 1) := by decide +kernel
theorem dL_law_850 : decode cL_law 850 = .ok (.aload_n 0, 1) := by decide +kernel
theorem dL_law_851 : decode cL_law 851 = .ok (.iload_n 3, 1) := by decide +kernel
theorem dL_law_852 : decode cL_law 852 = .ok (.iconst 2, 1) := by decide +kernel
theorem dL_law_853 : decode cL_law 853 = .ok (.iadd, 1) := by decide +kernel
theorem dL_law_854 : decode cL_law 854 = .ok (.iaload, 1) := by decide +kernel
theorem dL_law_855 : decode cL_law 855 = .ok (.aload_n 0, 1) := by decide +kernel
theorem dL_law_856 : decode cL_law 856 = .ok (.iload_n 3, 1) := by decide +kernel
theorem dL_law_857 : decode cL_law 857 = .ok (.iconst 3, 1) := by decide +kernel
theorem dL_law_858 : decode cL_law 858 = .ok (.iadd, 1) := by decide +kernel
theorem dL_law_859 : decode cL_law 859 = .ok (.iaload, 1) := by decide +kernel
theorem dL_law_860 : decode cL_law 860 = .ok (.aload_n 0, 1) := by decide +kernel
theorem dL_law_861 : decode cL_law 861 = .ok (.iload_n 3, 1) := by decide +kernel
theorem dL_law_862 : decode cL_law 862 = .ok (.iconst 4, 1) := by decide +kernel
theorem dL_law_863 : decode cL_law 863 = .ok (.iadd, 1) := by decide +kernel
theorem dL_law_864 : decode cL_law 864 = .ok (.iaload, 1) := by decide +kernel
theorem dL_law_865 : decode cL_law 865 = .ok (.aload_n 0, 1) := by decide +kernel
theorem dL_law_866 : decode cL_law 866 = .ok (.iload_n 3, 1) := by decide +kernel
theorem dL_law_867 : decode cL_law 867 = .ok (.iconst 5, 1) := by decide +kernel
theorem dL_law_868 : decode cL_law 868 = .ok (.iadd, 1) := by decide +kernel
theorem dL_law_869 : decode cL_law 869 = .ok (.iaload, 1) := by decide +kernel
theorem dL_law_870 : decode cL_law 870 = .ok (.invokevirtual 86, 3) := by decide +kernel
theorem dL_law_873 : decode cL_law 873 = .ok (.aload_n 2, 1) := by decide +kernel
theorem dL_law_874 : decode cL_law 874 = .ok (.aload_n 0, 1) := by decide +kernel
theorem dL_law_875 : decode cL_law 875 = .ok (.iload_n 3, 1) := by decide +kernel
theorem dL_law_876 : decode cL_law 876 = .ok (.iconst 1, 1) := by decide +kernel
theorem dL_law_877 : decode cL_law 877 = .ok (.iadd, 1) := by decide +kernel
theorem dL_law_878 : decode cL_law 878 = .ok (.iaload, 1) := by decide +kernel
theorem dL_law_879 : decode cL_law 879 = .ok (.aload_n 0, 1) := by decide +kernel
theorem dL_law_880 : decode cL_law 880 = .ok (.iload_n 3, 1) := by decide +kernel
theorem dL_law_881 : decode cL_law 881 = .ok (.iconst 2, 1) := by decide +kernel
theorem dL_law_882 : decode cL_law 882 = .ok (.iadd, 1) := by decide +kernel
theorem dL_law_883 : decode cL_law 883 = .ok (.iaload, 1) := by decide +kernel
theorem dL_law_884 : decode cL_law 884 = .ok (.aload_n 0, 1) := by decide +kernel
theorem dL_law_885 : decode cL_law 885 = .ok (.iload_n 3, 1) := by decide +kernel
theorem dL_law_886 : decode cL_law 886 = .ok (.iconst 3, 1) := by decide +kernel
theorem dL_law_887 : decode cL_law 887 = .ok (.iadd, 1) := by decide +kernel
theorem dL_law_888 : decode cL_law 888 = .ok (.iaload, 1) := by decide +kernel
theorem dL_law_889 : decode cL_law 889 = .ok (.aload_n 0, 1) := by decide +kernel
theorem dL_law_890 : decode cL_law 890 = .ok (.iload_n 3, 1) := by decide +kernel
theorem dL_law_891 : decode cL_law 891 = .ok (.iconst 4, 1) := by decide +kernel
theorem dL_law_892 : decode cL_law 892 = .ok (.iadd, 1) := by decide +kernel
theorem dL_law_893 : decode cL_law 893 = .ok (.iaload, 1) := by decide +kernel
theorem dL_law_894 : decode cL_law 894 = .ok (.aload_n 0, 1) := by decide +kernel
theorem dL_law_895 : decode cL_law 895 = .ok (.iload_n 3, 1) := by decide +kernel
theorem dL_law_896 : decode cL_law 896 = .ok (.iconst 5, 1) := by decide +kernel
theorem dL_law_897 : decode cL_law 897 = .ok (.iadd, 1) := by decide +kernel
theorem dL_law_898 : decode cL_law 898 = .ok (.iaload, 1) := by decide +kernel
theorem dL_law_899 : decode cL_law 899 = .ok (.invokevirtual 90, 3) := by decide +kernel
theorem dL_law_902 : decode cL_law 902 = .ok (.lcmp, 1) := by decide +kernel
theorem dL_law_903 : decode cL_law 903 = .ok (.ifCond .eq 290, 3) := by decide +kernel
theorem dL_law_906 : decode cL_law 906 = .ok (.iconst 0, 1) := by decide +kernel
theorem dL_law_907 : decode cL_law 907 = .ok (.ireturn, 1) := by decide +kernel
theorem dL_law_908 : decode cL_law 908 = .ok (.aload_n 1, 1) := by decide +kernel
theorem dL_law_909 : decode cL_law 909 = .ok (.aload_n 0, 1) := by decide +kernel
theorem dL_law_910 : decode cL_law 910 = .ok (.iload_n 3, 1) := by decide +kernel
theorem dL_law_911 : decode cL_law 911 = .ok (.iconst 1, 1) := by decide +kernel
theorem dL_law_912 : decode cL_law 912 = .ok (.iadd, 1) := by decide +kernel
theorem dL_law_913 : decode cL_law 913 = .ok (.iaload, 1) := by decide +kernel
theorem dL_law_914 : decode cL_law 914 = .ok (.aload_n 0, 1) := by decide +kernel
theorem dL_law_915 : decode cL_law 915 = .ok (.iload_n 3, 1) := by decide +kernel
theorem dL_law_916 : decode cL_law 916 = .ok (.iconst 2, 1) := by decide +kernel
theorem dL_law_917 : decode cL_law 917 = .ok (.iadd, 1) := by decide +kernel
theorem dL_law_918 : decode cL_law 918 = .ok (.iaload, 1) := by decide +kernel
theorem dL_law_919 : decode cL_law 919 = .ok (.invokevirtual 91, 3) := by decide +kernel
theorem dL_law_922 : decode cL_law 922 = .ok (.aload_n 2, 1) := by decide +kernel
theorem dL_law_923 : decode cL_law 923 = .ok (.aload_n 0, 1) := by decide +kernel
theorem dL_law_924 : decode cL_law 924 = .ok (.iload_n 3, 1) := by decide +kernel
theorem dL_law_925 : decode cL_law 925 = .ok (.iconst 1, 1) := by decide +kernel
theorem dL_law_926 : decode cL_law 926 = .ok (.iadd, 1) := by decide +kernel
theorem dL_law_927 : decode cL_law 927 = .ok (.iaload, 1) := by decide +kernel
theorem dL_law_928 : decode cL_law 928 = .ok (.aload_n 0, 1) := by decide +kernel
theorem dL_law_929 : decode cL_law 929 = .ok (.iload_n 3, 1) := by decide +kernel
theorem dL_law_930 : decode cL_law 930 = .ok (.iconst 2, 1) := by decide +kernel
theorem dL_law_931 : decode cL_law 931 = .ok (.iadd, 1) := by decide +kernel
theorem dL_law_932 : decode cL_law 932 = .ok (.iaload, 1) := by decide +kernel
theorem dL_law_933 : decode cL_law 933 = .ok (.invokevirtual 94, 3) := by decide +kernel
theorem dL_law_936 : decode cL_law 936 = .ok (.if_icmp .eq 257, 3) := by decide +kernel
theorem dL_law_939 : decode cL_law 939 = .ok (.iconst 0, 1) := by decide +kernel
theorem dL_law_940 : decode cL_law 940 = .ok (.ireturn, 1) := by decide +kernel
theorem dL_law_941 : decode cL_law 941 = .ok (.aload_n 1, 1) := by decide +kernel
theorem dL_law_942 : decode cL_law 942 = .ok (.aload_n 0, 1) := by decide +kernel
theorem dL_law_943 : decode cL_law 943 = .ok (.iload_n 3, 1) := by decide +kernel
theorem dL_law_944 : decode cL_law 944 = .ok (.iconst 1, 1) := by decide +kernel
theorem dL_law_945 : decode cL_law 945 = .ok (.iadd, 1) := by decide +kernel
theorem dL_law_946 : decode cL_law 946 = .ok (.iaload, 1) := by decide +kernel
theorem dL_law_947 : decode cL_law 947 = .ok (.aload_n 0, 1) := by decide +kernel
theorem dL_law_948 : decode cL_law 948 = .ok (.iload_n 3, 1) := by decide +kernel
theorem dL_law_949 : decode cL_law 949 = .ok (.iconst 2, 1) := by decide +kernel
theorem dL_law_950 : decode cL_law 950 = .ok (.iadd, 1) := by decide +kernel
theorem dL_law_951 : decode cL_law 951 = .ok (.iaload, 1) := by decide +kernel
theorem dL_law_952 : decode cL_law 952 = .ok (.aload_n 0, 1) := by decide +kernel
theorem dL_law_953 : decode cL_law 953 = .ok (.iload_n 3, 1) := by decide +kernel
theorem dL_law_954 : decode cL_law 954 = .ok (.iconst 3, 1) := by decide +kernel
theorem dL_law_955 : decode cL_law 955 = .ok (.iadd, 1) := by decide +kernel
theorem dL_law_956 : decode cL_law 956 = .ok (.iaload, 1) := by decide +kernel
theorem dL_law_957 : decode cL_law 957 = .ok (.aload_n 0, 1) := by decide +kernel
theorem dL_law_958 : decode cL_law 958 = .ok (.iload_n 3, 1) := by decide +kernel
theorem dL_law_959 : decode cL_law 959 = .ok (.iconst 4, 1) := by decide +kernel
theorem dL_law_960 : decode cL_law 960 = .ok (.iadd, 1) := by decide +kernel
theorem dL_law_961 : decode cL_law 961 = .ok (.iaload, 1) := by decide +kernel
theorem dL_law_962 : decode cL_law 962 = .ok (.aload_n 0, 1) := by decide +kernel
theorem dL_law_963 : decode cL_law 963 = .ok (.iload_n 3, 1) := by decide +kernel
theorem dL_law_964 : decode cL_law 964 = .ok (.iconst 5, 1) := by decide +kernel
theorem dL_law_965 : decode cL_law 965 = .ok (.iadd, 1) := by decide +kernel
theorem dL_law_966 : decode cL_law 966 = .ok (.iaload, 1) := by decide +kernel
theorem dL_law_967 : decode cL_law 967 = .ok (.invokevirtual 95, 3) := by decide +kernel
theorem dL_law_970 : decode cL_law 970 = .ok (.aload_n 2, 1) := by decide +kernel
theorem dL_law_971 : decode cL_law 971 = .ok (.aload_n 0, 1) := by decide +kernel
theorem dL_law_972 : decode cL_law 972 = .ok (.iload_n 3, 1) := by decide +kernel
theorem dL_law_973 : decode cL_law 973 = .ok (.iconst 1, 1) := by decide +kernel
theorem dL_law_974 : decode cL_law 974 = .ok (.iadd, 1) := by decide +kernel
theorem dL_law_975 : decode cL_law 975 = .ok (.iaload, 1) := by decide +kernel
theorem dL_law_976 : decode cL_law 976 = .ok (.aload_n 0, 1) := by decide +kernel
theorem dL_law_977 : decode cL_law 977 = .ok (.iload_n 3, 1) := by decide +kernel
theorem dL_law_978 : decode cL_law 978 = .ok (.iconst 2, 1) := by decide +kernel
theorem dL_law_979 : decode cL_law 979 = .ok (.iadd, 1) := by decide +kernel
theorem dL_law_980 : decode cL_law 980 = .ok (.iaload, 1) := by decide +kernel
theorem dL_law_981 : decode cL_law 981 = .ok (.aload_n 0, 1) := by decide +kernel
theorem dL_law_982 : decode cL_law 982 = .ok (.iload_n 3, 1) := by decide +kernel
theorem dL_law_983 : decode cL_law 983 = .ok (.iconst 3, 1) := by decide +kernel
theorem dL_law_984 : decode cL_law 984 = .ok (.iadd, 1) := by decide +kernel
theorem dL_law_985 : decode cL_law 985 = .ok (.iaload, 1) := by decide +kernel
theorem dL_law_986 : decode cL_law 986 = .ok (.aload_n 0, 1) := by decide +kernel
theorem dL_law_987 : decode cL_law 987 = .ok (.iload_n 3, 1) := by decide +kernel
theorem dL_law_988 : decode cL_law 988 = .ok (.iconst 4, 1) := by decide +kernel
theorem dL_law_989 : decode cL_law 989 = .ok (.iadd, 1) := by decide +kernel
theorem dL_law_990 : decode cL_law 990 = .ok (.iaload, 1) := by decide +kernel
theorem dL_law_991 : decode cL_law 991 = .ok (.aload_n 0, 1) := by decide +kernel
theorem dL_law_992 : decode cL_law 992 = .ok (.iload_n 3, 1) := by decide +kernel
theorem dL_law_993 : decode cL_law 993 = .ok (.iconst 5, 1) := by decide +kernel
theorem dL_law_994 : decode cL_law 994 = .ok (.iadd, 1) := by decide +kernel
theorem dL_law_995 : decode cL_law 995 = .ok (.iaload, 1) := by decide +kernel
theorem dL_law_996 : decode cL_law 996 = .ok (.invokevirtual 98, 3) := by decide +kernel
theorem dL_law_999 : decode cL_law 999 = .ok (.lcmp, 1) := by decide +kernel
theorem dL_law_1000 : decode cL_law 1000 = .ok (.ifCond .eq 193, 3) := by decide +kernel
theorem dL_law_1003 : decode cL_law 1003 = .ok (.iconst 0, 1) := by decide +kernel
theorem dL_law_1004 : decode cL_law 1004 = .ok (.ireturn, 1) := by decide +kernel
theorem dL_law_1005 : decode cL_law 1005 = .ok (.aload_n 1, 1) := by decide +kernel
theorem dL_law_1006 : decode cL_law 1006 = .ok (.aload_n 0, 1) := by decide +kernel
theorem dL_law_1007 : decode cL_law 1007 = .ok (.iload_n 3, 1) := by decide +kernel
theorem dL_law_1008 : decode cL_law 1008 = .ok (.iconst 1, 1) := by decide +kernel
theorem dL_law_1009 : decode cL_law 1009 = .ok (.iadd, 1) := by decide +kernel
theorem dL_law_1010 : decode cL_law 1010 = .ok (.iaload, 1) := by decide +kernel
theorem dL_law_1011 : decode cL_law 1011 = .ok (.aload_n 0, 1) := by decide +kernel
theorem dL_law_1012 : decode cL_law 1012 = .ok (.iload_n 3, 1) := by decide +kernel
theorem dL_law_1013 : decode cL_law 1013 = .ok (.iconst 2, 1) := by decide +kernel
theorem dL_law_1014 : decode cL_law 1014 = .ok (.iadd, 1) := by decide +kernel
theorem dL_law_1015 : decode cL_law 1015 = .ok (.iaload, 1) := by decide +kernel
theorem dL_law_1016 : decode cL_law 1016 = .ok (.aload_n 0, 1) := by decide +kernel
theorem dL_law_1017 : decode cL_law 1017 = .ok (.iload_n 3, 1) := by decide +kernel
theorem dL_law_1018 : decode cL_law 1018 = .ok (.iconst 3, 1) := by decide +kernel
theorem dL_law_1019 : decode cL_law 1019 = .ok (.iadd, 1) := by decide +kernel
theorem dL_law_1020 : decode cL_law 1020 = .ok (.iaload, 1) := by decide +kernel
theorem dL_law_1021 : decode cL_law 1021 = .ok (.invokevirtual 99, 3) := by decide +kernel
theorem dL_law_1024 : decode cL_law 1024 = .ok (.aload_n 2, 1) := by decide +kernel
theorem dL_law_1025 : decode cL_law 1025 = .ok (.aload_n 0, 1) := by decide +kernel
theorem dL_law_1026 : decode cL_law 1026 = .ok (.iload_n 3, 1) := by decide +kernel
theorem dL_law_1027 : decode cL_law 1027 = .ok (.iconst 1, 1) := by decide +kernel
theorem dL_law_1028 : decode cL_law 1028 = .ok (.iadd, 1) := by decide +kernel
theorem dL_law_1029 : decode cL_law 1029 = .ok (.iaload, 1) := by decide +kernel
theorem dL_law_1030 : decode cL_law 1030 = .ok (.aload_n 0, 1) := by decide +kernel
theorem dL_law_1031 : decode cL_law 1031 = .ok (.iload_n 3, 1) := by decide +kernel
theorem dL_law_1032 : decode cL_law 1032 = .ok (.iconst 2, 1) := by decide +kernel
theorem dL_law_1033 : decode cL_law 1033 = .ok (.iadd, 1) := by decide +kernel
theorem dL_law_1034 : decode cL_law 1034 = .ok (.iaload, 1) := by decide +kernel
theorem dL_law_1035 : decode cL_law 1035 = .ok (.aload_n 0, 1) := by decide +kernel
theorem dL_law_1036 : decode cL_law 1036 = .ok (.iload_n 3, 1) := by decide +kernel
theorem dL_law_1037 : decode cL_law 1037 = .ok (.iconst 3, 1) := by decide +kernel
theorem dL_law_1038 : decode cL_law 1038 = .ok (.iadd, 1) := by decide +kernel
theorem dL_law_1039 : decode cL_law 1039 = .ok (.iaload, 1) := by decide +kernel
theorem dL_law_1040 : decode cL_law 1040 = .ok (.invokevirtual 102, 3) := by decide +kernel
theorem dL_law_1043 : decode cL_law 1043 = .ok (.if_icmp .eq 150, 3) := by decide +kernel
theorem dL_law_1046 : decode cL_law 1046 = .ok (.iconst 0, 1) := by decide +kernel
theorem dL_law_1047 : decode cL_law 1047 = .ok (.ireturn, 1) := by decide +kernel
theorem dL_law_1048 : decode cL_law 1048 = .ok (.aload_n 1, 1) := by decide +kernel
theorem dL_law_1049 : decode cL_law 1049 = .ok (.aload_n 0, 1) := by decide +kernel
theorem dL_law_1050 : decode cL_law 1050 = .ok (.iload_n 3, 1) := by decide +kernel
theorem dL_law_1051 : decode cL_law 1051 = .ok (.iconst 1, 1) := by decide +kernel
theorem dL_law_1052 : decode cL_law 1052 = .ok (.iadd, 1) := by decide +kernel
theorem dL_law_1053 : decode cL_law 1053 = .ok (.iaload, 1) := by decide +kernel
theorem dL_law_1054 : decode cL_law 1054 = .ok (.invokevirtual 103, 3) := by decide +kernel
theorem dL_law_1057 : decode cL_law 1057 = .ok (.aload_n 2, 1) := by decide +kernel
theorem dL_law_1058 : decode cL_law 1058 = .ok (.aload_n 0, 1) := by decide +kernel
theorem dL_law_1059 : decode cL_law 1059 = .ok (.iload_n 3, 1) := by decide +kernel
theorem dL_law_1060 : decode cL_law 1060 = .ok (.iconst 1, 1) := by decide +kernel
theorem dL_law_1061 : decode cL_law 1061 = .ok (.iadd, 1) := by decide +kernel
theorem dL_law_1062 : decode cL_law 1062 = .ok (.iaload, 1) := by decide +kernel
theorem dL_law_1063 : decode cL_law 1063 = .ok (.invokevirtual 106, 3) := by decide +kernel
theorem dL_law_1066 : decode cL_law 1066 = .ok (.if_icmp .eq 127, 3) := by decide +kernel
theorem dL_law_1069 : decode cL_law 1069 = .ok (.iconst 0, 1) := by decide +kernel
theorem dL_law_1070 : decode cL_law 1070 = .ok (.ireturn, 1) := by decide +kernel
theorem dL_law_1071 : decode cL_law 1071 = .ok (.aload_n 1, 1) := by decide +kernel
theorem dL_law_1072 : decode cL_law 1072 = .ok (.aload_n 0, 1) := by decide +kernel
theorem dL_law_1073 : decode cL_law 1073 = .ok (.iload_n 3, 1) := by decide +kernel
theorem dL_law_1074 : decode cL_law 1074 = .ok (.iconst 1, 1) := by decide +kernel
theorem dL_law_1075 : decode cL_law 1075 = .ok (.iadd, 1) := by decide +kernel
theorem dL_law_1076 : decode cL_law 1076 = .ok (.iaload, 1) := by decide +kernel
theorem dL_law_1077 : decode cL_law 1077 = .ok (.aload_n 0, 1) := by decide +kernel
theorem dL_law_1078 : decode cL_law 1078 = .ok (.iload_n 3, 1) := by decide +kernel
theorem dL_law_1079 : decode cL_law 1079 = .ok (.iconst 2, 1) := by decide +kernel
theorem dL_law_1080 : decode cL_law 1080 = .ok (.iadd, 1) := by decide +kernel
theorem dL_law_1081 : decode cL_law 1081 = .ok (.iaload, 1) := by decide +kernel
theorem dL_law_1082 : decode cL_law 1082 = .ok (.invokevirtual 107, 3) := by decide +kernel
theorem dL_law_1085 : decode cL_law 1085 = .ok (.aload_n 2, 1) := by decide +kernel
theorem dL_law_1086 : decode cL_law 1086 = .ok (.aload_n 0, 1) := by decide +kernel
theorem dL_law_1087 : decode cL_law 1087 = .ok (.iload_n 3, 1) := by decide +kernel
theorem dL_law_1088 : decode cL_law 1088 = .ok (.iconst 1, 1) := by decide +kernel
theorem dL_law_1089 : decode cL_law 1089 = .ok (.iadd, 1) := by decide +kernel
theorem dL_law_1090 : decode cL_law 1090 = .ok (.iaload, 1) := by decide +kernel
theorem dL_law_1091 : decode cL_law 1091 = .ok (.aload_n 0, 1) := by decide +kernel
theorem dL_law_1092 : decode cL_law 1092 = .ok (.iload_n 3, 1) := by decide +kernel
theorem dL_law_1093 : decode cL_law 1093 = .ok (.iconst 2, 1) := by decide +kernel
theorem dL_law_1094 : decode cL_law 1094 = .ok (.iadd, 1) := by decide +kernel
theorem dL_law_1095 : decode cL_law 1095 = .ok (.iaload, 1) := by decide +kernel
theorem dL_law_1096 : decode cL_law 1096 = .ok (.invokevirtual 110, 3) := by decide +kernel
theorem dL_law_1099 : decode cL_law 1099 = .ok (.if_icmp .eq 94, 3) := by decide +kernel
theorem dL_law_1102 : decode cL_law 1102 = .ok (.iconst 0, 1) := by decide +kernel
theorem dL_law_1103 : decode cL_law 1103 = .ok (.ireturn, 1) := by decide +kernel
theorem dL_law_1104 : decode cL_law 1104 = .ok (.aload_n 1, 1) := by decide +kernel
theorem dL_law_1105 : decode cL_law 1105 = .ok (.aload_n 0, 1) := by decide +kernel
theorem dL_law_1106 : decode cL_law 1106 = .ok (.iload_n 3, 1) := by decide +kernel
theorem dL_law_1107 : decode cL_law 1107 = .ok (.iconst 1, 1) := by decide +kernel
theorem dL_law_1108 : decode cL_law 1108 = .ok (.iadd, 1) := by decide +kernel
theorem dL_law_1109 : decode cL_law 1109 = .ok (.iaload, 1) := by decide +kernel
theorem dL_law_1110 : decode cL_law 1110 = .ok (.aload_n 0, 1) := by decide +kernel
theorem dL_law_1111 : decode cL_law 1111 = .ok (.iload_n 3, 1) := by decide +kernel
theorem dL_law_1112 : decode cL_law 1112 = .ok (.iconst 2, 1) := by decide +kernel
theorem dL_law_1113 : decode cL_law 1113 = .ok (.iadd, 1) := by decide +kernel
theorem dL_law_1114 : decode cL_law 1114 = .ok (.iaload, 1) := by decide +kernel
theorem dL_law_1115 : decode cL_law 1115 = .ok (.aload_n 0, 1) := by decide +kernel
theorem dL_law_1116 : decode cL_law 1116 = .ok (.iload_n 3, 1) := by decide +kernel
theorem dL_law_1117 : decode cL_law 1117 = .ok (.iconst 3, 1) := by decide +kernel
theorem dL_law_1118 : decode cL_law 1118 = .ok (.iadd, 1) := by decide +kernel
theorem dL_law_1119 : decode cL_law 1119 = .ok (.iaload, 1) := by decide +kernel
theorem dL_law_1120 : decode cL_law 1120 = .ok (.invokevirtual 111, 3) := by decide +kernel
theorem dL_law_1123 : decode cL_law 1123 = .ok (.aload_n 2, 1) := by decide +kernel
theorem dL_law_1124 : decode cL_law 1124 = .ok (.aload_n 0, 1) := by decide +kernel
theorem dL_law_1125 : decode cL_law 1125 = .ok (.iload_n 3, 1) := by decide +kernel
theorem dL_law_1126 : decode cL_law 1126 = .ok (.iconst 1, 1) := by decide +kernel
theorem dL_law_1127 : decode cL_law 1127 = .ok (.iadd, 1) := by decide +kernel
theorem dL_law_1128 : decode cL_law 1128 = .ok (.iaload, 1) := by decide +kernel
theorem dL_law_1129 : decode cL_law 1129 = .ok (.aload_n 0, 1) := by decide +kernel
theorem dL_law_1130 : decode cL_law 1130 = .ok (.iload_n 3, 1) := by decide +kernel
theorem dL_law_1131 : decode cL_law 1131 = .ok (.iconst 2, 1) := by decide +kernel
theorem dL_law_1132 : decode cL_law 1132 = .ok (.iadd, 1) := by decide +kernel
theorem dL_law_1133 : decode cL_law 1133 = .ok (.iaload, 1) := by decide +kernel
theorem dL_law_1134 : decode cL_law 1134 = .ok (.aload_n 0, 1) := by decide +kernel
theorem dL_law_1135 : decode cL_law 1135 = .ok (.iload_n 3, 1) := by decide +kernel
theorem dL_law_1136 : decode cL_law 1136 = .ok (.iconst 3, 1) := by decide +kernel
theorem dL_law_1137 : decode cL_law 1137 = .ok (.iadd, 1) := by decide +kernel
theorem dL_law_1138 : decode cL_law 1138 = .ok (.iaload, 1) := by decide +kernel
theorem dL_law_1139 : decode cL_law 1139 = .ok (.invokevirtual 114, 3) := by decide +kernel
theorem dL_law_1142 : decode cL_law 1142 = .ok (.if_icmp .eq 51, 3) := by decide +kernel
theorem dL_law_1145 : decode cL_law 1145 = .ok (.iconst 0, 1) := by decide +kernel
theorem dL_law_1146 : decode cL_law 1146 = .ok (.ireturn, 1) := by decide +kernel
theorem dL_law_1147 : decode cL_law 1147 = .ok (.aload_n 1, 1) := by decide +kernel
theorem dL_law_1148 : decode cL_law 1148 = .ok (.aload_n 0, 1) := by decide +kernel
theorem dL_law_1149 : decode cL_law 1149 = .ok (.iload_n 3, 1) := by decide +kernel
theorem dL_law_1150 : decode cL_law 1150 = .ok (.iconst 1, 1) := by decide +kernel
theorem dL_law_1151 : decode cL_law 1151 = .ok (.iadd, 1) := by decide +kernel
theorem dL_law_1152 : decode cL_law 1152 = .ok (.iaload, 1) := by decide +kernel
theorem dL_law_1153 : decode cL_law 1153 = .ok (.invokevirtual 115, 3) := by decide +kernel
theorem dL_law_1156 : decode cL_law 1156 = .ok (.aload_n 2, 1) := by decide +kernel
theorem dL_law_1157 : decode cL_law 1157 = .ok (.aload_n 0, 1) := by decide +kernel
theorem dL_law_1158 : decode cL_law 1158 = .ok (.iload_n 3, 1) := by decide +kernel
theorem dL_law_1159 : decode cL_law 1159 = .ok (.iconst 1, 1) := by decide +kernel
theorem dL_law_1160 : decode cL_law 1160 = .ok (.iadd, 1) := by decide +kernel
theorem dL_law_1161 : decode cL_law 1161 = .ok (.iaload, 1) := by decide +kernel
theorem dL_law_1162 : decode cL_law 1162 = .ok (.invokevirtual 118, 3) := by decide +kernel
theorem dL_law_1165 : decode cL_law 1165 = .ok (.if_icmp .eq 28, 3) := by decide +kernel
theorem dL_law_1168 : decode cL_law 1168 = .ok (.iconst 0, 1) := by decide +kernel
theorem dL_law_1169 : decode cL_law 1169 = .ok (.ireturn, 1) := by decide +kernel
theorem dL_law_1170 : decode cL_law 1170 = .ok (.aload_n 1, 1) := by decide +kernel
theorem dL_law_1171 : decode cL_law 1171 = .ok (.aload_n 0, 1) := by decide +kernel
theorem dL_law_1172 : decode cL_law 1172 = .ok (.iload_n 3, 1) := by decide +kernel
theorem dL_law_1173 : decode cL_law 1173 = .ok (.iconst 1, 1) := by decide +kernel
theorem dL_law_1174 : decode cL_law 1174 = .ok (.iadd, 1) := by decide +kernel
theorem dL_law_1175 : decode cL_law 1175 = .ok (.iaload, 1) := by decide +kernel
theorem dL_law_1176 : decode cL_law 1176 = .ok (.invokevirtual 119, 3) := by decide +kernel
theorem dL_law_1179 : decode cL_law 1179 = .ok (.aload_n 2, 1) := by decide +kernel
theorem dL_law_1180 : decode cL_law 1180 = .ok (.aload_n 0, 1) := by decide +kernel
theorem dL_law_1181 : decode cL_law 1181 = .ok (.iload_n 3, 1) := by decide +kernel
theorem dL_law_1182 : decode cL_law 1182 = .ok (.iconst 1, 1) := by decide +kernel
theorem dL_law_1183 : decode cL_law 1183 = .ok (.iadd, 1) := by decide +kernel
theorem dL_law_1184 : decode cL_law 1184 = .ok (.iaload, 1) := by decide +kernel
theorem dL_law_1185 : decode cL_law 1185 = .ok (.invokevirtual 122, 3) := by decide +kernel
theorem dL_law_1188 : decode cL_law 1188 = .ok (.if_icmp .eq 5, 3) := by decide +kernel
theorem dL_law_1191 : decode cL_law 1191 = .ok (.iconst 0, 1) := by decide +kernel
theorem dL_law_1192 : decode cL_law 1192 = .ok (.ireturn, 1) := by decide +kernel
theorem dL_law_1193 : decode cL_law 1193 = .ok (.iinc 3 8, 3) := by decide +kernel
theorem dL_law_1196 : decode cL_law 1196 = .ok (.goto (-1178), 3) := by decide +kernel
theorem dL_law_1199 : decode cL_law 1199 = .ok (.iconst 1, 1) := by decide +kernel
theorem dL_law_1200 : decode cL_law 1200 = .ok (.ireturn, 1) := by decide +kernel
end
section
set_option maxRecDepth 20000 in
theorem wsL_law_r1_in : ∀ w ∈ wsL_law_r1, w ∈ lw_tbl := fun w h => (goodIn_p wsL_law_r1 [43, 46] (by decide +kernel) (by decide +kernel) w h).1
set_option maxRecDepth 20000 in
theorem wsL_law_r2_in : ∀ w ∈ wsL_law_r2, w ∈ lw_tbl := fun w h => (goodIn_p wsL_law_r2 [53, 398, 107] (by decide +kernel) (by decide +kernel) w h).1
set_option maxRecDepth 20000 in
theorem wsL_law_r3_in : ∀ w ∈ wsL_law_r3, w ∈ lw_tbl := fun w h => (goodIn_p wsL_law_r3 [111, 432, 135, 139, 142] (by decide +kernel) (by decide +kernel) w h).1
set_option maxRecDepth 20000 in
theorem wsL_law_r4_in : ∀ w ∈ wsL_law_r4, w ∈ lw_tbl := fun w h => (goodIn_p wsL_law_r4 [145, 149, 153, 157, 161, 165] (by decide +kernel) (by decide +kernel) w h).1
set_option maxRecDepth 20000 in
theorem wsL_law_r5_in : ∀ w ∈ wsL_law_r5, w ∈ lw_tbl := fun w h => (goodIn_p wsL_law_r5 [436, 440, 444, 448, 452, 456] (by decide +kernel) (by decide +kernel) w h).1
set_option maxRecDepth 20000 in
theorem wsL_law_r6_in : ∀ w ∈ wsL_law_r6, w ∈ lw_tbl := fun w h => (goodIn_p wsL_law_r6 [460, 464, 169, 173, 177, 468] (by decide +kernel) (by decide +kernel) w h).1
set_option maxRecDepth 20000 in
theorem wsL_law_r7_in : ∀ w ∈ wsL_law_r7, w ∈ lw_tbl := fun w h => (goodIn_p wsL_law_r7 [472, 181, 476, 185, 480, 189] (by decide +kernel) (by decide +kernel) w h).1
set_option maxRecDepth 20000 in
theorem wsL_law_r8_in : ∀ w ∈ wsL_law_r8, w ∈ lw_tbl := fun w h => (goodIn_p wsL_law_r8 [193, 484, 197, 203, 488] (by decide +kernel) (by decide +kernel) w h).1
set_option maxRecDepth 20000 in
theorem wsL_law_r9_in : ∀ w ∈ wsL_law_r9, w ∈ lw_tbl := fun w h => (goodIn_p wsL_law_r9 [207, 210, 215, 219, 223] (by decide +kernel) (by decide +kernel) w h).1
set_option maxRecDepth 20000 in
theorem wsL_law_r10_in : ∀ w ∈ wsL_law_r10, w ∈ lw_tbl := fun w h => (goodIn_p wsL_law_r10 [228, 232, 236, 240] (by decide +kernel) (by decide +kernel) w h).1
set_option maxRecDepth 20000 in
theorem wsL_law_r11_in : ∀ w ∈ wsL_law_r11, w ∈ lw_tbl := fun w h => (goodIn_p wsL_law_r11 [245, 248, 251, 254, 492, 496] (by decide +kernel) (by decide +kernel) w h).1
set_option maxRecDepth 20000 in
theorem wsL_law_r12_in : ∀ w ∈ wsL_law_r12, w ∈ lw_tbl := fun w h => (goodIn_p wsL_law_r12 [501, 505, 509, 513, 517, 521] (by decide +kernel) (by decide +kernel) w h).1
end
section
set_option maxRecDepth 20000 in
theorem wsL_law_r13_in : ∀ w ∈ wsL_law_r13, w ∈ lw_tbl := fun w h => (goodIn_p wsL_law_r13 [258, 261, 266, 270, 525, 529] (by decide +kernel) (by decide +kernel) w h).1
set_option maxRecDepth 20000 in
theorem wsL_law_r14_in : ∀ w ∈ wsL_law_r14, w ∈ lw_tbl := fun w h => (goodIn_p wsL_law_r14 [274, 533, 537, 281, 291, 286] (by decide +kernel) (by decide +kernel) w h).1
set_option maxRecDepth 20000 in
theorem wsL_law_r15_in : ∀ w ∈ wsL_law_r15, w ∈ lw_tbl := fun w h => (goodIn_p wsL_law_r15 [541, 295, 545, 299, 549] (by decide +kernel) (by decide +kernel) w h).1
set_option maxRecDepth 20000 in
theorem wsL_law_r16_in : ∀ w ∈ wsL_law_r16, w ∈ lw_tbl := fun w h => (goodIn_p wsL_law_r16 [303, 307, 311, 315, 321] (by decide +kernel) (by decide +kernel) w h).1
set_option maxRecDepth 20000 in
theorem wsL_law_r17_in : ∀ w ∈ wsL_law_r17, w ∈ lw_tbl := fun w h => (goodIn_p wsL_law_r17 [553, 557, 561, 565, 571] (by decide +kernel) (by decide +kernel) w h).1
set_option maxRecDepth 20000 in
theorem wsL_law_r18_in : ∀ w ∈ wsL_law_r18, w ∈ lw_tbl := fun w h => (goodIn_p wsL_law_r18 [325, 576, 330, 334, 580, 338] (by decide +kernel) (by decide +kernel) w h).1
set_option maxRecDepth 20000 in
theorem wsL_law_r19_in : ∀ w ∈ wsL_law_r19, w ∈ lw_tbl := fun w h => (goodIn_p wsL_law_r19 [584, 588, 593, 345, 597] (by decide +kernel) (by decide +kernel) w h).1
set_option maxRecDepth 20000 in
theorem wsL_law_r20_in : ∀ w ∈ wsL_law_r20, w ∈ lw_tbl := fun w h => (goodIn_p wsL_law_r20 [349, 601, 353, 357, 361] (by decide +kernel) (by decide +kernel) w h).1
set_option maxRecDepth 20000 in
theorem wsL_law_r21_in : ∀ w ∈ wsL_law_r21, w ∈ lw_tbl := fun w h => (goodIn_p wsL_law_r21 [605, 609, 613, 365, 617, 369] (by decide +kernel) (by decide +kernel) w h).1
set_option maxRecDepth 20000 in
theorem wsL_law_r22_in : ∀ w ∈ wsL_law_r22, w ∈ lw_tbl := fun w h => (goodIn_p wsL_law_r22 [621, 373, 377, 625, 381, 385] (by decide +kernel) (by decide +kernel) w h).1
set_option maxRecDepth 20000 in
theorem wsL_law_r23_in : ∀ w ∈ wsL_law_r23, w ∈ lw_tbl := fun w h => (goodIn_p wsL_law_r23 [389, 629, 393, 633] (by decide +kernel) (by decide +kernel) w h).1
set_option maxRecDepth 20000 in
theorem inqX0 : ∀ w ∈ wsX00, w ∈ lw_tbl := fun w h => (goodIn_p wsX00 [] (by decide +kernel) (by decide +kernel) w h).1
set_option maxRecDepth 20000 in
theorem inqX1 : ∀ w ∈ wsX10, w ∈ lw_tbl := fun w h => (goodIn_p wsX10 [] (by decide +kernel) (by decide +kernel) w h).1
set_option maxRecDepth 20000 in
theorem inqX2 : ∀ w ∈ wsX20, w ∈ lw_tbl := fun w h => (goodIn_p wsX20 [] (by decide +kernel) (by decide +kernel) w h).1
set_option maxRecDepth 20000 in
theorem inqX3 : ∀ w ∈ wsX30, w ∈ lw_tbl := fun w h => (goodIn_p wsX30 [] (by decide +kernel) (by decide +kernel) w h).1
theorem wsL_law_in : ∀ w ∈ wsL_law, w ∈ lw_tbl := by
  intro w h
  simp only [wsL_law, List.mem_append] at h
  rcases h with ((((h | h) | h) | h) | h) | h
  · rcases h with h | h | h | h | h | h | h | h | h | h | h | h | h | h | h | h | h | h | h | h | h | h | h
    · exact wsL_law_r1_in w h
    · exact wsL_law_r2_in w h
    · exact wsL_law_r3_in w h
    · exact wsL_law_r4_in w h
    · exact wsL_law_r5_in w h
    · exact wsL_law_r6_in w h
    · exact wsL_law_r7_in w h
    · exact wsL_law_r8_in w h
    · exact wsL_law_r9_in w h
    · exact wsL_law_r10_in w h
    · exact wsL_law_r11_in w h
    · exact wsL_law_r12_in w h
    · exact wsL_law_r13_in w h
    · exact wsL_law_r14_in w h
    · exact wsL_law_r15_in w h
    · exact wsL_law_r16_in w h
    · exact wsL_law_r17_in w h
    · exact wsL_law_r18_in w h
    · exact wsL_law_r19_in w h
    · exact wsL_law_r20_in w h
    · exact wsL_law_r21_in w h
    · exact wsL_law_r22_in w h
    · exact wsL_law_r23_in w h
  · exact inqX2 w h
  · exact inqX3 w h
  · exact inqX1 w h
  · exact inqX0 w h
  · cases h
theorem inlX0 : ∀ w ∈ wsX00, w ∈ wsL_law := fun _ h => List.mem_append_left _ (List.mem_append_right _ h)
theorem inX0 : ∀ w ∈ wsX00, w ∈ lw_tbl := fun w h => wsL_law_in w (inlX0 w h)
theorem inlX1 : ∀ w ∈ wsX10, w ∈ wsL_law := fun _ h => List.mem_append_left _ (List.mem_append_left _ (List.mem_append_right _ h))
theorem inX1 : ∀ w ∈ wsX10, w ∈ lw_tbl := fun w h => wsL_law_in w (inlX1 w h)
theorem inlX2 : ∀ w ∈ wsX20, w ∈ wsL_law := fun _ h => List.mem_append_left _ (List.mem_append_left _ (List.mem_append_left _ (List.mem_append_left _ (List.mem_append_right _ h))))
theorem inX2 : ∀ w ∈ wsX20, w ∈ lw_tbl := fun w h => wsL_law_in w (inlX2 w h)
theorem inlX3 : ∀ w ∈ wsX30, w ∈ wsL_law := fun _ h => List.mem_append_left _ (List.mem_append_left _ (List.mem_append_left _ (List.mem_append_right _ h)))
theorem inX3 : ∀ w ∈ wsX30, w ∈ lw_tbl := fun w h => wsL_law_in w (inlX3 w h)
end
section
/-! The frame of the whole proof: a judgement J c n w pc lv st that hides heap, locals and written places; a contract zF; a row an instruction. -/
/-- the surroundings: the launch, the classes' numbers and slots, the classes of int[], long[], LightRound$Row[] -/
abbrev zE : Type := Launch × va_G × ClassId × ClassId × ClassId
abbrev zt (E : zE) : List (ClassId × FieldType) := [(E.2.2.1, .int), (E.2.2.2.1, .long), (E.2.2.2.2, .object "LightRound$Row")]
abbrev cI (E : zE) (a n : Nat) (f : Nat → Int32) : Nat × va_E := (a, .inl (E.2.2.1, n, .inl f))
abbrev cJ (E : zE) (a n : Nat) (f : Nat → Int64) : Nat × va_E := (a, .inl (E.2.2.2.1, n, .inr (.inl f)))
abbrev cQ (E : zE) (a n : Nat) (f : Nat → Option Nat) : Nat × va_E := (a, .inl (E.2.2.2.2, n, .inr (.inr (.inr (.inr f)))))
abbrev cO (a ci : Nat) (fs : List Value) : Nat × va_E := (a, .inr (ci, fs))
abbrev zJ : Type := Nat → Nat → va_W → Nat → List (Nat × Value) → List Value → Prop
abbrev zPost : Type := Option Value → va_W → Prop
def zQ (E : zE) (A : Nat → Prop) (post : zPost) : Array Value → State → Outcome → State → Prop := fun _ st oc t => ∃ (o : Option Value) (w' : va_W), oc = .returned o ∧ post o w' ∧ va_P E.2.1 vwCl w' t.heap ∧ va_D A w' ∧ va_F A st t
/-- what a method's start gives -/
def zPre (E : zE) (av : List Value) (w : va_W) (X : State → Prop) (sz : Nat) : Array Value → State → Prop := va_Pc av (fun U => U.heap.size = sz ∧ va_P E.2.1 vwCl w U.heap ∧ va_K E.2.1 vwCl (zt E) U ∧ va_D (fun _ => True) w ∧ X U)
/-- a contract: from the cells w, with the arguments av, the method returns o and leaves w' with post o w' -/
def zG (E : zE) (y : MethodName) (ws : List Cond) (rm : Room) (av : List Value) (w : va_W) (X : State → Prop) (post : zPost) : Prop := ∀ sz : Nat, Met E.1 y ws rm (zPre E av w X sz) (zQ E (va_A w sz) post) rm.cells rm.slots (va_A w sz)
abbrev zF (E : zE) (y : MethodName) (ws : List Cond) (rm : Room) (av : List Value) (w : va_W) (post : zPost) : Prop := zG E y ws rm av w (fun _ => True) post
/-- an exact end -/
abbrev zx (o : Option Value) (w : va_W) : zPost := fun o' w' => o' = o ∧ w' = w
/-- the place of a walk -/
def zOk (E : zE) (J : zJ) (own : String) (cc : ByteArray) (nL : Nat) (ret : Option FieldType) (Ts : List Cond) (R : Room) (nm : String) (X : State → Prop) (post : zPost) : Prop :=
  ∃ (p : Program) (e : Env) (s : State) (m : MethodId) (args : Array Value) (below : List Frame) (meth : Method) (c : Code) (A : Nat → Prop),
    p.tables.exec = Jvm.exec ∧ c.code = cc ∧ c.maxLocals = nL ∧ s.vm.findClass own = some m.cls ∧ (∀ w ∈ Ts, w.before args s = true) ∧ va_K E.2.1 vwCl (zt E) s ∧ (∀ q, s.heap.size ≤ q → A q) ∧ meth.sig.returnType = ret ∧ meth.locks = false ∧ meth.name = nm ∧ X s ∧
    J = fun cells slots w pc lv st => ∀ (H : Heap) (locs : List Loc) (ls : Array Slot), va_P E.2.1 vwCl w H → va_D A w → va_S A s.heap H locs → lv_has ls nL lv → W p E.1 e R s m args below meth c H locs cells slots (MQ below (zQ E A post) args s R.cells R.slots A) (F0 m pc ls st)
theorem z_start {E : zE} {y : MethodName} {ws ws' : List Cond} {rm : Room} {av : List Value} {w : va_W} {X : State → Prop} {post : zPost} {cc : ByteArray} {maxL : Nat} {ret : Option FieldType} (own nm : String) (hy : plainName y.cls = true) (hw : ws = Cond.code y cc maxL ret :: ws') (hown : y.cls = own) (hnm : y.name = nm) (hlen : (lg_sl av).length ≤ maxL)
    (body : ∀ J : zJ, zOk E J own cc maxL ret ws rm nm X post → J 0 0 w 0 (lv_args 0 av) []) : zG E y ws rm av w X post := by
  intro sz
  refine Met.ofW (cc := cc) (maxL := maxL) (ret := ret) hy hw ?_
  intro p e s m args below meth c s₁ B hml hv
  obtain ⟨rfl, hsz, hP, hK, hD0, hX⟩ := hv
  subst hsz
  have hl := lv_entry av (n := maxL) hlen
  rw [lg_entry_eq]
  refine body _ ⟨p, e, s, m, _, below, meth, c, va_A w s.heap.size, B.exec, B.bytes, hml, by rw [← hown]; exact findClass_of_methodNamed B.named, atoms_spec (ws := ws) B.pre, hK, fun q h => Or.inr h, B.returns, B.notSynchronized, by rw [← hnm]; exact (name_of_methodNamed B.named B.method).1, hX, rfl⟩ s.heap [] _ hP hD0.self va_S.rf hl
theorem z_i64_tri (x y : Int64) : x < y ∨ x = y ∨ y < x := by
  rcases Int.lt_trichotomy x.toInt y.toInt with h | h | h
  · exact Or.inl (Int64.lt_iff_toInt_lt.mpr h)
  · exact Or.inr (Or.inl (Int64.toInt_inj.mp h))
  · exact Or.inr (Or.inr (Int64.lt_iff_toInt_lt.mpr h))
theorem z_i64_asym {x y : Int64} (h : x < y) : ¬ y < x ∧ ¬ x = y ∧ ¬ y = x ∧ x ≤ y ∧ ¬ y ≤ x := by
  have h1 := Int64.lt_iff_toInt_lt.mp h
  refine ⟨fun q => ?_, fun q => ?_, fun q => ?_, Int64.le_iff_toInt_le.mpr (by omega), fun q => ?_⟩
  · have := Int64.lt_iff_toInt_lt.mp q; omega
  · subst q; omega
  · subst q; omega
  · have := Int64.le_iff_toInt_le.mp q; omega
theorem z_i64_irr (x : Int64) : ¬ x < x := fun h => (z_i64_asym h).1 h
theorem z_i64_le_rfl (x : Int64) : x ≤ x := Int64.le_iff_toInt_le.mpr (Int.le_refl _)
theorem z_cmp3 (x y : Int64) : (x < y ∧ lg_cmp x y = -1) ∨ (x = y ∧ lg_cmp x y = 0) ∨ (y < x ∧ lg_cmp x y = 1) := by
  rcases z_i64_tri x y with h | h | h
  · refine Or.inl ⟨h, ?_⟩
    have q := z_i64_asym h
    simp [lg_cmp, q.1, q.2.1]
  · subst h
    exact Or.inr (Or.inl ⟨rfl, by simp [lg_cmp, z_i64_irr]⟩)
  · refine Or.inr (Or.inr ⟨h, ?_⟩)
    simp [lg_cmp, h]
theorem z_cmp_eq (x y : Int64) : lg_cmp x y = 0 ↔ x = y := by
  rcases z_cmp3 x y with ⟨h, e⟩ | ⟨h, e⟩ | ⟨h, e⟩ <;> rw [e]
  · exact ⟨fun q => absurd q (by decide), fun q => absurd q (z_i64_asym h).2.1⟩
  · exact ⟨fun _ => h, fun _ => rfl⟩
  · exact ⟨fun q => absurd q (by decide), fun q => absurd q (z_i64_asym h).2.2.1⟩
theorem z_cmp_ne (x y : Int64) : ¬ lg_cmp x y = 0 ↔ x ≠ y := by
  rw [z_cmp_eq]
theorem z_cmp_lt (x y : Int64) : lg_cmp x y < 0 ↔ x < y := by
  rcases z_cmp3 x y with ⟨h, e⟩ | ⟨h, e⟩ | ⟨h, e⟩ <;> rw [e]
  · exact ⟨fun _ => h, fun _ => by decide⟩
  · subst h; exact ⟨fun q => absurd q (by decide), fun q => absurd q (z_i64_irr x)⟩
  · exact ⟨fun q => absurd q (by decide), fun q => absurd q (z_i64_asym h).1⟩
theorem z_cmp_ge (x y : Int64) : 0 ≤ lg_cmp x y ↔ y ≤ x := by
  rcases z_cmp3 x y with ⟨h, e⟩ | ⟨h, e⟩ | ⟨h, e⟩ <;> rw [e]
  · exact ⟨fun q => absurd q (by decide), fun q => absurd q (z_i64_asym h).2.2.2.2⟩
  · subst h; exact ⟨fun _ => z_i64_le_rfl x, fun _ => by decide⟩
  · exact ⟨fun _ => (z_i64_asym h).2.2.2.1, fun _ => by decide⟩
theorem z_cmp_gt (x y : Int64) : 0 < lg_cmp x y ↔ y < x := by
  rcases z_cmp3 x y with ⟨h, e⟩ | ⟨h, e⟩ | ⟨h, e⟩ <;> rw [e]
  · exact ⟨fun q => absurd q (by decide), fun q => absurd q (z_i64_asym h).1⟩
  · subst h; exact ⟨fun q => absurd q (by decide), fun q => absurd q (z_i64_irr x)⟩
  · exact ⟨fun _ => h, fun _ => by decide⟩
theorem z_cmp_le (x y : Int64) : lg_cmp x y ≤ 0 ↔ x ≤ y := by
  rcases z_cmp3 x y with ⟨h, e⟩ | ⟨h, e⟩ | ⟨h, e⟩ <;> rw [e]
  · exact ⟨fun _ => (z_i64_asym h).2.2.2.1, fun _ => by decide⟩
  · subst h; exact ⟨fun _ => z_i64_le_rfl x, fun _ => by decide⟩
  · exact ⟨fun q => absurd q (by decide), fun q => absurd q (z_i64_asym h).2.2.2.2⟩
/-- the world with the cells at the places is changed -/
def zup : va_W → List Nat → va_W → va_W
  | w, i :: is, q :: qs => zup (w.set i q) is qs
  | w, _, _ => w
theorem z_set_same {α : Type} (l : List α) (i : Nat) (a : α) (h : l[i]? = some a) : l.set i a = l := by
  apply List.ext_getElem?
  intro k
  by_cases hk : i = k
  · subst hk
    rw [List.getElem?_set_self (List.getElem?_eq_some_iff.mp h).1, h]
  · rw [List.getElem?_set_ne hk]
theorem zup_fst : ∀ (is : List Nat) (w1 w : va_W), (∀ (j i : Nat) (q : Nat × va_E), is[j]? = some i → w1[j]? = some q → ∃ p, w[i]? = some p ∧ p.1 = q.1) → (zup w is w1).map Prod.fst = w.map Prod.fst
  | [], w1, w, _ => by cases w1 <;> rfl
  | i :: is, [], w, _ => rfl
  | i :: is, q :: qs, w, h => by
    obtain ⟨p, h1, h2⟩ := h 0 i q rfl rfl
    have hs : (w.set i q).map Prod.fst = w.map Prod.fst := by
      rw [List.map_set]
      exact z_set_same _ _ _ (by rw [List.getElem?_map, h1, ← h2]; rfl)
    show (zup (w.set i q) is qs).map Prod.fst = _
    rw [zup_fst is qs (w.set i q), hs]
    intro j i' q' hj hq
    obtain ⟨p', g1, g2⟩ := h (j + 1) i' q' hj hq
    by_cases hi : i = i'
    · subst hi
      refine ⟨q, List.getElem?_set_self (List.getElem?_eq_some_iff.mp h1).1, ?_⟩
      rw [h1] at g1
      cases g1
      exact h2.symm.trans g2
    · exact ⟨p', by rw [List.getElem?_set_ne hi]; exact g1, g2⟩
theorem zup_get : ∀ (is : List Nat) (w1 w : va_W), is.length = w1.length → ∀ (k : Nat) (q : Nat × va_E), (zup w is w1)[k]? = some q → (k ∉ is ∧ w[k]? = some q) ∨ ∃ j : Nat, w1[j]? = some q
  | [], [], w, _, k, q, h => Or.inl ⟨List.not_mem_nil, h⟩
  | i :: is, p :: ps, w, hl, k, q, h => by
    rcases zup_get is ps (w.set i p) (Nat.succ.inj hl) k q h with ⟨g1, g2⟩ | ⟨j, g⟩
    · by_cases hi : i = k
      · subst hi
        have hlt : i < w.length := by
          have := (List.getElem?_eq_some_iff.mp g2).1
          simpa using this
        rw [List.getElem?_set_self hlt] at g2
        exact Or.inr ⟨0, g2⟩
      · rw [List.getElem?_set_ne hi] at g2
        refine Or.inl ⟨fun hm => ?_, g2⟩
        rcases List.mem_cons.mp hm with e | e
        · exact hi e.symm
        · exact g1 e
    · exact Or.inr ⟨j + 1, g⟩
theorem va_D.fst {A : Nat → Prop} {w w' : va_W} (h : va_D A w) (e : w'.map Prod.fst = w.map Prod.fst) : va_D A w' := by
  have key : ∀ (k : Nat) (q : Nat × va_E), w'[k]? = some q → ∃ q0, w[k]? = some q0 ∧ q0.1 = q.1 := by
    intro k q hk
    have h1 : (w'.map Prod.fst)[k]? = some q.1 := by rw [List.getElem?_map, hk]; rfl
    rw [e, List.getElem?_map] at h1
    cases hw : w[k]? with
    | none => rw [hw] at h1; cases h1
    | some q0 => rw [hw] at h1; exact ⟨q0, rfl, Option.some.inj h1⟩
  refine ⟨fun i j p q hp hq hpq => ?_, fun k q hk => ?_⟩
  · obtain ⟨p0, a1, a2⟩ := key i p hp
    obtain ⟨q0, b1, b2⟩ := key j q hq
    exact h.1 i j p0 q0 a1 b1 (a2.trans (hpq.trans b2.symm))
  · obtain ⟨q0, b1, b2⟩ := key k q hk
    rw [← b2]
    exact h.2 k q0 b1
theorem z_join {A0 : Nat → Prop} {D : va_G} {w wc w1 : va_W} {H H1 : Heap} (hP : va_P D vwCl w H) (hD : va_D A0 w) (is : List Nat) (hC : is.map (fun i => w[i]?) = wc.map some) (h1 : w1.map Prod.fst = wc.map Prod.fst)
    (hk : ∀ q : Nat, q < H.size → ¬ va_A wc H.size q → H1[q]? = H[q]?) (hP1 : va_P D vwCl w1 H1) : va_P D vwCl (zup w is w1) H1 ∧ va_D A0 (zup w is w1) := by
  have at' : ∀ (k : Nat) (q : Nat × va_E), wc[k]? = some q → ∃ i, is[k]? = some i ∧ w[i]? = some q := by
    intro k q hq
    have h1 : (is.map (fun i => w[i]?))[k]? = some (some q) := by rw [hC, List.getElem?_map, hq]; rfl
    rw [List.getElem?_map] at h1
    cases hi : is[k]? with
    | none => rw [hi] at h1; cases h1
    | some i => rw [hi] at h1; exact ⟨i, rfl, Option.some.inj h1⟩
  have hlen : is.length = w1.length := by
    have a := congrArg List.length hC
    have b := congrArg List.length h1
    simp at a b
    omega
  refine ⟨fun k q hq => ?_, hD.fst (zup_fst is w1 w ?_)⟩
  · rcases zup_get is w1 w hlen k q hq with ⟨g1, g2⟩ | ⟨j, g⟩
    · refine (hP k q g2).kept (hk q.1 ((hP k q g2).lt) (fun h => ?_))
      rcases h with ⟨k2, e, h⟩ | h
      · obtain ⟨i, a1, a2⟩ := at' k2 (q.1, e) h
        have := hD.1 k i q (q.1, e) g2 a2 rfl
        subst this
        exact g1 (List.mem_of_getElem? a1)
      · exact absurd ((hP k q g2).lt) (Nat.not_lt.mpr h)
    · exact hP1 j q g
  · intro j i q hj hq
    have e1 : (wc.map Prod.fst)[j]? = some q.1 := by rw [← h1, List.getElem?_map, hq]; rfl
    rw [List.getElem?_map] at e1
    cases hw : wc[j]? with
    | none => rw [hw] at e1; cases e1
    | some p =>
      rw [hw] at e1
      obtain ⟨i2, a1, a2⟩ := at' j p hw
      rw [hj] at a1
      cases a1
      exact ⟨p, a2, Option.some.inj e1⟩
/-- what a call needs to know of a method -/
def zInfo (y : MethodName) (ws : List Cond) (C : String) (maxL : Nat) (rt : Option FieldType) (n : Nat) : Prop := ∃ (bytes : ByteArray) (ws' : List Cond), ws = Cond.code y bytes maxL rt :: ws' ∧ (y.cls = C ∧ y.cls ≠ "java/lang/invoke/MethodHandle" ∧ y.cls ≠ "java/lang/invoke/VarHandle" ∧ (parseMethodDescriptor y.desc).map (fun d => d.parameters.length) = some n)
theorem z_fm {α β : Type} {is : List α} {f : α → Option β} {wc : List β} (h : is.map f = wc.map some) : is.filterMap f = wc := by
  have e : is.filterMap f = (is.map f).filterMap id := by rw [List.filterMap_map]; rfl
  rw [e, h, List.filterMap_map]
  exact List.filterMap_some
theorem va_D.iff {A : Nat → Prop} {w : va_W} : va_D A w ↔ (w.map Prod.fst).Nodup ∧ ∀ q ∈ w, A q.1 := by
  constructor
  · intro h
    refine ⟨List.pairwise_iff_getElem.mpr (fun i j hi hj hij => ?_), fun q hq => ?_⟩
    · intro he
      simp only [List.length_map] at hi hj
      have a1 : w[i]? = some w[i] := List.getElem?_eq_getElem hi
      have a2 : w[j]? = some w[j] := List.getElem?_eq_getElem hj
      simp only [List.getElem_map] at he
      have := h.1 i j _ _ a1 a2 he
      omega
    · obtain ⟨i, hi⟩ := List.getElem?_of_mem hq
      exact h.2 i q hi
  · rintro ⟨h1, h2⟩
    refine ⟨fun i j p q hp hq hpq => ?_, fun k q hk => h2 q (List.mem_of_getElem? hk)⟩
    have key := List.pairwise_iff_getElem.mp h1
    obtain ⟨hi, ei⟩ := List.getElem?_eq_some_iff.mp hp
    obtain ⟨hj, ej⟩ := List.getElem?_eq_some_iff.mp hq
    rcases Nat.lt_trichotomy i j with c | c | c
    · have k1 := key i j (by simpa using hi) (by simpa using hj) c
      simp only [List.getElem_map, ei, ej] at k1
      exact absurd hpq k1
    · exact c
    · have k1 := key j i (by simpa using hj) (by simpa using hi) c
      simp only [List.getElem_map, ei, ej] at k1
      exact absurd hpq.symm k1
theorem va_D.perm {A : Nat → Prop} {w w2 : va_W} (h : va_D A w) (hp : w.Perm w2) : va_D A w2 := by
  rw [va_D.iff] at h ⊢
  exact ⟨(hp.map Prod.fst).nodup_iff.mp h.1, fun q hq => h.2 q (hp.mem_iff.mpr hq)⟩
section ZR
variable {E : zE} {J : zJ} {own nm : String} {cc : ByteArray} {nL : Nat} {ret : Option FieldType} {Ts : List Cond} {R : Room} {X : State → Prop} {post : zPost} {c n : Nat} {w : va_W} {pc : Nat} {lv : List (Nat × Value)} {st : List Value}
theorem g_eq (K : zOk E J own cc nL ret Ts R nm X post) {w2 : va_W} {lv2 : List (Nat × Value)} {st2 : List Value} (hw : w = w2) (hl : lv = lv2) (hs : st = st2) (kk : J c n w2 pc lv2 st2) : J c n w pc lv st := by
  subst hw; subst hl; subst hs; exact kk
theorem g_wide (K : zOk E J own cc nL ret Ts R nm X post) {c' n' : Nat} (h1 : c ≤ c') (h2 : n ≤ n') (kk : J c' n' w pc lv st) : J c n w pc lv st := by
  obtain ⟨p, e, s, m, args, below, meth, cd, A, hx, hb, hml, hown, hts, hK, hA, hr, hlk, hnm, hX, rfl⟩ := K
  intro H locs ls hP hD hS hl
  exact W.widen h1 h2 (kk H locs ls hP hD hS hl)
theorem g_iload_n (K : zOk E J own cc nL ret Ts R nm X post) {k : Fin 4} (d : decode cc pc = .ok (.iload_n k, 1)) (j : Nat) {i : Nat} {x : Int32} (h : lv[j]? = some (i, .int x)) (hi : (k : Nat) = i) (kk : J c n w (pc + 1) lv (.int x :: st)) : J c n w pc lv st := by
  obtain ⟨p, e, s, m, args, below, meth, cd, A, hx, hb, hml, hown, hts, hK, hA, hr, hlk, hnm, hX, rfl⟩ := K
  intro H locs ls hP hD hS hl
  exact lv_iload_n hx hb d hi (lv_at hl j h) (kk H locs ls hP hD hS hl)
theorem g_iload (K : zOk E J own cc nL ret Ts R nm X post) {i : Nat} (d : decode cc pc = .ok (.iload i, 2)) (j : Nat) {x : Int32} (h : lv[j]? = some (i, .int x)) (kk : J c n w (pc + 2) lv (.int x :: st)) : J c n w pc lv st := by
  obtain ⟨p, e, s, m, args, below, meth, cd, A, hx, hb, hml, hown, hts, hK, hA, hr, hlk, hnm, hX, rfl⟩ := K
  intro H locs ls hP hD hS hl
  exact lv_iload hx hb d (lv_at hl j h) (kk H locs ls hP hD hS hl)
theorem g_lload_n (K : zOk E J own cc nL ret Ts R nm X post) {k : Fin 4} (d : decode cc pc = .ok (.lload_n k, 1)) (j : Nat) {i : Nat} {x : Int64} (h : lv[j]? = some (i, .long x)) (hi : (k : Nat) = i) (kk : J c n w (pc + 1) lv (.long x :: st)) : J c n w pc lv st := by
  obtain ⟨p, e, s, m, args, below, meth, cd, A, hx, hb, hml, hown, hts, hK, hA, hr, hlk, hnm, hX, rfl⟩ := K
  intro H locs ls hP hD hS hl
  exact lv_lload_n hx hb d hi (lv_at hl j h) (kk H locs ls hP hD hS hl)
theorem g_lload (K : zOk E J own cc nL ret Ts R nm X post) {i : Nat} (d : decode cc pc = .ok (.lload i, 2)) (j : Nat) {x : Int64} (h : lv[j]? = some (i, .long x)) (kk : J c n w (pc + 2) lv (.long x :: st)) : J c n w pc lv st := by
  obtain ⟨p, e, s, m, args, below, meth, cd, A, hx, hb, hml, hown, hts, hK, hA, hr, hlk, hnm, hX, rfl⟩ := K
  intro H locs ls hP hD hS hl
  exact lv_lload hx hb d (lv_at hl j h) (kk H locs ls hP hD hS hl)
theorem g_aload_n (K : zOk E J own cc nL ret Ts R nm X post) {k : Fin 4} (d : decode cc pc = .ok (.aload_n k, 1)) (j : Nat) {i : Nat} {x : Nat} (h : lv[j]? = some (i, .ref x)) (hi : (k : Nat) = i) (kk : J c n w (pc + 1) lv (.ref x :: st)) : J c n w pc lv st := by
  obtain ⟨p, e, s, m, args, below, meth, cd, A, hx, hb, hml, hown, hts, hK, hA, hr, hlk, hnm, hX, rfl⟩ := K
  intro H locs ls hP hD hS hl
  exact lv_aload_n hx hb d hi (lv_at hl j h) (kk H locs ls hP hD hS hl)
theorem g_aload (K : zOk E J own cc nL ret Ts R nm X post) {i : Nat} (d : decode cc pc = .ok (.aload i, 2)) (j : Nat) {x : Nat} (h : lv[j]? = some (i, .ref x)) (kk : J c n w (pc + 2) lv (.ref x :: st)) : J c n w pc lv st := by
  obtain ⟨p, e, s, m, args, below, meth, cd, A, hx, hb, hml, hown, hts, hK, hA, hr, hlk, hnm, hX, rfl⟩ := K
  intro H locs ls hP hD hS hl
  exact lv_aload hx hb d (lv_at hl j h) (kk H locs ls hP hD hS hl)
theorem g_aload_nN (K : zOk E J own cc nL ret Ts R nm X post) {k : Fin 4} (d : decode cc pc = .ok (.aload_n k, 1)) (j : Nat) {i : Nat} (h : lv[j]? = some (i, .null)) (hi : (k : Nat) = i) (kk : J c n w (pc + 1) lv (.null :: st)) : J c n w pc lv st := by
  obtain ⟨p, e, s, m, args, below, meth, cd, A, hx, hb, hml, hown, hts, hK, hA, hr, hlk, hnm, hX, rfl⟩ := K
  intro H locs ls hP hD hS hl
  exact lv_aload_nN hx hb d hi (lv_at hl j h) (kk H locs ls hP hD hS hl)
theorem g_aloadN (K : zOk E J own cc nL ret Ts R nm X post) {i : Nat} (d : decode cc pc = .ok (.aload i, 2)) (j : Nat) (h : lv[j]? = some (i, .null)) (kk : J c n w (pc + 2) lv (.null :: st)) : J c n w pc lv st := by
  obtain ⟨p, e, s, m, args, below, meth, cd, A, hx, hb, hml, hown, hts, hK, hA, hr, hlk, hnm, hX, rfl⟩ := K
  intro H locs ls hP hD hS hl
  exact lv_aloadN hx hb d (lv_at hl j h) (kk H locs ls hP hD hS hl)
theorem g_iconst (K : zOk E J own cc nL ret Ts R nm X post) {k : Int} {v : Int32} (d : decode cc pc = .ok (.iconst k, 1)) (hv : Int32.ofInt k = v) (kk : J c n w (pc + 1) lv (.int v :: st)) : J c n w pc lv st := by
  obtain ⟨p, e, s, m, args, below, meth, cd, A, hx, hb, hml, hown, hts, hK, hA, hr, hlk, hnm, hX, rfl⟩ := K
  intro H locs ls hP hD hS hl
  exact lv_iconst hx hb d hv (kk H locs ls hP hD hS hl)
theorem g_bipush (K : zOk E J own cc nL ret Ts R nm X post) {k : Int} {v : Int32} (d : decode cc pc = .ok (.bipush k, 2)) (hv : (Int8.ofInt k).toInt32 = v) (kk : J c n w (pc + 2) lv (.int v :: st)) : J c n w pc lv st := by
  obtain ⟨p, e, s, m, args, below, meth, cd, A, hx, hb, hml, hown, hts, hK, hA, hr, hlk, hnm, hX, rfl⟩ := K
  intro H locs ls hP hD hS hl
  exact lv_bipush hx hb d hv (kk H locs ls hP hD hS hl)
theorem g_sipush (K : zOk E J own cc nL ret Ts R nm X post) {k : Int} {v : Int32} (d : decode cc pc = .ok (.sipush k, 3)) (hv : (Int16.ofInt k).toInt32 = v) (kk : J c n w (pc + 3) lv (.int v :: st)) : J c n w pc lv st := by
  obtain ⟨p, e, s, m, args, below, meth, cd, A, hx, hb, hml, hown, hts, hK, hA, hr, hlk, hnm, hX, rfl⟩ := K
  intro H locs ls hP hD hS hl
  exact lv_sipush hx hb d hv (kk H locs ls hP hD hS hl)
theorem g_lconst (K : zOk E J own cc nL ret Ts R nm X post) {k : Fin 2} {v : Int64} (d : decode cc pc = .ok (.lconst k, 1)) (hv : Int64.ofNat (k : Nat) = v) (kk : J c n w (pc + 1) lv (.long v :: st)) : J c n w pc lv st := by
  obtain ⟨p, e, s, m, args, below, meth, cd, A, hx, hb, hml, hown, hts, hK, hA, hr, hlk, hnm, hX, rfl⟩ := K
  intro H locs ls hP hD hS hl
  exact lv_lconst hx hb d hv (kk H locs ls hP hD hS hl)
theorem g_ldc2 (K : zOk E J own cc nL ret Ts R nm X post) {k : Nat} {v : Int64} (d : decode cc pc = .ok (.ldc2_w k, 3)) (hv : Cond.constantLong own k v ∈ Ts) (kk : J c n w (pc + 3) lv (.long v :: st)) : J c n w pc lv st := by
  obtain ⟨p, e, s, m, args, below, meth, cd, A, hx, hb, hml, hown, hts, hK, hA, hr, hlk, hnm, hX, rfl⟩ := K
  intro H locs ls hP hD hS hl
  exact lv_ldc2 hx hb hown (hts _ hv) d (kk H locs ls hP hD hS hl)
theorem g_null (K : zOk E J own cc nL ret Ts R nm X post) (d : decode cc pc = .ok (.aconst_null, 1)) (kk : J c n w (pc + 1) lv (.null :: st)) : J c n w pc lv st := by
  obtain ⟨p, e, s, m, args, below, meth, cd, A, hx, hb, hml, hown, hts, hK, hA, hr, hlk, hnm, hX, rfl⟩ := K
  intro H locs ls hP hD hS hl
  exact lv_null hx hb d (kk H locs ls hP hD hS hl)
theorem g_iadd (K : zOk E J own cc nL ret Ts R nm X post) {x y : Int32} (d : decode cc pc = .ok (.iadd, 1))  (kk : J c n w (pc + 1) lv (.int (x + y) :: st)) : J c n w pc lv (.int y :: .int x :: st) := by
  obtain ⟨p, e, s, m, args, below, meth, cd, A, hx, hb, hml, hown, hts, hK, hA, hr, hlk, hnm, hX, rfl⟩ := K
  intro H locs ls hP hD hS hl
  exact lv_iadd hx hb d  (kk H locs ls hP hD hS hl)

theorem g_isub (K : zOk E J own cc nL ret Ts R nm X post) {x y : Int32} (d : decode cc pc = .ok (.isub, 1))  (kk : J c n w (pc + 1) lv (.int (x - y) :: st)) : J c n w pc lv (.int y :: .int x :: st) := by
  obtain ⟨p, e, s, m, args, below, meth, cd, A, hx, hb, hml, hown, hts, hK, hA, hr, hlk, hnm, hX, rfl⟩ := K
  intro H locs ls hP hD hS hl
  exact lv_isub hx hb d  (kk H locs ls hP hD hS hl)

theorem g_imul (K : zOk E J own cc nL ret Ts R nm X post) {x y : Int32} (d : decode cc pc = .ok (.imul, 1))  (kk : J c n w (pc + 1) lv (.int (x * y) :: st)) : J c n w pc lv (.int y :: .int x :: st) := by
  obtain ⟨p, e, s, m, args, below, meth, cd, A, hx, hb, hml, hown, hts, hK, hA, hr, hlk, hnm, hX, rfl⟩ := K
  intro H locs ls hP hD hS hl
  exact lv_imul hx hb d  (kk H locs ls hP hD hS hl)

theorem g_iand (K : zOk E J own cc nL ret Ts R nm X post) {x y : Int32} (d : decode cc pc = .ok (.iand, 1))  (kk : J c n w (pc + 1) lv (.int (x &&& y) :: st)) : J c n w pc lv (.int y :: .int x :: st) := by
  obtain ⟨p, e, s, m, args, below, meth, cd, A, hx, hb, hml, hown, hts, hK, hA, hr, hlk, hnm, hX, rfl⟩ := K
  intro H locs ls hP hD hS hl
  exact lv_iand hx hb d  (kk H locs ls hP hD hS hl)

theorem g_irem (K : zOk E J own cc nL ret Ts R nm X post) {x y : Int32} (d : decode cc pc = .ok (.irem, 1)) (hne : ¬ y = 0) (kk : J c n w (pc + 1) lv (.int (x - x / y * y) :: st)) : J c n w pc lv (.int y :: .int x :: st) := by
  obtain ⟨p, e, s, m, args, below, meth, cd, A, hx, hb, hml, hown, hts, hK, hA, hr, hlk, hnm, hX, rfl⟩ := K
  intro H locs ls hP hD hS hl
  exact lv_irem hx hb d hne (kk H locs ls hP hD hS hl)

theorem g_ladd (K : zOk E J own cc nL ret Ts R nm X post) {x y : Int64} (d : decode cc pc = .ok (.ladd, 1))  (kk : J c n w (pc + 1) lv (.long (x + y) :: st)) : J c n w pc lv (.long y :: .long x :: st) := by
  obtain ⟨p, e, s, m, args, below, meth, cd, A, hx, hb, hml, hown, hts, hK, hA, hr, hlk, hnm, hX, rfl⟩ := K
  intro H locs ls hP hD hS hl
  exact lv_ladd hx hb d  (kk H locs ls hP hD hS hl)

theorem g_lsub (K : zOk E J own cc nL ret Ts R nm X post) {x y : Int64} (d : decode cc pc = .ok (.lsub, 1))  (kk : J c n w (pc + 1) lv (.long (x - y) :: st)) : J c n w pc lv (.long y :: .long x :: st) := by
  obtain ⟨p, e, s, m, args, below, meth, cd, A, hx, hb, hml, hown, hts, hK, hA, hr, hlk, hnm, hX, rfl⟩ := K
  intro H locs ls hP hD hS hl
  exact lv_lsub hx hb d  (kk H locs ls hP hD hS hl)

theorem g_lmul (K : zOk E J own cc nL ret Ts R nm X post) {x y : Int64} (d : decode cc pc = .ok (.lmul, 1))  (kk : J c n w (pc + 1) lv (.long (x * y) :: st)) : J c n w pc lv (.long y :: .long x :: st) := by
  obtain ⟨p, e, s, m, args, below, meth, cd, A, hx, hb, hml, hown, hts, hK, hA, hr, hlk, hnm, hX, rfl⟩ := K
  intro H locs ls hP hD hS hl
  exact lv_lmul hx hb d  (kk H locs ls hP hD hS hl)

theorem g_ldiv (K : zOk E J own cc nL ret Ts R nm X post) {x y : Int64} (d : decode cc pc = .ok (.ldiv, 1)) (hne : ¬ y = 0) (kk : J c n w (pc + 1) lv (.long (x / y) :: st)) : J c n w pc lv (.long y :: .long x :: st) := by
  obtain ⟨p, e, s, m, args, below, meth, cd, A, hx, hb, hml, hown, hts, hK, hA, hr, hlk, hnm, hX, rfl⟩ := K
  intro H locs ls hP hD hS hl
  exact lv_ldiv hx hb d hne (kk H locs ls hP hD hS hl)

theorem g_lrem (K : zOk E J own cc nL ret Ts R nm X post) {x y : Int64} (d : decode cc pc = .ok (.lrem, 1)) (hne : ¬ y = 0) (kk : J c n w (pc + 1) lv (.long (x - x / y * y) :: st)) : J c n w pc lv (.long y :: .long x :: st) := by
  obtain ⟨p, e, s, m, args, below, meth, cd, A, hx, hb, hml, hown, hts, hK, hA, hr, hlk, hnm, hX, rfl⟩ := K
  intro H locs ls hP hD hS hl
  exact lv_lrem hx hb d hne (kk H locs ls hP hD hS hl)

theorem g_lneg (K : zOk E J own cc nL ret Ts R nm X post) {x : Int64} (d : decode cc pc = .ok (.lneg, 1)) (kk : J c n w (pc + 1) lv (.long (-x) :: st)) : J c n w pc lv (.long x :: st) := by
  obtain ⟨p, e, s, m, args, below, meth, cd, A, hx, hb, hml, hown, hts, hK, hA, hr, hlk, hnm, hX, rfl⟩ := K
  intro H locs ls hP hD hS hl
  exact lv_lneg hx hb d (kk H locs ls hP hD hS hl)

theorem g_i2l (K : zOk E J own cc nL ret Ts R nm X post) {x : Int32} (d : decode cc pc = .ok (.i2l, 1)) (kk : J c n w (pc + 1) lv (.long x.toInt64 :: st)) : J c n w pc lv (.int x :: st) := by
  obtain ⟨p, e, s, m, args, below, meth, cd, A, hx, hb, hml, hown, hts, hK, hA, hr, hlk, hnm, hX, rfl⟩ := K
  intro H locs ls hP hD hS hl
  exact lv_i2l hx hb d rfl (kk H locs ls hP hD hS hl)

theorem g_l2i (K : zOk E J own cc nL ret Ts R nm X post) {x : Int64} (d : decode cc pc = .ok (.l2i, 1)) (kk : J c n w (pc + 1) lv (.int x.toInt32 :: st)) : J c n w pc lv (.long x :: st) := by
  obtain ⟨p, e, s, m, args, below, meth, cd, A, hx, hb, hml, hown, hts, hK, hA, hr, hlk, hnm, hX, rfl⟩ := K
  intro H locs ls hP hD hS hl
  exact lv_l2i hx hb d rfl (kk H locs ls hP hD hS hl)

theorem g_dup (K : zOk E J own cc nL ret Ts R nm X post) {v : Value} (d : decode cc pc = .ok (.dup, 1)) (hv : v.category = 1) (kk : J c n w (pc + 1) lv (v :: v :: st)) : J c n w pc lv (v :: st) := by
  obtain ⟨p, e, s, m, args, below, meth, cd, A, hx, hb, hml, hown, hts, hK, hA, hr, hlk, hnm, hX, rfl⟩ := K
  intro H locs ls hP hD hS hl
  exact lv_dup hx hb d hv (kk H locs ls hP hD hS hl)

theorem g_dup2_11 (K : zOk E J own cc nL ret Ts R nm X post) {v u : Value} (d : decode cc pc = .ok (.dup2, 1)) (hv : v.category = 1) (hu : u.category = 1) (kk : J c n w (pc + 1) lv (v :: u :: v :: u :: st)) : J c n w pc lv (v :: u :: st) := by
  obtain ⟨p, e, s, m, args, below, meth, cd, A, hx, hb, hml, hown, hts, hK, hA, hr, hlk, hnm, hX, rfl⟩ := K
  intro H locs ls hP hD hS hl
  exact lv_dup2_11 hx hb d hv hu (kk H locs ls hP hD hS hl)

theorem g_dup2_2 (K : zOk E J own cc nL ret Ts R nm X post) {v : Value} (d : decode cc pc = .ok (.dup2, 1)) (hv : v.category = 2) (kk : J c n w (pc + 1) lv (v :: v :: st)) : J c n w pc lv (v :: st) := by
  obtain ⟨p, e, s, m, args, below, meth, cd, A, hx, hb, hml, hown, hts, hK, hA, hr, hlk, hnm, hX, rfl⟩ := K
  intro H locs ls hP hD hS hl
  exact lv_dup2_2 hx hb d hv (kk H locs ls hP hD hS hl)

theorem g_istore (K : zOk E J own cc nL ret Ts R nm X post) {i : Nat} {x : Int32} {lv' : List (Nat × Value)} (d : decode cc pc = .ok (.istore i, 2)) (hn : i < nL) (hl : (i, Value.int x) :: lv.filter (fun q => !(q.1 == i) && !(q.1 + 1 == i && q.2.category == 2)) = lv') (kk : J c n w (pc + 2) lv' st) : J c n w pc lv (.int x :: st) := by
  obtain ⟨p, e, s, m, args, below, meth, cd, A, hx, hb, hml, hown, hts, hK, hA, hr, hlk, hnm, hX, rfl⟩ := K
  intro H locs ls hP hD hS hl
  exact lv_istore hx hb d hl hn (by assumption) (fun ls' hl' => kk H locs ls' hP hD hS hl')

theorem g_istore_n (K : zOk E J own cc nL ret Ts R nm X post) {k : Fin 4} {i : Nat} {x : Int32} {lv' : List (Nat × Value)} (d : decode cc pc = .ok (.istore_n k, 1)) (hi : (k : Nat) = i) (hn : i < nL) (hl : (i, Value.int x) :: lv.filter (fun q => !(q.1 == i) && !(q.1 + 1 == i && q.2.category == 2)) = lv') (kk : J c n w (pc + 1) lv' st) : J c n w pc lv (.int x :: st) := by
  obtain ⟨p, e, s, m, args, below, meth, cd, A, hx, hb, hml, hown, hts, hK, hA, hr, hlk, hnm, hX, rfl⟩ := K
  intro H locs ls hP hD hS hl
  exact lv_istore_n hx hb d hi hl hn (by assumption) (fun ls' hl' => kk H locs ls' hP hD hS hl')

theorem g_astore (K : zOk E J own cc nL ret Ts R nm X post) {i : Nat} {x : Nat} {lv' : List (Nat × Value)} (d : decode cc pc = .ok (.astore i, 2)) (hn : i < nL) (hl : (i, Value.ref x) :: lv.filter (fun q => !(q.1 == i) && !(q.1 + 1 == i && q.2.category == 2)) = lv') (kk : J c n w (pc + 2) lv' st) : J c n w pc lv (.ref x :: st) := by
  obtain ⟨p, e, s, m, args, below, meth, cd, A, hx, hb, hml, hown, hts, hK, hA, hr, hlk, hnm, hX, rfl⟩ := K
  intro H locs ls hP hD hS hl
  exact lv_astore hx hb d hl hn (by assumption) (fun ls' hl' => kk H locs ls' hP hD hS hl')

theorem g_astore_n (K : zOk E J own cc nL ret Ts R nm X post) {k : Fin 4} {i : Nat} {x : Nat} {lv' : List (Nat × Value)} (d : decode cc pc = .ok (.astore_n k, 1)) (hi : (k : Nat) = i) (hn : i < nL) (hl : (i, Value.ref x) :: lv.filter (fun q => !(q.1 == i) && !(q.1 + 1 == i && q.2.category == 2)) = lv') (kk : J c n w (pc + 1) lv' st) : J c n w pc lv (.ref x :: st) := by
  obtain ⟨p, e, s, m, args, below, meth, cd, A, hx, hb, hml, hown, hts, hK, hA, hr, hlk, hnm, hX, rfl⟩ := K
  intro H locs ls hP hD hS hl
  exact lv_astore_n hx hb d hi hl hn (by assumption) (fun ls' hl' => kk H locs ls' hP hD hS hl')

theorem g_lstore (K : zOk E J own cc nL ret Ts R nm X post) {i : Nat} {x : Int64} {lv' : List (Nat × Value)} (d : decode cc pc = .ok (.lstore i, 2)) (hn : i + 1 < nL) (hl : (i, Value.long x) :: lv.filter (fun q => !(q.1 == i) && (!(q.1 == i + 1) && !(q.1 + 1 == i && q.2.category == 2))) = lv') (kk : J c n w (pc + 2) lv' st) : J c n w pc lv (.long x :: st) := by
  obtain ⟨p, e, s, m, args, below, meth, cd, A, hx, hb, hml, hown, hts, hK, hA, hr, hlk, hnm, hX, rfl⟩ := K
  intro H locs ls hP hD hS hl
  exact lv_lstore hx hb d hl hn (by assumption) (fun ls' hl' => kk H locs ls' hP hD hS hl')

theorem g_lstore_n (K : zOk E J own cc nL ret Ts R nm X post) {k : Fin 4} {i : Nat} {x : Int64} {lv' : List (Nat × Value)} (d : decode cc pc = .ok (.lstore_n k, 1)) (hi : (k : Nat) = i) (hn : i + 1 < nL) (hl : (i, Value.long x) :: lv.filter (fun q => !(q.1 == i) && (!(q.1 == i + 1) && !(q.1 + 1 == i && q.2.category == 2))) = lv') (kk : J c n w (pc + 1) lv' st) : J c n w pc lv (.long x :: st) := by
  obtain ⟨p, e, s, m, args, below, meth, cd, A, hx, hb, hml, hown, hts, hK, hA, hr, hlk, hnm, hX, rfl⟩ := K
  intro H locs ls hP hD hS hl
  exact lv_lstore_n hx hb d hi hl hn (by assumption) (fun ls' hl' => kk H locs ls' hP hD hS hl')

theorem g_astoreN (K : zOk E J own cc nL ret Ts R nm X post) {i : Nat} {lv' : List (Nat × Value)} (d : decode cc pc = .ok (.astore i, 2)) (hn : i < nL) (hl : (i, Value.null) :: lv.filter (fun q => !(q.1 == i) && !(q.1 + 1 == i && q.2.category == 2)) = lv') (kk : J c n w (pc + 2) lv' st) : J c n w pc lv (.null :: st) := by
  obtain ⟨p, e, s, m, args, below, meth, cd, A, hx, hb, hml, hown, hts, hK, hA, hr, hlk, hnm, hX, rfl⟩ := K
  intro H locs ls hP hD hS hl
  exact lv_astoreN hx hb d hl hn (by assumption) (fun ls' hl' => kk H locs ls' hP hD hS hl')

theorem g_astore_nN (K : zOk E J own cc nL ret Ts R nm X post) {k : Fin 4} {i : Nat} {lv' : List (Nat × Value)} (d : decode cc pc = .ok (.astore_n k, 1)) (hi : (k : Nat) = i) (hn : i < nL) (hl : (i, Value.null) :: lv.filter (fun q => !(q.1 == i) && !(q.1 + 1 == i && q.2.category == 2)) = lv') (kk : J c n w (pc + 1) lv' st) : J c n w pc lv (.null :: st) := by
  obtain ⟨p, e, s, m, args, below, meth, cd, A, hx, hb, hml, hown, hts, hK, hA, hr, hlk, hnm, hX, rfl⟩ := K
  intro H locs ls hP hD hS hl
  exact lv_astore_nN hx hb d hi hl hn (by assumption) (fun ls' hl' => kk H locs ls' hP hD hS hl')

theorem g_iinc (K : zOk E J own cc nL ret Ts R nm X post) {i : Nat} {z : Int} {x v : Int32} {lv' : List (Nat × Value)} (d : decode cc pc = .ok (.iinc i z, 3)) (j : Nat) (h : lv[j]? = some (i, .int x)) (hv : x + Int32.ofInt z = v) (hn : i < nL) (hl : (i, Value.int v) :: lv.filter (fun q => !(q.1 == i) && !(q.1 + 1 == i && q.2.category == 2)) = lv') (kk : J c n w (pc + 3) lv' st) : J c n w pc lv st := by
  obtain ⟨p, e, s, m, args, below, meth, cd, A, hx, hb, hml, hown, hts, hK, hA, hr, hlk, hnm, hX, rfl⟩ := K
  intro H locs ls hP hD hS hl
  exact lv_iinc hx hb d hl h hv hn (by assumption) (fun ls' hl' => kk H locs ls' hP hD hS hl')

theorem g_goto (K : zOk E J own cc nL ret Ts R nm X post) {off : Int} {tgt : Nat} (d : decode cc pc = .ok (.goto off, 3)) (ht : (pc : Int) + off = (tgt : Int)) (kk : J c n w tgt lv st) : J c n w pc lv st := by
  obtain ⟨p, e, s, m, args, below, meth, cd, A, hx, hb, hml, hown, hts, hK, hA, hr, hlk, hnm, hX, rfl⟩ := K
  intro H locs ls hP hD hS hl
  exact lv_goto hx hb d ht (kk H locs ls hP hD hS hl)

theorem g_ifnull (K : zOk E J own cc nL ret Ts R nm X post) {x : Nat} {off : Int} (d : decode cc pc = .ok (.ifnull off, 3)) (kk : J c n w (pc + 3) lv st) : J c n w pc lv (.ref x :: st) := by
  obtain ⟨p, e, s, m, args, below, meth, cd, A, hx, hb, hml, hown, hts, hK, hA, hr, hlk, hnm, hX, rfl⟩ := K
  intro H locs ls hP hD hS hl
  exact lv_ifnull hx hb d (kk H locs ls hP hD hS hl)

theorem g_ifnullN (K : zOk E J own cc nL ret Ts R nm X post) {off : Int} {tgt : Nat} (d : decode cc pc = .ok (.ifnull off, 3)) (ht : (pc : Int) + off = (tgt : Int)) (kk : J c n w tgt lv st) : J c n w pc lv (.null :: st) := by
  obtain ⟨p, e, s, m, args, below, meth, cd, A, hx, hb, hml, hown, hts, hK, hA, hr, hlk, hnm, hX, rfl⟩ := K
  intro H locs ls hP hD hS hl
  exact lv_ifnullN hx hb d ht (kk H locs ls hP hD hS hl)

theorem g_ifnonnull (K : zOk E J own cc nL ret Ts R nm X post) {x : Nat} {off : Int} {tgt : Nat} (d : decode cc pc = .ok (.ifnonnull off, 3)) (ht : (pc : Int) + off = (tgt : Int)) (kk : J c n w tgt lv st) : J c n w pc lv (.ref x :: st) := by
  obtain ⟨p, e, s, m, args, below, meth, cd, A, hx, hb, hml, hown, hts, hK, hA, hr, hlk, hnm, hX, rfl⟩ := K
  intro H locs ls hP hD hS hl
  exact lv_ifnonnull hx hb d ht (kk H locs ls hP hD hS hl)

theorem g_ifnonnullN (K : zOk E J own cc nL ret Ts R nm X post) {off : Int} (d : decode cc pc = .ok (.ifnonnull off, 3)) (kk : J c n w (pc + 3) lv st) : J c n w pc lv (.null :: st) := by
  obtain ⟨p, e, s, m, args, below, meth, cd, A, hx, hb, hml, hown, hts, hK, hA, hr, hlk, hnm, hX, rfl⟩ := K
  intro H locs ls hP hD hS hl
  exact lv_ifnonnullN hx hb d (kk H locs ls hP hD hS hl)

theorem g_if_eq (K : zOk E J own cc nL ret Ts R nm X post) {x : Int32} {off : Int} {tgt : Nat} (d : decode cc pc = .ok (.ifCond .eq off, 3)) (ht : (pc : Int) + off = (tgt : Int)) (kt : x = 0 → J c n w tgt lv st) (kf : ¬ (x = 0) → J c n w (pc + 3) lv st) : J c n w pc lv (.int x :: st) := by
  obtain ⟨p, e, s, m, args, below, meth, cd, A, hx, hb, hml, hown, hts, hK, hA, hr, hlk, hnm, hX, rfl⟩ := K
  intro H locs ls hP hD hS hl
  exact lv_if_eq hx hb d ht (fun q => kt q H locs ls hP hD hS hl) (fun q => kf q H locs ls hP hD hS hl)

theorem g_icmp_eq (K : zOk E J own cc nL ret Ts R nm X post) {x y : Int32} {off : Int} {tgt : Nat} (d : decode cc pc = .ok (.if_icmp .eq off, 3)) (ht : (pc : Int) + off = (tgt : Int)) (kt : x = y → J c n w tgt lv st) (kf : ¬ (x = y) → J c n w (pc + 3) lv st) : J c n w pc lv (.int y :: .int x :: st) := by
  obtain ⟨p, e, s, m, args, below, meth, cd, A, hx, hb, hml, hown, hts, hK, hA, hr, hlk, hnm, hX, rfl⟩ := K
  intro H locs ls hP hD hS hl
  exact lv_icmp_eq hx hb d ht (fun q => kt q H locs ls hP hD hS hl) (fun q => kf q H locs ls hP hD hS hl)

theorem g_if_ne (K : zOk E J own cc nL ret Ts R nm X post) {x : Int32} {off : Int} {tgt : Nat} (d : decode cc pc = .ok (.ifCond .ne off, 3)) (ht : (pc : Int) + off = (tgt : Int)) (kt : ¬ x = 0 → J c n w tgt lv st) (kf : x = 0 → J c n w (pc + 3) lv st) : J c n w pc lv (.int x :: st) := by
  obtain ⟨p, e, s, m, args, below, meth, cd, A, hx, hb, hml, hown, hts, hK, hA, hr, hlk, hnm, hX, rfl⟩ := K
  intro H locs ls hP hD hS hl
  exact lv_if_ne hx hb d ht (fun q => kt q H locs ls hP hD hS hl) (fun q => kf q H locs ls hP hD hS hl)

theorem g_icmp_ne (K : zOk E J own cc nL ret Ts R nm X post) {x y : Int32} {off : Int} {tgt : Nat} (d : decode cc pc = .ok (.if_icmp .ne off, 3)) (ht : (pc : Int) + off = (tgt : Int)) (kt : ¬ x = y → J c n w tgt lv st) (kf : x = y → J c n w (pc + 3) lv st) : J c n w pc lv (.int y :: .int x :: st) := by
  obtain ⟨p, e, s, m, args, below, meth, cd, A, hx, hb, hml, hown, hts, hK, hA, hr, hlk, hnm, hX, rfl⟩ := K
  intro H locs ls hP hD hS hl
  exact lv_icmp_ne hx hb d ht (fun q => kt q H locs ls hP hD hS hl) (fun q => kf q H locs ls hP hD hS hl)

theorem g_if_lt (K : zOk E J own cc nL ret Ts R nm X post) {x : Int32} {off : Int} {tgt : Nat} (d : decode cc pc = .ok (.ifCond .lt off, 3)) (ht : (pc : Int) + off = (tgt : Int)) (kt : x < 0 → J c n w tgt lv st) (kf : ¬ (x < 0) → J c n w (pc + 3) lv st) : J c n w pc lv (.int x :: st) := by
  obtain ⟨p, e, s, m, args, below, meth, cd, A, hx, hb, hml, hown, hts, hK, hA, hr, hlk, hnm, hX, rfl⟩ := K
  intro H locs ls hP hD hS hl
  exact lv_if_lt hx hb d ht (fun q => kt q H locs ls hP hD hS hl) (fun q => kf q H locs ls hP hD hS hl)

theorem g_icmp_lt (K : zOk E J own cc nL ret Ts R nm X post) {x y : Int32} {off : Int} {tgt : Nat} (d : decode cc pc = .ok (.if_icmp .lt off, 3)) (ht : (pc : Int) + off = (tgt : Int)) (kt : x < y → J c n w tgt lv st) (kf : ¬ (x < y) → J c n w (pc + 3) lv st) : J c n w pc lv (.int y :: .int x :: st) := by
  obtain ⟨p, e, s, m, args, below, meth, cd, A, hx, hb, hml, hown, hts, hK, hA, hr, hlk, hnm, hX, rfl⟩ := K
  intro H locs ls hP hD hS hl
  exact lv_icmp_lt hx hb d ht (fun q => kt q H locs ls hP hD hS hl) (fun q => kf q H locs ls hP hD hS hl)

theorem g_if_ge (K : zOk E J own cc nL ret Ts R nm X post) {x : Int32} {off : Int} {tgt : Nat} (d : decode cc pc = .ok (.ifCond .ge off, 3)) (ht : (pc : Int) + off = (tgt : Int)) (kt : 0 ≤ x → J c n w tgt lv st) (kf : ¬ (0 ≤ x) → J c n w (pc + 3) lv st) : J c n w pc lv (.int x :: st) := by
  obtain ⟨p, e, s, m, args, below, meth, cd, A, hx, hb, hml, hown, hts, hK, hA, hr, hlk, hnm, hX, rfl⟩ := K
  intro H locs ls hP hD hS hl
  exact lv_if_ge hx hb d ht (fun q => kt q H locs ls hP hD hS hl) (fun q => kf q H locs ls hP hD hS hl)

theorem g_icmp_ge (K : zOk E J own cc nL ret Ts R nm X post) {x y : Int32} {off : Int} {tgt : Nat} (d : decode cc pc = .ok (.if_icmp .ge off, 3)) (ht : (pc : Int) + off = (tgt : Int)) (kt : y ≤ x → J c n w tgt lv st) (kf : ¬ (y ≤ x) → J c n w (pc + 3) lv st) : J c n w pc lv (.int y :: .int x :: st) := by
  obtain ⟨p, e, s, m, args, below, meth, cd, A, hx, hb, hml, hown, hts, hK, hA, hr, hlk, hnm, hX, rfl⟩ := K
  intro H locs ls hP hD hS hl
  exact lv_icmp_ge hx hb d ht (fun q => kt q H locs ls hP hD hS hl) (fun q => kf q H locs ls hP hD hS hl)

theorem g_if_gt (K : zOk E J own cc nL ret Ts R nm X post) {x : Int32} {off : Int} {tgt : Nat} (d : decode cc pc = .ok (.ifCond .gt off, 3)) (ht : (pc : Int) + off = (tgt : Int)) (kt : 0 < x → J c n w tgt lv st) (kf : ¬ (0 < x) → J c n w (pc + 3) lv st) : J c n w pc lv (.int x :: st) := by
  obtain ⟨p, e, s, m, args, below, meth, cd, A, hx, hb, hml, hown, hts, hK, hA, hr, hlk, hnm, hX, rfl⟩ := K
  intro H locs ls hP hD hS hl
  exact lv_if_gt hx hb d ht (fun q => kt q H locs ls hP hD hS hl) (fun q => kf q H locs ls hP hD hS hl)

theorem g_icmp_gt (K : zOk E J own cc nL ret Ts R nm X post) {x y : Int32} {off : Int} {tgt : Nat} (d : decode cc pc = .ok (.if_icmp .gt off, 3)) (ht : (pc : Int) + off = (tgt : Int)) (kt : y < x → J c n w tgt lv st) (kf : ¬ (y < x) → J c n w (pc + 3) lv st) : J c n w pc lv (.int y :: .int x :: st) := by
  obtain ⟨p, e, s, m, args, below, meth, cd, A, hx, hb, hml, hown, hts, hK, hA, hr, hlk, hnm, hX, rfl⟩ := K
  intro H locs ls hP hD hS hl
  exact lv_icmp_gt hx hb d ht (fun q => kt q H locs ls hP hD hS hl) (fun q => kf q H locs ls hP hD hS hl)

theorem g_if_le (K : zOk E J own cc nL ret Ts R nm X post) {x : Int32} {off : Int} {tgt : Nat} (d : decode cc pc = .ok (.ifCond .le off, 3)) (ht : (pc : Int) + off = (tgt : Int)) (kt : x ≤ 0 → J c n w tgt lv st) (kf : ¬ (x ≤ 0) → J c n w (pc + 3) lv st) : J c n w pc lv (.int x :: st) := by
  obtain ⟨p, e, s, m, args, below, meth, cd, A, hx, hb, hml, hown, hts, hK, hA, hr, hlk, hnm, hX, rfl⟩ := K
  intro H locs ls hP hD hS hl
  exact lv_if_le hx hb d ht (fun q => kt q H locs ls hP hD hS hl) (fun q => kf q H locs ls hP hD hS hl)

theorem g_icmp_le (K : zOk E J own cc nL ret Ts R nm X post) {x y : Int32} {off : Int} {tgt : Nat} (d : decode cc pc = .ok (.if_icmp .le off, 3)) (ht : (pc : Int) + off = (tgt : Int)) (kt : x ≤ y → J c n w tgt lv st) (kf : ¬ (x ≤ y) → J c n w (pc + 3) lv st) : J c n w pc lv (.int y :: .int x :: st) := by
  obtain ⟨p, e, s, m, args, below, meth, cd, A, hx, hb, hml, hown, hts, hK, hA, hr, hlk, hnm, hX, rfl⟩ := K
  intro H locs ls hP hD hS hl
  exact lv_icmp_le hx hb d ht (fun q => kt q H locs ls hP hD hS hl) (fun q => kf q H locs ls hP hD hS hl)

theorem g_lcmp_eq (K : zOk E J own cc nL ret Ts R nm X post) {x y : Int64} {off : Int} {tgt pc2 : Nat} (d : decode cc pc = .ok (.lcmp, 1)) (d2 : decode cc pc2 = .ok (.ifCond .eq off, 3)) (hp : pc + 1 = pc2) (ht : (pc2 : Int) + off = (tgt : Int)) (kt : x = y → J c n w tgt lv st) (kf : ¬ (x = y) → J c n w (pc2 + 3) lv st) : J c n w pc lv (.long y :: .long x :: st) := by
  obtain ⟨p, e, s, m, args, below, meth, cd, A, hx, hb, hml, hown, hts, hK, hA, hr, hlk, hnm, hX, rfl⟩ := K
  intro H locs ls hP hD hS hl
  subst hp
  refine W.lcmp hx hb d ?_
  exact lv_if_eq hx hb d2 ht (fun q => kt ((z_cmp_eq x y).mp q) H locs ls hP hD hS hl) (fun q => kf (fun h => q ((z_cmp_eq x y).mpr h)) H locs ls hP hD hS hl)

theorem g_lcmp_ne (K : zOk E J own cc nL ret Ts R nm X post) {x y : Int64} {off : Int} {tgt pc2 : Nat} (d : decode cc pc = .ok (.lcmp, 1)) (d2 : decode cc pc2 = .ok (.ifCond .ne off, 3)) (hp : pc + 1 = pc2) (ht : (pc2 : Int) + off = (tgt : Int)) (kt : x ≠ y → J c n w tgt lv st) (kf : x = y → J c n w (pc2 + 3) lv st) : J c n w pc lv (.long y :: .long x :: st) := by
  obtain ⟨p, e, s, m, args, below, meth, cd, A, hx, hb, hml, hown, hts, hK, hA, hr, hlk, hnm, hX, rfl⟩ := K
  intro H locs ls hP hD hS hl
  subst hp
  refine W.lcmp hx hb d ?_
  exact lv_if_ne hx hb d2 ht (fun q => kt ((z_cmp_ne x y).mp q) H locs ls hP hD hS hl) (fun q => kf ((z_cmp_eq x y).mp q) H locs ls hP hD hS hl)

theorem g_lcmp_lt (K : zOk E J own cc nL ret Ts R nm X post) {x y : Int64} {off : Int} {tgt pc2 : Nat} (d : decode cc pc = .ok (.lcmp, 1)) (d2 : decode cc pc2 = .ok (.ifCond .lt off, 3)) (hp : pc + 1 = pc2) (ht : (pc2 : Int) + off = (tgt : Int)) (kt : x < y → J c n w tgt lv st) (kf : ¬ (x < y) → J c n w (pc2 + 3) lv st) : J c n w pc lv (.long y :: .long x :: st) := by
  obtain ⟨p, e, s, m, args, below, meth, cd, A, hx, hb, hml, hown, hts, hK, hA, hr, hlk, hnm, hX, rfl⟩ := K
  intro H locs ls hP hD hS hl
  subst hp
  refine W.lcmp hx hb d ?_
  exact lv_if_lt hx hb d2 ht (fun q => kt ((z_cmp_lt x y).mp q) H locs ls hP hD hS hl) (fun q => kf (fun h => q ((z_cmp_lt x y).mpr h)) H locs ls hP hD hS hl)

theorem g_lcmp_ge (K : zOk E J own cc nL ret Ts R nm X post) {x y : Int64} {off : Int} {tgt pc2 : Nat} (d : decode cc pc = .ok (.lcmp, 1)) (d2 : decode cc pc2 = .ok (.ifCond .ge off, 3)) (hp : pc + 1 = pc2) (ht : (pc2 : Int) + off = (tgt : Int)) (kt : y ≤ x → J c n w tgt lv st) (kf : ¬ (y ≤ x) → J c n w (pc2 + 3) lv st) : J c n w pc lv (.long y :: .long x :: st) := by
  obtain ⟨p, e, s, m, args, below, meth, cd, A, hx, hb, hml, hown, hts, hK, hA, hr, hlk, hnm, hX, rfl⟩ := K
  intro H locs ls hP hD hS hl
  subst hp
  refine W.lcmp hx hb d ?_
  exact lv_if_ge hx hb d2 ht (fun q => kt ((z_cmp_ge x y).mp q) H locs ls hP hD hS hl) (fun q => kf (fun h => q ((z_cmp_ge x y).mpr h)) H locs ls hP hD hS hl)

theorem g_lcmp_gt (K : zOk E J own cc nL ret Ts R nm X post) {x y : Int64} {off : Int} {tgt pc2 : Nat} (d : decode cc pc = .ok (.lcmp, 1)) (d2 : decode cc pc2 = .ok (.ifCond .gt off, 3)) (hp : pc + 1 = pc2) (ht : (pc2 : Int) + off = (tgt : Int)) (kt : y < x → J c n w tgt lv st) (kf : ¬ (y < x) → J c n w (pc2 + 3) lv st) : J c n w pc lv (.long y :: .long x :: st) := by
  obtain ⟨p, e, s, m, args, below, meth, cd, A, hx, hb, hml, hown, hts, hK, hA, hr, hlk, hnm, hX, rfl⟩ := K
  intro H locs ls hP hD hS hl
  subst hp
  refine W.lcmp hx hb d ?_
  exact lv_if_gt hx hb d2 ht (fun q => kt ((z_cmp_gt x y).mp q) H locs ls hP hD hS hl) (fun q => kf (fun h => q ((z_cmp_gt x y).mpr h)) H locs ls hP hD hS hl)

theorem g_lcmp_le (K : zOk E J own cc nL ret Ts R nm X post) {x y : Int64} {off : Int} {tgt pc2 : Nat} (d : decode cc pc = .ok (.lcmp, 1)) (d2 : decode cc pc2 = .ok (.ifCond .le off, 3)) (hp : pc + 1 = pc2) (ht : (pc2 : Int) + off = (tgt : Int)) (kt : x ≤ y → J c n w tgt lv st) (kf : ¬ (x ≤ y) → J c n w (pc2 + 3) lv st) : J c n w pc lv (.long y :: .long x :: st) := by
  obtain ⟨p, e, s, m, args, below, meth, cd, A, hx, hb, hml, hown, hts, hK, hA, hr, hlk, hnm, hX, rfl⟩ := K
  intro H locs ls hP hD hS hl
  subst hp
  refine W.lcmp hx hb d ?_
  exact lv_if_le hx hb d2 ht (fun q => kt ((z_cmp_le x y).mp q) H locs ls hP hD hS hl) (fun q => kf (fun h => q ((z_cmp_le x y).mpr h)) H locs ls hP hD hS hl)

theorem g_tsin (K : zOk E J own cc nL ret Ts R nm X post) {dflt hi : Int} {offs : Array Int} {len : Nat} {x : Int32} {off : Int} {tgt : Nat} (d : decode cc pc = .ok (.tableswitch dflt 0 hi offs, len)) (j : Nat) (hxj : x = nI j) (hj : (j : Int) ≤ hi ∧ j < 2 ^ 31) (ho : offs[j]? = some off) (ht : (pc : Int) + off = (tgt : Int)) (kk : J c n w tgt lv st) : J c n w pc lv (.int x :: st) := by
  obtain ⟨p, e, s, m, args, below, meth, cd, A, hx, hb, hml, hown, hts, hK, hA, hr, hlk, hnm, hX, rfl⟩ := K
  intro H locs ls hP hD hS hl
  subst hxj
  have hj2 := nI_toInt hj.2
  exact lv_tableIn hx hb d (by rw [hj2]; omega) (by rw [hj2]; omega) (by rw [hj2]; simpa using ho) ht (kk H locs ls hP hD hS hl)

theorem g_tsout (K : zOk E J own cc nL ret Ts R nm X post) {dflt hi : Int} {offs : Array Int} {len : Nat} {x : Int32} {tgt : Nat} (d : decode cc pc = .ok (.tableswitch dflt 0 hi offs, len)) (h : x.toInt < 0 ∨ hi < x.toInt) (ht : (pc : Int) + dflt = (tgt : Int)) (kk : J c n w tgt lv st) : J c n w pc lv (.int x :: st) := by
  obtain ⟨p, e, s, m, args, below, meth, cd, A, hx, hb, hml, hown, hts, hK, hA, hr, hlk, hnm, hX, rfl⟩ := K
  intro H locs ls hP hD hS hl
  exact lv_tableOut hx hb d h ht (kk H locs ls hP hD hS hl)

theorem g_get (K : zOk E J own cc nL ret Ts R nm X post) {C : String} {T : u_T} {N ci idx : Nat} {fs : List Value} {v : Value} {a : Nat} (d : decode cc pc = .ok (.getfield idx, 3)) (q : Nat) (he : w[q]? = some (a, .inr (ci, fs))) (hc : vwCl[ci]? = some (C, T, N)) (hin : ∀ w ∈ u_ws C T N, w ∈ Ts) (k : Nat) (hk : k < N) (hfl : Cond.fieldLink own idx (T k).1 (T k).2.1 (T k).2.2.1 ∈ Ts) (hv : fs[k]? = some v) (kk : J c n w (pc + 3) lv (v :: st)) : J c n w pc lv (.ref a :: st) := by
  obtain ⟨p, e, s, m, args, below, meth, cd, A, hx, hb, hml, hown, hts, hK, hA, hr, hlk, hnm, hX, rfl⟩ := K
  intro H locs ls hP hD hS hl
  exact va_get hx hb hts hin hown hK hP q he hc k hk (hts _ hfl) (fun _ h9 => h9) hv d (kk H locs ls hP hD hS (by assumption))

theorem g_put (K : zOk E J own cc nL ret Ts R nm X post) {C : String} {T : u_T} {N ci idx : Nat} {fs : List Value} {v : Value} {a : Nat} {ty : FieldType} {w' : va_W} (d : decode cc pc = .ok (.putfield idx, 3)) (q : Nat) (he : w[q]? = some (a, .inr (ci, fs))) (hc : vwCl[ci]? = some (C, T, N)) (hin : ∀ w ∈ u_ws C T N, w ∈ Ts) (ty0 : Nat → FieldType) (hty : ∀ k, k < N → parseFieldDescriptor (T k).2.2.1 = some (ty0 k)) (hnmX : ∀ a, a < N → ∀ b, b < N → a ≠ b → (T a).2.1 ≠ (T b).2.1) (k : Nat) (hk : k < N) (hfl : Cond.fieldLink own idx (T k).1 (T k).2.1 (T k).2.2.1 ∈ Ts) (hfin : (T k).2.2.2 = false) (hty2 : ty0 k = ty) (hn : narrow ty v = v) (hfit : fits ty v = true) (hlen : k < fs.length) (hw : w.set q (a, .inr (ci, fs.set k v)) = w') (kk : J c n w' (pc + 3) lv st) : J c n w pc lv (v :: .ref a :: st) := by
  obtain ⟨p, e, s, m, args, below, meth, cd, A, hx, hb, hml, hown, hts, hK, hA, hr, hlk, hnm, hX, rfl⟩ := K
  intro H locs ls hP hD hS hl
  subst hw
  subst hty2
  exact va_put hx hb hts hin ty0 hty hnmX hown hK hP hD hS q he hc k hk (hts _ hfl) (fun _ h9 => h9) hfin (hty k hk) hn hfit hlen d (fun H1 locs1 hP1 hD1 hS1 => kk H1 locs1 ls hP1 hD1 hS1 (by assumption))

theorem g_putF (K : zOk E J own cc nL ret Ts R nm X post) {C : String} {T : u_T} {N ci idx : Nat} {fs : List Value} {v : Value} {a : Nat} {ty : FieldType} {w' : va_W} (d : decode cc pc = .ok (.putfield idx, 3)) (q : Nat) (he : w[q]? = some (a, .inr (ci, fs))) (hc : vwCl[ci]? = some (C, T, N)) (hin : ∀ w ∈ u_ws C T N, w ∈ Ts) (ty0 : Nat → FieldType) (hty : ∀ k, k < N → parseFieldDescriptor (T k).2.2.1 = some (ty0 k)) (hnmX : ∀ a, a < N → ∀ b, b < N → a ≠ b → (T a).2.1 ≠ (T b).2.1) (k : Nat) (hk : k < N) (hfl : Cond.fieldLink own idx (T k).1 (T k).2.1 (T k).2.2.1 ∈ Ts) (hfin : (T k).2.2.2 = true) (hini : nm = "<init>") (hdecl : (T k).1 = own) (hty2 : ty0 k = ty) (hn : narrow ty v = v) (hfit : fits ty v = true) (hlen : k < fs.length) (hw : w.set q (a, .inr (ci, fs.set k v)) = w') (kk : J c n w' (pc + 3) lv st) : J c n w pc lv (v :: .ref a :: st) := by
  obtain ⟨p, e, s, m, args, below, meth, cd, A, hx, hb, hml, hown, hts, hK, hA, hr, hlk, hnm, hX, rfl⟩ := K
  intro H locs ls hP hD hS hl
  subst hw
  subst hty2
  exact va_putF hx hb hts hin ty0 hty hnmX hown hK hP hD hS q he hc k hk (hts _ hfl) (fun _ h9 => h9) hfin (hnm.trans hini) hdecl (hty k hk) hn hfit hlen d (fun H1 locs1 hP1 hD1 hS1 => kk H1 locs1 ls hP1 hD1 hS1 (by assumption))

theorem g_iald (K : zOk E J own cc nL ret Ts R nm X post) {a z : Nat} {f : Nat → Int32} (d : decode cc pc = .ok (.iaload, 1)) (q : Nat) (ha : w[q]? = some (cI E a z f)) {i : Int32} (j : Nat) (hi : i = nI j) (hj : j < z) (hz : z.ble 4096 = true) (kk : J c n w (pc + 1) lv (.int (f j) :: st)) : J c n w pc lv (.int i :: .ref a :: st) := by
  obtain ⟨p, e, s, m, args, below, meth, cd, A, hx, hb, hml, hown, hts, hK, hA, hr, hlk, hnm, hX, rfl⟩ := K
  intro H locs ls hP hD hS hl
  subst hi
  have hz2 : z < 2 ^ 31 := Nat.lt_of_le_of_lt (Nat.le_of_ble_eq_true hz) (by decide)
  have hin := vp_in_nI hj hz2
  have hcl := nI_clamp (Nat.lt_trans hj hz2)
  refine va_iald hx hb hK hP q 0 ha rfl hin d ?_
  rw [hcl]
  exact kk H locs ls hP hD hS (by assumption)

theorem g_lald (K : zOk E J own cc nL ret Ts R nm X post) {a z : Nat} {f : Nat → Int64} (d : decode cc pc = .ok (.laload, 1)) (q : Nat) (ha : w[q]? = some (cJ E a z f)) {i : Int32} (j : Nat) (hi : i = nI j) (hj : j < z) (hz : z.ble 4096 = true) (kk : J c n w (pc + 1) lv (.long (f j) :: st)) : J c n w pc lv (.int i :: .ref a :: st) := by
  obtain ⟨p, e, s, m, args, below, meth, cd, A, hx, hb, hml, hown, hts, hK, hA, hr, hlk, hnm, hX, rfl⟩ := K
  intro H locs ls hP hD hS hl
  subst hi
  have hz2 : z < 2 ^ 31 := Nat.lt_of_le_of_lt (Nat.le_of_ble_eq_true hz) (by decide)
  have hin := vp_in_nI hj hz2
  have hcl := nI_clamp (Nat.lt_trans hj hz2)
  refine va_lald hx hb hK hP q 1 ha rfl hin d ?_
  rw [hcl]
  exact kk H locs ls hP hD hS (by assumption)

theorem g_aald (K : zOk E J own cc nL ret Ts R nm X post) {a z : Nat} {f : Nat → Option Nat} (d : decode cc pc = .ok (.aaload, 1)) (q : Nat) (ha : w[q]? = some (cQ E a z f)) {i : Int32} (j : Nat) (hi : i = nI j) (hj : j < z) (hz : z.ble 4096 = true) (kk : J c n w (pc + 1) lv (va_rf (f j) :: st)) : J c n w pc lv (.int i :: .ref a :: st) := by
  obtain ⟨p, e, s, m, args, below, meth, cd, A, hx, hb, hml, hown, hts, hK, hA, hr, hlk, hnm, hX, rfl⟩ := K
  intro H locs ls hP hD hS hl
  subst hi
  have hz2 : z < 2 ^ 31 := Nat.lt_of_le_of_lt (Nat.le_of_ble_eq_true hz) (by decide)
  have hin := vp_in_nI hj hz2
  have hcl := nI_clamp (Nat.lt_trans hj hz2)
  refine va_aldq hx hb hK hP q 2 ha rfl hin d ?_
  rw [hcl]
  exact kk H locs ls hP hD hS (by assumption)

theorem g_iast (K : zOk E J own cc nL ret Ts R nm X post) {a z : Nat} {f : Nat → Int32} {x : Int32} {w' : va_W} (d : decode cc pc = .ok (.iastore, 1)) (q : Nat) (ha : w[q]? = some (cI E a z f)) {i : Int32} (j : Nat) (hi : i = nI j) (hj : j < z) (hz : z.ble 4096 = true) (hw : w.set q (cI E a z (upd f j x)) = w') (kk : J c n w' (pc + 1) lv st) : J c n w pc lv (.int x :: .int i :: .ref a :: st) := by
  obtain ⟨p, e, s, m, args, below, meth, cd, A, hx, hb, hml, hown, hts, hK, hA, hr, hlk, hnm, hX, rfl⟩ := K
  intro H locs ls hP hD hS hl
  subst hw
  subst hi
  have hz2 : z < 2 ^ 31 := Nat.lt_of_le_of_lt (Nat.le_of_ble_eq_true hz) (by decide)
  have hin := vp_in_nI hj hz2
  have hcl := nI_clamp (Nat.lt_trans hj hz2)
  refine va_iast hx hb hK hP hD hS q 0 ha rfl hin d ?_
  rw [hcl]
  exact fun H1 locs1 hP1 hD1 hS1 => kk H1 locs1 ls hP1 hD1 hS1 (by assumption)

theorem g_last (K : zOk E J own cc nL ret Ts R nm X post) {a z : Nat} {f : Nat → Int64} {x : Int64} {w' : va_W} (d : decode cc pc = .ok (.lastore, 1)) (q : Nat) (ha : w[q]? = some (cJ E a z f)) {i : Int32} (j : Nat) (hi : i = nI j) (hj : j < z) (hz : z.ble 4096 = true) (hw : w.set q (cJ E a z (vp_updL f j x)) = w') (kk : J c n w' (pc + 1) lv st) : J c n w pc lv (.long x :: .int i :: .ref a :: st) := by
  obtain ⟨p, e, s, m, args, below, meth, cd, A, hx, hb, hml, hown, hts, hK, hA, hr, hlk, hnm, hX, rfl⟩ := K
  intro H locs ls hP hD hS hl
  subst hw
  subst hi
  have hz2 : z < 2 ^ 31 := Nat.lt_of_le_of_lt (Nat.le_of_ble_eq_true hz) (by decide)
  have hin := vp_in_nI hj hz2
  have hcl := nI_clamp (Nat.lt_trans hj hz2)
  refine va_last hx hb hK hP hD hS q 1 ha rfl hin d ?_
  rw [hcl]
  exact fun H1 locs1 hP1 hD1 hS1 => kk H1 locs1 ls hP1 hD1 hS1 (by assumption)

theorem g_aast (K : zOk E J own cc nL ret Ts R nm X post) {a z v ci : Nat} {vs : List Value} {f : Nat → Option Nat} {w' : va_W} {r : vw_C} (d : decode cc pc = .ok (.aastore, 1)) (q qk : Nat) (ha : w[q]? = some (cQ E a z f)) (hv : w[qk]? = some (v, .inr (ci, vs))) (hc : vwCl[ci]? = some r) (hr2 : ("LightRound$Row" : String) = r.1) {i : Int32} (j : Nat) (hi : i = nI j) (hj : j < z) (hz : z.ble 4096 = true) (hw : w.set q (cQ E a z (va_up f j (some v))) = w') (kk : J c n w' (pc + 1) lv st) : J c n w pc lv (.ref v :: .int i :: .ref a :: st) := by
  obtain ⟨p, e, s, m, args, below, meth, cd, A, hx, hb, hml, hown, hts, hK, hA, hr, hlk, hnm, hX, rfl⟩ := K
  intro H locs ls hP hD hS hl
  subst hw
  subst hi
  have hz2 : z < 2 ^ 31 := Nat.lt_of_le_of_lt (Nat.le_of_ble_eq_true hz) (by decide)
  have hin := vp_in_nI hj hz2
  have hcl := nI_clamp (Nat.lt_trans hj hz2)
  refine va_astq hx hb hK hP hD hS q 2 qk ci ha (r := r) (by rw [← hr2]; rfl) hv hc hin d ?_
  rw [hcl]
  exact fun H1 locs1 hP1 hD1 hS1 => kk H1 locs1 ls hP1 hD1 hS1 (by assumption)

theorem g_alen (K : zOk E J own cc nL ret Ts R nm X post) {a : Nat} {cA : ClassId} {x : vp_A} {ty : FieldType} {v : Int32} (d : decode cc pc = .ok (.arraylength, 1)) (q t0 : Nat) (ha : w[q]? = some (a, .inl (cA, x))) (ht : (zt E)[t0]? = some (cA, ty)) (hv : Int32.ofNat x.1 = v) (kk : J c n w (pc + 1) lv (.int v :: st)) : J c n w pc lv (.ref a :: st) := by
  obtain ⟨p, e, s, m, args, below, meth, cd, A, hx, hb, hml, hown, hts, hK, hA, hr, hlk, hnm, hX, rfl⟩ := K
  intro H locs ls hP hD hS hl
  exact va_alen hx hb hK hP q t0 ha ht hv d (kk H locs ls hP hD hS (by assumption))

theorem g_mabs (K : zOk E J own cc nL ret Ts R nm X post) {x : Int64} {idx : Nat} (d : decode cc pc = .ok (.invokestatic idx, 3)) (h1 : Cond.methodLink own idx Lib.MathLoose.abs_long.x ∈ Ts) (h2 : Cond.static Lib.MathLoose.abs_long.x ∈ Ts) (h3 : Cond.initialized "java/lang/Math" ∈ Ts) (h4 : Cond.code Lib.MathLoose.abs_long.x Lib.MathLoose.abs_long.code 2 (some .long) ∈ Ts) (hf : 1 ≤ R.frames) (hlo : (st.map fun v => v.category).sum + 13 ≤ R.locals) (hcn : c ≤ R.cells ∧ n ≤ R.slots) (kk : J c n w (pc + 3) lv (.long (if 0 < x then x else -x) :: st)) : J c n w pc lv (.long x :: st) := by
  obtain ⟨p, e, s, m, args, below, meth, cd, A, hx, hb, hml, hown, hts, hK, hA, hr, hlk, hnm, hX, rfl⟩ := K
  intro H locs ls hP hD hS hl
  exact va_mabs_long hx hb (hml.trans hl.1.symm) hown (hts _ h1) (hts _ h2) (hts _ h3) (hts _ h4) hf hlo hcn.1 hcn.2 d (kk H locs ls hP hD hS hl)

theorem g_mmin (K : zOk E J own cc nL ret Ts R nm X post) {x y : Int64} {idx : Nat} (d : decode cc pc = .ok (.invokestatic idx, 3)) (h1 : Cond.methodLink own idx Lib.MathLoose.min_long.x ∈ Ts) (h2 : Cond.static Lib.MathLoose.min_long.x ∈ Ts) (h3 : Cond.initialized "java/lang/Math" ∈ Ts) (h4 : Cond.code Lib.MathLoose.min_long.x Lib.MathLoose.min_long.code 4 (some .long) ∈ Ts) (hf : 1 ≤ R.frames) (hlo : (st.map fun v => v.category).sum + 15 ≤ R.locals) (hcn : c ≤ R.cells ∧ n ≤ R.slots) (kk : J c n w (pc + 3) lv (.long (if y < x then y else x) :: st)) : J c n w pc lv (.long y :: .long x :: st) := by
  obtain ⟨p, e, s, m, args, below, meth, cd, A, hx, hb, hml, hown, hts, hK, hA, hr, hlk, hnm, hX, rfl⟩ := K
  intro H locs ls hP hD hS hl
  exact va_mmin_long hx hb (hml.trans hl.1.symm) hown (hts _ h1) (hts _ h2) (hts _ h3) (hts _ h4) hf hlo hcn.1 hcn.2 d (kk H locs ls hP hD hS hl)

theorem g_iret (K : zOk E J own cc nL ret Ts R nm X post) {v : Int32} (d : decode cc pc = .ok (.ireturn, 1)) (hrt : ret = some .int)  (hcn : c ≤ R.cells ∧ n ≤ R.slots) (hp : post (some (.int v)) w) : J c n w pc lv [.int v] := by
  obtain ⟨p, e, s, m, args, below, meth, cd, A, hx, hb, hml, hown, hts, hK, hA, hr, hlk, hnm, hX, rfl⟩ := K
  intro H locs ls hP hD hS hl
  refine W.widen hcn.1 hcn.2 ?_
  exact W.iret hx hb (hr.trans hrt)  (fun t ht hW => ⟨_, w, rfl, hp, by rw [ht]; exact hP, hD, hS.F ht⟩) hS.2.2 d

theorem g_zret (K : zOk E J own cc nL ret Ts R nm X post) {v : Int32} (d : decode cc pc = .ok (.ireturn, 1)) (hrt : ret = some .boolean) (hv : narrow .boolean (.int v) = .int v) (hcn : c ≤ R.cells ∧ n ≤ R.slots) (hp : post (some (.int v)) w) : J c n w pc lv [.int v] := by
  obtain ⟨p, e, s, m, args, below, meth, cd, A, hx, hb, hml, hown, hts, hK, hA, hr, hlk, hnm, hX, rfl⟩ := K
  intro H locs ls hP hD hS hl
  refine W.widen hcn.1 hcn.2 ?_
  exact W.zret hx hb (hr.trans hrt) hv (fun t ht hW => ⟨_, w, rfl, hp, by rw [ht]; exact hP, hD, hS.F ht⟩) hS.2.2 d

theorem g_lret (K : zOk E J own cc nL ret Ts R nm X post) {v : Int64} (d : decode cc pc = .ok (.lreturn, 1)) (hrt : ret = some .long)  (hcn : c ≤ R.cells ∧ n ≤ R.slots) (hp : post (some (.long v)) w) : J c n w pc lv [.long v] := by
  obtain ⟨p, e, s, m, args, below, meth, cd, A, hx, hb, hml, hown, hts, hK, hA, hr, hlk, hnm, hX, rfl⟩ := K
  intro H locs ls hP hD hS hl
  refine W.widen hcn.1 hcn.2 ?_
  exact W.lret hx hb (hr.trans hrt)  (fun t ht hW => ⟨_, w, rfl, hp, by rw [ht]; exact hP, hD, hS.F ht⟩) hS.2.2 d

theorem g_vret (K : zOk E J own cc nL ret Ts R nm X post)  (d : decode cc pc = .ok (.return_, 1)) (hrt : ret = none)  (hcn : c ≤ R.cells ∧ n ≤ R.slots) (hp : post none w) : J c n w pc lv [] := by
  obtain ⟨p, e, s, m, args, below, meth, cd, A, hx, hb, hml, hown, hts, hK, hA, hr, hlk, hnm, hX, rfl⟩ := K
  intro H locs ls hP hD hS hl
  refine W.widen hcn.1 hcn.2 ?_
  exact W.vret hx hb (hr.trans hrt)  (fun t ht hW => ⟨_, w, rfl, hp, by rw [ht]; exact hP, hD, hS.F ht⟩) hS.2.2 d

theorem g_aret (K : zOk E J own cc nL ret Ts R nm X post) {v : Value} {C : String} (d : decode cc pc = .ok (.areturn, 1)) (hrt : ret = some (.object C)) (hv : v = .null ∨ ∃ a, v = .ref a) (hcn : c ≤ R.cells ∧ n ≤ R.slots) (hp : post (some v) w) : J c n w pc lv [v] := by
  obtain ⟨p, e, s, m, args, below, meth, cd, A, hx, hb, hml, hown, hts, hK, hA, hr, hlk, hnm, hX, rfl⟩ := K
  intro H locs ls hP hD hS hl
  refine W.widen hcn.1 hcn.2 ?_
  exact W.aret hx hb (hr.trans hrt) (Or.inl ⟨_, rfl⟩) hv (fun t ht hW => ⟨_, w, rfl, hp, by rw [ht]; exact hP, hD, hS.F ht⟩) hS.2.2 d

theorem z_b0 {P : Prop} [Decidable P] : ((if P then (1 : Int32) else 0) = 0) ↔ ¬ P := by
  by_cases h : P <;> simp [h]
theorem g_ifb_eq (K : zOk E J own cc nL ret Ts R nm X post) {P : Prop} [Decidable P] {off : Int} {tgt : Nat} (d : decode cc pc = .ok (.ifCond .eq off, 3)) (ht : (pc : Int) + off = (tgt : Int)) (kt : ¬ P → J c n w tgt lv st) (kf : P → J c n w (pc + 3) lv st) : J c n w pc lv (.int (if P then 1 else 0) :: st) :=
  g_if_eq K d ht (fun h => kt (z_b0.mp h)) (fun h => kf (Decidable.of_not_not (fun q => h (z_b0.mpr q))))
theorem g_ifb_ne (K : zOk E J own cc nL ret Ts R nm X post) {P : Prop} [Decidable P] {off : Int} {tgt : Nat} (d : decode cc pc = .ok (.ifCond .ne off, 3)) (ht : (pc : Int) + off = (tgt : Int)) (kt : P → J c n w tgt lv st) (kf : ¬ P → J c n w (pc + 3) lv st) : J c n w pc lv (.int (if P then 1 else 0) :: st) :=
  g_if_ne K d ht (fun h => kt (Decidable.of_not_not (fun q => h (z_b0.mpr q)))) (fun h => kf (z_b0.mp h))
theorem g_perm (K : zOk E J own cc nL ret Ts R nm X post) {w2 : va_W} (h : w.Perm w2) (kk : J c n w2 pc lv st) : J c n w pc lv st := by
  obtain ⟨p, e, s, m, args, below, meth, cd, A, hx, hb, hml, hown, hts, hK, hA, hr, hlk, hnm, hX, rfl⟩ := K
  intro H locs ls hP hD hS hl
  refine kk H locs ls (fun k q hq => ?_) ?_ hS hl
  · obtain ⟨i, hi⟩ := List.getElem?_of_mem (h.symm.mem_iff.mp (List.mem_of_getElem? hq))
    exact hP i q hi
  · exact va_D.perm hD h
/-- a call: what it comes to -/
theorem z_called {p : Program} {e : Env} {s : State} {m : MethodId} {args : Array Value} {below : List Frame} {meth : Method} {cd : Code} {A : Nat → Prop} {H : Heap} {locs : List Loc} {ls : Array Slot} {Q : State → Prop} {wc : va_W} {postc : zPost} {a : Array Value} {rest : List Value} {R : Room} {is : List Nat}
    (hA : ∀ q, s.heap.size ≤ q → A q) (hP : va_P E.2.1 vwCl w H) (hD : va_D A w) (hS : va_S A s.heap H locs) (hC : is.map (fun i => w[i]?) = wc.map some)
    (hr : va_Run p E.1 e R s m args below meth cd H locs c n 0 0 (F0 m pc ls st) rest (zQ E (va_A wc H.size) postc a) (va_A wc H.size))
    (kk : ∀ (o : Option Value) (w1 : va_W), postc o w1 → w1.map Prod.fst = wc.map Prod.fst ∧ ∀ (H1 : Heap) (locs1 : List Loc), va_P E.2.1 vwCl (zup w is w1) H1 → va_D A (zup w is w1) → va_S A s.heap H1 locs1 → W p E.1 e R s m args below meth cd H1 locs1 c n Q (F0 m (pc + 3) ls (o.toList ++ rest))) :
    W p E.1 e R s m args below meth cd H locs c n Q (F0 m pc ls st) := by
  have hFc := va_free (wc := wc) hD hS hA is hC
  intro T hT X0
  obtain ⟨v, st₀, t, T', L, h0, X', hL, e1, e2, ⟨o, w1, ho, hp, hP1, hD1, hz, hk⟩, stp⟩ := hr T hT X0
  cases ho
  obtain ⟨ha, kk⟩ := kk v w1 hp
  rw [h0] at hz hk
  rw [← e1] at hP1 hz hk
  obtain ⟨hP2, hD2⟩ := z_join hP hD is hC ha hk hP1
  obtain ⟨t2, a1, b1⟩ := kk T'.heap (locs ++ L) hP2 hD2 ⟨Nat.le_trans hS.1 hz, fun q h1 h2 => by
      rw [hk q (Nat.lt_of_lt_of_le h1 hS.1) (fun z => h2 (hFc q z))]; exact hS.2.1 q h1 h2, fun q hq => by
      rcases List.mem_append.mp hq with h | h
      · exact hS.2.2 q h
      · exact hFc _ (hL q h)⟩ T' rfl X'
  exact ⟨t2, stp t2 a1, b1⟩
theorem z_blind {av : List Value} {wc : va_W} {sz : Nat} : FrameBlind (zPre E av wc (fun _ => True) sz) := fun a U g mk q => by
  obtain ⟨q0, q1, qP, qK, qD, qX⟩ := q
  exact ⟨q0, q1, qP, va_K.moved (u := U) (U := U.calling g mk a) (Vm.Alike.refl U.vm) qK, qD, trivial⟩
theorem g_callV (K : zOk E J own cc nL ret Ts R nm X post) {y : MethodName} {wsy : List Cond} {rmy : Room} {As rest : List Value} {b : Nat} {wc : va_W} {postc : zPost} {C : String} {idx maxL nA : Nat} {rty : Option FieldType}
    (hF : zF E y wsy rmy (.ref b :: As) wc postc) (hI : zInfo y wsy C maxL rty nA) (hG : GoodIn Ts (wsV own idx C y wsy)) (hz : rmy.cells = 0 ∧ rmy.slots = 0) (hR : rmy.frames + 1 ≤ R.frames ∧ 8 + (maxL + 11) + rmy.locals ≤ R.locals)
    (d : decode cc pc = .ok (.invokevirtual idx, 3)) (hst : st = As.reverse ++ .ref b :: rest) (hn : As.length = nA) (hroom : (rest.map fun v => v.category).sum ≤ 8) (hcn : c ≤ R.cells ∧ n ≤ R.slots)
    (is : List Nat) (hC : is.map (fun i => w[i]?) = wc.map some) (hnd : va_nd is = true) (q0 : Nat) {ci : Nat} {fs : List Value} {vc : vw_C} (hq0 : wc[q0]? = some (b, .inr (ci, fs))) (hvc : vwCl[ci]? = some vc) (hvC : vc.1 = C)
    (kk : ∀ (o : Option Value) (w1 : va_W), postc o w1 → w1.map Prod.fst = wc.map Prod.fst ∧ J c n (zup w is w1) (pc + 3) lv (o.toList ++ rest)) : J c n w pc lv st := by
  obtain ⟨p, e, s, m, args, below, meth, cd, A, hx, hb, hml, hown, hts, hK, hA, hr, hlk, hnm, hX, rfl⟩ := K
  intro H locs ls hP hD hS hl
  obtain ⟨bytes, ws', hw, hd⟩ := hI
  subst hst
  subst hvC
  have hPc := hP.sub (ws' := wc) is (by rw [z_fm hC])
  have hDc := hD.sub (ws' := wc) is hnd hC
  have hM := hF H.size
  rw [hz.1, hz.2] at hM
  refine z_called hA hP hD hS hC (va_runV (As := As) (rest := rest) ⟨hx, hb, hml, hown, hts⟩ hM (cwV nA hts hG hw hz.1 hz.2 hd hR) ⟨z_blind, va_recv hK hPc hvc hq0, fun U hU hW => ⟨rfl, by rw [hU], by rw [hU]; exact hPc, va_K.moved hW.alike hK, hDc.weaken (fun _ _ _ _ => trivial), trivial⟩⟩ rfl hn hl.1 rfl (lv_room hroom) d hcn) ?_
  intro o w1 hp
  obtain ⟨ha, k2⟩ := kk o w1 hp
  exact ⟨ha, fun H1 locs1 hP1 hD1 hS1 => k2 H1 locs1 ls hP1 hD1 hS1 hl⟩
theorem g_callS (K : zOk E J own cc nL ret Ts R nm X post) {y : MethodName} {wsy : List Cond} {rmy : Room} {As rest : List Value} {wc : va_W} {postc : zPost} {idx maxL nA : Nat} {rty : Option FieldType}
    (hF : zF E y wsy rmy As wc postc) (hI : zInfo y wsy own maxL rty nA) (hG : GoodIn Ts (wsS own idx y wsy)) (hz : rmy.cells = 0 ∧ rmy.slots = 0) (hR : rmy.frames + 1 ≤ R.frames ∧ 8 + (maxL + 11) + rmy.locals ≤ R.locals)
    (d : decode cc pc = .ok (.invokestatic idx, 3)) (hst : st = As.reverse ++ rest) (hn : As.length = nA) (hroom : (rest.map fun v => v.category).sum ≤ 8) (hcn : c ≤ R.cells ∧ n ≤ R.slots)
    (is : List Nat) (hC : is.map (fun i => w[i]?) = wc.map some) (hnd : va_nd is = true)
    (kk : ∀ (o : Option Value) (w1 : va_W), postc o w1 → w1.map Prod.fst = wc.map Prod.fst ∧ J c n (zup w is w1) (pc + 3) lv (o.toList ++ rest)) : J c n w pc lv st := by
  obtain ⟨p, e, s, m, args, below, meth, cd, A, hx, hb, hml, hown, hts, hK, hA, hr, hlk, hnm, hX, rfl⟩ := K
  intro H locs ls hP hD hS hl
  obtain ⟨bytes, ws', hw, hd⟩ := hI
  subst hst
  have hPc := hP.sub (ws' := wc) is (by rw [z_fm hC])
  have hDc := hD.sub (ws' := wc) is hnd hC
  have hM := hF H.size
  rw [hz.1, hz.2] at hM
  refine z_called hA hP hD hS hC (va_runS (As := As) (rest := rest) ⟨hx, hb, hml, hown, hts⟩ hM (cwS nA hts hG hw hz.1 hz.2 hd hR) ⟨z_blind, fun U hU hW => ⟨rfl, by rw [hU], by rw [hU]; exact hPc, va_K.moved hW.alike hK, hDc.weaken (fun _ _ _ _ => trivial), trivial⟩⟩ rfl hn hl.1 rfl (lv_room hroom) d hcn) ?_
  intro o w1 hp
  obtain ⟨ha, k2⟩ := kk o w1 hp
  exact ⟨ha, fun H1 locs1 hP1 hD1 hS1 => k2 H1 locs1 ls hP1 hD1 hS1 hl⟩
/-- calls whose end is exact -/
theorem g_callVx (K : zOk E J own cc nL ret Ts R nm X post) {y : MethodName} {wsy : List Cond} {rmy : Room} {As rest : List Value} {b : Nat} {wc w1 w' : va_W} {o : Option Value} {C : String} {idx maxL nA : Nat} {rty : Option FieldType}
    (hF : zF E y wsy rmy (.ref b :: As) wc (zx o w1)) (hI : zInfo y wsy C maxL rty nA) (hG : GoodIn Ts (wsV own idx C y wsy)) (hz : rmy.cells = 0 ∧ rmy.slots = 0) (hR : rmy.frames + 1 ≤ R.frames ∧ 8 + (maxL + 11) + rmy.locals ≤ R.locals)
    (d : decode cc pc = .ok (.invokevirtual idx, 3)) (hst : st = As.reverse ++ .ref b :: rest) (hn : As.length = nA) (hroom : (rest.map fun v => v.category).sum ≤ 8) (hcn : c ≤ R.cells ∧ n ≤ R.slots)
    (is : List Nat) (hC : is.map (fun i => w[i]?) = wc.map some) (hnd : va_nd is = true) (q0 : Nat) {ci : Nat} {fs : List Value} {vc : vw_C} (hq0 : wc[q0]? = some (b, .inr (ci, fs))) (hvc : vwCl[ci]? = some vc) (hvC : vc.1 = C)
    (ha : w1.map Prod.fst = wc.map Prod.fst) (hw' : zup w is w1 = w') (kk : J c n w' (pc + 3) lv (o.toList ++ rest)) : J c n w pc lv st := by
  refine g_callV K hF hI hG hz hR d hst hn hroom hcn is hC hnd q0 hq0 hvc hvC ?_
  rintro o' w1' ⟨rfl, rfl⟩
  subst hw'
  exact ⟨ha, kk⟩
theorem g_callSx (K : zOk E J own cc nL ret Ts R nm X post) {y : MethodName} {wsy : List Cond} {rmy : Room} {As rest : List Value} {wc w1 w' : va_W} {o : Option Value} {idx maxL nA : Nat} {rty : Option FieldType}
    (hF : zF E y wsy rmy As wc (zx o w1)) (hI : zInfo y wsy own maxL rty nA) (hG : GoodIn Ts (wsS own idx y wsy)) (hz : rmy.cells = 0 ∧ rmy.slots = 0) (hR : rmy.frames + 1 ≤ R.frames ∧ 8 + (maxL + 11) + rmy.locals ≤ R.locals)
    (d : decode cc pc = .ok (.invokestatic idx, 3)) (hst : st = As.reverse ++ rest) (hn : As.length = nA) (hroom : (rest.map fun v => v.category).sum ≤ 8) (hcn : c ≤ R.cells ∧ n ≤ R.slots)
    (is : List Nat) (hC : is.map (fun i => w[i]?) = wc.map some) (hnd : va_nd is = true)
    (ha : w1.map Prod.fst = wc.map Prod.fst) (hw' : zup w is w1 = w') (kk : J c n w' (pc + 3) lv (o.toList ++ rest)) : J c n w pc lv st := by
  refine g_callS K hF hI hG hz hR d hst hn hroom hcn is hC hnd ?_
  rintro o' w1' ⟨rfl, rfl⟩
  subst hw'
  exact ⟨ha, kk⟩
end ZR
theorem zb_m100 : (Int8.ofInt (-100)).toInt32 = (-100) := by decide
theorem zb_m9 : (Int8.ofInt (-9)).toInt32 = (-9) := by decide
theorem zb_m4 : (Int8.ofInt (-4)).toInt32 = (-4) := by decide
theorem zb_m3 : (Int8.ofInt (-3)).toInt32 = (-3) := by decide
theorem zb_m2 : (Int8.ofInt (-2)).toInt32 = (-2) := by decide
theorem zb_6 : (Int8.ofInt 6).toInt32 = 6 := by decide
theorem zb_7 : (Int8.ofInt 7).toInt32 = 7 := by decide
theorem zb_8 : (Int8.ofInt 8).toInt32 = 8 := by decide
theorem zb_9 : (Int8.ofInt 9).toInt32 = 9 := by decide
theorem zb_12 : (Int8.ofInt 12).toInt32 = 12 := by decide
theorem zb_20 : (Int8.ofInt 20).toInt32 = 20 := by decide
theorem zb_31 : (Int8.ofInt 31).toInt32 = 31 := by decide
theorem zb_32 : (Int8.ofInt 32).toInt32 = 32 := by decide
theorem zb_100 : (Int8.ofInt 100).toInt32 = 100 := by decide
theorem zi_m1 : Int32.ofInt (-1) = (-1) := by decide
theorem zi_0 : Int32.ofInt 0 = 0 := by decide
theorem zi_1 : Int32.ofInt 1 = 1 := by decide
theorem zi_2 : Int32.ofInt 2 = 2 := by decide
theorem zi_3 : Int32.ofInt 3 = 3 := by decide
theorem zi_4 : Int32.ofInt 4 = 4 := by decide
theorem zi_5 : Int32.ofInt 5 = 5 := by decide
theorem zs_m1000 : (Int16.ofInt (-1000)).toInt32 = (-1000) := by decide
theorem zs_1000 : (Int16.ofInt 1000).toInt32 = 1000 := by decide
theorem zl_0 : Int64.ofNat (((0 : Fin 2)) : Nat) = 0 := by decide
theorem zl_1 : Int64.ofNat (((1 : Fin 2)) : Nat) = 1 := by decide
theorem zinc (k : Nat) : nI k + Int32.ofInt 1 = nI (k + 1) := nI_1 k
theorem zdec (k : Nat) : nI (k + 1) + Int32.ofInt (-1) = nI k := pk_m1 k
theorem z_t {P : Prop} [Decidable P] (h : P) : (some (Value.int 1)) = some (Value.int (if P then 1 else 0)) := by rw [if_pos h]
theorem z_f {P : Prop} [Decidable P] (h : ¬ P) : (some (Value.int 0)) = some (Value.int (if P then 1 else 0)) := by rw [if_neg h]
theorem z_swx (x : Int32) (N : Nat) (hN : N < 2 ^ 31) : (∃ j, j < N ∧ x = nI j) ∨ (x.toInt < 0 ∨ (N : Int) ≤ x.toInt) := by
  by_cases h : x < 0
  · exact Or.inr (Or.inl (by have := Int32.lt_iff_toInt_lt.mp h; simpa using this))
  · obtain ⟨j, hj, rfl⟩ := nI_of h
    rcases Nat.lt_or_ge j N with q | q
    · exact Or.inl ⟨j, q, rfl⟩
    · exact Or.inr (Or.inr (by rw [nI_toInt hj]; omega))
theorem z_ne_of {x : Int32} {N : Nat} (h : x.toInt < 0 ∨ (N : Int) ≤ x.toInt) (j : Nat) (hj : j < N) (hN : N < 2 ^ 31) : ¬ x = nI j := by
  intro e
  rw [e, nI_toInt (by omega)] at h
  omega
theorem z_sw2 (x : Int32) : x = nI 0 ∨ x = nI 1 ∨ x = nI 2 ∨ ((x.toInt < 0 ∨ (2 : Int) < x.toInt) ∧ ¬ x = 0 ∧ ¬ x = 1 ∧ ¬ x = 2) := by
  rcases z_swx x 3 (by decide) with ⟨j, hj, rfl⟩ | h
  · rcases (show j = 0 ∨ j = 1 ∨ j = 2 by omega) with rfl | rfl | rfl
    · exact Or.inl rfl
    · exact Or.inr (Or.inl rfl)
    · exact Or.inr (Or.inr (Or.inl rfl))
  · exact Or.inr (Or.inr (Or.inr (⟨by omega, z_ne_of h 0 (by decide) (by decide), z_ne_of h 1 (by decide) (by decide), z_ne_of h 2 (by decide) (by decide)⟩)))
theorem z_sw3 (x : Int32) : x = nI 0 ∨ x = nI 1 ∨ x = nI 2 ∨ x = nI 3 ∨ ((x.toInt < 0 ∨ (3 : Int) < x.toInt) ∧ ¬ x = 0 ∧ ¬ x = 1 ∧ ¬ x = 2 ∧ ¬ x = 3) := by
  rcases z_swx x 4 (by decide) with ⟨j, hj, rfl⟩ | h
  · rcases (show j = 0 ∨ j = 1 ∨ j = 2 ∨ j = 3 by omega) with rfl | rfl | rfl | rfl
    · exact Or.inl rfl
    · exact Or.inr (Or.inl rfl)
    · exact Or.inr (Or.inr (Or.inl rfl))
    · exact Or.inr (Or.inr (Or.inr (Or.inl rfl)))
  · exact Or.inr (Or.inr (Or.inr (Or.inr (⟨by omega, z_ne_of h 0 (by decide) (by decide), z_ne_of h 1 (by decide) (by decide), z_ne_of h 2 (by decide) (by decide), z_ne_of h 3 (by decide) (by decide)⟩))))
theorem z_sw4 (x : Int32) : x = nI 0 ∨ x = nI 1 ∨ x = nI 2 ∨ x = nI 3 ∨ x = nI 4 ∨ ((x.toInt < 0 ∨ (4 : Int) < x.toInt) ∧ ¬ x = 0 ∧ ¬ x = 1 ∧ ¬ x = 2 ∧ ¬ x = 3 ∧ ¬ x = 4) := by
  rcases z_swx x 5 (by decide) with ⟨j, hj, rfl⟩ | h
  · rcases (show j = 0 ∨ j = 1 ∨ j = 2 ∨ j = 3 ∨ j = 4 by omega) with rfl | rfl | rfl | rfl | rfl
    · exact Or.inl rfl
    · exact Or.inr (Or.inl rfl)
    · exact Or.inr (Or.inr (Or.inl rfl))
    · exact Or.inr (Or.inr (Or.inr (Or.inl rfl)))
    · exact Or.inr (Or.inr (Or.inr (Or.inr (Or.inl rfl))))
  · exact Or.inr (Or.inr (Or.inr (Or.inr (Or.inr (⟨by omega, z_ne_of h 0 (by decide) (by decide), z_ne_of h 1 (by decide) (by decide), z_ne_of h 2 (by decide) (by decide), z_ne_of h 3 (by decide) (by decide), z_ne_of h 4 (by decide) (by decide)⟩)))))
end
section
theorem z_lt {a b : Nat} (ha : a < 2 ^ 31) (hb : b < 2 ^ 31) (h : nI a < nI b) : a < b := (nI_ltI ha hb).mp h
theorem z_le {a b : Nat} (ha : a < 2 ^ 31) (hb : b < 2 ^ 31) (h : nI a ≤ nI b) : a ≤ b := (nI_leI ha hb).mp h
section ZS
variable {E : zE} {J : zJ} {own nm : String} {cc : ByteArray} {nL : Nat} {ret : Option FieldType} {Ts : List Cond} {R : Room} {X : State → Prop} {post : zPost} {c n : Nat} {w : va_W} {pc : Nat} {lv : List (Nat × Value)} {st : List Value}
theorem g_lv (K : zOk E J own cc nL ret Ts R nm X post) {lv2 : List (Nat × Value)} (ks : List Nat) (h : lv_pick lv ks = lv2) (kk : J c n w pc lv2 st) : J c n w pc lv st := by
  obtain ⟨p, e, s, m, args, below, meth, cd, A, hx, hb, hml, hown, hts, hK, hA, hr, hlk, hnm, hX, rfl⟩ := K
  intro H locs ls hP hD hS hl
  exact kk H locs ls hP hD hS (lv_sub hl ks h)
theorem g_iaddE (K : zOk E J own cc nL ret Ts R nm X post) {x y z : Int32} (d : decode cc pc = .ok (.iadd, 1)) (h : x + y = z) (kk : J c n w (pc + 1) lv (.int z :: st)) : J c n w pc lv (.int y :: .int x :: st) := by
  subst h
  exact g_iadd K d kk
theorem g_isubE (K : zOk E J own cc nL ret Ts R nm X post) {x y z : Int32} (d : decode cc pc = .ok (.isub, 1)) (h : x - y = z) (kk : J c n w (pc + 1) lv (.int z :: st)) : J c n w pc lv (.int y :: .int x :: st) := by
  subst h
  exact g_isub K d kk
theorem g_imulE (K : zOk E J own cc nL ret Ts R nm X post) {x y z : Int32} (d : decode cc pc = .ok (.imul, 1)) (h : x * y = z) (kk : J c n w (pc + 1) lv (.int z :: st)) : J c n w pc lv (.int y :: .int x :: st) := by
  subst h
  exact g_imul K d kk
theorem g_laddE (K : zOk E J own cc nL ret Ts R nm X post) {x y z : Int64} (d : decode cc pc = .ok (.ladd, 1)) (h : x + y = z) (kk : J c n w (pc + 1) lv (.long z :: st)) : J c n w pc lv (.long y :: .long x :: st) := by
  subst h
  exact g_ladd K d kk
theorem g_lsubE (K : zOk E J own cc nL ret Ts R nm X post) {x y z : Int64} (d : decode cc pc = .ok (.lsub, 1)) (h : x - y = z) (kk : J c n w (pc + 1) lv (.long z :: st)) : J c n w pc lv (.long y :: .long x :: st) := by
  subst h
  exact g_lsub K d kk
theorem g_lmulE (K : zOk E J own cc nL ret Ts R nm X post) {x y z : Int64} (d : decode cc pc = .ok (.lmul, 1)) (h : x * y = z) (kk : J c n w (pc + 1) lv (.long z :: st)) : J c n w pc lv (.long y :: .long x :: st) := by
  subst h
  exact g_lmul K d kk
theorem g_iremE (K : zOk E J own cc nL ret Ts R nm X post) {x y z : Int32} (d : decode cc pc = .ok (.irem, 1)) (hne : ¬ y = 0) (h : x - x / y * y = z) (kk : J c n w (pc + 1) lv (.int z :: st)) : J c n w pc lv (.int y :: .int x :: st) := by
  subst h
  exact g_irem K d hne kk
theorem g_icmpN_eq (K : zOk E J own cc nL ret Ts R nm X post) {x y : Int32} {off : Int} {tgt : Nat} (d : decode cc pc = .ok (.if_icmp .eq off, 3)) (ht : (pc : Int) + off = (tgt : Int)) (a b : Nat) (hx : x = nI a) (hy : y = nI b) (ha : a < 2 ^ 31) (hb : b < 2 ^ 31) (kt : a = b → J c n w tgt lv st) (kf : ¬ a = b → J c n w (pc + 3) lv st) : J c n w pc lv (.int y :: .int x :: st) := by
  subst hx
  subst hy
  exact g_icmp_eq K d ht (fun h => kt ((nI_eq ha hb).mp h)) (fun h => kf (fun q => h ((nI_eq ha hb).mpr q)))
theorem g_icmpN_ne (K : zOk E J own cc nL ret Ts R nm X post) {x y : Int32} {off : Int} {tgt : Nat} (d : decode cc pc = .ok (.if_icmp .ne off, 3)) (ht : (pc : Int) + off = (tgt : Int)) (a b : Nat) (hx : x = nI a) (hy : y = nI b) (ha : a < 2 ^ 31) (hb : b < 2 ^ 31) (kt : ¬ a = b → J c n w tgt lv st) (kf : a = b → J c n w (pc + 3) lv st) : J c n w pc lv (.int y :: .int x :: st) := by
  subst hx
  subst hy
  exact g_icmp_ne K d ht (fun h => kt (fun q => h ((nI_eq ha hb).mpr q))) (fun h => kf ((nI_eq ha hb).mp h))
theorem g_icmpN_lt (K : zOk E J own cc nL ret Ts R nm X post) {x y : Int32} {off : Int} {tgt : Nat} (d : decode cc pc = .ok (.if_icmp .lt off, 3)) (ht : (pc : Int) + off = (tgt : Int)) (a b : Nat) (hx : x = nI a) (hy : y = nI b) (ha : a < 2 ^ 31) (hb : b < 2 ^ 31) (kt : a < b → J c n w tgt lv st) (kf : b ≤ a → J c n w (pc + 3) lv st) : J c n w pc lv (.int y :: .int x :: st) := by
  subst hx
  subst hy
  exact g_icmp_lt K d ht (fun h => kt (z_lt ha hb h)) (fun h => kf (Nat.not_lt.mp (fun q => h ((nI_ltI ha hb).mpr q))))
theorem g_icmpN_ge (K : zOk E J own cc nL ret Ts R nm X post) {x y : Int32} {off : Int} {tgt : Nat} (d : decode cc pc = .ok (.if_icmp .ge off, 3)) (ht : (pc : Int) + off = (tgt : Int)) (a b : Nat) (hx : x = nI a) (hy : y = nI b) (ha : a < 2 ^ 31) (hb : b < 2 ^ 31) (kt : b ≤ a → J c n w tgt lv st) (kf : a < b → J c n w (pc + 3) lv st) : J c n w pc lv (.int y :: .int x :: st) := by
  subst hx
  subst hy
  exact g_icmp_ge K d ht (fun h => kt (z_le hb ha h)) (fun h => kf (Nat.not_le.mp (fun q => h ((nI_leI hb ha).mpr q))))
theorem g_icmpN_gt (K : zOk E J own cc nL ret Ts R nm X post) {x y : Int32} {off : Int} {tgt : Nat} (d : decode cc pc = .ok (.if_icmp .gt off, 3)) (ht : (pc : Int) + off = (tgt : Int)) (a b : Nat) (hx : x = nI a) (hy : y = nI b) (ha : a < 2 ^ 31) (hb : b < 2 ^ 31) (kt : b < a → J c n w tgt lv st) (kf : a ≤ b → J c n w (pc + 3) lv st) : J c n w pc lv (.int y :: .int x :: st) := by
  subst hx
  subst hy
  exact g_icmp_gt K d ht (fun h => kt (z_lt hb ha h)) (fun h => kf (Nat.not_lt.mp (fun q => h ((nI_ltI hb ha).mpr q))))
theorem g_icmpN_le (K : zOk E J own cc nL ret Ts R nm X post) {x y : Int32} {off : Int} {tgt : Nat} (d : decode cc pc = .ok (.if_icmp .le off, 3)) (ht : (pc : Int) + off = (tgt : Int)) (a b : Nat) (hx : x = nI a) (hy : y = nI b) (ha : a < 2 ^ 31) (hb : b < 2 ^ 31) (kt : a ≤ b → J c n w tgt lv st) (kf : b < a → J c n w (pc + 3) lv st) : J c n w pc lv (.int y :: .int x :: st) := by
  subst hx
  subst hy
  exact g_icmp_le K d ht (fun h => kt (z_le ha hb h)) (fun h => kf (Nat.not_le.mp (fun q => h ((nI_leI ha hb).mpr q))))
theorem g_ifN_eq (K : zOk E J own cc nL ret Ts R nm X post) {x : Int32} {off : Int} {tgt : Nat} (d : decode cc pc = .ok (.ifCond .eq off, 3)) (ht : (pc : Int) + off = (tgt : Int)) (a : Nat) (hx : x = nI a) (ha : a < 2 ^ 31) (kt : a = 0 → J c n w tgt lv st) (kf : ¬ a = 0 → J c n w (pc + 3) lv st) : J c n w pc lv (.int x :: st) := by
  subst hx
  exact g_if_eq K d ht (fun h => kt ((nI_eq ha (by decide)).mp h)) (fun h => kf (fun q => h ((nI_eq ha (by decide)).mpr q)))
theorem g_ifN_ne (K : zOk E J own cc nL ret Ts R nm X post) {x : Int32} {off : Int} {tgt : Nat} (d : decode cc pc = .ok (.ifCond .ne off, 3)) (ht : (pc : Int) + off = (tgt : Int)) (a : Nat) (hx : x = nI a) (ha : a < 2 ^ 31) (kt : ¬ a = 0 → J c n w tgt lv st) (kf : a = 0 → J c n w (pc + 3) lv st) : J c n w pc lv (.int x :: st) := by
  subst hx
  exact g_if_ne K d ht (fun h => kt (fun q => h ((nI_eq ha (by decide)).mpr q))) (fun h => kf ((nI_eq ha (by decide)).mp h))
theorem g_ifN_lt (K : zOk E J own cc nL ret Ts R nm X post) {x : Int32} {off : Int} {tgt : Nat} (d : decode cc pc = .ok (.ifCond .lt off, 3)) (ht : (pc : Int) + off = (tgt : Int)) (a : Nat) (hx : x = nI a) (ha : a < 2 ^ 31) (kt : False → J c n w tgt lv st) (kf : True → J c n w (pc + 3) lv st) : J c n w pc lv (.int x :: st) := by
  subst hx
  exact g_if_lt K d ht (fun h => absurd h (nI_pos ha)) (fun h => kf trivial)
theorem g_ifN_ge (K : zOk E J own cc nL ret Ts R nm X post) {x : Int32} {off : Int} {tgt : Nat} (d : decode cc pc = .ok (.ifCond .ge off, 3)) (ht : (pc : Int) + off = (tgt : Int)) (a : Nat) (hx : x = nI a) (ha : a < 2 ^ 31) (kt : True → J c n w tgt lv st) (kf : False → J c n w (pc + 3) lv st) : J c n w pc lv (.int x :: st) := by
  subst hx
  exact g_if_ge K d ht (fun h => kt trivial) (fun h => absurd (nI_pos' ha) h)
theorem g_ifN_gt (K : zOk E J own cc nL ret Ts R nm X post) {x : Int32} {off : Int} {tgt : Nat} (d : decode cc pc = .ok (.ifCond .gt off, 3)) (ht : (pc : Int) + off = (tgt : Int)) (a : Nat) (hx : x = nI a) (ha : a < 2 ^ 31) (kt : 0 < a → J c n w tgt lv st) (kf : a = 0 → J c n w (pc + 3) lv st) : J c n w pc lv (.int x :: st) := by
  subst hx
  exact g_if_gt K d ht (fun h => kt (z_lt (by decide) ha h)) (fun h => kf (by have q : ¬ 0 < a := fun q => h ((nI_ltI (by decide) ha).mpr q); omega))
theorem g_ifN_le (K : zOk E J own cc nL ret Ts R nm X post) {x : Int32} {off : Int} {tgt : Nat} (d : decode cc pc = .ok (.ifCond .le off, 3)) (ht : (pc : Int) + off = (tgt : Int)) (a : Nat) (hx : x = nI a) (ha : a < 2 ^ 31) (kt : a = 0 → J c n w tgt lv st) (kf : 0 < a → J c n w (pc + 3) lv st) : J c n w pc lv (.int x :: st) := by
  subst hx
  exact g_if_le K d ht (fun h => kt (by have q := z_le (b := 0) ha (by decide) h; omega)) (fun h => kf (by have q : ¬ a ≤ 0 := fun q => h ((nI_leI ha (by decide)).mpr q); omega))
end ZS
end
section
/-! What the methods do, as functions: rows of numbers as functions of places, a table as seven longs. -/
def nBent (K : Nat → Int32) : Nat → Nat
  | 0 => 0
  | n + 1 => nBent K n + if K n = 1 ∨ K n = 2 then 1 else 0
def nTilt (K : Nat → Int32) : Nat → Nat
  | 0 => 0
  | n + 1 => nTilt K n + if K n = 3 then 1 else 0
theorem nBent_le (K : Nat → Int32) : ∀ n, nBent K n ≤ n
  | 0 => Nat.le_refl 0
  | n + 1 => by have h := nBent_le K n; simp only [nBent]; split <;> omega
theorem nTilt_le (K : Nat → Int32) : ∀ n, nTilt K n ≤ n
  | 0 => Nat.le_refl 0
  | n + 1 => by have h := nTilt_le K n; simp only [nTilt]; split <;> omega
/-- d numbers from place q downwards get their lower neighbour's value -/
def shUp (K : Nat → Int32) (q : Nat) : Nat → Nat → Int32
  | 0 => K
  | d + 1 => shUp (upd K q (K (q - 1))) (q - 1) d
/-- d numbers from place q upwards get their upper neighbour's value -/
def shDn (K : Nat → Int32) (q : Nat) : Nat → Nat → Int32
  | 0 => K
  | d + 1 => shDn (upd K q (K (q + 1))) (q + 1) d
/-- d pairs, from place i on, change places in a row of n -/
def revF (K : Nat → Int32) (n i : Nat) : Nat → Nat → Int32
  | 0 => K
  | d + 1 => revF (upd (upd K i (K (n - 1 - i))) (n - 1 - i) (K i)) n (i + 1) d
/-- d numbers of M, from place q on, are laid behind place n of K -/
def appF (K M : Nat → Int32) (n q : Nat) : Nat → Nat → Int32
  | 0 => K
  | d + 1 => appF (upd K n (M q)) M (n + 1) (q + 1) d
abbrev TB : Type := Int64 × Int64 × Int64 × Int64 × Int64 × Int64 × Int64
def ta (T : TB) : Int64 := T.1
def tb (T : TB) : Int64 := T.2.1
def tc (T : TB) : Int64 := T.2.2.1
def td (T : TB) : Int64 := T.2.2.2.1
def te (T : TB) : Int64 := T.2.2.2.2.1
def tf (T : TB) : Int64 := T.2.2.2.2.2.1
def tg (T : TB) : Int64 := T.2.2.2.2.2.2
def T1 : TB := (1, 0, 0, 1, 0, 0, 1)
def strF (x : Int64) (T : TB) : TB := (ta T + x * tc T, tb T + x * td T, tc T, td T, te T + x * tf T, tf T, tg T)
/-- a lens or mirror: g is the sign, z the size of its strength -/
def benG (g z : Int64) (T : TB) : TB := (ta T * z, tb T * z, z * tc T - g * ta T, z * td T - g * tb T, te T * z, z * tf T - g * te T, tg T * z)
def benF (x : Int64) (T : TB) : TB := if x < 0 then benG (-1) ((-1) * x) T else benG 1 (1 * x) T
def tilF (x : Int64) (T : TB) : TB := (ta T, tb T, tc T, td T, te T, tf T + x * tg T, tg T)
def goF (k s : Int32) (T : TB) : TB := if k = 0 then strF s.toInt64 T else if k = 1 ∨ k = 2 then benF s.toInt64 T else if k = 3 then tilF s.toInt64 T else T
/-- the strength that a way sees -/
def stg (K F G : Nat → Int32) (way : Int32) (j : Nat) : Int32 := if K j = 2 ∧ way = 1 then G j else F j
/-- d parts of a row of z, from place i on, round and round -/
def ledF (K F G : Nat → Int32) (way : Int32) (z : Nat) (i : Nat) (T : TB) : Nat → TB
  | 0 => T
  | d + 1 => ledF K F G way z (if i + 1 < z then i + 1 else 0) (if i < z then goF (K i) (stg K F G way i) T else T) d
def farF (T : TB) (x y : Int64) : Int64 := ta T * x + tb T * y + te T
def leanF (T : TB) (x y : Int64) : Int64 := tc T * x + td T * y + tf T
def absL (x : Int64) : Int64 := if 0 < x then x else -x
def sumF (T : TB) : Int64 := ta T + td T
abbrev btw (T : TB) : Prop := ¬ sumF T ≤ (-2) * tg T ∧ ¬ 2 * tg T ≤ sumF T
abbrev pln (T : TB) (x : Int64) : Prop := ta T = x ∧ td T = x ∧ tb T = 0 ∧ tc T = 0
def manF (T : TB) : Int32 := if btw T then 0 else if pln T (tg T) then 0 else if pln T (-tg T) then 0 else if sumF T = 2 * tg T then 1 else if sumF T = (-2) * tg T then 1 else 2
def rndF (T : TB) : Int32 := if pln T (tg T) then 1 else if pln T (-tg T) then 2 else if sumF T = -tg T then 3 else if sumF T = 0 then 4 else if sumF T = tg T then 6 else 0
def abvF (T : TB) (e : Int32) : Int64 := if e = 0 then ta T else if e = 1 then tb T else if e = 2 then tc T else if e = 3 then td T else if e = 4 then te T else tf T
def stpF (T : TB) (x : Int64) : Int64 := if absL (te T) ≤ x * tg T then if tb T = 0 then 1000 else if tb T ≤ 0 then (x * tg T + te T) / (-tb T) else (x * tg T - te T) / tb T else -1
theorem z_neg0 {x : Int64} (h : ¬ x = 0) : ¬ -x = 0 := fun q => h (by have := congrArg (fun y => -y) q; simpa using this)
def minL (x y : Int64) : Int64 := if y < x then y else x
section ZM
variable {E : zE} {J : zJ} {own nm : String} {cc : ByteArray} {nL : Nat} {ret : Option FieldType} {Ts : List Cond} {R : Room} {X : State → Prop} {post : zPost} {c n : Nat} {w : va_W} {pc : Nat} {lv : List (Nat × Value)} {st : List Value}
theorem g_mabsL (K : zOk E J own cc nL ret Ts R nm X post) {x : Int64} {idx : Nat} (d : decode cc pc = .ok (.invokestatic idx, 3)) (h1 : Cond.methodLink own idx Lib.MathLoose.abs_long.x ∈ Ts) (h2 : Cond.static Lib.MathLoose.abs_long.x ∈ Ts) (h3 : Cond.initialized "java/lang/Math" ∈ Ts) (h4 : Cond.code Lib.MathLoose.abs_long.x Lib.MathLoose.abs_long.code 2 (some .long) ∈ Ts) (hf : 1 ≤ R.frames) (hlo : (st.map fun v => v.category).sum + 13 ≤ R.locals) (hcn : c ≤ R.cells ∧ n ≤ R.slots) (kk : J c n w (pc + 3) lv (.long (absL x) :: st)) : J c n w pc lv (.long x :: st) := g_mabs K d h1 h2 h3 h4 hf hlo hcn kk
theorem g_mminL (K : zOk E J own cc nL ret Ts R nm X post) {x y : Int64} {idx : Nat} (d : decode cc pc = .ok (.invokestatic idx, 3)) (h1 : Cond.methodLink own idx Lib.MathLoose.min_long.x ∈ Ts) (h2 : Cond.static Lib.MathLoose.min_long.x ∈ Ts) (h3 : Cond.initialized "java/lang/Math" ∈ Ts) (h4 : Cond.code Lib.MathLoose.min_long.x Lib.MathLoose.min_long.code 4 (some .long) ∈ Ts) (hf : 1 ≤ R.frames) (hlo : (st.map fun v => v.category).sum + 15 ≤ R.locals) (hcn : c ≤ R.cells ∧ n ≤ R.slots) (kk : J c n w (pc + 3) lv (.long (minL x y) :: st)) : J c n w pc lv (.long y :: .long x :: st) := g_mmin K d h1 h2 h3 h4 hf hlo hcn kk
end ZM
end
section
abbrev rX0_has : Room := { frames := 0, cells := 0, slots := 0, locals := 0 }
theorem iX0_has : zInfo yX0_has wsX0_has RX0 2 (some .boolean) 1 := ⟨_, _, rfl, by decide +kernel⟩
theorem nX0_has_X0 : ∀ w ∈ wsX00, w ∈ wsX0_has := by decide +kernel
theorem fX0_has_21 : Cond.fieldLink RX0 21 (TX0 3).1 (TX0 3).2.1 (TX0 3).2.2.1 ∈ wsX0_has := by decide +kernel
set_option maxHeartbeats 4000000 in
set_option maxRecDepth 100000 in
theorem qX0_has (E : zE) (h k f s : Nat) (z i : Int32)  : zF E yX0_has wsX0_has rX0_has [.ref h, .int i] [cO h 0 [.ref k, .ref f, .ref s, .int z]] (zx (some (.int (if ¬ i < 0 ∧ ¬ z ≤ i then 1 else 0))) ([cO h 0 [.ref k, .ref f, .ref s, .int z]])) := by
  refine z_start RX0 "has" (by decide) rfl rfl rfl (Nat.le_of_ble_eq_true rfl) ?_
  intro J Z
  refine g_eq Z (lv2 := [(0, .ref h), (1, .int i)]) rfl rfl rfl ?_
  refine g_iload_n Z dX0_has_0 1 rfl rfl ?_
  refine g_if_lt (tgt := 16) Z dX0_has_1 (by decide) (fun c_1 => ?_) (fun c_1 => ?_)
  · refine g_iconst Z dX0_has_16 zi_0 ?_
    exact g_zret Z dX0_has_17 rfl rfl ⟨Nat.zero_le _, Nat.zero_le _⟩ ⟨z_f (by simp [c_1]), rfl⟩
  · refine g_iload_n Z dX0_has_4 1 rfl rfl ?_
    refine g_aload_n Z dX0_has_5 0 rfl rfl ?_
    refine g_get Z dX0_has_6 0 rfl rfl nX0_has_X0 3 (by decide) fX0_has_21 rfl ?_
    refine g_icmp_ge (tgt := 16) Z dX0_has_9 (by decide) (fun c_9 => ?_) (fun c_9 => ?_)
    · refine g_iconst Z dX0_has_16 zi_0 ?_
      exact g_zret Z dX0_has_17 rfl rfl ⟨Nat.zero_le _, Nat.zero_le _⟩ ⟨z_f (by simp [c_1, c_9]), rfl⟩
    · refine g_iconst Z dX0_has_12 zi_1 ?_
      refine g_goto (tgt := 17) Z dX0_has_13 (by decide) ?_
      exact g_zret Z dX0_has_17 rfl rfl ⟨Nat.zero_le _, Nat.zero_le _⟩ ⟨z_t (by simp [c_1, c_9]), rfl⟩


set_option maxHeartbeats 4000000 in
set_option maxRecDepth 100000 in
theorem qX0_hasN (E : zE) (h k f s n j : Nat) (hn : n < 2 ^ 31) (hj : j < 2 ^ 31) : zF E yX0_has wsX0_has rX0_has [.ref h, .int (nI j)] [cO h 0 [.ref k, .ref f, .ref s, .int (nI n)]] (zx (some (.int (if j < n then 1 else 0))) ([cO h 0 [.ref k, .ref f, .ref s, .int (nI n)]])) := by
  refine z_start RX0 "has" (by decide) rfl rfl rfl (Nat.le_of_ble_eq_true rfl) ?_
  intro J Z
  refine g_eq Z (lv2 := [(0, .ref h), (1, .int (nI j))]) rfl rfl rfl ?_
  refine g_iload_n Z dX0_has_0 1 rfl rfl ?_
  refine g_ifN_lt (tgt := 16) Z dX0_has_1 (by decide) j rfl (by omega) (fun c_1 => absurd c_1 id) (fun c_1 => ?_)
  refine g_iload_n Z dX0_has_4 1 rfl rfl ?_
  refine g_aload_n Z dX0_has_5 0 rfl rfl ?_
  refine g_get Z dX0_has_6 0 rfl rfl nX0_has_X0 3 (by decide) fX0_has_21 rfl ?_
  refine g_icmpN_ge (tgt := 16) Z dX0_has_9 (by decide) j n rfl rfl (by omega) (by omega) (fun c_9 => ?_) (fun c_9 => ?_)
  · refine g_iconst Z dX0_has_16 zi_0 ?_
    exact g_zret Z dX0_has_17 rfl rfl ⟨Nat.zero_le _, Nat.zero_le _⟩ ⟨z_f (by simp [c_1, c_9]), rfl⟩
  · refine g_iconst Z dX0_has_12 zi_1 ?_
    refine g_goto (tgt := 17) Z dX0_has_13 (by decide) ?_
    exact g_zret Z dX0_has_17 rfl rfl ⟨Nat.zero_le _, Nat.zero_le _⟩ ⟨z_t (by simp [c_1, c_9]), rfl⟩

abbrev rX0_strength : Room := { frames := 0, cells := 0, slots := 0, locals := 0 }
theorem iX0_strength : zInfo yX0_strength wsX0_strength RX0 3 (some .int) 2 := ⟨_, _, rfl, by decide +kernel⟩
theorem nX0_strength_X0 : ∀ w ∈ wsX00, w ∈ wsX0_strength := by decide +kernel
theorem fX0_strength_9 : Cond.fieldLink RX0 9 (TX0 0).1 (TX0 0).2.1 (TX0 0).2.2.1 ∈ wsX0_strength := by decide +kernel
theorem fX0_strength_15 : Cond.fieldLink RX0 15 (TX0 1).1 (TX0 1).2.1 (TX0 1).2.2.1 ∈ wsX0_strength := by decide +kernel
theorem fX0_strength_18 : Cond.fieldLink RX0 18 (TX0 2).1 (TX0 2).2.1 (TX0 2).2.2.1 ∈ wsX0_strength := by decide +kernel
set_option maxHeartbeats 4000000 in
set_option maxRecDepth 100000 in
theorem qX0_strength (E : zE) (h k f s : Nat) (K F G : Nat → Int32) (n j : Nat) (way : Int32) (hj : j < 8) : zF E yX0_strength wsX0_strength rX0_strength [.ref h, .int (nI j), .int way] [cO h 0 [.ref k, .ref f, .ref s, .int (nI n)], cI E k 8 K, cI E f 8 F, cI E s 8 G] (zx (some (.int (stg K F G way j))) ([cO h 0 [.ref k, .ref f, .ref s, .int (nI n)], cI E k 8 K, cI E f 8 F, cI E s 8 G])) := by
  refine z_start RX0 "strength" (by decide) rfl rfl rfl (Nat.le_of_ble_eq_true rfl) ?_
  intro J Z
  refine g_eq Z (lv2 := [(0, .ref h), (1, .int (nI j)), (2, .int way)]) rfl rfl rfl ?_
  refine g_aload_n Z dX0_strength_0 0 rfl rfl ?_
  refine g_get Z dX0_strength_1 0 rfl rfl nX0_strength_X0 0 (by decide) fX0_strength_9 rfl ?_
  refine g_iload_n Z dX0_strength_4 1 rfl rfl ?_
  refine g_iald Z dX0_strength_5 1 rfl j rfl (by omega) rfl ?_
  refine g_iconst Z dX0_strength_6 zi_2 ?_
  refine g_icmp_ne (tgt := 24) Z dX0_strength_7 (by decide) (fun c_7 => ?_) (fun c_7 => ?_)
  · refine g_aload_n Z dX0_strength_24 0 rfl rfl ?_
    refine g_get Z dX0_strength_25 0 rfl rfl nX0_strength_X0 1 (by decide) fX0_strength_15 rfl ?_
    refine g_iload_n Z dX0_strength_28 1 rfl rfl ?_
    refine g_iald Z dX0_strength_29 2 rfl j rfl (by omega) rfl ?_
    exact g_iret Z dX0_strength_30 rfl ⟨Nat.zero_le _, Nat.zero_le _⟩ ⟨congrArg (fun v => some (Value.int v)) (by simp [stg, c_7]), rfl⟩
  · refine g_iload_n Z dX0_strength_10 2 rfl rfl ?_
    refine g_iconst Z dX0_strength_11 zi_1 ?_
    refine g_icmp_ne (tgt := 24) Z dX0_strength_12 (by decide) (fun c_12 => ?_) (fun c_12 => ?_)
    · refine g_aload_n Z dX0_strength_24 0 rfl rfl ?_
      refine g_get Z dX0_strength_25 0 rfl rfl nX0_strength_X0 1 (by decide) fX0_strength_15 rfl ?_
      refine g_iload_n Z dX0_strength_28 1 rfl rfl ?_
      refine g_iald Z dX0_strength_29 2 rfl j rfl (by omega) rfl ?_
      exact g_iret Z dX0_strength_30 rfl ⟨Nat.zero_le _, Nat.zero_le _⟩ ⟨congrArg (fun v => some (Value.int v)) (by simp [stg, c_7, c_12]), rfl⟩
    · refine g_aload_n Z dX0_strength_15 0 rfl rfl ?_
      refine g_get Z dX0_strength_16 0 rfl rfl nX0_strength_X0 2 (by decide) fX0_strength_18 rfl ?_
      refine g_iload_n Z dX0_strength_19 1 rfl rfl ?_
      refine g_iald Z dX0_strength_20 3 rfl j rfl (by omega) rfl ?_
      refine g_goto (tgt := 30) Z dX0_strength_21 (by decide) ?_
      exact g_iret Z dX0_strength_30 rfl ⟨Nat.zero_le _, Nat.zero_le _⟩ ⟨congrArg (fun v => some (Value.int v)) (by simp [stg, c_7, c_12]), rfl⟩

abbrev rX0_bending : Room := { frames := 0, cells := 0, slots := 0, locals := 0 }
theorem iX0_bending : zInfo yX0_bending wsX0_bending RX0 3 (some .int) 0 := ⟨_, _, rfl, by decide +kernel⟩
theorem nX0_bending_X0 : ∀ w ∈ wsX00, w ∈ wsX0_bending := by decide +kernel
theorem fX0_bending_21 : Cond.fieldLink RX0 21 (TX0 3).1 (TX0 3).2.1 (TX0 3).2.2.1 ∈ wsX0_bending := by decide +kernel
theorem fX0_bending_9 : Cond.fieldLink RX0 9 (TX0 0).1 (TX0 0).2.1 (TX0 0).2.2.1 ∈ wsX0_bending := by decide +kernel
set_option maxHeartbeats 4000000 in
set_option maxRecDepth 100000 in
theorem lX0_bending (E : zE) (h k f s : Nat) (K F G : Nat → Int32) (n : Nat) (hn : n ≤ 8) {J : zJ} (Z : zOk E J RX0 cX0_bending 3 (some .int) wsX0_bending rX0_bending "bending" (fun _ => True) (zx (some (.int (nI (nBent K n)))) ([cO h 0 [.ref k, .ref f, .ref s, .int (nI n)], cI E k 8 K, cI E f 8 F, cI E s 8 G])))  : ∀ (d : Nat) (q : Nat), q + d = n → J 0 0 [cO h 0 [.ref k, .ref f, .ref s, .int (nI n)], cI E k 8 K, cI E f 8 F, cI E s 8 G] 4 [(2, .int (nI q)), (1, .int (nI (nBent K q))), (0, .ref h)] [] := by
  intro d
  induction d with
  | zero =>
    intro q h1
    have e_q : q = n := by omega
    refine g_iload_n Z dX0_bending_4 0 rfl rfl ?_
    refine g_aload_n Z dX0_bending_5 2 rfl rfl ?_
    refine g_get Z dX0_bending_6 0 rfl rfl nX0_bending_X0 3 (by decide) fX0_bending_21 rfl ?_
    refine g_icmpN_ge (tgt := 41) Z dX0_bending_9 (by decide) q n rfl rfl (by omega) (by omega) (fun c_9 => ?_) (fun c_9 => absurd c_9 (by omega))
    refine g_iload_n Z dX0_bending_41 1 rfl rfl ?_
    exact g_iret Z dX0_bending_42 rfl ⟨Nat.zero_le _, Nat.zero_le _⟩ ⟨by rw [e_q], rfl⟩
  | succ d ih =>
    intro q h1
    refine g_iload_n Z dX0_bending_4 0 rfl rfl ?_
    refine g_aload_n Z dX0_bending_5 2 rfl rfl ?_
    refine g_get Z dX0_bending_6 0 rfl rfl nX0_bending_X0 3 (by decide) fX0_bending_21 rfl ?_
    refine g_icmpN_ge (tgt := 41) Z dX0_bending_9 (by decide) q n rfl rfl (by omega) (by omega) (fun c_9 => absurd c_9 (by omega)) (fun c_9 => ?_)
    refine g_aload_n Z dX0_bending_12 2 rfl rfl ?_
    refine g_get Z dX0_bending_13 0 rfl rfl nX0_bending_X0 0 (by decide) fX0_bending_9 rfl ?_
    refine g_iload_n Z dX0_bending_16 0 rfl rfl ?_
    refine g_iald Z dX0_bending_17 1 rfl q rfl (by omega) rfl ?_
    refine g_iconst Z dX0_bending_18 zi_1 ?_
    refine g_icmp_eq (tgt := 32) Z dX0_bending_19 (by decide) (fun c_19 => ?_) (fun c_19 => ?_)
    · refine g_iinc (lv' := [(1, .int (nI (nBent K q + 1))), (2, .int (nI q)), (0, .ref h)]) Z dX0_bending_32 1 rfl (zinc _) (by decide) rfl ?_
      refine g_iinc (lv' := [(2, .int (nI (q + 1))), (1, .int (nI (nBent K q + 1))), (0, .ref h)]) Z dX0_bending_35 1 rfl (zinc _) (by decide) rfl ?_
      refine g_goto (tgt := 4) Z dX0_bending_38 (by decide) ?_
      have e_b : nBent K (q + 1) = nBent K q + 1 := by simp only [nBent]; rw [if_pos (by simp [c_9, c_19])]
      refine g_lv (lv2 := [(2, .int (nI (q + 1))), (1, .int (nI (nBent K q + 1))), (0, .ref h)]) Z [0, 1, 2] rfl ?_
      rw [← e_b]
      exact ih (q + 1) (by omega)
    · refine g_aload_n Z dX0_bending_22 2 rfl rfl ?_
      refine g_get Z dX0_bending_23 0 rfl rfl nX0_bending_X0 0 (by decide) fX0_bending_9 rfl ?_
      refine g_iload_n Z dX0_bending_26 0 rfl rfl ?_
      refine g_iald Z dX0_bending_27 1 rfl q rfl (by omega) rfl ?_
      refine g_iconst Z dX0_bending_28 zi_2 ?_
      refine g_icmp_ne (tgt := 35) Z dX0_bending_29 (by decide) (fun c_29 => ?_) (fun c_29 => ?_)
      · refine g_iinc (lv' := [(2, .int (nI (q + 1))), (1, .int (nI (nBent K q))), (0, .ref h)]) Z dX0_bending_35 0 rfl (zinc _) (by decide) rfl ?_
        refine g_goto (tgt := 4) Z dX0_bending_38 (by decide) ?_
        have e_b : nBent K (q + 1) = nBent K q := by simp only [nBent]; rw [if_neg (by simp [c_9, c_19, c_29])]; rfl
        refine g_lv (lv2 := [(2, .int (nI (q + 1))), (1, .int (nI (nBent K q))), (0, .ref h)]) Z [0, 1, 2] rfl ?_
        rw [← e_b]
        exact ih (q + 1) (by omega)
      · refine g_iinc (lv' := [(1, .int (nI (nBent K q + 1))), (2, .int (nI q)), (0, .ref h)]) Z dX0_bending_32 1 rfl (zinc _) (by decide) rfl ?_
        refine g_iinc (lv' := [(2, .int (nI (q + 1))), (1, .int (nI (nBent K q + 1))), (0, .ref h)]) Z dX0_bending_35 1 rfl (zinc _) (by decide) rfl ?_
        refine g_goto (tgt := 4) Z dX0_bending_38 (by decide) ?_
        have e_b : nBent K (q + 1) = nBent K q + 1 := by simp only [nBent]; rw [if_pos (by simp [c_9, c_19, c_29])]
        refine g_lv (lv2 := [(2, .int (nI (q + 1))), (1, .int (nI (nBent K q + 1))), (0, .ref h)]) Z [0, 1, 2] rfl ?_
        rw [← e_b]
        exact ih (q + 1) (by omega)
set_option maxHeartbeats 4000000 in
set_option maxRecDepth 100000 in
theorem qX0_bending (E : zE) (h k f s : Nat) (K F G : Nat → Int32) (n : Nat) (hn : n ≤ 8) : zF E yX0_bending wsX0_bending rX0_bending [.ref h] [cO h 0 [.ref k, .ref f, .ref s, .int (nI n)], cI E k 8 K, cI E f 8 F, cI E s 8 G] (zx (some (.int (nI (nBent K n)))) ([cO h 0 [.ref k, .ref f, .ref s, .int (nI n)], cI E k 8 K, cI E f 8 F, cI E s 8 G])) := by
  refine z_start RX0 "bending" (by decide) rfl rfl rfl (Nat.le_of_ble_eq_true rfl) ?_
  intro J Z
  refine g_eq Z (lv2 := [(0, .ref h)]) rfl rfl rfl ?_
  refine g_iconst Z dX0_bending_0 zi_0 ?_
  refine g_istore_n (lv' := [(1, .int 0), (0, .ref h)]) Z dX0_bending_1 rfl (by decide) rfl ?_
  refine g_iconst Z dX0_bending_2 zi_0 ?_
  refine g_istore_n (lv' := [(2, .int 0), (1, .int 0), (0, .ref h)]) Z dX0_bending_3 rfl (by decide) rfl ?_
  exact lX0_bending E h k f s K F G n hn Z n 0 (by omega)

abbrev rX0_tilts : Room := { frames := 0, cells := 0, slots := 0, locals := 0 }
theorem iX0_tilts : zInfo yX0_tilts wsX0_tilts RX0 3 (some .int) 0 := ⟨_, _, rfl, by decide +kernel⟩
theorem nX0_tilts_X0 : ∀ w ∈ wsX00, w ∈ wsX0_tilts := by decide +kernel
theorem fX0_tilts_21 : Cond.fieldLink RX0 21 (TX0 3).1 (TX0 3).2.1 (TX0 3).2.2.1 ∈ wsX0_tilts := by decide +kernel
theorem fX0_tilts_9 : Cond.fieldLink RX0 9 (TX0 0).1 (TX0 0).2.1 (TX0 0).2.2.1 ∈ wsX0_tilts := by decide +kernel
set_option maxHeartbeats 4000000 in
set_option maxRecDepth 100000 in
theorem lX0_tilts (E : zE) (h k f s : Nat) (K F G : Nat → Int32) (n : Nat) (hn : n ≤ 8) {J : zJ} (Z : zOk E J RX0 cX0_tilts 3 (some .int) wsX0_tilts rX0_tilts "tilts" (fun _ => True) (zx (some (.int (nI (nTilt K n)))) ([cO h 0 [.ref k, .ref f, .ref s, .int (nI n)], cI E k 8 K, cI E f 8 F, cI E s 8 G])))  : ∀ (d : Nat) (q : Nat), q + d = n → J 0 0 [cO h 0 [.ref k, .ref f, .ref s, .int (nI n)], cI E k 8 K, cI E f 8 F, cI E s 8 G] 4 [(2, .int (nI q)), (1, .int (nI (nTilt K q))), (0, .ref h)] [] := by
  intro d
  induction d with
  | zero =>
    intro q h1
    have e_q : q = n := by omega
    refine g_iload_n Z dX0_tilts_4 0 rfl rfl ?_
    refine g_aload_n Z dX0_tilts_5 2 rfl rfl ?_
    refine g_get Z dX0_tilts_6 0 rfl rfl nX0_tilts_X0 3 (by decide) fX0_tilts_21 rfl ?_
    refine g_icmpN_ge (tgt := 31) Z dX0_tilts_9 (by decide) q n rfl rfl (by omega) (by omega) (fun c_9 => ?_) (fun c_9 => absurd c_9 (by omega))
    refine g_iload_n Z dX0_tilts_31 1 rfl rfl ?_
    exact g_iret Z dX0_tilts_32 rfl ⟨Nat.zero_le _, Nat.zero_le _⟩ ⟨by rw [e_q], rfl⟩
  | succ d ih =>
    intro q h1
    refine g_iload_n Z dX0_tilts_4 0 rfl rfl ?_
    refine g_aload_n Z dX0_tilts_5 2 rfl rfl ?_
    refine g_get Z dX0_tilts_6 0 rfl rfl nX0_tilts_X0 3 (by decide) fX0_tilts_21 rfl ?_
    refine g_icmpN_ge (tgt := 31) Z dX0_tilts_9 (by decide) q n rfl rfl (by omega) (by omega) (fun c_9 => absurd c_9 (by omega)) (fun c_9 => ?_)
    refine g_aload_n Z dX0_tilts_12 2 rfl rfl ?_
    refine g_get Z dX0_tilts_13 0 rfl rfl nX0_tilts_X0 0 (by decide) fX0_tilts_9 rfl ?_
    refine g_iload_n Z dX0_tilts_16 0 rfl rfl ?_
    refine g_iald Z dX0_tilts_17 1 rfl q rfl (by omega) rfl ?_
    refine g_iconst Z dX0_tilts_18 zi_3 ?_
    refine g_icmp_ne (tgt := 25) Z dX0_tilts_19 (by decide) (fun c_19 => ?_) (fun c_19 => ?_)
    · refine g_iinc (lv' := [(2, .int (nI (q + 1))), (1, .int (nI (nTilt K q))), (0, .ref h)]) Z dX0_tilts_25 0 rfl (zinc _) (by decide) rfl ?_
      refine g_goto (tgt := 4) Z dX0_tilts_28 (by decide) ?_
      have e_b : nTilt K (q + 1) = nTilt K q := by simp only [nTilt]; rw [if_neg (by simp [c_9, c_19])]; rfl
      refine g_lv (lv2 := [(2, .int (nI (q + 1))), (1, .int (nI (nTilt K q))), (0, .ref h)]) Z [0, 1, 2] rfl ?_
      rw [← e_b]
      exact ih (q + 1) (by omega)
    · refine g_iinc (lv' := [(1, .int (nI (nTilt K q + 1))), (2, .int (nI q)), (0, .ref h)]) Z dX0_tilts_22 1 rfl (zinc _) (by decide) rfl ?_
      refine g_iinc (lv' := [(2, .int (nI (q + 1))), (1, .int (nI (nTilt K q + 1))), (0, .ref h)]) Z dX0_tilts_25 1 rfl (zinc _) (by decide) rfl ?_
      refine g_goto (tgt := 4) Z dX0_tilts_28 (by decide) ?_
      have e_b : nTilt K (q + 1) = nTilt K q + 1 := by simp only [nTilt]; rw [if_pos (by simp [c_9, c_19])]
      refine g_lv (lv2 := [(2, .int (nI (q + 1))), (1, .int (nI (nTilt K q + 1))), (0, .ref h)]) Z [0, 1, 2] rfl ?_
      rw [← e_b]
      exact ih (q + 1) (by omega)
set_option maxHeartbeats 4000000 in
set_option maxRecDepth 100000 in
theorem qX0_tilts (E : zE) (h k f s : Nat) (K F G : Nat → Int32) (n : Nat) (hn : n ≤ 8) : zF E yX0_tilts wsX0_tilts rX0_tilts [.ref h] [cO h 0 [.ref k, .ref f, .ref s, .int (nI n)], cI E k 8 K, cI E f 8 F, cI E s 8 G] (zx (some (.int (nI (nTilt K n)))) ([cO h 0 [.ref k, .ref f, .ref s, .int (nI n)], cI E k 8 K, cI E f 8 F, cI E s 8 G])) := by
  refine z_start RX0 "tilts" (by decide) rfl rfl rfl (Nat.le_of_ble_eq_true rfl) ?_
  intro J Z
  refine g_eq Z (lv2 := [(0, .ref h)]) rfl rfl rfl ?_
  refine g_iconst Z dX0_tilts_0 zi_0 ?_
  refine g_istore_n (lv' := [(1, .int 0), (0, .ref h)]) Z dX0_tilts_1 rfl (by decide) rfl ?_
  refine g_iconst Z dX0_tilts_2 zi_0 ?_
  refine g_istore_n (lv' := [(2, .int 0), (1, .int 0), (0, .ref h)]) Z dX0_tilts_3 rfl (by decide) rfl ?_
  exact lX0_tilts E h k f s K F G n hn Z n 0 (by omega)

abbrev rX0_hasRoomFor : Room := { frames := 1, cells := 0, slots := 0, locals := 22 }
theorem iX0_hasRoomFor : zInfo yX0_hasRoomFor wsX0_hasRoomFor RX0 2 (some .boolean) 1 := ⟨_, _, rfl, by decide +kernel⟩
set_option maxHeartbeats 4000000 in
set_option maxRecDepth 100000 in
theorem qX0_hasRoomFor (E : zE) (h k f s : Nat) (K F G : Nat → Int32) (n : Nat) (kd : Int32) (hn : n ≤ 8) : zF E yX0_hasRoomFor wsX0_hasRoomFor rX0_hasRoomFor [.ref h, .int kd] [cO h 0 [.ref k, .ref f, .ref s, .int (nI n)], cI E k 8 K, cI E f 8 F, cI E s 8 G] (zx (some (.int (if ((kd = 1 ∨ kd = 2) → nBent K n < 3) ∧ (¬ (kd = 1 ∨ kd = 2) → kd = 3 → nTilt K n < 2) then 1 else 0))) ([cO h 0 [.ref k, .ref f, .ref s, .int (nI n)], cI E k 8 K, cI E f 8 F, cI E s 8 G])) := by
  refine z_start RX0 "hasRoomFor" (by decide) rfl rfl rfl (Nat.le_of_ble_eq_true rfl) ?_
  intro J Z
  refine g_eq Z (lv2 := [(0, .ref h), (1, .int kd)]) rfl rfl rfl ?_
  have hb1 := nBent_le K n
  have hb2 := nTilt_le K n
  refine g_iload_n Z dX0_hasRoomFor_0 1 rfl rfl ?_
  refine g_iconst Z dX0_hasRoomFor_1 zi_1 ?_
  refine g_icmp_eq (tgt := 10) Z dX0_hasRoomFor_2 (by decide) (fun c_2 => ?_) (fun c_2 => ?_)
  · refine g_aload_n Z dX0_hasRoomFor_10 0 rfl rfl ?_
    refine g_callVx (w' := [cO h 0 [.ref k, .ref f, .ref s, .int (nI n)], cI E k 8 K, cI E f 8 F, cI E s 8 G]) Z (qX0_bending E h k f s K F G n (by omega)) iX0_bending gX0_hasRoomFor_X0_bending ⟨rfl, rfl⟩ ⟨Nat.le_of_ble_eq_true rfl, Nat.le_of_ble_eq_true rfl⟩ dX0_hasRoomFor_11 rfl rfl (Nat.le_of_ble_eq_true rfl) ⟨Nat.zero_le _, Nat.zero_le _⟩ [0, 1, 2, 3] rfl rfl 0 rfl rfl rfl rfl rfl ?_
    refine g_iconst Z dX0_hasRoomFor_14 zi_3 ?_
    refine g_icmpN_ge (tgt := 22) Z dX0_hasRoomFor_15 (by decide) (nBent K n) 3 rfl rfl (by omega) (by omega) (fun c_15 => ?_) (fun c_15 => ?_)
    · refine g_iconst Z dX0_hasRoomFor_22 zi_0 ?_
      exact g_zret Z dX0_hasRoomFor_23 rfl rfl ⟨Nat.zero_le _, Nat.zero_le _⟩ ⟨z_f (by simp [c_2, c_15]), rfl⟩
    · refine g_iconst Z dX0_hasRoomFor_18 zi_1 ?_
      refine g_goto (tgt := 23) Z dX0_hasRoomFor_19 (by decide) ?_
      exact g_zret Z dX0_hasRoomFor_23 rfl rfl ⟨Nat.zero_le _, Nat.zero_le _⟩ ⟨z_t (by simp [c_2, c_15]), rfl⟩
  · refine g_iload_n Z dX0_hasRoomFor_5 1 rfl rfl ?_
    refine g_iconst Z dX0_hasRoomFor_6 zi_2 ?_
    refine g_icmp_ne (tgt := 24) Z dX0_hasRoomFor_7 (by decide) (fun c_7 => ?_) (fun c_7 => ?_)
    · refine g_iload_n Z dX0_hasRoomFor_24 1 rfl rfl ?_
      refine g_iconst Z dX0_hasRoomFor_25 zi_3 ?_
      refine g_icmp_ne (tgt := 37) Z dX0_hasRoomFor_26 (by decide) (fun c_26 => ?_) (fun c_26 => ?_)
      · refine g_iconst Z dX0_hasRoomFor_37 zi_1 ?_
        refine g_goto (tgt := 42) Z dX0_hasRoomFor_38 (by decide) ?_
        exact g_zret Z dX0_hasRoomFor_42 rfl rfl ⟨Nat.zero_le _, Nat.zero_le _⟩ ⟨z_t (by simp [c_2, c_7, c_26]), rfl⟩
      · refine g_aload_n Z dX0_hasRoomFor_29 0 rfl rfl ?_
        refine g_callVx (w' := [cO h 0 [.ref k, .ref f, .ref s, .int (nI n)], cI E k 8 K, cI E f 8 F, cI E s 8 G]) Z (qX0_tilts E h k f s K F G n (by omega)) iX0_tilts gX0_hasRoomFor_X0_tilts ⟨rfl, rfl⟩ ⟨Nat.le_of_ble_eq_true rfl, Nat.le_of_ble_eq_true rfl⟩ dX0_hasRoomFor_30 rfl rfl (Nat.le_of_ble_eq_true rfl) ⟨Nat.zero_le _, Nat.zero_le _⟩ [0, 1, 2, 3] rfl rfl 0 rfl rfl rfl rfl rfl ?_
        refine g_iconst Z dX0_hasRoomFor_33 zi_2 ?_
        refine g_icmpN_ge (tgt := 41) Z dX0_hasRoomFor_34 (by decide) (nTilt K n) 2 rfl rfl (by omega) (by omega) (fun c_34 => ?_) (fun c_34 => ?_)
        · refine g_iconst Z dX0_hasRoomFor_41 zi_0 ?_
          exact g_zret Z dX0_hasRoomFor_42 rfl rfl ⟨Nat.zero_le _, Nat.zero_le _⟩ ⟨z_f (by simp [c_2, c_7, c_26, c_34]), rfl⟩
        · refine g_iconst Z dX0_hasRoomFor_37 zi_1 ?_
          refine g_goto (tgt := 42) Z dX0_hasRoomFor_38 (by decide) ?_
          exact g_zret Z dX0_hasRoomFor_42 rfl rfl ⟨Nat.zero_le _, Nat.zero_le _⟩ ⟨z_t (by simp [c_2, c_7, c_26, c_34]), rfl⟩
    · refine g_aload_n Z dX0_hasRoomFor_10 0 rfl rfl ?_
      refine g_callVx (w' := [cO h 0 [.ref k, .ref f, .ref s, .int (nI n)], cI E k 8 K, cI E f 8 F, cI E s 8 G]) Z (qX0_bending E h k f s K F G n (by omega)) iX0_bending gX0_hasRoomFor_X0_bending ⟨rfl, rfl⟩ ⟨Nat.le_of_ble_eq_true rfl, Nat.le_of_ble_eq_true rfl⟩ dX0_hasRoomFor_11 rfl rfl (Nat.le_of_ble_eq_true rfl) ⟨Nat.zero_le _, Nat.zero_le _⟩ [0, 1, 2, 3] rfl rfl 0 rfl rfl rfl rfl rfl ?_
      refine g_iconst Z dX0_hasRoomFor_14 zi_3 ?_
      refine g_icmpN_ge (tgt := 22) Z dX0_hasRoomFor_15 (by decide) (nBent K n) 3 rfl rfl (by omega) (by omega) (fun c_15 => ?_) (fun c_15 => ?_)
      · refine g_iconst Z dX0_hasRoomFor_22 zi_0 ?_
        exact g_zret Z dX0_hasRoomFor_23 rfl rfl ⟨Nat.zero_le _, Nat.zero_le _⟩ ⟨z_f (by simp [c_2, c_7, c_15]), rfl⟩
      · refine g_iconst Z dX0_hasRoomFor_18 zi_1 ?_
        refine g_goto (tgt := 23) Z dX0_hasRoomFor_19 (by decide) ?_
        exact g_zret Z dX0_hasRoomFor_23 rfl rfl ⟨Nat.zero_le _, Nat.zero_le _⟩ ⟨z_t (by simp [c_2, c_7, c_15]), rfl⟩

abbrev rX0_write : Room := { frames := 0, cells := 0, slots := 0, locals := 0 }
theorem iX0_write : zInfo yX0_write wsX0_write RX0 5 none 4 := ⟨_, _, rfl, by decide +kernel⟩
theorem nX0_write_X0 : ∀ w ∈ wsX00, w ∈ wsX0_write := by decide +kernel
theorem fX0_write_9 : Cond.fieldLink RX0 9 (TX0 0).1 (TX0 0).2.1 (TX0 0).2.2.1 ∈ wsX0_write := by decide +kernel
theorem fX0_write_15 : Cond.fieldLink RX0 15 (TX0 1).1 (TX0 1).2.1 (TX0 1).2.2.1 ∈ wsX0_write := by decide +kernel
theorem fX0_write_18 : Cond.fieldLink RX0 18 (TX0 2).1 (TX0 2).2.1 (TX0 2).2.2.1 ∈ wsX0_write := by decide +kernel
set_option maxHeartbeats 4000000 in
set_option maxRecDepth 100000 in
theorem qX0_write (E : zE) (h k f s : Nat) (K F G : Nat → Int32) (n j : Nat) (kd a b : Int32) (hj : j < 8) : zF E yX0_write wsX0_write rX0_write [.ref h, .int (nI j), .int kd, .int a, .int b] [cO h 0 [.ref k, .ref f, .ref s, .int (nI n)], cI E k 8 K, cI E f 8 F, cI E s 8 G] (zx none ([cO h 0 [.ref k, .ref f, .ref s, .int (nI n)], cI E k 8 (upd K j kd), cI E f 8 (upd F j a), cI E s 8 (upd G j b)])) := by
  refine z_start RX0 "write" (by decide) rfl rfl rfl (Nat.le_of_ble_eq_true rfl) ?_
  intro J Z
  refine g_eq Z (lv2 := [(0, .ref h), (1, .int (nI j)), (2, .int kd), (3, .int a), (4, .int b)]) rfl rfl rfl ?_
  refine g_aload_n Z dX0_write_0 0 rfl rfl ?_
  refine g_get Z dX0_write_1 0 rfl rfl nX0_write_X0 0 (by decide) fX0_write_9 rfl ?_
  refine g_iload_n Z dX0_write_4 1 rfl rfl ?_
  refine g_iload_n Z dX0_write_5 2 rfl rfl ?_
  refine g_iast (w' := [cO h 0 [.ref k, .ref f, .ref s, .int (nI n)], cI E k 8 (upd K j kd), cI E f 8 F, cI E s 8 G]) Z dX0_write_6 1 rfl j rfl (by omega) rfl rfl ?_
  refine g_aload_n Z dX0_write_7 0 rfl rfl ?_
  refine g_get Z dX0_write_8 0 rfl rfl nX0_write_X0 1 (by decide) fX0_write_15 rfl ?_
  refine g_iload_n Z dX0_write_11 1 rfl rfl ?_
  refine g_iload_n Z dX0_write_12 3 rfl rfl ?_
  refine g_iast (w' := [cO h 0 [.ref k, .ref f, .ref s, .int (nI n)], cI E k 8 (upd K j kd), cI E f 8 (upd F j a), cI E s 8 G]) Z dX0_write_13 2 rfl j rfl (by omega) rfl rfl ?_
  refine g_aload_n Z dX0_write_14 0 rfl rfl ?_
  refine g_get Z dX0_write_15 0 rfl rfl nX0_write_X0 2 (by decide) fX0_write_18 rfl ?_
  refine g_iload_n Z dX0_write_18 1 rfl rfl ?_
  refine g_iload Z dX0_write_19 4 rfl ?_
  refine g_iast (w' := [cO h 0 [.ref k, .ref f, .ref s, .int (nI n)], cI E k 8 (upd K j kd), cI E f 8 (upd F j a), cI E s 8 (upd G j b)]) Z dX0_write_21 3 rfl j rfl (by omega) rfl rfl ?_
  exact g_vret Z dX0_write_22 rfl ⟨Nat.zero_le _, Nat.zero_le _⟩ ⟨rfl, rfl⟩

abbrev rX0_insert : Room := { frames := 1, cells := 0, slots := 0, locals := 24 }
theorem iX0_insert : zInfo yX0_insert wsX0_insert RX0 6 none 4 := ⟨_, _, rfl, by decide +kernel⟩
theorem nX0_insert_X0 : ∀ w ∈ wsX00, w ∈ wsX0_insert := by decide +kernel
theorem fX0_insert_21 : Cond.fieldLink RX0 21 (TX0 3).1 (TX0 3).2.1 (TX0 3).2.2.1 ∈ wsX0_insert := by decide +kernel
theorem fX0_insert_9 : Cond.fieldLink RX0 9 (TX0 0).1 (TX0 0).2.1 (TX0 0).2.2.1 ∈ wsX0_insert := by decide +kernel
theorem fX0_insert_15 : Cond.fieldLink RX0 15 (TX0 1).1 (TX0 1).2.1 (TX0 1).2.2.1 ∈ wsX0_insert := by decide +kernel
theorem fX0_insert_18 : Cond.fieldLink RX0 18 (TX0 2).1 (TX0 2).2.1 (TX0 2).2.2.1 ∈ wsX0_insert := by decide +kernel
set_option maxHeartbeats 4000000 in
set_option maxRecDepth 100000 in
theorem lX0_insert (E : zE) (h k f s : Nat) (K F G : Nat → Int32) (n j : Nat) (kd a b : Int32) (hj : j ≤ n) (hn : n < 8) {J : zJ} (Z : zOk E J RX0 cX0_insert 6 none wsX0_insert rX0_insert "insert" (fun _ => True) (zx none ([cO h 0 [.ref k, .ref f, .ref s, .int (nI (n + 1))], cI E k 8 (upd (shUp K n (n - j)) j kd), cI E f 8 (upd (shUp F n (n - j)) j a), cI E s 8 (upd (shUp G n (n - j)) j b)])))  : ∀ (d : Nat) (q : Nat) (K2 F2 G2 : Nat → Int32), q = j + d → q ≤ n → shUp K2 q d = shUp K n (n - j) → shUp F2 q d = shUp F n (n - j) → shUp G2 q d = shUp G n (n - j) → J 0 0 [cO h 0 [.ref k, .ref f, .ref s, .int (nI n)], cI E k 8 K2, cI E f 8 F2, cI E s 8 G2] 6 [(5, .int (nI q)), (0, .ref h), (1, .int (nI j)), (2, .int kd), (3, .int a), (4, .int b)] [] := by
  intro d
  induction d with
  | zero =>
    intro q K2 F2 G2 h1 h2 h3 h4 h5
    simp only [shUp] at h3 h4 h5
    refine g_iload Z dX0_insert_6 0 rfl ?_
    refine g_iload_n Z dX0_insert_8 2 rfl rfl ?_
    refine g_icmpN_le (tgt := 51) Z dX0_insert_9 (by decide) q j rfl rfl (by omega) (by omega) (fun c_9 => ?_) (fun c_9 => absurd c_9 (by omega))
    refine g_aload_n Z dX0_insert_51 1 rfl rfl ?_
    refine g_iload_n Z dX0_insert_52 2 rfl rfl ?_
    refine g_iload_n Z dX0_insert_53 3 rfl rfl ?_
    refine g_iload_n Z dX0_insert_54 4 rfl rfl ?_
    refine g_iload Z dX0_insert_55 5 rfl ?_
    refine g_callVx (w' := [cO h 0 [.ref k, .ref f, .ref s, .int (nI n)], cI E k 8 (upd K2 j kd), cI E f 8 (upd F2 j a), cI E s 8 (upd G2 j b)]) Z (qX0_write E h k f s K2 F2 G2 n j kd a b (by omega)) iX0_write gX0_insert_X0_write ⟨rfl, rfl⟩ ⟨Nat.le_of_ble_eq_true rfl, Nat.le_of_ble_eq_true rfl⟩ dX0_insert_57 rfl rfl (Nat.le_of_ble_eq_true rfl) ⟨Nat.zero_le _, Nat.zero_le _⟩ [0, 1, 2, 3] rfl rfl 0 rfl rfl rfl rfl rfl ?_
    refine g_aload_n Z dX0_insert_60 1 rfl rfl ?_
    refine g_dup Z dX0_insert_61 rfl ?_
    refine g_get Z dX0_insert_62 0 rfl rfl nX0_insert_X0 3 (by decide) fX0_insert_21 rfl ?_
    refine g_iconst Z dX0_insert_65 zi_1 ?_
    refine g_iaddE (z := nI (n + 1)) Z dX0_insert_66 (nI_add n 1) ?_
    refine g_put (w' := [cO h 0 [.ref k, .ref f, .ref s, .int (nI (n + 1))], cI E k 8 (upd K2 j kd), cI E f 8 (upd F2 j a), cI E s 8 (upd G2 j b)]) Z dX0_insert_67 0 rfl rfl nX0_insert_X0 tyX0 tyX0_ok nmX0 3 (by decide) fX0_insert_21 rfl rfl rfl rfl (Nat.le_of_ble_eq_true rfl) rfl ?_
    exact g_vret Z dX0_insert_70 rfl ⟨Nat.zero_le _, Nat.zero_le _⟩ ⟨rfl, by rw [h3, h4, h5]⟩
  | succ d ih =>
    intro q K2 F2 G2 h1 h2 h3 h4 h5
    obtain ⟨p, e_q⟩ : ∃ p, q = p + 1 := ⟨q - 1, by omega⟩
    have e_p : q - 1 = p := by omega
    simp only [shUp, e_p] at h3 h4 h5
    refine g_iload Z dX0_insert_6 0 rfl ?_
    refine g_iload_n Z dX0_insert_8 2 rfl rfl ?_
    refine g_icmpN_le (tgt := 51) Z dX0_insert_9 (by decide) q j rfl rfl (by omega) (by omega) (fun c_9 => absurd c_9 (by omega)) (fun c_9 => ?_)
    refine g_aload_n Z dX0_insert_12 1 rfl rfl ?_
    refine g_iload Z dX0_insert_13 0 rfl ?_
    refine g_aload_n Z dX0_insert_15 1 rfl rfl ?_
    refine g_get Z dX0_insert_16 0 rfl rfl nX0_insert_X0 0 (by decide) fX0_insert_9 rfl ?_
    refine g_iload Z dX0_insert_19 0 rfl ?_
    refine g_iconst Z dX0_insert_21 zi_1 ?_
    refine g_isubE (z := nI p) Z dX0_insert_22 (by rw [e_q]; exact nI_pred p) ?_
    refine g_iald Z dX0_insert_23 1 rfl p rfl (by omega) rfl ?_
    refine g_aload_n Z dX0_insert_24 1 rfl rfl ?_
    refine g_get Z dX0_insert_25 0 rfl rfl nX0_insert_X0 1 (by decide) fX0_insert_15 rfl ?_
    refine g_iload Z dX0_insert_28 0 rfl ?_
    refine g_iconst Z dX0_insert_30 zi_1 ?_
    refine g_isubE (z := nI p) Z dX0_insert_31 (by rw [e_q]; exact nI_pred p) ?_
    refine g_iald Z dX0_insert_32 2 rfl p rfl (by omega) rfl ?_
    refine g_aload_n Z dX0_insert_33 1 rfl rfl ?_
    refine g_get Z dX0_insert_34 0 rfl rfl nX0_insert_X0 2 (by decide) fX0_insert_18 rfl ?_
    refine g_iload Z dX0_insert_37 0 rfl ?_
    refine g_iconst Z dX0_insert_39 zi_1 ?_
    refine g_isubE (z := nI p) Z dX0_insert_40 (by rw [e_q]; exact nI_pred p) ?_
    refine g_iald Z dX0_insert_41 3 rfl p rfl (by omega) rfl ?_
    refine g_callVx (w' := [cO h 0 [.ref k, .ref f, .ref s, .int (nI n)], cI E k 8 (upd K2 q (K2 p)), cI E f 8 (upd F2 q (F2 p)), cI E s 8 (upd G2 q (G2 p))]) Z (qX0_write E h k f s K2 F2 G2 n q (K2 p) (F2 p) (G2 p) (by omega)) iX0_write gX0_insert_X0_write ⟨rfl, rfl⟩ ⟨Nat.le_of_ble_eq_true rfl, Nat.le_of_ble_eq_true rfl⟩ dX0_insert_42 rfl rfl (Nat.le_of_ble_eq_true rfl) ⟨Nat.zero_le _, Nat.zero_le _⟩ [0, 1, 2, 3] rfl rfl 0 rfl rfl rfl rfl rfl ?_
    refine g_iinc (lv' := [(5, .int (nI p)), (0, .ref h), (1, .int (nI j)), (2, .int kd), (3, .int a), (4, .int b)]) Z dX0_insert_45 0 rfl (by rw [e_q]; exact zdec p) (by decide) rfl ?_
    refine g_goto (tgt := 6) Z dX0_insert_48 (by decide) ?_
    refine g_lv (lv2 := [(5, .int (nI p)), (0, .ref h), (1, .int (nI j)), (2, .int kd), (3, .int a), (4, .int b)]) Z [0, 1, 2, 3, 4, 5] rfl ?_
    exact ih p _ _ _ (by omega) (by omega) h3 h4 h5
set_option maxHeartbeats 4000000 in
set_option maxRecDepth 100000 in
theorem qX0_insert (E : zE) (h k f s : Nat) (K F G : Nat → Int32) (n j : Nat) (kd a b : Int32) (hj : j ≤ n) (hn : n < 8) : zF E yX0_insert wsX0_insert rX0_insert [.ref h, .int (nI j), .int kd, .int a, .int b] [cO h 0 [.ref k, .ref f, .ref s, .int (nI n)], cI E k 8 K, cI E f 8 F, cI E s 8 G] (zx none ([cO h 0 [.ref k, .ref f, .ref s, .int (nI (n + 1))], cI E k 8 (upd (shUp K n (n - j)) j kd), cI E f 8 (upd (shUp F n (n - j)) j a), cI E s 8 (upd (shUp G n (n - j)) j b)])) := by
  refine z_start RX0 "insert" (by decide) rfl rfl rfl (Nat.le_of_ble_eq_true rfl) ?_
  intro J Z
  refine g_eq Z (lv2 := [(0, .ref h), (1, .int (nI j)), (2, .int kd), (3, .int a), (4, .int b)]) rfl rfl rfl ?_
  refine g_aload_n Z dX0_insert_0 0 rfl rfl ?_
  refine g_get Z dX0_insert_1 0 rfl rfl nX0_insert_X0 3 (by decide) fX0_insert_21 rfl ?_
  refine g_istore (lv' := [(5, .int (nI n)), (0, .ref h), (1, .int (nI j)), (2, .int kd), (3, .int a), (4, .int b)]) Z dX0_insert_4 (by decide) rfl ?_
  exact lX0_insert E h k f s K F G n j kd a b hj hn Z (n - j) n K F G (by omega) (by omega) rfl rfl rfl

abbrev rX0_remove : Room := { frames := 1, cells := 0, slots := 0, locals := 24 }
theorem iX0_remove : zInfo yX0_remove wsX0_remove RX0 3 none 1 := ⟨_, _, rfl, by decide +kernel⟩
theorem nX0_remove_X0 : ∀ w ∈ wsX00, w ∈ wsX0_remove := by decide +kernel
theorem fX0_remove_21 : Cond.fieldLink RX0 21 (TX0 3).1 (TX0 3).2.1 (TX0 3).2.2.1 ∈ wsX0_remove := by decide +kernel
theorem fX0_remove_9 : Cond.fieldLink RX0 9 (TX0 0).1 (TX0 0).2.1 (TX0 0).2.2.1 ∈ wsX0_remove := by decide +kernel
theorem fX0_remove_15 : Cond.fieldLink RX0 15 (TX0 1).1 (TX0 1).2.1 (TX0 1).2.2.1 ∈ wsX0_remove := by decide +kernel
theorem fX0_remove_18 : Cond.fieldLink RX0 18 (TX0 2).1 (TX0 2).2.1 (TX0 2).2.2.1 ∈ wsX0_remove := by decide +kernel
set_option maxHeartbeats 4000000 in
set_option maxRecDepth 100000 in
theorem lX0_remove (E : zE) (h k f s : Nat) (K F G : Nat → Int32) (n m j : Nat) (hn : n = m + 1) (hj : j ≤ m) (hm : m < 8) {J : zJ} (Z : zOk E J RX0 cX0_remove 3 none wsX0_remove rX0_remove "remove" (fun _ => True) (zx none ([cO h 0 [.ref k, .ref f, .ref s, .int (nI m)], cI E k 8 (shDn K j (m - j)), cI E f 8 (shDn F j (m - j)), cI E s 8 (shDn G j (m - j))])))  : ∀ (d : Nat) (q : Nat) (K2 F2 G2 : Nat → Int32), q + d = m → shDn K2 q d = shDn K j (m - j) → shDn F2 q d = shDn F j (m - j) → shDn G2 q d = shDn G j (m - j) → J 0 0 [cO h 0 [.ref k, .ref f, .ref s, .int (nI n)], cI E k 8 K2, cI E f 8 F2, cI E s 8 G2] 2 [(2, .int (nI q)), (0, .ref h), (1, .int (nI j))] [] := by
  intro d
  induction d with
  | zero =>
    intro q K2 F2 G2 h1 h2 h3 h4
    simp only [shDn] at h2 h3 h4
    refine g_iload_n Z dX0_remove_2 0 rfl rfl ?_
    refine g_aload_n Z dX0_remove_3 1 rfl rfl ?_
    refine g_get Z dX0_remove_4 0 rfl rfl nX0_remove_X0 3 (by decide) fX0_remove_21 rfl ?_
    refine g_iconst Z dX0_remove_7 zi_1 ?_
    refine g_isubE (z := nI m) Z dX0_remove_8 (by rw [hn]; exact nI_pred m) ?_
    refine g_icmpN_ge (tgt := 47) Z dX0_remove_9 (by decide) q m rfl rfl (by omega) (by omega) (fun c_9 => ?_) (fun c_9 => absurd c_9 (by omega))
    refine g_aload_n Z dX0_remove_47 1 rfl rfl ?_
    refine g_dup Z dX0_remove_48 rfl ?_
    refine g_get Z dX0_remove_49 0 rfl rfl nX0_remove_X0 3 (by decide) fX0_remove_21 rfl ?_
    refine g_iconst Z dX0_remove_52 zi_1 ?_
    refine g_isubE (z := nI m) Z dX0_remove_53 (by rw [hn]; exact nI_pred m) ?_
    refine g_put (w' := [cO h 0 [.ref k, .ref f, .ref s, .int (nI m)], cI E k 8 K2, cI E f 8 F2, cI E s 8 G2]) Z dX0_remove_54 0 rfl rfl nX0_remove_X0 tyX0 tyX0_ok nmX0 3 (by decide) fX0_remove_21 rfl rfl rfl rfl (Nat.le_of_ble_eq_true rfl) rfl ?_
    exact g_vret Z dX0_remove_57 rfl ⟨Nat.zero_le _, Nat.zero_le _⟩ ⟨rfl, by rw [h2, h3, h4]⟩
  | succ d ih =>
    intro q K2 F2 G2 h1 h2 h3 h4
    simp only [shDn] at h2 h3 h4
    refine g_iload_n Z dX0_remove_2 0 rfl rfl ?_
    refine g_aload_n Z dX0_remove_3 1 rfl rfl ?_
    refine g_get Z dX0_remove_4 0 rfl rfl nX0_remove_X0 3 (by decide) fX0_remove_21 rfl ?_
    refine g_iconst Z dX0_remove_7 zi_1 ?_
    refine g_isubE (z := nI m) Z dX0_remove_8 (by rw [hn]; exact nI_pred m) ?_
    refine g_icmpN_ge (tgt := 47) Z dX0_remove_9 (by decide) q m rfl rfl (by omega) (by omega) (fun c_9 => absurd c_9 (by omega)) (fun c_9 => ?_)
    refine g_aload_n Z dX0_remove_12 1 rfl rfl ?_
    refine g_iload_n Z dX0_remove_13 0 rfl rfl ?_
    refine g_aload_n Z dX0_remove_14 1 rfl rfl ?_
    refine g_get Z dX0_remove_15 0 rfl rfl nX0_remove_X0 0 (by decide) fX0_remove_9 rfl ?_
    refine g_iload_n Z dX0_remove_18 0 rfl rfl ?_
    refine g_iconst Z dX0_remove_19 zi_1 ?_
    refine g_iaddE (z := nI (q + 1)) Z dX0_remove_20 (nI_add q 1) ?_
    refine g_iald Z dX0_remove_21 1 rfl (q + 1) rfl (by omega) rfl ?_
    refine g_aload_n Z dX0_remove_22 1 rfl rfl ?_
    refine g_get Z dX0_remove_23 0 rfl rfl nX0_remove_X0 1 (by decide) fX0_remove_15 rfl ?_
    refine g_iload_n Z dX0_remove_26 0 rfl rfl ?_
    refine g_iconst Z dX0_remove_27 zi_1 ?_
    refine g_iaddE (z := nI (q + 1)) Z dX0_remove_28 (nI_add q 1) ?_
    refine g_iald Z dX0_remove_29 2 rfl (q + 1) rfl (by omega) rfl ?_
    refine g_aload_n Z dX0_remove_30 1 rfl rfl ?_
    refine g_get Z dX0_remove_31 0 rfl rfl nX0_remove_X0 2 (by decide) fX0_remove_18 rfl ?_
    refine g_iload_n Z dX0_remove_34 0 rfl rfl ?_
    refine g_iconst Z dX0_remove_35 zi_1 ?_
    refine g_iaddE (z := nI (q + 1)) Z dX0_remove_36 (nI_add q 1) ?_
    refine g_iald Z dX0_remove_37 3 rfl (q + 1) rfl (by omega) rfl ?_
    refine g_callVx (w' := [cO h 0 [.ref k, .ref f, .ref s, .int (nI n)], cI E k 8 (upd K2 q (K2 (q + 1))), cI E f 8 (upd F2 q (F2 (q + 1))), cI E s 8 (upd G2 q (G2 (q + 1)))]) Z (qX0_write E h k f s K2 F2 G2 n q (K2 (q + 1)) (F2 (q + 1)) (G2 (q + 1)) (by omega)) iX0_write gX0_remove_X0_write ⟨rfl, rfl⟩ ⟨Nat.le_of_ble_eq_true rfl, Nat.le_of_ble_eq_true rfl⟩ dX0_remove_38 rfl rfl (Nat.le_of_ble_eq_true rfl) ⟨Nat.zero_le _, Nat.zero_le _⟩ [0, 1, 2, 3] rfl rfl 0 rfl rfl rfl rfl rfl ?_
    refine g_iinc (lv' := [(2, .int (nI (q + 1))), (0, .ref h), (1, .int (nI j))]) Z dX0_remove_41 0 rfl (zinc _) (by decide) rfl ?_
    refine g_goto (tgt := 2) Z dX0_remove_44 (by decide) ?_
    refine g_lv (lv2 := [(2, .int (nI (q + 1))), (0, .ref h), (1, .int (nI j))]) Z [0, 1, 2] rfl ?_
    exact ih (q + 1) _ _ _ (by omega) h2 h3 h4
set_option maxHeartbeats 4000000 in
set_option maxRecDepth 100000 in
theorem qX0_remove (E : zE) (h k f s : Nat) (K F G : Nat → Int32) (n m j : Nat) (hn : n = m + 1) (hj : j ≤ m) (hm : m < 8) : zF E yX0_remove wsX0_remove rX0_remove [.ref h, .int (nI j)] [cO h 0 [.ref k, .ref f, .ref s, .int (nI n)], cI E k 8 K, cI E f 8 F, cI E s 8 G] (zx none ([cO h 0 [.ref k, .ref f, .ref s, .int (nI m)], cI E k 8 (shDn K j (m - j)), cI E f 8 (shDn F j (m - j)), cI E s 8 (shDn G j (m - j))])) := by
  refine z_start RX0 "remove" (by decide) rfl rfl rfl (Nat.le_of_ble_eq_true rfl) ?_
  intro J Z
  refine g_eq Z (lv2 := [(0, .ref h), (1, .int (nI j))]) rfl rfl rfl ?_
  refine g_iload_n Z dX0_remove_0 1 rfl rfl ?_
  refine g_istore_n (lv' := [(2, .int (nI j)), (0, .ref h), (1, .int (nI j))]) Z dX0_remove_1 rfl (by decide) rfl ?_
  exact lX0_remove E h k f s K F G n m j hn hj hm Z (m - j) j K F G (by omega) rfl rfl rfl

abbrev rX0_reverse : Room := { frames := 1, cells := 0, slots := 0, locals := 24 }
theorem iX0_reverse : zInfo yX0_reverse wsX0_reverse RX0 6 none 0 := ⟨_, _, rfl, by decide +kernel⟩
theorem nX0_reverse_X0 : ∀ w ∈ wsX00, w ∈ wsX0_reverse := by decide +kernel
theorem fX0_reverse_9 : Cond.fieldLink RX0 9 (TX0 0).1 (TX0 0).2.1 (TX0 0).2.2.1 ∈ wsX0_reverse := by decide +kernel
theorem fX0_reverse_15 : Cond.fieldLink RX0 15 (TX0 1).1 (TX0 1).2.1 (TX0 1).2.2.1 ∈ wsX0_reverse := by decide +kernel
theorem fX0_reverse_18 : Cond.fieldLink RX0 18 (TX0 2).1 (TX0 2).2.1 (TX0 2).2.2.1 ∈ wsX0_reverse := by decide +kernel
theorem fX0_reverse_21 : Cond.fieldLink RX0 21 (TX0 3).1 (TX0 3).2.1 (TX0 3).2.2.1 ∈ wsX0_reverse := by decide +kernel
set_option maxHeartbeats 4000000 in
set_option maxRecDepth 100000 in
theorem lX0_reverse (E : zE) (h k f s : Nat) (K F G : Nat → Int32) (n : Nat) (hn : n ≤ 8) {J : zJ} (Z : zOk E J RX0 cX0_reverse 6 none wsX0_reverse rX0_reverse "reverse" (fun _ => True) (zx none ([cO h 0 [.ref k, .ref f, .ref s, .int (nI n)], cI E k 8 (revF K n 0 (n / 2)), cI E f 8 (revF F n 0 (n / 2)), cI E s 8 (revF G n 0 (n / 2))])))  : ∀ (d : Nat) (q p : Nat) (K2 F2 G2 : Nat → Int32), p + q + 1 = n → q + d = n / 2 → revF K2 n q d = revF K n 0 (n / 2) → revF F2 n q d = revF F n 0 (n / 2) → revF G2 n q d = revF G n 0 (n / 2) → J 0 0 [cO h 0 [.ref k, .ref f, .ref s, .int (nI n)], cI E k 8 K2, cI E f 8 F2, cI E s 8 G2] 9 [(2, .int (nI p)), (1, .int (nI q)), (0, .ref h)] [] := by
  intro d
  induction d with
  | zero =>
    intro q p K2 F2 G2 h1 h2 h3 h4 h5
    simp only [revF] at h3 h4 h5
    refine g_iload_n Z dX0_reverse_9 1 rfl rfl ?_
    refine g_iload_n Z dX0_reverse_10 0 rfl rfl ?_
    refine g_icmpN_ge (tgt := 79) Z dX0_reverse_11 (by decide) q p rfl rfl (by omega) (by omega) (fun c_11 => ?_) (fun c_11 => absurd c_11 (by omega))
    exact g_vret Z dX0_reverse_79 rfl ⟨Nat.zero_le _, Nat.zero_le _⟩ ⟨rfl, by rw [h3, h4, h5]⟩
  | succ d ih =>
    intro q p K2 F2 G2 h1 h2 h3 h4 h5
    obtain ⟨p2, e_p⟩ : ∃ p2, p = p2 + 1 := ⟨p - 1, by omega⟩
    have e_n : n - 1 - q = p := by omega
    simp only [revF, e_n] at h3 h4 h5
    refine g_iload_n Z dX0_reverse_9 1 rfl rfl ?_
    refine g_iload_n Z dX0_reverse_10 0 rfl rfl ?_
    refine g_icmpN_ge (tgt := 79) Z dX0_reverse_11 (by decide) q p rfl rfl (by omega) (by omega) (fun c_11 => absurd c_11 (by omega)) (fun c_11 => ?_)
    refine g_aload_n Z dX0_reverse_14 2 rfl rfl ?_
    refine g_get Z dX0_reverse_15 0 rfl rfl nX0_reverse_X0 0 (by decide) fX0_reverse_9 rfl ?_
    refine g_iload_n Z dX0_reverse_18 1 rfl rfl ?_
    refine g_iald Z dX0_reverse_19 1 rfl q rfl (by omega) rfl ?_
    refine g_istore_n (lv' := [(3, .int (K2 q)), (2, .int (nI p)), (1, .int (nI q)), (0, .ref h)]) Z dX0_reverse_20 rfl (by decide) rfl ?_
    refine g_aload_n Z dX0_reverse_21 3 rfl rfl ?_
    refine g_get Z dX0_reverse_22 0 rfl rfl nX0_reverse_X0 1 (by decide) fX0_reverse_15 rfl ?_
    refine g_iload_n Z dX0_reverse_25 2 rfl rfl ?_
    refine g_iald Z dX0_reverse_26 2 rfl q rfl (by omega) rfl ?_
    refine g_istore (lv' := [(4, .int (F2 q)), (3, .int (K2 q)), (2, .int (nI p)), (1, .int (nI q)), (0, .ref h)]) Z dX0_reverse_27 (by decide) rfl ?_
    refine g_aload_n Z dX0_reverse_29 4 rfl rfl ?_
    refine g_get Z dX0_reverse_30 0 rfl rfl nX0_reverse_X0 2 (by decide) fX0_reverse_18 rfl ?_
    refine g_iload_n Z dX0_reverse_33 3 rfl rfl ?_
    refine g_iald Z dX0_reverse_34 3 rfl q rfl (by omega) rfl ?_
    refine g_istore (lv' := [(5, .int (G2 q)), (4, .int (F2 q)), (3, .int (K2 q)), (2, .int (nI p)), (1, .int (nI q)), (0, .ref h)]) Z dX0_reverse_35 (by decide) rfl ?_
    refine g_aload_n Z dX0_reverse_37 5 rfl rfl ?_
    refine g_iload_n Z dX0_reverse_38 4 rfl rfl ?_
    refine g_aload_n Z dX0_reverse_39 5 rfl rfl ?_
    refine g_get Z dX0_reverse_40 0 rfl rfl nX0_reverse_X0 0 (by decide) fX0_reverse_9 rfl ?_
    refine g_iload_n Z dX0_reverse_43 3 rfl rfl ?_
    refine g_iald Z dX0_reverse_44 1 rfl p rfl (by omega) rfl ?_
    refine g_aload_n Z dX0_reverse_45 5 rfl rfl ?_
    refine g_get Z dX0_reverse_46 0 rfl rfl nX0_reverse_X0 1 (by decide) fX0_reverse_15 rfl ?_
    refine g_iload_n Z dX0_reverse_49 3 rfl rfl ?_
    refine g_iald Z dX0_reverse_50 2 rfl p rfl (by omega) rfl ?_
    refine g_aload_n Z dX0_reverse_51 5 rfl rfl ?_
    refine g_get Z dX0_reverse_52 0 rfl rfl nX0_reverse_X0 2 (by decide) fX0_reverse_18 rfl ?_
    refine g_iload_n Z dX0_reverse_55 3 rfl rfl ?_
    refine g_iald Z dX0_reverse_56 3 rfl p rfl (by omega) rfl ?_
    refine g_callVx (w' := [cO h 0 [.ref k, .ref f, .ref s, .int (nI n)], cI E k 8 (upd K2 q (K2 p)), cI E f 8 (upd F2 q (F2 p)), cI E s 8 (upd G2 q (G2 p))]) Z (qX0_write E h k f s K2 F2 G2 n q (K2 p) (F2 p) (G2 p) (by omega)) iX0_write gX0_reverse_X0_write ⟨rfl, rfl⟩ ⟨Nat.le_of_ble_eq_true rfl, Nat.le_of_ble_eq_true rfl⟩ dX0_reverse_57 rfl rfl (Nat.le_of_ble_eq_true rfl) ⟨Nat.zero_le _, Nat.zero_le _⟩ [0, 1, 2, 3] rfl rfl 0 rfl rfl rfl rfl rfl ?_
    refine g_aload_n Z dX0_reverse_60 5 rfl rfl ?_
    refine g_iload_n Z dX0_reverse_61 3 rfl rfl ?_
    refine g_iload_n Z dX0_reverse_62 2 rfl rfl ?_
    refine g_iload Z dX0_reverse_63 1 rfl ?_
    refine g_iload Z dX0_reverse_65 0 rfl ?_
    refine g_callVx (w' := [cO h 0 [.ref k, .ref f, .ref s, .int (nI n)], cI E k 8 (upd (upd K2 q (K2 p)) p (K2 q)), cI E f 8 (upd (upd F2 q (F2 p)) p (F2 q)), cI E s 8 (upd (upd G2 q (G2 p)) p (G2 q))]) Z (qX0_write E h k f s (upd K2 q (K2 p)) (upd F2 q (F2 p)) (upd G2 q (G2 p)) n p (K2 q) (F2 q) (G2 q) (by omega)) iX0_write gX0_reverse_X0_write ⟨rfl, rfl⟩ ⟨Nat.le_of_ble_eq_true rfl, Nat.le_of_ble_eq_true rfl⟩ dX0_reverse_67 rfl rfl (Nat.le_of_ble_eq_true rfl) ⟨Nat.zero_le _, Nat.zero_le _⟩ [0, 1, 2, 3] rfl rfl 0 rfl rfl rfl rfl rfl ?_
    refine g_iinc (lv' := [(1, .int (nI (q + 1))), (5, .int (G2 q)), (4, .int (F2 q)), (3, .int (K2 q)), (2, .int (nI p)), (0, .ref h)]) Z dX0_reverse_70 4 rfl (zinc _) (by decide) rfl ?_
    refine g_iinc (lv' := [(2, .int (nI p2)), (1, .int (nI (q + 1))), (5, .int (G2 q)), (4, .int (F2 q)), (3, .int (K2 q)), (0, .ref h)]) Z dX0_reverse_73 4 rfl (by rw [e_p]; exact zdec p2) (by decide) rfl ?_
    refine g_goto (tgt := 9) Z dX0_reverse_76 (by decide) ?_
    refine g_lv (lv2 := [(2, .int (nI p2)), (1, .int (nI (q + 1))), (0, .ref h)]) Z [0, 1, 5] rfl ?_
    exact ih (q + 1) p2 _ _ _ (by omega) (by omega) h3 h4 h5
set_option maxHeartbeats 4000000 in
set_option maxRecDepth 100000 in
theorem qX0_reverse (E : zE) (h k f s : Nat) (K F G : Nat → Int32) (n : Nat) (hn : n ≤ 8) : zF E yX0_reverse wsX0_reverse rX0_reverse [.ref h] [cO h 0 [.ref k, .ref f, .ref s, .int (nI n)], cI E k 8 K, cI E f 8 F, cI E s 8 G] (zx none ([cO h 0 [.ref k, .ref f, .ref s, .int (nI n)], cI E k 8 (revF K n 0 (n / 2)), cI E f 8 (revF F n 0 (n / 2)), cI E s 8 (revF G n 0 (n / 2))])) := by
  refine z_start RX0 "reverse" (by decide) rfl rfl rfl (Nat.le_of_ble_eq_true rfl) ?_
  intro J Z
  refine g_eq Z (lv2 := [(0, .ref h)]) rfl rfl rfl ?_
  rcases Nat.eq_zero_or_pos n with e_0 | e_0
  · refine g_iconst Z dX0_reverse_0 zi_0 ?_
    refine g_istore_n (lv' := [(1, .int 0), (0, .ref h)]) Z dX0_reverse_1 rfl (by decide) rfl ?_
    refine g_aload_n Z dX0_reverse_2 1 rfl rfl ?_
    refine g_get Z dX0_reverse_3 0 rfl rfl nX0_reverse_X0 3 (by decide) fX0_reverse_21 rfl ?_
    refine g_iconst Z dX0_reverse_6 zi_1 ?_
    refine g_isub Z dX0_reverse_7 ?_
    refine g_istore_n (lv' := [(2, .int ((nI n) - 1)), (1, .int 0), (0, .ref h)]) Z dX0_reverse_8 rfl (by decide) rfl ?_
    refine g_iload_n Z dX0_reverse_9 1 rfl rfl ?_
    refine g_iload_n Z dX0_reverse_10 0 rfl rfl ?_
    refine g_icmp_ge (tgt := 79) Z dX0_reverse_11 (by decide) (fun c_11 => ?_) (fun c_11 => absurd c_11 (by rw [e_0]; decide))
    exact g_vret Z dX0_reverse_79 rfl ⟨Nat.zero_le _, Nat.zero_le _⟩ (by subst e_0; exact ⟨rfl, rfl⟩)
  · refine g_iconst Z dX0_reverse_0 zi_0 ?_
    refine g_istore_n (lv' := [(1, .int 0), (0, .ref h)]) Z dX0_reverse_1 rfl (by decide) rfl ?_
    refine g_aload_n Z dX0_reverse_2 1 rfl rfl ?_
    refine g_get Z dX0_reverse_3 0 rfl rfl nX0_reverse_X0 3 (by decide) fX0_reverse_21 rfl ?_
    refine g_iconst Z dX0_reverse_6 zi_1 ?_
    refine g_isubE (z := nI (n - 1)) Z dX0_reverse_7 (pk_sub (a := n) (b := 1) (by omega)) ?_
    refine g_istore_n (lv' := [(2, .int (nI (n - 1))), (1, .int 0), (0, .ref h)]) Z dX0_reverse_8 rfl (by decide) rfl ?_
    exact lX0_reverse E h k f s K F G n hn Z (n / 2) 0 (n - 1) K F G (by omega) (by omega) rfl rfl rfl

abbrev rX0_append : Room := { frames := 1, cells := 0, slots := 0, locals := 24 }
theorem iX0_append : zInfo yX0_append wsX0_append RX0 4 none 1 := ⟨_, _, rfl, by decide +kernel⟩
theorem nX0_append_X0 : ∀ w ∈ wsX00, w ∈ wsX0_append := by decide +kernel
theorem fX0_append_21 : Cond.fieldLink RX0 21 (TX0 3).1 (TX0 3).2.1 (TX0 3).2.2.1 ∈ wsX0_append := by decide +kernel
theorem fX0_append_9 : Cond.fieldLink RX0 9 (TX0 0).1 (TX0 0).2.1 (TX0 0).2.2.1 ∈ wsX0_append := by decide +kernel
theorem fX0_append_15 : Cond.fieldLink RX0 15 (TX0 1).1 (TX0 1).2.1 (TX0 1).2.2.1 ∈ wsX0_append := by decide +kernel
theorem fX0_append_18 : Cond.fieldLink RX0 18 (TX0 2).1 (TX0 2).2.1 (TX0 2).2.2.1 ∈ wsX0_append := by decide +kernel
set_option maxHeartbeats 4000000 in
set_option maxRecDepth 100000 in
theorem lX0_append (E : zE) (h k f s o k2 f2 s2 : Nat) (K F G M P Q : Nat → Int32) (n m : Nat) (hn : n + m ≤ 8) {J : zJ} (Z : zOk E J RX0 cX0_append 4 none wsX0_append rX0_append "append" (fun _ => True) (zx none ([cO h 0 [.ref k, .ref f, .ref s, .int (nI (n + m))], cI E k 8 (appF K M n 0 m), cI E f 8 (appF F P n 0 m), cI E s 8 (appF G Q n 0 m), cO o 0 [.ref k2, .ref f2, .ref s2, .int (nI m)], cI E k2 8 M, cI E f2 8 P, cI E s2 8 Q])))  : ∀ (d : Nat) (q p : Nat) (K2 F2 G2 : Nat → Int32), q + d = m → p = n + q → appF K2 M p q d = appF K M n 0 m → appF F2 P p q d = appF F P n 0 m → appF G2 Q p q d = appF G Q n 0 m → J 0 0 [cO h 0 [.ref k, .ref f, .ref s, .int (nI p)], cI E k 8 K2, cI E f 8 F2, cI E s 8 G2, cO o 0 [.ref k2, .ref f2, .ref s2, .int (nI m)], cI E k2 8 M, cI E f2 8 P, cI E s2 8 Q] 7 [(3, .int (nI q)), (2, .int (nI m)), (0, .ref h), (1, .ref o)] [] := by
  intro d
  induction d with
  | zero =>
    intro q p K2 F2 G2 h1 h2 h3 h4 h5
    simp only [appF] at h3 h4 h5
    have e_p : p = n + m := by omega
    refine g_iload_n Z dX0_append_7 0 rfl rfl ?_
    refine g_iload_n Z dX0_append_8 1 rfl rfl ?_
    refine g_icmpN_ge (tgt := 54) Z dX0_append_9 (by decide) q m rfl rfl (by omega) (by omega) (fun c_9 => ?_) (fun c_9 => absurd c_9 (by omega))
    exact g_vret Z dX0_append_54 rfl ⟨Nat.zero_le _, Nat.zero_le _⟩ ⟨rfl, by rw [h3, h4, h5, e_p]⟩
  | succ d ih =>
    intro q p K2 F2 G2 h1 h2 h3 h4 h5
    simp only [appF] at h3 h4 h5
    refine g_iload_n Z dX0_append_7 0 rfl rfl ?_
    refine g_iload_n Z dX0_append_8 1 rfl rfl ?_
    refine g_icmpN_ge (tgt := 54) Z dX0_append_9 (by decide) q m rfl rfl (by omega) (by omega) (fun c_9 => absurd c_9 (by omega)) (fun c_9 => ?_)
    refine g_aload_n Z dX0_append_12 2 rfl rfl ?_
    refine g_aload_n Z dX0_append_13 2 rfl rfl ?_
    refine g_get Z dX0_append_14 0 rfl rfl nX0_append_X0 3 (by decide) fX0_append_21 rfl ?_
    refine g_aload_n Z dX0_append_17 3 rfl rfl ?_
    refine g_get Z dX0_append_18 4 rfl rfl nX0_append_X0 0 (by decide) fX0_append_9 rfl ?_
    refine g_iload_n Z dX0_append_21 0 rfl rfl ?_
    refine g_iald Z dX0_append_22 5 rfl q rfl (by omega) rfl ?_
    refine g_aload_n Z dX0_append_23 3 rfl rfl ?_
    refine g_get Z dX0_append_24 4 rfl rfl nX0_append_X0 1 (by decide) fX0_append_15 rfl ?_
    refine g_iload_n Z dX0_append_27 0 rfl rfl ?_
    refine g_iald Z dX0_append_28 6 rfl q rfl (by omega) rfl ?_
    refine g_aload_n Z dX0_append_29 3 rfl rfl ?_
    refine g_get Z dX0_append_30 4 rfl rfl nX0_append_X0 2 (by decide) fX0_append_18 rfl ?_
    refine g_iload_n Z dX0_append_33 0 rfl rfl ?_
    refine g_iald Z dX0_append_34 7 rfl q rfl (by omega) rfl ?_
    refine g_callVx (w' := [cO h 0 [.ref k, .ref f, .ref s, .int (nI p)], cI E k 8 (upd K2 p (M q)), cI E f 8 (upd F2 p (P q)), cI E s 8 (upd G2 p (Q q)), cO o 0 [.ref k2, .ref f2, .ref s2, .int (nI m)], cI E k2 8 M, cI E f2 8 P, cI E s2 8 Q]) Z (qX0_write E h k f s K2 F2 G2 p p (M q) (P q) (Q q) (by omega)) iX0_write gX0_append_X0_write ⟨rfl, rfl⟩ ⟨Nat.le_of_ble_eq_true rfl, Nat.le_of_ble_eq_true rfl⟩ dX0_append_35 rfl rfl (Nat.le_of_ble_eq_true rfl) ⟨Nat.zero_le _, Nat.zero_le _⟩ [0, 1, 2, 3] rfl rfl 0 rfl rfl rfl rfl rfl ?_
    refine g_aload_n Z dX0_append_38 2 rfl rfl ?_
    refine g_dup Z dX0_append_39 rfl ?_
    refine g_get Z dX0_append_40 0 rfl rfl nX0_append_X0 3 (by decide) fX0_append_21 rfl ?_
    refine g_iconst Z dX0_append_43 zi_1 ?_
    refine g_iaddE (z := nI (p + 1)) Z dX0_append_44 (nI_add p 1) ?_
    refine g_put (w' := [cO h 0 [.ref k, .ref f, .ref s, .int (nI (p + 1))], cI E k 8 (upd K2 p (M q)), cI E f 8 (upd F2 p (P q)), cI E s 8 (upd G2 p (Q q)), cO o 0 [.ref k2, .ref f2, .ref s2, .int (nI m)], cI E k2 8 M, cI E f2 8 P, cI E s2 8 Q]) Z dX0_append_45 0 rfl rfl nX0_append_X0 tyX0 tyX0_ok nmX0 3 (by decide) fX0_append_21 rfl rfl rfl rfl (Nat.le_of_ble_eq_true rfl) rfl ?_
    refine g_iinc (lv' := [(3, .int (nI (q + 1))), (2, .int (nI m)), (0, .ref h), (1, .ref o)]) Z dX0_append_48 0 rfl (zinc _) (by decide) rfl ?_
    refine g_goto (tgt := 7) Z dX0_append_51 (by decide) ?_
    refine g_lv (lv2 := [(3, .int (nI (q + 1))), (2, .int (nI m)), (0, .ref h), (1, .ref o)]) Z [0, 1, 2, 3] rfl ?_
    exact ih (q + 1) (p + 1) _ _ _ (by omega) (by omega) h3 h4 h5
set_option maxHeartbeats 4000000 in
set_option maxRecDepth 100000 in
theorem qX0_append (E : zE) (h k f s o k2 f2 s2 : Nat) (K F G M P Q : Nat → Int32) (n m : Nat) (hn : n + m ≤ 8) : zF E yX0_append wsX0_append rX0_append [.ref h, .ref o] [cO h 0 [.ref k, .ref f, .ref s, .int (nI n)], cI E k 8 K, cI E f 8 F, cI E s 8 G, cO o 0 [.ref k2, .ref f2, .ref s2, .int (nI m)], cI E k2 8 M, cI E f2 8 P, cI E s2 8 Q] (zx none ([cO h 0 [.ref k, .ref f, .ref s, .int (nI (n + m))], cI E k 8 (appF K M n 0 m), cI E f 8 (appF F P n 0 m), cI E s 8 (appF G Q n 0 m), cO o 0 [.ref k2, .ref f2, .ref s2, .int (nI m)], cI E k2 8 M, cI E f2 8 P, cI E s2 8 Q])) := by
  refine z_start RX0 "append" (by decide) rfl rfl rfl (Nat.le_of_ble_eq_true rfl) ?_
  intro J Z
  refine g_eq Z (lv2 := [(0, .ref h), (1, .ref o)]) rfl rfl rfl ?_
  refine g_aload_n Z dX0_append_0 1 rfl rfl ?_
  refine g_get Z dX0_append_1 4 rfl rfl nX0_append_X0 3 (by decide) fX0_append_21 rfl ?_
  refine g_istore_n (lv' := [(2, .int (nI m)), (0, .ref h), (1, .ref o)]) Z dX0_append_4 rfl (by decide) rfl ?_
  refine g_iconst Z dX0_append_5 zi_0 ?_
  refine g_istore_n (lv' := [(3, .int 0), (2, .int (nI m)), (0, .ref h), (1, .ref o)]) Z dX0_append_6 rfl (by decide) rfl ?_
  exact lX0_append E h k f s o k2 f2 s2 K F G M P Q n m hn Z m 0 n K F G (by omega) (by omega) rfl rfl rfl

set_option maxHeartbeats 4000000 in
set_option maxRecDepth 100000 in
theorem lX0_appendS (E : zE) (h k f s : Nat) (K F G : Nat → Int32) (n : Nat) (hn : n + n ≤ 8) {J : zJ} (Z : zOk E J RX0 cX0_append 4 none wsX0_append rX0_append "append" (fun _ => True) (zx none ([cO h 0 [.ref k, .ref f, .ref s, .int (nI (n + n))], cI E k 8 (appF K K n 0 n), cI E f 8 (appF F F n 0 n), cI E s 8 (appF G G n 0 n)])))  : ∀ (d : Nat) (q p : Nat) (K2 F2 G2 : Nat → Int32), q + d = n → p = n + q → (∀ x, x < n → K2 x = K x) → (∀ x, x < n → F2 x = F x) → (∀ x, x < n → G2 x = G x) → appF K2 K p q d = appF K K n 0 n → appF F2 F p q d = appF F F n 0 n → appF G2 G p q d = appF G G n 0 n → J 0 0 [cO h 0 [.ref k, .ref f, .ref s, .int (nI p)], cI E k 8 K2, cI E f 8 F2, cI E s 8 G2] 7 [(3, .int (nI q)), (2, .int (nI n)), (0, .ref h), (1, .ref h)] [] := by
  intro d
  induction d with
  | zero =>
    intro q p K2 F2 G2 h1 h2 h3 h4 h5 h6 h7 h8
    simp only [appF] at h6 h7 h8
    have e_p : p = n + n := by omega
    refine g_iload_n Z dX0_append_7 0 rfl rfl ?_
    refine g_iload_n Z dX0_append_8 1 rfl rfl ?_
    refine g_icmpN_ge (tgt := 54) Z dX0_append_9 (by decide) q n rfl rfl (by omega) (by omega) (fun c_9 => ?_) (fun c_9 => absurd c_9 (by omega))
    exact g_vret Z dX0_append_54 rfl ⟨Nat.zero_le _, Nat.zero_le _⟩ ⟨rfl, by rw [h6, h7, h8, e_p]⟩
  | succ d ih =>
    intro q p K2 F2 G2 h1 h2 h3 h4 h5 h6 h7 h8
    simp only [appF] at h6 h7 h8
    rw [← h3 q (by omega)] at h6
    rw [← h4 q (by omega)] at h7
    rw [← h5 q (by omega)] at h8
    refine g_iload_n Z dX0_append_7 0 rfl rfl ?_
    refine g_iload_n Z dX0_append_8 1 rfl rfl ?_
    refine g_icmpN_ge (tgt := 54) Z dX0_append_9 (by decide) q n rfl rfl (by omega) (by omega) (fun c_9 => absurd c_9 (by omega)) (fun c_9 => ?_)
    refine g_aload_n Z dX0_append_12 2 rfl rfl ?_
    refine g_aload_n Z dX0_append_13 2 rfl rfl ?_
    refine g_get Z dX0_append_14 0 rfl rfl nX0_append_X0 3 (by decide) fX0_append_21 rfl ?_
    refine g_aload_n Z dX0_append_17 3 rfl rfl ?_
    refine g_get Z dX0_append_18 0 rfl rfl nX0_append_X0 0 (by decide) fX0_append_9 rfl ?_
    refine g_iload_n Z dX0_append_21 0 rfl rfl ?_
    refine g_iald Z dX0_append_22 1 rfl q rfl (by omega) rfl ?_
    refine g_aload_n Z dX0_append_23 3 rfl rfl ?_
    refine g_get Z dX0_append_24 0 rfl rfl nX0_append_X0 1 (by decide) fX0_append_15 rfl ?_
    refine g_iload_n Z dX0_append_27 0 rfl rfl ?_
    refine g_iald Z dX0_append_28 2 rfl q rfl (by omega) rfl ?_
    refine g_aload_n Z dX0_append_29 3 rfl rfl ?_
    refine g_get Z dX0_append_30 0 rfl rfl nX0_append_X0 2 (by decide) fX0_append_18 rfl ?_
    refine g_iload_n Z dX0_append_33 0 rfl rfl ?_
    refine g_iald Z dX0_append_34 3 rfl q rfl (by omega) rfl ?_
    refine g_callVx (w' := [cO h 0 [.ref k, .ref f, .ref s, .int (nI p)], cI E k 8 (upd K2 p (K2 q)), cI E f 8 (upd F2 p (F2 q)), cI E s 8 (upd G2 p (G2 q))]) Z (qX0_write E h k f s K2 F2 G2 p p (K2 q) (F2 q) (G2 q) (by omega)) iX0_write gX0_append_X0_write ⟨rfl, rfl⟩ ⟨Nat.le_of_ble_eq_true rfl, Nat.le_of_ble_eq_true rfl⟩ dX0_append_35 rfl rfl (Nat.le_of_ble_eq_true rfl) ⟨Nat.zero_le _, Nat.zero_le _⟩ [0, 1, 2, 3] rfl rfl 0 rfl rfl rfl rfl rfl ?_
    refine g_aload_n Z dX0_append_38 2 rfl rfl ?_
    refine g_dup Z dX0_append_39 rfl ?_
    refine g_get Z dX0_append_40 0 rfl rfl nX0_append_X0 3 (by decide) fX0_append_21 rfl ?_
    refine g_iconst Z dX0_append_43 zi_1 ?_
    refine g_iaddE (z := nI (p + 1)) Z dX0_append_44 (nI_add p 1) ?_
    refine g_put (w' := [cO h 0 [.ref k, .ref f, .ref s, .int (nI (p + 1))], cI E k 8 (upd K2 p (K2 q)), cI E f 8 (upd F2 p (F2 q)), cI E s 8 (upd G2 p (G2 q))]) Z dX0_append_45 0 rfl rfl nX0_append_X0 tyX0 tyX0_ok nmX0 3 (by decide) fX0_append_21 rfl rfl rfl rfl (Nat.le_of_ble_eq_true rfl) rfl ?_
    refine g_iinc (lv' := [(3, .int (nI (q + 1))), (2, .int (nI n)), (0, .ref h), (1, .ref h)]) Z dX0_append_48 0 rfl (zinc _) (by decide) rfl ?_
    refine g_goto (tgt := 7) Z dX0_append_51 (by decide) ?_
    refine g_lv (lv2 := [(3, .int (nI (q + 1))), (2, .int (nI n)), (0, .ref h), (1, .ref h)]) Z [0, 1, 2, 3] rfl ?_
    exact ih (q + 1) (p + 1) _ _ _ (by omega) (by omega) (fun x hx => by rw [pk_un (by omega)]; exact h3 x hx) (fun x hx => by rw [pk_un (by omega)]; exact h4 x hx) (fun x hx => by rw [pk_un (by omega)]; exact h5 x hx) h6 h7 h8
set_option maxHeartbeats 4000000 in
set_option maxRecDepth 100000 in
theorem qX0_appendS (E : zE) (h k f s : Nat) (K F G : Nat → Int32) (n : Nat) (hn : n + n ≤ 8) : zF E yX0_append wsX0_append rX0_append [.ref h, .ref h] [cO h 0 [.ref k, .ref f, .ref s, .int (nI n)], cI E k 8 K, cI E f 8 F, cI E s 8 G] (zx none ([cO h 0 [.ref k, .ref f, .ref s, .int (nI (n + n))], cI E k 8 (appF K K n 0 n), cI E f 8 (appF F F n 0 n), cI E s 8 (appF G G n 0 n)])) := by
  refine z_start RX0 "append" (by decide) rfl rfl rfl (Nat.le_of_ble_eq_true rfl) ?_
  intro J Z
  refine g_eq Z (lv2 := [(0, .ref h), (1, .ref h)]) rfl rfl rfl ?_
  refine g_aload_n Z dX0_append_0 1 rfl rfl ?_
  refine g_get Z dX0_append_1 0 rfl rfl nX0_append_X0 3 (by decide) fX0_append_21 rfl ?_
  refine g_istore_n (lv' := [(2, .int (nI n)), (0, .ref h), (1, .ref h)]) Z dX0_append_4 rfl (by decide) rfl ?_
  refine g_iconst Z dX0_append_5 zi_0 ?_
  refine g_istore_n (lv' := [(3, .int 0), (2, .int (nI n)), (0, .ref h), (1, .ref h)]) Z dX0_append_6 rfl (by decide) rfl ?_
  exact lX0_appendS E h k f s K F G n hn Z n 0 n K F G (by omega) (by omega) (fun _ _ => rfl) (fun _ _ => rfl) (fun _ _ => rfl) rfl rfl rfl
end
section
abbrev rX1_clear : Room := { frames := 0, cells := 0, slots := 0, locals := 0 }
theorem iX1_clear : zInfo yX1_clear wsX1_clear RX1 1 none 0 := ⟨_, _, rfl, by decide +kernel⟩
theorem nX1_clear_X1 : ∀ w ∈ wsX10, w ∈ wsX1_clear := by decide +kernel
theorem fX1_clear_9 : Cond.fieldLink RX1 9 (TX1 0).1 (TX1 0).2.1 (TX1 0).2.2.1 ∈ wsX1_clear := by decide +kernel
theorem fX1_clear_15 : Cond.fieldLink RX1 15 (TX1 1).1 (TX1 1).2.1 (TX1 1).2.2.1 ∈ wsX1_clear := by decide +kernel
theorem fX1_clear_18 : Cond.fieldLink RX1 18 (TX1 2).1 (TX1 2).2.1 (TX1 2).2.2.1 ∈ wsX1_clear := by decide +kernel
theorem fX1_clear_21 : Cond.fieldLink RX1 21 (TX1 3).1 (TX1 3).2.1 (TX1 3).2.2.1 ∈ wsX1_clear := by decide +kernel
theorem fX1_clear_24 : Cond.fieldLink RX1 24 (TX1 4).1 (TX1 4).2.1 (TX1 4).2.2.1 ∈ wsX1_clear := by decide +kernel
theorem fX1_clear_27 : Cond.fieldLink RX1 27 (TX1 5).1 (TX1 5).2.1 (TX1 5).2.2.1 ∈ wsX1_clear := by decide +kernel
theorem fX1_clear_30 : Cond.fieldLink RX1 30 (TX1 6).1 (TX1 6).2.1 (TX1 6).2.2.1 ∈ wsX1_clear := by decide +kernel
set_option maxHeartbeats 4000000 in
set_option maxRecDepth 100000 in
theorem qX1_clear (E : zE) (h : Nat) (T : TB)  : zF E yX1_clear wsX1_clear rX1_clear [.ref h] [cO h 1 [.long (ta T), .long (tb T), .long (tc T), .long (td T), .long (te T), .long (tf T), .long (tg T)]] (zx none ([cO h 1 [.long (ta T1), .long (tb T1), .long (tc T1), .long (td T1), .long (te T1), .long (tf T1), .long (tg T1)]])) := by
  refine z_start RX1 "clear" (by decide) rfl rfl rfl (Nat.le_of_ble_eq_true rfl) ?_
  intro J Z
  refine g_eq Z (lv2 := [(0, .ref h)]) rfl rfl rfl ?_
  refine g_aload_n Z dX1_clear_0 0 rfl rfl ?_
  refine g_lconst Z dX1_clear_1 zl_1 ?_
  refine g_put (w' := [cO h 1 [.long 1, .long (tb T), .long (tc T), .long (td T), .long (te T), .long (tf T), .long (tg T)]]) Z dX1_clear_2 0 rfl rfl nX1_clear_X1 tyX1 tyX1_ok nmX1 0 (by decide) fX1_clear_9 rfl rfl rfl rfl (Nat.le_of_ble_eq_true rfl) rfl ?_
  refine g_aload_n Z dX1_clear_5 0 rfl rfl ?_
  refine g_lconst Z dX1_clear_6 zl_0 ?_
  refine g_put (w' := [cO h 1 [.long 1, .long 0, .long (tc T), .long (td T), .long (te T), .long (tf T), .long (tg T)]]) Z dX1_clear_7 0 rfl rfl nX1_clear_X1 tyX1 tyX1_ok nmX1 1 (by decide) fX1_clear_15 rfl rfl rfl rfl (Nat.le_of_ble_eq_true rfl) rfl ?_
  refine g_aload_n Z dX1_clear_10 0 rfl rfl ?_
  refine g_lconst Z dX1_clear_11 zl_0 ?_
  refine g_put (w' := [cO h 1 [.long 1, .long 0, .long 0, .long (td T), .long (te T), .long (tf T), .long (tg T)]]) Z dX1_clear_12 0 rfl rfl nX1_clear_X1 tyX1 tyX1_ok nmX1 2 (by decide) fX1_clear_18 rfl rfl rfl rfl (Nat.le_of_ble_eq_true rfl) rfl ?_
  refine g_aload_n Z dX1_clear_15 0 rfl rfl ?_
  refine g_lconst Z dX1_clear_16 zl_1 ?_
  refine g_put (w' := [cO h 1 [.long 1, .long 0, .long 0, .long 1, .long (te T), .long (tf T), .long (tg T)]]) Z dX1_clear_17 0 rfl rfl nX1_clear_X1 tyX1 tyX1_ok nmX1 3 (by decide) fX1_clear_21 rfl rfl rfl rfl (Nat.le_of_ble_eq_true rfl) rfl ?_
  refine g_aload_n Z dX1_clear_20 0 rfl rfl ?_
  refine g_lconst Z dX1_clear_21 zl_0 ?_
  refine g_put (w' := [cO h 1 [.long 1, .long 0, .long 0, .long 1, .long 0, .long (tf T), .long (tg T)]]) Z dX1_clear_22 0 rfl rfl nX1_clear_X1 tyX1 tyX1_ok nmX1 4 (by decide) fX1_clear_24 rfl rfl rfl rfl (Nat.le_of_ble_eq_true rfl) rfl ?_
  refine g_aload_n Z dX1_clear_25 0 rfl rfl ?_
  refine g_lconst Z dX1_clear_26 zl_0 ?_
  refine g_put (w' := [cO h 1 [.long 1, .long 0, .long 0, .long 1, .long 0, .long 0, .long (tg T)]]) Z dX1_clear_27 0 rfl rfl nX1_clear_X1 tyX1 tyX1_ok nmX1 5 (by decide) fX1_clear_27 rfl rfl rfl rfl (Nat.le_of_ble_eq_true rfl) rfl ?_
  refine g_aload_n Z dX1_clear_30 0 rfl rfl ?_
  refine g_lconst Z dX1_clear_31 zl_1 ?_
  refine g_put (w' := [cO h 1 [.long 1, .long 0, .long 0, .long 1, .long 0, .long 0, .long 1]]) Z dX1_clear_32 0 rfl rfl nX1_clear_X1 tyX1 tyX1_ok nmX1 6 (by decide) fX1_clear_30 rfl rfl rfl rfl (Nat.le_of_ble_eq_true rfl) rfl ?_
  exact g_vret Z dX1_clear_35 rfl ⟨Nat.zero_le _, Nat.zero_le _⟩ ⟨rfl, rfl⟩

abbrev rX1_stretchBy : Room := { frames := 0, cells := 0, slots := 0, locals := 0 }
theorem iX1_stretchBy : zInfo yX1_stretchBy wsX1_stretchBy RX1 3 none 1 := ⟨_, _, rfl, by decide +kernel⟩
theorem nX1_stretchBy_X1 : ∀ w ∈ wsX10, w ∈ wsX1_stretchBy := by decide +kernel
theorem fX1_stretchBy_9 : Cond.fieldLink RX1 9 (TX1 0).1 (TX1 0).2.1 (TX1 0).2.2.1 ∈ wsX1_stretchBy := by decide +kernel
theorem fX1_stretchBy_18 : Cond.fieldLink RX1 18 (TX1 2).1 (TX1 2).2.1 (TX1 2).2.2.1 ∈ wsX1_stretchBy := by decide +kernel
theorem fX1_stretchBy_15 : Cond.fieldLink RX1 15 (TX1 1).1 (TX1 1).2.1 (TX1 1).2.2.1 ∈ wsX1_stretchBy := by decide +kernel
theorem fX1_stretchBy_21 : Cond.fieldLink RX1 21 (TX1 3).1 (TX1 3).2.1 (TX1 3).2.2.1 ∈ wsX1_stretchBy := by decide +kernel
theorem fX1_stretchBy_24 : Cond.fieldLink RX1 24 (TX1 4).1 (TX1 4).2.1 (TX1 4).2.2.1 ∈ wsX1_stretchBy := by decide +kernel
theorem fX1_stretchBy_27 : Cond.fieldLink RX1 27 (TX1 5).1 (TX1 5).2.1 (TX1 5).2.2.1 ∈ wsX1_stretchBy := by decide +kernel
set_option maxHeartbeats 4000000 in
set_option maxRecDepth 100000 in
theorem qX1_stretchBy (E : zE) (h : Nat) (T : TB) (x : Int64)  : zF E yX1_stretchBy wsX1_stretchBy rX1_stretchBy [.ref h, .long x] [cO h 1 [.long (ta T), .long (tb T), .long (tc T), .long (td T), .long (te T), .long (tf T), .long (tg T)]] (zx none ([cO h 1 [.long (ta (strF x T)), .long (tb (strF x T)), .long (tc (strF x T)), .long (td (strF x T)), .long (te (strF x T)), .long (tf (strF x T)), .long (tg (strF x T))]])) := by
  refine z_start RX1 "stretchBy" (by decide) rfl rfl rfl (Nat.le_of_ble_eq_true rfl) ?_
  intro J Z
  refine g_eq Z (lv2 := [(0, .ref h), (1, .long x)]) rfl rfl rfl ?_
  refine g_aload_n Z dX1_stretchBy_0 0 rfl rfl ?_
  refine g_dup Z dX1_stretchBy_1 rfl ?_
  refine g_get Z dX1_stretchBy_2 0 rfl rfl nX1_stretchBy_X1 0 (by decide) fX1_stretchBy_9 rfl ?_
  refine g_lload_n Z dX1_stretchBy_5 1 rfl rfl ?_
  refine g_aload_n Z dX1_stretchBy_6 0 rfl rfl ?_
  refine g_get Z dX1_stretchBy_7 0 rfl rfl nX1_stretchBy_X1 2 (by decide) fX1_stretchBy_18 rfl ?_
  refine g_lmul Z dX1_stretchBy_10 ?_
  refine g_ladd Z dX1_stretchBy_11 ?_
  refine g_put (w' := [cO h 1 [.long ((ta T) + (x * (tc T))), .long (tb T), .long (tc T), .long (td T), .long (te T), .long (tf T), .long (tg T)]]) Z dX1_stretchBy_12 0 rfl rfl nX1_stretchBy_X1 tyX1 tyX1_ok nmX1 0 (by decide) fX1_stretchBy_9 rfl rfl rfl rfl (Nat.le_of_ble_eq_true rfl) rfl ?_
  refine g_aload_n Z dX1_stretchBy_15 0 rfl rfl ?_
  refine g_dup Z dX1_stretchBy_16 rfl ?_
  refine g_get Z dX1_stretchBy_17 0 rfl rfl nX1_stretchBy_X1 1 (by decide) fX1_stretchBy_15 rfl ?_
  refine g_lload_n Z dX1_stretchBy_20 1 rfl rfl ?_
  refine g_aload_n Z dX1_stretchBy_21 0 rfl rfl ?_
  refine g_get Z dX1_stretchBy_22 0 rfl rfl nX1_stretchBy_X1 3 (by decide) fX1_stretchBy_21 rfl ?_
  refine g_lmul Z dX1_stretchBy_25 ?_
  refine g_ladd Z dX1_stretchBy_26 ?_
  refine g_put (w' := [cO h 1 [.long ((ta T) + (x * (tc T))), .long ((tb T) + (x * (td T))), .long (tc T), .long (td T), .long (te T), .long (tf T), .long (tg T)]]) Z dX1_stretchBy_27 0 rfl rfl nX1_stretchBy_X1 tyX1 tyX1_ok nmX1 1 (by decide) fX1_stretchBy_15 rfl rfl rfl rfl (Nat.le_of_ble_eq_true rfl) rfl ?_
  refine g_aload_n Z dX1_stretchBy_30 0 rfl rfl ?_
  refine g_dup Z dX1_stretchBy_31 rfl ?_
  refine g_get Z dX1_stretchBy_32 0 rfl rfl nX1_stretchBy_X1 4 (by decide) fX1_stretchBy_24 rfl ?_
  refine g_lload_n Z dX1_stretchBy_35 1 rfl rfl ?_
  refine g_aload_n Z dX1_stretchBy_36 0 rfl rfl ?_
  refine g_get Z dX1_stretchBy_37 0 rfl rfl nX1_stretchBy_X1 5 (by decide) fX1_stretchBy_27 rfl ?_
  refine g_lmul Z dX1_stretchBy_40 ?_
  refine g_ladd Z dX1_stretchBy_41 ?_
  refine g_put (w' := [cO h 1 [.long ((ta T) + (x * (tc T))), .long ((tb T) + (x * (td T))), .long (tc T), .long (td T), .long ((te T) + (x * (tf T))), .long (tf T), .long (tg T)]]) Z dX1_stretchBy_42 0 rfl rfl nX1_stretchBy_X1 tyX1 tyX1_ok nmX1 4 (by decide) fX1_stretchBy_24 rfl rfl rfl rfl (Nat.le_of_ble_eq_true rfl) rfl ?_
  exact g_vret Z dX1_stretchBy_45 rfl ⟨Nat.zero_le _, Nat.zero_le _⟩ ⟨rfl, rfl⟩

abbrev rX1_bendBy : Room := { frames := 0, cells := 0, slots := 0, locals := 0 }
theorem iX1_bendBy : zInfo yX1_bendBy wsX1_bendBy RX1 7 none 1 := ⟨_, _, rfl, by decide +kernel⟩
theorem nX1_bendBy_X1 : ∀ w ∈ wsX10, w ∈ wsX1_bendBy := by decide +kernel
theorem fX1_bendBy_18 : Cond.fieldLink RX1 18 (TX1 2).1 (TX1 2).2.1 (TX1 2).2.2.1 ∈ wsX1_bendBy := by decide +kernel
theorem fX1_bendBy_9 : Cond.fieldLink RX1 9 (TX1 0).1 (TX1 0).2.1 (TX1 0).2.2.1 ∈ wsX1_bendBy := by decide +kernel
theorem fX1_bendBy_21 : Cond.fieldLink RX1 21 (TX1 3).1 (TX1 3).2.1 (TX1 3).2.2.1 ∈ wsX1_bendBy := by decide +kernel
theorem fX1_bendBy_15 : Cond.fieldLink RX1 15 (TX1 1).1 (TX1 1).2.1 (TX1 1).2.2.1 ∈ wsX1_bendBy := by decide +kernel
theorem fX1_bendBy_27 : Cond.fieldLink RX1 27 (TX1 5).1 (TX1 5).2.1 (TX1 5).2.2.1 ∈ wsX1_bendBy := by decide +kernel
theorem fX1_bendBy_24 : Cond.fieldLink RX1 24 (TX1 4).1 (TX1 4).2.1 (TX1 4).2.2.1 ∈ wsX1_bendBy := by decide +kernel
theorem fX1_bendBy_30 : Cond.fieldLink RX1 30 (TX1 6).1 (TX1 6).2.1 (TX1 6).2.2.1 ∈ wsX1_bendBy := by decide +kernel
theorem kX1_bendBy_69 : Cond.constantLong RX1 69 (-1) ∈ wsX1_bendBy := by decide +kernel
set_option maxHeartbeats 4000000 in
set_option maxRecDepth 100000 in
theorem qX1_bendBy (E : zE) (h : Nat) (T : TB) (x : Int64)  : zF E yX1_bendBy wsX1_bendBy rX1_bendBy [.ref h, .long x] [cO h 1 [.long (ta T), .long (tb T), .long (tc T), .long (td T), .long (te T), .long (tf T), .long (tg T)]] (zx none ([cO h 1 [.long (ta (benF x T)), .long (tb (benF x T)), .long (tc (benF x T)), .long (td (benF x T)), .long (te (benF x T)), .long (tf (benF x T)), .long (tg (benF x T))]])) := by
  refine z_start RX1 "bendBy" (by decide) rfl rfl rfl (Nat.le_of_ble_eq_true rfl) ?_
  intro J Z
  refine g_eq Z (lv2 := [(0, .ref h), (1, .long x)]) rfl rfl rfl ?_
  refine g_lload_n Z dX1_bendBy_0 1 rfl rfl ?_
  refine g_lconst Z dX1_bendBy_1 zl_0 ?_
  refine g_lcmp_ge (tgt := 12) Z dX1_bendBy_2 dX1_bendBy_3 rfl (by decide) (fun c_3 => ?_) (fun c_3 => ?_)
  · refine g_lconst Z dX1_bendBy_12 zl_1 ?_
    refine g_lstore_n (lv' := [(3, .long 1), (0, .ref h), (1, .long x)]) Z dX1_bendBy_13 rfl (by decide) rfl ?_
    refine g_lload_n Z dX1_bendBy_14 0 rfl rfl ?_
    refine g_lload_n Z dX1_bendBy_15 2 rfl rfl ?_
    refine g_lmul Z dX1_bendBy_16 ?_
    refine g_lstore (lv' := [(5, .long (1 * x)), (3, .long 1), (0, .ref h), (1, .long x)]) Z dX1_bendBy_17 (by decide) rfl ?_
    refine g_aload_n Z dX1_bendBy_19 2 rfl rfl ?_
    refine g_lload Z dX1_bendBy_20 0 rfl ?_
    refine g_aload_n Z dX1_bendBy_22 2 rfl rfl ?_
    refine g_get Z dX1_bendBy_23 0 rfl rfl nX1_bendBy_X1 2 (by decide) fX1_bendBy_18 rfl ?_
    refine g_lmul Z dX1_bendBy_26 ?_
    refine g_lload_n Z dX1_bendBy_27 1 rfl rfl ?_
    refine g_aload_n Z dX1_bendBy_28 2 rfl rfl ?_
    refine g_get Z dX1_bendBy_29 0 rfl rfl nX1_bendBy_X1 0 (by decide) fX1_bendBy_9 rfl ?_
    refine g_lmul Z dX1_bendBy_32 ?_
    refine g_lsub Z dX1_bendBy_33 ?_
    refine g_put (w' := [cO h 1 [.long (ta T), .long (tb T), .long (((1 * x) * (tc T)) - (1 * (ta T))), .long (td T), .long (te T), .long (tf T), .long (tg T)]]) Z dX1_bendBy_34 0 rfl rfl nX1_bendBy_X1 tyX1 tyX1_ok nmX1 2 (by decide) fX1_bendBy_18 rfl rfl rfl rfl (Nat.le_of_ble_eq_true rfl) rfl ?_
    refine g_aload_n Z dX1_bendBy_37 2 rfl rfl ?_
    refine g_lload Z dX1_bendBy_38 0 rfl ?_
    refine g_aload_n Z dX1_bendBy_40 2 rfl rfl ?_
    refine g_get Z dX1_bendBy_41 0 rfl rfl nX1_bendBy_X1 3 (by decide) fX1_bendBy_21 rfl ?_
    refine g_lmul Z dX1_bendBy_44 ?_
    refine g_lload_n Z dX1_bendBy_45 1 rfl rfl ?_
    refine g_aload_n Z dX1_bendBy_46 2 rfl rfl ?_
    refine g_get Z dX1_bendBy_47 0 rfl rfl nX1_bendBy_X1 1 (by decide) fX1_bendBy_15 rfl ?_
    refine g_lmul Z dX1_bendBy_50 ?_
    refine g_lsub Z dX1_bendBy_51 ?_
    refine g_put (w' := [cO h 1 [.long (ta T), .long (tb T), .long (((1 * x) * (tc T)) - (1 * (ta T))), .long (((1 * x) * (td T)) - (1 * (tb T))), .long (te T), .long (tf T), .long (tg T)]]) Z dX1_bendBy_52 0 rfl rfl nX1_bendBy_X1 tyX1 tyX1_ok nmX1 3 (by decide) fX1_bendBy_21 rfl rfl rfl rfl (Nat.le_of_ble_eq_true rfl) rfl ?_
    refine g_aload_n Z dX1_bendBy_55 2 rfl rfl ?_
    refine g_lload Z dX1_bendBy_56 0 rfl ?_
    refine g_aload_n Z dX1_bendBy_58 2 rfl rfl ?_
    refine g_get Z dX1_bendBy_59 0 rfl rfl nX1_bendBy_X1 5 (by decide) fX1_bendBy_27 rfl ?_
    refine g_lmul Z dX1_bendBy_62 ?_
    refine g_lload_n Z dX1_bendBy_63 1 rfl rfl ?_
    refine g_aload_n Z dX1_bendBy_64 2 rfl rfl ?_
    refine g_get Z dX1_bendBy_65 0 rfl rfl nX1_bendBy_X1 4 (by decide) fX1_bendBy_24 rfl ?_
    refine g_lmul Z dX1_bendBy_68 ?_
    refine g_lsub Z dX1_bendBy_69 ?_
    refine g_put (w' := [cO h 1 [.long (ta T), .long (tb T), .long (((1 * x) * (tc T)) - (1 * (ta T))), .long (((1 * x) * (td T)) - (1 * (tb T))), .long (te T), .long (((1 * x) * (tf T)) - (1 * (te T))), .long (tg T)]]) Z dX1_bendBy_70 0 rfl rfl nX1_bendBy_X1 tyX1 tyX1_ok nmX1 5 (by decide) fX1_bendBy_27 rfl rfl rfl rfl (Nat.le_of_ble_eq_true rfl) rfl ?_
    refine g_aload_n Z dX1_bendBy_73 2 rfl rfl ?_
    refine g_dup Z dX1_bendBy_74 rfl ?_
    refine g_get Z dX1_bendBy_75 0 rfl rfl nX1_bendBy_X1 0 (by decide) fX1_bendBy_9 rfl ?_
    refine g_lload Z dX1_bendBy_78 0 rfl ?_
    refine g_lmul Z dX1_bendBy_80 ?_
    refine g_put (w' := [cO h 1 [.long ((ta T) * (1 * x)), .long (tb T), .long (((1 * x) * (tc T)) - (1 * (ta T))), .long (((1 * x) * (td T)) - (1 * (tb T))), .long (te T), .long (((1 * x) * (tf T)) - (1 * (te T))), .long (tg T)]]) Z dX1_bendBy_81 0 rfl rfl nX1_bendBy_X1 tyX1 tyX1_ok nmX1 0 (by decide) fX1_bendBy_9 rfl rfl rfl rfl (Nat.le_of_ble_eq_true rfl) rfl ?_
    refine g_aload_n Z dX1_bendBy_84 2 rfl rfl ?_
    refine g_dup Z dX1_bendBy_85 rfl ?_
    refine g_get Z dX1_bendBy_86 0 rfl rfl nX1_bendBy_X1 1 (by decide) fX1_bendBy_15 rfl ?_
    refine g_lload Z dX1_bendBy_89 0 rfl ?_
    refine g_lmul Z dX1_bendBy_91 ?_
    refine g_put (w' := [cO h 1 [.long ((ta T) * (1 * x)), .long ((tb T) * (1 * x)), .long (((1 * x) * (tc T)) - (1 * (ta T))), .long (((1 * x) * (td T)) - (1 * (tb T))), .long (te T), .long (((1 * x) * (tf T)) - (1 * (te T))), .long (tg T)]]) Z dX1_bendBy_92 0 rfl rfl nX1_bendBy_X1 tyX1 tyX1_ok nmX1 1 (by decide) fX1_bendBy_15 rfl rfl rfl rfl (Nat.le_of_ble_eq_true rfl) rfl ?_
    refine g_aload_n Z dX1_bendBy_95 2 rfl rfl ?_
    refine g_dup Z dX1_bendBy_96 rfl ?_
    refine g_get Z dX1_bendBy_97 0 rfl rfl nX1_bendBy_X1 4 (by decide) fX1_bendBy_24 rfl ?_
    refine g_lload Z dX1_bendBy_100 0 rfl ?_
    refine g_lmul Z dX1_bendBy_102 ?_
    refine g_put (w' := [cO h 1 [.long ((ta T) * (1 * x)), .long ((tb T) * (1 * x)), .long (((1 * x) * (tc T)) - (1 * (ta T))), .long (((1 * x) * (td T)) - (1 * (tb T))), .long ((te T) * (1 * x)), .long (((1 * x) * (tf T)) - (1 * (te T))), .long (tg T)]]) Z dX1_bendBy_103 0 rfl rfl nX1_bendBy_X1 tyX1 tyX1_ok nmX1 4 (by decide) fX1_bendBy_24 rfl rfl rfl rfl (Nat.le_of_ble_eq_true rfl) rfl ?_
    refine g_aload_n Z dX1_bendBy_106 2 rfl rfl ?_
    refine g_dup Z dX1_bendBy_107 rfl ?_
    refine g_get Z dX1_bendBy_108 0 rfl rfl nX1_bendBy_X1 6 (by decide) fX1_bendBy_30 rfl ?_
    refine g_lload Z dX1_bendBy_111 0 rfl ?_
    refine g_lmul Z dX1_bendBy_113 ?_
    refine g_put (w' := [cO h 1 [.long ((ta T) * (1 * x)), .long ((tb T) * (1 * x)), .long (((1 * x) * (tc T)) - (1 * (ta T))), .long (((1 * x) * (td T)) - (1 * (tb T))), .long ((te T) * (1 * x)), .long (((1 * x) * (tf T)) - (1 * (te T))), .long ((tg T) * (1 * x))]]) Z dX1_bendBy_114 0 rfl rfl nX1_bendBy_X1 tyX1 tyX1_ok nmX1 6 (by decide) fX1_bendBy_30 rfl rfl rfl rfl (Nat.le_of_ble_eq_true rfl) rfl ?_
    exact g_vret Z dX1_bendBy_117 rfl ⟨Nat.zero_le _, Nat.zero_le _⟩ ⟨rfl, by simp only [benF, if_neg (Int64.not_lt.mpr c_3)]; rfl⟩
  · refine g_ldc2 Z dX1_bendBy_6 kX1_bendBy_69 ?_
    refine g_goto (tgt := 13) Z dX1_bendBy_9 (by decide) ?_
    refine g_lstore_n (lv' := [(3, .long (-1)), (0, .ref h), (1, .long x)]) Z dX1_bendBy_13 rfl (by decide) rfl ?_
    refine g_lload_n Z dX1_bendBy_14 0 rfl rfl ?_
    refine g_lload_n Z dX1_bendBy_15 2 rfl rfl ?_
    refine g_lmul Z dX1_bendBy_16 ?_
    refine g_lstore (lv' := [(5, .long ((-1) * x)), (3, .long (-1)), (0, .ref h), (1, .long x)]) Z dX1_bendBy_17 (by decide) rfl ?_
    refine g_aload_n Z dX1_bendBy_19 2 rfl rfl ?_
    refine g_lload Z dX1_bendBy_20 0 rfl ?_
    refine g_aload_n Z dX1_bendBy_22 2 rfl rfl ?_
    refine g_get Z dX1_bendBy_23 0 rfl rfl nX1_bendBy_X1 2 (by decide) fX1_bendBy_18 rfl ?_
    refine g_lmul Z dX1_bendBy_26 ?_
    refine g_lload_n Z dX1_bendBy_27 1 rfl rfl ?_
    refine g_aload_n Z dX1_bendBy_28 2 rfl rfl ?_
    refine g_get Z dX1_bendBy_29 0 rfl rfl nX1_bendBy_X1 0 (by decide) fX1_bendBy_9 rfl ?_
    refine g_lmul Z dX1_bendBy_32 ?_
    refine g_lsub Z dX1_bendBy_33 ?_
    refine g_put (w' := [cO h 1 [.long (ta T), .long (tb T), .long ((((-1) * x) * (tc T)) - ((-1) * (ta T))), .long (td T), .long (te T), .long (tf T), .long (tg T)]]) Z dX1_bendBy_34 0 rfl rfl nX1_bendBy_X1 tyX1 tyX1_ok nmX1 2 (by decide) fX1_bendBy_18 rfl rfl rfl rfl (Nat.le_of_ble_eq_true rfl) rfl ?_
    refine g_aload_n Z dX1_bendBy_37 2 rfl rfl ?_
    refine g_lload Z dX1_bendBy_38 0 rfl ?_
    refine g_aload_n Z dX1_bendBy_40 2 rfl rfl ?_
    refine g_get Z dX1_bendBy_41 0 rfl rfl nX1_bendBy_X1 3 (by decide) fX1_bendBy_21 rfl ?_
    refine g_lmul Z dX1_bendBy_44 ?_
    refine g_lload_n Z dX1_bendBy_45 1 rfl rfl ?_
    refine g_aload_n Z dX1_bendBy_46 2 rfl rfl ?_
    refine g_get Z dX1_bendBy_47 0 rfl rfl nX1_bendBy_X1 1 (by decide) fX1_bendBy_15 rfl ?_
    refine g_lmul Z dX1_bendBy_50 ?_
    refine g_lsub Z dX1_bendBy_51 ?_
    refine g_put (w' := [cO h 1 [.long (ta T), .long (tb T), .long ((((-1) * x) * (tc T)) - ((-1) * (ta T))), .long ((((-1) * x) * (td T)) - ((-1) * (tb T))), .long (te T), .long (tf T), .long (tg T)]]) Z dX1_bendBy_52 0 rfl rfl nX1_bendBy_X1 tyX1 tyX1_ok nmX1 3 (by decide) fX1_bendBy_21 rfl rfl rfl rfl (Nat.le_of_ble_eq_true rfl) rfl ?_
    refine g_aload_n Z dX1_bendBy_55 2 rfl rfl ?_
    refine g_lload Z dX1_bendBy_56 0 rfl ?_
    refine g_aload_n Z dX1_bendBy_58 2 rfl rfl ?_
    refine g_get Z dX1_bendBy_59 0 rfl rfl nX1_bendBy_X1 5 (by decide) fX1_bendBy_27 rfl ?_
    refine g_lmul Z dX1_bendBy_62 ?_
    refine g_lload_n Z dX1_bendBy_63 1 rfl rfl ?_
    refine g_aload_n Z dX1_bendBy_64 2 rfl rfl ?_
    refine g_get Z dX1_bendBy_65 0 rfl rfl nX1_bendBy_X1 4 (by decide) fX1_bendBy_24 rfl ?_
    refine g_lmul Z dX1_bendBy_68 ?_
    refine g_lsub Z dX1_bendBy_69 ?_
    refine g_put (w' := [cO h 1 [.long (ta T), .long (tb T), .long ((((-1) * x) * (tc T)) - ((-1) * (ta T))), .long ((((-1) * x) * (td T)) - ((-1) * (tb T))), .long (te T), .long ((((-1) * x) * (tf T)) - ((-1) * (te T))), .long (tg T)]]) Z dX1_bendBy_70 0 rfl rfl nX1_bendBy_X1 tyX1 tyX1_ok nmX1 5 (by decide) fX1_bendBy_27 rfl rfl rfl rfl (Nat.le_of_ble_eq_true rfl) rfl ?_
    refine g_aload_n Z dX1_bendBy_73 2 rfl rfl ?_
    refine g_dup Z dX1_bendBy_74 rfl ?_
    refine g_get Z dX1_bendBy_75 0 rfl rfl nX1_bendBy_X1 0 (by decide) fX1_bendBy_9 rfl ?_
    refine g_lload Z dX1_bendBy_78 0 rfl ?_
    refine g_lmul Z dX1_bendBy_80 ?_
    refine g_put (w' := [cO h 1 [.long ((ta T) * ((-1) * x)), .long (tb T), .long ((((-1) * x) * (tc T)) - ((-1) * (ta T))), .long ((((-1) * x) * (td T)) - ((-1) * (tb T))), .long (te T), .long ((((-1) * x) * (tf T)) - ((-1) * (te T))), .long (tg T)]]) Z dX1_bendBy_81 0 rfl rfl nX1_bendBy_X1 tyX1 tyX1_ok nmX1 0 (by decide) fX1_bendBy_9 rfl rfl rfl rfl (Nat.le_of_ble_eq_true rfl) rfl ?_
    refine g_aload_n Z dX1_bendBy_84 2 rfl rfl ?_
    refine g_dup Z dX1_bendBy_85 rfl ?_
    refine g_get Z dX1_bendBy_86 0 rfl rfl nX1_bendBy_X1 1 (by decide) fX1_bendBy_15 rfl ?_
    refine g_lload Z dX1_bendBy_89 0 rfl ?_
    refine g_lmul Z dX1_bendBy_91 ?_
    refine g_put (w' := [cO h 1 [.long ((ta T) * ((-1) * x)), .long ((tb T) * ((-1) * x)), .long ((((-1) * x) * (tc T)) - ((-1) * (ta T))), .long ((((-1) * x) * (td T)) - ((-1) * (tb T))), .long (te T), .long ((((-1) * x) * (tf T)) - ((-1) * (te T))), .long (tg T)]]) Z dX1_bendBy_92 0 rfl rfl nX1_bendBy_X1 tyX1 tyX1_ok nmX1 1 (by decide) fX1_bendBy_15 rfl rfl rfl rfl (Nat.le_of_ble_eq_true rfl) rfl ?_
    refine g_aload_n Z dX1_bendBy_95 2 rfl rfl ?_
    refine g_dup Z dX1_bendBy_96 rfl ?_
    refine g_get Z dX1_bendBy_97 0 rfl rfl nX1_bendBy_X1 4 (by decide) fX1_bendBy_24 rfl ?_
    refine g_lload Z dX1_bendBy_100 0 rfl ?_
    refine g_lmul Z dX1_bendBy_102 ?_
    refine g_put (w' := [cO h 1 [.long ((ta T) * ((-1) * x)), .long ((tb T) * ((-1) * x)), .long ((((-1) * x) * (tc T)) - ((-1) * (ta T))), .long ((((-1) * x) * (td T)) - ((-1) * (tb T))), .long ((te T) * ((-1) * x)), .long ((((-1) * x) * (tf T)) - ((-1) * (te T))), .long (tg T)]]) Z dX1_bendBy_103 0 rfl rfl nX1_bendBy_X1 tyX1 tyX1_ok nmX1 4 (by decide) fX1_bendBy_24 rfl rfl rfl rfl (Nat.le_of_ble_eq_true rfl) rfl ?_
    refine g_aload_n Z dX1_bendBy_106 2 rfl rfl ?_
    refine g_dup Z dX1_bendBy_107 rfl ?_
    refine g_get Z dX1_bendBy_108 0 rfl rfl nX1_bendBy_X1 6 (by decide) fX1_bendBy_30 rfl ?_
    refine g_lload Z dX1_bendBy_111 0 rfl ?_
    refine g_lmul Z dX1_bendBy_113 ?_
    refine g_put (w' := [cO h 1 [.long ((ta T) * ((-1) * x)), .long ((tb T) * ((-1) * x)), .long ((((-1) * x) * (tc T)) - ((-1) * (ta T))), .long ((((-1) * x) * (td T)) - ((-1) * (tb T))), .long ((te T) * ((-1) * x)), .long ((((-1) * x) * (tf T)) - ((-1) * (te T))), .long ((tg T) * ((-1) * x))]]) Z dX1_bendBy_114 0 rfl rfl nX1_bendBy_X1 tyX1 tyX1_ok nmX1 6 (by decide) fX1_bendBy_30 rfl rfl rfl rfl (Nat.le_of_ble_eq_true rfl) rfl ?_
    exact g_vret Z dX1_bendBy_117 rfl ⟨Nat.zero_le _, Nat.zero_le _⟩ ⟨rfl, by simp only [benF, if_pos (Int64.not_le.mp c_3)]; rfl⟩

abbrev rX1_go : Room := { frames := 1, cells := 0, slots := 0, locals := 26 }
theorem iX1_go : zInfo yX1_go wsX1_go RX1 3 none 2 := ⟨_, _, rfl, by decide +kernel⟩
theorem nX1_go_X1 : ∀ w ∈ wsX10, w ∈ wsX1_go := by decide +kernel
theorem fX1_go_27 : Cond.fieldLink RX1 27 (TX1 5).1 (TX1 5).2.1 (TX1 5).2.2.1 ∈ wsX1_go := by decide +kernel
theorem fX1_go_30 : Cond.fieldLink RX1 30 (TX1 6).1 (TX1 6).2.1 (TX1 6).2.2.1 ∈ wsX1_go := by decide +kernel
set_option maxHeartbeats 4000000 in
set_option maxRecDepth 100000 in
theorem qX1_go (E : zE) (h : Nat) (T : TB) (kd x : Int32)  : zF E yX1_go wsX1_go rX1_go [.ref h, .int kd, .int x] [cO h 1 [.long (ta T), .long (tb T), .long (tc T), .long (td T), .long (te T), .long (tf T), .long (tg T)]] (zx none ([cO h 1 [.long (ta (goF kd x T)), .long (tb (goF kd x T)), .long (tc (goF kd x T)), .long (td (goF kd x T)), .long (te (goF kd x T)), .long (tf (goF kd x T)), .long (tg (goF kd x T))]])) := by
  refine z_start RX1 "go" (by decide) rfl rfl rfl (Nat.le_of_ble_eq_true rfl) ?_
  intro J Z
  refine g_eq Z (lv2 := [(0, .ref h), (1, .int kd), (2, .int x)]) rfl rfl rfl ?_
  refine g_iload_n Z dX1_go_0 1 rfl rfl ?_
  rcases z_sw3 kd with c_1 | c_1 | c_1 | c_1 | c_1
  · refine g_tsin (tgt := 32) Z dX1_go_1 0 c_1 (by decide) rfl (by decide) ?_
    refine g_aload_n Z dX1_go_32 0 rfl rfl ?_
    refine g_iload_n Z dX1_go_33 2 rfl rfl ?_
    refine g_i2l Z dX1_go_34 ?_
    refine g_callVx (w' := [cO h 1 [.long (ta (strF (Int32.toInt64 x) T)), .long (tb (strF (Int32.toInt64 x) T)), .long (tc (strF (Int32.toInt64 x) T)), .long (td (strF (Int32.toInt64 x) T)), .long (te (strF (Int32.toInt64 x) T)), .long (tf (strF (Int32.toInt64 x) T)), .long (tg (strF (Int32.toInt64 x) T))]]) Z (qX1_stretchBy E h T (Int32.toInt64 x)) iX1_stretchBy gX1_go_X1_stretchBy ⟨rfl, rfl⟩ ⟨Nat.le_of_ble_eq_true rfl, Nat.le_of_ble_eq_true rfl⟩ dX1_go_35 rfl rfl (Nat.le_of_ble_eq_true rfl) ⟨Nat.zero_le _, Nat.zero_le _⟩ [0] rfl rfl 0 rfl rfl rfl rfl rfl ?_
    refine g_goto (tgt := 69) Z dX1_go_38 (by decide) ?_
    exact g_vret Z dX1_go_69 rfl ⟨Nat.zero_le _, Nat.zero_le _⟩ ⟨rfl, by subst c_1; rfl⟩
  · refine g_tsin (tgt := 41) Z dX1_go_1 1 c_1 (by decide) rfl (by decide) ?_
    refine g_aload_n Z dX1_go_41 0 rfl rfl ?_
    refine g_iload_n Z dX1_go_42 2 rfl rfl ?_
    refine g_i2l Z dX1_go_43 ?_
    refine g_callVx (w' := [cO h 1 [.long (ta (benF (Int32.toInt64 x) T)), .long (tb (benF (Int32.toInt64 x) T)), .long (tc (benF (Int32.toInt64 x) T)), .long (td (benF (Int32.toInt64 x) T)), .long (te (benF (Int32.toInt64 x) T)), .long (tf (benF (Int32.toInt64 x) T)), .long (tg (benF (Int32.toInt64 x) T))]]) Z (qX1_bendBy E h T (Int32.toInt64 x)) iX1_bendBy gX1_go_X1_bendBy ⟨rfl, rfl⟩ ⟨Nat.le_of_ble_eq_true rfl, Nat.le_of_ble_eq_true rfl⟩ dX1_go_44 rfl rfl (Nat.le_of_ble_eq_true rfl) ⟨Nat.zero_le _, Nat.zero_le _⟩ [0] rfl rfl 0 rfl rfl rfl rfl rfl ?_
    refine g_goto (tgt := 69) Z dX1_go_47 (by decide) ?_
    exact g_vret Z dX1_go_69 rfl ⟨Nat.zero_le _, Nat.zero_le _⟩ ⟨rfl, by subst c_1; rfl⟩
  · refine g_tsin (tgt := 41) Z dX1_go_1 2 c_1 (by decide) rfl (by decide) ?_
    refine g_aload_n Z dX1_go_41 0 rfl rfl ?_
    refine g_iload_n Z dX1_go_42 2 rfl rfl ?_
    refine g_i2l Z dX1_go_43 ?_
    refine g_callVx (w' := [cO h 1 [.long (ta (benF (Int32.toInt64 x) T)), .long (tb (benF (Int32.toInt64 x) T)), .long (tc (benF (Int32.toInt64 x) T)), .long (td (benF (Int32.toInt64 x) T)), .long (te (benF (Int32.toInt64 x) T)), .long (tf (benF (Int32.toInt64 x) T)), .long (tg (benF (Int32.toInt64 x) T))]]) Z (qX1_bendBy E h T (Int32.toInt64 x)) iX1_bendBy gX1_go_X1_bendBy ⟨rfl, rfl⟩ ⟨Nat.le_of_ble_eq_true rfl, Nat.le_of_ble_eq_true rfl⟩ dX1_go_44 rfl rfl (Nat.le_of_ble_eq_true rfl) ⟨Nat.zero_le _, Nat.zero_le _⟩ [0] rfl rfl 0 rfl rfl rfl rfl rfl ?_
    refine g_goto (tgt := 69) Z dX1_go_47 (by decide) ?_
    exact g_vret Z dX1_go_69 rfl ⟨Nat.zero_le _, Nat.zero_le _⟩ ⟨rfl, by subst c_1; rfl⟩
  · refine g_tsin (tgt := 50) Z dX1_go_1 3 c_1 (by decide) rfl (by decide) ?_
    refine g_aload_n Z dX1_go_50 0 rfl rfl ?_
    refine g_dup Z dX1_go_51 rfl ?_
    refine g_get Z dX1_go_52 0 rfl rfl nX1_go_X1 5 (by decide) fX1_go_27 rfl ?_
    refine g_iload_n Z dX1_go_55 2 rfl rfl ?_
    refine g_i2l Z dX1_go_56 ?_
    refine g_aload_n Z dX1_go_57 0 rfl rfl ?_
    refine g_get Z dX1_go_58 0 rfl rfl nX1_go_X1 6 (by decide) fX1_go_30 rfl ?_
    refine g_lmul Z dX1_go_61 ?_
    refine g_ladd Z dX1_go_62 ?_
    refine g_put (w' := [cO h 1 [.long (ta T), .long (tb T), .long (tc T), .long (td T), .long (te T), .long ((tf T) + ((Int32.toInt64 x) * (tg T))), .long (tg T)]]) Z dX1_go_63 0 rfl rfl nX1_go_X1 tyX1 tyX1_ok nmX1 5 (by decide) fX1_go_27 rfl rfl rfl rfl (Nat.le_of_ble_eq_true rfl) rfl ?_
    refine g_goto (tgt := 69) Z dX1_go_66 (by decide) ?_
    exact g_vret Z dX1_go_69 rfl ⟨Nat.zero_le _, Nat.zero_le _⟩ ⟨rfl, by subst c_1; rfl⟩
  · refine g_tsout (tgt := 69) Z dX1_go_1 c_1.1 (by decide) ?_
    exact g_vret Z dX1_go_69 rfl ⟨Nat.zero_le _, Nat.zero_le _⟩ ⟨rfl, by simp only [goF, if_neg c_1.2.1, if_neg c_1.2.2.2.2, if_neg (not_or.mpr ⟨c_1.2.2.1, c_1.2.2.2.1⟩)]⟩

abbrev rX1_sum : Room := { frames := 0, cells := 0, slots := 0, locals := 0 }
theorem iX1_sum : zInfo yX1_sum wsX1_sum RX1 1 (some .long) 0 := ⟨_, _, rfl, by decide +kernel⟩
theorem nX1_sum_X1 : ∀ w ∈ wsX10, w ∈ wsX1_sum := by decide +kernel
theorem fX1_sum_9 : Cond.fieldLink RX1 9 (TX1 0).1 (TX1 0).2.1 (TX1 0).2.2.1 ∈ wsX1_sum := by decide +kernel
theorem fX1_sum_21 : Cond.fieldLink RX1 21 (TX1 3).1 (TX1 3).2.1 (TX1 3).2.2.1 ∈ wsX1_sum := by decide +kernel
set_option maxHeartbeats 4000000 in
set_option maxRecDepth 100000 in
theorem qX1_sum (E : zE) (h : Nat) (T : TB)  : zF E yX1_sum wsX1_sum rX1_sum [.ref h] [cO h 1 [.long (ta T), .long (tb T), .long (tc T), .long (td T), .long (te T), .long (tf T), .long (tg T)]] (zx (some (.long (sumF T))) ([cO h 1 [.long (ta T), .long (tb T), .long (tc T), .long (td T), .long (te T), .long (tf T), .long (tg T)]])) := by
  refine z_start RX1 "sum" (by decide) rfl rfl rfl (Nat.le_of_ble_eq_true rfl) ?_
  intro J Z
  refine g_eq Z (lv2 := [(0, .ref h)]) rfl rfl rfl ?_
  refine g_aload_n Z dX1_sum_0 0 rfl rfl ?_
  refine g_get Z dX1_sum_1 0 rfl rfl nX1_sum_X1 0 (by decide) fX1_sum_9 rfl ?_
  refine g_aload_n Z dX1_sum_4 0 rfl rfl ?_
  refine g_get Z dX1_sum_5 0 rfl rfl nX1_sum_X1 3 (by decide) fX1_sum_21 rfl ?_
  refine g_ladd Z dX1_sum_8 ?_
  exact g_lret Z dX1_sum_9 rfl ⟨Nat.zero_le _, Nat.zero_le _⟩ ⟨rfl, rfl⟩

abbrev rX1_farAbove : Room := { frames := 0, cells := 0, slots := 0, locals := 0 }
theorem iX1_farAbove : zInfo yX1_farAbove wsX1_farAbove RX1 5 (some .long) 2 := ⟨_, _, rfl, by decide +kernel⟩
theorem nX1_farAbove_X1 : ∀ w ∈ wsX10, w ∈ wsX1_farAbove := by decide +kernel
theorem fX1_farAbove_9 : Cond.fieldLink RX1 9 (TX1 0).1 (TX1 0).2.1 (TX1 0).2.2.1 ∈ wsX1_farAbove := by decide +kernel
theorem fX1_farAbove_15 : Cond.fieldLink RX1 15 (TX1 1).1 (TX1 1).2.1 (TX1 1).2.2.1 ∈ wsX1_farAbove := by decide +kernel
theorem fX1_farAbove_24 : Cond.fieldLink RX1 24 (TX1 4).1 (TX1 4).2.1 (TX1 4).2.2.1 ∈ wsX1_farAbove := by decide +kernel
set_option maxHeartbeats 4000000 in
set_option maxRecDepth 100000 in
theorem qX1_farAbove (E : zE) (h : Nat) (T : TB) (x y : Int64)  : zF E yX1_farAbove wsX1_farAbove rX1_farAbove [.ref h, .long x, .long y] [cO h 1 [.long (ta T), .long (tb T), .long (tc T), .long (td T), .long (te T), .long (tf T), .long (tg T)]] (zx (some (.long (farF T x y))) ([cO h 1 [.long (ta T), .long (tb T), .long (tc T), .long (td T), .long (te T), .long (tf T), .long (tg T)]])) := by
  refine z_start RX1 "farAbove" (by decide) rfl rfl rfl (Nat.le_of_ble_eq_true rfl) ?_
  intro J Z
  refine g_eq Z (lv2 := [(0, .ref h), (1, .long x), (3, .long y)]) rfl rfl rfl ?_
  refine g_aload_n Z dX1_farAbove_0 0 rfl rfl ?_
  refine g_get Z dX1_farAbove_1 0 rfl rfl nX1_farAbove_X1 0 (by decide) fX1_farAbove_9 rfl ?_
  refine g_lload_n Z dX1_farAbove_4 1 rfl rfl ?_
  refine g_lmul Z dX1_farAbove_5 ?_
  refine g_aload_n Z dX1_farAbove_6 0 rfl rfl ?_
  refine g_get Z dX1_farAbove_7 0 rfl rfl nX1_farAbove_X1 1 (by decide) fX1_farAbove_15 rfl ?_
  refine g_lload_n Z dX1_farAbove_10 2 rfl rfl ?_
  refine g_lmul Z dX1_farAbove_11 ?_
  refine g_ladd Z dX1_farAbove_12 ?_
  refine g_aload_n Z dX1_farAbove_13 0 rfl rfl ?_
  refine g_get Z dX1_farAbove_14 0 rfl rfl nX1_farAbove_X1 4 (by decide) fX1_farAbove_24 rfl ?_
  refine g_ladd Z dX1_farAbove_17 ?_
  exact g_lret Z dX1_farAbove_18 rfl ⟨Nat.zero_le _, Nat.zero_le _⟩ ⟨rfl, rfl⟩

abbrev rX1_leanAbove : Room := { frames := 0, cells := 0, slots := 0, locals := 0 }
theorem iX1_leanAbove : zInfo yX1_leanAbove wsX1_leanAbove RX1 5 (some .long) 2 := ⟨_, _, rfl, by decide +kernel⟩
theorem nX1_leanAbove_X1 : ∀ w ∈ wsX10, w ∈ wsX1_leanAbove := by decide +kernel
theorem fX1_leanAbove_18 : Cond.fieldLink RX1 18 (TX1 2).1 (TX1 2).2.1 (TX1 2).2.2.1 ∈ wsX1_leanAbove := by decide +kernel
theorem fX1_leanAbove_21 : Cond.fieldLink RX1 21 (TX1 3).1 (TX1 3).2.1 (TX1 3).2.2.1 ∈ wsX1_leanAbove := by decide +kernel
theorem fX1_leanAbove_27 : Cond.fieldLink RX1 27 (TX1 5).1 (TX1 5).2.1 (TX1 5).2.2.1 ∈ wsX1_leanAbove := by decide +kernel
set_option maxHeartbeats 4000000 in
set_option maxRecDepth 100000 in
theorem qX1_leanAbove (E : zE) (h : Nat) (T : TB) (x y : Int64)  : zF E yX1_leanAbove wsX1_leanAbove rX1_leanAbove [.ref h, .long x, .long y] [cO h 1 [.long (ta T), .long (tb T), .long (tc T), .long (td T), .long (te T), .long (tf T), .long (tg T)]] (zx (some (.long (leanF T x y))) ([cO h 1 [.long (ta T), .long (tb T), .long (tc T), .long (td T), .long (te T), .long (tf T), .long (tg T)]])) := by
  refine z_start RX1 "leanAbove" (by decide) rfl rfl rfl (Nat.le_of_ble_eq_true rfl) ?_
  intro J Z
  refine g_eq Z (lv2 := [(0, .ref h), (1, .long x), (3, .long y)]) rfl rfl rfl ?_
  refine g_aload_n Z dX1_leanAbove_0 0 rfl rfl ?_
  refine g_get Z dX1_leanAbove_1 0 rfl rfl nX1_leanAbove_X1 2 (by decide) fX1_leanAbove_18 rfl ?_
  refine g_lload_n Z dX1_leanAbove_4 1 rfl rfl ?_
  refine g_lmul Z dX1_leanAbove_5 ?_
  refine g_aload_n Z dX1_leanAbove_6 0 rfl rfl ?_
  refine g_get Z dX1_leanAbove_7 0 rfl rfl nX1_leanAbove_X1 3 (by decide) fX1_leanAbove_21 rfl ?_
  refine g_lload_n Z dX1_leanAbove_10 2 rfl rfl ?_
  refine g_lmul Z dX1_leanAbove_11 ?_
  refine g_ladd Z dX1_leanAbove_12 ?_
  refine g_aload_n Z dX1_leanAbove_13 0 rfl rfl ?_
  refine g_get Z dX1_leanAbove_14 0 rfl rfl nX1_leanAbove_X1 5 (by decide) fX1_leanAbove_27 rfl ?_
  refine g_ladd Z dX1_leanAbove_17 ?_
  exact g_lret Z dX1_leanAbove_18 rfl ⟨Nat.zero_le _, Nat.zero_le _⟩ ⟨rfl, rfl⟩

abbrev rX1_isBetween : Room := { frames := 1, cells := 0, slots := 0, locals := 20 }
theorem iX1_isBetween : zInfo yX1_isBetween wsX1_isBetween RX1 1 (some .boolean) 0 := ⟨_, _, rfl, by decide +kernel⟩
theorem kX1_isBetween_83 : Cond.constantLong RX1 83 (-2) ∈ wsX1_isBetween := by decide +kernel
theorem nX1_isBetween_X1 : ∀ w ∈ wsX10, w ∈ wsX1_isBetween := by decide +kernel
theorem fX1_isBetween_30 : Cond.fieldLink RX1 30 (TX1 6).1 (TX1 6).2.1 (TX1 6).2.2.1 ∈ wsX1_isBetween := by decide +kernel
theorem kX1_isBetween_85 : Cond.constantLong RX1 85 (2) ∈ wsX1_isBetween := by decide +kernel
set_option maxHeartbeats 4000000 in
set_option maxRecDepth 100000 in
theorem qX1_isBetween (E : zE) (h : Nat) (T : TB)  : zF E yX1_isBetween wsX1_isBetween rX1_isBetween [.ref h] [cO h 1 [.long (ta T), .long (tb T), .long (tc T), .long (td T), .long (te T), .long (tf T), .long (tg T)]] (zx (some (.int (if btw T then 1 else 0))) ([cO h 1 [.long (ta T), .long (tb T), .long (tc T), .long (td T), .long (te T), .long (tf T), .long (tg T)]])) := by
  refine z_start RX1 "isBetween" (by decide) rfl rfl rfl (Nat.le_of_ble_eq_true rfl) ?_
  intro J Z
  refine g_eq Z (lv2 := [(0, .ref h)]) rfl rfl rfl ?_
  refine g_aload_n Z dX1_isBetween_0 0 rfl rfl ?_
  refine g_callVx (w' := [cO h 1 [.long (ta T), .long (tb T), .long (tc T), .long (td T), .long (te T), .long (tf T), .long (tg T)]]) Z (qX1_sum E h T) iX1_sum gX1_isBetween_X1_sum ⟨rfl, rfl⟩ ⟨Nat.le_of_ble_eq_true rfl, Nat.le_of_ble_eq_true rfl⟩ dX1_isBetween_1 rfl rfl (Nat.le_of_ble_eq_true rfl) ⟨Nat.zero_le _, Nat.zero_le _⟩ [0] rfl rfl 0 rfl rfl rfl rfl rfl ?_
  refine g_ldc2 Z dX1_isBetween_4 kX1_isBetween_83 ?_
  refine g_aload_n Z dX1_isBetween_7 0 rfl rfl ?_
  refine g_get Z dX1_isBetween_8 0 rfl rfl nX1_isBetween_X1 6 (by decide) fX1_isBetween_30 rfl ?_
  refine g_lmul Z dX1_isBetween_11 ?_
  refine g_lcmp_le (tgt := 36) Z dX1_isBetween_12 dX1_isBetween_13 rfl (by decide) (fun c_13 => ?_) (fun c_13 => ?_)
  · refine g_iconst Z dX1_isBetween_36 zi_0 ?_
    exact g_zret Z dX1_isBetween_37 rfl rfl ⟨Nat.zero_le _, Nat.zero_le _⟩ ⟨z_f (by simp [btw, c_13]), rfl⟩
  · refine g_aload_n Z dX1_isBetween_16 0 rfl rfl ?_
    refine g_callVx (w' := [cO h 1 [.long (ta T), .long (tb T), .long (tc T), .long (td T), .long (te T), .long (tf T), .long (tg T)]]) Z (qX1_sum E h T) iX1_sum gX1_isBetween_X1_sum ⟨rfl, rfl⟩ ⟨Nat.le_of_ble_eq_true rfl, Nat.le_of_ble_eq_true rfl⟩ dX1_isBetween_17 rfl rfl (Nat.le_of_ble_eq_true rfl) ⟨Nat.zero_le _, Nat.zero_le _⟩ [0] rfl rfl 0 rfl rfl rfl rfl rfl ?_
    refine g_ldc2 Z dX1_isBetween_20 kX1_isBetween_85 ?_
    refine g_aload_n Z dX1_isBetween_23 0 rfl rfl ?_
    refine g_get Z dX1_isBetween_24 0 rfl rfl nX1_isBetween_X1 6 (by decide) fX1_isBetween_30 rfl ?_
    refine g_lmul Z dX1_isBetween_27 ?_
    refine g_lcmp_ge (tgt := 36) Z dX1_isBetween_28 dX1_isBetween_29 rfl (by decide) (fun c_29 => ?_) (fun c_29 => ?_)
    · refine g_iconst Z dX1_isBetween_36 zi_0 ?_
      exact g_zret Z dX1_isBetween_37 rfl rfl ⟨Nat.zero_le _, Nat.zero_le _⟩ ⟨z_f (by simp [btw, c_13, c_29]), rfl⟩
    · refine g_iconst Z dX1_isBetween_32 zi_1 ?_
      refine g_goto (tgt := 37) Z dX1_isBetween_33 (by decide) ?_
      exact g_zret Z dX1_isBetween_37 rfl rfl ⟨Nat.zero_le _, Nat.zero_le _⟩ ⟨z_t (by simp [btw, c_13, c_29]), rfl⟩

abbrev rX1_isPlain : Room := { frames := 0, cells := 0, slots := 0, locals := 0 }
theorem iX1_isPlain : zInfo yX1_isPlain wsX1_isPlain RX1 3 (some .boolean) 1 := ⟨_, _, rfl, by decide +kernel⟩
theorem nX1_isPlain_X1 : ∀ w ∈ wsX10, w ∈ wsX1_isPlain := by decide +kernel
theorem fX1_isPlain_9 : Cond.fieldLink RX1 9 (TX1 0).1 (TX1 0).2.1 (TX1 0).2.2.1 ∈ wsX1_isPlain := by decide +kernel
theorem fX1_isPlain_21 : Cond.fieldLink RX1 21 (TX1 3).1 (TX1 3).2.1 (TX1 3).2.2.1 ∈ wsX1_isPlain := by decide +kernel
theorem fX1_isPlain_15 : Cond.fieldLink RX1 15 (TX1 1).1 (TX1 1).2.1 (TX1 1).2.2.1 ∈ wsX1_isPlain := by decide +kernel
theorem fX1_isPlain_18 : Cond.fieldLink RX1 18 (TX1 2).1 (TX1 2).2.1 (TX1 2).2.2.1 ∈ wsX1_isPlain := by decide +kernel
set_option maxHeartbeats 4000000 in
set_option maxRecDepth 100000 in
theorem qX1_isPlain (E : zE) (h : Nat) (T : TB) (x : Int64)  : zF E yX1_isPlain wsX1_isPlain rX1_isPlain [.ref h, .long x] [cO h 1 [.long (ta T), .long (tb T), .long (tc T), .long (td T), .long (te T), .long (tf T), .long (tg T)]] (zx (some (.int (if pln T x then 1 else 0))) ([cO h 1 [.long (ta T), .long (tb T), .long (tc T), .long (td T), .long (te T), .long (tf T), .long (tg T)]])) := by
  refine z_start RX1 "isPlain" (by decide) rfl rfl rfl (Nat.le_of_ble_eq_true rfl) ?_
  intro J Z
  refine g_eq Z (lv2 := [(0, .ref h), (1, .long x)]) rfl rfl rfl ?_
  refine g_aload_n Z dX1_isPlain_0 0 rfl rfl ?_
  refine g_get Z dX1_isPlain_1 0 rfl rfl nX1_isPlain_X1 0 (by decide) fX1_isPlain_9 rfl ?_
  refine g_lload_n Z dX1_isPlain_4 1 rfl rfl ?_
  refine g_lcmp_ne (tgt := 40) Z dX1_isPlain_5 dX1_isPlain_6 rfl (by decide) (fun c_6 => ?_) (fun c_6 => ?_)
  · refine g_iconst Z dX1_isPlain_40 zi_0 ?_
    exact g_zret Z dX1_isPlain_41 rfl rfl ⟨Nat.zero_le _, Nat.zero_le _⟩ ⟨z_f (by simp [pln, c_6]), rfl⟩
  · refine g_aload_n Z dX1_isPlain_9 0 rfl rfl ?_
    refine g_get Z dX1_isPlain_10 0 rfl rfl nX1_isPlain_X1 3 (by decide) fX1_isPlain_21 rfl ?_
    refine g_lload_n Z dX1_isPlain_13 1 rfl rfl ?_
    refine g_lcmp_ne (tgt := 40) Z dX1_isPlain_14 dX1_isPlain_15 rfl (by decide) (fun c_15 => ?_) (fun c_15 => ?_)
    · refine g_iconst Z dX1_isPlain_40 zi_0 ?_
      exact g_zret Z dX1_isPlain_41 rfl rfl ⟨Nat.zero_le _, Nat.zero_le _⟩ ⟨z_f (by simp [pln, c_6, c_15]), rfl⟩
    · refine g_aload_n Z dX1_isPlain_18 0 rfl rfl ?_
      refine g_get Z dX1_isPlain_19 0 rfl rfl nX1_isPlain_X1 1 (by decide) fX1_isPlain_15 rfl ?_
      refine g_lconst Z dX1_isPlain_22 zl_0 ?_
      refine g_lcmp_ne (tgt := 40) Z dX1_isPlain_23 dX1_isPlain_24 rfl (by decide) (fun c_24 => ?_) (fun c_24 => ?_)
      · refine g_iconst Z dX1_isPlain_40 zi_0 ?_
        exact g_zret Z dX1_isPlain_41 rfl rfl ⟨Nat.zero_le _, Nat.zero_le _⟩ ⟨z_f (by simp [pln, c_6, c_15, c_24]), rfl⟩
      · refine g_aload_n Z dX1_isPlain_27 0 rfl rfl ?_
        refine g_get Z dX1_isPlain_28 0 rfl rfl nX1_isPlain_X1 2 (by decide) fX1_isPlain_18 rfl ?_
        refine g_lconst Z dX1_isPlain_31 zl_0 ?_
        refine g_lcmp_ne (tgt := 40) Z dX1_isPlain_32 dX1_isPlain_33 rfl (by decide) (fun c_33 => ?_) (fun c_33 => ?_)
        · refine g_iconst Z dX1_isPlain_40 zi_0 ?_
          exact g_zret Z dX1_isPlain_41 rfl rfl ⟨Nat.zero_le _, Nat.zero_le _⟩ ⟨z_f (by simp [pln, c_6, c_15, c_24, c_33]), rfl⟩
        · refine g_iconst Z dX1_isPlain_36 zi_1 ?_
          refine g_goto (tgt := 41) Z dX1_isPlain_37 (by decide) ?_
          exact g_zret Z dX1_isPlain_41 rfl rfl ⟨Nat.zero_le _, Nat.zero_le _⟩ ⟨z_t (by simp [pln, c_6, c_15, c_24, c_33]), rfl⟩

abbrev rX1_manner : Room := { frames := 2, cells := 0, slots := 0, locals := 40 }
theorem iX1_manner : zInfo yX1_manner wsX1_manner RX1 1 (some .int) 0 := ⟨_, _, rfl, by decide +kernel⟩
theorem nX1_manner_X1 : ∀ w ∈ wsX10, w ∈ wsX1_manner := by decide +kernel
theorem fX1_manner_30 : Cond.fieldLink RX1 30 (TX1 6).1 (TX1 6).2.1 (TX1 6).2.2.1 ∈ wsX1_manner := by decide +kernel
theorem kX1_manner_85 : Cond.constantLong RX1 85 (2) ∈ wsX1_manner := by decide +kernel
theorem kX1_manner_83 : Cond.constantLong RX1 83 (-2) ∈ wsX1_manner := by decide +kernel
set_option maxHeartbeats 4000000 in
set_option maxRecDepth 100000 in
theorem qX1_manner (E : zE) (h : Nat) (T : TB)  : zF E yX1_manner wsX1_manner rX1_manner [.ref h] [cO h 1 [.long (ta T), .long (tb T), .long (tc T), .long (td T), .long (te T), .long (tf T), .long (tg T)]] (zx (some (.int (manF T))) ([cO h 1 [.long (ta T), .long (tb T), .long (tc T), .long (td T), .long (te T), .long (tf T), .long (tg T)]])) := by
  refine z_start RX1 "manner" (by decide) rfl rfl rfl (Nat.le_of_ble_eq_true rfl) ?_
  intro J Z
  refine g_eq Z (lv2 := [(0, .ref h)]) rfl rfl rfl ?_
  refine g_aload_n Z dX1_manner_0 0 rfl rfl ?_
  refine g_callVx (w' := [cO h 1 [.long (ta T), .long (tb T), .long (tc T), .long (td T), .long (te T), .long (tf T), .long (tg T)]]) Z (qX1_isBetween E h T) iX1_isBetween gX1_manner_X1_isBetween ⟨rfl, rfl⟩ ⟨Nat.le_of_ble_eq_true rfl, Nat.le_of_ble_eq_true rfl⟩ dX1_manner_1 rfl rfl (Nat.le_of_ble_eq_true rfl) ⟨Nat.zero_le _, Nat.zero_le _⟩ [0] rfl rfl 0 rfl rfl rfl rfl rfl ?_
  refine g_ifb_ne (tgt := 30) Z dX1_manner_4 (by decide) (fun c_4 => ?_) (fun c_4 => ?_)
  · refine g_iconst Z dX1_manner_30 zi_0 ?_
    exact g_iret Z dX1_manner_31 rfl ⟨Nat.zero_le _, Nat.zero_le _⟩ ⟨congrArg (fun v => some (Value.int v)) (by rw [manF, if_pos c_4]), rfl⟩
  · refine g_aload_n Z dX1_manner_7 0 rfl rfl ?_
    refine g_aload_n Z dX1_manner_8 0 rfl rfl ?_
    refine g_get Z dX1_manner_9 0 rfl rfl nX1_manner_X1 6 (by decide) fX1_manner_30 rfl ?_
    refine g_callVx (w' := [cO h 1 [.long (ta T), .long (tb T), .long (tc T), .long (td T), .long (te T), .long (tf T), .long (tg T)]]) Z (qX1_isPlain E h T (tg T)) iX1_isPlain gX1_manner_X1_isPlain ⟨rfl, rfl⟩ ⟨Nat.le_of_ble_eq_true rfl, Nat.le_of_ble_eq_true rfl⟩ dX1_manner_12 rfl rfl (Nat.le_of_ble_eq_true rfl) ⟨Nat.zero_le _, Nat.zero_le _⟩ [0] rfl rfl 0 rfl rfl rfl rfl rfl ?_
    refine g_ifb_ne (tgt := 30) Z dX1_manner_15 (by decide) (fun c_15 => ?_) (fun c_15 => ?_)
    · refine g_iconst Z dX1_manner_30 zi_0 ?_
      exact g_iret Z dX1_manner_31 rfl ⟨Nat.zero_le _, Nat.zero_le _⟩ ⟨congrArg (fun v => some (Value.int v)) (by rw [manF, if_neg c_4, if_pos c_15]), rfl⟩
    · refine g_aload_n Z dX1_manner_18 0 rfl rfl ?_
      refine g_aload_n Z dX1_manner_19 0 rfl rfl ?_
      refine g_get Z dX1_manner_20 0 rfl rfl nX1_manner_X1 6 (by decide) fX1_manner_30 rfl ?_
      refine g_lneg Z dX1_manner_23 ?_
      refine g_callVx (w' := [cO h 1 [.long (ta T), .long (tb T), .long (tc T), .long (td T), .long (te T), .long (tf T), .long (tg T)]]) Z (qX1_isPlain E h T (-(tg T))) iX1_isPlain gX1_manner_X1_isPlain ⟨rfl, rfl⟩ ⟨Nat.le_of_ble_eq_true rfl, Nat.le_of_ble_eq_true rfl⟩ dX1_manner_24 rfl rfl (Nat.le_of_ble_eq_true rfl) ⟨Nat.zero_le _, Nat.zero_le _⟩ [0] rfl rfl 0 rfl rfl rfl rfl rfl ?_
      refine g_ifb_eq (tgt := 32) Z dX1_manner_27 (by decide) (fun c_27 => ?_) (fun c_27 => ?_)
      · refine g_aload_n Z dX1_manner_32 0 rfl rfl ?_
        refine g_callVx (w' := [cO h 1 [.long (ta T), .long (tb T), .long (tc T), .long (td T), .long (te T), .long (tf T), .long (tg T)]]) Z (qX1_sum E h T) iX1_sum gX1_manner_X1_sum ⟨rfl, rfl⟩ ⟨Nat.le_of_ble_eq_true rfl, Nat.le_of_ble_eq_true rfl⟩ dX1_manner_33 rfl rfl (Nat.le_of_ble_eq_true rfl) ⟨Nat.zero_le _, Nat.zero_le _⟩ [0] rfl rfl 0 rfl rfl rfl rfl rfl ?_
        refine g_ldc2 Z dX1_manner_36 kX1_manner_85 ?_
        refine g_aload_n Z dX1_manner_39 0 rfl rfl ?_
        refine g_get Z dX1_manner_40 0 rfl rfl nX1_manner_X1 6 (by decide) fX1_manner_30 rfl ?_
        refine g_lmul Z dX1_manner_43 ?_
        refine g_lcmp_eq (tgt := 64) Z dX1_manner_44 dX1_manner_45 rfl (by decide) (fun c_45 => ?_) (fun c_45 => ?_)
        · refine g_iconst Z dX1_manner_64 zi_1 ?_
          refine g_goto (tgt := 69) Z dX1_manner_65 (by decide) ?_
          exact g_iret Z dX1_manner_69 rfl ⟨Nat.zero_le _, Nat.zero_le _⟩ ⟨congrArg (fun v => some (Value.int v)) (by rw [manF, if_neg c_4, if_neg c_15, if_neg c_27, if_pos c_45]), rfl⟩
        · refine g_aload_n Z dX1_manner_48 0 rfl rfl ?_
          refine g_callVx (w' := [cO h 1 [.long (ta T), .long (tb T), .long (tc T), .long (td T), .long (te T), .long (tf T), .long (tg T)]]) Z (qX1_sum E h T) iX1_sum gX1_manner_X1_sum ⟨rfl, rfl⟩ ⟨Nat.le_of_ble_eq_true rfl, Nat.le_of_ble_eq_true rfl⟩ dX1_manner_49 rfl rfl (Nat.le_of_ble_eq_true rfl) ⟨Nat.zero_le _, Nat.zero_le _⟩ [0] rfl rfl 0 rfl rfl rfl rfl rfl ?_
          refine g_ldc2 Z dX1_manner_52 kX1_manner_83 ?_
          refine g_aload_n Z dX1_manner_55 0 rfl rfl ?_
          refine g_get Z dX1_manner_56 0 rfl rfl nX1_manner_X1 6 (by decide) fX1_manner_30 rfl ?_
          refine g_lmul Z dX1_manner_59 ?_
          refine g_lcmp_ne (tgt := 68) Z dX1_manner_60 dX1_manner_61 rfl (by decide) (fun c_61 => ?_) (fun c_61 => ?_)
          · refine g_iconst Z dX1_manner_68 zi_2 ?_
            exact g_iret Z dX1_manner_69 rfl ⟨Nat.zero_le _, Nat.zero_le _⟩ ⟨congrArg (fun v => some (Value.int v)) (by rw [manF, if_neg c_4, if_neg c_15, if_neg c_27, if_neg c_45, if_neg c_61]), rfl⟩
          · refine g_iconst Z dX1_manner_64 zi_1 ?_
            refine g_goto (tgt := 69) Z dX1_manner_65 (by decide) ?_
            exact g_iret Z dX1_manner_69 rfl ⟨Nat.zero_le _, Nat.zero_le _⟩ ⟨congrArg (fun v => some (Value.int v)) (by rw [manF, if_neg c_4, if_neg c_15, if_neg c_27, if_neg c_45, if_pos c_61]), rfl⟩
      · refine g_iconst Z dX1_manner_30 zi_0 ?_
        exact g_iret Z dX1_manner_31 rfl ⟨Nat.zero_le _, Nat.zero_le _⟩ ⟨congrArg (fun v => some (Value.int v)) (by rw [manF, if_neg c_4, if_neg c_15, if_pos c_27]), rfl⟩

abbrev rX1_roundsToComeBack : Room := { frames := 1, cells := 0, slots := 0, locals := 22 }
theorem iX1_roundsToComeBack : zInfo yX1_roundsToComeBack wsX1_roundsToComeBack RX1 1 (some .int) 0 := ⟨_, _, rfl, by decide +kernel⟩
theorem nX1_roundsToComeBack_X1 : ∀ w ∈ wsX10, w ∈ wsX1_roundsToComeBack := by decide +kernel
theorem fX1_roundsToComeBack_30 : Cond.fieldLink RX1 30 (TX1 6).1 (TX1 6).2.1 (TX1 6).2.2.1 ∈ wsX1_roundsToComeBack := by decide +kernel
set_option maxHeartbeats 4000000 in
set_option maxRecDepth 100000 in
theorem qX1_roundsToComeBack (E : zE) (h : Nat) (T : TB)  : zF E yX1_roundsToComeBack wsX1_roundsToComeBack rX1_roundsToComeBack [.ref h] [cO h 1 [.long (ta T), .long (tb T), .long (tc T), .long (td T), .long (te T), .long (tf T), .long (tg T)]] (zx (some (.int (rndF T))) ([cO h 1 [.long (ta T), .long (tb T), .long (tc T), .long (td T), .long (te T), .long (tf T), .long (tg T)]])) := by
  refine z_start RX1 "roundsToComeBack" (by decide) rfl rfl rfl (Nat.le_of_ble_eq_true rfl) ?_
  intro J Z
  refine g_eq Z (lv2 := [(0, .ref h)]) rfl rfl rfl ?_
  refine g_aload_n Z dX1_roundsToComeBack_0 0 rfl rfl ?_
  refine g_aload_n Z dX1_roundsToComeBack_1 0 rfl rfl ?_
  refine g_get Z dX1_roundsToComeBack_2 0 rfl rfl nX1_roundsToComeBack_X1 6 (by decide) fX1_roundsToComeBack_30 rfl ?_
  refine g_callVx (w' := [cO h 1 [.long (ta T), .long (tb T), .long (tc T), .long (td T), .long (te T), .long (tf T), .long (tg T)]]) Z (qX1_isPlain E h T (tg T)) iX1_isPlain gX1_roundsToComeBack_X1_isPlain ⟨rfl, rfl⟩ ⟨Nat.le_of_ble_eq_true rfl, Nat.le_of_ble_eq_true rfl⟩ dX1_roundsToComeBack_5 rfl rfl (Nat.le_of_ble_eq_true rfl) ⟨Nat.zero_le _, Nat.zero_le _⟩ [0] rfl rfl 0 rfl rfl rfl rfl rfl ?_
  refine g_ifb_eq (tgt := 13) Z dX1_roundsToComeBack_8 (by decide) (fun c_8 => ?_) (fun c_8 => ?_)
  · refine g_aload_n Z dX1_roundsToComeBack_13 0 rfl rfl ?_
    refine g_aload_n Z dX1_roundsToComeBack_14 0 rfl rfl ?_
    refine g_get Z dX1_roundsToComeBack_15 0 rfl rfl nX1_roundsToComeBack_X1 6 (by decide) fX1_roundsToComeBack_30 rfl ?_
    refine g_lneg Z dX1_roundsToComeBack_18 ?_
    refine g_callVx (w' := [cO h 1 [.long (ta T), .long (tb T), .long (tc T), .long (td T), .long (te T), .long (tf T), .long (tg T)]]) Z (qX1_isPlain E h T (-(tg T))) iX1_isPlain gX1_roundsToComeBack_X1_isPlain ⟨rfl, rfl⟩ ⟨Nat.le_of_ble_eq_true rfl, Nat.le_of_ble_eq_true rfl⟩ dX1_roundsToComeBack_19 rfl rfl (Nat.le_of_ble_eq_true rfl) ⟨Nat.zero_le _, Nat.zero_le _⟩ [0] rfl rfl 0 rfl rfl rfl rfl rfl ?_
    refine g_ifb_eq (tgt := 27) Z dX1_roundsToComeBack_22 (by decide) (fun c_22 => ?_) (fun c_22 => ?_)
    · refine g_aload_n Z dX1_roundsToComeBack_27 0 rfl rfl ?_
      refine g_callVx (w' := [cO h 1 [.long (ta T), .long (tb T), .long (tc T), .long (td T), .long (te T), .long (tf T), .long (tg T)]]) Z (qX1_sum E h T) iX1_sum gX1_roundsToComeBack_X1_sum ⟨rfl, rfl⟩ ⟨Nat.le_of_ble_eq_true rfl, Nat.le_of_ble_eq_true rfl⟩ dX1_roundsToComeBack_28 rfl rfl (Nat.le_of_ble_eq_true rfl) ⟨Nat.zero_le _, Nat.zero_le _⟩ [0] rfl rfl 0 rfl rfl rfl rfl rfl ?_
      refine g_aload_n Z dX1_roundsToComeBack_31 0 rfl rfl ?_
      refine g_get Z dX1_roundsToComeBack_32 0 rfl rfl nX1_roundsToComeBack_X1 6 (by decide) fX1_roundsToComeBack_30 rfl ?_
      refine g_lneg Z dX1_roundsToComeBack_35 ?_
      refine g_lcmp_ne (tgt := 42) Z dX1_roundsToComeBack_36 dX1_roundsToComeBack_37 rfl (by decide) (fun c_37 => ?_) (fun c_37 => ?_)
      · refine g_aload_n Z dX1_roundsToComeBack_42 0 rfl rfl ?_
        refine g_callVx (w' := [cO h 1 [.long (ta T), .long (tb T), .long (tc T), .long (td T), .long (te T), .long (tf T), .long (tg T)]]) Z (qX1_sum E h T) iX1_sum gX1_roundsToComeBack_X1_sum ⟨rfl, rfl⟩ ⟨Nat.le_of_ble_eq_true rfl, Nat.le_of_ble_eq_true rfl⟩ dX1_roundsToComeBack_43 rfl rfl (Nat.le_of_ble_eq_true rfl) ⟨Nat.zero_le _, Nat.zero_le _⟩ [0] rfl rfl 0 rfl rfl rfl rfl rfl ?_
        refine g_lconst Z dX1_roundsToComeBack_46 zl_0 ?_
        refine g_lcmp_ne (tgt := 53) Z dX1_roundsToComeBack_47 dX1_roundsToComeBack_48 rfl (by decide) (fun c_48 => ?_) (fun c_48 => ?_)
        · refine g_aload_n Z dX1_roundsToComeBack_53 0 rfl rfl ?_
          refine g_callVx (w' := [cO h 1 [.long (ta T), .long (tb T), .long (tc T), .long (td T), .long (te T), .long (tf T), .long (tg T)]]) Z (qX1_sum E h T) iX1_sum gX1_roundsToComeBack_X1_sum ⟨rfl, rfl⟩ ⟨Nat.le_of_ble_eq_true rfl, Nat.le_of_ble_eq_true rfl⟩ dX1_roundsToComeBack_54 rfl rfl (Nat.le_of_ble_eq_true rfl) ⟨Nat.zero_le _, Nat.zero_le _⟩ [0] rfl rfl 0 rfl rfl rfl rfl rfl ?_
          refine g_aload_n Z dX1_roundsToComeBack_57 0 rfl rfl ?_
          refine g_get Z dX1_roundsToComeBack_58 0 rfl rfl nX1_roundsToComeBack_X1 6 (by decide) fX1_roundsToComeBack_30 rfl ?_
          refine g_lcmp_ne (tgt := 70) Z dX1_roundsToComeBack_61 dX1_roundsToComeBack_62 rfl (by decide) (fun c_62 => ?_) (fun c_62 => ?_)
          · refine g_iconst Z dX1_roundsToComeBack_70 zi_0 ?_
            exact g_iret Z dX1_roundsToComeBack_71 rfl ⟨Nat.zero_le _, Nat.zero_le _⟩ ⟨congrArg (fun v => some (Value.int v)) (by rw [rndF, if_neg c_8, if_neg c_22, if_neg c_37, if_neg c_48, if_neg c_62]), rfl⟩
          · refine g_bipush Z dX1_roundsToComeBack_65 zb_6 ?_
            refine g_goto (tgt := 71) Z dX1_roundsToComeBack_67 (by decide) ?_
            exact g_iret Z dX1_roundsToComeBack_71 rfl ⟨Nat.zero_le _, Nat.zero_le _⟩ ⟨congrArg (fun v => some (Value.int v)) (by rw [rndF, if_neg c_8, if_neg c_22, if_neg c_37, if_neg c_48, if_pos c_62]), rfl⟩
        · refine g_iconst Z dX1_roundsToComeBack_51 zi_4 ?_
          exact g_iret Z dX1_roundsToComeBack_52 rfl ⟨Nat.zero_le _, Nat.zero_le _⟩ ⟨congrArg (fun v => some (Value.int v)) (by rw [rndF, if_neg c_8, if_neg c_22, if_neg c_37, if_pos c_48]), rfl⟩
      · refine g_iconst Z dX1_roundsToComeBack_40 zi_3 ?_
        exact g_iret Z dX1_roundsToComeBack_41 rfl ⟨Nat.zero_le _, Nat.zero_le _⟩ ⟨congrArg (fun v => some (Value.int v)) (by rw [rndF, if_neg c_8, if_neg c_22, if_pos c_37]), rfl⟩
    · refine g_iconst Z dX1_roundsToComeBack_25 zi_2 ?_
      exact g_iret Z dX1_roundsToComeBack_26 rfl ⟨Nat.zero_le _, Nat.zero_le _⟩ ⟨congrArg (fun v => some (Value.int v)) (by rw [rndF, if_neg c_8, if_pos c_22]), rfl⟩
  · refine g_iconst Z dX1_roundsToComeBack_11 zi_1 ?_
    exact g_iret Z dX1_roundsToComeBack_12 rfl ⟨Nat.zero_le _, Nat.zero_le _⟩ ⟨congrArg (fun v => some (Value.int v)) (by rw [rndF, if_pos c_8]), rfl⟩

abbrev rX1_above : Room := { frames := 0, cells := 0, slots := 0, locals := 0 }
theorem iX1_above : zInfo yX1_above wsX1_above RX1 2 (some .long) 1 := ⟨_, _, rfl, by decide +kernel⟩
theorem nX1_above_X1 : ∀ w ∈ wsX10, w ∈ wsX1_above := by decide +kernel
theorem fX1_above_9 : Cond.fieldLink RX1 9 (TX1 0).1 (TX1 0).2.1 (TX1 0).2.2.1 ∈ wsX1_above := by decide +kernel
theorem fX1_above_15 : Cond.fieldLink RX1 15 (TX1 1).1 (TX1 1).2.1 (TX1 1).2.2.1 ∈ wsX1_above := by decide +kernel
theorem fX1_above_18 : Cond.fieldLink RX1 18 (TX1 2).1 (TX1 2).2.1 (TX1 2).2.2.1 ∈ wsX1_above := by decide +kernel
theorem fX1_above_21 : Cond.fieldLink RX1 21 (TX1 3).1 (TX1 3).2.1 (TX1 3).2.2.1 ∈ wsX1_above := by decide +kernel
theorem fX1_above_24 : Cond.fieldLink RX1 24 (TX1 4).1 (TX1 4).2.1 (TX1 4).2.2.1 ∈ wsX1_above := by decide +kernel
theorem fX1_above_27 : Cond.fieldLink RX1 27 (TX1 5).1 (TX1 5).2.1 (TX1 5).2.2.1 ∈ wsX1_above := by decide +kernel
set_option maxHeartbeats 4000000 in
set_option maxRecDepth 100000 in
theorem qX1_above (E : zE) (h : Nat) (T : TB) (x : Int32)  : zF E yX1_above wsX1_above rX1_above [.ref h, .int x] [cO h 1 [.long (ta T), .long (tb T), .long (tc T), .long (td T), .long (te T), .long (tf T), .long (tg T)]] (zx (some (.long (abvF T x))) ([cO h 1 [.long (ta T), .long (tb T), .long (tc T), .long (td T), .long (te T), .long (tf T), .long (tg T)]])) := by
  refine z_start RX1 "above" (by decide) rfl rfl rfl (Nat.le_of_ble_eq_true rfl) ?_
  intro J Z
  refine g_eq Z (lv2 := [(0, .ref h), (1, .int x)]) rfl rfl rfl ?_
  refine g_iload_n Z dX1_above_0 1 rfl rfl ?_
  rcases z_sw4 x with c_1 | c_1 | c_1 | c_1 | c_1 | c_1
  · refine g_tsin (tgt := 36) Z dX1_above_1 0 c_1 (by decide) rfl (by decide) ?_
    refine g_aload_n Z dX1_above_36 0 rfl rfl ?_
    refine g_get Z dX1_above_37 0 rfl rfl nX1_above_X1 0 (by decide) fX1_above_9 rfl ?_
    exact g_lret Z dX1_above_40 rfl ⟨Nat.zero_le _, Nat.zero_le _⟩ ⟨by subst c_1; rfl, rfl⟩
  · refine g_tsin (tgt := 41) Z dX1_above_1 1 c_1 (by decide) rfl (by decide) ?_
    refine g_aload_n Z dX1_above_41 0 rfl rfl ?_
    refine g_get Z dX1_above_42 0 rfl rfl nX1_above_X1 1 (by decide) fX1_above_15 rfl ?_
    exact g_lret Z dX1_above_45 rfl ⟨Nat.zero_le _, Nat.zero_le _⟩ ⟨by subst c_1; rfl, rfl⟩
  · refine g_tsin (tgt := 46) Z dX1_above_1 2 c_1 (by decide) rfl (by decide) ?_
    refine g_aload_n Z dX1_above_46 0 rfl rfl ?_
    refine g_get Z dX1_above_47 0 rfl rfl nX1_above_X1 2 (by decide) fX1_above_18 rfl ?_
    exact g_lret Z dX1_above_50 rfl ⟨Nat.zero_le _, Nat.zero_le _⟩ ⟨by subst c_1; rfl, rfl⟩
  · refine g_tsin (tgt := 51) Z dX1_above_1 3 c_1 (by decide) rfl (by decide) ?_
    refine g_aload_n Z dX1_above_51 0 rfl rfl ?_
    refine g_get Z dX1_above_52 0 rfl rfl nX1_above_X1 3 (by decide) fX1_above_21 rfl ?_
    exact g_lret Z dX1_above_55 rfl ⟨Nat.zero_le _, Nat.zero_le _⟩ ⟨by subst c_1; rfl, rfl⟩
  · refine g_tsin (tgt := 56) Z dX1_above_1 4 c_1 (by decide) rfl (by decide) ?_
    refine g_aload_n Z dX1_above_56 0 rfl rfl ?_
    refine g_get Z dX1_above_57 0 rfl rfl nX1_above_X1 4 (by decide) fX1_above_24 rfl ?_
    exact g_lret Z dX1_above_60 rfl ⟨Nat.zero_le _, Nat.zero_le _⟩ ⟨by subst c_1; rfl, rfl⟩
  · refine g_tsout (tgt := 61) Z dX1_above_1 c_1.1 (by decide) ?_
    refine g_aload_n Z dX1_above_61 0 rfl rfl ?_
    refine g_get Z dX1_above_62 0 rfl rfl nX1_above_X1 5 (by decide) fX1_above_27 rfl ?_
    exact g_lret Z dX1_above_65 rfl ⟨Nat.zero_le _, Nat.zero_le _⟩ ⟨by simp only [abvF, if_neg c_1.2.1, if_neg c_1.2.2.1, if_neg c_1.2.2.2.1, if_neg c_1.2.2.2.2.1, if_neg c_1.2.2.2.2.2], rfl⟩

abbrev rX1_steepestWithin : Room := { frames := 1, cells := 0, slots := 0, locals := 23 }
theorem iX1_steepestWithin : zInfo yX1_steepestWithin wsX1_steepestWithin RX1 5 (some .long) 1 := ⟨_, _, rfl, by decide +kernel⟩
theorem nX1_steepestWithin_X1 : ∀ w ∈ wsX10, w ∈ wsX1_steepestWithin := by decide +kernel
theorem fX1_steepestWithin_30 : Cond.fieldLink RX1 30 (TX1 6).1 (TX1 6).2.1 (TX1 6).2.2.1 ∈ wsX1_steepestWithin := by decide +kernel
theorem fX1_steepestWithin_24 : Cond.fieldLink RX1 24 (TX1 4).1 (TX1 4).2.1 (TX1 4).2.2.1 ∈ wsX1_steepestWithin := by decide +kernel
theorem mX1_steepestWithin_71_l : Cond.methodLink RX1 71 Lib.MathLoose.abs_long.x ∈ wsX1_steepestWithin := by decide +kernel
theorem mX1_steepestWithin_71_s : Cond.static Lib.MathLoose.abs_long.x ∈ wsX1_steepestWithin := by decide +kernel
theorem mX1_steepestWithin_71_i : Cond.initialized "java/lang/Math" ∈ wsX1_steepestWithin := by decide +kernel
theorem mX1_steepestWithin_71_c : Cond.code Lib.MathLoose.abs_long.x Lib.MathLoose.abs_long.code 2 (some .long) ∈ wsX1_steepestWithin := by decide +kernel
theorem fX1_steepestWithin_15 : Cond.fieldLink RX1 15 (TX1 1).1 (TX1 1).2.1 (TX1 1).2.2.1 ∈ wsX1_steepestWithin := by decide +kernel
theorem kX1_steepestWithin_77 : Cond.constantLong RX1 77 (1000) ∈ wsX1_steepestWithin := by decide +kernel
theorem kX1_steepestWithin_69 : Cond.constantLong RX1 69 (-1) ∈ wsX1_steepestWithin := by decide +kernel
set_option maxHeartbeats 4000000 in
set_option maxRecDepth 100000 in
theorem qX1_steepestWithin (E : zE) (h : Nat) (T : TB) (x : Int64)  : zF E yX1_steepestWithin wsX1_steepestWithin rX1_steepestWithin [.ref h, .long x] [cO h 1 [.long (ta T), .long (tb T), .long (tc T), .long (td T), .long (te T), .long (tf T), .long (tg T)]] (zx (some (.long (stpF T x))) ([cO h 1 [.long (ta T), .long (tb T), .long (tc T), .long (td T), .long (te T), .long (tf T), .long (tg T)]])) := by
  refine z_start RX1 "steepestWithin" (by decide) rfl rfl rfl (Nat.le_of_ble_eq_true rfl) ?_
  intro J Z
  refine g_eq Z (lv2 := [(0, .ref h), (1, .long x)]) rfl rfl rfl ?_
  refine g_lload_n Z dX1_steepestWithin_0 1 rfl rfl ?_
  refine g_aload_n Z dX1_steepestWithin_1 0 rfl rfl ?_
  refine g_get Z dX1_steepestWithin_2 0 rfl rfl nX1_steepestWithin_X1 6 (by decide) fX1_steepestWithin_30 rfl ?_
  refine g_lmul Z dX1_steepestWithin_5 ?_
  refine g_lstore_n (lv' := [(3, .long (x * (tg T))), (0, .ref h), (1, .long x)]) Z dX1_steepestWithin_6 rfl (by decide) rfl ?_
  refine g_aload_n Z dX1_steepestWithin_7 1 rfl rfl ?_
  refine g_get Z dX1_steepestWithin_8 0 rfl rfl nX1_steepestWithin_X1 4 (by decide) fX1_steepestWithin_24 rfl ?_
  refine g_mabsL Z dX1_steepestWithin_11 mX1_steepestWithin_71_l mX1_steepestWithin_71_s mX1_steepestWithin_71_i mX1_steepestWithin_71_c (Nat.le_of_ble_eq_true rfl) (Nat.le_of_ble_eq_true rfl) ⟨Nat.zero_le _, Nat.zero_le _⟩ ?_
  refine g_lload_n Z dX1_steepestWithin_14 0 rfl rfl ?_
  refine g_lcmp_le (tgt := 23) Z dX1_steepestWithin_15 dX1_steepestWithin_16 rfl (by decide) (fun c_16 => ?_) (fun c_16 => ?_)
  · refine g_aload_n Z dX1_steepestWithin_23 1 rfl rfl ?_
    refine g_get Z dX1_steepestWithin_24 0 rfl rfl nX1_steepestWithin_X1 1 (by decide) fX1_steepestWithin_15 rfl ?_
    refine g_lconst Z dX1_steepestWithin_27 zl_0 ?_
    refine g_lcmp_ne (tgt := 36) Z dX1_steepestWithin_28 dX1_steepestWithin_29 rfl (by decide) (fun c_29 => ?_) (fun c_29 => ?_)
    · refine g_aload_n Z dX1_steepestWithin_36 1 rfl rfl ?_
      refine g_get Z dX1_steepestWithin_37 0 rfl rfl nX1_steepestWithin_X1 1 (by decide) fX1_steepestWithin_15 rfl ?_
      refine g_lconst Z dX1_steepestWithin_40 zl_0 ?_
      refine g_lcmp_le (tgt := 59) Z dX1_steepestWithin_41 dX1_steepestWithin_42 rfl (by decide) (fun c_42 => ?_) (fun c_42 => ?_)
      · refine g_lload_n Z dX1_steepestWithin_59 0 rfl rfl ?_
        refine g_aload_n Z dX1_steepestWithin_60 1 rfl rfl ?_
        refine g_get Z dX1_steepestWithin_61 0 rfl rfl nX1_steepestWithin_X1 4 (by decide) fX1_steepestWithin_24 rfl ?_
        refine g_ladd Z dX1_steepestWithin_64 ?_
        refine g_aload_n Z dX1_steepestWithin_65 1 rfl rfl ?_
        refine g_get Z dX1_steepestWithin_66 0 rfl rfl nX1_steepestWithin_X1 1 (by decide) fX1_steepestWithin_15 rfl ?_
        refine g_lneg Z dX1_steepestWithin_69 ?_
        refine g_ldiv Z dX1_steepestWithin_70 (z_neg0 c_29) ?_
        exact g_lret Z dX1_steepestWithin_71 rfl ⟨Nat.zero_le _, Nat.zero_le _⟩ ⟨congrArg (fun v => some (Value.long v)) (by rw [stpF, if_pos c_16, if_neg c_29, if_pos c_42]), rfl⟩
      · refine g_lload_n Z dX1_steepestWithin_45 0 rfl rfl ?_
        refine g_aload_n Z dX1_steepestWithin_46 1 rfl rfl ?_
        refine g_get Z dX1_steepestWithin_47 0 rfl rfl nX1_steepestWithin_X1 4 (by decide) fX1_steepestWithin_24 rfl ?_
        refine g_lsub Z dX1_steepestWithin_50 ?_
        refine g_aload_n Z dX1_steepestWithin_51 1 rfl rfl ?_
        refine g_get Z dX1_steepestWithin_52 0 rfl rfl nX1_steepestWithin_X1 1 (by decide) fX1_steepestWithin_15 rfl ?_
        refine g_ldiv Z dX1_steepestWithin_55 c_29 ?_
        refine g_goto (tgt := 71) Z dX1_steepestWithin_56 (by decide) ?_
        exact g_lret Z dX1_steepestWithin_71 rfl ⟨Nat.zero_le _, Nat.zero_le _⟩ ⟨congrArg (fun v => some (Value.long v)) (by rw [stpF, if_pos c_16, if_neg c_29, if_neg c_42]), rfl⟩
    · refine g_ldc2 Z dX1_steepestWithin_32 kX1_steepestWithin_77 ?_
      exact g_lret Z dX1_steepestWithin_35 rfl ⟨Nat.zero_le _, Nat.zero_le _⟩ ⟨congrArg (fun v => some (Value.long v)) (by rw [stpF, if_pos c_16, if_pos c_29]), rfl⟩
  · refine g_ldc2 Z dX1_steepestWithin_19 kX1_steepestWithin_69 ?_
    exact g_lret Z dX1_steepestWithin_22 rfl ⟨Nat.zero_le _, Nat.zero_le _⟩ ⟨congrArg (fun v => some (Value.long v)) (by rw [stpF, if_neg c_16]), rfl⟩

abbrev rX1_lead : Room := { frames := 2, cells := 0, slots := 0, locals := 48 }
theorem iX1_lead : zInfo yX1_lead wsX1_lead RX1 7 none 4 := ⟨_, _, rfl, by decide +kernel⟩
theorem nX1_lead_X0 : ∀ w ∈ wsX00, w ∈ wsX1_lead := by decide +kernel
theorem fX1_lead_54 : Cond.fieldLink RX1 54 (TX0 3).1 (TX0 3).2.1 (TX0 3).2.2.1 ∈ wsX1_lead := by decide +kernel
theorem fX1_lead_42 : Cond.fieldLink RX1 42 (TX0 0).1 (TX0 0).2.1 (TX0 0).2.2.1 ∈ wsX1_lead := by decide +kernel
set_option maxHeartbeats 4000000 in
set_option maxRecDepth 100000 in
theorem lX1_lead (E : zE) (h o k f s : Nat) (K F G : Nat → Int32) (T : TB) (way : Int32) (z j e : Nat) (hz : z ≤ 8) (hj : j ≤ 8) (he : e ≤ 8) {J : zJ} (Z : zOk E J RX1 cX1_lead 7 none wsX1_lead rX1_lead "lead" (fun _ => True) (zx none ([cO h 1 [.long (ta (ledF K F G way z j T1 e)), .long (tb (ledF K F G way z j T1 e)), .long (tc (ledF K F G way z j T1 e)), .long (td (ledF K F G way z j T1 e)), .long (te (ledF K F G way z j T1 e)), .long (tf (ledF K F G way z j T1 e)), .long (tg (ledF K F G way z j T1 e))], cO o 0 [.ref k, .ref f, .ref s, .int (nI z)], cI E k 8 K, cI E f 8 F, cI E s 8 G])))  : ∀ (d : Nat) (q p : Nat) (T2 : TB), q + d = e → p ≤ 8 → ledF K F G way z p T2 d = ledF K F G way z j T1 e → J 0 0 [cO h 1 [.long (ta T2), .long (tb T2), .long (tc T2), .long (td T2), .long (te T2), .long (tf T2), .long (tg T2)], cO o 0 [.ref k, .ref f, .ref s, .int (nI z)], cI E k 8 K, cI E f 8 F, cI E s 8 G] 10 [(6, .int (nI q)), (5, .int (nI p)), (0, .ref h), (1, .ref o), (2, .int way), (3, .int (nI j)), (4, .int (nI e))] [] := by
  intro d
  induction d with
  | zero =>
    intro q p T2 h1 h2 h3
    simp only [ledF] at h3
    refine g_iload Z dX1_lead_10 0 rfl ?_
    refine g_iload Z dX1_lead_12 6 rfl ?_
    refine g_icmpN_ge (tgt := 71) Z dX1_lead_14 (by decide) q e rfl rfl (by omega) (by omega) (fun c_14 => ?_) (fun c_14 => absurd c_14 (by omega))
    exact g_vret Z dX1_lead_71 rfl ⟨Nat.zero_le _, Nat.zero_le _⟩ ⟨rfl, by rw [h3]⟩
  | succ d ih =>
    intro q p T2 h1 h2 h3
    refine g_iload Z dX1_lead_10 0 rfl ?_
    refine g_iload Z dX1_lead_12 6 rfl ?_
    refine g_icmpN_ge (tgt := 71) Z dX1_lead_14 (by decide) q e rfl rfl (by omega) (by omega) (fun c_14 => absurd c_14 (by omega)) (fun c_14 => ?_)
    refine g_aload_n Z dX1_lead_17 3 rfl rfl ?_
    refine g_iload Z dX1_lead_18 1 rfl ?_
    refine g_callVx (w' := [cO h 1 [.long (ta T2), .long (tb T2), .long (tc T2), .long (td T2), .long (te T2), .long (tf T2), .long (tg T2)], cO o 0 [.ref k, .ref f, .ref s, .int (nI z)], cI E k 8 K, cI E f 8 F, cI E s 8 G]) Z (qX0_hasN E o k f s z p (by omega) (by omega)) iX0_has gX1_lead_X0_has ⟨rfl, rfl⟩ ⟨Nat.le_of_ble_eq_true rfl, Nat.le_of_ble_eq_true rfl⟩ dX1_lead_20 rfl rfl (Nat.le_of_ble_eq_true rfl) ⟨Nat.zero_le _, Nat.zero_le _⟩ [1] rfl rfl 0 rfl rfl rfl rfl rfl ?_
    refine g_ifb_eq (tgt := 44) Z dX1_lead_23 (by decide) (fun c_23 => ?_) (fun c_23 => ?_)
    · refine g_iload Z dX1_lead_44 1 rfl ?_
      refine g_iconst Z dX1_lead_46 zi_1 ?_
      refine g_iaddE (z := nI (p + 1)) Z dX1_lead_47 (nI_add p 1) ?_
      refine g_aload_n Z dX1_lead_48 3 rfl rfl ?_
      refine g_get Z dX1_lead_49 1 rfl rfl nX1_lead_X0 3 (by decide) fX1_lead_54 rfl ?_
      refine g_icmpN_ge (tgt := 62) Z dX1_lead_52 (by decide) (p + 1) z rfl rfl (by omega) (by omega) (fun c_52 => ?_) (fun c_52 => ?_)
      · refine g_iconst Z dX1_lead_62 zi_0 ?_
        refine g_istore (lv' := [(5, .int 0), (6, .int (nI q)), (0, .ref h), (1, .ref o), (2, .int way), (3, .int (nI j)), (4, .int (nI e))]) Z dX1_lead_63 (by decide) rfl ?_
        refine g_iinc (lv' := [(6, .int (nI (q + 1))), (5, .int 0), (0, .ref h), (1, .ref o), (2, .int way), (3, .int (nI j)), (4, .int (nI e))]) Z dX1_lead_65 1 rfl (zinc _) (by decide) rfl ?_
        refine g_goto (tgt := 10) Z dX1_lead_68 (by decide) ?_
        simp only [ledF, if_neg c_23, if_neg (Nat.not_lt.mpr c_52)] at h3
        refine g_lv (lv2 := [(6, .int (nI (q + 1))), (5, .int 0), (0, .ref h), (1, .ref o), (2, .int way), (3, .int (nI j)), (4, .int (nI e))]) Z [0, 1, 2, 3, 4, 5, 6] rfl ?_
        exact ih (q + 1) 0 _ (by omega) (by omega) h3
      · refine g_iload Z dX1_lead_55 1 rfl ?_
        refine g_iconst Z dX1_lead_57 zi_1 ?_
        refine g_iaddE (z := nI (p + 1)) Z dX1_lead_58 (nI_add p 1) ?_
        refine g_goto (tgt := 63) Z dX1_lead_59 (by decide) ?_
        refine g_istore (lv' := [(5, .int (nI (p + 1))), (6, .int (nI q)), (0, .ref h), (1, .ref o), (2, .int way), (3, .int (nI j)), (4, .int (nI e))]) Z dX1_lead_63 (by decide) rfl ?_
        refine g_iinc (lv' := [(6, .int (nI (q + 1))), (5, .int (nI (p + 1))), (0, .ref h), (1, .ref o), (2, .int way), (3, .int (nI j)), (4, .int (nI e))]) Z dX1_lead_65 1 rfl (zinc _) (by decide) rfl ?_
        refine g_goto (tgt := 10) Z dX1_lead_68 (by decide) ?_
        simp only [ledF, if_neg c_23, if_pos c_52] at h3
        refine g_lv (lv2 := [(6, .int (nI (q + 1))), (5, .int (nI (p + 1))), (0, .ref h), (1, .ref o), (2, .int way), (3, .int (nI j)), (4, .int (nI e))]) Z [0, 1, 2, 3, 4, 5, 6] rfl ?_
        exact ih (q + 1) (p + 1) _ (by omega) (by omega) h3
    · refine g_aload_n Z dX1_lead_26 2 rfl rfl ?_
      refine g_aload_n Z dX1_lead_27 3 rfl rfl ?_
      refine g_get Z dX1_lead_28 1 rfl rfl nX1_lead_X0 0 (by decide) fX1_lead_42 rfl ?_
      refine g_iload Z dX1_lead_31 1 rfl ?_
      refine g_iald Z dX1_lead_33 2 rfl p rfl (by omega) rfl ?_
      refine g_aload_n Z dX1_lead_34 3 rfl rfl ?_
      refine g_iload Z dX1_lead_35 1 rfl ?_
      refine g_iload_n Z dX1_lead_37 4 rfl rfl ?_
      refine g_callVx (w' := [cO h 1 [.long (ta T2), .long (tb T2), .long (tc T2), .long (td T2), .long (te T2), .long (tf T2), .long (tg T2)], cO o 0 [.ref k, .ref f, .ref s, .int (nI z)], cI E k 8 K, cI E f 8 F, cI E s 8 G]) Z (qX0_strength E o k f s K F G z p way (by omega)) iX0_strength gX1_lead_X0_strength ⟨rfl, rfl⟩ ⟨Nat.le_of_ble_eq_true rfl, Nat.le_of_ble_eq_true rfl⟩ dX1_lead_38 rfl rfl (Nat.le_of_ble_eq_true rfl) ⟨Nat.zero_le _, Nat.zero_le _⟩ [1, 2, 3, 4] rfl rfl 0 rfl rfl rfl rfl rfl ?_
      refine g_callVx (w' := [cO h 1 [.long (ta (goF (K p) (stg K F G way p) T2)), .long (tb (goF (K p) (stg K F G way p) T2)), .long (tc (goF (K p) (stg K F G way p) T2)), .long (td (goF (K p) (stg K F G way p) T2)), .long (te (goF (K p) (stg K F G way p) T2)), .long (tf (goF (K p) (stg K F G way p) T2)), .long (tg (goF (K p) (stg K F G way p) T2))], cO o 0 [.ref k, .ref f, .ref s, .int (nI z)], cI E k 8 K, cI E f 8 F, cI E s 8 G]) Z (qX1_go E h T2 (K p) (stg K F G way p)) iX1_go gX1_lead_X1_go ⟨rfl, rfl⟩ ⟨Nat.le_of_ble_eq_true rfl, Nat.le_of_ble_eq_true rfl⟩ dX1_lead_41 rfl rfl (Nat.le_of_ble_eq_true rfl) ⟨Nat.zero_le _, Nat.zero_le _⟩ [0] rfl rfl 0 rfl rfl rfl rfl rfl ?_
      refine g_iload Z dX1_lead_44 1 rfl ?_
      refine g_iconst Z dX1_lead_46 zi_1 ?_
      refine g_iaddE (z := nI (p + 1)) Z dX1_lead_47 (nI_add p 1) ?_
      refine g_aload_n Z dX1_lead_48 3 rfl rfl ?_
      refine g_get Z dX1_lead_49 1 rfl rfl nX1_lead_X0 3 (by decide) fX1_lead_54 rfl ?_
      refine g_icmpN_ge (tgt := 62) Z dX1_lead_52 (by decide) (p + 1) z rfl rfl (by omega) (by omega) (fun c_52 => ?_) (fun c_52 => ?_)
      · refine g_iconst Z dX1_lead_62 zi_0 ?_
        refine g_istore (lv' := [(5, .int 0), (6, .int (nI q)), (0, .ref h), (1, .ref o), (2, .int way), (3, .int (nI j)), (4, .int (nI e))]) Z dX1_lead_63 (by decide) rfl ?_
        refine g_iinc (lv' := [(6, .int (nI (q + 1))), (5, .int 0), (0, .ref h), (1, .ref o), (2, .int way), (3, .int (nI j)), (4, .int (nI e))]) Z dX1_lead_65 1 rfl (zinc _) (by decide) rfl ?_
        refine g_goto (tgt := 10) Z dX1_lead_68 (by decide) ?_
        simp only [ledF, if_pos c_23, if_neg (Nat.not_lt.mpr c_52)] at h3
        refine g_lv (lv2 := [(6, .int (nI (q + 1))), (5, .int 0), (0, .ref h), (1, .ref o), (2, .int way), (3, .int (nI j)), (4, .int (nI e))]) Z [0, 1, 2, 3, 4, 5, 6] rfl ?_
        exact ih (q + 1) 0 _ (by omega) (by omega) h3
      · refine g_iload Z dX1_lead_55 1 rfl ?_
        refine g_iconst Z dX1_lead_57 zi_1 ?_
        refine g_iaddE (z := nI (p + 1)) Z dX1_lead_58 (nI_add p 1) ?_
        refine g_goto (tgt := 63) Z dX1_lead_59 (by decide) ?_
        refine g_istore (lv' := [(5, .int (nI (p + 1))), (6, .int (nI q)), (0, .ref h), (1, .ref o), (2, .int way), (3, .int (nI j)), (4, .int (nI e))]) Z dX1_lead_63 (by decide) rfl ?_
        refine g_iinc (lv' := [(6, .int (nI (q + 1))), (5, .int (nI (p + 1))), (0, .ref h), (1, .ref o), (2, .int way), (3, .int (nI j)), (4, .int (nI e))]) Z dX1_lead_65 1 rfl (zinc _) (by decide) rfl ?_
        refine g_goto (tgt := 10) Z dX1_lead_68 (by decide) ?_
        simp only [ledF, if_pos c_23, if_pos c_52] at h3
        refine g_lv (lv2 := [(6, .int (nI (q + 1))), (5, .int (nI (p + 1))), (0, .ref h), (1, .ref o), (2, .int way), (3, .int (nI j)), (4, .int (nI e))]) Z [0, 1, 2, 3, 4, 5, 6] rfl ?_
        exact ih (q + 1) (p + 1) _ (by omega) (by omega) h3
set_option maxHeartbeats 4000000 in
set_option maxRecDepth 100000 in
theorem qX1_lead (E : zE) (h o k f s : Nat) (K F G : Nat → Int32) (T : TB) (way : Int32) (z j e : Nat) (hz : z ≤ 8) (hj : j ≤ 8) (he : e ≤ 8) : zF E yX1_lead wsX1_lead rX1_lead [.ref h, .ref o, .int way, .int (nI j), .int (nI e)] [cO h 1 [.long (ta T), .long (tb T), .long (tc T), .long (td T), .long (te T), .long (tf T), .long (tg T)], cO o 0 [.ref k, .ref f, .ref s, .int (nI z)], cI E k 8 K, cI E f 8 F, cI E s 8 G] (zx none ([cO h 1 [.long (ta (ledF K F G way z j T1 e)), .long (tb (ledF K F G way z j T1 e)), .long (tc (ledF K F G way z j T1 e)), .long (td (ledF K F G way z j T1 e)), .long (te (ledF K F G way z j T1 e)), .long (tf (ledF K F G way z j T1 e)), .long (tg (ledF K F G way z j T1 e))], cO o 0 [.ref k, .ref f, .ref s, .int (nI z)], cI E k 8 K, cI E f 8 F, cI E s 8 G])) := by
  refine z_start RX1 "lead" (by decide) rfl rfl rfl (Nat.le_of_ble_eq_true rfl) ?_
  intro J Z
  refine g_eq Z (lv2 := [(0, .ref h), (1, .ref o), (2, .int way), (3, .int (nI j)), (4, .int (nI e))]) rfl rfl rfl ?_
  refine g_aload_n Z dX1_lead_0 0 rfl rfl ?_
  refine g_callVx (w' := [cO h 1 [.long (ta T1), .long (tb T1), .long (tc T1), .long (td T1), .long (te T1), .long (tf T1), .long (tg T1)], cO o 0 [.ref k, .ref f, .ref s, .int (nI z)], cI E k 8 K, cI E f 8 F, cI E s 8 G]) Z (qX1_clear E h T) iX1_clear gX1_lead_X1_clear ⟨rfl, rfl⟩ ⟨Nat.le_of_ble_eq_true rfl, Nat.le_of_ble_eq_true rfl⟩ dX1_lead_1 rfl rfl (Nat.le_of_ble_eq_true rfl) ⟨Nat.zero_le _, Nat.zero_le _⟩ [0] rfl rfl 0 rfl rfl rfl rfl rfl ?_
  refine g_iload_n Z dX1_lead_4 3 rfl rfl ?_
  refine g_istore (lv' := [(5, .int (nI j)), (0, .ref h), (1, .ref o), (2, .int way), (3, .int (nI j)), (4, .int (nI e))]) Z dX1_lead_5 (by decide) rfl ?_
  refine g_iconst Z dX1_lead_7 zi_0 ?_
  refine g_istore (lv' := [(6, .int 0), (5, .int (nI j)), (0, .ref h), (1, .ref o), (2, .int way), (3, .int (nI j)), (4, .int (nI e))]) Z dX1_lead_8 (by decide) rfl ?_
  exact lX1_lead E h o k f s K F G T way z j e hz hj he Z e 0 j T1 (by omega) (by omega) rfl

abbrev rX1_leadThrough : Room := { frames := 3, cells := 0, slots := 0, locals := 74 }
theorem iX1_leadThrough : zInfo yX1_leadThrough wsX1_leadThrough RX1 3 none 2 := ⟨_, _, rfl, by decide +kernel⟩
theorem nX1_leadThrough_X0 : ∀ w ∈ wsX00, w ∈ wsX1_leadThrough := by decide +kernel
theorem fX1_leadThrough_54 : Cond.fieldLink RX1 54 (TX0 3).1 (TX0 3).2.1 (TX0 3).2.2.1 ∈ wsX1_leadThrough := by decide +kernel
set_option maxHeartbeats 4000000 in
set_option maxRecDepth 100000 in
theorem qX1_leadThrough (E : zE) (h o k f s : Nat) (K F G : Nat → Int32) (T : TB) (way : Int32) (z : Nat) (hz : z ≤ 8) : zF E yX1_leadThrough wsX1_leadThrough rX1_leadThrough [.ref h, .ref o, .int way] [cO h 1 [.long (ta T), .long (tb T), .long (tc T), .long (td T), .long (te T), .long (tf T), .long (tg T)], cO o 0 [.ref k, .ref f, .ref s, .int (nI z)], cI E k 8 K, cI E f 8 F, cI E s 8 G] (zx none ([cO h 1 [.long (ta (ledF K F G way z 0 T1 z)), .long (tb (ledF K F G way z 0 T1 z)), .long (tc (ledF K F G way z 0 T1 z)), .long (td (ledF K F G way z 0 T1 z)), .long (te (ledF K F G way z 0 T1 z)), .long (tf (ledF K F G way z 0 T1 z)), .long (tg (ledF K F G way z 0 T1 z))], cO o 0 [.ref k, .ref f, .ref s, .int (nI z)], cI E k 8 K, cI E f 8 F, cI E s 8 G])) := by
  refine z_start RX1 "leadThrough" (by decide) rfl rfl rfl (Nat.le_of_ble_eq_true rfl) ?_
  intro J Z
  refine g_eq Z (lv2 := [(0, .ref h), (1, .ref o), (2, .int way)]) rfl rfl rfl ?_
  refine g_aload_n Z dX1_leadThrough_0 0 rfl rfl ?_
  refine g_aload_n Z dX1_leadThrough_1 1 rfl rfl ?_
  refine g_iload_n Z dX1_leadThrough_2 2 rfl rfl ?_
  refine g_iconst Z dX1_leadThrough_3 zi_0 ?_
  refine g_aload_n Z dX1_leadThrough_4 1 rfl rfl ?_
  refine g_get Z dX1_leadThrough_5 1 rfl rfl nX1_leadThrough_X0 3 (by decide) fX1_leadThrough_54 rfl ?_
  refine g_callVx (w' := [cO h 1 [.long (ta (ledF K F G way z 0 T1 z)), .long (tb (ledF K F G way z 0 T1 z)), .long (tc (ledF K F G way z 0 T1 z)), .long (td (ledF K F G way z 0 T1 z)), .long (te (ledF K F G way z 0 T1 z)), .long (tf (ledF K F G way z 0 T1 z)), .long (tg (ledF K F G way z 0 T1 z))], cO o 0 [.ref k, .ref f, .ref s, .int (nI z)], cI E k 8 K, cI E f 8 F, cI E s 8 G]) Z (qX1_lead E h o k f s K F G T way z 0 z (by omega) (by omega) (by omega)) iX1_lead gX1_leadThrough_X1_lead ⟨rfl, rfl⟩ ⟨Nat.le_of_ble_eq_true rfl, Nat.le_of_ble_eq_true rfl⟩ dX1_leadThrough_8 rfl rfl (Nat.le_of_ble_eq_true rfl) ⟨Nat.zero_le _, Nat.zero_le _⟩ [0, 1, 2, 3, 4] rfl rfl 0 rfl rfl rfl rfl rfl ?_
  exact g_vret Z dX1_leadThrough_11 rfl ⟨Nat.zero_le _, Nat.zero_le _⟩ ⟨rfl, rfl⟩
end
