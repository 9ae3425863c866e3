/-! The law: its place, the script's reads, the start. -/
def lPost : zPost := fun o _ => o = some (.int 1)
def zLw (E : zE) (J : zJ) (nm : String) (b L : Nat) (xs : Nat → Int32) : Prop :=
  ∃ (p : Program) (e : Env) (s : State) (m : MethodId) (args : Array Value) (below : List Frame) (meth : Method) (c : Code),
    (p.tables.exec = Jvm.exec ∧ c.code = cL_law ∧ c.maxLocals = 4 ∧ s.vm.findClass RL = some m.cls ∧ (∀ w ∈ wsL_law, w.before args s = true) ∧ va_K E.2.1 vwCl (zt E) s ∧ (∀ q, s.heap.size ≤ q → s.heap.size ≤ q) ∧ meth.sig.returnType = some .boolean ∧ meth.locks = false ∧ meth.name = nm ∧ zXI s) ∧ (va_X b L xs s s.heap ∧ b < s.heap.size) ∧
    J = fun cells slots w pc lv st => ∀ (H : Heap) (locs : List Loc) (ls : Array Slot), va_P E.2.1 vwCl w H → va_D (fun q => s.heap.size ≤ q) w → va_S (fun q => s.heap.size ≤ q) s.heap H locs → lv_has ls 4 lv → W p E.1 e room_1 s m args below meth c H locs cells slots (MQ below (zQ E (fun q => s.heap.size ≤ q) lPost) args s room_1.cells room_1.slots (fun q => s.heap.size ≤ q)) (F0 m pc ls st)
abbrev zLo (E : zE) (J : zJ) (nm : String) : Prop := zOk E J RL cL_law 4 (some .boolean) wsL_law room_1 nm zXI lPost
section ZL
variable {E : zE} {J : zJ} {nm : String} {b L : Nat} {xs : Nat → Int32} {c n : Nat} {w : va_W} {pc : Nat} {lv : List (Nat × Value)} {st : List Value}
theorem zLw.ok (K : zLw E J nm b L xs) : zLo E J nm := by
  obtain ⟨p, e, s, m, args, below, meth, c, ⟨h1, h2, h3, h4, h5, h6, h7, h8, h9, h10, h11⟩, _, h12⟩ := K
  exact ⟨p, e, s, m, args, below, meth, c, _, h1, h2, h3, h4, h5, h6, h7, h8, h9, h10, h11, h12⟩
theorem g_sld (K : zLw E J nm b L xs) (hL : L ≤ 4096) (d : decode cL_law pc = .ok (.iaload, 1)) {k : Nat} (hk : k < L) (kk : J c n w (pc + 1) lv (.int (xs k) :: st)) : J c n w pc lv (.int (nI k) :: .ref b :: st) := by
  obtain ⟨p, e, s, m, args, below, meth, cd, ⟨hx, hb, h3, h4, h5, h6, h7, h8, h9, h10, h11⟩, ⟨hX, hbl⟩, rfl⟩ := K
  intro H locs ls hP hD hS hl
  have e1 : (nI k).toNatClampNeg = k := nI_clamp (by omega)
  have hin : vp_in (nI k) L := by
    intro h
    rcases h with h | h
    · exact nI_pos (by omega) h
    · rw [e1] at h; omega
  refine va_sld hx hb hX hbl (Nat.not_le.mpr hbl) hS hin d ?_
  rw [e1]
  exact kk H locs ls hP hD hS hl
theorem g_slen (K : zLw E J nm b L xs) (d : decode cL_law pc = .ok (.arraylength, 1)) (kk : J c n w (pc + 1) lv (.int (nI L) :: st)) : J c n w pc lv (.ref b :: st) := by
  obtain ⟨p, e, s, m, args, below, meth, cd, ⟨hx, hb, h3, h4, h5, h6, h7, h8, h9, h10, h11⟩, ⟨hX, hbl⟩, rfl⟩ := K
  intro H locs ls hP hD hS hl
  exact va_slen hx hb hX hbl (Nat.not_le.mpr hbl) hS d (kk H locs ls hP hD hS hl)
abbrev lV (b x h i : Nat) : List (Nat × Value) := [(3, .int (nI i)), (2, .ref h), (1, .ref x), (0, .ref b)]
theorem g_arg (K : zLw E J nm b L xs) (hL : L ≤ 4096) {x h i k : Nat} {kc : Int} (d0 : decode cL_law pc = .ok (.aload_n 0, 1)) (d1 : decode cL_law (pc + 1) = .ok (.iload_n 3, 1)) (d2 : decode cL_law (pc + 2) = .ok (.iconst kc, 1)) (d3 : decode cL_law (pc + 3) = .ok (.iadd, 1)) (d4 : decode cL_law (pc + 4) = .ok (.iaload, 1)) (hi : i + 8 ≤ L) (hk : k < 8) (hkc : Int32.ofInt kc = nI k) (kk : J c n w (pc + 5) (lV b x h i) (.int (xs (i + k)) :: st)) : J c n w pc (lV b x h i) st := by
  refine g_aload_n K.ok d0 3 rfl rfl ?_
  refine g_iload_n K.ok d1 0 rfl rfl ?_
  refine g_iconst K.ok d2 hkc ?_
  refine g_iaddE (z := nI (i + k)) K.ok d3 (nI_add i k) ?_
  exact g_sld K hL d4 (by omega) kk
theorem g_argB (K : zLw E J nm b L xs) (hL : L ≤ 4096) {x h i k : Nat} {kc : Int} (d0 : decode cL_law pc = .ok (.aload_n 0, 1)) (d1 : decode cL_law (pc + 1) = .ok (.iload_n 3, 1)) (d2 : decode cL_law (pc + 2) = .ok (.bipush kc, 2)) (d3 : decode cL_law (pc + 4) = .ok (.iadd, 1)) (d4 : decode cL_law (pc + 5) = .ok (.iaload, 1)) (hi : i + 8 ≤ L) (hk : k < 8) (hkc : (Int8.ofInt kc).toInt32 = nI k) (kk : J c n w (pc + 6) (lV b x h i) (.int (xs (i + k)) :: st)) : J c n w pc (lV b x h i) st := by
  refine g_aload_n K.ok d0 3 rfl rfl ?_
  refine g_iload_n K.ok d1 0 rfl rfl ?_
  refine g_bipush K.ok d2 hkc ?_
  refine g_iaddE (z := nI (i + k)) K.ok d3 (nI_add i k) ?_
  exact g_sld K hL d4 (by omega) kk
end ZL
