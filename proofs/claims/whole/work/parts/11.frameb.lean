theorem z_lt {a b : Nat} (ha : a < 2 ^ 31) (hb : b < 2 ^ 31) (h : nI a < nI b) : a < b := (nI_ltI ha hb).mp h
theorem z_le {a b : Nat} (ha : a < 2 ^ 31) (hb : b < 2 ^ 31) (h : nI a ≤ nI b) : a ≤ b := (nI_leI ha hb).mp h
section ZS
variable {E : zE} {J : zJ} {own nm : String} {cc : ByteArray} {nL : Nat} {ret : Option FieldType} {Ts : List Cond} {R : Room} {X : State → Prop} {post : zPost} {c n : Nat} {w : va_W} {pc : Nat} {lv : List (Nat × Value)} {st : List Value}
theorem g_lv (K : zOk E J own cc nL ret Ts R nm X post) {lv2 : List (Nat × Value)} (ks : List Nat) (h : lv_pick lv ks = lv2) (kk : J c n w pc lv2 st) : J c n w pc lv st := by
  obtain ⟨p, e, s, m, args, below, meth, cd, A, hx, hb, hml, hown, hts, hK, hA, hr, hlk, hnm, hX, rfl⟩ := K
  intro H locs ls hP hD hS hl
  exact kk H locs ls hP hD hS (lv_sub hl ks h)
theorem g_iaddE (K : zOk E J own cc nL ret Ts R nm X post) {x y z : Int32} (d : decode cc pc = .ok (.iadd, 1)) (h : x + y = z) (kk : J c n w (pc + 1) lv (.int z :: st)) : J c n w pc lv (.int y :: .int x :: st) := by
  subst h
  exact g_iadd K d kk
theorem g_isubE (K : zOk E J own cc nL ret Ts R nm X post) {x y z : Int32} (d : decode cc pc = .ok (.isub, 1)) (h : x - y = z) (kk : J c n w (pc + 1) lv (.int z :: st)) : J c n w pc lv (.int y :: .int x :: st) := by
  subst h
  exact g_isub K d kk
theorem g_imulE (K : zOk E J own cc nL ret Ts R nm X post) {x y z : Int32} (d : decode cc pc = .ok (.imul, 1)) (h : x * y = z) (kk : J c n w (pc + 1) lv (.int z :: st)) : J c n w pc lv (.int y :: .int x :: st) := by
  subst h
  exact g_imul K d kk
theorem g_laddE (K : zOk E J own cc nL ret Ts R nm X post) {x y z : Int64} (d : decode cc pc = .ok (.ladd, 1)) (h : x + y = z) (kk : J c n w (pc + 1) lv (.long z :: st)) : J c n w pc lv (.long y :: .long x :: st) := by
  subst h
  exact g_ladd K d kk
theorem g_lsubE (K : zOk E J own cc nL ret Ts R nm X post) {x y z : Int64} (d : decode cc pc = .ok (.lsub, 1)) (h : x - y = z) (kk : J c n w (pc + 1) lv (.long z :: st)) : J c n w pc lv (.long y :: .long x :: st) := by
  subst h
  exact g_lsub K d kk
theorem g_lmulE (K : zOk E J own cc nL ret Ts R nm X post) {x y z : Int64} (d : decode cc pc = .ok (.lmul, 1)) (h : x * y = z) (kk : J c n w (pc + 1) lv (.long z :: st)) : J c n w pc lv (.long y :: .long x :: st) := by
  subst h
  exact g_lmul K d kk
theorem g_iremE (K : zOk E J own cc nL ret Ts R nm X post) {x y z : Int32} (d : decode cc pc = .ok (.irem, 1)) (hne : ¬ y = 0) (h : x - x / y * y = z) (kk : J c n w (pc + 1) lv (.int z :: st)) : J c n w pc lv (.int y :: .int x :: st) := by
  subst h
  exact g_irem K d hne kk
theorem g_icmpN_eq (K : zOk E J own cc nL ret Ts R nm X post) {x y : Int32} {off : Int} {tgt : Nat} (d : decode cc pc = .ok (.if_icmp .eq off, 3)) (ht : (pc : Int) + off = (tgt : Int)) (a b : Nat) (hx : x = nI a) (hy : y = nI b) (ha : a < 2 ^ 31) (hb : b < 2 ^ 31) (kt : a = b → J c n w tgt lv st) (kf : ¬ a = b → J c n w (pc + 3) lv st) : J c n w pc lv (.int y :: .int x :: st) := by
  subst hx
  subst hy
  exact g_icmp_eq K d ht (fun h => kt ((nI_eq ha hb).mp h)) (fun h => kf (fun q => h ((nI_eq ha hb).mpr q)))
theorem g_icmpN_ne (K : zOk E J own cc nL ret Ts R nm X post) {x y : Int32} {off : Int} {tgt : Nat} (d : decode cc pc = .ok (.if_icmp .ne off, 3)) (ht : (pc : Int) + off = (tgt : Int)) (a b : Nat) (hx : x = nI a) (hy : y = nI b) (ha : a < 2 ^ 31) (hb : b < 2 ^ 31) (kt : ¬ a = b → J c n w tgt lv st) (kf : a = b → J c n w (pc + 3) lv st) : J c n w pc lv (.int y :: .int x :: st) := by
  subst hx
  subst hy
  exact g_icmp_ne K d ht (fun h => kt (fun q => h ((nI_eq ha hb).mpr q))) (fun h => kf ((nI_eq ha hb).mp h))
theorem g_icmpN_lt (K : zOk E J own cc nL ret Ts R nm X post) {x y : Int32} {off : Int} {tgt : Nat} (d : decode cc pc = .ok (.if_icmp .lt off, 3)) (ht : (pc : Int) + off = (tgt : Int)) (a b : Nat) (hx : x = nI a) (hy : y = nI b) (ha : a < 2 ^ 31) (hb : b < 2 ^ 31) (kt : a < b → J c n w tgt lv st) (kf : b ≤ a → J c n w (pc + 3) lv st) : J c n w pc lv (.int y :: .int x :: st) := by
  subst hx
  subst hy
  exact g_icmp_lt K d ht (fun h => kt (z_lt ha hb h)) (fun h => kf (Nat.not_lt.mp (fun q => h ((nI_ltI ha hb).mpr q))))
theorem g_icmpN_ge (K : zOk E J own cc nL ret Ts R nm X post) {x y : Int32} {off : Int} {tgt : Nat} (d : decode cc pc = .ok (.if_icmp .ge off, 3)) (ht : (pc : Int) + off = (tgt : Int)) (a b : Nat) (hx : x = nI a) (hy : y = nI b) (ha : a < 2 ^ 31) (hb : b < 2 ^ 31) (kt : b ≤ a → J c n w tgt lv st) (kf : a < b → J c n w (pc + 3) lv st) : J c n w pc lv (.int y :: .int x :: st) := by
  subst hx
  subst hy
  exact g_icmp_ge K d ht (fun h => kt (z_le hb ha h)) (fun h => kf (Nat.not_le.mp (fun q => h ((nI_leI hb ha).mpr q))))
theorem g_icmpN_gt (K : zOk E J own cc nL ret Ts R nm X post) {x y : Int32} {off : Int} {tgt : Nat} (d : decode cc pc = .ok (.if_icmp .gt off, 3)) (ht : (pc : Int) + off = (tgt : Int)) (a b : Nat) (hx : x = nI a) (hy : y = nI b) (ha : a < 2 ^ 31) (hb : b < 2 ^ 31) (kt : b < a → J c n w tgt lv st) (kf : a ≤ b → J c n w (pc + 3) lv st) : J c n w pc lv (.int y :: .int x :: st) := by
  subst hx
  subst hy
  exact g_icmp_gt K d ht (fun h => kt (z_lt hb ha h)) (fun h => kf (Nat.not_lt.mp (fun q => h ((nI_ltI hb ha).mpr q))))
theorem g_icmpN_le (K : zOk E J own cc nL ret Ts R nm X post) {x y : Int32} {off : Int} {tgt : Nat} (d : decode cc pc = .ok (.if_icmp .le off, 3)) (ht : (pc : Int) + off = (tgt : Int)) (a b : Nat) (hx : x = nI a) (hy : y = nI b) (ha : a < 2 ^ 31) (hb : b < 2 ^ 31) (kt : a ≤ b → J c n w tgt lv st) (kf : b < a → J c n w (pc + 3) lv st) : J c n w pc lv (.int y :: .int x :: st) := by
  subst hx
  subst hy
  exact g_icmp_le K d ht (fun h => kt (z_le ha hb h)) (fun h => kf (Nat.not_le.mp (fun q => h ((nI_leI ha hb).mpr q))))
theorem g_ifN_eq (K : zOk E J own cc nL ret Ts R nm X post) {x : Int32} {off : Int} {tgt : Nat} (d : decode cc pc = .ok (.ifCond .eq off, 3)) (ht : (pc : Int) + off = (tgt : Int)) (a : Nat) (hx : x = nI a) (ha : a < 2 ^ 31) (kt : a = 0 → J c n w tgt lv st) (kf : ¬ a = 0 → J c n w (pc + 3) lv st) : J c n w pc lv (.int x :: st) := by
  subst hx
  exact g_if_eq K d ht (fun h => kt ((nI_eq ha (by decide)).mp h)) (fun h => kf (fun q => h ((nI_eq ha (by decide)).mpr q)))
theorem g_ifN_ne (K : zOk E J own cc nL ret Ts R nm X post) {x : Int32} {off : Int} {tgt : Nat} (d : decode cc pc = .ok (.ifCond .ne off, 3)) (ht : (pc : Int) + off = (tgt : Int)) (a : Nat) (hx : x = nI a) (ha : a < 2 ^ 31) (kt : ¬ a = 0 → J c n w tgt lv st) (kf : a = 0 → J c n w (pc + 3) lv st) : J c n w pc lv (.int x :: st) := by
  subst hx
  exact g_if_ne K d ht (fun h => kt (fun q => h ((nI_eq ha (by decide)).mpr q))) (fun h => kf ((nI_eq ha (by decide)).mp h))
theorem g_ifN_lt (K : zOk E J own cc nL ret Ts R nm X post) {x : Int32} {off : Int} {tgt : Nat} (d : decode cc pc = .ok (.ifCond .lt off, 3)) (ht : (pc : Int) + off = (tgt : Int)) (a : Nat) (hx : x = nI a) (ha : a < 2 ^ 31) (kt : False → J c n w tgt lv st) (kf : True → J c n w (pc + 3) lv st) : J c n w pc lv (.int x :: st) := by
  subst hx
  exact g_if_lt K d ht (fun h => absurd h (nI_pos ha)) (fun h => kf trivial)
theorem g_ifN_ge (K : zOk E J own cc nL ret Ts R nm X post) {x : Int32} {off : Int} {tgt : Nat} (d : decode cc pc = .ok (.ifCond .ge off, 3)) (ht : (pc : Int) + off = (tgt : Int)) (a : Nat) (hx : x = nI a) (ha : a < 2 ^ 31) (kt : True → J c n w tgt lv st) (kf : False → J c n w (pc + 3) lv st) : J c n w pc lv (.int x :: st) := by
  subst hx
  exact g_if_ge K d ht (fun h => kt trivial) (fun h => absurd (nI_pos' ha) h)
theorem g_ifN_gt (K : zOk E J own cc nL ret Ts R nm X post) {x : Int32} {off : Int} {tgt : Nat} (d : decode cc pc = .ok (.ifCond .gt off, 3)) (ht : (pc : Int) + off = (tgt : Int)) (a : Nat) (hx : x = nI a) (ha : a < 2 ^ 31) (kt : 0 < a → J c n w tgt lv st) (kf : a = 0 → J c n w (pc + 3) lv st) : J c n w pc lv (.int x :: st) := by
  subst hx
  exact g_if_gt K d ht (fun h => kt (z_lt (by decide) ha h)) (fun h => kf (by have q : ¬ 0 < a := fun q => h ((nI_ltI (by decide) ha).mpr q); omega))
theorem g_ifN_le (K : zOk E J own cc nL ret Ts R nm X post) {x : Int32} {off : Int} {tgt : Nat} (d : decode cc pc = .ok (.ifCond .le off, 3)) (ht : (pc : Int) + off = (tgt : Int)) (a : Nat) (hx : x = nI a) (ha : a < 2 ^ 31) (kt : a = 0 → J c n w tgt lv st) (kf : 0 < a → J c n w (pc + 3) lv st) : J c n w pc lv (.int x :: st) := by
  subst hx
  exact g_if_le K d ht (fun h => kt (by have q := z_le (b := 0) ha (by decide) h; omega)) (fun h => kf (by have q : ¬ a ≤ 0 := fun q => h ((nI_leI ha (by decide)).mpr q); omega))
end ZS
