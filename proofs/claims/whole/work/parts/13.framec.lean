/-! The reference's cells: rows of rows laid side by side, a table as a row of longs; rows of the frame that rename what is read and written. -/
def gl (K : Nat → Nat → Int32) : Nat → Int32 := fun q => K (q / 8) (q % 8)
def mN (n : Nat → Nat) : Nat → Int32 := fun b => nI (n b)
def tv (T : TB) : Nat → Int64 := fun k => match k with
  | 0 => ta T
  | 1 => tb T
  | 2 => tc T
  | 3 => td T
  | 4 => te T
  | 5 => tf T
  | _ => 0
def s0 (T : TB) (v : Int64) : TB := (v, tb T, tc T, td T, te T, tf T, tg T)
def s1 (T : TB) (v : Int64) : TB := (ta T, v, tc T, td T, te T, tf T, tg T)
def s2 (T : TB) (v : Int64) : TB := (ta T, tb T, v, td T, te T, tf T, tg T)
def s3 (T : TB) (v : Int64) : TB := (ta T, tb T, tc T, v, te T, tf T, tg T)
def s4 (T : TB) (v : Int64) : TB := (ta T, tb T, tc T, td T, v, tf T, tg T)
def s5 (T : TB) (v : Int64) : TB := (ta T, tb T, tc T, td T, te T, v, tg T)
theorem tv_s0 (T : TB) (v : Int64) : vp_updL (tv T) 0 v = tv (s0 T v) := by
  funext q
  match q with
  | 0 => rfl
  | 1 => rfl
  | 2 => rfl
  | 3 => rfl
  | 4 => rfl
  | 5 => rfl
  | q + 6 => rfl
theorem tv_s1 (T : TB) (v : Int64) : vp_updL (tv T) 1 v = tv (s1 T v) := by
  funext q
  match q with
  | 0 => rfl
  | 1 => rfl
  | 2 => rfl
  | 3 => rfl
  | 4 => rfl
  | 5 => rfl
  | q + 6 => rfl
theorem tv_s2 (T : TB) (v : Int64) : vp_updL (tv T) 2 v = tv (s2 T v) := by
  funext q
  match q with
  | 0 => rfl
  | 1 => rfl
  | 2 => rfl
  | 3 => rfl
  | 4 => rfl
  | 5 => rfl
  | q + 6 => rfl
theorem tv_s3 (T : TB) (v : Int64) : vp_updL (tv T) 3 v = tv (s3 T v) := by
  funext q
  match q with
  | 0 => rfl
  | 1 => rfl
  | 2 => rfl
  | 3 => rfl
  | 4 => rfl
  | 5 => rfl
  | q + 6 => rfl
theorem tv_s4 (T : TB) (v : Int64) : vp_updL (tv T) 4 v = tv (s4 T v) := by
  funext q
  match q with
  | 0 => rfl
  | 1 => rfl
  | 2 => rfl
  | 3 => rfl
  | 4 => rfl
  | 5 => rfl
  | q + 6 => rfl
theorem tv_s5 (T : TB) (v : Int64) : vp_updL (tv T) 5 v = tv (s5 T v) := by
  funext q
  match q with
  | 0 => rfl
  | 1 => rfl
  | 2 => rfl
  | 3 => rfl
  | 4 => rfl
  | 5 => rfl
  | q + 6 => rfl
theorem gl_at (K : Nat → Nat → Int32) {j p q : Nat} (hq : q = 8 * j + p) (hp : p < 8) : gl K q = K j p := by
  subst hq
  show K ((8 * j + p) / 8) ((8 * j + p) % 8) = K j p
  rw [show (8 * j + p) / 8 = j by omega, show (8 * j + p) % 8 = p by omega]
theorem vu_at {α : Type} (f : Nat → α) (k : Nat) (v : α) : va_up f k v k = v := by simp [va_up]
theorem vu_ne {α : Type} (f : Nat → α) {k j : Nat} (v : α) (h : j ≠ k) : va_up f k v j = f j := by simp [va_up, h]
theorem vu_self {α : Type} (f : Nat → α) (k : Nat) : va_up f k (f k) = f := by
  funext j
  by_cases h : j = k
  · subst h; simp [va_up]
  · simp [va_up, h]
theorem vu_vu {α : Type} (f : Nat → α) (k : Nat) (v w : α) : va_up (va_up f k v) k w = va_up f k w := bx_uu f k v w
theorem gl_set (K : Nat → Nat → Int32) {j p q : Nat} (v : Int32) (hq : q = 8 * j + p) (hp : p < 8) : upd (gl K) q v = gl (va_up K j (upd (K j) p v)) := by
  funext x
  show (if x = q then v else K (x / 8) (x % 8)) = va_up K j (upd (K j) p v) (x / 8) (x % 8)
  by_cases h : x / 8 = j
  · rw [h, vu_at]
    show _ = if x % 8 = p then v else K j (x % 8)
    by_cases h2 : x % 8 = p
    · rw [if_pos h2, if_pos (by omega)]
    · rw [if_neg h2, if_neg (by omega)]
  · rw [vu_ne _ _ h, if_neg (by omega)]
theorem gl_setU (K : Nat → Nat → Int32) (R : Nat → Int32) {j p q : Nat} (v : Int32) (hq : q = 8 * j + p) (hp : p < 8) : upd (gl (va_up K j R)) q v = gl (va_up K j (upd R p v)) := by
  rw [gl_set _ v hq hp, vu_at, vu_vu]
theorem gl_atU (K : Nat → Nat → Int32) (R : Nat → Int32) {j p q : Nat} (hq : q = 8 * j + p) (hp : p < 8) : gl (va_up K j R) q = R p := by
  rw [gl_at _ hq hp, vu_at]
theorem mN_set (n : Nat → Nat) (j m : Nat) : upd (mN n) j (nI m) = mN (va_up n j m) := by
  funext x
  show (if x = j then nI m else nI (n x)) = nI (va_up n j m x)
  by_cases h : x = j
  · rw [if_pos h, h, vu_at]
  · rw [if_neg h, vu_ne _ _ h]
abbrev inB (n : Nat) (b : Int32) : Prop := 0 ≤ b.toInt ∧ b.toInt < (n : Int)
theorem inB_M {n : Nat} {b : Int32} (hn : n < 2 ^ 20) : (¬ b < 0 ∧ ¬ nI n - 1 < b) ↔ inB n b := by
  have h1 : (nI n - 1).toInt = (n : Int) - 1 := pk_sub_toInt (b := 1) (by omega) (by omega)
  rw [Int32.lt_iff_toInt_lt, Int32.lt_iff_toInt_lt, h1, Int32.toInt_zero]
  unfold inB
  omega
theorem inB_X {n : Nat} {b : Int32} (hn : n < 2 ^ 20) : (¬ b < 0 ∧ ¬ nI n ≤ b) ↔ inB n b := by
  rw [Int32.lt_iff_toInt_lt, Int32.le_iff_toInt_le, nI_toInt (by omega), Int32.toInt_zero]
  unfold inB
  omega
theorem inB_P {n : Nat} {b : Int32} (hn : n < 2 ^ 20) : (¬ b < 0 ∧ ¬ nI n < b) ↔ inB (n + 1) b := by
  rw [Int32.lt_iff_toInt_lt, Int32.lt_iff_toInt_lt, nI_toInt (by omega), Int32.toInt_zero]
  unfold inB
  omega
theorem inB_of {n : Nat} {b : Int32} (h : inB n b) : ∃ j, j < n ∧ b = nI j := by
  have h0 : ¬ b < 0 := by rw [Int32.lt_iff_toInt_lt, Int32.toInt_zero]; have := h.1; omega
  obtain ⟨j, hj, rfl⟩ := nI_of h0
  have := h.2
  rw [nI_toInt hj] at this
  exact ⟨j, by omega, rfl⟩
theorem inB_nI {n j : Nat} (hj : j < n) (hn : n < 2 ^ 31) : inB n (nI j) := by
  unfold inB
  rw [nI_toInt (by omega)]
  omega
theorem z_nb {P : Prop} [Decidable P] : narrow .boolean (.int (if P then 1 else 0)) = .int (if P then 1 else 0) := by
  by_cases h : P <;> simp only [h, if_true, if_false] <;> rfl
theorem z_bcong {P Q : Prop} [Decidable P] [Decidable Q] (h : P ↔ Q) : (some (Value.int (if P then 1 else 0))) = some (Value.int (if Q then 1 else 0)) := by
  by_cases hq : Q
  · rw [if_pos hq, if_pos (h.mpr hq)]
  · rw [if_neg hq, if_neg (fun q => hq (h.mp q))]
section ZT
variable {E : zE} {J : zJ} {own nm : String} {cc : ByteArray} {nL : Nat} {ret : Option FieldType} {Ts : List Cond} {R : Room} {X : State → Prop} {post : zPost} {c n : Nat} {w : va_W} {pc : Nat} {lv : List (Nat × Value)} {st : List Value}
theorem g_ialdE (K : zOk E J own cc nL ret Ts R nm X post) {a z : Nat} {f : Nat → Int32} {v : Int32} (d : decode cc pc = .ok (.iaload, 1)) (q : Nat) (ha : w[q]? = some (cI E a z f)) {i : Int32} (j : Nat) (hi : i = nI j) (hj : j < z) (hz : z.ble 4096 = true) (hv : f j = v) (kk : J c n w (pc + 1) lv (.int v :: st)) : J c n w pc lv (.int i :: .ref a :: st) := by
  subst hv
  exact g_iald K d q ha j hi hj hz kk
theorem g_laldE (K : zOk E J own cc nL ret Ts R nm X post) {a z : Nat} {f : Nat → Int64} {v : Int64} (d : decode cc pc = .ok (.laload, 1)) (q : Nat) (ha : w[q]? = some (cJ E a z f)) {i : Int32} (j : Nat) (hi : i = nI j) (hj : j < z) (hz : z.ble 4096 = true) (hv : f j = v) (kk : J c n w (pc + 1) lv (.long v :: st)) : J c n w pc lv (.int i :: .ref a :: st) := by
  subst hv
  exact g_lald K d q ha j hi hj hz kk
theorem g_aaldE (K : zOk E J own cc nL ret Ts R nm X post) {a z : Nat} {f : Nat → Option Nat} {v : Value} (d : decode cc pc = .ok (.aaload, 1)) (q : Nat) (ha : w[q]? = some (cQ E a z f)) {i : Int32} (j : Nat) (hi : i = nI j) (hj : j < z) (hz : z.ble 4096 = true) (hv : va_rf (f j) = v) (kk : J c n w (pc + 1) lv (v :: st)) : J c n w pc lv (.int i :: .ref a :: st) := by
  subst hv
  exact g_aald K d q ha j hi hj hz kk
theorem g_iastE (K : zOk E J own cc nL ret Ts R nm X post) {a z : Nat} {f f' : Nat → Int32} {x : Int32} {w' : va_W} (d : decode cc pc = .ok (.iastore, 1)) (q : Nat) (ha : w[q]? = some (cI E a z f)) {i : Int32} (j : Nat) (hi : i = nI j) (hj : j < z) (hz : z.ble 4096 = true) (hf : upd f j x = f') (hw : w.set q (cI E a z f') = w') (kk : J c n w' (pc + 1) lv st) : J c n w pc lv (.int x :: .int i :: .ref a :: st) := by
  subst hf
  exact g_iast K d q ha j hi hj hz hw kk
theorem g_lastE (K : zOk E J own cc nL ret Ts R nm X post) {a z : Nat} {f f' : Nat → Int64} {x : Int64} {w' : va_W} (d : decode cc pc = .ok (.lastore, 1)) (q : Nat) (ha : w[q]? = some (cJ E a z f)) {i : Int32} (j : Nat) (hi : i = nI j) (hj : j < z) (hz : z.ble 4096 = true) (hf : vp_updL f j x = f') (hw : w.set q (cJ E a z f') = w') (kk : J c n w' (pc + 1) lv st) : J c n w pc lv (.long x :: .int i :: .ref a :: st) := by
  subst hf
  exact g_last K d q ha j hi hj hz hw kk
end ZT
