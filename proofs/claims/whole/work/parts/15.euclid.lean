/-! The common divisor: Euclid's steps on longs end within a hundred, and come to the divisor. -/
def euN : Nat → Int64 → Int64 → Int64
  | 0, x, _ => x
  | k + 1, x, y => if y = 0 then x else euN k y (x - x / y * y)
def eFin : Nat → Int64 → Int64 → Prop
  | 0, _, y => y = 0
  | k + 1, x, y => y = 0 ∨ eFin k y (x - x / y * y)
def eN : Nat → Nat → Nat → Prop
  | 0, _, b => b = 0
  | k + 1, a, b => b = 0 ∨ eN k b (a % b)
def fbp : Nat → Nat × Nat
  | 0 => (0, 1)
  | n + 1 => ((fbp n).2, (fbp n).1 + (fbp n).2)
def fb (n : Nat) : Nat := (fbp n).1
theorem fb_2 (n : Nat) : fb (n + 2) = fb n + fb (n + 1) := rfl
theorem eN_fb : ∀ (k a b : Nat), b < a → (a < fb (k + 2) ∨ b < fb (k + 1)) → eN k a b
  | 0, a, b, h, h2 => by
    have e1 : fb 2 = 1 := rfl
    have e2 : fb 1 = 1 := rfl
    show b = 0
    rcases h2 with q | q
    · rw [show 0 + 2 = 2 from rfl, e1] at q; omega
    · rw [show 0 + 1 = 1 from rfl, e2] at q; omega
  | k + 1, a, b, h, h2 => by
    by_cases hb : b = 0
    · exact Or.inl hb
    · refine Or.inr (eN_fb k b (a % b) (Nat.mod_lt _ (by omega)) ?_)
      have e := fb_2 (k + 1)
      rcases h2 with q | q
      · rcases Nat.lt_or_ge b (fb (k + 2)) with z | z
        · exact Or.inl z
        · refine Or.inr ?_
          have h1 : a % b ≤ a - b := by
            rw [Nat.mod_eq_sub_mod (Nat.le_of_lt h)]
            exact Nat.mod_le _ _
          have e3 : fb (k + 1 + 2) = fb (k + 1) + fb (k + 2) := e
          omega
      · exact Or.inl q
theorem fb_101 : 2 ^ 63 < fb 101 := by decide +kernel
theorem eN_100 (a b : Nat) (hb : b ≤ 2 ^ 63) : eN 100 a b := by
  by_cases h : b = 0
  · exact Or.inl h
  · exact Or.inr (eN_fb 99 b (a % b) (Nat.mod_lt _ (by omega)) (Or.inl (Nat.lt_of_le_of_lt hb fb_101)))
theorem l_rem (x y : Int64) : (x - x / y * y).toInt = x.toInt.tmod y.toInt := by
  have h1 := Int64.le_toInt x
  have h2 := Int64.toInt_lt x
  have h3 := Int64.le_toInt y
  have h4 := Int64.toInt_lt y
  have hm : (x % y).toInt = x.toInt.tmod y.toInt := Int64.toInt_mod x y
  have h5 := Int64.le_toInt (x % y)
  have h6 := Int64.toInt_lt (x % y)
  rw [hm] at h5 h6
  rw [Int64.toInt_sub, Int64.toInt_mul, Int64.toInt_div, Int.bmod_mul_bmod, Int.sub_bmod_bmod, Int.mul_comm, ← Int.tmod_def]
  exact Int.bmod_eq_of_le (by omega) (by omega)
theorem l_natAbs0 {y : Int64} (h : y.toInt.natAbs = 0) : y = 0 := by
  have : y.toInt = 0 := Int.natAbs_eq_zero.mp h
  exact Int64.toInt_inj.mp (by rw [this]; rfl)
theorem l_natAbs_le (y : Int64) : y.toInt.natAbs ≤ 2 ^ 63 := by
  have h3 := Int64.le_toInt y
  have h4 := Int64.toInt_lt y
  omega
theorem eFin_of : ∀ (k : Nat) (x y : Int64), eN k x.toInt.natAbs y.toInt.natAbs → eFin k x y
  | 0, x, y, h => l_natAbs0 h
  | k + 1, x, y, h => by
    rcases h with h | h
    · exact Or.inl (l_natAbs0 h)
    · refine Or.inr (eFin_of k _ _ ?_)
      rw [l_rem, Int.natAbs_tmod]
      exact h
theorem eFin_100 (x y : Int64) : eFin 100 x y := eFin_of 100 x y (eN_100 _ _ (l_natAbs_le y))
theorem euN_gcd : ∀ (k : Nat) (x y : Int64), eFin k x y → (euN k x y).toInt.natAbs = Nat.gcd x.toInt.natAbs y.toInt.natAbs
  | 0, x, y, h => by
    have h : y = 0 := h
    subst h
    show x.toInt.natAbs = _
    simp
  | k + 1, x, y, h => by
    by_cases hy : y = 0
    · subst hy
      simp [euN]
    · rcases h with h | h
      · exact absurd h hy
      · simp only [euN, if_neg hy]
        rw [euN_gcd k _ _ h, l_rem, Int.natAbs_tmod, Nat.gcd_comm y.toInt.natAbs (x.toInt.natAbs % y.toInt.natAbs), ← Nat.gcd_rec y.toInt.natAbs x.toInt.natAbs, Nat.gcd_comm]
def gcdL (a b : Int64) : Int64 := euN 100 (absL a) (absL b)
theorem absL_natAbs (x : Int64) : (absL x).toInt.natAbs = x.toInt.natAbs := by
  unfold absL
  split
  · rfl
  · rw [Int64.toInt_neg]
    have h1 := Int64.le_toInt x
    have h2 := Int64.toInt_lt x
    by_cases h : x.toInt = -2 ^ 63
    · rw [h]; decide
    · rw [Int.bmod_eq_of_le (by omega) (by omega), Int.natAbs_neg]
theorem gcdL_natAbs (a b : Int64) : (gcdL a b).toInt.natAbs = Nat.gcd a.toInt.natAbs b.toInt.natAbs := by
  unfold gcdL
  rw [euN_gcd _ _ _ (eFin_100 _ _), absL_natAbs, absL_natAbs]
theorem l_toInt_ne {x : Int64} (h : x ≠ 0) : x.toInt ≠ 0 := fun q => h (Int64.toInt_inj.mp (by rw [q]; rfl))
theorem gcdL_ne {a b : Int64} (h : a ≠ 0 ∨ b ≠ 0) : ¬ gcdL a b = 0 := by
  intro q
  have h1 := gcdL_natAbs a b
  rw [q] at h1
  have h2 : Nat.gcd a.toInt.natAbs b.toInt.natAbs = 0 := by rw [← h1]; rfl
  rw [Nat.gcd_eq_zero_iff] at h2
  rcases h with z | z
  · exact l_toInt_ne z (Int.natAbs_eq_zero.mp h2.1)
  · exact l_toInt_ne z (Int.natAbs_eq_zero.mp h2.2)
theorem absL_ge {x : Int64} (h : 0 ≤ x) : absL x = x := by
  unfold absL
  split
  · rfl
  · rcases z_i64_tri x 0 with q | q | q
    · exact absurd h (z_i64_asym q).2.2.2.2
    · subst q; rfl
    · rename_i z; exact absurd q z
theorem absL_lt {x : Int64} (h : ¬ 0 ≤ x) : absL x = -x := by
  unfold absL
  rw [if_neg (fun q => h (z_i64_asym q).2.2.2.1)]
def lowF (a u : Int64) (wh : Int32) : Int64 := if a = 0 then (if wh = 0 then 0 else 1) else (if wh = 0 then a else u) / (if 0 ≤ u then gcdL a u else -gcdL a u)
def tolF (a u : Int64) (wh : Int32) : Int64 := if u = 0 ∨ gcdL a u = 0 then -9223372036854775808 else if u < 0 then -((if wh = 0 then a else u) / gcdL a u) else (if wh = 0 then a else u) / gcdL a u
/-! The reference's table. -/
def bnd (x : Int64) (T : TB) : TB := (ta T * x, tb T * x, tc T * x - ta T, td T * x - tb T, te T * x, tf T * x - te T, tg T * x)
def ngT (T : TB) : TB := (-ta T, -tb T, -tc T, -td T, -te T, -tf T, -tg T)
def nrm (T : TB) : TB := if tg T ≤ 0 then ngT T else T
def goM (k a b way : Int32) (T : TB) : TB := nrm (if k = 0 then strF a.toInt64 T else if k = 1 then bnd a.toInt64 T else if k = 2 then bnd (if way = 0 then a.toInt64 else b.toInt64) T else if k = 3 then tilF a.toInt64 T else T)
def wrkF (K F G : Nat → Int32) (way : Int32) (z : Nat) (i : Nat) (T : TB) : Nat → TB
  | 0 => T
  | d + 1 => wrkF K F G way z (i + 1) (goM (K (i % z)) (F (i % z)) (G (i % z)) way T) d
