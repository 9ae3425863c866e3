/-! What the methods do, as functions: rows of numbers as functions of places, a table as seven longs. -/
def nBent (K : Nat → Int32) : Nat → Nat
  | 0 => 0
  | n + 1 => nBent K n + if K n = 1 ∨ K n = 2 then 1 else 0
def nTilt (K : Nat → Int32) : Nat → Nat
  | 0 => 0
  | n + 1 => nTilt K n + if K n = 3 then 1 else 0
theorem nBent_le (K : Nat → Int32) : ∀ n, nBent K n ≤ n
  | 0 => Nat.le_refl 0
  | n + 1 => by have h := nBent_le K n; simp only [nBent]; split <;> omega
theorem nTilt_le (K : Nat → Int32) : ∀ n, nTilt K n ≤ n
  | 0 => Nat.le_refl 0
  | n + 1 => by have h := nTilt_le K n; simp only [nTilt]; split <;> omega
/-- d numbers from place q downwards get their lower neighbour's value -/
def shUp (K : Nat → Int32) (q : Nat) : Nat → Nat → Int32
  | 0 => K
  | d + 1 => shUp (upd K q (K (q - 1))) (q - 1) d
/-- d numbers from place q upwards get their upper neighbour's value -/
def shDn (K : Nat → Int32) (q : Nat) : Nat → Nat → Int32
  | 0 => K
  | d + 1 => shDn (upd K q (K (q + 1))) (q + 1) d
/-- d pairs, from place i on, change places in a row of n -/
def revF (K : Nat → Int32) (n i : Nat) : Nat → Nat → Int32
  | 0 => K
  | d + 1 => revF (upd (upd K i (K (n - 1 - i))) (n - 1 - i) (K i)) n (i + 1) d
/-- d numbers of M, from place q on, are laid behind place n of K -/
def appF (K M : Nat → Int32) (n q : Nat) : Nat → Nat → Int32
  | 0 => K
  | d + 1 => appF (upd K n (M q)) M (n + 1) (q + 1) d
abbrev TB : Type := Int64 × Int64 × Int64 × Int64 × Int64 × Int64 × Int64
def ta (T : TB) : Int64 := T.1
def tb (T : TB) : Int64 := T.2.1
def tc (T : TB) : Int64 := T.2.2.1
def td (T : TB) : Int64 := T.2.2.2.1
def te (T : TB) : Int64 := T.2.2.2.2.1
def tf (T : TB) : Int64 := T.2.2.2.2.2.1
def tg (T : TB) : Int64 := T.2.2.2.2.2.2
def T1 : TB := (1, 0, 0, 1, 0, 0, 1)
def strF (x : Int64) (T : TB) : TB := (ta T + x * tc T, tb T + x * td T, tc T, td T, te T + x * tf T, tf T, tg T)
/-- a lens or mirror: g is the sign, z the size of its strength -/
def benG (g z : Int64) (T : TB) : TB := (ta T * z, tb T * z, z * tc T - g * ta T, z * td T - g * tb T, te T * z, z * tf T - g * te T, tg T * z)
def benF (x : Int64) (T : TB) : TB := if x < 0 then benG (-1) ((-1) * x) T else benG 1 (1 * x) T
def tilF (x : Int64) (T : TB) : TB := (ta T, tb T, tc T, td T, te T, tf T + x * tg T, tg T)
def goF (k s : Int32) (T : TB) : TB := if k = 0 then strF s.toInt64 T else if k = 1 ∨ k = 2 then benF s.toInt64 T else if k = 3 then tilF s.toInt64 T else T
/-- the strength that a way sees -/
def stg (K F G : Nat → Int32) (way : Int32) (j : Nat) : Int32 := if K j = 2 ∧ way = 1 then G j else F j
/-- d parts of a row of z, from place i on, round and round -/
def ledF (K F G : Nat → Int32) (way : Int32) (z : Nat) (i : Nat) (T : TB) : Nat → TB
  | 0 => T
  | d + 1 => ledF K F G way z (if i + 1 < z then i + 1 else 0) (if i < z then goF (K i) (stg K F G way i) T else T) d
def farF (T : TB) (x y : Int64) : Int64 := ta T * x + tb T * y + te T
def leanF (T : TB) (x y : Int64) : Int64 := tc T * x + td T * y + tf T
def absL (x : Int64) : Int64 := if 0 < x then x else -x
