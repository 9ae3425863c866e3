/-! What the methods do, as functions: rows of numbers as functions of places, a table as seven longs. -/
def nBent (K : Nat → Int32) : Nat → Nat
  | 0 => 0
  | n + 1 => nBent K n + if K n = 1 ∨ K n = 2 then 1 else 0
def nTilt (K : Nat → Int32) : Nat → Nat
  | 0 => 0
  | n + 1 => nTilt K n + if K n = 3 then 1 else 0
theorem nBent_le (K : Nat → Int32) : ∀ n, nBent K n ≤ n
  | 0 => Nat.le_refl 0
  | n + 1 => by have h := nBent_le K n; simp only [nBent]; split <;> omega
theorem nTilt_le (K : Nat → Int32) : ∀ n, nTilt K n ≤ n
  | 0 => Nat.le_refl 0
  | n + 1 => by have h := nTilt_le K n; simp only [nTilt]; split <;> omega
/-- d numbers from place q downwards get their lower neighbour's value -/
def shUp (K : Nat → Int32) (q : Nat) : Nat → Nat → Int32
  | 0 => K
  | d + 1 => shUp (upd K q (K (q - 1))) (q - 1) d
/-- d numbers from place q upwards get their upper neighbour's value -/
def shDn (K : Nat → Int32) (q : Nat) : Nat → Nat → Int32
  | 0 => K
  | d + 1 => shDn (upd K q (K (q + 1))) (q + 1) d
/-- d pairs, from place i on, change places in a row of n -/
def revF (K : Nat → Int32) (n i : Nat) : Nat → Nat → Int32
  | 0 => K
  | d + 1 => revF (upd (upd K i (K (n - 1 - i))) (n - 1 - i) (K i)) n (i + 1) d
/-- d numbers of M, from place q on, are laid behind place n of K -/
def appF (K M : Nat → Int32) (n q : Nat) : Nat → Nat → Int32
  | 0 => K
  | d + 1 => appF (upd K n (M q)) M (n + 1) (q + 1) d
abbrev TB : Type := Int64 × Int64 × Int64 × Int64 × Int64 × Int64 × Int64
def ta (T : TB) : Int64 := T.1
def tb (T : TB) : Int64 := T.2.1
def tc (T : TB) : Int64 := T.2.2.1
def td (T : TB) : Int64 := T.2.2.2.1
def te (T : TB) : Int64 := T.2.2.2.2.1
def tf (T : TB) : Int64 := T.2.2.2.2.2.1
def tg (T : TB) : Int64 := T.2.2.2.2.2.2
def T1 : TB := (1, 0, 0, 1, 0, 0, 1)
def strF (x : Int64) (T : TB) : TB := (ta T + x * tc T, tb T + x * td T, tc T, td T, te T + x * tf T, tf T, tg T)
/-- a lens or mirror: g is the sign, z the size of its strength -/
def benG (g z : Int64) (T : TB) : TB := (ta T * z, tb T * z, z * tc T - g * ta T, z * td T - g * tb T, te T * z, z * tf T - g * te T, tg T * z)
def benF (x : Int64) (T : TB) : TB := if x < 0 then benG (-1) ((-1) * x) T else benG 1 (1 * x) T
def tilF (x : Int64) (T : TB) : TB := (ta T, tb T, tc T, td T, te T, tf T + x * tg T, tg T)
def goF (k s : Int32) (T : TB) : TB := if k = 0 then strF s.toInt64 T else if k = 1 ∨ k = 2 then benF s.toInt64 T else if k = 3 then tilF s.toInt64 T else T
/-- the strength that a way sees -/
def stg (K F G : Nat → Int32) (way : Int32) (j : Nat) : Int32 := if K j = 2 ∧ way = 1 then G j else F j
/-- d parts of a row of z, from place i on, round and round -/
def ledF (K F G : Nat → Int32) (way : Int32) (z : Nat) (i : Nat) (T : TB) : Nat → TB
  | 0 => T
  | d + 1 => ledF K F G way z (if i + 1 < z then i + 1 else 0) (if i < z then goF (K i) (stg K F G way i) T else T) d
def farF (T : TB) (x y : Int64) : Int64 := ta T * x + tb T * y + te T
def leanF (T : TB) (x y : Int64) : Int64 := tc T * x + td T * y + tf T
def absL (x : Int64) : Int64 := if 0 < x then x else -x
def sumF (T : TB) : Int64 := ta T + td T
abbrev btw (T : TB) : Prop := ¬ sumF T ≤ (-2) * tg T ∧ ¬ 2 * tg T ≤ sumF T
abbrev pln (T : TB) (x : Int64) : Prop := ta T = x ∧ td T = x ∧ tb T = 0 ∧ tc T = 0
def manF (T : TB) : Int32 := if btw T then 0 else if pln T (tg T) then 0 else if pln T (-tg T) then 0 else if sumF T = 2 * tg T then 1 else if sumF T = (-2) * tg T then 1 else 2
def rndF (T : TB) : Int32 := if pln T (tg T) then 1 else if pln T (-tg T) then 2 else if sumF T = -tg T then 3 else if sumF T = 0 then 4 else if sumF T = tg T then 6 else 0
def abvF (T : TB) (e : Int32) : Int64 := if e = 0 then ta T else if e = 1 then tb T else if e = 2 then tc T else if e = 3 then td T else if e = 4 then te T else tf T
def stpF (T : TB) (x : Int64) : Int64 := if absL (te T) ≤ x * tg T then if tb T = 0 then 1000 else if tb T ≤ 0 then (x * tg T + te T) / (-tb T) else (x * tg T - te T) / tb T else -1
theorem z_neg0 {x : Int64} (h : ¬ x = 0) : ¬ -x = 0 := fun q => h (by have := congrArg (fun y => -y) q; simpa using this)
def minL (x y : Int64) : Int64 := if y < x then y else x
section ZM
variable {E : zE} {J : zJ} {own nm : String} {cc : ByteArray} {nL : Nat} {ret : Option FieldType} {Ts : List Cond} {R : Room} {X : State → Prop} {post : zPost} {c n : Nat} {w : va_W} {pc : Nat} {lv : List (Nat × Value)} {st : List Value}
theorem g_mabsL (K : zOk E J own cc nL ret Ts R nm X post) {x : Int64} {idx : Nat} (d : decode cc pc = .ok (.invokestatic idx, 3)) (h1 : Cond.methodLink own idx Lib.MathLoose.abs_long.x ∈ Ts) (h2 : Cond.static Lib.MathLoose.abs_long.x ∈ Ts) (h3 : Cond.initialized "java/lang/Math" ∈ Ts) (h4 : Cond.code Lib.MathLoose.abs_long.x Lib.MathLoose.abs_long.code 2 (some .long) ∈ Ts) (hf : 1 ≤ R.frames) (hlo : (st.map fun v => v.category).sum + 13 ≤ R.locals) (hcn : c ≤ R.cells ∧ n ≤ R.slots) (kk : J c n w (pc + 3) lv (.long (absL x) :: st)) : J c n w pc lv (.long x :: st) := g_mabs K d h1 h2 h3 h4 hf hlo hcn kk
theorem g_mminL (K : zOk E J own cc nL ret Ts R nm X post) {x y : Int64} {idx : Nat} (d : decode cc pc = .ok (.invokestatic idx, 3)) (h1 : Cond.methodLink own idx Lib.MathLoose.min_long.x ∈ Ts) (h2 : Cond.static Lib.MathLoose.min_long.x ∈ Ts) (h3 : Cond.initialized "java/lang/Math" ∈ Ts) (h4 : Cond.code Lib.MathLoose.min_long.x Lib.MathLoose.min_long.code 4 (some .long) ∈ Ts) (hf : 1 ≤ R.frames) (hlo : (st.map fun v => v.category).sum + 15 ≤ R.locals) (hcn : c ≤ R.cells ∧ n ≤ R.slots) (kk : J c n w (pc + 3) lv (.long (minL x y) :: st)) : J c n w pc lv (.long y :: .long x :: st) := g_mmin K d h1 h2 h3 h4 hf hlo hcn kk
end ZM
