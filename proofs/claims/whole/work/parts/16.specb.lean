/-! What the reference's calls answer. -/
def tabM (K F G : Nat → Int32) (way : Int32) (z : Nat) : TB := wrkF K F G way z 0 T1 z
def rotM (K F G : Nat → Int32) (way : Int32) (z i : Nat) : TB := wrkF K F G way z i T1 z
abbrev hldM (K F G : Nat → Int32) (z : Nat) : Prop := manF (tabM K F G 0 z) = 0 ∧ manF (tabM K F G 1 z) = 0
def hbT (A B : TB) : TB := if manF A = 0 then B else A
def stoM (K F G : Nat → Int32) (way : Int32) (x y : Int64) (i : Nat) (T : TB) : Nat → Int32 × TB
  | 0 => (-1, T)
  | d + 1 => if K i = 4 ∧ ¬ absL (farF T x y) ≤ (F i).toInt64 * tg T then (nI i, T) else stoM K F G way x y (i + 1) (goM (K i) (F i) (G i) way T) d
def fulM (K F G : Nat → Int32) (way : Int32) (z y : Nat) : Nat → Int32
  | 0 => nI y - 1
  | d + 1 => if (stoM K F G way (Int32.toInt64 0) (Int32.toInt64 (nI y)) 0 T1 z).1 = -1 then fulM K F G way z (y + 1) d else nI y - 1
def fulR (K F G : Nat → Int32) (way : Int32) (z : Nat) : Int32 := fulM K F G way z 0 1001
def samM (A B : TB) (k : Nat) : Nat → Int32
  | 0 => 1
  | d + 1 => if tv A k * tg B = tv B k * tg A then samM A B (k + 1) d else 0
def samR (A B : TB) : Int32 := samM A B 0 6
def waiM (K F G : Nat → Int32) (way : Int32) (z : Nat) (best : Int32) (least : Int64) (i : Nat) : Nat → Int32
  | 0 => best
  | d + 1 => if btw (rotM K F G way z i) then (if best < 0 then waiM K F G way z (nI i) (absL (tb (rotM K F G way z i))) (i + 1) d else if absL (tb (rotM K F G way z i)) < least then waiM K F G way z (nI i) (absL (tb (rotM K F G way z i))) (i + 1) d else waiM K F G way z best least (i + 1) d) else -1
def rayM (T : TB) (x y e wh : Int32) : Int64 := if e = 0 then lowF (farF T x.toInt64 y.toInt64) (tg T) wh else lowF (leanF T x.toInt64 y.toInt64) (tg T) wh
def imgM (T : TB) (e wh : Int32) : Int64 := if td T = 0 then -9223372036854775808 else if e = 0 then lowF (-tb T) (td T) wh else lowF (ta T * td T - tb T * tc T) (tg T * td T) wh
def bemM (T : TB) (e wh : Int32) : Int64 := if btw T then (if e = 0 then lowF (4 * tb T * tb T) (4 * tg T * tg T - sumF T * sumF T) wh else lowF (td T - ta T) (2 * tb T) wh) else -9223372036854775808
def axiM (T : TB) (e wh : Int32) : Int64 := if sumF T = 2 * tg T then -9223372036854775808 else if e = 0 then lowF (tb T * tf T - te T * (td T - tg T)) (tg T * (2 * tg T - sumF T)) wh else lowF (tc T * te T - tf T * (ta T - tg T)) (tg T * (2 * tg T - sumF T)) wh
def spnM (K F G : Nat → Int32) (z p a left : Nat) : Nat → Int32
  | 0 => -1
  | d + 1 => if hldM K (upd F p (nI a)) G z then (if left = 0 then nI a else spnM K F G z p (a + 1) (left - 1) d) else spnM K F G z p (a + 1) left d
def fitM (K F G D : Nat → Int32) (z p a : Nat) : Nat → Int32
  | 0 => -1
  | d + 1 => if hldM K (upd F p (D a)) G z then nI a else fitM K F G D z p (a + 1) d
def sumN (n : Nat → Nat) : Nat → Nat
  | 0 => 0
  | b + 1 => sumN n b + n b
def cntM (K F G : Nat → Nat → Int32) (n : Nat → Nat) : Nat → Nat
  | 0 => 0
  | b + 1 => cntM K F G n b + if hldM (K b) (F b) (G b) (n b) then 1 else 0
theorem in01 {x : Int32} (h : x = 0 ∨ x = 1) : ¬ x < 0 ∧ ¬ 1 < x := by rcases h with rfl | rfl <;> decide
theorem in01' {x : Int32} (h : ¬ x < 0 ∧ ¬ 1 < x) : x = 0 ∨ x = 1 := by
  rcases z_swx x 2 (by decide) with ⟨j, hj, rfl⟩ | q
  · rcases (show j = 0 ∨ j = 1 by omega) with rfl | rfl
    · exact Or.inl rfl
    · exact Or.inr rfl
  · exfalso
    obtain ⟨h1, h2⟩ := h
    rw [Int32.lt_iff_toInt_lt] at h1 h2
    have e2 : (1 : Int32).toInt = 1 := by decide
    rw [Int32.toInt_zero] at h1
    rw [e2] at h2
    omega
theorem mul1 (x : Int64) : 1 * x = x := Int64.one_mul x
theorem mulM1 (x : Int64) : (-1) * x = -x := by rw [show (-1 : Int64) = -(1 : Int64) from rfl, Int64.neg_mul, Int64.one_mul]
