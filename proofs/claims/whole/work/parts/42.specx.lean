/-! What the class's calls answer. -/
def tabX (K F G : Nat → Int32) (way : Int32) (z : Nat) : TB := ledF K F G way z 0 T1 z
def rotX (K F G : Nat → Int32) (way : Int32) (z i : Nat) : TB := ledF K F G way z i T1 z
abbrev hldX (K F G : Nat → Int32) (z : Nat) : Prop := manF (tabX K F G 0 z) = 0 ∧ manF (tabX K F G 1 z) = 0
def stoX (K F G : Nat → Int32) (way : Int32) (x y : Int64) (i : Nat) (T : TB) : Nat → Int32
  | 0 => -1
  | d + 1 => if K i = 4 ∧ ¬ absL (farF (goF (K i) (stg K F G way i) T) x y) ≤ (F i).toInt64 * tg (goF (K i) (stg K F G way i) T) then nI i else stoX K F G way x y (i + 1) (goF (K i) (stg K F G way i) T) d
def fulX (K F G : Nat → Int32) (way : Int32) (most : Int64) (i : Nat) (T : TB) : Nat → Int64
  | 0 => most
  | d + 1 => fulX K F G way (if K i = 4 then minL most (stpF (goF (K i) (stg K F G way i) T) (F i).toInt64) else most) (i + 1) (goF (K i) (stg K F G way i) T) d
def samX (A B : TB) (k : Nat) : Nat → Int32
  | 0 => 1
  | d + 1 => if abvF A (nI k) * tg B = abvF B (nI k) * tg A then samX A B (k + 1) d else 0
def samXR (A B : TB) : Int32 := samX A B 0 6
def waiX (K F G : Nat → Int32) (way : Int32) (z : Nat) (best : Int32) (least : Int64) (i : Nat) : Nat → Int32
  | 0 => best
  | d + 1 => if least ≤ absL (tb (rotX K F G way z i)) then waiX K F G way z best least (i + 1) d else waiX K F G way z (nI i) (absL (tb (rotX K F G way z i))) (i + 1) d
def waiXR (K F G : Nat → Int32) (way : Int32) (z d : Nat) : Int32 := if btw (tabX K F G way z) then waiX K F G way z 0 (absL (tb (tabX K F G way z))) 1 d else -1
def rayX (T : TB) (x y e wh : Int32) : Int64 := if e = 0 then tolF (farF T x.toInt64 y.toInt64) (tg T) wh else tolF (leanF T x.toInt64 y.toInt64) (tg T) wh
def imgX (T : TB) (e wh : Int32) : Int64 := if e = 0 then tolF (-tb T) (td T) wh else tolF (tg T) (td T) wh
def bemX (T : TB) (e wh : Int32) : Int64 := if btw T then (if e = 0 then tolF (4 * tb T * tb T) (4 * tg T * tg T - sumF T * sumF T) wh else tolF (td T - ta T) (2 * tb T) wh) else -9223372036854775808
def axiX (T : TB) (e wh : Int32) : Int64 := if e = 0 then tolF ((tg T - td T) * te T + tb T * tf T) (tg T * (2 * tg T - sumF T)) wh else tolF (tc T * te T + (tg T - ta T) * tf T) (tg T * (2 * tg T - sumF T)) wh
def spnX (K F G : Nat → Int32) (z p a left : Nat) : Nat → Int32
  | 0 => -1
  | d + 1 => if hldX K (upd F p (nI a)) G z then (if left = 0 then nI a else spnX K F G z p (a + 1) (left - 1) d) else spnX K F G z p (a + 1) left d
def spnXR (K F G : Nat → Int32) (z p left : Nat) : Int32 := spnX K F G z p 0 left 21
def fitX (K F G D : Nat → Int32) (z p a : Nat) : Nat → Int32
  | 0 => -1
  | d + 1 => if hldX K (upd F p (D a)) G z then nI a else fitX K F G D z p (a + 1) d
