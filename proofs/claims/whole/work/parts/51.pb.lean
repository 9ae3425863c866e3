/-! Sizes of a table's numbers, its determinant, fractions in their least terms. -/
abbrev bdI (m : Int) (x : Int64) : Prop := -m ≤ x.toInt ∧ x.toInt ≤ m
/-- every number of a table is at most m in size -/
def bdT (m : Int) (T : TB) : Prop := bdI m (ta T) ∧ bdI m (tb T) ∧ bdI m (tc T) ∧ bdI m (td T) ∧ bdI m (te T) ∧ bdI m (tf T) ∧ bdI m (tg T)
/-- the determinant, as whole numbers -/
def dtT (T : TB) : Prop := (ta T).toInt * (td T).toInt - (tb T).toInt * (tc T).toInt = (tg T).toInt * (tg T).toInt
theorem bd_mul {x y : Int64} {a m : Int} (hx : bdI a x) (hy : bdI m y) (ha : 0 ≤ a) (hm : a * m < 2 ^ 62) : (x * y).toInt = x.toInt * y.toInt ∧ -(a * m) ≤ (x * y).toInt ∧ (x * y).toInt ≤ a * m := by
  have h := m_bd hx hy ha
  have e : (x * y).toInt = x.toInt * y.toInt := l_mul (by omega) (by omega)
  rw [e]
  exact ⟨rfl, h⟩
theorem str_bd {x : Int64} {T : TB} {m : Int} (hx : bdI 20 x) (hT : bdT m T) (hd : dtT T) (hm : 0 ≤ m) (hm2 : 21 * m < 2 ^ 62) : bdT (21 * m) (strF x T) ∧ dtT (strF x T) := by
  obtain ⟨h1, h2, h3, h4, h5, h6, h7⟩ := hT
  have a1 := bd_mul hx h3 (by decide) (by omega)
  have a2 := bd_mul hx h4 (by decide) (by omega)
  have a3 := bd_mul hx h6 (by decide) (by omega)
  have b1 : (ta T + x * tc T).toInt = (ta T).toInt + x.toInt * (tc T).toInt := by rw [l_add (by omega) (by omega), a1.1]
  have b2 : (tb T + x * td T).toInt = (tb T).toInt + x.toInt * (td T).toInt := by rw [l_add (by omega) (by omega), a2.1]
  have b3 : (te T + x * tf T).toInt = (te T).toInt + x.toInt * (tf T).toInt := by rw [l_add (by omega) (by omega), a3.1]
  refine ⟨⟨⟨?_, ?_⟩, ⟨?_, ?_⟩, ⟨?_, ?_⟩, ⟨?_, ?_⟩, ⟨?_, ?_⟩, ⟨?_, ?_⟩, ⟨?_, ?_⟩⟩, ?_⟩
  · show -(21 * m) ≤ (ta T + x * tc T).toInt; omega
  · show (ta T + x * tc T).toInt ≤ 21 * m; omega
  · show -(21 * m) ≤ (tb T + x * td T).toInt; omega
  · show (tb T + x * td T).toInt ≤ 21 * m; omega
  · show -(21 * m) ≤ (tc T).toInt; omega
  · show (tc T).toInt ≤ 21 * m; omega
  · show -(21 * m) ≤ (td T).toInt; omega
  · show (td T).toInt ≤ 21 * m; omega
  · show -(21 * m) ≤ (te T + x * tf T).toInt; omega
  · show (te T + x * tf T).toInt ≤ 21 * m; omega
  · show -(21 * m) ≤ (tf T).toInt; omega
  · show (tf T).toInt ≤ 21 * m; omega
  · show -(21 * m) ≤ (tg T).toInt; omega
  · show (tg T).toInt ≤ 21 * m; omega
  · show (ta T + x * tc T).toInt * (td T).toInt - (tb T + x * td T).toInt * (tc T).toInt = (tg T).toInt * (tg T).toInt
    have hd' : (ta T).toInt * (td T).toInt - (tb T).toInt * (tc T).toInt = (tg T).toInt * (tg T).toInt := hd
    rw [b1, b2]
    generalize (ta T).toInt = a at *
    generalize (tb T).toInt = b at *
    generalize (tc T).toInt = c at *
    generalize (td T).toInt = d at *
    generalize (tg T).toInt = g at *
    generalize x.toInt = y at *
    grind
theorem til_bd {x : Int64} {T : TB} {m : Int} (hx : bdI 3 x) (hT : bdT m T) (hd : dtT T) (hm : 0 ≤ m) (hm2 : 21 * m < 2 ^ 62) : bdT (21 * m) (tilF x T) ∧ dtT (tilF x T) := by
  obtain ⟨h1, h2, h3, h4, h5, h6, h7⟩ := hT
  have a1 := bd_mul hx h7 (by decide) (by omega)
  have b1 : (tf T + x * tg T).toInt = (tf T).toInt + x.toInt * (tg T).toInt := by rw [l_add (by omega) (by omega), a1.1]
  refine ⟨⟨⟨?_, ?_⟩, ⟨?_, ?_⟩, ⟨?_, ?_⟩, ⟨?_, ?_⟩, ⟨?_, ?_⟩, ⟨?_, ?_⟩, ⟨?_, ?_⟩⟩, hd⟩
  · show -(21 * m) ≤ (ta T).toInt; omega
  · show (ta T).toInt ≤ 21 * m; omega
  · show -(21 * m) ≤ (tb T).toInt; omega
  · show (tb T).toInt ≤ 21 * m; omega
  · show -(21 * m) ≤ (tc T).toInt; omega
  · show (tc T).toInt ≤ 21 * m; omega
  · show -(21 * m) ≤ (td T).toInt; omega
  · show (td T).toInt ≤ 21 * m; omega
  · show -(21 * m) ≤ (te T).toInt; omega
  · show (te T).toInt ≤ 21 * m; omega
  · show -(21 * m) ≤ (tf T + x * tg T).toInt; omega
  · show (tf T + x * tg T).toInt ≤ 21 * m; omega
  · show -(21 * m) ≤ (tg T).toInt; omega
  · show (tg T).toInt ≤ 21 * m; omega
/-- a lens: s is 1 or -1, z the strength's size -/
theorem beg_bd {s z : Int64} {T : TB} {m : Int} (hs : s.toInt = 1 ∨ s.toInt = -1) (hz : bdI 9 z) (hT : bdT m T) (hd : dtT T) (hm : 0 ≤ m) (hm2 : 21 * m < 2 ^ 62) : bdT (21 * m) (benG s z T) ∧ dtT (benG s z T) := by
  obtain ⟨h1, h2, h3, h4, h5, h6, h7⟩ := hT
  have hs1 : bdI 1 s := by rcases hs with q | q <;> exact ⟨by omega, by omega⟩
  have c1 := bd_mul (x := ta T) (y := z) h1 hz hm (by omega)
  have c2 := bd_mul (x := tb T) (y := z) h2 hz hm (by omega)
  have c5 := bd_mul (x := te T) (y := z) h5 hz hm (by omega)
  have c7 := bd_mul (x := tg T) (y := z) h7 hz hm (by omega)
  have d3 := bd_mul (x := z) (y := tc T) hz h3 (by decide) (by omega)
  have d4 := bd_mul (x := z) (y := td T) hz h4 (by decide) (by omega)
  have d6 := bd_mul (x := z) (y := tf T) hz h6 (by decide) (by omega)
  have e1 := bd_mul (x := s) (y := ta T) hs1 h1 (by decide) (by omega)
  have e2 := bd_mul (x := s) (y := tb T) hs1 h2 (by decide) (by omega)
  have e5 := bd_mul (x := s) (y := te T) hs1 h5 (by decide) (by omega)
  have b3 : (z * tc T - s * ta T).toInt = z.toInt * (tc T).toInt - s.toInt * (ta T).toInt := by rw [l_sub (by omega) (by omega), d3.1, e1.1]
  have b4 : (z * td T - s * tb T).toInt = z.toInt * (td T).toInt - s.toInt * (tb T).toInt := by rw [l_sub (by omega) (by omega), d4.1, e2.1]
  have b6 : (z * tf T - s * te T).toInt = z.toInt * (tf T).toInt - s.toInt * (te T).toInt := by rw [l_sub (by omega) (by omega), d6.1, e5.1]
  refine ⟨⟨⟨?_, ?_⟩, ⟨?_, ?_⟩, ⟨?_, ?_⟩, ⟨?_, ?_⟩, ⟨?_, ?_⟩, ⟨?_, ?_⟩, ⟨?_, ?_⟩⟩, ?_⟩
  · show -(21 * m) ≤ (ta T * z).toInt; omega
  · show (ta T * z).toInt ≤ 21 * m; omega
  · show -(21 * m) ≤ (tb T * z).toInt; omega
  · show (tb T * z).toInt ≤ 21 * m; omega
  · show -(21 * m) ≤ (z * tc T - s * ta T).toInt; omega
  · show (z * tc T - s * ta T).toInt ≤ 21 * m; omega
  · show -(21 * m) ≤ (z * td T - s * tb T).toInt; omega
  · show (z * td T - s * tb T).toInt ≤ 21 * m; omega
  · show -(21 * m) ≤ (te T * z).toInt; omega
  · show (te T * z).toInt ≤ 21 * m; omega
  · show -(21 * m) ≤ (z * tf T - s * te T).toInt; omega
  · show (z * tf T - s * te T).toInt ≤ 21 * m; omega
  · show -(21 * m) ≤ (tg T * z).toInt; omega
  · show (tg T * z).toInt ≤ 21 * m; omega
  · show (ta T * z).toInt * (z * td T - s * tb T).toInt - (tb T * z).toInt * (z * tc T - s * ta T).toInt = (tg T * z).toInt * (tg T * z).toInt
    have hd' : (ta T).toInt * (td T).toInt - (tb T).toInt * (tc T).toInt = (tg T).toInt * (tg T).toInt := hd
    rw [b3, b4, c1.1, c2.1, c7.1]
    generalize (ta T).toInt = a at *
    generalize (tb T).toInt = b at *
    generalize (tc T).toInt = c at *
    generalize (td T).toInt = d at *
    generalize (tg T).toInt = g at *
    generalize z.toInt = y at *
    generalize s.toInt = w at *
    grind
theorem ben_bd {x : Int64} {T : TB} {m : Int} (hx : bdI 9 x) (hT : bdT m T) (hd : dtT T) (hm : 0 ≤ m) (hm2 : 21 * m < 2 ^ 62) : bdT (21 * m) (benF x T) ∧ dtT (benF x T) := by
  rw [benF]
  split
  · refine beg_bd (Or.inr (by decide)) ?_ hT hd hm hm2
    rw [mulM1]
    have e : (-x).toInt = -x.toInt := l_neg (by omega)
    exact ⟨by omega, by omega⟩
  · refine beg_bd (Or.inl (by decide)) ?_ hT hd hm hm2
    rw [mul1]
    exact hx
theorem go_bd {k a b way : Int32} {T : TB} {m : Int} (hp : gdP k a b) (hw : way = 0 ∨ way = 1) (hT : bdT m T) (hd : dtT T) (hm : 0 ≤ m) (hm2 : 21 * m < 2 ^ 62) : bdT (21 * m) (goF k (if k = 2 ∧ way = 1 then b else a) T) ∧ dtT (goF k (if k = 2 ∧ way = 1 then b else a) T) := by
  have i_lt : ∀ {x y : Int32}, ¬ x < y → y.toInt ≤ x.toInt := fun h => by rw [Int32.lt_iff_toInt_lt] at h; omega
  rcases hp with ⟨rfl, h⟩ | ⟨rfl, h⟩ | ⟨rfl, h⟩ | ⟨rfl, h⟩ | ⟨rfl, h⟩
  · rw [if_neg (fun q => absurd q.1 (by decide))]
    have h1 := i_lt h.1.1
    have h2 := i_lt h.1.2
    have e1 : (20 : Int32).toInt = 20 := by decide
    have e0 : (0 : Int32).toInt = 0 := by decide
    exact str_bd ⟨by rw [i_w]; omega, by rw [i_w]; omega⟩ hT hd hm hm2
  · rw [if_neg (fun q => absurd q.1 (by decide))]
    have hB := bnt_int h.1
    exact ben_bd ⟨by rw [i_w]; omega, by rw [i_w]; omega⟩ hT hd hm hm2
  · rcases hw with rfl | rfl
    · rw [if_neg (fun q => absurd q.2 (by decide))]
      have hB := bnt_int h.1
      exact ben_bd ⟨by rw [i_w]; omega, by rw [i_w]; omega⟩ hT hd hm hm2
    · rw [if_pos ⟨rfl, rfl⟩]
      have hB := bnt_int h.2
      exact ben_bd ⟨by rw [i_w]; omega, by rw [i_w]; omega⟩ hT hd hm hm2
  · rw [if_neg (fun q => absurd q.1 (by decide))]
    have h1 := i_lt h.1.1
    have h2 := i_lt h.1.2
    have e1 : (3 : Int32).toInt = 3 := by decide
    have e0 : (-3 : Int32).toInt = -3 := by decide
    exact til_bd ⟨by rw [i_w]; omega, by rw [i_w]; omega⟩ hT hd hm hm2
  · rw [if_neg (fun q => absurd q.1 (by decide))]
    have e : goF 4 a T = T := rfl
    rw [e]
    obtain ⟨h1, h2, h3, h4, h5, h6, h7⟩ := hT
    exact ⟨⟨⟨by omega, by omega⟩, ⟨by omega, by omega⟩, ⟨by omega, by omega⟩, ⟨by omega, by omega⟩, ⟨by omega, by omega⟩, ⟨by omega, by omega⟩, ⟨by omega, by omega⟩⟩, hd⟩
theorem sq_bd {K F G : Nat → Int32} {way : Int32} {z : Nat} (hz : 0 < z) (hk : okR K F G z) (hw : way = 0 ∨ way = 1) : ∀ (d i : Nat) (T : TB) (m : Int), bdT m T → dtT T → 0 < m → m * 21 ^ d ≤ 21 ^ 8 → bdT (m * 21 ^ d) (sq K F G way z i T d) ∧ dtT (sq K F G way z i T d)
  | 0, _, T, m, h1, h2, _, _ => by rw [Int.pow_zero, Int.mul_one]; exact ⟨h1, h2⟩
  | d + 1, i, T, m, h1, h2, h3, h4 => by
    have hp : m * (21 : Int) ^ (d + 1) = (21 * m) * 21 ^ d := by rw [Int.pow_succ, Int.mul_comm (21 ^ d) 21, ← Int.mul_assoc, Int.mul_comm m 21]
    have hq : (1 : Int) ≤ 21 ^ d := by have : (0 : Int) < 21 ^ d := Int.pow_pos (by decide); omega
    have h5 : 21 * m * 1 ≤ 21 * m * 21 ^ d := Int.mul_le_mul_of_nonneg_left hq (by omega)
    have g := go_bd (way := way) (T := T) (m := m) (hk (i % z) (Nat.mod_lt i hz)) hw h1 h2 (by omega) (by omega)
    rw [hp] at h4 ⊢
    exact sq_bd hz hk hw d (i + 1) _ (21 * m) g.1 g.2 (by omega) h4
theorem T1_bd : bdT 1 T1 ∧ dtT T1 := by
  refine ⟨?_, by unfold dtT; decide⟩
  unfold bdT bdI
  decide
/-- what is known of a table that a row makes -/
def okT (T : TB) : Prop := bdT (21 ^ 8) T ∧ dtT T ∧ 0 < (tg T).toInt ∧ (tg T).toInt ≤ 9 ^ 8
theorem bdT_mono {m m2 : Int} {T : TB} (h : bdT m T) (hm : m ≤ m2) : bdT m2 T := by
  obtain ⟨h1, h2, h3, h4, h5, h6, h7⟩ := h
  exact ⟨⟨by omega, by omega⟩, ⟨by omega, by omega⟩, ⟨by omega, by omega⟩, ⟨by omega, by omega⟩, ⟨by omega, by omega⟩, ⟨by omega, by omega⟩, ⟨by omega, by omega⟩⟩
theorem pow21 {d : Nat} (h : d ≤ 8) : (1 : Int) * 21 ^ d ≤ 21 ^ 8 := by
  rw [Int.one_mul]
  rcases (show d = 0 ∨ d = 1 ∨ d = 2 ∨ d = 3 ∨ d = 4 ∨ d = 5 ∨ d = 6 ∨ d = 7 ∨ d = 8 by omega) with rfl | rfl | rfl | rfl | rfl | rfl | rfl | rfl | rfl <;> decide
theorem wrk_ok {K F G : Nat → Int32} {way : Int32} {z i d : Nat} (hk : okR K F G z) (hz : z ≤ 8) (hw : way = 0 ∨ way = 1) (hd : d ≤ z) : okT (wrkF K F G way z i T1 d) := by
  rcases Nat.eq_zero_or_pos z with e | e
  · obtain rfl : d = 0 := by omega
    show okT T1
    exact ⟨bdT_mono T1_bd.1 (by decide), T1_bd.2, by decide, by decide⟩
  · have h1 := wrk_sq e hk hw d i T1 (by decide) (pow9 (by omega))
    have h2 := sq_bd e hk hw d i T1 1 T1_bd.1 T1_bd.2 (by decide) (pow21 (by omega))
    rw [h1.1]
    exact ⟨bdT_mono h2.1 (pow21 (by omega)), h2.2, h1.2.1, Int.le_trans h1.2.2 (pow9 (by omega))⟩
