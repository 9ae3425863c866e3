/-! The class's fractions are the reference's. -/
theorem l_divneg {x g : Int64} (hg : g.toInt ≠ -2 ^ 63) : x / (-g) = -(x / g) := by
  apply Int64.toInt_inj.mp
  rw [Int64.toInt_div, l_neg hg, Int64.toInt_neg, Int64.toInt_div, Int.tdiv_neg]
  have : ∀ q : Int, (-(q.bmod (2 ^ 64))).bmod (2 ^ 64) = (-q).bmod (2 ^ 64) := fun q => by
    have h := Int.sub_bmod_bmod (x := 0) (y := q) (n := 2 ^ 64)
    rw [Int.zero_sub, Int.zero_sub] at h
    exact h
  rw [this]
theorem gcdL_small {a u : Int64} (hu : u ≠ 0) (h : u.toInt.natAbs < 2 ^ 62) : (gcdL a u).toInt ≠ -2 ^ 63 := by
  intro q
  have h1 := gcdL_natAbs a u
  rw [q] at h1
  have h2 : 0 < u.toInt.natAbs := by have := l_toInt_ne hu; omega
  have h3 := Nat.le_of_dvd h2 (Nat.gcd_dvd_right a.toInt.natAbs u.toInt.natAbs)
  rw [← h1] at h3
  have : ((-2 ^ 63 : Int)).natAbs = 2 ^ 63 := by decide
  omega
theorem gcdL_0 {u : Int64} (hu : u ≠ 0) : gcdL 0 u = absL u := by
  have ha : absL 0 = 0 := by decide
  have hb : ¬ absL u = 0 := by
    intro q
    have h1 := absL_natAbs u
    rw [q] at h1
    exact l_toInt_ne hu (Int.natAbs_eq_zero.mp (by rw [← h1]; rfl))
  unfold gcdL
  rw [ha]
  rw [show (100 : Nat) = 99 + 1 from rfl, euN, if_neg hb]
  have e : (0 : Int64) - 0 / absL u * absL u = 0 := by
    apply Int64.toInt_inj.mp
    rw [l_rem]
    have e0 : (0 : Int64).toInt = 0 := by decide
    rw [e0, Int.zero_tmod]
  rw [e, show (99 : Nat) = 98 + 1 from rfl, euN, if_pos rfl]
theorem l_self {u : Int64} (hu : u ≠ 0) (h : u.toInt.natAbs < 2 ^ 62) : u / u = 1 := by
  apply Int64.toInt_inj.mp
  rw [Int64.toInt_div, Int.tdiv_self (l_toInt_ne hu)]
  rfl
theorem tol_low {a u : Int64} {wh : Int32} (hu : u ≠ 0) (h : u.toInt.natAbs < 2 ^ 62) : tolF a u wh = lowF a u wh := by
  have hg : ¬ (u = 0 ∨ gcdL a u = 0) := not_or.mpr ⟨hu, gcdL_ne (Or.inr hu)⟩
  rw [tolF, if_neg hg, lowF]
  by_cases ha : a = 0
  · subst ha
    rw [if_pos rfl]
    by_cases hw : wh = 0
    · rw [if_pos hw, if_pos hw]
      have e : ∀ y : Int64, (0 : Int64) / y = 0 := fun y => by
        apply Int64.toInt_inj.mp
        rw [Int64.toInt_div]
        have e0 : (0 : Int64).toInt = 0 := by decide
        rw [e0, Int.zero_tdiv]
        rfl
      rw [e]
      split <;> rfl
    · rw [if_neg hw, if_neg hw, gcdL_0 hu]
      by_cases hn : u < 0
      · have hn' := (l_lt0 u).mp hn
        rw [if_pos hn, absL_lt (fun q => by have := Int64.le_iff_toInt_le.mp q; have e0 : (0 : Int64).toInt = 0 := by decide
                                            omega), l_divneg (by omega), l_self hu h]
        decide
      · have hn' : ¬ u.toInt < 0 := fun q => hn ((l_lt0 u).mpr q)
        rw [if_neg hn, absL_ge (Int64.le_iff_toInt_le.mpr (by have e0 : (0 : Int64).toInt = 0 := by decide
                                                              omega)), l_self hu h]
  · rw [if_neg ha]
    by_cases hn : u < 0
    · have hn2 : ¬ 0 ≤ u := (z_i64_asym hn).2.2.2.2
      rw [if_pos hn, if_neg hn2, l_divneg (gcdL_small hu h)]
    · have hn2 : 0 ≤ u := Int64.not_lt.mp hn
      rw [if_neg hn, if_pos hn2]
theorem tol_0 {a : Int64} {wh : Int32} : tolF a 0 wh = -9223372036854775808 := by rw [tolF, if_pos (Or.inl rfl)]
theorem tg_ne {T : TB} (h : okT T) : tg T ≠ 0 ∧ (tg T).toInt.natAbs < 2 ^ 62 := by
  obtain ⟨-, -, h3, h4⟩ := h
  refine ⟨fun q => ?_, by omega⟩
  rw [q] at h3
  exact absurd h3 (by decide)
theorem abv_tv (T : TB) {q : Nat} (h : q < 6) : abvF T (nI q) = tv T q := by
  rcases (show q = 0 ∨ q = 1 ∨ q = 2 ∨ q = 3 ∨ q = 4 ∨ q = 5 by omega) with rfl | rfl | rfl | rfl | rfl | rfl <;> rfl
theorem ray_eq {T : TB} {x y e wh : Int32} (h : okT T) : rayX T x y e wh = rayM T x y e wh := by
  rw [rayX, rayM, tol_low (tg_ne h).1 (tg_ne h).2, tol_low (tg_ne h).1 (tg_ne h).2]
theorem sam_eq (A B : TB) : ∀ (d k : Nat), k + d = 6 → samX A B k d = samM A B k d
  | 0, _, _ => rfl
  | d + 1, k, h => by
    rw [samX, samM, abv_tv A (by omega), abv_tv B (by omega), sam_eq A B d (k + 1) (by omega)]
theorem samR_eq (A B : TB) : samXR A B = samR A B := sam_eq A B 6 0 rfl
/-- a common divisor of numbers that aren't the least one is above 0 -/
theorem euN_nonneg : ∀ (k : Nat) (x y : Int64), 0 ≤ x.toInt → 0 ≤ y.toInt → 0 ≤ (euN k x y).toInt
  | 0, _, _, h, _ => h
  | k + 1, x, y, h, h2 => by
    rw [euN]
    split
    · exact h
    · refine euN_nonneg k y _ h2 ?_
      rw [l_rem]
      exact Int.tmod_nonneg _ h
theorem absL_nonneg {x : Int64} (h : x.toInt ≠ -2 ^ 63) : 0 ≤ (absL x).toInt := by
  unfold absL
  split
  · rename_i q
    have := Int64.lt_iff_toInt_lt.mp q
    have e0 : (0 : Int64).toInt = 0 := by decide
    omega
  · rename_i q
    rw [l_neg h]
    have : ¬ (0 : Int64).toInt < x.toInt := fun z => q (Int64.lt_iff_toInt_lt.mpr z)
    have e0 : (0 : Int64).toInt = 0 := by decide
    omega
theorem gcdL_toInt {a b : Int64} (ha : a.toInt ≠ -2 ^ 63) (hb : b.toInt ≠ -2 ^ 63) : (gcdL a b).toInt = (Nat.gcd a.toInt.natAbs b.toInt.natAbs : Int) := by
  have h1 := gcdL_natAbs a b
  have h2 : 0 ≤ (gcdL a b).toInt := euN_nonneg _ _ _ (absL_nonneg ha) (absL_nonneg hb)
  omega
/-- a fraction with a common factor -/
theorem low_scale {t u : Int64} {wh : Int32} (h0 : 0 < t.toInt) (h1 : t.toInt ≤ 9 ^ 8) (hu : u ≠ 0) (hu2 : bdI (21 ^ 8) u) : lowF (t * t) (t * u) wh = lowF t u wh := by
  have b1 := bd_mul (x := t) (y := t) (a := 9 ^ 8) (m := 9 ^ 8) ⟨by omega, by omega⟩ ⟨by omega, by omega⟩ (by decide) (by decide)
  have b2 := bd_mul (x := t) (y := u) (a := 9 ^ 8) (m := 21 ^ 8) ⟨by omega, by omega⟩ hu2 (by decide) (by decide)
  have p1 : (9 : Int) ^ 8 * 9 ^ 8 < 2 ^ 62 := by decide
  have p2 : (9 : Int) ^ 8 * 21 ^ 8 < 2 ^ 62 := by decide
  have hu0 := l_toInt_ne hu
  have hsq : 0 < t.toInt * t.toInt := Int.mul_pos h0 h0
  have hpu : t.toInt * u.toInt ≠ 0 := Int.mul_ne_zero (by omega) hu0
  have n1 : t * t ≠ 0 := fun q => by
    have := congrArg Int64.toInt q
    rw [b1.1] at this
    have e0 : (0 : Int64).toInt = 0 := by decide
    omega
  have n2 : t * u ≠ 0 := fun q => by
    have := congrArg Int64.toInt q
    rw [b2.1] at this
    have e0 : (0 : Int64).toInt = 0 := by decide
    omega
  have nt : t ≠ 0 := fun q => by rw [q] at h0; exact absurd h0 (by decide)
  have p3 : (21 : Int) ^ 8 < 2 ^ 62 := by decide
  have hu3 := hu2.1
  have g1 := gcdL_toInt (a := t) (b := u) (by omega) (by omega)
  have g2 := gcdL_toInt (a := t * t) (b := t * u) (by omega) (by omega)
  rw [b1.1, b2.1, Int.natAbs_mul, Int.natAbs_mul, Nat.gcd_mul_left] at g2
  have g3 : (gcdL (t * t) (t * u)).toInt = t.toInt * (gcdL t u).toInt := by
    rw [g2, g1, Int.natCast_mul]
    congr 1
    omega
  have g1pos : 0 < (gcdL t u).toInt := by
    have := l_toInt_ne (gcdL_ne (a := t) (b := u) (Or.inl nt))
    omega
  have g1le : (gcdL t u).toInt ≤ 9 ^ 8 := by
    rw [g1]
    have h5 := Nat.le_of_dvd (show 0 < t.toInt.natAbs by omega) (Nat.gcd_dvd_left t.toInt.natAbs u.toInt.natAbs)
    omega
  have g3le : t.toInt * (gcdL t u).toInt ≤ 9 ^ 8 * 9 ^ 8 := (m_bd (x := t.toInt) (y := (gcdL t u).toInt) (a := 9 ^ 8) (b := 9 ^ 8) ⟨by omega, by omega⟩ ⟨by omega, by omega⟩ (by decide)).2
  have g3pos : 0 < t.toInt * (gcdL t u).toInt := Int.mul_pos h0 g1pos
  have key : ∀ x : Int64, bdI (9 ^ 8 * 21 ^ 8) (t * x) → (t * x).toInt = t.toInt * x.toInt → (t * x) / gcdL (t * t) (t * u) = x / gcdL t u ∧ (t * x) / (-gcdL (t * t) (t * u)) = x / (-gcdL t u) := by
    intro x hx he
    have e1 : (t * x) / gcdL (t * t) (t * u) = x / gcdL t u := by
      apply Int64.toInt_inj.mp
      rw [Int64.toInt_div, Int64.toInt_div, he, g3, Int.mul_tdiv_mul_of_pos _ _ h0]
    refine ⟨e1, ?_⟩
    rw [l_divneg (by rw [g3]; omega), l_divneg (by omega), e1]
  have k1 := key t ⟨by omega, by omega⟩ b1.1
  have k2 := key u ⟨by omega, by omega⟩ b2.1
  have hs : (0 ≤ t * u) ↔ 0 ≤ u := by
    rw [Int64.le_iff_toInt_le, Int64.le_iff_toInt_le, b2.1]
    have e0 : (0 : Int64).toInt = 0 := by decide
    rw [e0]
    constructor
    · intro q
      rcases Int.lt_or_le u.toInt 0 with z | z
      · have := Int.mul_neg_of_pos_of_neg h0 z; omega
      · exact z
    · intro q
      exact Int.mul_nonneg (by omega) q
  rw [lowF, lowF, if_neg n1, if_neg nt]
  by_cases hw : wh = 0
  · rw [if_pos hw, if_pos hw]
    by_cases h : 0 ≤ u
    · rw [if_pos h, if_pos (hs.mpr h)]; exact k1.1
    · rw [if_neg h, if_neg (fun q => h (hs.mp q))]; exact k1.2
  · rw [if_neg hw, if_neg hw]
    by_cases h : 0 ≤ u
    · rw [if_pos h, if_pos (hs.mpr h)]; exact k2.1
    · rw [if_neg h, if_neg (fun q => h (hs.mp q))]; exact k2.2
theorem det_L {T : TB} (h : dtT T) : ta T * td T - tb T * tc T = tg T * tg T := by
  apply Int64.toInt_inj.mp
  rw [Int64.toInt_sub, Int64.toInt_mul, Int64.toInt_mul, Int64.toInt_mul, Int.sub_bmod_bmod, Int.bmod_sub_bmod, h]
theorem img_eq {T : TB} {e wh : Int32} (h : okT T) : imgX T e wh = imgM T e wh := by
  obtain ⟨⟨h1, h2, h3, h4, h5, h6, h7⟩, hd, hg, hg2⟩ := h
  have p3 : (21 : Int) ^ 8 < 2 ^ 62 := by decide
  rw [imgX, imgM]
  by_cases hz : td T = 0
  · rw [if_pos hz, hz, tol_0, tol_0]
    split <;> rfl
  · rw [if_neg hz, tol_low hz (by omega), tol_low hz (by omega), det_L hd, low_scale hg hg2 hz h4]
theorem axi_eq {T : TB} {e wh : Int32} (h : okT T) : axiX T e wh = axiM T e wh := by
  obtain ⟨⟨h1, h2, h3, h4, h5, h6, h7⟩, hd, hg, hg2⟩ := h
  have p1 : (9 : Int) ^ 8 * (2 * 9 ^ 8 + 2 * 21 ^ 8) < 2 ^ 62 := by decide
  have p3 : (21 : Int) ^ 8 < 2 ^ 60 := by decide
  have p4 : (9 : Int) ^ 8 < 2 ^ 60 := by decide
  have es : (sumF T).toInt = (ta T).toInt + (td T).toInt := by rw [sumF]; exact l_add (by omega) (by omega)
  have e2 : (2 * tg T).toInt = 2 * (tg T).toInt := by
    have := bd_mul (x := 2) (y := tg T) (a := 2) (m := 9 ^ 8) (by decide) ⟨by omega, by omega⟩ (by decide) (by decide)
    exact this.1
  have e3 : (2 * tg T - sumF T).toInt = 2 * (tg T).toInt - ((ta T).toInt + (td T).toInt) := by rw [l_sub (by omega) (by omega), e2, es]
  have b := bd_mul (x := tg T) (y := 2 * tg T - sumF T) (a := 9 ^ 8) (m := 2 * 9 ^ 8 + 2 * 21 ^ 8) ⟨by omega, by omega⟩ ⟨by omega, by omega⟩ (by decide) p1
  have r1 : (tg T - td T) * te T + tb T * tf T = tb T * tf T - te T * (td T - tg T) := by grind
  have r2 : tc T * te T + (tg T - ta T) * tf T = tc T * te T - tf T * (ta T - tg T) := by grind
  rw [axiX, axiM, r1, r2]
  by_cases hz : sumF T = 2 * tg T
  · have hz0 : tg T * (2 * tg T - sumF T) = 0 := by rw [hz]; grind
    rw [if_pos hz, hz0, tol_0, tol_0]
    split <;> rfl
  · have hne : tg T * (2 * tg T - sumF T) ≠ 0 := by
      intro q
      have q2 := congrArg Int64.toInt q
      rw [b.1] at q2
      have e0 : (0 : Int64).toInt = 0 := by decide
      rw [e0] at q2
      rcases Int.mul_eq_zero.mp q2 with y | y
      · omega
      · refine hz (Int64.toInt_inj.mp ?_)
        rw [es, e2]
        omega
    rw [if_neg hz, tol_low hne (by omega), tol_low hne (by omega)]
theorem btw_int {T : TB} (h : okT T) : btw T ↔ (-2 * (tg T).toInt < (ta T).toInt + (td T).toInt ∧ (ta T).toInt + (td T).toInt < 2 * (tg T).toInt) := by
  obtain ⟨⟨h1, h2, h3, h4, h5, h6, h7⟩, hd, hg, hg2⟩ := h
  have p3 : (21 : Int) ^ 8 < 2 ^ 60 := by decide
  have p4 : (9 : Int) ^ 8 < 2 ^ 60 := by decide
  have es : (sumF T).toInt = (ta T).toInt + (td T).toInt := by rw [sumF]; exact l_add (by omega) (by omega)
  have e2 : (2 * tg T).toInt = 2 * (tg T).toInt := (bd_mul (x := 2) (y := tg T) (a := 2) (m := 9 ^ 8) (by decide) ⟨by omega, by omega⟩ (by decide) (by decide)).1
  have e3 : ((-2) * tg T).toInt = -2 * (tg T).toInt := (bd_mul (x := -2) (y := tg T) (a := 2) (m := 9 ^ 8) (by decide) ⟨by omega, by omega⟩ (by decide) (by decide)).1
  unfold btw
  rw [Int64.le_iff_toInt_le, Int64.le_iff_toInt_le, es, e2, e3]
  omega
theorem tb_ne {T : TB} (h : okT T) (hb : btw T) : tb T ≠ 0 := by
  intro q
  have hb := (btw_int h).mp hb
  obtain ⟨-, hd, hg, -⟩ := h
  have hd' : (ta T).toInt * (td T).toInt - (tb T).toInt * (tc T).toInt = (tg T).toInt * (tg T).toInt := hd
  have e0 : (0 : Int64).toInt = 0 := by decide
  rw [q, e0] at hd'
  generalize (ta T).toInt = a at *
  generalize (td T).toInt = d at *
  generalize (tg T).toInt = g at *
  have h1 : 0 < (2 * g - (a + d)) * (2 * g + (a + d)) := Int.mul_pos (by omega) (by omega)
  have h2 : 0 ≤ (a - d) * (a - d) := by
    rcases Int.le_total 0 (a - d) with z | z
    · exact Int.mul_nonneg z z
    · exact Int.mul_nonneg_of_nonpos_of_nonpos z z
  have h3 : (2 * g - (a + d)) * (2 * g + (a + d)) = -((a - d) * (a - d)) := by grind
  omega
theorem bem_eq {T : TB} {e wh : Int32} (h : okT T) : bemX T e wh = bemM T e wh := by
  rw [bemX, bemM]
  by_cases hb : btw T
  · rw [if_pos hb, if_pos hb]
    have hbi := (btw_int h).mp hb
    have hne := tb_ne h hb
    obtain ⟨⟨h1, h2, h3, h4, h5, h6, h7⟩, hd, hg, hg2⟩ := h
    have p3 : (21 : Int) ^ 8 < 2 ^ 60 := by decide
    have p4 : (9 : Int) ^ 8 < 2 ^ 28 := by decide
    have es : (sumF T).toInt = (ta T).toInt + (td T).toInt := by rw [sumF]; exact l_add (by omega) (by omega)
    have f1 := bd_mul (x := 2) (y := tb T) (a := 2) (m := 21 ^ 8) (by decide) h2 (by decide) (by decide)
    have n2 : 2 * tb T ≠ 0 := by
      intro q
      have := congrArg Int64.toInt q
      rw [f1.1] at this
      have e0 : (0 : Int64).toInt = 0 := by decide
      have e2 : (2 : Int64).toInt = 2 := by decide
      rw [e0, e2] at this
      exact l_toInt_ne hne (by omega)
    have f2 := bd_mul (x := 4) (y := tg T) (a := 4) (m := 2 ^ 28) (by decide) ⟨by omega, by omega⟩ (by decide) (by decide)
    have e4 : (4 : Int64).toInt = 4 := by decide
    rw [e4] at f2
    have f3 := bd_mul (x := 4 * tg T) (y := tg T) (a := 4 * 2 ^ 28) (m := 2 ^ 28) ⟨by omega, by omega⟩ ⟨by omega, by omega⟩ (by decide) (by decide)
    have f4 := bd_mul (x := sumF T) (y := sumF T) (a := 2 * 2 ^ 28) (m := 2 * 2 ^ 28) ⟨by omega, by omega⟩ ⟨by omega, by omega⟩ (by decide) (by decide)
    rw [f2.1] at f3
    rw [es] at f4
    have f5 : (4 * tg T * tg T - sumF T * sumF T).toInt = 4 * (tg T).toInt * (tg T).toInt - ((ta T).toInt + (td T).toInt) * ((ta T).toInt + (td T).toInt) := by
      rw [l_sub (by omega) (by omega), f3.1, f4.1]
    have hpos : 0 < 4 * (tg T).toInt * (tg T).toInt - ((ta T).toInt + (td T).toInt) * ((ta T).toInt + (td T).toInt) := by
      have q := Int.mul_pos (show 0 < 2 * (tg T).toInt - ((ta T).toInt + (td T).toInt) by omega) (show 0 < 2 * (tg T).toInt + ((ta T).toInt + (td T).toInt) by omega)
      have q2 : (2 * (tg T).toInt - ((ta T).toInt + (td T).toInt)) * (2 * (tg T).toInt + ((ta T).toInt + (td T).toInt)) = 4 * (tg T).toInt * (tg T).toInt - ((ta T).toInt + (td T).toInt) * ((ta T).toInt + (td T).toInt) := by grind
      omega
    have n1 : 4 * tg T * tg T - sumF T * sumF T ≠ 0 := by
      intro q
      have := congrArg Int64.toInt q
      rw [f5] at this
      have e0 : (0 : Int64).toInt = 0 := by decide
      omega
    rw [tol_low n1 (by omega), tol_low n2 (by omega)]
  · rw [if_neg hb, if_neg hb]
