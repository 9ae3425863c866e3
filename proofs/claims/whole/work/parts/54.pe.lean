/-! How far all rays pass: the class's least quotient is the reference's count. -/
theorem fq_char {b e r y : Int} (hy : 0 ≤ y) (hy2 : y ≤ 1000) : y ≤ (if (-r ≤ e ∧ e ≤ r) then (if b = 0 then 1000 else if b ≤ 0 then (r + e).tdiv (-b) else (r - e).tdiv b) else -1) ↔ ∀ x : Int, 0 ≤ x → x ≤ y → -r ≤ b * x + e ∧ b * x + e ≤ r := by
  by_cases h : -r ≤ e ∧ e ≤ r
  · rw [if_pos h]
    by_cases h0 : b = 0
    · rw [if_pos h0]
      subst h0
      refine ⟨fun _ x _ _ => by rw [Int.zero_mul]; omega, fun _ => hy2⟩
    · rw [if_neg h0]
      by_cases hb : b ≤ 0
      · rw [if_pos hb]
        have hc : 0 < -b := by omega
        rw [Int.tdiv_eq_ediv_of_nonneg (by omega), Int.le_ediv_iff_mul_le hc]
        constructor
        · intro q x hx1 hx2
          have h1 : (-b) * x ≤ (-b) * y := Int.mul_le_mul_of_nonneg_left hx2 (by omega)
          have h2 : 0 ≤ (-b) * x := Int.mul_nonneg (by omega) hx1
          have e1 : (-b) * x = -(b * x) := Int.neg_mul b x
          have e2 : (-b) * y = y * (-b) := Int.mul_comm _ _
          omega
        · intro q
          have := (q y hy (Int.le_refl y)).1
          have e2 : y * (-b) = -(b * y) := by rw [Int.mul_comm, Int.neg_mul]
          omega
      · rw [if_neg hb]
        have hc : 0 < b := by omega
        rw [Int.tdiv_eq_ediv_of_nonneg (by omega), Int.le_ediv_iff_mul_le hc]
        constructor
        · intro q x hx1 hx2
          have h1 : b * x ≤ b * y := Int.mul_le_mul_of_nonneg_left hx2 (by omega)
          have h2 : 0 ≤ b * x := Int.mul_nonneg (by omega) hx1
          have e2 : b * y = y * b := Int.mul_comm _ _
          omega
        · intro q
          have := (q y hy (Int.le_refl y)).2
          have e2 : y * b = b * y := Int.mul_comm _ _
          omega
  · rw [if_neg h]
    constructor
    · intro q; omega
    · intro q
      exfalso
      have := q 0 (Int.le_refl 0) hy
      rw [Int.mul_zero] at this
      omega
theorem absL_le {x r : Int64} (hx : x.toInt ≠ -2 ^ 63) : absL x ≤ r ↔ -r.toInt ≤ x.toInt ∧ x.toInt ≤ r.toInt := by
  rw [Int64.le_iff_toInt_le]
  have h1 := absL_natAbs x
  have h2 := absL_nonneg hx
  omega
/-- what a stop allows, in whole numbers -/
theorem stp_int {T : TB} {s : Int64} (hT : bdT (21 ^ 8) T) (hg : 0 < (tg T).toInt) (hg2 : (tg T).toInt ≤ 9 ^ 8) (hs : 1 ≤ s.toInt) (hs2 : s.toInt ≤ 1000) :
    (stpF T s).toInt = (if (-(s.toInt * (tg T).toInt) ≤ (te T).toInt ∧ (te T).toInt ≤ s.toInt * (tg T).toInt) then (if (tb T).toInt = 0 then 1000 else if (tb T).toInt ≤ 0 then (s.toInt * (tg T).toInt + (te T).toInt).tdiv (-(tb T).toInt) else (s.toInt * (tg T).toInt - (te T).toInt).tdiv (tb T).toInt) else -1) ∧ (s * tg T).toInt = s.toInt * (tg T).toInt ∧ 0 < s.toInt * (tg T).toInt ∧ s.toInt * (tg T).toInt ≤ 1000 * 9 ^ 8 := by
  obtain ⟨h1, h2, h3, h4, h5, h6, h7⟩ := hT
  have p3 : (21 : Int) ^ 8 < 2 ^ 60 := by decide
  have hr := bd_mul (x := s) (y := tg T) (a := 1000) (m := 9 ^ 8) ⟨by omega, by omega⟩ ⟨by omega, by omega⟩ (by decide) (by decide)
  have p4 : (1000 : Int) * 9 ^ 8 < 2 ^ 60 := by decide
  have hpos : 0 < s.toInt * (tg T).toInt := Int.mul_pos (by omega) hg
  refine ⟨?_, hr.1, hpos, by rw [← hr.1]; exact hr.2.2⟩
  rw [stpF]
  have ha : absL (te T) ≤ s * tg T ↔ (-(s.toInt * (tg T).toInt) ≤ (te T).toInt ∧ (te T).toInt ≤ s.toInt * (tg T).toInt) := by
    rw [absL_le (by omega), hr.1]
  by_cases hc : absL (te T) ≤ s * tg T
  · rw [if_pos hc, if_pos (ha.mp hc)]
    have hci := ha.mp hc
    by_cases hb : tb T = 0
    · have e0 : (0 : Int64).toInt = 0 := by decide
      rw [if_pos hb, if_pos (by rw [hb]; exact e0)]
      decide
    · rw [if_neg hb, if_neg (l_toInt_ne hb)]
      by_cases hn : tb T ≤ 0
      · have hn' := (l_le0 _).mp hn
        rw [if_pos hn, if_pos hn', Int64.toInt_div, l_add (by omega) (by omega), hr.1, l_neg (by omega)]
        refine l_bm ?_ ?_
        · have := Int.tdiv_nonneg (a := s.toInt * (tg T).toInt + (te T).toInt) (b := -(tb T).toInt) (by omega) (by omega)
          omega
        · have : (s.toInt * (tg T).toInt + (te T).toInt).tdiv (-(tb T).toInt) ≤ s.toInt * (tg T).toInt + (te T).toInt := Int.tdiv_le_self _ (by omega)
          omega
      · have hn' : ¬ (tb T).toInt ≤ 0 := fun q => hn ((l_le0 _).mpr q)
        rw [if_neg hn, if_neg hn', Int64.toInt_div, l_sub (by omega) (by omega), hr.1]
        refine l_bm ?_ ?_
        · have := Int.tdiv_nonneg (a := s.toInt * (tg T).toInt - (te T).toInt) (b := (tb T).toInt) (by omega) (by omega)
          omega
        · have : (s.toInt * (tg T).toInt - (te T).toInt).tdiv (tb T).toInt ≤ s.toInt * (tg T).toInt - (te T).toInt := Int.tdiv_le_self _ (by omega)
          omega
  · rw [if_neg hc, if_neg (fun q => hc (ha.mpr q))]
    decide
abbrev yL (y : Nat) : Int64 := Int32.toInt64 (nI y)
theorem yL_int {y : Nat} (h : y ≤ 1000) : (yL y).toInt = y := by rw [i_w, nI_toInt (by omega)]
theorem far_int {T : TB} {y : Nat} (hT : bdT (21 ^ 8) T) (hy : y ≤ 1000) : (farF T (Int32.toInt64 0) (yL y)).toInt = (tb T).toInt * y + (te T).toInt ∧ (farF T (Int32.toInt64 0) (yL y)).toInt ≠ -2 ^ 63 := by
  obtain ⟨h1, h2, h3, h4, h5, h6, h7⟩ := hT
  have p3 : (21 : Int) ^ 8 * 1000 < 2 ^ 60 := by decide
  have e0 : Int32.toInt64 0 = 0 := by decide
  have hm := bd_mul (x := tb T) (y := yL y) (a := 21 ^ 8) (m := 1000) h2 ⟨by rw [yL_int hy]; omega, by rw [yL_int hy]; omega⟩ (by decide) (by decide)
  rw [yL_int hy] at hm
  have e : farF T (Int32.toInt64 0) (yL y) = tb T * yL y + te T := by
    unfold farF
    rw [e0]
    grind
  have e2 : (tb T * yL y + te T).toInt = (tb T).toInt * y + (te T).toInt := by rw [l_add (by omega) (by omega), hm.1]
  rw [e, e2]
  exact ⟨rfl, by omega⟩
/-- one stop lets the ray with y pass -/
abbrev ps1 (T : TB) (s : Int64) (y : Nat) : Prop := absL (farF T (Int32.toInt64 0) (yL y)) ≤ s * tg T
theorem stp_char {T : TB} {s : Int64} {y : Nat} (hT : bdT (21 ^ 8) T) (hg : 0 < (tg T).toInt) (hg2 : (tg T).toInt ≤ 9 ^ 8) (hs : 1 ≤ s.toInt) (hs2 : s.toInt ≤ 1000) (hy : y ≤ 1000) : ((y : Int) ≤ (stpF T s).toInt) ↔ ∀ x : Nat, x ≤ y → ps1 T s x := by
  obtain ⟨e1, e2, e3, e4⟩ := stp_int hT hg hg2 hs hs2
  rw [e1, fq_char (by omega) (by omega)]
  constructor
  · intro q x hx
    have f := far_int (y := x) hT (by omega)
    show absL _ ≤ _
    rw [absL_le f.2, f.1, e2]
    exact q x (by omega) (by omega)
  · intro q x hx1 hx2
    obtain ⟨k, rfl⟩ : ∃ k : Nat, x = k := ⟨x.toNat, by omega⟩
    have h := q k (by omega)
    have f := far_int (y := k) hT (by omega)
    rw [ps1, absL_le f.2, f.1, e2] at h
    exact h
theorem stp_low {T : TB} {s : Int64} (hT : bdT (21 ^ 8) T) (hg : 0 < (tg T).toInt) (hg2 : (tg T).toInt ≤ 9 ^ 8) (hs : 1 ≤ s.toInt) (hs2 : s.toInt ≤ 1000) : -1 ≤ (stpF T s).toInt := by
  obtain ⟨e1, e2, e3, e4⟩ := stp_int hT hg hg2 hs hs2
  rw [e1]
  split
  · split
    · omega
    · split
      · have := Int.tdiv_nonneg (a := s.toInt * (tg T).toInt + (te T).toInt) (b := -(tb T).toInt) (by omega) (by omega); omega
      · have := Int.tdiv_nonneg (a := s.toInt * (tg T).toInt - (te T).toInt) (b := (tb T).toInt) (by omega) (by omega); omega
  · omega
/-- all stops from part i on let the ray with y pass -/
def psA (K F G : Nat → Int32) (way : Int32) (y i : Nat) (T : TB) : Nat → Prop
  | 0 => True
  | d + 1 => (K i = 4 → ps1 T (F i).toInt64 y) ∧ psA K F G way y (i + 1) (goM (K i) (F i) (G i) way T) d
theorem sto_ps {K F G : Nat → Int32} {way : Int32} {y : Nat} : ∀ (d i : Nat) (T : TB), i + d ≤ 8 → ((stoM K F G way (Int32.toInt64 0) (yL y) i T d).1 = -1 ↔ psA K F G way y i T d)
  | 0, _, _, _ => ⟨fun _ => trivial, fun _ => rfl⟩
  | d + 1, i, T, h => by
    have ih := sto_ps (K := K) (F := F) (G := G) (way := way) (y := y) d (i + 1) (goM (K i) (F i) (G i) way T) (by omega)
    rw [stoM]
    by_cases hc : K i = 4 ∧ ¬ absL (farF T (Int32.toInt64 0) (yL y)) ≤ (F i).toInt64 * tg T
    · rw [if_pos hc]
      constructor
      · intro q
        have := congrArg Int32.toInt q
        rw [nI_toInt (by omega)] at this
        have e : (-1 : Int32).toInt = -1 := by decide
        omega
      · intro q
        exact absurd (q.1 hc.1) hc.2
    · rw [if_neg hc, ih]
      constructor
      · intro q
        refine ⟨fun h4 => ?_, q⟩
        exact Decidable.of_not_not (fun z => hc ⟨h4, z⟩)
      · intro q
        exact q.2
theorem minL_int (x y : Int64) : (minL x y).toInt = if y.toInt < x.toInt then y.toInt else x.toInt := by
  unfold minL
  by_cases h : y < x
  · rw [if_pos h, if_pos (Int64.lt_iff_toInt_lt.mp h)]
  · rw [if_neg h, if_neg (fun q => h (Int64.lt_iff_toInt_lt.mpr q))]
theorem ful_char {K F G : Nat → Int32} {way : Int32} {z : Nat} (hk : okR K F G z) (hz : z ≤ 8) (hw : way = 0 ∨ way = 1) : ∀ (d i : Nat) (T : TB) (m : Int) (mo : Int64), i + d = z → bdT m T → dtT T → 0 < m → m * 21 ^ d ≤ 21 ^ 8 → 0 < (tg T).toInt → (tg T).toInt * 9 ^ d ≤ 9 ^ 8 → -1 ≤ mo.toInt → mo.toInt ≤ 1000 →
    (-1 ≤ (fulX K F G way mo i T d).toInt ∧ (fulX K F G way mo i T d).toInt ≤ 1000) ∧ ∀ y : Nat, y ≤ 1000 → ((y : Int) ≤ (fulX K F G way mo i T d).toInt ↔ (y : Int) ≤ mo.toInt ∧ ∀ x : Nat, x ≤ y → psA K F G way x i T d)
  | 0, _, _, _, mo, _, _, _, _, _, _, _, h1, h2 => ⟨⟨h1, h2⟩, fun y _ => ⟨fun q => ⟨q, fun _ _ => trivial⟩, fun q => q.1⟩⟩
  | d + 1, i, T, m, mo, hi, hT, hd, hm, hm2, hg, hg2, h1, h2 => by
    have hp : (9 : Int) ^ (d + 1) = 9 * 9 ^ d := by rw [Int.pow_succ]; omega
    have hq : (1 : Int) ≤ 9 ^ d := by have : (0 : Int) < 9 ^ d := Int.pow_pos (by decide); omega
    have h3 : (tg T).toInt * 9 ^ (d + 1) = (9 * (tg T).toInt) * 9 ^ d := by rw [hp, ← Int.mul_assoc, Int.mul_comm (tg T).toInt 9]
    have h4 : 9 * (tg T).toInt * 1 ≤ 9 * (tg T).toInt * 9 ^ d := Int.mul_le_mul_of_nonneg_left hq (by omega)
    have hp2 : m * (21 : Int) ^ (d + 1) = (21 * m) * 21 ^ d := by rw [Int.pow_succ, Int.mul_comm (21 ^ d) 21, ← Int.mul_assoc, Int.mul_comm m 21]
    have hq2 : (1 : Int) ≤ 21 ^ d := by have : (0 : Int) < 21 ^ d := Int.pow_pos (by decide); omega
    have h5 : 21 * m * 1 ≤ 21 * m * 21 ^ d := Int.mul_le_mul_of_nonneg_left hq2 (by omega)
    have hv := hk i (by omega)
    obtain ⟨e, g1, g2⟩ := goM_goF (way := way) (T := T) hv hw hg (by omega)
    have e' : goM (K i) (F i) (G i) way T = goF (K i) (stg K F G way i) T := e
    have g1' : 0 < (tg (goF (K i) (stg K F G way i) T)).toInt := g1
    have g2' : (tg (goF (K i) (stg K F G way i) T)).toInt ≤ 9 * (tg T).toInt := g2
    have h6 : (tg (goF (K i) (stg K F G way i) T)).toInt * 9 ^ d ≤ 9 * (tg T).toInt * 9 ^ d := Int.mul_le_mul_of_nonneg_right g2' (by omega)
    have gb := go_bd (way := way) (T := T) (m := m) hv hw hT hd (by omega) (by omega)
    have gb1 : bdT (21 * m) (goF (K i) (stg K F G way i) T) := gb.1
    have gb2 : dtT (goF (K i) (stg K F G way i) T) := gb.2
    rw [hp2] at hm2
    rw [h3] at hg2
    rw [fulX]
    by_cases h4' : K i = 4
    · have eT : goF (K i) (stg K F G way i) T = T := by rw [h4']; rfl
      rw [if_pos h4']
      rw [eT] at gb1 gb2 g1' g2' h6 e' ⊢
      have hF : 1 ≤ (F i).toInt ∧ (F i).toInt ≤ 1000 := by
        rcases hv with q | q | q | q | q
        · rw [h4'] at q; exact absurd q.1 (by decide)
        · rw [h4'] at q; exact absurd q.1 (by decide)
        · rw [h4'] at q; exact absurd q.1 (by decide)
        · rw [h4'] at q; exact absurd q.1 (by decide)
        · have a1 := q.2.1.1
          have a2 := q.2.1.2
          rw [Int32.lt_iff_toInt_lt] at a1 a2
          have e1 : (1 : Int32).toInt = 1 := by decide
          have e2 : (1000 : Int32).toInt = 1000 := by decide
          omega
      have hTT : bdT (21 ^ 8) T := bdT_mono hT (by omega)
      have hgT : (tg T).toInt ≤ 9 ^ 8 := by omega
      have sc := fun (y : Nat) (hy : y ≤ 1000) => stp_char (y := y) (s := (F i).toInt64) hTT hg hgT (by rw [i_w]; omega) (by rw [i_w]; omega) hy
      have sl := stp_low (s := (F i).toInt64) hTT hg hgT (by rw [i_w]; omega) (by rw [i_w]; omega)
      have hmin := minL_int mo (stpF T (F i).toInt64)
      have hlo : -1 ≤ (minL mo (stpF T (F i).toInt64)).toInt := by rw [hmin]; split <;> omega
      have hhi : (minL mo (stpF T (F i).toInt64)).toInt ≤ 1000 := by rw [hmin]; split <;> omega
      have ih := ful_char hk hz hw d (i + 1) T (21 * m) (minL mo (stpF T (F i).toInt64)) (by omega) gb1 gb2 (by omega) hm2 g1' (by omega) hlo hhi
      refine ⟨ih.1, fun y hy => ?_⟩
      rw [ih.2 y hy]
      have hle : (y : Int) ≤ (minL mo (stpF T (F i).toInt64)).toInt ↔ (y : Int) ≤ mo.toInt ∧ (y : Int) ≤ (stpF T (F i).toInt64).toInt := by rw [hmin]; split <;> omega
      rw [hle, sc y hy]
      constructor
      · rintro ⟨⟨a1, a2⟩, a3⟩
        refine ⟨a1, fun x hx => ⟨fun _ => a2 x hx, ?_⟩⟩
        rw [e']
        exact a3 x hx
      · rintro ⟨a1, a2⟩
        refine ⟨⟨a1, fun x hx => (a2 x hx).1 h4'⟩, fun x hx => ?_⟩
        have := (a2 x hx).2
        rw [e'] at this
        exact this
    · rw [if_neg h4']
      have ih := ful_char hk hz hw d (i + 1) (goF (K i) (stg K F G way i) T) (21 * m) mo (by omega) gb1 gb2 (by omega) hm2 g1' (by omega) h1 h2
      refine ⟨ih.1, fun y hy => ?_⟩
      rw [ih.2 y hy]
      constructor
      · rintro ⟨a1, a2⟩
        refine ⟨a1, fun x hx => ⟨fun q => absurd q h4', ?_⟩⟩
        rw [e']
        exact a2 x hx
      · rintro ⟨a1, a2⟩
        refine ⟨a1, fun x hx => ?_⟩
        have := (a2 x hx).2
        rw [e'] at this
        exact this
theorem fulM_char {K F G : Nat → Int32} {way : Int32} {z : Nat} (hz : z ≤ 8) : ∀ (d y : Nat), y + d = 1001 → (∀ x : Nat, x < y → psA K F G way x 0 T1 z) → (-1 ≤ (fulM K F G way z y d).toInt ∧ (fulM K F G way z y d).toInt ≤ 1000) ∧ ∀ x : Nat, x ≤ 1000 → ((x : Int) ≤ (fulM K F G way z y d).toInt ↔ ∀ u : Nat, u ≤ x → psA K F G way u 0 T1 z)
  | 0, y, h, hp => by
    have e : (fulM K F G way z y 0).toInt = (y : Int) - 1 := pk_sub_toInt (b := 1) (by omega) (by omega)
    rw [e]
    refine ⟨by omega, fun x hx => ⟨fun _ u hu => hp u (by omega), fun _ => by omega⟩⟩
  | d + 1, y, h, hp => by
    rw [fulM]
    have hs := sto_ps (K := K) (F := F) (G := G) (way := way) (y := y) z 0 T1 (by omega)
    by_cases hc : (stoM K F G way (Int32.toInt64 0) (Int32.toInt64 (nI y)) 0 T1 z).1 = -1
    · rw [if_pos hc]
      refine fulM_char hz d (y + 1) (by omega) (fun x hx => ?_)
      rcases (show x < y ∨ x = y by omega) with q | q
      · exact hp x q
      · subst q; exact hs.mp hc
    · rw [if_neg hc]
      have e : (nI y - 1).toInt = (y : Int) - 1 := pk_sub_toInt (b := 1) (by omega) (by omega)
      rw [e]
      refine ⟨by omega, fun x hx => ⟨fun q u hu => hp u (by omega), fun q => ?_⟩⟩
      rcases Nat.lt_or_ge x y with g | g
      · omega
      · exact absurd (hs.mpr (q y g)) hc
theorem ful_eq {K F G : Nat → Int32} {way : Int32} {z : Nat} (hk : okR K F G z) (hz : z ≤ 8) (hw : way = 0 ∨ way = 1) : Int64.toInt32 (fulX K F G way 1000 0 T1 z) = fulR K F G way z := by
  have a := ful_char hk hz hw z 0 T1 1 1000 (by omega) T1_bd.1 T1_bd.2 (by decide) (pow21 hz) (by decide) (pow9 hz) (by decide) (by decide)
  have b := fulM_char (K := K) (F := F) (G := G) (way := way) hz 1001 0 rfl (fun x hx => absurd hx (by omega))
  have b' : (-1 ≤ (fulR K F G way z).toInt ∧ (fulR K F G way z).toInt ≤ 1000) ∧ ∀ x : Nat, x ≤ 1000 → ((x : Int) ≤ (fulR K F G way z).toInt ↔ ∀ u : Nat, u ≤ x → psA K F G way u 0 T1 z) := b
  generalize fulR K F G way z = R at b'
  generalize fulX K F G way 1000 0 T1 z = S at a
  have e1000 : (1000 : Int64).toInt = 1000 := by decide
  have key : S.toInt = R.toInt := by
    rcases Int.lt_trichotomy S.toInt R.toInt with q | q | q
    · exfalso
      have h0 : R.toInt.toNat ≤ 1000 := by omega
      have h1 := (b'.2 R.toInt.toNat h0).mp (by omega)
      have h2 := (a.2 R.toInt.toNat h0).mpr ⟨by omega, h1⟩
      omega
    · exact q
    · exfalso
      have h0 : S.toInt.toNat ≤ 1000 := by omega
      have h1 := ((a.2 S.toInt.toNat h0).mp (by omega)).2
      have h2 := (b'.2 S.toInt.toNat h0).mpr h1
      omega
  apply Int32.toInt_inj.mp
  rw [Int64.toInt_toInt32, key]
  exact Int.bmod_eq_of_le (by omega) (by omega)
