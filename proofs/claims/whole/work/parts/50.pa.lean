/-! The class's table is the reference's. -/
theorem l_bm {z : Int} (h1 : -2 ^ 63 ≤ z) (h2 : z < 2 ^ 63) : z.bmod (2 ^ 64) = z := Int.bmod_eq_of_le (by omega) (by omega)
theorem l_mul {x y : Int64} (h1 : -2 ^ 63 ≤ x.toInt * y.toInt) (h2 : x.toInt * y.toInt < 2 ^ 63) : (x * y).toInt = x.toInt * y.toInt := by
  rw [Int64.toInt_mul, l_bm h1 h2]
theorem l_add {x y : Int64} (h1 : -2 ^ 63 ≤ x.toInt + y.toInt) (h2 : x.toInt + y.toInt < 2 ^ 63) : (x + y).toInt = x.toInt + y.toInt := by
  rw [Int64.toInt_add, l_bm h1 h2]
theorem l_sub {x y : Int64} (h1 : -2 ^ 63 ≤ x.toInt - y.toInt) (h2 : x.toInt - y.toInt < 2 ^ 63) : (x - y).toInt = x.toInt - y.toInt := by
  rw [Int64.toInt_sub, l_bm h1 h2]
theorem l_neg {x : Int64} (h : x.toInt ≠ -2 ^ 63) : (-x).toInt = -x.toInt := by
  have h1 := Int64.le_toInt x
  have h2 := Int64.toInt_lt x
  rw [Int64.toInt_neg, l_bm (by omega) (by omega)]
theorem l_lt0 (x : Int64) : x < 0 ↔ x.toInt < 0 := Int64.lt_iff_toInt_lt
theorem l_le0 (x : Int64) : x ≤ 0 ↔ x.toInt ≤ 0 := Int64.le_iff_toInt_le
theorem i_w (a : Int32) : (a.toInt64).toInt = a.toInt := Int32.toInt_toInt64 a
theorem bnt_int {a : Int32} (h : bnt a) : -9 ≤ a.toInt ∧ a.toInt ≤ 9 ∧ a.toInt ≠ 0 := by
  obtain ⟨⟨h1, h2⟩, h3⟩ := h
  rw [Int32.lt_iff_toInt_lt] at h1 h2
  have e1 : (-9 : Int32).toInt = -9 := by decide
  have e2 : (9 : Int32).toInt = 9 := by decide
  rw [e1] at h1
  rw [e2] at h2
  refine ⟨by omega, by omega, fun q => h3 (Int32.toInt_inj.mp (by rw [q]; rfl))⟩
/-- sizes of a product of a small number and a bounded one -/
theorem m_bd {x y : Int} {a b : Int} (hx : -a ≤ x ∧ x ≤ a) (hy : -b ≤ y ∧ y ≤ b) (ha : 0 ≤ a) : -(a * b) ≤ x * y ∧ x * y ≤ a * b := by
  have h1 : x.natAbs ≤ a.natAbs := by omega
  have h2 : y.natAbs ≤ b.natAbs := by omega
  have h3 : (x * y).natAbs ≤ (a * b).natAbs := by
    rw [Int.natAbs_mul, Int.natAbs_mul]
    exact Nat.mul_le_mul h1 h2
  have hb : 0 ≤ b := by omega
  have h4 : 0 ≤ a * b := Int.mul_nonneg ha hb
  omega
theorem ben_eq {x : Int64} {T : TB} (h1 : -9 ≤ x.toInt) (h2 : x.toInt ≤ 9) (h3 : x.toInt ≠ 0) (hg : 0 < (tg T).toInt) (hb : (tg T).toInt ≤ 9 ^ 8) : nrm (bnd x T) = benF x T ∧ 0 < (tg (benF x T)).toInt ∧ (tg (benF x T)).toInt ≤ 9 * (tg T).toInt := by
  have hB := m_bd (x := (tg T).toInt) (y := x.toInt) (a := (tg T).toInt) (b := 9) ⟨by omega, by omega⟩ ⟨h1, h2⟩ (by omega)
  have hm : (tg T * x).toInt = (tg T).toInt * x.toInt := l_mul (by omega) (by omega)
  have hm2 : (tg (bnd x T)).toInt = (tg T).toInt * x.toInt := hm
  by_cases hx : x < 0
  · have hx' := (l_lt0 x).mp hx
    have hneg : (tg T).toInt * x.toInt < 0 := Int.mul_neg_of_pos_of_neg hg hx'
    have e : nrm (bnd x T) = ngT (bnd x T) := by rw [nrm, if_pos ((l_le0 _).mpr (by rw [hm2]; omega))]
    have e2 : ngT (bnd x T) = benF x T := by
      rw [benF, if_pos hx]
      simp only [ngT, bnd, benG, ta, tb, tc, td, te, tf, tg]
      refine Prod.ext ?_ (Prod.ext ?_ (Prod.ext ?_ (Prod.ext ?_ (Prod.ext ?_ (Prod.ext ?_ ?_))))) <;> grind
    refine ⟨e.trans e2, ?_⟩
    rw [← e2]
    have e3 : (tg (ngT (bnd x T))).toInt = -((tg T).toInt * x.toInt) := by
      show (-(tg (bnd x T))).toInt = _
      rw [l_neg (by rw [hm2]; omega), hm2]
    rw [e3]
    omega
  · have hx' : ¬ x.toInt < 0 := fun q => hx ((l_lt0 x).mpr q)
    have hpos : 0 < (tg T).toInt * x.toInt := Int.mul_pos hg (by omega)
    have e : nrm (bnd x T) = bnd x T := by rw [nrm, if_neg (fun q => by have := (l_le0 _).mp q; rw [hm2] at this; omega)]
    have e2 : bnd x T = benF x T := by
      rw [benF, if_neg hx]
      simp only [bnd, benG, ta, tb, tc, td, te, tf, tg]
      refine Prod.ext ?_ (Prod.ext ?_ (Prod.ext ?_ (Prod.ext ?_ (Prod.ext ?_ (Prod.ext ?_ ?_))))) <;> grind
    refine ⟨e.trans e2, ?_⟩
    rw [← e2, hm2]
    omega
theorem goM_goF {k a b way : Int32} {T : TB} (hp : gdP k a b) (hw : way = 0 ∨ way = 1) (hg : 0 < (tg T).toInt) (hb : (tg T).toInt ≤ 9 ^ 8) : goM k a b way T = goF k (if k = 2 ∧ way = 1 then b else a) T ∧ 0 < (tg (goF k (if k = 2 ∧ way = 1 then b else a) T)).toInt ∧ (tg (goF k (if k = 2 ∧ way = 1 then b else a) T)).toInt ≤ 9 * (tg T).toInt := by
  have hn : ∀ S : TB, tg S = tg T → nrm S = S := fun S e => by rw [nrm, if_neg (fun q => by have := (l_le0 _).mp q; rw [e] at this; omega)]
  rcases hp with ⟨rfl, h⟩ | ⟨rfl, h⟩ | ⟨rfl, h⟩ | ⟨rfl, h⟩ | ⟨rfl, h⟩
  · rw [if_neg (fun q => absurd q.1 (by decide))]
    have e : goF 0 a T = strF a.toInt64 T := rfl
    have e1 : goM 0 a b way T = nrm (strF a.toInt64 T) := rfl
    rw [e, e1, hn (strF a.toInt64 T) rfl]
    exact ⟨rfl, hg, by show (tg T).toInt ≤ _; omega⟩
  · rw [if_neg (fun q => absurd q.1 (by decide))]
    have hB := bnt_int h.1
    have e : goF 1 a T = benF a.toInt64 T := rfl
    have e1 : goM 1 a b way T = nrm (bnd a.toInt64 T) := rfl
    rw [e, e1]
    exact ben_eq (by rw [i_w]; omega) (by rw [i_w]; omega) (by rw [i_w]; omega) hg hb
  · rcases hw with rfl | rfl
    · rw [if_neg (fun q => absurd q.2 (by decide))]
      have hB := bnt_int h.1
      have e : goF 2 a T = benF a.toInt64 T := rfl
      have e1 : goM 2 a b 0 T = nrm (bnd a.toInt64 T) := rfl
      rw [e, e1]
      exact ben_eq (by rw [i_w]; omega) (by rw [i_w]; omega) (by rw [i_w]; omega) hg hb
    · rw [if_pos ⟨rfl, rfl⟩]
      have hB := bnt_int h.2
      have e : goF 2 b T = benF b.toInt64 T := rfl
      have e1 : goM 2 a b 1 T = nrm (bnd b.toInt64 T) := rfl
      rw [e, e1]
      exact ben_eq (by rw [i_w]; omega) (by rw [i_w]; omega) (by rw [i_w]; omega) hg hb
  · rw [if_neg (fun q => absurd q.1 (by decide))]
    have e : goF 3 a T = tilF a.toInt64 T := rfl
    have e1 : goM 3 a b way T = nrm (tilF a.toInt64 T) := rfl
    rw [e, e1, hn (tilF a.toInt64 T) rfl]
    exact ⟨rfl, hg, by show (tg T).toInt ≤ _; omega⟩
  · rw [if_neg (fun q => absurd q.1 (by decide))]
    have e : goF 4 a T = T := rfl
    have e1 : goM 4 a b way T = nrm T := rfl
    rw [e, e1, hn _ rfl]
    exact ⟨rfl, hg, by omega⟩
/-- d parts of a row of z, from i on, by remainders -/
def sq (K F G : Nat → Int32) (way : Int32) (z i : Nat) (T : TB) : Nat → TB
  | 0 => T
  | d + 1 => sq K F G way z (i + 1) (goF (K (i % z)) (stg K F G way (i % z)) T) d
theorem mod_next {z : Nat} (hz : 0 < z) (i : Nat) : (if i % z + 1 < z then i % z + 1 else 0) = (i + 1) % z := by
  have h1 : i % z < z := Nat.mod_lt _ hz
  have h2 : i + 1 = z * (i / z) + (i % z + 1) := by have := Nat.div_add_mod i z; omega
  rw [h2, Nat.mul_add_mod]
  split
  · rename_i h; rw [Nat.mod_eq_of_lt h]
  · rename_i h
    rw [show i % z + 1 = z by omega, Nat.mod_self]
theorem led_sq {K F G : Nat → Int32} {way : Int32} {z : Nat} (hz : 0 < z) : ∀ (d i : Nat) (T : TB), ledF K F G way z (i % z) T d = sq K F G way z i T d
  | 0, _, _ => rfl
  | d + 1, i, T => by
    rw [ledF, mod_next hz, if_pos (Nat.mod_lt i hz), led_sq hz d (i + 1)]
    rfl
/-- a row whose parts are as the document has them -/
abbrev okR (K F G : Nat → Int32) (z : Nat) : Prop := ∀ i, i < z → gdP (K i) (F i) (G i)
theorem wrk_sq {K F G : Nat → Int32} {way : Int32} {z : Nat} (hz : 0 < z) (hk : okR K F G z) (hw : way = 0 ∨ way = 1) : ∀ (d i : Nat) (T : TB), 0 < (tg T).toInt → (tg T).toInt * 9 ^ d ≤ 9 ^ 8 → wrkF K F G way z i T d = sq K F G way z i T d ∧ 0 < (tg (sq K F G way z i T d)).toInt ∧ (tg (sq K F G way z i T d)).toInt ≤ (tg T).toInt * 9 ^ d
  | 0, _, T, h1, h2 => ⟨rfl, h1, by show (tg T).toInt ≤ _; omega⟩
  | d + 1, i, T, h1, h2 => by
    have hp : (9 : Int) ^ (d + 1) = 9 * 9 ^ d := by rw [Int.pow_succ]; omega
    have hq : (1 : Int) ≤ 9 ^ d := by have : (0 : Int) < 9 ^ d := Int.pow_pos (by decide); omega
    have h3 : (tg T).toInt * 9 ^ (d + 1) = (9 * (tg T).toInt) * 9 ^ d := by rw [hp, ← Int.mul_assoc, Int.mul_comm (tg T).toInt 9]
    have h4 : 9 * (tg T).toInt * 1 ≤ 9 * (tg T).toInt * 9 ^ d := Int.mul_le_mul_of_nonneg_left hq (by omega)
    obtain ⟨e, g1, g2⟩ := goM_goF (way := way) (T := T) (hk (i % z) (Nat.mod_lt i hz)) hw h1 (by omega)
    have h5 : (tg (goF (K (i % z)) (stg K F G way (i % z)) T)).toInt * 9 ^ d ≤ 9 * (tg T).toInt * 9 ^ d := Int.mul_le_mul_of_nonneg_right g2 (by omega)
    have ih := wrk_sq hz hk hw d (i + 1) (goF (K (i % z)) (stg K F G way (i % z)) T) g1 (by rw [h3] at h2; omega)
    rw [wrkF, e]
    refine ⟨ih.1, ih.2.1, ?_⟩
    have := ih.2.2
    show (tg (sq K F G way z (i + 1) (goF (K (i % z)) (stg K F G way (i % z)) T) d)).toInt ≤ _
    rw [h3]
    omega
theorem pow9 {d : Nat} (h : d ≤ 8) : (tg T1).toInt * (9 : Int) ^ d ≤ 9 ^ 8 := by
  have e : (tg T1).toInt = 1 := by decide
  rw [e, Int.one_mul]
  rcases (show d = 0 ∨ d = 1 ∨ d = 2 ∨ d = 3 ∨ d = 4 ∨ d = 5 ∨ d = 6 ∨ d = 7 ∨ d = 8 by omega) with rfl | rfl | rfl | rfl | rfl | rfl | rfl | rfl | rfl <;> decide
theorem led_wrk {K F G : Nat → Int32} {way : Int32} {z i d : Nat} (hk : okR K F G z) (hz : z ≤ 8) (hw : way = 0 ∨ way = 1) (hi : i < z ∨ i = 0) (hd : d ≤ z) : ledF K F G way z i T1 d = wrkF K F G way z i T1 d := by
  rcases Nat.eq_zero_or_pos z with e | e
  · subst e
    obtain rfl : d = 0 := by omega
    rfl
  · have hi' : i < z := by omega
    have h1 := led_sq (K := K) (F := F) (G := G) (way := way) e d i T1
    rw [Nat.mod_eq_of_lt hi'] at h1
    rw [h1, (wrk_sq e hk hw d i T1 (by decide) (pow9 (by omega))).1]
theorem tab_eq {K F G : Nat → Int32} {way : Int32} {z : Nat} (hk : okR K F G z) (hz : z ≤ 8) (hw : way = 0 ∨ way = 1) : tabX K F G way z = tabM K F G way z := led_wrk hk hz hw (Or.inr rfl) (Nat.le_refl z)
theorem rot_eq {K F G : Nat → Int32} {way : Int32} {z i : Nat} (hk : okR K F G z) (hz : z ≤ 8) (hw : way = 0 ∨ way = 1) (hi : i < z) : rotX K F G way z i = rotM K F G way z i := led_wrk hk hz hw (Or.inl hi) (Nat.le_refl z)
theorem hld_eq {K F G : Nat → Int32} {z : Nat} (hk : okR K F G z) (hz : z ≤ 8) : hldX K F G z ↔ hldM K F G z := by
  unfold hldX hldM
  rw [tab_eq hk hz (Or.inl rfl), tab_eq hk hz (Or.inr rfl)]
