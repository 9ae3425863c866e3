/-! Rounds begun at other parts: T and what is below are alike; the waist; stops; lengths. -/
/-- of two tables, one behind the other, what the trace needs -/
abbrev cmA (S T : TB) : Int64 := ta S * ta T + tb S * tc T
abbrev cmB (S T : TB) : Int64 := ta S * tb T + tb S * td T
abbrev cmC (S T : TB) : Int64 := tc S * ta T + td S * tc T
abbrev cmD (S T : TB) : Int64 := tc S * tb T + td S * td T
/-- R is S behind T -/
def isC (R S T : TB) : Prop := ta R = cmA S T ∧ tb R = cmB S T ∧ tc R = cmC S T ∧ td R = cmD S T ∧ tg R = tg S * tg T
theorem isC_str (x : Int64) (T : TB) : isC (strF x T) (strF x T1) T := by
  unfold isC cmA cmB cmC cmD
  simp only [strF, T1, ta, tb, tc, td, te, tf, tg]
  refine ⟨?_, ?_, ?_, ?_, ?_⟩ <;> grind
theorem isC_til (x : Int64) (T : TB) : isC (tilF x T) (tilF x T1) T := by
  unfold isC cmA cmB cmC cmD
  simp only [tilF, T1, ta, tb, tc, td, te, tf, tg]
  refine ⟨?_, ?_, ?_, ?_, ?_⟩ <;> grind
theorem isC_ben (x : Int64) (T : TB) : isC (benF x T) (benF x T1) T := by
  unfold isC cmA cmB cmC cmD
  by_cases h : x < 0
  · simp only [benF, if_pos h, benG, T1, ta, tb, tc, td, te, tf, tg]
    refine ⟨?_, ?_, ?_, ?_, ?_⟩ <;> grind
  · simp only [benF, if_neg h, benG, T1, ta, tb, tc, td, te, tf, tg]
    refine ⟨?_, ?_, ?_, ?_, ?_⟩ <;> grind
theorem isC_one (T : TB) : isC T T1 T := by
  unfold isC cmA cmB cmC cmD
  simp only [T1, ta, tb, tc, td, te, tf, tg]
  refine ⟨?_, ?_, ?_, ?_, ?_⟩ <;> grind
theorem isC_go (k s : Int32) (T : TB) : isC (goF k s T) (goF k s T1) T := by
  unfold goF
  by_cases h0 : k = 0
  · rw [if_pos h0, if_pos h0]; exact isC_str _ T
  · rw [if_neg h0, if_neg h0]
    by_cases h1 : k = 1 ∨ k = 2
    · rw [if_pos h1, if_pos h1]; exact isC_ben _ T
    · rw [if_neg h1, if_neg h1]
      by_cases h3 : k = 3
      · rw [if_pos h3, if_pos h3]; exact isC_til _ T
      · rw [if_neg h3, if_neg h3]; exact isC_one T
theorem isC_assoc {A B C R X : TB} (h1 : isC R X C) (h2 : isC X A B) {Y : TB} (h3 : isC Y B C) : isC R A Y := by
  obtain ⟨a1, a2, a3, a4, a5⟩ := h1
  obtain ⟨b1, b2, b3, b4, b5⟩ := h2
  obtain ⟨c1, c2, c3, c4, c5⟩ := h3
  unfold isC cmA cmB cmC cmD at *
  rw [a1, a2, a3, a4, a5, b1, b2, b3, b4, b5, c1, c2, c3, c4, c5]
  refine ⟨?_, ?_, ?_, ?_, ?_⟩ <;> grind
theorem sq_C {K F G : Nat → Int32} {way : Int32} {z : Nat} : ∀ (d i : Nat) (T : TB), isC (sq K F G way z i T d) (sq K F G way z i T1 d) T
  | 0, _, T => isC_one T
  | d + 1, i, T => by
    have h1 := sq_C (K := K) (F := F) (G := G) (way := way) (z := z) d (i + 1) (goF (K (i % z)) (stg K F G way (i % z)) T)
    have h2 := sq_C (K := K) (F := F) (G := G) (way := way) (z := z) d (i + 1) (goF (K (i % z)) (stg K F G way (i % z)) T1)
    have h3 := isC_go (K (i % z)) (stg K F G way (i % z)) T
    -- sq (go T) = N (go T), go T = P T, sq (go T1) = N P
    obtain ⟨a1, a2, a3, a4, a5⟩ := h1
    obtain ⟨b1, b2, b3, b4, b5⟩ := h2
    obtain ⟨c1, c2, c3, c4, c5⟩ := h3
    show isC (sq K F G way z (i + 1) (goF (K (i % z)) (stg K F G way (i % z)) T) d) (sq K F G way z (i + 1) (goF (K (i % z)) (stg K F G way (i % z)) T1) d) T
    unfold isC cmA cmB cmC cmD at *
    rw [a1, a2, a3, a4, a5, b1, b2, b3, b4, b5, c1, c2, c3, c4, c5]
    refine ⟨?_, ?_, ?_, ?_, ?_⟩ <;> grind
theorem sq_last {K F G : Nat → Int32} {way : Int32} {z : Nat} : ∀ (d i : Nat) (T : TB), sq K F G way z i T (d + 1) = goF (K ((i + d) % z)) (stg K F G way ((i + d) % z)) (sq K F G way z i T d)
  | 0, _, _ => rfl
  | d + 1, i, T => by
    have h := sq_last (K := K) (F := F) (G := G) (way := way) (z := z) d (i + 1) (goF (K (i % z)) (stg K F G way (i % z)) T)
    rw [show i + 1 + d = i + (d + 1) by omega] at h
    exact h
theorem rot_next {K F G : Nat → Int32} {way : Int32} {z : Nat} (hz : 0 < z) (i : Nat) : sumF (sq K F G way z (i + 1) T1 z) = sumF (sq K F G way z i T1 z) ∧ tg (sq K F G way z (i + 1) T1 z) = tg (sq K F G way z i T1 z) := by
  obtain ⟨y, rfl⟩ : ∃ y, z = y + 1 := ⟨z - 1, by omega⟩
  have h1 : sq K F G way (y + 1) (i + 1) T1 (y + 1) = goF (K ((i + 1 + y) % (y + 1))) (stg K F G way ((i + 1 + y) % (y + 1))) (sq K F G way (y + 1) (i + 1) T1 y) := sq_last y (i + 1) T1
  rw [show i + 1 + y = i + (y + 1) by omega, Nat.add_mod_right] at h1
  have h2 : sq K F G way (y + 1) i T1 (y + 1) = sq K F G way (y + 1) (i + 1) (goF (K (i % (y + 1))) (stg K F G way (i % (y + 1))) T1) y := rfl
  have c1 := isC_go (K (i % (y + 1))) (stg K F G way (i % (y + 1))) (sq K F G way (y + 1) (i + 1) T1 y)
  have c2 := sq_C (K := K) (F := F) (G := G) (way := way) (z := y + 1) y (i + 1) (goF (K (i % (y + 1))) (stg K F G way (i % (y + 1))) T1)
  rw [← h1] at c1
  rw [← h2] at c2
  obtain ⟨a1, a2, a3, a4, a5⟩ := c1
  obtain ⟨b1, b2, b3, b4, b5⟩ := c2
  unfold sumF
  rw [a1, a4, a5, b1, b4, b5]
  unfold cmA cmD
  refine ⟨?_, ?_⟩ <;> grind
theorem rot_all {K F G : Nat → Int32} {way : Int32} {z : Nat} (hz : 0 < z) : ∀ i : Nat, sumF (sq K F G way z i T1 z) = sumF (sq K F G way z 0 T1 z) ∧ tg (sq K F G way z i T1 z) = tg (sq K F G way z 0 T1 z)
  | 0 => ⟨rfl, rfl⟩
  | i + 1 => by
    have h1 := rot_next (K := K) (F := F) (G := G) (way := way) hz i
    have h2 := rot_all (K := K) (F := F) (G := G) (way := way) hz i
    exact ⟨h1.1.trans h2.1, h1.2.trans h2.2⟩
theorem rot_btw {K F G : Nat → Int32} {way : Int32} {z i : Nat} (hk : okR K F G z) (hz : z ≤ 8) (hw : way = 0 ∨ way = 1) (hi : i < z) : btw (rotM K F G way z i) ↔ btw (tabM K F G way z) := by
  have h0 : 0 < z := by omega
  have e1 : rotM K F G way z i = sq K F G way z i T1 z := (wrk_sq h0 hk hw z i T1 (by decide) (pow9 hz)).1
  have e2 : tabM K F G way z = sq K F G way z 0 T1 z := (wrk_sq h0 hk hw z 0 T1 (by decide) (pow9 hz)).1
  have h := rot_all (K := K) (F := F) (G := G) (way := way) h0 i
  unfold btw
  rw [e1, e2, h.1, h.2]
theorem wai_eq {K F G : Nat → Int32} {way : Int32} {z : Nat} (hk : okR K F G z) (hz : z ≤ 8) (hw : way = 0 ∨ way = 1) (hb : btw (tabM K F G way z)) : ∀ (d i : Nat) (best : Int32) (least : Int64), ¬ best < 0 → i + d ≤ z → waiM K F G way z best least i d = waiX K F G way z best least i d
  | 0, _, _, _, _, _ => rfl
  | d + 1, i, best, least, h1, h2 => by
    have hi : i < z := by omega
    rw [waiM, waiX, if_pos ((rot_btw hk hz hw hi).mpr hb), if_neg h1, rot_eq hk hz hw hi]
    by_cases hc : least ≤ absL (tb (rotM K F G way z i))
    · rw [if_pos hc, if_neg (Int64.not_lt.mpr hc), wai_eq hk hz hw hb d (i + 1) _ _ h1 (by omega)]
    · rw [if_neg hc, if_pos (Int64.not_le.mp hc), wai_eq hk hz hw hb d (i + 1) _ _ (nI_pos (by omega)) (by omega)]
theorem waiR_eq {K F G : Nat → Int32} {way : Int32} {z y : Nat} (hk : okR K F G z) (hz : z ≤ 8) (hw : way = 0 ∨ way = 1) (hy : z = y + 1) : waiXR K F G way z y = waiM K F G way z (-1) 0 0 z := by
  have h0 : 0 < z := by omega
  have e0 : rotM K F G way z 0 = tabM K F G way z := rfl
  have e1 : ∀ q, waiM K F G way z (-1) 0 0 (q + 1) = if btw (tabM K F G way z) then waiM K F G way z (nI 0) (absL (tb (tabM K F G way z))) 1 q else -1 := by
    intro q
    rw [waiM, e0, if_pos (show (-1 : Int32) < 0 by decide)]
  rw [waiXR, tab_eq hk hz hw]
  have e2 : waiM K F G way z (-1) 0 0 z = waiM K F G way z (-1) 0 0 (y + 1) := by rw [← hy]
  rw [e2, e1]
  by_cases hb : btw (tabM K F G way z)
  · rw [if_pos hb, if_pos hb]
    exact (wai_eq hk hz hw hb y 1 0 _ (by decide) (by omega)).symm
  · rw [if_neg hb, if_neg hb]
/-! stops -/
theorem sto_eq {K F G : Nat → Int32} {way : Int32} {z : Nat} {x y : Int64} (hk : okR K F G z) (hz : z ≤ 8) (hw : way = 0 ∨ way = 1) : ∀ (d i : Nat) (T : TB), i + d = z → 0 < (tg T).toInt → (tg T).toInt * 9 ^ d ≤ 9 ^ 8 → stoX K F G way x y i T d = (stoM K F G way x y i T d).1
  | 0, _, _, _, _, _ => rfl
  | d + 1, i, T, hi, h1, h2 => by
    have hp : (9 : Int) ^ (d + 1) = 9 * 9 ^ d := by rw [Int.pow_succ]; omega
    have hq : (1 : Int) ≤ 9 ^ d := by have : (0 : Int) < 9 ^ d := Int.pow_pos (by decide); omega
    have h3 : (tg T).toInt * 9 ^ (d + 1) = (9 * (tg T).toInt) * 9 ^ d := by rw [hp, ← Int.mul_assoc, Int.mul_comm (tg T).toInt 9]
    have h4 : 9 * (tg T).toInt * 1 ≤ 9 * (tg T).toInt * 9 ^ d := Int.mul_le_mul_of_nonneg_left hq (by omega)
    obtain ⟨e, g1, g2⟩ := goM_goF (way := way) (T := T) (hk i (by omega)) hw h1 (by omega)
    have e' : goM (K i) (F i) (G i) way T = goF (K i) (stg K F G way i) T := e
    have g1' : 0 < (tg (goF (K i) (stg K F G way i) T)).toInt := g1
    have g2' : (tg (goF (K i) (stg K F G way i) T)).toInt ≤ 9 * (tg T).toInt := g2
    have h5 : (tg (goF (K i) (stg K F G way i) T)).toInt * 9 ^ d ≤ 9 * (tg T).toInt * 9 ^ d := Int.mul_le_mul_of_nonneg_right g2' (by omega)
    have ih := sto_eq (x := x) (y := y) hk hz hw d (i + 1) (goF (K i) (stg K F G way i) T) (by omega) g1' (by rw [h3] at h2; omega)
    rw [stoX, stoM, e']
    by_cases h4' : K i = 4
    · have eT : goF (K i) (stg K F G way i) T = T := by rw [h4']; rfl
      rw [eT] at ih ⊢
      by_cases hc : ¬ absL (farF T x y) ≤ (F i).toInt64 * tg T
      · rw [if_pos ⟨h4', hc⟩, if_pos ⟨h4', hc⟩]
      · rw [if_neg (fun q => hc q.2), if_neg (fun q => hc q.2)]
        exact ih
    · rw [if_neg (fun q => h4' q.1), if_neg (fun q => h4' q.1)]
      exact ih
theorem stoR_eq {K F G : Nat → Int32} {way : Int32} {z : Nat} {x y : Int64} (hk : okR K F G z) (hz : z ≤ 8) (hw : way = 0 ∨ way = 1) : stoX K F G way x y 0 T1 z = (stoM K F G way x y 0 T1 z).1 := sto_eq hk hz hw z 0 T1 (by omega) (by decide) (pow9 hz)
/-! lengths and the drawer -/
theorem okR_upd {K F G : Nat → Int32} {z p : Nat} {a : Int32} (hk : okR K F G z) (h : p < z → gdP (K p) a (G p)) : okR K (upd F p a) G z := by
  intro i hi
  by_cases e : i = p
  · subst e; rw [pk_us]; exact h hi
  · rw [pk_un e]; exact hk i hi
theorem spn_eq {K F G : Nat → Int32} {z p : Nat} (hk : okR K F G z) (hz : z ≤ 8) (hp : p < z) (h0 : K p = 0) : ∀ (d a left : Nat), a + d = 21 → spnX K F G z p a left d = spnM K F G z p a left d
  | 0, _, _, _ => rfl
  | d + 1, a, left, h => by
    have hg : gdP (K p) (nI a) (G p) := by
      have hb : G p = 0 := by
        rcases hk p hp with q | q | q | q | q
        · exact q.2.2
        · exact q.2.2
        · rw [h0] at q; exact absurd q.1 (by decide)
        · exact q.2.2
        · exact q.2.2
      refine Or.inl ⟨h0, ⟨nI_pos (by omega), ?_⟩, hb⟩
      have := (nI_ltI (a := 20) (b := a) (by decide) (by omega))
      intro q
      have := this.mp q
      omega
    have e := hld_eq (okR_upd (a := nI a) hk (fun _ => hg)) hz
    rw [spnX, spnM, spn_eq hk hz hp h0 d (a + 1) _ (by omega), spn_eq hk hz hp h0 d (a + 1) _ (by omega)]
    by_cases hh : hldM K (upd F p (nI a)) G z
    · rw [if_pos hh, if_pos (e.mpr hh)]
    · rw [if_neg hh, if_neg (fun q => hh (e.mp q))]
theorem fit_eq {K F G D : Nat → Int32} {z p n : Nat} (hk : okR K F G z) (hz : z ≤ 8) (hp : p < z) (h1 : K p = 1) (hD : ∀ i, i < n → bnt (D i)) : ∀ (d a : Nat), a + d = n → fitX K F G D z p a d = fitM K F G D z p a d
  | 0, _, _ => rfl
  | d + 1, a, h => by
    have hg : gdP (K p) (D a) (G p) := by
      have hb : G p = 0 := by
        rcases hk p hp with q | q | q | q | q
        · exact q.2.2
        · exact q.2.2
        · rw [h1] at q; exact absurd q.1 (by decide)
        · exact q.2.2
        · exact q.2.2
      exact Or.inr (Or.inl ⟨h1, hD a (by omega), hb⟩)
    have e := hld_eq (okR_upd (a := D a) hk (fun _ => hg)) hz
    rw [fitX, fitM, fit_eq hk hz hp h1 hD d (a + 1) (by omega)]
    by_cases hh : hldM K (upd F p (D a)) G z
    · rw [if_pos hh, if_pos (e.mpr hh)]
    · rw [if_neg hh, if_neg (fun q => hh (e.mp q))]
theorem cnt_eq {K F G : Nat → Nat → Int32} {n : Nat → Nat} : ∀ (nb : Nat), (∀ b, b < nb → okR (K b) (F b) (G b) (n b) ∧ n b ≤ 8) → cntX K F G n nb = cntM K F G n nb
  | 0, _ => rfl
  | b + 1, h => by
    have e := hld_eq (h b (by omega)).1 (h b (by omega)).2
    rw [cntX, cntM, cnt_eq b (fun x hx => h x (by omega))]
    by_cases hh : hldM (K b) (F b) (G b) (n b)
    · rw [if_pos hh, if_pos (e.mpr hh)]
    · rw [if_neg hh, if_neg (fun q => hh (e.mp q))]
