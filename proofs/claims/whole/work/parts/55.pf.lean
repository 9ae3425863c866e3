/-! The invariant, and that every call keeps it. -/
theorem shUp_at : ∀ (d q : Nat) (K : Nat → Int32) (i : Nat), d ≤ q → shUp K q d i = if q - d < i ∧ i ≤ q then K (i - 1) else K i
  | 0, q, K, i, _ => by rw [shUp, if_neg (by omega)]
  | d + 1, q, K, i, h => by
    rw [shUp, shUp_at d (q - 1) _ i (by omega)]
    by_cases h1 : q - 1 - d < i ∧ i ≤ q - 1
    · rw [if_pos h1, if_pos (by omega), pk_un (by omega)]
    · rw [if_neg h1]
      by_cases h2 : i = q
      · subst h2
        rw [pk_us, if_pos (by omega)]
      · rw [pk_un h2, if_neg (by omega)]
theorem shDn_at : ∀ (d q : Nat) (K : Nat → Int32) (i : Nat), shDn K q d i = if q ≤ i ∧ i < q + d then K (i + 1) else K i
  | 0, q, K, i => by rw [shDn, if_neg (by omega)]
  | d + 1, q, K, i => by
    rw [shDn, shDn_at d (q + 1) _ i]
    by_cases h1 : q + 1 ≤ i ∧ i < q + 1 + d
    · rw [if_pos h1, if_pos (by omega), pk_un (by omega)]
    · rw [if_neg h1]
      by_cases h2 : i = q
      · subst h2
        rw [pk_us, if_pos (by omega)]
      · rw [pk_un h2, if_neg (by omega)]
theorem revF_at : ∀ (d n i : Nat) (K : Nat → Int32) (x : Nat), i + d ≤ n / 2 → revF K n i d x = if (i ≤ x ∧ x < i + d) ∨ (n - 1 - (i + d) < x ∧ x ≤ n - 1 - i ∧ 0 < d) then K (n - 1 - x) else K x
  | 0, n, i, K, x, _ => by rw [revF, if_neg (by omega)]
  | d + 1, n, i, K, x, h => by
    rw [revF, revF_at d n (i + 1) _ x (by omega)]
    by_cases h1 : (i + 1 ≤ x ∧ x < i + 1 + d) ∨ (n - 1 - (i + 1 + d) < x ∧ x ≤ n - 1 - (i + 1) ∧ 0 < d)
    · rw [if_pos h1, if_pos (by omega), pk_un (by omega), pk_un (by omega)]
    · rw [if_neg h1]
      by_cases h2 : x = n - 1 - i
      · rw [h2, pk_us, if_pos (by omega), show n - 1 - (n - 1 - i) = i by omega]
      · rw [pk_un h2]
        by_cases h3 : x = i
        · subst h3
          rw [pk_us, if_pos (by omega)]
        · rw [pk_un h3, if_neg (by omega)]
theorem rev_at {n x : Nat} (K : Nat → Int32) (h : x < n) : revF K n 0 (n / 2) x = K (n - 1 - x) := by
  rw [revF_at (n / 2) n 0 K x (by omega)]
  by_cases h1 : (0 ≤ x ∧ x < 0 + n / 2) ∨ (n - 1 - (0 + n / 2) < x ∧ x ≤ n - 1 - 0 ∧ 0 < n / 2)
  · rw [if_pos h1]
  · rw [if_neg h1, show n - 1 - x = x by omega]
theorem appF_at : ∀ (d n q : Nat) (K M : Nat → Int32) (x : Nat), appF K M n q d x = if n ≤ x ∧ x < n + d then M (q + (x - n)) else K x
  | 0, n, q, K, M, x => by rw [appF, if_neg (by omega)]
  | d + 1, n, q, K, M, x => by
    rw [appF, appF_at d (n + 1) (q + 1) _ M x]
    by_cases h1 : n + 1 ≤ x ∧ x < n + 1 + d
    · rw [if_pos h1, if_pos (by omega), show q + 1 + (x - (n + 1)) = q + (x - n) by omega]
    · rw [if_neg h1]
      by_cases h2 : x = n
      · subst h2
        rw [pk_us, if_pos (by omega), show q + (x - x) = q by omega]
      · rw [pk_un h2, if_neg (by omega)]
/-- a sum over a row -/
def cN (g : Int32 → Nat) (K : Nat → Int32) : Nat → Nat
  | 0 => 0
  | n + 1 => cN g K n + g (K n)
def gB (k : Int32) : Nat := if k = 1 ∨ k = 2 then 1 else 0
def gT (k : Int32) : Nat := if k = 3 then 1 else 0
theorem nBent_cN (K : Nat → Int32) : ∀ n, nBent K n = cN gB K n
  | 0 => rfl
  | n + 1 => by rw [nBent, cN, nBent_cN K n]; rfl
theorem nTilt_cN (K : Nat → Int32) : ∀ n, nTilt K n = cN gT K n
  | 0 => rfl
  | n + 1 => by rw [nTilt, cN, nTilt_cN K n]; rfl
theorem cN_cong (g : Int32 → Nat) {K M : Nat → Int32} : ∀ {n : Nat}, (∀ i, i < n → K i = M i) → cN g K n = cN g M n
  | 0, _ => rfl
  | n + 1, h => by rw [cN, cN, cN_cong g (fun i hi => h i (by omega)), h n (by omega)]
theorem cN_ins (g : Int32 → Nat) {f K : Nat → Int32} {p : Nat} (h1 : ∀ i, i < p → f i = K i) : ∀ {n : Nat}, p ≤ n → (∀ i, p ≤ i → i < n → f (i + 1) = K i) → cN g f (n + 1) = cN g K n + g (f p)
  | 0, hp, _ => by
    obtain rfl : p = 0 := by omega
    rfl
  | n + 1, hp, h2 => by
    rcases (show p = n + 1 ∨ p ≤ n by omega) with e | e
    · subst e
      rw [cN, cN_cong g h1]
    · rw [cN, cN_ins g h1 e (fun i hi hi2 => h2 i hi (by omega)), h2 n e (by omega), cN]
      omega
theorem cN_shift (g : Int32 → Nat) (K : Nat → Int32) : ∀ n, cN g K (n + 1) = g (K 0) + cN g (fun i => K (i + 1)) n
  | 0 => by simp [cN]
  | n + 1 => by
    rw [cN, cN_shift g K n, cN]
    omega
theorem cN_rev (g : Int32 → Nat) : ∀ (n : Nat) (f K : Nat → Int32), (∀ i, i < n → f i = K (n - 1 - i)) → cN g f n = cN g K n
  | 0, _, _, _ => rfl
  | n + 1, f, K, h => by
    rw [cN_shift g K n, cN, cN_rev g n f (fun i => K (i + 1)) (fun i hi => by rw [h i (by omega)]; congr 1; omega), h n (by omega)]
    rw [show n + 1 - 1 - n = 0 by omega]
    omega
theorem cN_app (g : Int32 → Nat) {f K M : Nat → Int32} {n : Nat} (h1 : ∀ i, i < n → f i = K i) : ∀ {m : Nat}, (∀ i, i < m → f (n + i) = M i) → cN g f (n + m) = cN g K n + cN g M m
  | 0, _ => by
    show cN g f n = cN g K n + 0
    rw [cN_cong g h1, Nat.add_zero]
  | m + 1, h2 => by
    rw [← Nat.add_assoc, cN, cN_app g h1 (fun i hi => h2 i (by omega)), h2 m (by omega), cN]
    omega
/-- a bench as it may stand -/
def rowI (K F G : Nat → Int32) (z : Nat) : Prop := z ≤ 8 ∧ okR K F G z ∧ nBent K z ≤ 3 ∧ nTilt K z ≤ 2
theorem rowI_ins {K F G : Nat → Int32} {z p : Nat} {kd a c : Int32} (h : rowI K F G z) (hp : p ≤ z) (hg : gdP kd a c) (hf : ¬ (8 ≤ z ∨ ((kd = 1 ∨ kd = 2) ∧ 3 ≤ nBent K z) ∨ (kd = 3 ∧ 2 ≤ nTilt K z))) : rowI (upd (shUp K z (z - p)) p kd) (upd (shUp F z (z - p)) p a) (upd (shUp G z (z - p)) p c) (z + 1) := by
  obtain ⟨h1, h2, h3, h4⟩ := h
  have lo : ∀ (A : Nat → Int32) (v : Int32) (i : Nat), i < p → upd (shUp A z (z - p)) p v i = A i := fun A v i hi => by
    rw [pk_un (by omega), shUp_at _ _ _ _ (by omega), if_neg (by omega)]
  have hi_ : ∀ (A : Nat → Int32) (v : Int32) (i : Nat), p ≤ i → i < z → upd (shUp A z (z - p)) p v (i + 1) = A i := fun A v i hi hi2 => by
    rw [pk_un (by omega), shUp_at _ _ _ _ (by omega), if_pos (by omega)]
    rfl
  have hB : nBent (upd (shUp K z (z - p)) p kd) (z + 1) = nBent K z + gB kd := by
    rw [nBent_cN, nBent_cN, cN_ins gB (lo K kd) hp (hi_ K kd), pk_us]
  have hT : nTilt (upd (shUp K z (z - p)) p kd) (z + 1) = nTilt K z + gT kd := by
    rw [nTilt_cN, nTilt_cN, cN_ins gT (lo K kd) hp (hi_ K kd), pk_us]
  refine ⟨by omega, fun i hi => ?_, ?_, ?_⟩
  · rcases Nat.lt_trichotomy i p with q | q | q
    · rw [lo K _ i q, lo F _ i q, lo G _ i q]; exact h2 i (by omega)
    · subst q; rw [pk_us, pk_us, pk_us]; exact hg
    · obtain ⟨k, rfl⟩ : ∃ k, i = k + 1 := ⟨i - 1, by omega⟩
      rw [hi_ K _ k (by omega) (by omega), hi_ F _ k (by omega) (by omega), hi_ G _ k (by omega) (by omega)]
      exact h2 k (by omega)
  · rw [hB]
    unfold gB
    split
    · rename_i q
      have : ¬ 3 ≤ nBent K z := fun y => hf (Or.inr (Or.inl ⟨q, y⟩))
      omega
    · omega
  · rw [hT]
    unfold gT
    split
    · rename_i q
      have : ¬ 2 ≤ nTilt K z := fun y => hf (Or.inr (Or.inr ⟨q, y⟩))
      omega
    · omega
theorem rowI_rem {K F G : Nat → Int32} {z m p : Nat} (h : rowI K F G z) (hz : z = m + 1) (hp : p ≤ m) : rowI (shDn K p (m - p)) (shDn F p (m - p)) (shDn G p (m - p)) m := by
  subst hz
  obtain ⟨h1, h2, h3, h4⟩ := h
  have lo : ∀ (A : Nat → Int32) (i : Nat), i < p → shDn A p (m - p) i = A i := fun A i hi => by
    rw [shDn_at, if_neg (by omega)]
  have hi_ : ∀ (A : Nat → Int32) (i : Nat), p ≤ i → i < m → shDn A p (m - p) i = A (i + 1) := fun A i hi hi2 => by
    rw [shDn_at, if_pos (by omega)]
  have hB := cN_ins gB (f := K) (K := shDn K p (m - p)) (p := p) (fun i hi => (lo K i hi).symm) hp (fun i a b => (hi_ K i a b).symm)
  have hT := cN_ins gT (f := K) (K := shDn K p (m - p)) (p := p) (fun i hi => (lo K i hi).symm) hp (fun i a b => (hi_ K i a b).symm)
  rw [← nBent_cN, ← nBent_cN] at hB
  rw [← nTilt_cN, ← nTilt_cN] at hT
  refine ⟨by omega, fun i hi => ?_, by omega, by omega⟩
  rcases Nat.lt_or_ge i p with q | q
  · rw [lo K i q, lo F i q, lo G i q]; exact h2 i (by omega)
  · rw [hi_ K i q hi, hi_ F i q hi, hi_ G i q hi]; exact h2 (i + 1) (by omega)
theorem rowI_rev {K F G : Nat → Int32} {z : Nat} (h : rowI K F G z) : rowI (revF K z 0 (z / 2)) (revF F z 0 (z / 2)) (revF G z 0 (z / 2)) z := by
  obtain ⟨h1, h2, h3, h4⟩ := h
  refine ⟨h1, fun i hi => ?_, ?_, ?_⟩
  · rw [rev_at K hi, rev_at F hi, rev_at G hi]; exact h2 _ (by omega)
  · rw [nBent_cN, cN_rev gB z _ K (fun i hi => rev_at K hi), ← nBent_cN]; exact h3
  · rw [nTilt_cN, cN_rev gT z _ K (fun i hi => rev_at K hi), ← nTilt_cN]; exact h4
theorem rowI_app {K F G K2 F2 G2 : Nat → Int32} {z z2 : Nat} (h : rowI K F G z) (h' : rowI K2 F2 G2 z2) (hf : ¬ (8 < z + z2 ∨ 3 < nBent K z + nBent K2 z2 ∨ 2 < nTilt K z + nTilt K2 z2)) : rowI (appF K K2 z 0 z2) (appF F F2 z 0 z2) (appF G G2 z 0 z2) (z + z2) := by
  obtain ⟨h1, h2, h3, h4⟩ := h
  obtain ⟨g1, g2, g3, g4⟩ := h'
  have lo : ∀ (A B : Nat → Int32) (i : Nat), i < z → appF A B z 0 z2 i = A i := fun A B i hi => by
    rw [appF_at, if_neg (by omega)]
  have hi_ : ∀ (A B : Nat → Int32) (i : Nat), i < z2 → appF A B z 0 z2 (z + i) = B i := fun A B i hi => by
    rw [appF_at, if_pos (by omega), show 0 + (z + i - z) = i by omega]
  have hB : nBent (appF K K2 z 0 z2) (z + z2) = nBent K z + nBent K2 z2 := by
    rw [nBent_cN, nBent_cN, nBent_cN, cN_app gB (lo K K2) (hi_ K K2)]
  have hT : nTilt (appF K K2 z 0 z2) (z + z2) = nTilt K z + nTilt K2 z2 := by
    rw [nTilt_cN, nTilt_cN, nTilt_cN, cN_app gT (lo K K2) (hi_ K K2)]
  refine ⟨by omega, fun i hi => ?_, by omega, by omega⟩
  rcases Nat.lt_or_ge i z with q | q
  · rw [lo K K2 i q, lo F F2 i q, lo G G2 i q]; exact h2 i q
  · obtain ⟨k, rfl⟩ : ∃ k, i = z + k := ⟨i - z, by omega⟩
    rw [hi_ K K2 k (by omega), hi_ F F2 k (by omega), hi_ G G2 k (by omega)]
    exact g2 k (by omega)
theorem rowI_set {K F G : Nat → Int32} {z p : Nat} {a c : Int32} (h : rowI K F G z) (hg : gdP (K p) a c) : rowI K (upd F p a) (upd G p c) z := by
  obtain ⟨h1, h2, h3, h4⟩ := h
  refine ⟨h1, fun i hi => ?_, h3, h4⟩
  by_cases e : i = p
  · subst e; rw [pk_us, pk_us]; exact hg
  · rw [pk_un e, pk_un e]; exact h2 i hi
theorem rowI_swap {K F G : Nat → Int32} {z p : Nat} {a : Int32} (h : rowI K F G z) (hp : p < z) (h1 : K p = 1) (ha : bnt a) : rowI K (upd F p a) G z := by
  obtain ⟨g1, g2, g3, g4⟩ := h
  have hb : G p = 0 := by
    rcases g2 p hp with q | q | q | q | q
    · exact q.2.2
    · exact q.2.2
    · rw [h1] at q; exact absurd q.1 (by decide)
    · exact q.2.2
    · exact q.2.2
  exact ⟨g1, okR_upd g2 (fun _ => Or.inr (Or.inl ⟨h1, ha, hb⟩)), g3, g4⟩
theorem lens_bnt {K F G : Nat → Int32} {z p : Nat} (h : rowI K F G z) (hp : p < z) (h1 : K p = 1) : bnt (F p) := by
  rcases h.2.1 p hp with q | q | q | q | q
  · rw [h1] at q; exact absurd q.1 (by decide)
  · exact q.2.1
  · rw [h1] at q; exact absurd q.1 (by decide)
  · rw [h1] at q; exact absurd q.1 (by decide)
  · rw [h1] at q; exact absurd q.1 (by decide)
/-- the state as it may stand -/
def Inv (nb dn : Nat) (n : Nat → Nat) (K F G : Nat → Nat → Int32) (D : Nat → Int32) : Prop := nb ≤ 4 ∧ dn ≤ 12 ∧ (∀ b, rowI (K b) (F b) (G b) (n b)) ∧ (∀ b, nb ≤ b → n b = 0 ∧ K b = (fun _ => 0) ∧ F b = (fun _ => 0) ∧ G b = (fun _ => 0)) ∧ ∀ i, i < dn → bnt (D i)
theorem rowI_0 : rowI (fun _ => 0) (fun _ => 0) (fun _ => 0) 0 := ⟨by decide, fun i hi => absurd hi (by omega), by decide, by decide⟩
theorem Inv_0 : Inv 0 0 (fun _ => 0) (fun _ _ => 0) (fun _ _ => 0) (fun _ _ => 0) (fun _ => 0) := ⟨by decide, by decide, fun _ => rowI_0, fun _ _ => ⟨rfl, rfl, rfl, rfl⟩, fun i hi => absurd hi (by omega)⟩
theorem Inv_row {nb dn j m : Nat} {n : Nat → Nat} {K F G : Nat → Nat → Int32} {D : Nat → Int32} {R S U : Nat → Int32} (h : Inv nb dn n K F G D) (hj : j < nb) (hr : rowI R S U m) : Inv nb dn (va_up n j m) (va_up K j R) (va_up F j S) (va_up G j U) D := by
  obtain ⟨h1, h2, h3, h4, h5⟩ := h
  refine ⟨h1, h2, fun b => ?_, fun b hb => ?_, h5⟩
  · by_cases e : b = j
    · subst e; rw [vu_at, vu_at, vu_at, vu_at]; exact hr
    · rw [vu_ne _ _ e, vu_ne _ _ e, vu_ne _ _ e, vu_ne _ _ e]; exact h3 b
  · have e : b ≠ j := by omega
    rw [vu_ne _ _ e, vu_ne _ _ e, vu_ne _ _ e, vu_ne _ _ e]; exact h4 b hb
theorem Inv_bench {nb dn : Nat} {n : Nat → Nat} {K F G : Nat → Nat → Int32} {D : Nat → Int32} (h : Inv nb dn n K F G D) (hb : nb < 4) : Inv (nb + 1) dn n K F G D := by
  obtain ⟨h1, h2, h3, h4, h5⟩ := h
  exact ⟨by omega, h2, h3, fun b hb => h4 b (by omega), h5⟩
theorem Inv_own {nb dn : Nat} {n : Nat → Nat} {K F G : Nat → Nat → Int32} {D : Nat → Int32} {a : Int32} (h : Inv nb dn n K F G D) (ha : bnt a) (hd : dn < 12) : Inv nb (dn + 1) n K F G (upd D dn a) := by
  obtain ⟨h1, h2, h3, h4, h5⟩ := h
  refine ⟨h1, by omega, h3, h4, fun i hi => ?_⟩
  by_cases e : i = dn
  · subst e; rw [pk_us]; exact ha
  · rw [pk_un e]; exact h5 i (by omega)
theorem Inv_draw {nb dn q : Nat} {n : Nat → Nat} {K F G : Nat → Nat → Int32} {D : Nat → Int32} {a : Int32} (h : Inv nb dn n K F G D) (ha : bnt a) : Inv nb dn n K F G (upd D q a) := by
  obtain ⟨h1, h2, h3, h4, h5⟩ := h
  refine ⟨h1, h2, h3, h4, fun i hi => ?_⟩
  by_cases e : i = q
  · subst e; rw [pk_us]; exact ha
  · rw [pk_un e]; exact h5 i hi
