theorem rows_closeN {E : zE} {ad : zAd} {n : Nat → Nat} {K F G : Nat → Nat → Int32} {nb j : Nat} {R S U : Nat → Int32} (h : j < nb) : (rowsW E ad n (va_up K j R) (va_up F j S) (va_up G j U) (List.range nb)).Perm (rQ E (ad j) (n j) R S U ++ rowsW E ad n K F G ((List.range nb).erase j)) := by
  have q := rows_close (E := E) (ad := ad) (n := n) (K := K) (F := F) (G := G) (m := n j) (R := R) (S := S) (U := U) h
  rw [vu_self] at q
  exact q
theorem rows_closeF {E : zE} {ad : zAd} {n : Nat → Nat} {K F G : Nat → Nat → Int32} {nb j : Nat} {S U : Nat → Int32} (h : j < nb) : (rowsW E ad n K (va_up F j S) (va_up G j U) (List.range nb)).Perm (rQ E (ad j) (n j) (K j) S U ++ rowsW E ad n K F G ((List.range nb).erase j)) := by
  have q := rows_closeN (E := E) (ad := ad) (n := n) (K := K) (F := F) (G := G) (R := K j) (S := S) (U := U) h
  rw [vu_self] at q
  exact q
theorem rows_closeG {E : zE} {ad : zAd} {n : Nat → Nat} {K F G : Nat → Nat → Int32} {nb j : Nat} {S : Nat → Int32} (h : j < nb) : (rowsW E ad n K (va_up F j S) G (List.range nb)).Perm (rQ E (ad j) (n j) (K j) S (G j) ++ rowsW E ad n K F G ((List.range nb).erase j)) := by
  have q := rows_closeF (E := E) (ad := ad) (n := n) (K := K) (F := F) (G := G) (S := S) (U := G j) h
  rw [vu_self] at q
  exact q
theorem Inv_rowN {nb dn j : Nat} {n : Nat → Nat} {K F G : Nat → Nat → Int32} {D : Nat → Int32} {R S U : Nat → Int32} (h : Inv nb dn n K F G D) (hj : j < nb) (hr : rowI R S U (n j)) : Inv nb dn n (va_up K j R) (va_up F j S) (va_up G j U) D := by
  have q := Inv_row h hj hr
  rw [vu_self] at q
  exact q
theorem Inv_rowF {nb dn j : Nat} {n : Nat → Nat} {K F G : Nat → Nat → Int32} {D : Nat → Int32} {S U : Nat → Int32} (h : Inv nb dn n K F G D) (hj : j < nb) (hr : rowI (K j) S U (n j)) : Inv nb dn n K (va_up F j S) (va_up G j U) D := by
  have q := Inv_rowN h hj hr
  rw [vu_self] at q
  exact q
theorem Inv_rowG {nb dn j : Nat} {n : Nat → Nat} {K F G : Nat → Nat → Int32} {D : Nat → Int32} {S : Nat → Int32} (h : Inv nb dn n K F G D) (hj : j < nb) (hr : rowI (K j) S (G j) (n j)) : Inv nb dn n K (va_up F j S) G D := by
  have q := Inv_rowF h hj hr
  rw [vu_self] at q
  exact q
theorem p_two {E : zE} {ad : zAd} {n : Nat → Nat} {K F G : Nat → Nat → Int32} {nb j j2 : Nat} {A q : va_W} (h2 : j2 < nb) (hne : ¬ j2 = j) (hA : A.Perm (q ++ rowsW E ad n K F G ((List.range nb).erase j))) : A.Perm ((q ++ rQ E (ad j2) (n j2) (K j2) (F j2) (G j2)) ++ rowsW E ad n K F G (((List.range nb).erase j).erase j2)) := by
  refine hA.trans ?_
  rw [List.append_assoc]
  exact List.Perm.append_left q (rows_open ((List.mem_erase_of_ne hne).mpr (List.mem_range.mpr h2)))
theorem op_take {E : zE} {J : zJ} {nm : String} {b L : Nat} {xs : Nat → Int32} {c n : Nat} {x h i rw ln t1 t2 : Nat} {ad : zAd} {m1 m2 m3 m4 m5 m6 nb dn : Nat} {sz : Nat → Nat} {K F G : Nat → Nat → Int32} {D : Nat → Int32} {A B T : TB} (W : zLw E J nm b L xs) (hL : L ≤ 4096) (hi : i + 8 ≤ L) (hcn : c + 4 ≤ 623441 ∧ n + 28 ≤ 7231924) (hI : Inv nb dn sz K F G D) (kk : lNx E J x h c n (lV b x h i)) : J c n (lW E x rw ln t1 t2 ad h m1 m2 m3 m4 m5 m6 nb dn sz K F G D A B T) 224 (lV b x h i) [] := by
  have wk := wk_take (x := x) (h := h) W hL hi hcn
  generalize xs (i + 1) = a1, xs (i + 2) = a2 at wk
  by_cases hb : inB nb a1
  · obtain ⟨j, hj, rfl⟩ := inB_of hb
    have hr := hI.2.2.1 j
    by_cases hv : inB (sz j) a2
    · obtain ⟨p, hp, rfl⟩ := inB_of hv
      obtain ⟨m, hm⟩ : ∃ m, sz j = m + 1 := ⟨sz j - 1, by omega⟩
      exact l_gen wk W.ok kk _ _ rfl (rows_open (List.mem_range.mpr hj)) (rows_close hj) (qX2_take E x rw ln t1 t2 nb dn (rfF ad nb) D A B _ _ _ _ (K j) (F j) (G j) (sz j) j p m hI.1 hj (rfF_in hj) (hI.2.2.1 j).1 hp hm) (fun _ _ h => ⟨h.1, A, B, h.2⟩) (qX3_take E h m1 m2 m3 m4 m5 m6 nb dn sz K F G D T j p m hI.1 (fun b => (hI.2.2.1 b).1) hj hp hm) (fun _ _ h => ⟨h.1, T, h.2⟩) (Inv_row hI hj (rowI_rem hr hm (by omega)))
    · exact l_gen wk W.ok kk _ _ rfl (rows_open (List.mem_range.mpr hj)) (rows_open (List.mem_range.mpr hj)) (qX2_takeN E x rw ln t1 t2 nb dn (rfF ad nb) D A B _ _ _ _ (K j) (F j) (G j) (sz j) j a2 hI.1 hj (rfF_in hj) (hI.2.2.1 j).1  hv) (fun _ _ h => ⟨h.1, A, B, h.2⟩) (qX3_takeN E h m1 m2 m3 m4 m5 m6 nb dn sz K F G D T _ a2 hI.1 (fun b => (hI.2.2.1 b).1)  (fun ⟨j', hj', e, q⟩ => hv (by cases nIj hj hj' hI.1 e; exact q))) (fun _ _ h => ⟨h.1, T, h.2⟩) hI
  · exact l_gen wk W.ok kk _ _ rfl p_0 p_0 (qX2_takeO E x rw ln t1 t2 nb dn (rfF ad nb) D A B a1 a2 hI.1 hb) (fun _ _ h => ⟨h.1, A, B, h.2⟩) (qX3_takeN E h m1 m2 m3 m4 m5 m6 nb dn sz K F G D T a1 a2 hI.1 (fun b => (hI.2.2.1 b).1)  (fun ⟨j', hj', e, _⟩ => hb (by rw [e]; exact inB_nI hj' (by have := hI.1; omega)))) (fun _ _ h => ⟨h.1, T, h.2⟩) hI
theorem op_put {E : zE} {J : zJ} {nm : String} {b L : Nat} {xs : Nat → Int32} {c n : Nat} {x h i rw ln t1 t2 : Nat} {ad : zAd} {m1 m2 m3 m4 m5 m6 nb dn : Nat} {sz : Nat → Nat} {K F G : Nat → Nat → Int32} {D : Nat → Int32} {A B T : TB} (W : zLw E J nm b L xs) (hL : L ≤ 4096) (hi : i + 8 ≤ L) (hcn : c + 4 ≤ 623441 ∧ n + 28 ≤ 7231924) (hI : Inv nb dn sz K F G D) (kk : lNx E J x h c n (lV b x h i)) : J c n (lW E x rw ln t1 t2 ad h m1 m2 m3 m4 m5 m6 nb dn sz K F G D A B T) 161 (lV b x h i) [] := by
  have wk := wk_put (x := x) (h := h) W hL hi hcn
  generalize xs (i + 1) = a1, xs (i + 2) = a2, xs (i + 3) = a3, xs (i + 4) = a4, xs (i + 5) = a5 at wk
  by_cases hb : inB nb a1
  · obtain ⟨j, hj, rfl⟩ := inB_of hb
    have hr := hI.2.2.1 j
    by_cases hv : inB (sz j + 1) a2
    · obtain ⟨p, hp, rfl⟩ := inB_of hv
      have hp := Nat.le_of_lt_succ hp
      by_cases hg : gdP a3 a4 a5
      · by_cases hf : 8 ≤ sz j ∨ ((a3 = 1 ∨ a3 = 2) ∧ 3 ≤ nBent (K j) (sz j)) ∨ (a3 = 3 ∧ 2 ≤ nTilt (K j) (sz j))
        · exact l_gen wk W.ok kk _ _ rfl (rows_open (List.mem_range.mpr hj)) (rows_open (List.mem_range.mpr hj)) (qX2_putF E x rw ln t1 t2 nb dn (rfF ad nb) D A B _ _ _ _ (K j) (F j) (G j) (sz j) j p a3 a4 a5 hI.1 hj (rfF_in hj) (hI.2.2.1 j).1 hp hg hf) (fun _ _ h => ⟨h.1, A, B, h.2⟩) (qX3_putF E h m1 m2 m3 m4 m5 m6 nb dn sz K F G D T j p a3 a4 a5 hI.1 (fun b => (hI.2.2.1 b).1) hj hp hg hr.2.2.1 hr.2.2.2 hf) (fun _ _ h => ⟨h.1, T, h.2⟩) hI
        · exact l_gen wk W.ok kk _ _ rfl (rows_open (List.mem_range.mpr hj)) (rows_close hj) (qX2_put E x rw ln t1 t2 nb dn (rfF ad nb) D A B _ _ _ _ (K j) (F j) (G j) (sz j) j p a3 a4 a5 hI.1 hj (rfF_in hj) (hI.2.2.1 j).1 hp hg hf) (fun _ _ h => ⟨h.1, A, B, h.2⟩) (qX3_put E h m1 m2 m3 m4 m5 m6 nb dn sz K F G D T j p a3 a4 a5 hI.1 (fun b => (hI.2.2.1 b).1) hj hp hg hf) (fun _ _ h => ⟨h.1, T, h.2⟩) (Inv_row hI hj (rowI_ins hr hp hg hf))
      · exact l_gen wk W.ok kk _ _ rfl (rows_open (List.mem_range.mpr hj)) (rows_open (List.mem_range.mpr hj)) (qX2_putB E x rw ln t1 t2 nb dn (rfF ad nb) D A B _ _ _ _ (K j) (F j) (G j) (sz j) j p a3 a4 a5 hI.1 hj (rfF_in hj) (hI.2.2.1 j).1 hp hg) (fun _ _ h => ⟨h.1, A, B, h.2⟩) (qX3_putB E h m1 m2 m3 m4 m5 m6 nb dn sz K F G D T j p a3 a4 a5 hI.1 (fun b => (hI.2.2.1 b).1) hj hp hg) (fun _ _ h => ⟨h.1, T, h.2⟩) hI
    · exact l_gen wk W.ok kk _ _ rfl (rows_open (List.mem_range.mpr hj)) (rows_open (List.mem_range.mpr hj)) (qX2_putN E x rw ln t1 t2 nb dn (rfF ad nb) D A B _ _ _ _ (K j) (F j) (G j) (sz j) j a2 a3 a4 a5 hI.1 hj (rfF_in hj) (hI.2.2.1 j).1  hv) (fun _ _ h => ⟨h.1, A, B, h.2⟩) (qX3_putN E h m1 m2 m3 m4 m5 m6 nb dn sz K F G D T _ a2 a3 a4 a5 hI.1 (fun b => (hI.2.2.1 b).1)  (fun ⟨j', hj', e, q⟩ => hv (by cases nIj hj hj' hI.1 e; exact q))) (fun _ _ h => ⟨h.1, T, h.2⟩) hI
  · exact l_gen wk W.ok kk _ _ rfl p_0 p_0 (qX2_putO E x rw ln t1 t2 nb dn (rfF ad nb) D A B a1 a2 a3 a4 a5 hI.1 hb) (fun _ _ h => ⟨h.1, A, B, h.2⟩) (qX3_putN E h m1 m2 m3 m4 m5 m6 nb dn sz K F G D T a1 a2 a3 a4 a5 hI.1 (fun b => (hI.2.2.1 b).1)  (fun ⟨j', hj', e, _⟩ => hb (by rw [e]; exact inB_nI hj' (by have := hI.1; omega)))) (fun _ _ h => ⟨h.1, T, h.2⟩) hI
theorem op_set {E : zE} {J : zJ} {nm : String} {b L : Nat} {xs : Nat → Int32} {c n : Nat} {x h i rw ln t1 t2 : Nat} {ad : zAd} {m1 m2 m3 m4 m5 m6 nb dn : Nat} {sz : Nat → Nat} {K F G : Nat → Nat → Int32} {D : Nat → Int32} {A B T : TB} (W : zLw E J nm b L xs) (hL : L ≤ 4096) (hi : i + 8 ≤ L) (hcn : c + 4 ≤ 623441 ∧ n + 28 ≤ 7231924) (hI : Inv nb dn sz K F G D) (kk : lNx E J x h c n (lV b x h i)) : J c n (lW E x rw ln t1 t2 ad h m1 m2 m3 m4 m5 m6 nb dn sz K F G D A B T) 257 (lV b x h i) [] := by
  have wk := wk_set (x := x) (h := h) W hL hi hcn
  generalize xs (i + 1) = a1, xs (i + 2) = a2, xs (i + 3) = a3, xs (i + 4) = a4 at wk
  by_cases hb : inB nb a1
  · obtain ⟨j, hj, rfl⟩ := inB_of hb
    have hr := hI.2.2.1 j
    by_cases hv : inB (sz j) a2
    · obtain ⟨p, hp, rfl⟩ := inB_of hv
      by_cases hg : gdP (K j p) a3 a4
      · exact l_gen wk W.ok kk _ _ rfl (rows_open (List.mem_range.mpr hj)) (rows_closeF hj) (qX2_set E x rw ln t1 t2 nb dn (rfF ad nb) D A B _ _ _ _ (K j) (F j) (G j) (sz j) j p a3 a4 hI.1 hj (rfF_in hj) (hI.2.2.1 j).1 hp hg) (fun _ _ h => ⟨h.1, A, B, h.2⟩) (qX3_set E h m1 m2 m3 m4 m5 m6 nb dn sz K F G D T j p a3 a4 hI.1 (fun b => (hI.2.2.1 b).1) hj hp hg) (fun _ _ h => ⟨h.1, T, h.2⟩) (Inv_rowF hI hj (rowI_set hr hg))
      · exact l_gen wk W.ok kk _ _ rfl (rows_open (List.mem_range.mpr hj)) (rows_open (List.mem_range.mpr hj)) (qX2_setB E x rw ln t1 t2 nb dn (rfF ad nb) D A B _ _ _ _ (K j) (F j) (G j) (sz j) j p a3 a4 hI.1 hj (rfF_in hj) (hI.2.2.1 j).1 hp hg) (fun _ _ h => ⟨h.1, A, B, h.2⟩) (qX3_setB E h m1 m2 m3 m4 m5 m6 nb dn sz K F G D T j p a3 a4 hI.1 (fun b => (hI.2.2.1 b).1) hj hp hg) (fun _ _ h => ⟨h.1, T, h.2⟩) hI
    · exact l_gen wk W.ok kk _ _ rfl (rows_open (List.mem_range.mpr hj)) (rows_open (List.mem_range.mpr hj)) (qX2_setN E x rw ln t1 t2 nb dn (rfF ad nb) D A B _ _ _ _ (K j) (F j) (G j) (sz j) j a2 a3 a4 hI.1 hj (rfF_in hj) (hI.2.2.1 j).1  hv) (fun _ _ h => ⟨h.1, A, B, h.2⟩) (qX3_setN E h m1 m2 m3 m4 m5 m6 nb dn sz K F G D T _ a2 a3 a4 hI.1 (fun b => (hI.2.2.1 b).1)  (fun ⟨j', hj', e, q⟩ => hv (by cases nIj hj hj' hI.1 e; exact q))) (fun _ _ h => ⟨h.1, T, h.2⟩) hI
  · exact l_gen wk W.ok kk _ _ rfl p_0 p_0 (qX2_setO E x rw ln t1 t2 nb dn (rfF ad nb) D A B a1 a2 a3 a4 hI.1 hb) (fun _ _ h => ⟨h.1, A, B, h.2⟩) (qX3_setN E h m1 m2 m3 m4 m5 m6 nb dn sz K F G D T a1 a2 a3 a4 hI.1 (fun b => (hI.2.2.1 b).1)  (fun ⟨j', hj', e, _⟩ => hb (by rw [e]; exact inB_nI hj' (by have := hI.1; omega)))) (fun _ _ h => ⟨h.1, T, h.2⟩) hI
theorem op_part {E : zE} {J : zJ} {nm : String} {b L : Nat} {xs : Nat → Int32} {c n : Nat} {x h i rw ln t1 t2 : Nat} {ad : zAd} {m1 m2 m3 m4 m5 m6 nb dn : Nat} {sz : Nat → Nat} {K F G : Nat → Nat → Int32} {D : Nat → Int32} {A B T : TB} (W : zLw E J nm b L xs) (hL : L ≤ 4096) (hi : i + 8 ≤ L) (hcn : c + 4 ≤ 623441 ∧ n + 28 ≤ 7231924) (hI : Inv nb dn sz K F G D) (kk : lNx E J x h c n (lV b x h i)) : J c n (lW E x rw ln t1 t2 ad h m1 m2 m3 m4 m5 m6 nb dn sz K F G D A B T) 310 (lV b x h i) [] := by
  have wk := wk_part (x := x) (h := h) W hL hi hcn
  generalize xs (i + 1) = a1, xs (i + 2) = a2, xs (i + 3) = a3 at wk
  by_cases hb : inB nb a1
  · obtain ⟨j, hj, rfl⟩ := inB_of hb
    have hr := hI.2.2.1 j
    by_cases hv : inB (sz j) a2 ∧ (a3 = 0 ∨ a3 = 1 ∨ a3 = 2)
    · obtain ⟨h6, hw⟩ := hv
      obtain ⟨p, hp, rfl⟩ := inB_of h6
      rcases hw with rfl | rfl | rfl
      · exact l_gen wk W.ok kk _ _ rfl (rows_open (List.mem_range.mpr hj)) (rows_open (List.mem_range.mpr hj)) (qX2_part0 E x rw ln t1 t2 nb dn (rfF ad nb) D A B _ _ _ _ (K j) (F j) (G j) (sz j) j p hI.1 hj (rfF_in hj) (hI.2.2.1 j).1 hp) (fun _ _ h => ⟨h.1, A, B, h.2⟩) (qX3_part0 E h m1 m2 m3 m4 m5 m6 nb dn sz K F G D T j p hI.1 (fun b => (hI.2.2.1 b).1) hj hp) (fun _ _ h => ⟨h.1, T, h.2⟩) hI
      · exact l_gen wk W.ok kk _ _ rfl (rows_open (List.mem_range.mpr hj)) (rows_open (List.mem_range.mpr hj)) (qX2_part1 E x rw ln t1 t2 nb dn (rfF ad nb) D A B _ _ _ _ (K j) (F j) (G j) (sz j) j p hI.1 hj (rfF_in hj) (hI.2.2.1 j).1 hp) (fun _ _ h => ⟨h.1, A, B, h.2⟩) (qX3_part1 E h m1 m2 m3 m4 m5 m6 nb dn sz K F G D T j p hI.1 (fun b => (hI.2.2.1 b).1) hj hp) (fun _ _ h => ⟨h.1, T, h.2⟩) hI
      · exact l_gen wk W.ok kk _ _ rfl (rows_open (List.mem_range.mpr hj)) (rows_open (List.mem_range.mpr hj)) (qX2_part2 E x rw ln t1 t2 nb dn (rfF ad nb) D A B _ _ _ _ (K j) (F j) (G j) (sz j) j p hI.1 hj (rfF_in hj) (hI.2.2.1 j).1 hp) (fun _ _ h => ⟨h.1, A, B, h.2⟩) (qX3_part2 E h m1 m2 m3 m4 m5 m6 nb dn sz K F G D T j p hI.1 (fun b => (hI.2.2.1 b).1) hj hp) (fun _ _ h => ⟨h.1, T, h.2⟩) hI
    · exact l_gen wk W.ok kk _ _ rfl (rows_open (List.mem_range.mpr hj)) (rows_open (List.mem_range.mpr hj)) (qX2_partN E x rw ln t1 t2 nb dn (rfF ad nb) D A B _ _ _ _ (K j) (F j) (G j) (sz j) j a2 a3 hI.1 hj (rfF_in hj) (hI.2.2.1 j).1  hv) (fun _ _ h => ⟨h.1, A, B, h.2⟩) (qX3_partN E h m1 m2 m3 m4 m5 m6 nb dn sz K F G D T _ a2 a3 hI.1 (fun b => (hI.2.2.1 b).1)  (fun ⟨j', hj', e, q⟩ => hv (by cases nIj hj hj' hI.1 e; exact q))) (fun _ _ h => ⟨h.1, T, h.2⟩) hI
  · exact l_gen wk W.ok kk _ _ rfl p_0 p_0 (qX2_partO E x rw ln t1 t2 nb dn (rfF ad nb) D A B a1 a2 a3 hI.1 hb) (fun _ _ h => ⟨h.1, A, B, h.2⟩) (qX3_partN E h m1 m2 m3 m4 m5 m6 nb dn sz K F G D T a1 a2 a3 hI.1 (fun b => (hI.2.2.1 b).1)  (fun ⟨j', hj', e, _⟩ => hb (by rw [e]; exact inB_nI hj' (by have := hI.1; omega)))) (fun _ _ h => ⟨h.1, T, h.2⟩) hI
theorem op_turn {E : zE} {J : zJ} {nm : String} {b L : Nat} {xs : Nat → Int32} {c n : Nat} {x h i rw ln t1 t2 : Nat} {ad : zAd} {m1 m2 m3 m4 m5 m6 nb dn : Nat} {sz : Nat → Nat} {K F G : Nat → Nat → Int32} {D : Nat → Int32} {A B T : TB} (W : zLw E J nm b L xs) (hL : L ≤ 4096) (hi : i + 8 ≤ L) (hcn : c + 4 ≤ 623441 ∧ n + 28 ≤ 7231924) (hI : Inv nb dn sz K F G D) (kk : lNx E J x h c n (lV b x h i)) : J c n (lW E x rw ln t1 t2 ad h m1 m2 m3 m4 m5 m6 nb dn sz K F G D A B T) 353 (lV b x h i) [] := by
  have wk := wk_turn (x := x) (h := h) W hL hi hcn
  generalize xs (i + 1) = a1 at wk
  by_cases hb : inB nb a1
  · obtain ⟨j, hj, rfl⟩ := inB_of hb
    have hr := hI.2.2.1 j
    exact l_gen wk W.ok kk _ _ rfl (rows_open (List.mem_range.mpr hj)) (rows_closeN hj) (qX2_turn E x rw ln t1 t2 nb dn (rfF ad nb) D A B _ _ _ _ (K j) (F j) (G j) (sz j) j  hI.1 hj (rfF_in hj) (hI.2.2.1 j).1 ) (fun _ _ h => ⟨h.1, A, B, h.2⟩) (qX3_turn E h m1 m2 m3 m4 m5 m6 nb dn sz K F G D T j hI.1 (fun b => (hI.2.2.1 b).1) hj) (fun _ _ h => ⟨h.1, T, h.2⟩) (Inv_rowN hI hj (rowI_rev hr))
  · exact l_gen wk W.ok kk _ _ rfl p_0 p_0 (qX2_turnO E x rw ln t1 t2 nb dn (rfF ad nb) D A B a1  hI.1 hb) (fun _ _ h => ⟨h.1, A, B, h.2⟩) (qX3_turnN E h m1 m2 m3 m4 m5 m6 nb dn sz K F G D T a1  hI.1 (fun b => (hI.2.2.1 b).1)  hb) (fun _ _ h => ⟨h.1, T, h.2⟩) hI
theorem op_waist {E : zE} {J : zJ} {nm : String} {b L : Nat} {xs : Nat → Int32} {c n : Nat} {x h i rw ln t1 t2 : Nat} {ad : zAd} {m1 m2 m3 m4 m5 m6 nb dn : Nat} {sz : Nat → Nat} {K F G : Nat → Nat → Int32} {D : Nat → Int32} {A B T : TB} (W : zLw E J nm b L xs) (hL : L ≤ 4096) (hi : i + 8 ≤ L) (hcn : c + 4 ≤ 623441 ∧ n + 28 ≤ 7231924) (hI : Inv nb dn sz K F G D) (kk : lNx E J x h c n (lV b x h i)) : J c n (lW E x rw ln t1 t2 ad h m1 m2 m3 m4 m5 m6 nb dn sz K F G D A B T) 908 (lV b x h i) [] := by
  have wk := wk_waist (x := x) (h := h) W hL hi hcn
  generalize xs (i + 1) = a1, xs (i + 2) = a2 at wk
  by_cases hb : inB nb a1
  · obtain ⟨j, hj, rfl⟩ := inB_of hb
    have hr := hI.2.2.1 j
    by_cases hv : (a2 = 0 ∨ a2 = 1)
    · by_cases hz : 0 < sz j
      · obtain ⟨m, hm⟩ : ∃ m, sz j = m + 1 := ⟨sz j - 1, by omega⟩
        exact l_gen wk W.ok kk _ _ (waiR_eq hr.2.1 hr.1 hv hm) (rows_open (List.mem_range.mpr hj)) (rows_open (List.mem_range.mpr hj)) (qX2_waist E x rw ln t1 t2 nb dn (rfF ad nb) D A B _ _ _ _ (K j) (F j) (G j) (sz j) j m a2 hI.1 hj (rfF_in hj) (hI.2.2.1 j).1 hv hm) (fun _ _ h => h) (qX3_waist E h m1 m2 m3 m4 m5 m6 nb dn sz K F G D T j a2 hI.1 (fun b => (hI.2.2.1 b).1) hj hv hz) (fun _ _ h => h) hI
      · exact l_gen wk W.ok kk _ _ rfl (rows_open (List.mem_range.mpr hj)) (rows_open (List.mem_range.mpr hj)) (qX2_waistZ E x rw ln t1 t2 nb dn (rfF ad nb) D A B _ _ _ _ (K j) (F j) (G j) (sz j) j a2 hI.1 hj (rfF_in hj) (hI.2.2.1 j).1 hv (by omega)) (fun _ _ h => h) (qX3_waistN E h m1 m2 m3 m4 m5 m6 nb dn sz K F G D T _ a2 hI.1 (fun b => (hI.2.2.1 b).1) (fun ⟨j', hj', e, q⟩ => hz (by cases nIj hj hj' hI.1 e; exact q.2))) (fun _ _ h => ⟨h.1, T, h.2⟩) hI
    · exact l_gen wk W.ok kk _ _ rfl (rows_open (List.mem_range.mpr hj)) (rows_open (List.mem_range.mpr hj)) (qX2_waistN E x rw ln t1 t2 nb dn (rfF ad nb) D A B _ _ _ _ (K j) (F j) (G j) (sz j) j a2 hI.1 hj (rfF_in hj) (hI.2.2.1 j).1  hv) (fun _ _ h => ⟨h.1, A, B, h.2⟩) (qX3_waistN E h m1 m2 m3 m4 m5 m6 nb dn sz K F G D T _ a2 hI.1 (fun b => (hI.2.2.1 b).1)  (fun ⟨j', hj', e, q⟩ => hv q.1)) (fun _ _ h => ⟨h.1, T, h.2⟩) hI
  · exact l_gen wk W.ok kk _ _ rfl p_0 p_0 (qX2_waistO E x rw ln t1 t2 nb dn (rfF ad nb) D A B a1 a2 hI.1 hb) (fun _ _ h => ⟨h.1, A, B, h.2⟩) (qX3_waistN E h m1 m2 m3 m4 m5 m6 nb dn sz K F G D T a1 a2 hI.1 (fun b => (hI.2.2.1 b).1)  (fun ⟨j', hj', e, _⟩ => hb (by rw [e]; exact inB_nI hj' (by have := hI.1; omega)))) (fun _ _ h => ⟨h.1, T, h.2⟩) hI
theorem op_span {E : zE} {J : zJ} {nm : String} {b L : Nat} {xs : Nat → Int32} {c n : Nat} {x h i rw ln t1 t2 : Nat} {ad : zAd} {m1 m2 m3 m4 m5 m6 nb dn : Nat} {sz : Nat → Nat} {K F G : Nat → Nat → Int32} {D : Nat → Int32} {A B T : TB} (W : zLw E J nm b L xs) (hL : L ≤ 4096) (hi : i + 8 ≤ L) (hcn : c + 4 ≤ 623441 ∧ n + 28 ≤ 7231924) (hI : Inv nb dn sz K F G D) (kk : lNx E J x h c n (lV b x h i)) : J c n (lW E x rw ln t1 t2 ad h m1 m2 m3 m4 m5 m6 nb dn sz K F G D A B T) 1005 (lV b x h i) [] := by
  have wk := wk_span (x := x) (h := h) W hL hi hcn
  generalize xs (i + 1) = a1, xs (i + 2) = a2, xs (i + 3) = a3 at wk
  by_cases hb : inB nb a1
  · obtain ⟨j, hj, rfl⟩ := inB_of hb
    have hr := hI.2.2.1 j
    by_cases hv : inB (sz j) a2 ∧ 0 ≤ a3
    · obtain ⟨h6, h0⟩ := hv
      obtain ⟨p, hp, rfl⟩ := inB_of h6
      by_cases hk : K j p = 0
      · obtain ⟨lf, hl, rfl⟩ := nI_of (x := a3) (fun q => by have := Int32.lt_iff_toInt_lt.mp q; have := Int32.le_iff_toInt_le.mp h0; omega)
        exact l_gen wk W.ok kk _ _ (spn_eq hr.2.1 hr.1 hp hk 21 0 lf rfl) (rows_open (List.mem_range.mpr hj)) (rows_open (List.mem_range.mpr hj)) (qX2_span E x rw ln t1 t2 nb dn (rfF ad nb) D A B _ _ _ _ (K j) (F j) (G j) (sz j) j p lf hI.1 hj (rfF_in hj) (hI.2.2.1 j).1 hp hl hk) (fun _ _ h => h) (qX3_span E h m1 m2 m3 m4 m5 m6 nb dn sz K F G D T j p lf hI.1 (fun b => (hI.2.2.1 b).1) hj hp hl hk) (fun _ _ h => h) hI
      · exact l_gen wk W.ok kk _ _ rfl (rows_open (List.mem_range.mpr hj)) (rows_open (List.mem_range.mpr hj)) (qX2_spanS E x rw ln t1 t2 nb dn (rfF ad nb) D A B _ _ _ _ (K j) (F j) (G j) (sz j) j p a3 hI.1 hj (rfF_in hj) (hI.2.2.1 j).1 hp h0 hk) (fun _ _ h => ⟨h.1, A, B, h.2⟩) (qX3_spanS E h m1 m2 m3 m4 m5 m6 nb dn sz K F G D T j p a3 hI.1 (fun b => (hI.2.2.1 b).1) hj hp h0 hk) (fun _ _ h => ⟨h.1, T, h.2⟩) hI
    · exact l_gen wk W.ok kk _ _ rfl (rows_open (List.mem_range.mpr hj)) (rows_open (List.mem_range.mpr hj)) (qX2_spanN E x rw ln t1 t2 nb dn (rfF ad nb) D A B _ _ _ _ (K j) (F j) (G j) (sz j) j a2 a3 hI.1 hj (rfF_in hj) (hI.2.2.1 j).1  hv) (fun _ _ h => ⟨h.1, A, B, h.2⟩) (qX3_spanN E h m1 m2 m3 m4 m5 m6 nb dn sz K F G D T _ a2 a3 hI.1 (fun b => (hI.2.2.1 b).1)  (fun ⟨j', hj', e, q⟩ => hv (by cases nIj hj hj' hI.1 e; exact q))) (fun _ _ h => ⟨h.1, T, h.2⟩) hI
  · exact l_gen wk W.ok kk _ _ rfl p_0 p_0 (qX2_spanO E x rw ln t1 t2 nb dn (rfF ad nb) D A B a1 a2 a3 hI.1 hb) (fun _ _ h => ⟨h.1, A, B, h.2⟩) (qX3_spanN E h m1 m2 m3 m4 m5 m6 nb dn sz K F G D T a1 a2 a3 hI.1 (fun b => (hI.2.2.1 b).1)  (fun ⟨j', hj', e, _⟩ => hb (by rw [e]; exact inB_nI hj' (by have := hI.1; omega)))) (fun _ _ h => ⟨h.1, T, h.2⟩) hI
theorem op_fit {E : zE} {J : zJ} {nm : String} {b L : Nat} {xs : Nat → Int32} {c n : Nat} {x h i rw ln t1 t2 : Nat} {ad : zAd} {m1 m2 m3 m4 m5 m6 nb dn : Nat} {sz : Nat → Nat} {K F G : Nat → Nat → Int32} {D : Nat → Int32} {A B T : TB} (W : zLw E J nm b L xs) (hL : L ≤ 4096) (hi : i + 8 ≤ L) (hcn : c + 4 ≤ 623441 ∧ n + 28 ≤ 7231924) (hI : Inv nb dn sz K F G D) (kk : lNx E J x h c n (lV b x h i)) : J c n (lW E x rw ln t1 t2 ad h m1 m2 m3 m4 m5 m6 nb dn sz K F G D A B T) 1071 (lV b x h i) [] := by
  have wk := wk_fit (x := x) (h := h) W hL hi hcn
  generalize xs (i + 1) = a1, xs (i + 2) = a2 at wk
  by_cases hb : inB nb a1
  · obtain ⟨j, hj, rfl⟩ := inB_of hb
    have hr := hI.2.2.1 j
    by_cases hv : inB (sz j) a2
    · obtain ⟨p, hp, rfl⟩ := inB_of hv
      by_cases hk : K j p = 1
      · exact l_gen wk W.ok kk _ _ (fit_eq hr.2.1 hr.1 hp hk hI.2.2.2.2 dn 0 (Nat.zero_add dn)) (rows_open (List.mem_range.mpr hj)) (rows_open (List.mem_range.mpr hj)) (qX2_fit E x rw ln t1 t2 nb dn (rfF ad nb) D A B _ _ _ _ (K j) (F j) (G j) (sz j) j p hI.1 hj (rfF_in hj) (hI.2.2.1 j).1 hp hI.2.1 hk) (fun _ _ h => h) (qX3_fit E h m1 m2 m3 m4 m5 m6 nb dn sz K F G D T j p hI.1 (fun b => (hI.2.2.1 b).1) hj hp hI.2.1 hk) (fun _ _ h => h) hI
      · exact l_gen wk W.ok kk _ _ rfl (rows_open (List.mem_range.mpr hj)) (rows_open (List.mem_range.mpr hj)) (qX2_fitS E x rw ln t1 t2 nb dn (rfF ad nb) D A B _ _ _ _ (K j) (F j) (G j) (sz j) j p hI.1 hj (rfF_in hj) (hI.2.2.1 j).1 hp hk) (fun _ _ h => ⟨h.1, A, B, h.2⟩) (qX3_fitS E h m1 m2 m3 m4 m5 m6 nb dn sz K F G D T j p hI.1 (fun b => (hI.2.2.1 b).1) hj hp hk) (fun _ _ h => ⟨h.1, T, h.2⟩) hI
    · exact l_gen wk W.ok kk _ _ rfl (rows_open (List.mem_range.mpr hj)) (rows_open (List.mem_range.mpr hj)) (qX2_fitN E x rw ln t1 t2 nb dn (rfF ad nb) D A B _ _ _ _ (K j) (F j) (G j) (sz j) j a2 hI.1 hj (rfF_in hj) (hI.2.2.1 j).1  hv) (fun _ _ h => ⟨h.1, A, B, h.2⟩) (qX3_fitN E h m1 m2 m3 m4 m5 m6 nb dn sz K F G D T _ a2 hI.1 (fun b => (hI.2.2.1 b).1)  (fun ⟨j', hj', e, q⟩ => hv (by cases nIj hj hj' hI.1 e; exact q))) (fun _ _ h => ⟨h.1, T, h.2⟩) hI
  · exact l_gen wk W.ok kk _ _ rfl p_0 p_0 (qX2_fitO E x rw ln t1 t2 nb dn (rfF ad nb) D A B a1 a2 hI.1 hb) (fun _ _ h => ⟨h.1, A, B, h.2⟩) (qX3_fitN E h m1 m2 m3 m4 m5 m6 nb dn sz K F G D T a1 a2 hI.1 (fun b => (hI.2.2.1 b).1)  (fun ⟨j', hj', e, _⟩ => hb (by rw [e]; exact inB_nI hj' (by have := hI.1; omega)))) (fun _ _ h => ⟨h.1, T, h.2⟩) hI
theorem op_swap {E : zE} {J : zJ} {nm : String} {b L : Nat} {xs : Nat → Int32} {c n : Nat} {x h i rw ln t1 t2 : Nat} {ad : zAd} {m1 m2 m3 m4 m5 m6 nb dn : Nat} {sz : Nat → Nat} {K F G : Nat → Nat → Int32} {D : Nat → Int32} {A B T : TB} (W : zLw E J nm b L xs) (hL : L ≤ 4096) (hi : i + 8 ≤ L) (hcn : c + 4 ≤ 623441 ∧ n + 28 ≤ 7231924) (hI : Inv nb dn sz K F G D) (kk : lNx E J x h c n (lV b x h i)) : J c n (lW E x rw ln t1 t2 ad h m1 m2 m3 m4 m5 m6 nb dn sz K F G D A B T) 1104 (lV b x h i) [] := by
  have wk := wk_swap (x := x) (h := h) W hL hi hcn
  generalize xs (i + 1) = a1, xs (i + 2) = a2, xs (i + 3) = a3 at wk
  by_cases hb : inB nb a1
  · obtain ⟨j, hj, rfl⟩ := inB_of hb
    have hr := hI.2.2.1 j
    by_cases hv : inB (sz j) a2 ∧ inB dn a3
    · obtain ⟨h6, h7⟩ := hv
      obtain ⟨p, hp, rfl⟩ := inB_of h6
      obtain ⟨q, hq, rfl⟩ := inB_of h7
      by_cases hk : K j p = 1
      · exact l_gen wk W.ok kk _ _ rfl (rows_open (List.mem_range.mpr hj)) (rows_closeG hj) (qX2_swap E x rw ln t1 t2 nb dn (rfF ad nb) D A B _ _ _ _ (K j) (F j) (G j) (sz j) j p q hI.1 hj (rfF_in hj) (hI.2.2.1 j).1 hp hI.2.1 hq hk) (fun _ _ h => ⟨h.1, A, B, h.2⟩) (qX3_swap E h m1 m2 m3 m4 m5 m6 nb dn sz K F G D T j p q hI.1 (fun b => (hI.2.2.1 b).1) hj hp hI.2.1 hq hk) (fun _ _ h => ⟨h.1, T, h.2⟩) (Inv_draw (Inv_rowG hI hj (rowI_swap hr hp hk (hI.2.2.2.2 q hq))) (lens_bnt hr hp hk))
      · exact l_gen wk W.ok kk _ _ rfl (rows_open (List.mem_range.mpr hj)) (rows_open (List.mem_range.mpr hj)) (qX2_swapS E x rw ln t1 t2 nb dn (rfF ad nb) D A B _ _ _ _ (K j) (F j) (G j) (sz j) j p q hI.1 hj (rfF_in hj) (hI.2.2.1 j).1 hp hI.2.1 hq hk) (fun _ _ h => ⟨h.1, A, B, h.2⟩) (qX3_swapS E h m1 m2 m3 m4 m5 m6 nb dn sz K F G D T j p q hI.1 (fun b => (hI.2.2.1 b).1) hj hp hI.2.1 hq hk) (fun _ _ h => ⟨h.1, T, h.2⟩) hI
    · exact l_gen wk W.ok kk _ _ rfl (rows_open (List.mem_range.mpr hj)) (rows_open (List.mem_range.mpr hj)) (qX2_swapN E x rw ln t1 t2 nb dn (rfF ad nb) D A B _ _ _ _ (K j) (F j) (G j) (sz j) j a2 a3 hI.1 hj (rfF_in hj) (hI.2.2.1 j).1 hI.2.1 hv) (fun _ _ h => ⟨h.1, A, B, h.2⟩) (qX3_swapN E h m1 m2 m3 m4 m5 m6 nb dn sz K F G D T _ a2 a3 hI.1 (fun b => (hI.2.2.1 b).1) hI.2.1 (fun ⟨j', hj', e, q⟩ => hv (by cases nIj hj hj' hI.1 e; exact q))) (fun _ _ h => ⟨h.1, T, h.2⟩) hI
  · exact l_gen wk W.ok kk _ _ rfl p_0 p_0 (qX2_swapO E x rw ln t1 t2 nb dn (rfF ad nb) D A B a1 a2 a3 hI.1 hb) (fun _ _ h => ⟨h.1, A, B, h.2⟩) (qX3_swapN E h m1 m2 m3 m4 m5 m6 nb dn sz K F G D T a1 a2 a3 hI.1 (fun b => (hI.2.2.1 b).1) hI.2.1 (fun ⟨j', hj', e, _⟩ => hb (by rw [e]; exact inB_nI hj' (by have := hI.1; omega)))) (fun _ _ h => ⟨h.1, T, h.2⟩) hI
theorem op_own {E : zE} {J : zJ} {nm : String} {b L : Nat} {xs : Nat → Int32} {c n : Nat} {x h i rw ln t1 t2 : Nat} {ad : zAd} {m1 m2 m3 m4 m5 m6 nb dn : Nat} {sz : Nat → Nat} {K F G : Nat → Nat → Int32} {D : Nat → Int32} {A B T : TB} (W : zLw E J nm b L xs) (hL : L ≤ 4096) (hi : i + 8 ≤ L) (hcn : c + 4 ≤ 623441 ∧ n + 28 ≤ 7231924) (hI : Inv nb dn sz K F G D) (kk : lNx E J x h c n (lV b x h i)) : J c n (lW E x rw ln t1 t2 ad h m1 m2 m3 m4 m5 m6 nb dn sz K F G D A B T) 1048 (lV b x h i) [] := by
  have wk := wk_own (x := x) (h := h) W hL hi hcn
  generalize xs (i + 1) = a1 at wk
  by_cases ha : bnt a1
  · by_cases hd : dn < 12
    · exact l_gen wk W.ok kk _ _ rfl p_0 p_0 (qX2_own E x rw ln t1 t2 nb dn (rfF ad nb) D A B a1 ha hd) (fun _ _ h => ⟨h.1, A, B, h.2⟩) (qX3_own E h m1 m2 m3 m4 m5 m6 nb dn sz K F G D T a1 ha hd) (fun _ _ h => ⟨h.1, T, h.2⟩) (Inv_own hI ha hd)
    · have hd : dn = 12 := by have := hI.2.1; omega
      exact l_gen wk W.ok kk _ _ rfl p_0 p_0 (qX2_ownF E x rw ln t1 t2 nb dn (rfF ad nb) D A B a1 ha hd) (fun _ _ h => ⟨h.1, A, B, h.2⟩) (qX3_ownF E h m1 m2 m3 m4 m5 m6 nb dn sz K F G D T a1 ha hd) (fun _ _ h => ⟨h.1, T, h.2⟩) (hI)
  · exact l_gen wk W.ok kk _ _ rfl p_0 p_0 (qX2_ownB E x rw ln t1 t2 nb dn (rfF ad nb) D A B a1 ha) (fun _ _ h => ⟨h.1, A, B, h.2⟩) (qX3_ownB E h m1 m2 m3 m4 m5 m6 nb dn sz K F G D T a1 ha) (fun _ _ h => ⟨h.1, T, h.2⟩) (hI)
theorem op_drawer {E : zE} {J : zJ} {nm : String} {b L : Nat} {xs : Nat → Int32} {c n : Nat} {x h i rw ln t1 t2 : Nat} {ad : zAd} {m1 m2 m3 m4 m5 m6 nb dn : Nat} {sz : Nat → Nat} {K F G : Nat → Nat → Int32} {D : Nat → Int32} {A B T : TB} (W : zLw E J nm b L xs) (hL : L ≤ 4096) (hi : i + 8 ≤ L) (hcn : c + 4 ≤ 623441 ∧ n + 28 ≤ 7231924) (hI : Inv nb dn sz K F G D) (kk : lNx E J x h c n (lV b x h i)) : J c n (lW E x rw ln t1 t2 ad h m1 m2 m3 m4 m5 m6 nb dn sz K F G D A B T) 1170 (lV b x h i) [] := by
  have wk := wk_drawer (x := x) (h := h) W hL hi hcn
  generalize xs (i + 1) = a1 at wk
  by_cases ha : inB dn a1
  · obtain ⟨q, hq, rfl⟩ := inB_of ha
    exact l_gen wk W.ok kk _ _ rfl p_0 p_0 (qX2_drawer E x rw ln t1 t2 nb dn (rfF ad nb) D A B q hI.2.1 hq) (fun _ _ h => ⟨h.1, A, B, h.2⟩) (qX3_drawer E h m1 m2 m3 m4 m5 m6 nb dn sz K F G D T q hI.2.1 hq) (fun _ _ h => ⟨h.1, T, h.2⟩) (hI)
  · exact l_gen wk W.ok kk _ _ rfl p_0 p_0 (qX2_drawerN E x rw ln t1 t2 nb dn (rfF ad nb) D A B a1 hI.2.1 ha) (fun _ _ h => ⟨h.1, A, B, h.2⟩) (qX3_drawerN E h m1 m2 m3 m4 m5 m6 nb dn sz K F G D T a1 hI.2.1 ha) (fun _ _ h => ⟨h.1, T, h.2⟩) (hI)
theorem p_1 {α : Type} {b : List α} : b.Perm (b ++ []) := by rw [List.append_nil]
theorem op_count {E : zE} {J : zJ} {nm : String} {b L : Nat} {xs : Nat → Int32} {c n : Nat} {x h i rw ln t1 t2 : Nat} {ad : zAd} {m1 m2 m3 m4 m5 m6 nb dn : Nat} {sz : Nat → Nat} {K F G : Nat → Nat → Int32} {D : Nat → Int32} {A B T : TB} (W : zLw E J nm b L xs) (hL : L ≤ 4096) (hi : i + 8 ≤ L) (hcn : c + 4 ≤ 623441 ∧ n + 28 ≤ 7231924) (hI : Inv nb dn sz K F G D) (kk : lNx E J x h c n (lV b x h i)) : J c n (lW E x rw ln t1 t2 ad h m1 m2 m3 m4 m5 m6 nb dn sz K F G D A B T) 1147 (lV b x h i) [] := by
  have wk := wk_count (x := x) (h := h) W hL hi hcn
  generalize xs (i + 1) = a1 at wk
  by_cases ha : a1 = 0 ∨ a1 = 1 ∨ a1 = 2 ∨ a1 = 3
  · rcases ha with rfl | rfl | rfl | rfl
    · exact l_gen wk W.ok kk _ _ rfl p_0 p_0 (qX2_count0 E x rw ln t1 t2 nb dn (rfF ad nb) D A B) (fun _ _ h => ⟨h.1, A, B, h.2⟩) (qX3_count0 E h m1 m2 m3 m4 m5 m6 nb dn sz K F G D T) (fun _ _ h => ⟨h.1, T, h.2⟩) (hI)
    · exact l_gen (e := []) wk W.ok kk _ _ rfl p_1 p_1 (qX2_count1 E x rw ln t1 t2 nb dn ad sz K F G D A B hI.1 (fun b => (hI.2.2.1 b).1)) (fun _ _ h => h) (qX3_count1 E h m1 m2 m3 m4 m5 m6 nb dn sz K F G D T hI.1) (fun _ _ h => ⟨h.1, T, h.2⟩) hI
    · exact l_gen wk W.ok kk _ _ rfl p_0 p_0 (qX2_count2 E x rw ln t1 t2 nb dn (rfF ad nb) D A B) (fun _ _ h => ⟨h.1, A, B, h.2⟩) (qX3_count2 E h m1 m2 m3 m4 m5 m6 nb dn sz K F G D T) (fun _ _ h => ⟨h.1, T, h.2⟩) (hI)
    · exact l_gen (e := []) wk W.ok kk _ _ (by rw [cnt_eq nb (fun b _ => ⟨(hI.2.2.1 b).2.1, (hI.2.2.1 b).1⟩)]) p_1 p_1 (qX2_count3 E x rw ln t1 t2 nb dn ad sz K F G D A B hI.1 (fun b => (hI.2.2.1 b).1)) (fun _ _ h => h) (qX3_count3 E h m1 m2 m3 m4 m5 m6 nb dn sz K F G D T hI.1 (fun b => (hI.2.2.1 b).1)) (fun _ _ h => h) hI
  · exact l_gen wk W.ok kk _ _ rfl p_0 p_0 (qX2_countN E x rw ln t1 t2 nb dn (rfF ad nb) D A B a1 ha) (fun _ _ h => ⟨h.1, A, B, h.2⟩) (qX3_countN E h m1 m2 m3 m4 m5 m6 nb dn sz K F G D T a1 ha) (fun _ _ h => ⟨h.1, T, h.2⟩) (hI)
theorem op_join {E : zE} {J : zJ} {nm : String} {b L : Nat} {xs : Nat → Int32} {c n : Nat} {x h i rw ln t1 t2 : Nat} {ad : zAd} {m1 m2 m3 m4 m5 m6 nb dn : Nat} {sz : Nat → Nat} {K F G : Nat → Nat → Int32} {D : Nat → Int32} {A B T : TB} (W : zLw E J nm b L xs) (hL : L ≤ 4096) (hi : i + 8 ≤ L) (hcn : c + 4 ≤ 623441 ∧ n + 28 ≤ 7231924) (hI : Inv nb dn sz K F G D) (kk : lNx E J x h c n (lV b x h i)) : J c n (lW E x rw ln t1 t2 ad h m1 m2 m3 m4 m5 m6 nb dn sz K F G D A B T) 376 (lV b x h i) [] := by
  have wk := wk_join (x := x) (h := h) W hL hi hcn
  generalize xs (i + 1) = a1, xs (i + 2) = a2 at wk
  by_cases hb : inB nb a1 ∧ inB nb a2
  · obtain ⟨j, hj, rfl⟩ := inB_of hb.1
    obtain ⟨j2, hj2, rfl⟩ := inB_of hb.2
    have hr := hI.2.2.1 j
    have hr2 := hI.2.2.1 j2
    by_cases hne : j2 = j
    · subst hne
      by_cases hf : 8 < sz j2 + sz j2 ∨ 3 < nBent (K j2) (sz j2) + nBent (K j2) (sz j2) ∨ 2 < nTilt (K j2) (sz j2) + nTilt (K j2) (sz j2)
      · exact l_gen wk W.ok kk _ _ rfl (rows_open (List.mem_range.mpr hj2)) (rows_open (List.mem_range.mpr hj2)) (qX2_joinSF E x rw ln t1 t2 nb dn (rfF ad nb) D A B _ _ _ _ (K j2) (F j2) (G j2) (sz j2) j2  hI.1 hj2 (rfF_in hj2) (hI.2.2.1 j2).1 hf) (fun _ _ h => ⟨h.1, A, B, h.2⟩) (qX3_joinF E h m1 m2 m3 m4 m5 m6 nb dn sz K F G D T j2 j2 hI.1 (fun b => (hI.2.2.1 b).1) hj2 hj2 hf) (fun _ _ h => ⟨h.1, T, h.2⟩) hI
      · exact l_gen wk W.ok kk _ _ rfl (rows_open (List.mem_range.mpr hj2)) (rows_close hj2) (qX2_joinS E x rw ln t1 t2 nb dn (rfF ad nb) D A B _ _ _ _ (K j2) (F j2) (G j2) (sz j2) j2  hI.1 hj2 (rfF_in hj2) (hI.2.2.1 j2).1 hf) (fun _ _ h => ⟨h.1, A, B, h.2⟩) (qX3_join E h m1 m2 m3 m4 m5 m6 nb dn sz K F G D T j2 j2 hI.1 (fun b => (hI.2.2.1 b).1) hj2 hj2 hf) (fun _ _ h => ⟨h.1, T, h.2⟩) (Inv_row hI hj2 (rowI_app hr2 hr2 hf))
    · by_cases hf : 8 < sz j + sz j2 ∨ 3 < nBent (K j) (sz j) + nBent (K j2) (sz j2) ∨ 2 < nTilt (K j) (sz j) + nTilt (K j2) (sz j2)
      · exact l_gen wk W.ok kk _ _ rfl (p_two hj2 hne (rows_open (List.mem_range.mpr hj))) (p_two hj2 hne (rows_open (List.mem_range.mpr hj))) (qX2_joinF E x rw ln t1 t2 nb dn (rfF ad nb) D A B _ _ _ _ (K j) (F j) (G j) (sz j) _ _ _ _ (K j2) (F j2) (G j2) (sz j2) j j2 hI.1 hj (rfF_in hj) (hI.2.2.1 j).1 hj2 (rfF_in hj2) (hI.2.2.1 j2).1 hf) (fun _ _ h => ⟨h.1, A, B, h.2⟩) (qX3_joinF E h m1 m2 m3 m4 m5 m6 nb dn sz K F G D T j j2 hI.1 (fun b => (hI.2.2.1 b).1) hj hj2 hf) (fun _ _ h => ⟨h.1, T, h.2⟩) hI
      · exact l_gen wk W.ok kk _ _ rfl (p_two hj2 hne (rows_open (List.mem_range.mpr hj))) (p_two hj2 hne (rows_close hj)) (qX2_join E x rw ln t1 t2 nb dn (rfF ad nb) D A B _ _ _ _ (K j) (F j) (G j) (sz j) _ _ _ _ (K j2) (F j2) (G j2) (sz j2) j j2 hI.1 hj (rfF_in hj) (hI.2.2.1 j).1 hj2 (rfF_in hj2) (hI.2.2.1 j2).1 hf) (fun _ _ h => ⟨h.1, A, B, h.2⟩) (qX3_join E h m1 m2 m3 m4 m5 m6 nb dn sz K F G D T j j2 hI.1 (fun b => (hI.2.2.1 b).1) hj hj2 hf) (fun _ _ h => ⟨h.1, T, h.2⟩) (Inv_row hI hj (rowI_app hr hr2 hf))
  · exact l_gen wk W.ok kk _ _ rfl p_0 p_0 (qX2_joinN E x rw ln t1 t2 nb dn (rfF ad nb) D A B a1 a2 hI.1 (fun j hj => ⟨_, rfF_in hj⟩) hb) (fun _ _ h => ⟨h.1, A, B, h.2⟩) (qX3_joinN E h m1 m2 m3 m4 m5 m6 nb dn sz K F G D T a1 a2 hI.1 (fun b => (hI.2.2.1 b).1) hb) (fun _ _ h => ⟨h.1, T, h.2⟩) (hI)
theorem op_same {E : zE} {J : zJ} {nm : String} {b L : Nat} {xs : Nat → Int32} {c n : Nat} {x h i rw ln t1 t2 : Nat} {ad : zAd} {m1 m2 m3 m4 m5 m6 nb dn : Nat} {sz : Nat → Nat} {K F G : Nat → Nat → Int32} {D : Nat → Int32} {A B T : TB} (W : zLw E J nm b L xs) (hL : L ≤ 4096) (hi : i + 8 ≤ L) (hcn : c + 4 ≤ 623441 ∧ n + 28 ≤ 7231924) (hI : Inv nb dn sz K F G D) (kk : lNx E J x h c n (lV b x h i)) : J c n (lW E x rw ln t1 t2 ad h m1 m2 m3 m4 m5 m6 nb dn sz K F G D A B T) 691 (lV b x h i) [] := by
  have wk := wk_same (x := x) (h := h) W hL hi hcn
  generalize xs (i + 1) = a1, xs (i + 2) = a2, xs (i + 3) = a3 at wk
  by_cases hb : inB nb a1 ∧ inB nb a2 ∧ (a3 = 0 ∨ a3 = 1)
  · obtain ⟨hb1, hb2, hw⟩ := hb
    obtain ⟨j, hj, rfl⟩ := inB_of hb1
    obtain ⟨j2, hj2, rfl⟩ := inB_of hb2
    have hr := hI.2.2.1 j
    have hr2 := hI.2.2.1 j2
    by_cases hne : j2 = j
    · subst hne
      exact l_gen wk W.ok kk _ _ (by rw [tab_eq hr2.2.1 hr2.1 hw]; exact samR_eq _ _) (rows_open (List.mem_range.mpr hj2)) (rows_open (List.mem_range.mpr hj2)) (qX2_sameS E x rw ln t1 t2 nb dn (rfF ad nb) D A B _ _ _ _ (K j2) (F j2) (G j2) (sz j2) j2 a3 hI.1 hj2 (rfF_in hj2) (hI.2.2.1 j2).1 hw) (fun _ _ h => h) (qX3_same E h m1 m2 m3 m4 m5 m6 nb dn sz K F G D T j2 j2 a3 hI.1 (fun b => (hI.2.2.1 b).1) hj2 hj2 hw) (fun _ _ h => h) hI
    · exact l_gen wk W.ok kk _ _ (by rw [tab_eq hr.2.1 hr.1 hw, tab_eq hr2.2.1 hr2.1 hw]; exact samR_eq _ _) (p_two hj2 hne (rows_open (List.mem_range.mpr hj))) (p_two hj2 hne (rows_open (List.mem_range.mpr hj))) (qX2_same E x rw ln t1 t2 nb dn (rfF ad nb) D A B _ _ _ _ (K j) (F j) (G j) (sz j) _ _ _ _ (K j2) (F j2) (G j2) (sz j2) j j2 a3 hI.1 hj (rfF_in hj) (hI.2.2.1 j).1 hj2 (rfF_in hj2) (hI.2.2.1 j2).1 hw) (fun _ _ h => h) (qX3_same E h m1 m2 m3 m4 m5 m6 nb dn sz K F G D T j j2 a3 hI.1 (fun b => (hI.2.2.1 b).1) hj hj2 hw) (fun _ _ h => h) hI
  · exact l_gen wk W.ok kk _ _ rfl p_0 p_0 (qX2_sameN E x rw ln t1 t2 nb dn (rfF ad nb) D A B a1 a2 a3 hI.1 (fun j hj => ⟨_, rfF_in hj⟩) hb) (fun _ _ h => ⟨h.1, A, B, h.2⟩) (qX3_sameN E h m1 m2 m3 m4 m5 m6 nb dn sz K F G D T a1 a2 a3 hI.1 (fun b => (hI.2.2.1 b).1) hb) (fun _ _ h => ⟨h.1, T, h.2⟩) (hI)
