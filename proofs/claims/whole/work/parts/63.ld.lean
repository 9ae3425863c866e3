theorem op_table {E : zE} {J : zJ} {nm : String} {b L : Nat} {xs : Nat → Int32} {c n : Nat} {x h i rw ln t1 t2 : Nat} {ad : zAd} {m1 m2 m3 m4 m5 m6 nb dn : Nat} {sz : Nat → Nat} {K F G : Nat → Nat → Int32} {D : Nat → Int32} {A B T : TB} (W : zLw E J nm b L xs) (hL : L ≤ 4096) (hi : i + 8 ≤ L) (hcn : c + 4 ≤ 623441 ∧ n + 28 ≤ 7231924) (hI : Inv nb dn sz K F G D) (kk : lNx E J x h c n (lV b x h i)) : J c n (lW E x rw ln t1 t2 ad h m1 m2 m3 m4 m5 m6 nb dn sz K F G D A B T) 409 (lV b x h i) [] := by
  have wk := wk_table (x := x) (h := h) W hL hi hcn
  generalize xs (i + 1) = a1, xs (i + 2) = a2, xs (i + 3) = a3, xs (i + 4) = a4 at wk
  by_cases hb : inB nb a1
  · obtain ⟨j, hj, rfl⟩ := inB_of hb
    by_cases hv : (a2 = 0 ∨ a2 = 1) ∧ inB 6 a3 ∧ (a4 = 0 ∨ a4 = 1)
    · obtain ⟨hw, h6, hh⟩ := hv
      obtain ⟨q, hq, rfl⟩ := inB_of h6
      have hr := hI.2.2.1 j
      exact l_gen wk W.ok kk _ _ (by rw [tab_tol hr hw, tab_eq hr.2.1 hr.1 hw, abv_tv _ hq]) (rows_open (List.mem_range.mpr hj)) (rows_open (List.mem_range.mpr hj)) (qX2_table E x rw ln t1 t2 nb dn (rfF ad nb) D A B _ _ _ _ (K j) (F j) (G j) (sz j) j q a2 a4 hI.1 hj (rfF_in hj) (hI.2.2.1 j).1 hw hq hh) (fun _ _ h => h) (qX3_table E h m1 m2 m3 m4 m5 m6 nb dn sz K F G D T j q a2 a4 hI.1 (fun b => (hI.2.2.1 b).1) hj hw hq hh) (fun _ _ h => h) hI
    · exact l_gen wk W.ok kk _ _ rfl (rows_open (List.mem_range.mpr hj)) (rows_open (List.mem_range.mpr hj)) (qX2_tableN E x rw ln t1 t2 nb dn (rfF ad nb) D A B _ _ _ _ (K j) (F j) (G j) (sz j) j a2 a3 a4 hI.1 hj (rfF_in hj) (hI.2.2.1 j).1 hv) (fun _ _ h => ⟨h.1, A, B, h.2⟩) (qX3_tableN E h m1 m2 m3 m4 m5 m6 nb dn sz K F G D T _ a2 a3 a4 hI.1 (fun b => (hI.2.2.1 b).1) (fun q => hv q.2)) (fun _ _ h => ⟨h.1, T, h.2⟩) hI
  · exact l_gen wk W.ok kk _ _ rfl p_0 p_0 (qX2_tableO E x rw ln t1 t2 nb dn (rfF ad nb) D A B a1 a2 a3 a4 hI.1 hb) (fun _ _ h => ⟨h.1, A, B, h.2⟩) (qX3_tableN E h m1 m2 m3 m4 m5 m6 nb dn sz K F G D T a1 a2 a3 a4 hI.1 (fun b => (hI.2.2.1 b).1) (fun q => hb q.1)) (fun _ _ h => ⟨h.1, T, h.2⟩) hI
theorem op_ray {E : zE} {J : zJ} {nm : String} {b L : Nat} {xs : Nat → Int32} {c n : Nat} {x h i rw ln t1 t2 : Nat} {ad : zAd} {m1 m2 m3 m4 m5 m6 nb dn : Nat} {sz : Nat → Nat} {K F G : Nat → Nat → Int32} {D : Nat → Int32} {A B T : TB} (W : zLw E J nm b L xs) (hL : L ≤ 4096) (hi : i + 8 ≤ L) (hcn : c + 4 ≤ 623441 ∧ n + 28 ≤ 7231924) (hI : Inv nb dn sz K F G D) (kk : lNx E J x h c n (lV b x h i)) : J c n (lW E x rw ln t1 t2 ad h m1 m2 m3 m4 m5 m6 nb dn sz K F G D A B T) 463 (lV b x h i) [] := by
  have wk := wk_ray (x := x) (h := h) W hL hi hcn
  generalize xs (i + 1) = a1, xs (i + 2) = a2, xs (i + 3) = a3, xs (i + 4) = a4, xs (i + 5) = a5, xs (i + 6) = a6, xs (i + 7) = a7 at wk
  by_cases hb : inB nb a1
  · obtain ⟨j, hj, rfl⟩ := inB_of hb
    by_cases hv : (a2 = 0 ∨ a2 = 1) ∧ (ner a3 ∧ ner a4) ∧ inB (sz j + 1) a5 ∧ (a6 = 0 ∨ a6 = 1) ∧ (a7 = 0 ∨ a7 = 1)
    · obtain ⟨hw, hxy, h6, he, hh⟩ := hv
      obtain ⟨p, hp, rfl⟩ := inB_of h6
      have hr := hI.2.2.1 j
      exact l_gen wk W.ok kk _ _ (by rw [led_wrk hr.2.1 hr.1 hw (Or.inr rfl) (Nat.le_of_lt_succ hp)]; exact ray_eq (wrk_ok hr.2.1 hr.1 hw (Nat.le_of_lt_succ hp))) (rows_open (List.mem_range.mpr hj)) (rows_open (List.mem_range.mpr hj)) (qX2_ray E x rw ln t1 t2 nb dn (rfF ad nb) D A B _ _ _ _ (K j) (F j) (G j) (sz j) j p a2 a3 a4 a6 a7 hI.1 hj (rfF_in hj) (hI.2.2.1 j).1 hw hxy (Nat.le_of_lt_succ hp) he hh) (fun _ _ h => h) (qX3_ray E h m1 m2 m3 m4 m5 m6 nb dn sz K F G D T j p a2 a3 a4 a6 a7 hI.1 (fun b => (hI.2.2.1 b).1) hj hw hxy (Nat.le_of_lt_succ hp) he hh) (fun _ _ h => h) hI
    · exact l_gen wk W.ok kk _ _ rfl (rows_open (List.mem_range.mpr hj)) (rows_open (List.mem_range.mpr hj)) (qX2_rayN E x rw ln t1 t2 nb dn (rfF ad nb) D A B _ _ _ _ (K j) (F j) (G j) (sz j) j a2 a3 a4 a5 a6 a7 hI.1 hj (rfF_in hj) (hI.2.2.1 j).1 hv) (fun _ _ h => ⟨h.1, A, B, h.2⟩) (qX3_rayN E h m1 m2 m3 m4 m5 m6 nb dn sz K F G D T _ a2 a3 a4 a5 a6 a7 hI.1 (fun b => (hI.2.2.1 b).1) (fun ⟨j', hj', e, q⟩ => hv (by cases nIj hj hj' hI.1 e; exact q))) (fun _ _ h => ⟨h.1, T, h.2⟩) hI
  · exact l_gen wk W.ok kk _ _ rfl p_0 p_0 (qX2_rayO E x rw ln t1 t2 nb dn (rfF ad nb) D A B a1 a2 a3 a4 a5 a6 a7 hI.1 hb) (fun _ _ h => ⟨h.1, A, B, h.2⟩) (qX3_rayN E h m1 m2 m3 m4 m5 m6 nb dn sz K F G D T a1 a2 a3 a4 a5 a6 a7 hI.1 (fun b => (hI.2.2.1 b).1) (fun ⟨j', hj', e, _⟩ => hb (by rw [e]; exact inB_nI hj' (by have := hI.1; omega)))) (fun _ _ h => ⟨h.1, T, h.2⟩) hI
theorem op_stops {E : zE} {J : zJ} {nm : String} {b L : Nat} {xs : Nat → Int32} {c n : Nat} {x h i rw ln t1 t2 : Nat} {ad : zAd} {m1 m2 m3 m4 m5 m6 nb dn : Nat} {sz : Nat → Nat} {K F G : Nat → Nat → Int32} {D : Nat → Int32} {A B T : TB} (W : zLw E J nm b L xs) (hL : L ≤ 4096) (hi : i + 8 ≤ L) (hcn : c + 4 ≤ 623441 ∧ n + 28 ≤ 7231924) (hI : Inv nb dn sz K F G D) (kk : lNx E J x h c n (lV b x h i)) : J c n (lW E x rw ln t1 t2 ad h m1 m2 m3 m4 m5 m6 nb dn sz K F G D A B T) 551 (lV b x h i) [] := by
  have wk := wk_stops (x := x) (h := h) W hL hi hcn
  generalize xs (i + 1) = a1, xs (i + 2) = a2, xs (i + 3) = a3, xs (i + 4) = a4 at wk
  by_cases hb : inB nb a1
  · obtain ⟨j, hj, rfl⟩ := inB_of hb
    by_cases hv : (a2 = 0 ∨ a2 = 1) ∧ (ner a3 ∧ ner a4)
    · obtain ⟨hw, hxy⟩ := hv
      have hr := hI.2.2.1 j
      exact l_gen wk W.ok kk _ _ (stoR_eq hr.2.1 hr.1 hw) (rows_open (List.mem_range.mpr hj)) (rows_open (List.mem_range.mpr hj)) (qX2_stops E x rw ln t1 t2 nb dn (rfF ad nb) D A B _ _ _ _ (K j) (F j) (G j) (sz j) j a2 a3 a4 hI.1 hj (rfF_in hj) (hI.2.2.1 j).1 hw hxy) (fun _ _ h => h) (qX3_stops E h m1 m2 m3 m4 m5 m6 nb dn sz K F G D T j a2 a3 a4 hI.1 (fun b => (hI.2.2.1 b).1) hj hw hxy) (fun _ _ h => h) hI
    · exact l_gen wk W.ok kk _ _ rfl (rows_open (List.mem_range.mpr hj)) (rows_open (List.mem_range.mpr hj)) (qX2_stopsN E x rw ln t1 t2 nb dn (rfF ad nb) D A B _ _ _ _ (K j) (F j) (G j) (sz j) j a2 a3 a4 hI.1 hj (rfF_in hj) (hI.2.2.1 j).1 hv) (fun _ _ h => ⟨h.1, A, B, h.2⟩) (qX3_stopsN E h m1 m2 m3 m4 m5 m6 nb dn sz K F G D T _ a2 a3 a4 hI.1 (fun b => (hI.2.2.1 b).1) (fun q => hv q.2)) (fun _ _ h => ⟨h.1, T, h.2⟩) hI
  · exact l_gen wk W.ok kk _ _ rfl p_0 p_0 (qX2_stopsO E x rw ln t1 t2 nb dn (rfF ad nb) D A B a1 a2 a3 a4 hI.1 hb) (fun _ _ h => ⟨h.1, A, B, h.2⟩) (qX3_stopsN E h m1 m2 m3 m4 m5 m6 nb dn sz K F G D T a1 a2 a3 a4 hI.1 (fun b => (hI.2.2.1 b).1) (fun q => hb q.1)) (fun _ _ h => ⟨h.1, T, h.2⟩) hI
theorem op_full {E : zE} {J : zJ} {nm : String} {b L : Nat} {xs : Nat → Int32} {c n : Nat} {x h i rw ln t1 t2 : Nat} {ad : zAd} {m1 m2 m3 m4 m5 m6 nb dn : Nat} {sz : Nat → Nat} {K F G : Nat → Nat → Int32} {D : Nat → Int32} {A B T : TB} (W : zLw E J nm b L xs) (hL : L ≤ 4096) (hi : i + 8 ≤ L) (hcn : c + 4 ≤ 623441 ∧ n + 28 ≤ 7231924) (hI : Inv nb dn sz K F G D) (kk : lNx E J x h c n (lV b x h i)) : J c n (lW E x rw ln t1 t2 ad h m1 m2 m3 m4 m5 m6 nb dn sz K F G D A B T) 604 (lV b x h i) [] := by
  have wk := wk_full (x := x) (h := h) W hL hi hcn
  generalize xs (i + 1) = a1, xs (i + 2) = a2 at wk
  by_cases hb : inB nb a1
  · obtain ⟨j, hj, rfl⟩ := inB_of hb
    by_cases hv : (a2 = 0 ∨ a2 = 1)
    · have hw := hv
      have hr := hI.2.2.1 j
      exact l_gen wk W.ok kk _ _ (ful_eq hr.2.1 hr.1 hw) (rows_open (List.mem_range.mpr hj)) (rows_open (List.mem_range.mpr hj)) (qX2_full E x rw ln t1 t2 nb dn (rfF ad nb) D A B _ _ _ _ (K j) (F j) (G j) (sz j) j a2 hI.1 hj (rfF_in hj) (hI.2.2.1 j).1 hw) (fun _ _ h => h) (qX3_full E h m1 m2 m3 m4 m5 m6 nb dn sz K F G D T j a2 hI.1 (fun b => (hI.2.2.1 b).1) hj hw) (fun _ _ h => h) hI
    · exact l_gen wk W.ok kk _ _ rfl (rows_open (List.mem_range.mpr hj)) (rows_open (List.mem_range.mpr hj)) (qX2_fullN E x rw ln t1 t2 nb dn (rfF ad nb) D A B _ _ _ _ (K j) (F j) (G j) (sz j) j a2 hI.1 hj (rfF_in hj) (hI.2.2.1 j).1 hv) (fun _ _ h => ⟨h.1, A, B, h.2⟩) (qX3_fullN E h m1 m2 m3 m4 m5 m6 nb dn sz K F G D T _ a2 hI.1 (fun b => (hI.2.2.1 b).1) (fun q => hv q.2)) (fun _ _ h => ⟨h.1, T, h.2⟩) hI
  · exact l_gen wk W.ok kk _ _ rfl p_0 p_0 (qX2_fullO E x rw ln t1 t2 nb dn (rfF ad nb) D A B a1 a2 hI.1 hb) (fun _ _ h => ⟨h.1, A, B, h.2⟩) (qX3_fullN E h m1 m2 m3 m4 m5 m6 nb dn sz K F G D T a1 a2 hI.1 (fun b => (hI.2.2.1 b).1) (fun q => hb q.1)) (fun _ _ h => ⟨h.1, T, h.2⟩) hI
theorem op_image {E : zE} {J : zJ} {nm : String} {b L : Nat} {xs : Nat → Int32} {c n : Nat} {x h i rw ln t1 t2 : Nat} {ad : zAd} {m1 m2 m3 m4 m5 m6 nb dn : Nat} {sz : Nat → Nat} {K F G : Nat → Nat → Int32} {D : Nat → Int32} {A B T : TB} (W : zLw E J nm b L xs) (hL : L ≤ 4096) (hi : i + 8 ≤ L) (hcn : c + 4 ≤ 623441 ∧ n + 28 ≤ 7231924) (hI : Inv nb dn sz K F G D) (kk : lNx E J x h c n (lV b x h i)) : J c n (lW E x rw ln t1 t2 ad h m1 m2 m3 m4 m5 m6 nb dn sz K F G D A B T) 637 (lV b x h i) [] := by
  have wk := wk_image (x := x) (h := h) W hL hi hcn
  generalize xs (i + 1) = a1, xs (i + 2) = a2, xs (i + 3) = a3, xs (i + 4) = a4 at wk
  by_cases hb : inB nb a1
  · obtain ⟨j, hj, rfl⟩ := inB_of hb
    by_cases hv : (a2 = 0 ∨ a2 = 1) ∧ (a3 = 0 ∨ a3 = 1) ∧ (a4 = 0 ∨ a4 = 1)
    · obtain ⟨hw, he, hh⟩ := hv
      have hr := hI.2.2.1 j
      exact l_gen wk W.ok kk _ _ (by rw [tab_eq hr.2.1 hr.1 hw]; exact img_eq (tabM_ok hr hw)) (rows_open (List.mem_range.mpr hj)) (rows_open (List.mem_range.mpr hj)) (qX2_image E x rw ln t1 t2 nb dn (rfF ad nb) D A B _ _ _ _ (K j) (F j) (G j) (sz j) j a2 a3 a4 hI.1 hj (rfF_in hj) (hI.2.2.1 j).1 hw he hh) (fun _ _ h => h) (qX3_image E h m1 m2 m3 m4 m5 m6 nb dn sz K F G D T j a2 a3 a4 hI.1 (fun b => (hI.2.2.1 b).1) hj hw he hh) (fun _ _ h => h) hI
    · exact l_gen wk W.ok kk _ _ rfl (rows_open (List.mem_range.mpr hj)) (rows_open (List.mem_range.mpr hj)) (qX2_imageN E x rw ln t1 t2 nb dn (rfF ad nb) D A B _ _ _ _ (K j) (F j) (G j) (sz j) j a2 a3 a4 hI.1 hj (rfF_in hj) (hI.2.2.1 j).1 hv) (fun _ _ h => ⟨h.1, A, B, h.2⟩) (qX3_imageN E h m1 m2 m3 m4 m5 m6 nb dn sz K F G D T _ a2 a3 a4 hI.1 (fun b => (hI.2.2.1 b).1) (fun q => hv q.2)) (fun _ _ h => ⟨h.1, T, h.2⟩) hI
  · exact l_gen wk W.ok kk _ _ rfl p_0 p_0 (qX2_imageO E x rw ln t1 t2 nb dn (rfF ad nb) D A B a1 a2 a3 a4 hI.1 hb) (fun _ _ h => ⟨h.1, A, B, h.2⟩) (qX3_imageN E h m1 m2 m3 m4 m5 m6 nb dn sz K F G D T a1 a2 a3 a4 hI.1 (fun b => (hI.2.2.1 b).1) (fun q => hb q.1)) (fun _ _ h => ⟨h.1, T, h.2⟩) hI
theorem op_round {E : zE} {J : zJ} {nm : String} {b L : Nat} {xs : Nat → Int32} {c n : Nat} {x h i rw ln t1 t2 : Nat} {ad : zAd} {m1 m2 m3 m4 m5 m6 nb dn : Nat} {sz : Nat → Nat} {K F G : Nat → Nat → Int32} {D : Nat → Int32} {A B T : TB} (W : zLw E J nm b L xs) (hL : L ≤ 4096) (hi : i + 8 ≤ L) (hcn : c + 4 ≤ 623441 ∧ n + 28 ≤ 7231924) (hI : Inv nb dn sz K F G D) (kk : lNx E J x h c n (lV b x h i)) : J c n (lW E x rw ln t1 t2 ad h m1 m2 m3 m4 m5 m6 nb dn sz K F G D A B T) 734 (lV b x h i) [] := by
  have wk := wk_round (x := x) (h := h) W hL hi hcn
  generalize xs (i + 1) = a1, xs (i + 2) = a2 at wk
  by_cases hb : inB nb a1
  · obtain ⟨j, hj, rfl⟩ := inB_of hb
    by_cases hv : (a2 = 0 ∨ a2 = 1)
    · have hw := hv
      have hr := hI.2.2.1 j
      exact l_gen wk W.ok kk _ _ (by rw [tab_eq hr.2.1 hr.1 hw]) (rows_open (List.mem_range.mpr hj)) (rows_open (List.mem_range.mpr hj)) (qX2_round E x rw ln t1 t2 nb dn (rfF ad nb) D A B _ _ _ _ (K j) (F j) (G j) (sz j) j a2 hI.1 hj (rfF_in hj) (hI.2.2.1 j).1 hw) (fun _ _ h => h) (qX3_round E h m1 m2 m3 m4 m5 m6 nb dn sz K F G D T j a2 hI.1 (fun b => (hI.2.2.1 b).1) hj hw) (fun _ _ h => h) hI
    · exact l_gen wk W.ok kk _ _ rfl (rows_open (List.mem_range.mpr hj)) (rows_open (List.mem_range.mpr hj)) (qX2_roundN E x rw ln t1 t2 nb dn (rfF ad nb) D A B _ _ _ _ (K j) (F j) (G j) (sz j) j a2 hI.1 hj (rfF_in hj) (hI.2.2.1 j).1 hv) (fun _ _ h => ⟨h.1, A, B, h.2⟩) (qX3_roundN E h m1 m2 m3 m4 m5 m6 nb dn sz K F G D T _ a2 hI.1 (fun b => (hI.2.2.1 b).1) (fun q => hv q.2)) (fun _ _ h => ⟨h.1, T, h.2⟩) hI
  · exact l_gen wk W.ok kk _ _ rfl p_0 p_0 (qX2_roundO E x rw ln t1 t2 nb dn (rfF ad nb) D A B a1 a2 hI.1 hb) (fun _ _ h => ⟨h.1, A, B, h.2⟩) (qX3_roundN E h m1 m2 m3 m4 m5 m6 nb dn sz K F G D T a1 a2 hI.1 (fun b => (hI.2.2.1 b).1) (fun q => hb q.1)) (fun _ _ h => ⟨h.1, T, h.2⟩) hI
theorem op_trace {E : zE} {J : zJ} {nm : String} {b L : Nat} {xs : Nat → Int32} {c n : Nat} {x h i rw ln t1 t2 : Nat} {ad : zAd} {m1 m2 m3 m4 m5 m6 nb dn : Nat} {sz : Nat → Nat} {K F G : Nat → Nat → Int32} {D : Nat → Int32} {A B T : TB} (W : zLw E J nm b L xs) (hL : L ≤ 4096) (hi : i + 8 ≤ L) (hcn : c + 4 ≤ 623441 ∧ n + 28 ≤ 7231924) (hI : Inv nb dn sz K F G D) (kk : lNx E J x h c n (lV b x h i)) : J c n (lW E x rw ln t1 t2 ad h m1 m2 m3 m4 m5 m6 nb dn sz K F G D A B T) 767 (lV b x h i) [] := by
  have wk := wk_trace (x := x) (h := h) W hL hi hcn
  generalize xs (i + 1) = a1, xs (i + 2) = a2, xs (i + 3) = a3 at wk
  by_cases hb : inB nb a1
  · obtain ⟨j, hj, rfl⟩ := inB_of hb
    by_cases hv : (a2 = 0 ∨ a2 = 1) ∧ (a3 = 0 ∨ a3 = 1)
    · obtain ⟨hw, hh⟩ := hv
      have hr := hI.2.2.1 j
      exact l_gen wk W.ok kk _ _ (by rw [tab_tol hr hw, tab_eq hr.2.1 hr.1 hw]) (rows_open (List.mem_range.mpr hj)) (rows_open (List.mem_range.mpr hj)) (qX2_trace E x rw ln t1 t2 nb dn (rfF ad nb) D A B _ _ _ _ (K j) (F j) (G j) (sz j) j a2 a3 hI.1 hj (rfF_in hj) (hI.2.2.1 j).1 hw hh) (fun _ _ h => h) (qX3_trace E h m1 m2 m3 m4 m5 m6 nb dn sz K F G D T j a2 a3 hI.1 (fun b => (hI.2.2.1 b).1) hj hw hh) (fun _ _ h => h) hI
    · exact l_gen wk W.ok kk _ _ rfl (rows_open (List.mem_range.mpr hj)) (rows_open (List.mem_range.mpr hj)) (qX2_traceN E x rw ln t1 t2 nb dn (rfF ad nb) D A B _ _ _ _ (K j) (F j) (G j) (sz j) j a2 a3 hI.1 hj (rfF_in hj) (hI.2.2.1 j).1 hv) (fun _ _ h => ⟨h.1, A, B, h.2⟩) (qX3_traceN E h m1 m2 m3 m4 m5 m6 nb dn sz K F G D T _ a2 a3 hI.1 (fun b => (hI.2.2.1 b).1) (fun q => hv q.2)) (fun _ _ h => ⟨h.1, T, h.2⟩) hI
  · exact l_gen wk W.ok kk _ _ rfl p_0 p_0 (qX2_traceO E x rw ln t1 t2 nb dn (rfF ad nb) D A B a1 a2 a3 hI.1 hb) (fun _ _ h => ⟨h.1, A, B, h.2⟩) (qX3_traceN E h m1 m2 m3 m4 m5 m6 nb dn sz K F G D T a1 a2 a3 hI.1 (fun b => (hI.2.2.1 b).1) (fun q => hb q.1)) (fun _ _ h => ⟨h.1, T, h.2⟩) hI
theorem op_turns {E : zE} {J : zJ} {nm : String} {b L : Nat} {xs : Nat → Int32} {c n : Nat} {x h i rw ln t1 t2 : Nat} {ad : zAd} {m1 m2 m3 m4 m5 m6 nb dn : Nat} {sz : Nat → Nat} {K F G : Nat → Nat → Int32} {D : Nat → Int32} {A B T : TB} (W : zLw E J nm b L xs) (hL : L ≤ 4096) (hi : i + 8 ≤ L) (hcn : c + 4 ≤ 623441 ∧ n + 28 ≤ 7231924) (hI : Inv nb dn sz K F G D) (kk : lNx E J x h c n (lV b x h i)) : J c n (lW E x rw ln t1 t2 ad h m1 m2 m3 m4 m5 m6 nb dn sz K F G D A B T) 811 (lV b x h i) [] := by
  have wk := wk_turns (x := x) (h := h) W hL hi hcn
  generalize xs (i + 1) = a1, xs (i + 2) = a2 at wk
  by_cases hb : inB nb a1
  · obtain ⟨j, hj, rfl⟩ := inB_of hb
    by_cases hv : (a2 = 0 ∨ a2 = 1)
    · have hw := hv
      have hr := hI.2.2.1 j
      exact l_gen wk W.ok kk _ _ (by rw [tab_eq hr.2.1 hr.1 hw]) (rows_open (List.mem_range.mpr hj)) (rows_open (List.mem_range.mpr hj)) (qX2_turns E x rw ln t1 t2 nb dn (rfF ad nb) D A B _ _ _ _ (K j) (F j) (G j) (sz j) j a2 hI.1 hj (rfF_in hj) (hI.2.2.1 j).1 hw) (fun _ _ h => h) (qX3_turns E h m1 m2 m3 m4 m5 m6 nb dn sz K F G D T j a2 hI.1 (fun b => (hI.2.2.1 b).1) hj hw) (fun _ _ h => h) hI
    · exact l_gen wk W.ok kk _ _ rfl (rows_open (List.mem_range.mpr hj)) (rows_open (List.mem_range.mpr hj)) (qX2_turnsN E x rw ln t1 t2 nb dn (rfF ad nb) D A B _ _ _ _ (K j) (F j) (G j) (sz j) j a2 hI.1 hj (rfF_in hj) (hI.2.2.1 j).1 hv) (fun _ _ h => ⟨h.1, A, B, h.2⟩) (qX3_turnsN E h m1 m2 m3 m4 m5 m6 nb dn sz K F G D T _ a2 hI.1 (fun b => (hI.2.2.1 b).1) (fun q => hv q.2)) (fun _ _ h => ⟨h.1, T, h.2⟩) hI
  · exact l_gen wk W.ok kk _ _ rfl p_0 p_0 (qX2_turnsO E x rw ln t1 t2 nb dn (rfF ad nb) D A B a1 a2 hI.1 hb) (fun _ _ h => ⟨h.1, A, B, h.2⟩) (qX3_turnsN E h m1 m2 m3 m4 m5 m6 nb dn sz K F G D T a1 a2 hI.1 (fun b => (hI.2.2.1 b).1) (fun q => hb q.1)) (fun _ _ h => ⟨h.1, T, h.2⟩) hI
theorem op_beam {E : zE} {J : zJ} {nm : String} {b L : Nat} {xs : Nat → Int32} {c n : Nat} {x h i rw ln t1 t2 : Nat} {ad : zAd} {m1 m2 m3 m4 m5 m6 nb dn : Nat} {sz : Nat → Nat} {K F G : Nat → Nat → Int32} {D : Nat → Int32} {A B T : TB} (W : zLw E J nm b L xs) (hL : L ≤ 4096) (hi : i + 8 ≤ L) (hcn : c + 4 ≤ 623441 ∧ n + 28 ≤ 7231924) (hI : Inv nb dn sz K F G D) (kk : lNx E J x h c n (lV b x h i)) : J c n (lW E x rw ln t1 t2 ad h m1 m2 m3 m4 m5 m6 nb dn sz K F G D A B T) 844 (lV b x h i) [] := by
  have wk := wk_beam (x := x) (h := h) W hL hi hcn
  generalize xs (i + 1) = a1, xs (i + 2) = a2, xs (i + 3) = a3, xs (i + 4) = a4, xs (i + 5) = a5 at wk
  by_cases hb : inB nb a1
  · obtain ⟨j, hj, rfl⟩ := inB_of hb
    by_cases hv : inB (sz j) a3 ∧ (a2 = 0 ∨ a2 = 1) ∧ (a4 = 0 ∨ a4 = 1) ∧ (a5 = 0 ∨ a5 = 1)
    · obtain ⟨h6, hw, he, hh⟩ := hv
      obtain ⟨p, hp, rfl⟩ := inB_of h6
      have hr := hI.2.2.1 j
      exact l_gen wk W.ok kk _ _ (by rw [rot_eq hr.2.1 hr.1 hw hp]; exact bem_eq (rotM_ok hr hw)) (rows_open (List.mem_range.mpr hj)) (rows_open (List.mem_range.mpr hj)) (qX2_beam E x rw ln t1 t2 nb dn (rfF ad nb) D A B _ _ _ _ (K j) (F j) (G j) (sz j) j p a2 a4 a5 hI.1 hj (rfF_in hj) (hI.2.2.1 j).1 hp hw he hh) (fun _ _ h => h) (qX3_beam E h m1 m2 m3 m4 m5 m6 nb dn sz K F G D T j p a2 a4 a5 hI.1 (fun b => (hI.2.2.1 b).1) hj hp hw he hh) (fun _ _ h => h) hI
    · exact l_gen wk W.ok kk _ _ rfl (rows_open (List.mem_range.mpr hj)) (rows_open (List.mem_range.mpr hj)) (qX2_beamN E x rw ln t1 t2 nb dn (rfF ad nb) D A B _ _ _ _ (K j) (F j) (G j) (sz j) j a2 a3 a4 a5 hI.1 hj (rfF_in hj) (hI.2.2.1 j).1 hv) (fun _ _ h => ⟨h.1, A, B, h.2⟩) (qX3_beamN E h m1 m2 m3 m4 m5 m6 nb dn sz K F G D T _ a2 a3 a4 a5 hI.1 (fun b => (hI.2.2.1 b).1) (fun ⟨j', hj', e, q⟩ => hv (by cases nIj hj hj' hI.1 e; exact q))) (fun _ _ h => ⟨h.1, T, h.2⟩) hI
  · exact l_gen wk W.ok kk _ _ rfl p_0 p_0 (qX2_beamO E x rw ln t1 t2 nb dn (rfF ad nb) D A B a1 a2 a3 a4 a5 hI.1 hb) (fun _ _ h => ⟨h.1, A, B, h.2⟩) (qX3_beamN E h m1 m2 m3 m4 m5 m6 nb dn sz K F G D T a1 a2 a3 a4 a5 hI.1 (fun b => (hI.2.2.1 b).1) (fun ⟨j', hj', e, _⟩ => hb (by rw [e]; exact inB_nI hj' (by have := hI.1; omega)))) (fun _ _ h => ⟨h.1, T, h.2⟩) hI
theorem op_axis {E : zE} {J : zJ} {nm : String} {b L : Nat} {xs : Nat → Int32} {c n : Nat} {x h i rw ln t1 t2 : Nat} {ad : zAd} {m1 m2 m3 m4 m5 m6 nb dn : Nat} {sz : Nat → Nat} {K F G : Nat → Nat → Int32} {D : Nat → Int32} {A B T : TB} (W : zLw E J nm b L xs) (hL : L ≤ 4096) (hi : i + 8 ≤ L) (hcn : c + 4 ≤ 623441 ∧ n + 28 ≤ 7231924) (hI : Inv nb dn sz K F G D) (kk : lNx E J x h c n (lV b x h i)) : J c n (lW E x rw ln t1 t2 ad h m1 m2 m3 m4 m5 m6 nb dn sz K F G D A B T) 941 (lV b x h i) [] := by
  have wk := wk_axis (x := x) (h := h) W hL hi hcn
  generalize xs (i + 1) = a1, xs (i + 2) = a2, xs (i + 3) = a3, xs (i + 4) = a4, xs (i + 5) = a5 at wk
  by_cases hb : inB nb a1
  · obtain ⟨j, hj, rfl⟩ := inB_of hb
    by_cases hv : inB (sz j) a3 ∧ (a2 = 0 ∨ a2 = 1) ∧ (a4 = 0 ∨ a4 = 1) ∧ (a5 = 0 ∨ a5 = 1)
    · obtain ⟨h6, hw, he, hh⟩ := hv
      obtain ⟨p, hp, rfl⟩ := inB_of h6
      have hr := hI.2.2.1 j
      exact l_gen wk W.ok kk _ _ (by rw [rot_eq hr.2.1 hr.1 hw hp]; exact axi_eq (rotM_ok hr hw)) (rows_open (List.mem_range.mpr hj)) (rows_open (List.mem_range.mpr hj)) (qX2_axis E x rw ln t1 t2 nb dn (rfF ad nb) D A B _ _ _ _ (K j) (F j) (G j) (sz j) j p a2 a4 a5 hI.1 hj (rfF_in hj) (hI.2.2.1 j).1 hp hw he hh) (fun _ _ h => h) (qX3_axis E h m1 m2 m3 m4 m5 m6 nb dn sz K F G D T j p a2 a4 a5 hI.1 (fun b => (hI.2.2.1 b).1) hj hp hw he hh) (fun _ _ h => h) hI
    · exact l_gen wk W.ok kk _ _ rfl (rows_open (List.mem_range.mpr hj)) (rows_open (List.mem_range.mpr hj)) (qX2_axisN E x rw ln t1 t2 nb dn (rfF ad nb) D A B _ _ _ _ (K j) (F j) (G j) (sz j) j a2 a3 a4 a5 hI.1 hj (rfF_in hj) (hI.2.2.1 j).1 hv) (fun _ _ h => ⟨h.1, A, B, h.2⟩) (qX3_axisN E h m1 m2 m3 m4 m5 m6 nb dn sz K F G D T _ a2 a3 a4 a5 hI.1 (fun b => (hI.2.2.1 b).1) (fun ⟨j', hj', e, q⟩ => hv (by cases nIj hj hj' hI.1 e; exact q))) (fun _ _ h => ⟨h.1, T, h.2⟩) hI
  · exact l_gen wk W.ok kk _ _ rfl p_0 p_0 (qX2_axisO E x rw ln t1 t2 nb dn (rfF ad nb) D A B a1 a2 a3 a4 a5 hI.1 hb) (fun _ _ h => ⟨h.1, A, B, h.2⟩) (qX3_axisN E h m1 m2 m3 m4 m5 m6 nb dn sz K F G D T a1 a2 a3 a4 a5 hI.1 (fun b => (hI.2.2.1 b).1) (fun ⟨j', hj', e, _⟩ => hb (by rw [e]; exact inB_nI hj' (by have := hI.1; omega)))) (fun _ _ h => ⟨h.1, T, h.2⟩) hI
