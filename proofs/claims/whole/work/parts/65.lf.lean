theorem p_B {α : Type} (N X : List α) {R M : List α} : ((N ++ X) ++ (R ++ M)).Perm (M ++ (X ++ (R ++ N))) := by
  rw [List.append_assoc]
  refine List.perm_append_comm.trans ?_
  rw [List.append_assoc X, List.append_assoc R]
  refine (List.Perm.append_left X (List.Perm.append_left R List.perm_append_comm)).trans ?_
  rw [← List.append_assoc R, ← List.append_assoc X]
  exact List.perm_append_comm
theorem op_bench {E : zE} {J : zJ} {nm : String} {b L : Nat} {xs : Nat → Int32} {c n : Nat} {x h i rw ln t1 t2 : Nat} {ad : zAd} {m1 m2 m3 m4 m5 m6 nb dn : Nat} {sz : Nat → Nat} {K F G : Nat → Nat → Int32} {D : Nat → Int32} {A B T : TB} (W : zLw E J nm b L xs) (hL : L ≤ 4096) (hi : i + 8 ≤ L) (hcn : c + 4 ≤ 623441 ∧ n + 28 ≤ 7231924) (hI : Inv nb dn sz K F G D) (kk : lNx E J x h (c + 4) (n + 28) (lV b x h i)) : J c n (lW E x rw ln t1 t2 ad h m1 m2 m3 m4 m5 m6 nb dn sz K F G D A B T) 148 (lV b x h i) [] := by
  have wk := wk_bench (x := x) (h := h) W hL hi hcn
  by_cases hb : nb < 4
  · have h0 := hI.2.2.2.1 nb (Nat.le_refl nb)
    refine wk _ _ (rowsW E ad sz K F G (List.range nb) ++ mW E h m1 m2 m3 m4 m5 m6 nb dn sz K F G D T) _ _ (qX2_bench E x rw ln t1 t2 nb dn (rfF ad nb) D A B hb) (List.Perm.refl _) rfl ?_
    rintro ov wv ⟨rfl, o, k, f, s, rfl⟩
    refine ⟨nI nb, _, xF E x rw ln t1 t2 (nb + 1) dn (rfF (va_up ad nb (o, k, f, s)) (nb + 1)) D A B ++ rowsW E (va_up ad nb (o, k, f, s)) sz K F G (List.range (nb + 1)), _, _, rfl, qX3_bench E h m1 m2 m3 m4 m5 m6 nb dn sz K F G D T hb h0.1, ?_, rfl, ?_⟩
    · rw [rows_more h0.1 h0.2.1 h0.2.2.1 h0.2.2.2, ← rfF_more]
      exact p_B [cO o 0 [.ref k, .ref f, .ref s, .int 0], cI E k 8 (fun _ => 0), cI E f 8 (fun _ => 0), cI E s 8 (fun _ => 0)] (xF E x rw ln t1 t2 (nb + 1) dn (va_up (rfF ad nb) nb (some o)) D A B)
    · rintro ov2 wv2 ⟨rfl, rfl⟩
      exact ⟨rfl, g_perm W.ok p_3.symm (kk _ _ _ _ _ _ _ _ _ _ _ _ _ _ _ _ _ _ _ _ _ (Inv_bench hI hb))⟩
  · have hb4 : nb = 4 := by have := hI.1; omega
    exact l_gen wk W.ok kk _ _ rfl p_0 p_0 (qX2_benchF E x rw ln t1 t2 nb dn (rfF ad nb) D A B hb4) (fun _ _ h => ⟨h.1, A, B, h.2⟩) (qX3_benchF E h m1 m2 m3 m4 m5 m6 nb dn sz K F G D T hb4) (fun _ _ h => ⟨h.1, T, h.2⟩) hI
theorem and31 (x : Int32) : ∃ j : Nat, j < 32 ∧ x &&& 31 = nI j := by
  refine ⟨(x &&& 31).toBitVec.toNat, ?_, ?_⟩
  · rw [Int32.toBitVec_and, BitVec.toNat_and]
    exact Nat.lt_of_le_of_lt Nat.and_le_right (by decide)
  · apply Int32.toBitVec_inj.mp
    show _ = BitVec.ofNat 32 _
    simp
theorem nI_sub8 {L i : Nat} (hL : L ≤ 4096) (hi : i ≤ 5000) : nI L - nI 8 < nI i ↔ L < i + 8 := by
  by_cases h : 8 ≤ L
  · obtain ⟨q, rfl⟩ : ∃ q, L = q + 8 := ⟨L - 8, by omega⟩
    have e : nI (q + 8) - nI 8 = nI q := by rw [← nI_add]; simp
    rw [e, nI_ltI (by omega) (by omega)]
    omega
  · refine ⟨fun _ => by omega, fun _ => ?_⟩
    rw [Int32.lt_iff_toInt_lt, nI_toInt (n := i) (by omega)]
    have : (nI L - nI 8).toInt < 0 := by
      rcases (show L = 0 ∨ L = 1 ∨ L = 2 ∨ L = 3 ∨ L = 4 ∨ L = 5 ∨ L = 6 ∨ L = 7 by omega) with rfl | rfl | rfl | rfl | rfl | rfl | rfl | rfl <;> decide
    omega
theorem l_loop {E : zE} {J : zJ} {nm : String} {b L : Nat} {xs : Nat → Int32} {x h : Nat} (W : zLw E J nm b L xs) (hL : L ≤ 4096) : ∀ (d i c n : Nat), L < i + 8 * d + 8 → i + 8 * d ≤ 5000 → c + 4 * d ≤ 623441 → n + 28 * d ≤ 7231924 → ∀ (rw ln t1 t2 : Nat) (ad : zAd) (m1 m2 m3 m4 m5 m6 nb dn : Nat) (sz : Nat → Nat) (K F G : Nat → Nat → Int32) (D : Nat → Int32) (A B T : TB), Inv nb dn sz K F G D → J c n (lW E x rw ln t1 t2 ad h m1 m2 m3 m4 m5 m6 nb dn sz K F G D A B T) 18 (lV b x h i) [] := by
  intro d
  induction d with
  | zero =>
    intro i c n hd hi5 hc hn rw ln t1 t2 ad m1 m2 m3 m4 m5 m6 nb dn sz K F G D A B T hI
    refine g_iload_n W.ok dL_law_18 0 rfl rfl ?_
    refine g_aload_n W.ok dL_law_19 3 rfl rfl ?_
    refine g_slen W dL_law_20 ?_
    refine g_bipush (v := nI 8) W.ok dL_law_21 rfl ?_
    refine g_isub W.ok dL_law_23 ?_
    refine g_icmp_gt (tgt := 1199) W.ok dL_law_24 rfl (fun _ => ?_) (fun q => absurd ((nI_sub8 hL (by omega)).mpr (by omega)) q)
    refine g_iconst (v := 1) W.ok dL_law_1199 rfl ?_
    exact g_zret W.ok dL_law_1200 rfl rfl ⟨by show c ≤ 623441; omega, by show n ≤ 7231924; omega⟩ rfl
  | succ d ih =>
    intro i c n hd hi5 hc hn rw ln t1 t2 ad m1 m2 m3 m4 m5 m6 nb dn sz K F G D A B T hI
    refine g_iload_n W.ok dL_law_18 0 rfl rfl ?_
    refine g_aload_n W.ok dL_law_19 3 rfl rfl ?_
    refine g_slen W dL_law_20 ?_
    refine g_bipush (v := nI 8) W.ok dL_law_21 rfl ?_
    refine g_isub W.ok dL_law_23 ?_
    refine g_icmp_gt (tgt := 1199) W.ok dL_law_24 rfl (fun _ => ?_) (fun q => ?_)
    · refine g_iconst (v := 1) W.ok dL_law_1199 rfl ?_
      exact g_zret W.ok dL_law_1200 rfl rfl ⟨by show c ≤ 623441; omega, by show n ≤ 7231924; omega⟩ rfl
    have h8 : i + 8 ≤ L := Nat.not_lt.mp (fun q2 => q ((nI_sub8 hL (by omega)).mpr q2))
    refine g_aload_n W.ok dL_law_27 3 rfl rfl ?_
    refine g_iload_n W.ok dL_law_28 0 rfl rfl ?_
    refine g_sld W hL dL_law_29 (by omega) ?_
    refine g_bipush (v := 31) W.ok dL_law_30 rfl ?_
    refine g_iand W.ok dL_law_32 ?_
    have hcn : c + 4 ≤ 623441 ∧ n + 28 ≤ 7231924 := ⟨by omega, by omega⟩
    have kk4 : lNx E J x h (c + 4) (n + 28) (lV b x h i) := by
      intro rw ln t1 t2 ad m1 m2 m3 m4 m5 m6 nb dn sz K F G D A B T hI
      refine g_iinc (v := nI (i + 8)) W.ok dL_law_1193 0 rfl (nI_add i 8) (by decide) rfl ?_
      exact g_goto (tgt := 18) W.ok dL_law_1196 rfl (ih (i + 8) (c + 4) (n + 28) (by omega) (by omega) (by omega) (by omega) _ _ _ _ _ _ _ _ _ _ _ _ _ _ _ _ _ _ _ _ _ hI)
    have kk0 : lNx E J x h c n (lV b x h i) := by
      intro rw ln t1 t2 ad m1 m2 m3 m4 m5 m6 nb dn sz K F G D A B T hI
      exact g_wide W.ok (Nat.le_add_right c 4) (Nat.le_add_right n 28) (kk4 _ _ _ _ _ _ _ _ _ _ _ _ _ _ _ _ _ _ _ _ _ hI)
    obtain ⟨j, hj, hv⟩ := and31 (xs i)
    rcases (show j = 0 ∨ j = 1 ∨ j = 2 ∨ j = 3 ∨ j = 4 ∨ j = 5 ∨ j = 6 ∨ j = 7 ∨ j = 8 ∨ j = 9 ∨ j = 10 ∨ j = 11 ∨ j = 12 ∨ j = 13 ∨ j = 14 ∨ j = 15 ∨ j = 16 ∨ j = 17 ∨ j = 18 ∨ j = 19 ∨ j = 20 ∨ j = 21 ∨ j = 22 ∨ j = 23 ∨ j = 24 ∨ 25 ≤ j by omega) with rfl | rfl | rfl | rfl | rfl | rfl | rfl | rfl | rfl | rfl | rfl | rfl | rfl | rfl | rfl | rfl | rfl | rfl | rfl | rfl | rfl | rfl | rfl | rfl | rfl | hj25
    · exact g_tsin (tgt := 148) W.ok dL_law_33 0 hv ⟨by decide, by decide⟩ rfl rfl (op_bench W hL h8 hcn hI kk4)
    · exact g_tsin (tgt := 161) W.ok dL_law_33 1 hv ⟨by decide, by decide⟩ rfl rfl (op_put W hL h8 hcn hI kk0)
    · exact g_tsin (tgt := 224) W.ok dL_law_33 2 hv ⟨by decide, by decide⟩ rfl rfl (op_take W hL h8 hcn hI kk0)
    · exact g_tsin (tgt := 257) W.ok dL_law_33 3 hv ⟨by decide, by decide⟩ rfl rfl (op_set W hL h8 hcn hI kk0)
    · exact g_tsin (tgt := 310) W.ok dL_law_33 4 hv ⟨by decide, by decide⟩ rfl rfl (op_part W hL h8 hcn hI kk0)
    · exact g_tsin (tgt := 353) W.ok dL_law_33 5 hv ⟨by decide, by decide⟩ rfl rfl (op_turn W hL h8 hcn hI kk0)
    · exact g_tsin (tgt := 376) W.ok dL_law_33 6 hv ⟨by decide, by decide⟩ rfl rfl (op_join W hL h8 hcn hI kk0)
    · exact g_tsin (tgt := 409) W.ok dL_law_33 7 hv ⟨by decide, by decide⟩ rfl rfl (op_table W hL h8 hcn hI kk0)
    · exact g_tsin (tgt := 463) W.ok dL_law_33 8 hv ⟨by decide, by decide⟩ rfl rfl (op_ray W hL h8 hcn hI kk0)
    · exact g_tsin (tgt := 551) W.ok dL_law_33 9 hv ⟨by decide, by decide⟩ rfl rfl (op_stops W hL h8 hcn hI kk0)
    · exact g_tsin (tgt := 604) W.ok dL_law_33 10 hv ⟨by decide, by decide⟩ rfl rfl (op_full W hL h8 hcn hI kk0)
    · exact g_tsin (tgt := 637) W.ok dL_law_33 11 hv ⟨by decide, by decide⟩ rfl rfl (op_image W hL h8 hcn hI kk0)
    · exact g_tsin (tgt := 691) W.ok dL_law_33 12 hv ⟨by decide, by decide⟩ rfl rfl (op_same W hL h8 hcn hI kk0)
    · exact g_tsin (tgt := 734) W.ok dL_law_33 13 hv ⟨by decide, by decide⟩ rfl rfl (op_round W hL h8 hcn hI kk0)
    · exact g_tsin (tgt := 767) W.ok dL_law_33 14 hv ⟨by decide, by decide⟩ rfl rfl (op_trace W hL h8 hcn hI kk0)
    · exact g_tsin (tgt := 811) W.ok dL_law_33 15 hv ⟨by decide, by decide⟩ rfl rfl (op_turns W hL h8 hcn hI kk0)
    · exact g_tsin (tgt := 844) W.ok dL_law_33 16 hv ⟨by decide, by decide⟩ rfl rfl (op_beam W hL h8 hcn hI kk0)
    · exact g_tsin (tgt := 908) W.ok dL_law_33 17 hv ⟨by decide, by decide⟩ rfl rfl (op_waist W hL h8 hcn hI kk0)
    · exact g_tsin (tgt := 941) W.ok dL_law_33 18 hv ⟨by decide, by decide⟩ rfl rfl (op_axis W hL h8 hcn hI kk0)
    · exact g_tsin (tgt := 1005) W.ok dL_law_33 19 hv ⟨by decide, by decide⟩ rfl rfl (op_span W hL h8 hcn hI kk0)
    · exact g_tsin (tgt := 1048) W.ok dL_law_33 20 hv ⟨by decide, by decide⟩ rfl rfl (op_own W hL h8 hcn hI kk0)
    · exact g_tsin (tgt := 1071) W.ok dL_law_33 21 hv ⟨by decide, by decide⟩ rfl rfl (op_fit W hL h8 hcn hI kk0)
    · exact g_tsin (tgt := 1104) W.ok dL_law_33 22 hv ⟨by decide, by decide⟩ rfl rfl (op_swap W hL h8 hcn hI kk0)
    · exact g_tsin (tgt := 1147) W.ok dL_law_33 23 hv ⟨by decide, by decide⟩ rfl rfl (op_count W hL h8 hcn hI kk0)
    · exact g_tsin (tgt := 1170) W.ok dL_law_33 24 hv ⟨by decide, by decide⟩ rfl rfl (op_drawer W hL h8 hcn hI kk0)
    · exact g_tsout (tgt := 1193) W.ok dL_law_33 (Or.inr (by rw [hv, nI_toInt (by omega)]; omega)) rfl (kk0 _ _ _ _ _ _ _ _ _ _ _ _ _ _ _ _ _ _ _ _ _ hI)
