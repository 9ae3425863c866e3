theorem nL_k7 : Cond.classLink RL 7 RX2 ∈ wsL_law := by decide +kernel
theorem nL_i2 : Cond.instantiable RX2 6 ∈ wsL_law := by decide +kernel
theorem nL_z2 : Cond.initialized RX2 ∈ wsL_law := by decide +kernel
theorem nL_l9 : Cond.methodLink RL 9 yX2_init ∈ wsL_law := by decide +kernel
theorem nL_m9 : Cond.instanceMethod yX2_init ∈ wsL_law := by decide +kernel
theorem nL_k10 : Cond.classLink RL 10 RX3 ∈ wsL_law := by decide +kernel
theorem nL_i3 : Cond.instantiable RX3 9 ∈ wsL_law := by decide +kernel
theorem nL_z3 : Cond.initialized RX3 ∈ wsL_law := by decide +kernel
theorem nL_l12 : Cond.methodLink RL 12 yX3_init ∈ wsL_law := by decide +kernel
theorem nL_m12 : Cond.instanceMethod yX3_init ∈ wsL_law := by decide +kernel
def TZ : TB := (0, 0, 0, 0, 0, 0, 0)
def ad0 : zAd := fun _ => (0, 0, 0, 0)
theorem rfF_0 : rfF ad0 0 = fun _ => none := by
  funext b
  exact rfF_out (Nat.zero_le b)
theorem l_start {E : zE} {J : zJ} {nm : String} {b L : Nat} {xs : Nat → Int32} (W : zLw E J nm b L xs) (hL : L ≤ 4096) : J 0 0 [] 0 [(0, .ref b)] [] := by
  refine g_new (ci := 2) W.ok dL_law_0 rfl inlX2 tyX2 tyX2_ok nL_k7 nL_i2 nL_z2 [.null, .int 0, .null, .int 0, .null, .null] dfX2 ⟨Nat.le_of_ble_eq_true rfl, Nat.le_of_ble_eq_true rfl⟩ (fun x => ?_)
  refine g_dup W.ok dL_law_3 rfl ?_
  refine g_callIC (wc := [cO x 2 [.null, .int 0, .null, .int 0, .null, .null]]) (wr := []) (As := []) (rest := [.ref x]) W.ok (qX2_init E x) zKeep_XI (fun _ h => h) iX2_init gL_law_X2_init nL_z2 nL_l9 nL_m9 rfl ⟨Nat.le_of_ble_eq_true rfl, Nat.le_of_ble_eq_true rfl⟩ dL_law_4 rfl rfl (Nat.le_of_ble_eq_true rfl) ⟨Nat.le_of_ble_eq_true rfl, Nat.le_of_ble_eq_true rfl⟩ (List.Perm.refl _) ?_
  rintro ov wv ⟨rfl, rw, ln, t1, t2, hp⟩
  refine g_perm W.ok (hp.append_right []) ?_
  refine g_astore_n (lv' := [(1, .ref x), (0, .ref b)]) W.ok dL_law_7 rfl (by decide) rfl ?_
  refine g_new (ci := 3) W.ok dL_law_8 rfl inlX3 tyX3 tyX3_ok nL_k10 nL_i3 nL_z3 [.int 0, .null, .null, .null, .null, .int 0, .null, .null, .long 0] dfX3 ⟨Nat.le_of_ble_eq_true rfl, Nat.le_of_ble_eq_true rfl⟩ (fun h => ?_)
  refine g_dup W.ok dL_law_11 rfl ?_
  refine g_callIC (wc := [cO h 3 [.int 0, .null, .null, .null, .null, .int 0, .null, .null, .long 0]]) (wr := xF E x rw ln t1 t2 0 0 (fun _ => none) (fun _ => 0) TZ TZ) (As := []) (rest := [.ref h]) W.ok (qX3_init E h) zKeep_true (fun _ _ => trivial) iX3_init gL_law_X3_init nL_z3 nL_l12 nL_m12 rfl ⟨Nat.le_of_ble_eq_true rfl, Nat.le_of_ble_eq_true rfl⟩ dL_law_12 rfl rfl (Nat.le_of_ble_eq_true rfl) ⟨Nat.le_of_ble_eq_true rfl, Nat.le_of_ble_eq_true rfl⟩ List.perm_append_comm ?_
  rintro ov wv ⟨rfl, m1, m2, m3, m4, m5, m6, rfl⟩
  refine g_astore_n (lv' := [(2, .ref h), (1, .ref x), (0, .ref b)]) W.ok dL_law_15 rfl (by decide) rfl ?_
  refine g_iconst (v := nI 0) W.ok dL_law_16 rfl ?_
  refine g_istore_n (lv' := lV b x h 0) W.ok dL_law_17 rfl (by decide) rfl ?_
  refine g_perm W.ok List.perm_append_comm ?_
  refine g_wide (c' := 100) (n' := 1000) W.ok (Nat.le_of_ble_eq_true rfl) (Nat.le_of_ble_eq_true rfl) ?_
  have key := l_loop (x := x) (h := h) W hL (L / 8) 0 100 1000 (by omega) (by omega) (by omega) (by omega) rw ln t1 t2 ad0 m1 m2 m3 m4 m5 m6 0 0 (fun _ => 0) (fun _ _ => 0) (fun _ _ => 0) (fun _ _ => 0) (fun _ => 0) TZ TZ T0 Inv_0
  unfold lW at key
  rw [rfF_0] at key
  exact key
