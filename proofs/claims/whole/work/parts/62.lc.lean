/-! A case of the law out of the two contracts. -/
abbrev xF (E : zE) (x rw ln t1 t2 nb dn : Nat) (RF : Nat → Option Nat) (D : Nat → Int32) (A B : TB) : va_W := [cO x 2 [.ref rw, .int (nI nb), .ref ln, .int (nI dn), .ref t1, .ref t2], cQ E rw 4 RF, cI E ln 12 D, cO t1 1 [.long (ta A), .long (tb A), .long (tc A), .long (td A), .long (te A), .long (tf A), .long (tg A)], cO t2 1 [.long (ta B), .long (tb B), .long (tc B), .long (td B), .long (te B), .long (tf B), .long (tg B)]]
abbrev mW (E : zE) (h m1 m2 m3 m4 m5 m6 nb dn : Nat) (sz : Nat → Nat) (K F G : Nat → Nat → Int32) (D : Nat → Int32) (T : TB) : va_W := [cO h 3 [.int (nI nb), .ref m1, .ref m2, .ref m3, .ref m4, .int (nI dn), .ref m5, .ref m6, .long (tg T)], cI E m1 4 (mN sz), cI E m2 32 (gl K), cI E m3 32 (gl F), cI E m4 32 (gl G), cI E m5 12 D, cJ E m6 6 (tv T)]
abbrev rQ (E : zE) (q : Nat × Nat × Nat × Nat) (m : Nat) (R S U : Nat → Int32) : va_W := [cO q.1 0 [.ref q.2.1, .ref q.2.2.1, .ref q.2.2.2, .int (nI m)], cI E q.2.1 8 R, cI E q.2.2.1 8 S, cI E q.2.2.2 8 U]
abbrev lW (E : zE) (x rw ln t1 t2 : Nat) (ad : zAd) (h m1 m2 m3 m4 m5 m6 nb dn : Nat) (sz : Nat → Nat) (K F G : Nat → Nat → Int32) (D : Nat → Int32) (A B T : TB) : va_W := xF E x rw ln t1 t2 nb dn (rfF ad nb) D A B ++ (rowsW E ad sz K F G (List.range nb) ++ mW E h m1 m2 m3 m4 m5 m6 nb dn sz K F G D T)
def lNx (E : zE) (J : zJ) (x h c n : Nat) (lv : List (Nat × Value)) : Prop := ∀ (rw ln t1 t2 : Nat) (ad : zAd) (m1 m2 m3 m4 m5 m6 nb dn : Nat) (sz : Nat → Nat) (K F G : Nat → Nat → Int32) (D : Nat → Int32) (A B T : TB), Inv nb dn sz K F G D → J c n (lW E x rw ln t1 t2 ad h m1 m2 m3 m4 m5 m6 nb dn sz K F G D A B T) 1193 lv []
theorem p_3 {α : Type} {a b c : List α} : (a ++ (b ++ c)).Perm (c ++ (a ++ b)) := by
  rw [← List.append_assoc]
  exact List.perm_append_comm
theorem p_A {α : Type} {a b c r e : List α} (h : b.Perm (r ++ e)) : (a ++ (b ++ c)).Perm ((a ++ r) ++ (e ++ c)) := by
  rw [List.append_assoc a r]
  refine List.Perm.append_left a ?_
  rw [← List.append_assoc]
  exact h.append_right c
theorem l_gen {E : zE} {J : zJ} {nm : String} {y2 : MethodName} {ws2 : List Cond} {r2 : Room} {y3 : MethodName} {ws3 : List Cond} {r3 : Room} {α : Type} {mk : α → Value} {As : List Value} {x h c n : Nat} {lv : List (Nat × Value)} {pc : Nat}
    (wk : WK E J y2 ws2 r2 y3 ws3 r3 mk As x h c n lv pc) (Z : zLo E J nm) (kk : lNx E J x h (c + r2.cells + r3.cells) (n + r2.slots + r3.slots) lv)
    {rw ln t1 t2 : Nat} {ad : zAd} {m1 m2 m3 m4 m5 m6 nb dn dn' : Nat} {sz sz' : Nat → Nat} {K F G K' F' G' : Nat → Nat → Int32} {D D' : Nat → Int32} {A B T : TB} {r r' e : va_W} {px pm : zPost} (v v2 : α) (hv : v = v2)
    (hop : (rowsW E ad sz K F G (List.range nb)).Perm (r ++ e)) (hcl : (rowsW E ad sz' K' F' G' (List.range nb)).Perm (r' ++ e))
    (cx : zF E y2 ws2 r2 (.ref x :: As) (xF E x rw ln t1 t2 nb dn (rfF ad nb) D A B ++ r) px) (hpx : ∀ (ov : Option Value) (wv : va_W), px ov wv → ov = some (mk v) ∧ ∃ A2 B2 : TB, wv = xF E x rw ln t1 t2 nb dn' (rfF ad nb) D' A2 B2 ++ r')
    (cm : zF E y3 ws3 r3 (.ref h :: As) (mW E h m1 m2 m3 m4 m5 m6 nb dn sz K F G D T) pm) (hpm : ∀ (ov : Option Value) (wv : va_W), pm ov wv → ov = some (mk v2) ∧ ∃ T2 : TB, wv = mW E h m1 m2 m3 m4 m5 m6 nb dn' sz' K' F' G' D' T2)
    (hI' : Inv nb dn' sz' K' F' G' D') : J c n (lW E x rw ln t1 t2 ad h m1 m2 m3 m4 m5 m6 nb dn sz K F G D A B T) pc lv [] := by
  subst hv
  refine wk _ _ (e ++ mW E h m1 m2 m3 m4 m5 m6 nb dn sz K F G D T) px _ cx (p_A hop) rfl ?_
  intro ov wv hp
  obtain ⟨rfl, A2, B2, rfl⟩ := hpx ov wv hp
  refine ⟨v, _, xF E x rw ln t1 t2 nb dn' (rfF ad nb) D' A2 B2 ++ rowsW E ad sz' K' F' G' (List.range nb), _, pm, rfl, cm, (p_A hcl).symm.trans p_3, rfl, ?_⟩
  intro ov2 wv2 hp2
  obtain ⟨rfl, T2, rfl⟩ := hpm ov2 wv2 hp2
  exact ⟨rfl, g_perm Z p_3.symm (kk _ _ _ _ _ _ _ _ _ _ _ _ _ _ _ _ _ _ _ _ _ hI')⟩
theorem p_0 {α : Type} {b : List α} : b.Perm ([] ++ b) := List.Perm.refl _

theorem nIj {nb j j' : Nat} (hj : j < nb) (hj' : j' < nb) (hnb : nb ≤ 4) (e : nI j = nI j') : j = j' := (nI_eq (by omega) (by omega)).mp e
theorem tabM_ok {K F G : Nat → Int32} {way : Int32} {z : Nat} (hr : rowI K F G z) (hw : way = 0 ∨ way = 1) : okT (tabM K F G way z) := wrk_ok hr.2.1 hr.1 hw (Nat.le_refl z)
theorem rotM_ok {K F G : Nat → Int32} {way : Int32} {z i : Nat} (hr : rowI K F G z) (hw : way = 0 ∨ way = 1) : okT (rotM K F G way z i) := wrk_ok hr.2.1 hr.1 hw (Nat.le_refl z)
theorem tab_tol {K F G : Nat → Int32} {way wh : Int32} {z : Nat} {a : Int64} (hr : rowI K F G z) (hw : way = 0 ∨ way = 1) : tolF a (tg (tabX K F G way z)) wh = lowF a (tg (tabM K F G way z)) wh := by
  rw [tab_eq hr.2.1 hr.1 hw]
  exact tol_low (tg_ne (tabM_ok hr hw)).1 (tg_ne (tabM_ok hr hw)).2
