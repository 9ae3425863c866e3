/-! The benches' cells, any number of them. -/
abbrev zAd : Type := Nat → Nat × Nat × Nat × Nat
abbrev rowC (E : zE) (ad : zAd) (n : Nat → Nat) (K F G : Nat → Nat → Int32) (b : Nat) : va_W := [cO (ad b).1 0 [.ref (ad b).2.1, .ref (ad b).2.2.1, .ref (ad b).2.2.2, .int (nI (n b))], cI E (ad b).2.1 8 (K b), cI E (ad b).2.2.1 8 (F b), cI E (ad b).2.2.2 8 (G b)]
def rowsW (E : zE) (ad : zAd) (n : Nat → Nat) (K F G : Nat → Nat → Int32) (l : List Nat) : va_W := l.flatMap (rowC E ad n K F G)
def rfF (ad : zAd) (nb : Nat) : Nat → Option Nat := fun b => if b < nb then some (ad b).1 else none
theorem rfF_in {ad : zAd} {nb j : Nat} (h : j < nb) : rfF ad nb j = some (ad j).1 := if_pos h
theorem rfF_out {ad : zAd} {nb j : Nat} (h : nb ≤ j) : rfF ad nb j = none := if_neg (Nat.not_lt.mpr h)
theorem rows_open {E : zE} {ad : zAd} {n : Nat → Nat} {K F G : Nat → Nat → Int32} {l : List Nat} {q : Nat} (h : q ∈ l) : (rowsW E ad n K F G l).Perm (rowC E ad n K F G q ++ rowsW E ad n K F G (l.erase q)) :=
  (List.perm_cons_erase h).flatMap_right (rowC E ad n K F G)
theorem rows_cong {E : zE} {ad ad2 : zAd} {n n2 : Nat → Nat} {K F G K2 F2 G2 : Nat → Nat → Int32} : ∀ {l : List Nat}, (∀ b ∈ l, ad b = ad2 b ∧ n b = n2 b ∧ K b = K2 b ∧ F b = F2 b ∧ G b = G2 b) → rowsW E ad n K F G l = rowsW E ad2 n2 K2 F2 G2 l
  | [], _ => rfl
  | b :: l, h => by
    have h1 := h b List.mem_cons_self
    have h2 := rows_cong (l := l) (E := E) (fun x hx => h x (List.mem_cons_of_mem b hx))
    show rowC E ad n K F G b ++ rowsW E ad n K F G l = rowC E ad2 n2 K2 F2 G2 b ++ rowsW E ad2 n2 K2 F2 G2 l
    rw [h2, rowC, rowC, h1.1, h1.2.1, h1.2.2.1, h1.2.2.2.1, h1.2.2.2.2]
theorem rows_close {E : zE} {ad : zAd} {n : Nat → Nat} {K F G : Nat → Nat → Int32} {nb j m : Nat} {R S U : Nat → Int32} (h : j < nb) : (rowsW E ad (va_up n j m) (va_up K j R) (va_up F j S) (va_up G j U) (List.range nb)).Perm ([cO (ad j).1 0 [.ref (ad j).2.1, .ref (ad j).2.2.1, .ref (ad j).2.2.2, .int (nI m)], cI E (ad j).2.1 8 R, cI E (ad j).2.2.1 8 S, cI E (ad j).2.2.2 8 U] ++ rowsW E ad n K F G ((List.range nb).erase j)) := by
  refine (rows_open (List.mem_range.mpr h)).trans ?_
  rw [rows_cong (ad2 := ad) (n2 := n) (K2 := K) (F2 := F) (G2 := G) (fun b hb => ?_)]
  · rw [rowC, vu_at, vu_at, vu_at, vu_at]
  · have hne : b ≠ j := fun e => by subst e; exact List.Nodup.not_mem_erase List.nodup_range hb
    exact ⟨rfl, vu_ne _ _ hne, vu_ne _ _ hne, vu_ne _ _ hne, vu_ne _ _ hne⟩
theorem rows_more {E : zE} {ad : zAd} {n : Nat → Nat} {K F G : Nat → Nat → Int32} {nb : Nat} {o k f s : Nat} (hn : n nb = 0) (hK : K nb = fun _ => 0) (hF : F nb = fun _ => 0) (hG : G nb = fun _ => 0) : rowsW E (va_up ad nb (o, k, f, s)) n K F G (List.range (nb + 1)) = rowsW E ad n K F G (List.range nb) ++ [cO o 0 [.ref k, .ref f, .ref s, .int 0], cI E k 8 (fun _ => 0), cI E f 8 (fun _ => 0), cI E s 8 (fun _ => 0)] := by
  rw [rowsW, List.range_succ, List.flatMap_append]
  have e1 : (List.range nb).flatMap (rowC E (va_up ad nb (o, k, f, s)) n K F G) = rowsW E ad n K F G (List.range nb) := by
    refine rows_cong (fun b hb => ?_)
    have hlt := List.mem_range.mp hb
    exact ⟨vu_ne _ _ (by omega), rfl, rfl, rfl, rfl⟩
  rw [e1]
  show _ ++ (rowC E (va_up ad nb (o, k, f, s)) n K F G nb ++ []) = _
  rw [List.append_nil, rowC, vu_at, hn, hK, hF, hG]
  rfl
theorem rfF_more {ad : zAd} {nb o k f s : Nat} : va_up (rfF ad nb) nb (some o) = rfF (va_up ad nb (o, k, f, s)) (nb + 1) := by
  funext b
  by_cases h : b = nb
  · subst h
    rw [vu_at, rfF_in (by omega), vu_at]
  · rw [vu_ne _ _ h]
    by_cases h2 : b < nb
    · rw [rfF_in h2, rfF_in (by omega), vu_ne _ _ h]
    · rw [rfF_out (by omega), rfF_out (by omega)]
