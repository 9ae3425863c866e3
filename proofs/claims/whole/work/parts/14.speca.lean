abbrev bnt (a : Int32) : Prop := (¬ a < (-9) ∧ ¬ 9 < a) ∧ ¬ a = 0
abbrev gd0 (a b : Int32) : Prop := (¬ a < 0 ∧ ¬ 20 < a) ∧ b = 0
abbrev gd1 (a b : Int32) : Prop := bnt a ∧ b = 0
abbrev gd2 (a b : Int32) : Prop := bnt a ∧ bnt b
abbrev gd3 (a b : Int32) : Prop := (¬ a < (-3) ∧ ¬ 3 < a) ∧ b = 0
abbrev gd4 (a b : Int32) : Prop := (¬ a < 1 ∧ ¬ 1000 < a) ∧ b = 0
/-- a part as the document has it -/
abbrev gdP (k a b : Int32) : Prop := (k = 0 ∧ gd0 a b) ∨ (k = 1 ∧ gd1 a b) ∨ (k = 2 ∧ gd2 a b) ∨ (k = 3 ∧ gd3 a b) ∨ (k = 4 ∧ gd4 a b)
theorem gdP_0 {k a b : Int32} (h : k = nI 0) (g : gd0 a b) : gdP k a b := by
  subst h
  exact Or.inl ⟨rfl, g⟩
theorem gdP_n0 {k a b : Int32} (h : k = nI 0) (g : ¬ gd0 a b) : ¬ gdP k a b := by
  subst h
  rintro (h | h | h | h | h)
  · exact g h.2
  · exact absurd h.1 (by decide)
  · exact absurd h.1 (by decide)
  · exact absurd h.1 (by decide)
  · exact absurd h.1 (by decide)
theorem gdP_1 {k a b : Int32} (h : k = nI 1) (g : gd1 a b) : gdP k a b := by
  subst h
  exact Or.inr (Or.inl ⟨rfl, g⟩)
theorem gdP_n1 {k a b : Int32} (h : k = nI 1) (g : ¬ gd1 a b) : ¬ gdP k a b := by
  subst h
  rintro (h | h | h | h | h)
  · exact absurd h.1 (by decide)
  · exact g h.2
  · exact absurd h.1 (by decide)
  · exact absurd h.1 (by decide)
  · exact absurd h.1 (by decide)
theorem gdP_2 {k a b : Int32} (h : k = nI 2) (g : gd2 a b) : gdP k a b := by
  subst h
  exact Or.inr (Or.inr (Or.inl ⟨rfl, g⟩))
theorem gdP_n2 {k a b : Int32} (h : k = nI 2) (g : ¬ gd2 a b) : ¬ gdP k a b := by
  subst h
  rintro (h | h | h | h | h)
  · exact absurd h.1 (by decide)
  · exact absurd h.1 (by decide)
  · exact g h.2
  · exact absurd h.1 (by decide)
  · exact absurd h.1 (by decide)
theorem gdP_3 {k a b : Int32} (h : k = nI 3) (g : gd3 a b) : gdP k a b := by
  subst h
  exact Or.inr (Or.inr (Or.inr (Or.inl ⟨rfl, g⟩)))
theorem gdP_n3 {k a b : Int32} (h : k = nI 3) (g : ¬ gd3 a b) : ¬ gdP k a b := by
  subst h
  rintro (h | h | h | h | h)
  · exact absurd h.1 (by decide)
  · exact absurd h.1 (by decide)
  · exact absurd h.1 (by decide)
  · exact g h.2
  · exact absurd h.1 (by decide)
theorem gdP_4 {k a b : Int32} (h : k = nI 4) (g : gd4 a b) : gdP k a b := by
  subst h
  exact Or.inr (Or.inr (Or.inr (Or.inr ⟨rfl, g⟩)))
theorem gdP_n4 {k a b : Int32} (h : k = nI 4) (g : ¬ gd4 a b) : ¬ gdP k a b := by
  subst h
  rintro (h | h | h | h | h)
  · exact absurd h.1 (by decide)
  · exact absurd h.1 (by decide)
  · exact absurd h.1 (by decide)
  · exact absurd h.1 (by decide)
  · exact g h.2
theorem z_in2 {v : Int32} (h : ¬ v < 0 ∧ ¬ 2 < v) : v = 0 ∨ v = 1 ∨ v = 2 := by
  rcases z_swx v 3 (by decide) with ⟨j, hj, rfl⟩ | q
  · rcases (show j = 0 ∨ j = 1 ∨ j = 2 by omega) with rfl | rfl | rfl
    · exact Or.inl rfl
    · exact Or.inr (Or.inl rfl)
    · exact Or.inr (Or.inr rfl)
  · exfalso
    obtain ⟨h1, h2⟩ := h
    rw [Int32.lt_iff_toInt_lt] at h1 h2
    have e2 : (2 : Int32).toInt = 2 := by decide
    rw [Int32.toInt_zero] at h1
    rw [e2] at h2
    omega
theorem z_rev {j m q : Nat} (h : q + 1 ≤ m) : nI (8 * j + m) - 1 - nI q = nI (8 * j + (m - 1 - q)) := by
  have h1 : nI (8 * j + m) - 1 = nI (8 * j + m - 1) := pk_sub (b := 1) (by omega)
  rw [h1, pk_sub (by omega)]
  congr 1
  omega
theorem z_other {K : Nat → Nat → Int32} {R : Nat → Int32} {j o q m : Nat} (h : ∀ x, x < m → R x = K j x) (hq : o = j → q < m) : va_up K j R o q = K o q := by
  by_cases e : o = j
  · subst e
    rw [vu_at]
    exact h q (hq rfl)
  · rw [vu_ne _ _ e]
abbrev ner (x : Int32) : Prop := ¬ x < (-1000) ∧ ¬ 1000 < x
