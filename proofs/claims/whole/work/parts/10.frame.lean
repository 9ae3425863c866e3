/-! The frame of the whole proof: a judgement J c n w pc lv st that hides heap, locals and written places; a contract zF; a row an instruction. -/
/-- the surroundings: the launch, the classes' numbers and slots, the classes of int[], long[], LightRound$Row[] -/
abbrev zE : Type := Launch × va_G × ClassId × ClassId × ClassId
abbrev zt (E : zE) : List (ClassId × FieldType) := [(E.2.2.1, .int), (E.2.2.2.1, .long), (E.2.2.2.2, .object "LightRound$Row")]
abbrev cI (E : zE) (a n : Nat) (f : Nat → Int32) : Nat × va_E := (a, .inl (E.2.2.1, n, .inl f))
abbrev cJ (E : zE) (a n : Nat) (f : Nat → Int64) : Nat × va_E := (a, .inl (E.2.2.2.1, n, .inr (.inl f)))
abbrev cQ (E : zE) (a n : Nat) (f : Nat → Option Nat) : Nat × va_E := (a, .inl (E.2.2.2.2, n, .inr (.inr (.inr (.inr f)))))
abbrev cO (a ci : Nat) (fs : List Value) : Nat × va_E := (a, .inr (ci, fs))
abbrev zJ : Type := Nat → Nat → va_W → Nat → List (Nat × Value) → List Value → Prop
abbrev zPost : Type := Option Value → va_W → Prop
def zQ (E : zE) (A : Nat → Prop) (post : zPost) : Array Value → State → Outcome → State → Prop := fun _ st oc t => ∃ (o : Option Value) (w' : va_W), oc = .returned o ∧ post o w' ∧ va_P E.2.1 vwCl w' t.heap ∧ va_D A w' ∧ va_F A st t
/-- what a method's start gives -/
def zPre (E : zE) (av : List Value) (w : va_W) (X : State → Prop) (sz : Nat) : Array Value → State → Prop := va_Pc av (fun U => U.heap.size = sz ∧ va_P E.2.1 vwCl w U.heap ∧ va_K E.2.1 vwCl (zt E) U ∧ va_D (fun _ => True) w ∧ X U)
/-- a contract: from the cells w, with the arguments av, the method returns o and leaves w' with post o w' -/
def zG (E : zE) (y : MethodName) (ws : List Cond) (rm : Room) (av : List Value) (w : va_W) (X : State → Prop) (post : zPost) : Prop := ∀ sz : Nat, Met E.1 y ws rm (zPre E av w X sz) (zQ E (va_A w sz) post) rm.cells rm.slots (va_A w sz)
abbrev zF (E : zE) (y : MethodName) (ws : List Cond) (rm : Room) (av : List Value) (w : va_W) (post : zPost) : Prop := zG E y ws rm av w (fun _ => True) post
/-- an exact end -/
abbrev zx (o : Option Value) (w : va_W) : zPost := fun o' w' => o' = o ∧ w' = w
/-- the place of a walk -/
def zOk (E : zE) (J : zJ) (own : String) (cc : ByteArray) (nL : Nat) (ret : Option FieldType) (Ts : List Cond) (R : Room) (nm : String) (X : State → Prop) (post : zPost) : Prop :=
  ∃ (p : Program) (e : Env) (s : State) (m : MethodId) (args : Array Value) (below : List Frame) (meth : Method) (c : Code) (A : Nat → Prop),
    p.tables.exec = Jvm.exec ∧ c.code = cc ∧ c.maxLocals = nL ∧ s.vm.findClass own = some m.cls ∧ (∀ w ∈ Ts, w.before args s = true) ∧ va_K E.2.1 vwCl (zt E) s ∧ (∀ q, s.heap.size ≤ q → A q) ∧ meth.sig.returnType = ret ∧ meth.locks = false ∧ meth.name = nm ∧ X s ∧
    J = fun cells slots w pc lv st => ∀ (H : Heap) (locs : List Loc) (ls : Array Slot), va_P E.2.1 vwCl w H → va_D A w → va_S A s.heap H locs → lv_has ls nL lv → W p E.1 e R s m args below meth c H locs cells slots (MQ below (zQ E A post) args s R.cells R.slots A) (F0 m pc ls st)
theorem z_start {E : zE} {y : MethodName} {ws ws' : List Cond} {rm : Room} {av : List Value} {w : va_W} {X : State → Prop} {post : zPost} {cc : ByteArray} {maxL : Nat} {ret : Option FieldType} (own nm : String) (hy : plainName y.cls = true) (hw : ws = Cond.code y cc maxL ret :: ws') (hown : y.cls = own) (hnm : y.name = nm) (hlen : (lg_sl av).length ≤ maxL)
    (body : ∀ J : zJ, zOk E J own cc maxL ret ws rm nm X post → J 0 0 w 0 (lv_args 0 av) []) : zG E y ws rm av w X post := by
  intro sz
  refine Met.ofW (cc := cc) (maxL := maxL) (ret := ret) hy hw ?_
  intro p e s m args below meth c s₁ B hml hv
  obtain ⟨rfl, hsz, hP, hK, hD0, hX⟩ := hv
  subst hsz
  have hl := lv_entry av (n := maxL) hlen
  rw [lg_entry_eq]
  refine body _ ⟨p, e, s, m, _, below, meth, c, va_A w s.heap.size, B.exec, B.bytes, hml, by rw [← hown]; exact findClass_of_methodNamed B.named, atoms_spec (ws := ws) B.pre, hK, fun q h => Or.inr h, B.returns, B.notSynchronized, by rw [← hnm]; exact (name_of_methodNamed B.named B.method).1, hX, rfl⟩ s.heap [] _ hP hD0.self va_S.rf hl
theorem z_i64_tri (x y : Int64) : x < y ∨ x = y ∨ y < x := by
  rcases Int.lt_trichotomy x.toInt y.toInt with h | h | h
  · exact Or.inl (Int64.lt_iff_toInt_lt.mpr h)
  · exact Or.inr (Or.inl (Int64.toInt_inj.mp h))
  · exact Or.inr (Or.inr (Int64.lt_iff_toInt_lt.mpr h))
theorem z_i64_asym {x y : Int64} (h : x < y) : ¬ y < x ∧ ¬ x = y ∧ ¬ y = x ∧ x ≤ y ∧ ¬ y ≤ x := by
  have h1 := Int64.lt_iff_toInt_lt.mp h
  refine ⟨fun q => ?_, fun q => ?_, fun q => ?_, Int64.le_iff_toInt_le.mpr (by omega), fun q => ?_⟩
  · have := Int64.lt_iff_toInt_lt.mp q; omega
  · subst q; omega
  · subst q; omega
  · have := Int64.le_iff_toInt_le.mp q; omega
theorem z_i64_irr (x : Int64) : ¬ x < x := fun h => (z_i64_asym h).1 h
theorem z_i64_le_rfl (x : Int64) : x ≤ x := Int64.le_iff_toInt_le.mpr (Int.le_refl _)
theorem z_cmp3 (x y : Int64) : (x < y ∧ lg_cmp x y = -1) ∨ (x = y ∧ lg_cmp x y = 0) ∨ (y < x ∧ lg_cmp x y = 1) := by
  rcases z_i64_tri x y with h | h | h
  · refine Or.inl ⟨h, ?_⟩
    have q := z_i64_asym h
    simp [lg_cmp, q.1, q.2.1]
  · subst h
    exact Or.inr (Or.inl ⟨rfl, by simp [lg_cmp, z_i64_irr]⟩)
  · refine Or.inr (Or.inr ⟨h, ?_⟩)
    simp [lg_cmp, h]
theorem z_cmp_eq (x y : Int64) : lg_cmp x y = 0 ↔ x = y := by
  rcases z_cmp3 x y with ⟨h, e⟩ | ⟨h, e⟩ | ⟨h, e⟩ <;> rw [e]
  · exact ⟨fun q => absurd q (by decide), fun q => absurd q (z_i64_asym h).2.1⟩
  · exact ⟨fun _ => h, fun _ => rfl⟩
  · exact ⟨fun q => absurd q (by decide), fun q => absurd q (z_i64_asym h).2.2.1⟩
theorem z_cmp_ne (x y : Int64) : ¬ lg_cmp x y = 0 ↔ x ≠ y := by
  rw [z_cmp_eq]
theorem z_cmp_lt (x y : Int64) : lg_cmp x y < 0 ↔ x < y := by
  rcases z_cmp3 x y with ⟨h, e⟩ | ⟨h, e⟩ | ⟨h, e⟩ <;> rw [e]
  · exact ⟨fun _ => h, fun _ => by decide⟩
  · subst h; exact ⟨fun q => absurd q (by decide), fun q => absurd q (z_i64_irr x)⟩
  · exact ⟨fun q => absurd q (by decide), fun q => absurd q (z_i64_asym h).1⟩
theorem z_cmp_ge (x y : Int64) : 0 ≤ lg_cmp x y ↔ y ≤ x := by
  rcases z_cmp3 x y with ⟨h, e⟩ | ⟨h, e⟩ | ⟨h, e⟩ <;> rw [e]
  · exact ⟨fun q => absurd q (by decide), fun q => absurd q (z_i64_asym h).2.2.2.2⟩
  · subst h; exact ⟨fun _ => z_i64_le_rfl x, fun _ => by decide⟩
  · exact ⟨fun _ => (z_i64_asym h).2.2.2.1, fun _ => by decide⟩
theorem z_cmp_gt (x y : Int64) : 0 < lg_cmp x y ↔ y < x := by
  rcases z_cmp3 x y with ⟨h, e⟩ | ⟨h, e⟩ | ⟨h, e⟩ <;> rw [e]
  · exact ⟨fun q => absurd q (by decide), fun q => absurd q (z_i64_asym h).1⟩
  · subst h; exact ⟨fun q => absurd q (by decide), fun q => absurd q (z_i64_irr x)⟩
  · exact ⟨fun _ => h, fun _ => by decide⟩
theorem z_cmp_le (x y : Int64) : lg_cmp x y ≤ 0 ↔ x ≤ y := by
  rcases z_cmp3 x y with ⟨h, e⟩ | ⟨h, e⟩ | ⟨h, e⟩ <;> rw [e]
  · exact ⟨fun _ => (z_i64_asym h).2.2.2.1, fun _ => by decide⟩
  · subst h; exact ⟨fun _ => z_i64_le_rfl x, fun _ => by decide⟩
  · exact ⟨fun q => absurd q (by decide), fun q => absurd q (z_i64_asym h).2.2.2.2⟩
/-- the world with the cells at the places is changed -/
def zup : va_W → List Nat → va_W → va_W
  | w, i :: is, q :: qs => zup (w.set i q) is qs
  | w, _, _ => w
theorem z_set_same {α : Type} (l : List α) (i : Nat) (a : α) (h : l[i]? = some a) : l.set i a = l := by
  apply List.ext_getElem?
  intro k
  by_cases hk : i = k
  · subst hk
    rw [List.getElem?_set_self (List.getElem?_eq_some_iff.mp h).1, h]
  · rw [List.getElem?_set_ne hk]
theorem zup_fst : ∀ (is : List Nat) (w1 w : va_W), (∀ (j i : Nat) (q : Nat × va_E), is[j]? = some i → w1[j]? = some q → ∃ p, w[i]? = some p ∧ p.1 = q.1) → (zup w is w1).map Prod.fst = w.map Prod.fst
  | [], w1, w, _ => by cases w1 <;> rfl
  | i :: is, [], w, _ => rfl
  | i :: is, q :: qs, w, h => by
    obtain ⟨p, h1, h2⟩ := h 0 i q rfl rfl
    have hs : (w.set i q).map Prod.fst = w.map Prod.fst := by
      rw [List.map_set]
      exact z_set_same _ _ _ (by rw [List.getElem?_map, h1, ← h2]; rfl)
    show (zup (w.set i q) is qs).map Prod.fst = _
    rw [zup_fst is qs (w.set i q), hs]
    intro j i' q' hj hq
    obtain ⟨p', g1, g2⟩ := h (j + 1) i' q' hj hq
    by_cases hi : i = i'
    · subst hi
      refine ⟨q, List.getElem?_set_self (List.getElem?_eq_some_iff.mp h1).1, ?_⟩
      rw [h1] at g1
      cases g1
      exact h2.symm.trans g2
    · exact ⟨p', by rw [List.getElem?_set_ne hi]; exact g1, g2⟩
theorem zup_get : ∀ (is : List Nat) (w1 w : va_W), is.length = w1.length → ∀ (k : Nat) (q : Nat × va_E), (zup w is w1)[k]? = some q → (k ∉ is ∧ w[k]? = some q) ∨ ∃ j : Nat, w1[j]? = some q
  | [], [], w, _, k, q, h => Or.inl ⟨List.not_mem_nil, h⟩
  | i :: is, p :: ps, w, hl, k, q, h => by
    rcases zup_get is ps (w.set i p) (Nat.succ.inj hl) k q h with ⟨g1, g2⟩ | ⟨j, g⟩
    · by_cases hi : i = k
      · subst hi
        have hlt : i < w.length := by
          have := (List.getElem?_eq_some_iff.mp g2).1
          simpa using this
        rw [List.getElem?_set_self hlt] at g2
        exact Or.inr ⟨0, g2⟩
      · rw [List.getElem?_set_ne hi] at g2
        refine Or.inl ⟨fun hm => ?_, g2⟩
        rcases List.mem_cons.mp hm with e | e
        · exact hi e.symm
        · exact g1 e
    · exact Or.inr ⟨j + 1, g⟩
theorem va_D.fst {A : Nat → Prop} {w w' : va_W} (h : va_D A w) (e : w'.map Prod.fst = w.map Prod.fst) : va_D A w' := by
  have key : ∀ (k : Nat) (q : Nat × va_E), w'[k]? = some q → ∃ q0, w[k]? = some q0 ∧ q0.1 = q.1 := by
    intro k q hk
    have h1 : (w'.map Prod.fst)[k]? = some q.1 := by rw [List.getElem?_map, hk]; rfl
    rw [e, List.getElem?_map] at h1
    cases hw : w[k]? with
    | none => rw [hw] at h1; cases h1
    | some q0 => rw [hw] at h1; exact ⟨q0, rfl, Option.some.inj h1⟩
  refine ⟨fun i j p q hp hq hpq => ?_, fun k q hk => ?_⟩
  · obtain ⟨p0, a1, a2⟩ := key i p hp
    obtain ⟨q0, b1, b2⟩ := key j q hq
    exact h.1 i j p0 q0 a1 b1 (a2.trans (hpq.trans b2.symm))
  · obtain ⟨q0, b1, b2⟩ := key k q hk
    rw [← b2]
    exact h.2 k q0 b1
theorem z_join {A0 : Nat → Prop} {D : va_G} {w wc w1 : va_W} {H H1 : Heap} (hP : va_P D vwCl w H) (hD : va_D A0 w) (is : List Nat) (hC : is.map (fun i => w[i]?) = wc.map some) (h1 : w1.map Prod.fst = wc.map Prod.fst)
    (hk : ∀ q : Nat, q < H.size → ¬ va_A wc H.size q → H1[q]? = H[q]?) (hP1 : va_P D vwCl w1 H1) : va_P D vwCl (zup w is w1) H1 ∧ va_D A0 (zup w is w1) := by
  have at' : ∀ (k : Nat) (q : Nat × va_E), wc[k]? = some q → ∃ i, is[k]? = some i ∧ w[i]? = some q := by
    intro k q hq
    have h1 : (is.map (fun i => w[i]?))[k]? = some (some q) := by rw [hC, List.getElem?_map, hq]; rfl
    rw [List.getElem?_map] at h1
    cases hi : is[k]? with
    | none => rw [hi] at h1; cases h1
    | some i => rw [hi] at h1; exact ⟨i, rfl, Option.some.inj h1⟩
  have hlen : is.length = w1.length := by
    have a := congrArg List.length hC
    have b := congrArg List.length h1
    simp at a b
    omega
  refine ⟨fun k q hq => ?_, hD.fst (zup_fst is w1 w ?_)⟩
  · rcases zup_get is w1 w hlen k q hq with ⟨g1, g2⟩ | ⟨j, g⟩
    · refine (hP k q g2).kept (hk q.1 ((hP k q g2).lt) (fun h => ?_))
      rcases h with ⟨k2, e, h⟩ | h
      · obtain ⟨i, a1, a2⟩ := at' k2 (q.1, e) h
        have := hD.1 k i q (q.1, e) g2 a2 rfl
        subst this
        exact g1 (List.mem_of_getElem? a1)
      · exact absurd ((hP k q g2).lt) (Nat.not_lt.mpr h)
    · exact hP1 j q g
  · intro j i q hj hq
    have e1 : (wc.map Prod.fst)[j]? = some q.1 := by rw [← h1, List.getElem?_map, hq]; rfl
    rw [List.getElem?_map] at e1
    cases hw : wc[j]? with
    | none => rw [hw] at e1; cases e1
    | some p =>
      rw [hw] at e1
      obtain ⟨i2, a1, a2⟩ := at' j p hw
      rw [hj] at a1
      cases a1
      exact ⟨p, a2, Option.some.inj e1⟩
/-- what a call needs to know of a method -/
def zInfo (y : MethodName) (ws : List Cond) (C : String) (maxL : Nat) (rt : Option FieldType) (n : Nat) : Prop := ∃ (bytes : ByteArray) (ws' : List Cond), ws = Cond.code y bytes maxL rt :: ws' ∧ (y.cls = C ∧ y.cls ≠ "java/lang/invoke/MethodHandle" ∧ y.cls ≠ "java/lang/invoke/VarHandle" ∧ (parseMethodDescriptor y.desc).map (fun d => d.parameters.length) = some n)
theorem z_fm {α β : Type} {is : List α} {f : α → Option β} {wc : List β} (h : is.map f = wc.map some) : is.filterMap f = wc := by
  have e : is.filterMap f = (is.map f).filterMap id := by rw [List.filterMap_map]; rfl
  rw [e, h, List.filterMap_map]
  exact List.filterMap_some
theorem va_D.iff {A : Nat → Prop} {w : va_W} : va_D A w ↔ (w.map Prod.fst).Nodup ∧ ∀ q ∈ w, A q.1 := by
  constructor
  · intro h
    refine ⟨List.pairwise_iff_getElem.mpr (fun i j hi hj hij => ?_), fun q hq => ?_⟩
    · intro he
      simp only [List.length_map] at hi hj
      have a1 : w[i]? = some w[i] := List.getElem?_eq_getElem hi
      have a2 : w[j]? = some w[j] := List.getElem?_eq_getElem hj
      simp only [List.getElem_map] at he
      have := h.1 i j _ _ a1 a2 he
      omega
    · obtain ⟨i, hi⟩ := List.getElem?_of_mem hq
      exact h.2 i q hi
  · rintro ⟨h1, h2⟩
    refine ⟨fun i j p q hp hq hpq => ?_, fun k q hk => h2 q (List.mem_of_getElem? hk)⟩
    have key := List.pairwise_iff_getElem.mp h1
    obtain ⟨hi, ei⟩ := List.getElem?_eq_some_iff.mp hp
    obtain ⟨hj, ej⟩ := List.getElem?_eq_some_iff.mp hq
    rcases Nat.lt_trichotomy i j with c | c | c
    · have k1 := key i j (by simpa using hi) (by simpa using hj) c
      simp only [List.getElem_map, ei, ej] at k1
      exact absurd hpq k1
    · exact c
    · have k1 := key j i (by simpa using hj) (by simpa using hi) c
      simp only [List.getElem_map, ei, ej] at k1
      exact absurd hpq.symm k1
theorem va_D.perm {A : Nat → Prop} {w w2 : va_W} (h : va_D A w) (hp : w.Perm w2) : va_D A w2 := by
  rw [va_D.iff] at h ⊢
  exact ⟨(hp.map Prod.fst).nodup_iff.mp h.1, fun q hq => h.2 q (hp.mem_iff.mpr hq)⟩
section ZR
variable {E : zE} {J : zJ} {own nm : String} {cc : ByteArray} {nL : Nat} {ret : Option FieldType} {Ts : List Cond} {R : Room} {X : State → Prop} {post : zPost} {c n : Nat} {w : va_W} {pc : Nat} {lv : List (Nat × Value)} {st : List Value}
theorem g_eq (K : zOk E J own cc nL ret Ts R nm X post) {w2 : va_W} {lv2 : List (Nat × Value)} {st2 : List Value} (hw : w = w2) (hl : lv = lv2) (hs : st = st2) (kk : J c n w2 pc lv2 st2) : J c n w pc lv st := by
  subst hw; subst hl; subst hs; exact kk
theorem g_wide (K : zOk E J own cc nL ret Ts R nm X post) {c' n' : Nat} (h1 : c ≤ c') (h2 : n ≤ n') (kk : J c' n' w pc lv st) : J c n w pc lv st := by
  obtain ⟨p, e, s, m, args, below, meth, cd, A, hx, hb, hml, hown, hts, hK, hA, hr, hlk, hnm, hX, rfl⟩ := K
  intro H locs ls hP hD hS hl
  exact W.widen h1 h2 (kk H locs ls hP hD hS hl)
theorem g_iload_n (K : zOk E J own cc nL ret Ts R nm X post) {k : Fin 4} (d : decode cc pc = .ok (.iload_n k, 1)) (j : Nat) {i : Nat} {x : Int32} (h : lv[j]? = some (i, .int x)) (hi : (k : Nat) = i) (kk : J c n w (pc + 1) lv (.int x :: st)) : J c n w pc lv st := by
  obtain ⟨p, e, s, m, args, below, meth, cd, A, hx, hb, hml, hown, hts, hK, hA, hr, hlk, hnm, hX, rfl⟩ := K
  intro H locs ls hP hD hS hl
  exact lv_iload_n hx hb d hi (lv_at hl j h) (kk H locs ls hP hD hS hl)
theorem g_iload (K : zOk E J own cc nL ret Ts R nm X post) {i : Nat} (d : decode cc pc = .ok (.iload i, 2)) (j : Nat) {x : Int32} (h : lv[j]? = some (i, .int x)) (kk : J c n w (pc + 2) lv (.int x :: st)) : J c n w pc lv st := by
  obtain ⟨p, e, s, m, args, below, meth, cd, A, hx, hb, hml, hown, hts, hK, hA, hr, hlk, hnm, hX, rfl⟩ := K
  intro H locs ls hP hD hS hl
  exact lv_iload hx hb d (lv_at hl j h) (kk H locs ls hP hD hS hl)
theorem g_lload_n (K : zOk E J own cc nL ret Ts R nm X post) {k : Fin 4} (d : decode cc pc = .ok (.lload_n k, 1)) (j : Nat) {i : Nat} {x : Int64} (h : lv[j]? = some (i, .long x)) (hi : (k : Nat) = i) (kk : J c n w (pc + 1) lv (.long x :: st)) : J c n w pc lv st := by
  obtain ⟨p, e, s, m, args, below, meth, cd, A, hx, hb, hml, hown, hts, hK, hA, hr, hlk, hnm, hX, rfl⟩ := K
  intro H locs ls hP hD hS hl
  exact lv_lload_n hx hb d hi (lv_at hl j h) (kk H locs ls hP hD hS hl)
theorem g_lload (K : zOk E J own cc nL ret Ts R nm X post) {i : Nat} (d : decode cc pc = .ok (.lload i, 2)) (j : Nat) {x : Int64} (h : lv[j]? = some (i, .long x)) (kk : J c n w (pc + 2) lv (.long x :: st)) : J c n w pc lv st := by
  obtain ⟨p, e, s, m, args, below, meth, cd, A, hx, hb, hml, hown, hts, hK, hA, hr, hlk, hnm, hX, rfl⟩ := K
  intro H locs ls hP hD hS hl
  exact lv_lload hx hb d (lv_at hl j h) (kk H locs ls hP hD hS hl)
theorem g_aload_n (K : zOk E J own cc nL ret Ts R nm X post) {k : Fin 4} (d : decode cc pc = .ok (.aload_n k, 1)) (j : Nat) {i : Nat} {x : Nat} (h : lv[j]? = some (i, .ref x)) (hi : (k : Nat) = i) (kk : J c n w (pc + 1) lv (.ref x :: st)) : J c n w pc lv st := by
  obtain ⟨p, e, s, m, args, below, meth, cd, A, hx, hb, hml, hown, hts, hK, hA, hr, hlk, hnm, hX, rfl⟩ := K
  intro H locs ls hP hD hS hl
  exact lv_aload_n hx hb d hi (lv_at hl j h) (kk H locs ls hP hD hS hl)
theorem g_aload (K : zOk E J own cc nL ret Ts R nm X post) {i : Nat} (d : decode cc pc = .ok (.aload i, 2)) (j : Nat) {x : Nat} (h : lv[j]? = some (i, .ref x)) (kk : J c n w (pc + 2) lv (.ref x :: st)) : J c n w pc lv st := by
  obtain ⟨p, e, s, m, args, below, meth, cd, A, hx, hb, hml, hown, hts, hK, hA, hr, hlk, hnm, hX, rfl⟩ := K
  intro H locs ls hP hD hS hl
  exact lv_aload hx hb d (lv_at hl j h) (kk H locs ls hP hD hS hl)
theorem g_aload_nN (K : zOk E J own cc nL ret Ts R nm X post) {k : Fin 4} (d : decode cc pc = .ok (.aload_n k, 1)) (j : Nat) {i : Nat} (h : lv[j]? = some (i, .null)) (hi : (k : Nat) = i) (kk : J c n w (pc + 1) lv (.null :: st)) : J c n w pc lv st := by
  obtain ⟨p, e, s, m, args, below, meth, cd, A, hx, hb, hml, hown, hts, hK, hA, hr, hlk, hnm, hX, rfl⟩ := K
  intro H locs ls hP hD hS hl
  exact lv_aload_nN hx hb d hi (lv_at hl j h) (kk H locs ls hP hD hS hl)
theorem g_aloadN (K : zOk E J own cc nL ret Ts R nm X post) {i : Nat} (d : decode cc pc = .ok (.aload i, 2)) (j : Nat) (h : lv[j]? = some (i, .null)) (kk : J c n w (pc + 2) lv (.null :: st)) : J c n w pc lv st := by
  obtain ⟨p, e, s, m, args, below, meth, cd, A, hx, hb, hml, hown, hts, hK, hA, hr, hlk, hnm, hX, rfl⟩ := K
  intro H locs ls hP hD hS hl
  exact lv_aloadN hx hb d (lv_at hl j h) (kk H locs ls hP hD hS hl)
theorem g_iconst (K : zOk E J own cc nL ret Ts R nm X post) {k : Int} {v : Int32} (d : decode cc pc = .ok (.iconst k, 1)) (hv : Int32.ofInt k = v) (kk : J c n w (pc + 1) lv (.int v :: st)) : J c n w pc lv st := by
  obtain ⟨p, e, s, m, args, below, meth, cd, A, hx, hb, hml, hown, hts, hK, hA, hr, hlk, hnm, hX, rfl⟩ := K
  intro H locs ls hP hD hS hl
  exact lv_iconst hx hb d hv (kk H locs ls hP hD hS hl)
theorem g_bipush (K : zOk E J own cc nL ret Ts R nm X post) {k : Int} {v : Int32} (d : decode cc pc = .ok (.bipush k, 2)) (hv : (Int8.ofInt k).toInt32 = v) (kk : J c n w (pc + 2) lv (.int v :: st)) : J c n w pc lv st := by
  obtain ⟨p, e, s, m, args, below, meth, cd, A, hx, hb, hml, hown, hts, hK, hA, hr, hlk, hnm, hX, rfl⟩ := K
  intro H locs ls hP hD hS hl
  exact lv_bipush hx hb d hv (kk H locs ls hP hD hS hl)
theorem g_sipush (K : zOk E J own cc nL ret Ts R nm X post) {k : Int} {v : Int32} (d : decode cc pc = .ok (.sipush k, 3)) (hv : (Int16.ofInt k).toInt32 = v) (kk : J c n w (pc + 3) lv (.int v :: st)) : J c n w pc lv st := by
  obtain ⟨p, e, s, m, args, below, meth, cd, A, hx, hb, hml, hown, hts, hK, hA, hr, hlk, hnm, hX, rfl⟩ := K
  intro H locs ls hP hD hS hl
  exact lv_sipush hx hb d hv (kk H locs ls hP hD hS hl)
theorem g_lconst (K : zOk E J own cc nL ret Ts R nm X post) {k : Fin 2} {v : Int64} (d : decode cc pc = .ok (.lconst k, 1)) (hv : Int64.ofNat (k : Nat) = v) (kk : J c n w (pc + 1) lv (.long v :: st)) : J c n w pc lv st := by
  obtain ⟨p, e, s, m, args, below, meth, cd, A, hx, hb, hml, hown, hts, hK, hA, hr, hlk, hnm, hX, rfl⟩ := K
  intro H locs ls hP hD hS hl
  exact lv_lconst hx hb d hv (kk H locs ls hP hD hS hl)
theorem g_ldc2 (K : zOk E J own cc nL ret Ts R nm X post) {k : Nat} {v : Int64} (d : decode cc pc = .ok (.ldc2_w k, 3)) (hv : Cond.constantLong own k v ∈ Ts) (kk : J c n w (pc + 3) lv (.long v :: st)) : J c n w pc lv st := by
  obtain ⟨p, e, s, m, args, below, meth, cd, A, hx, hb, hml, hown, hts, hK, hA, hr, hlk, hnm, hX, rfl⟩ := K
  intro H locs ls hP hD hS hl
  exact lv_ldc2 hx hb hown (hts _ hv) d (kk H locs ls hP hD hS hl)
theorem g_null (K : zOk E J own cc nL ret Ts R nm X post) (d : decode cc pc = .ok (.aconst_null, 1)) (kk : J c n w (pc + 1) lv (.null :: st)) : J c n w pc lv st := by
  obtain ⟨p, e, s, m, args, below, meth, cd, A, hx, hb, hml, hown, hts, hK, hA, hr, hlk, hnm, hX, rfl⟩ := K
  intro H locs ls hP hD hS hl
  exact lv_null hx hb d (kk H locs ls hP hD hS hl)
theorem g_iadd (K : zOk E J own cc nL ret Ts R nm X post) {x y : Int32} (d : decode cc pc = .ok (.iadd, 1))  (kk : J c n w (pc + 1) lv (.int (x + y) :: st)) : J c n w pc lv (.int y :: .int x :: st) := by
  obtain ⟨p, e, s, m, args, below, meth, cd, A, hx, hb, hml, hown, hts, hK, hA, hr, hlk, hnm, hX, rfl⟩ := K
  intro H locs ls hP hD hS hl
  exact lv_iadd hx hb d  (kk H locs ls hP hD hS hl)

theorem g_isub (K : zOk E J own cc nL ret Ts R nm X post) {x y : Int32} (d : decode cc pc = .ok (.isub, 1))  (kk : J c n w (pc + 1) lv (.int (x - y) :: st)) : J c n w pc lv (.int y :: .int x :: st) := by
  obtain ⟨p, e, s, m, args, below, meth, cd, A, hx, hb, hml, hown, hts, hK, hA, hr, hlk, hnm, hX, rfl⟩ := K
  intro H locs ls hP hD hS hl
  exact lv_isub hx hb d  (kk H locs ls hP hD hS hl)

theorem g_imul (K : zOk E J own cc nL ret Ts R nm X post) {x y : Int32} (d : decode cc pc = .ok (.imul, 1))  (kk : J c n w (pc + 1) lv (.int (x * y) :: st)) : J c n w pc lv (.int y :: .int x :: st) := by
  obtain ⟨p, e, s, m, args, below, meth, cd, A, hx, hb, hml, hown, hts, hK, hA, hr, hlk, hnm, hX, rfl⟩ := K
  intro H locs ls hP hD hS hl
  exact lv_imul hx hb d  (kk H locs ls hP hD hS hl)

theorem g_iand (K : zOk E J own cc nL ret Ts R nm X post) {x y : Int32} (d : decode cc pc = .ok (.iand, 1))  (kk : J c n w (pc + 1) lv (.int (x &&& y) :: st)) : J c n w pc lv (.int y :: .int x :: st) := by
  obtain ⟨p, e, s, m, args, below, meth, cd, A, hx, hb, hml, hown, hts, hK, hA, hr, hlk, hnm, hX, rfl⟩ := K
  intro H locs ls hP hD hS hl
  exact lv_iand hx hb d  (kk H locs ls hP hD hS hl)

theorem g_irem (K : zOk E J own cc nL ret Ts R nm X post) {x y : Int32} (d : decode cc pc = .ok (.irem, 1)) (hne : ¬ y = 0) (kk : J c n w (pc + 1) lv (.int (x - x / y * y) :: st)) : J c n w pc lv (.int y :: .int x :: st) := by
  obtain ⟨p, e, s, m, args, below, meth, cd, A, hx, hb, hml, hown, hts, hK, hA, hr, hlk, hnm, hX, rfl⟩ := K
  intro H locs ls hP hD hS hl
  exact lv_irem hx hb d hne (kk H locs ls hP hD hS hl)

theorem g_ladd (K : zOk E J own cc nL ret Ts R nm X post) {x y : Int64} (d : decode cc pc = .ok (.ladd, 1))  (kk : J c n w (pc + 1) lv (.long (x + y) :: st)) : J c n w pc lv (.long y :: .long x :: st) := by
  obtain ⟨p, e, s, m, args, below, meth, cd, A, hx, hb, hml, hown, hts, hK, hA, hr, hlk, hnm, hX, rfl⟩ := K
  intro H locs ls hP hD hS hl
  exact lv_ladd hx hb d  (kk H locs ls hP hD hS hl)

theorem g_lsub (K : zOk E J own cc nL ret Ts R nm X post) {x y : Int64} (d : decode cc pc = .ok (.lsub, 1))  (kk : J c n w (pc + 1) lv (.long (x - y) :: st)) : J c n w pc lv (.long y :: .long x :: st) := by
  obtain ⟨p, e, s, m, args, below, meth, cd, A, hx, hb, hml, hown, hts, hK, hA, hr, hlk, hnm, hX, rfl⟩ := K
  intro H locs ls hP hD hS hl
  exact lv_lsub hx hb d  (kk H locs ls hP hD hS hl)

theorem g_lmul (K : zOk E J own cc nL ret Ts R nm X post) {x y : Int64} (d : decode cc pc = .ok (.lmul, 1))  (kk : J c n w (pc + 1) lv (.long (x * y) :: st)) : J c n w pc lv (.long y :: .long x :: st) := by
  obtain ⟨p, e, s, m, args, below, meth, cd, A, hx, hb, hml, hown, hts, hK, hA, hr, hlk, hnm, hX, rfl⟩ := K
  intro H locs ls hP hD hS hl
  exact lv_lmul hx hb d  (kk H locs ls hP hD hS hl)

theorem g_ldiv (K : zOk E J own cc nL ret Ts R nm X post) {x y : Int64} (d : decode cc pc = .ok (.ldiv, 1)) (hne : ¬ y = 0) (kk : J c n w (pc + 1) lv (.long (x / y) :: st)) : J c n w pc lv (.long y :: .long x :: st) := by
  obtain ⟨p, e, s, m, args, below, meth, cd, A, hx, hb, hml, hown, hts, hK, hA, hr, hlk, hnm, hX, rfl⟩ := K
  intro H locs ls hP hD hS hl
  exact lv_ldiv hx hb d hne (kk H locs ls hP hD hS hl)

theorem g_lrem (K : zOk E J own cc nL ret Ts R nm X post) {x y : Int64} (d : decode cc pc = .ok (.lrem, 1)) (hne : ¬ y = 0) (kk : J c n w (pc + 1) lv (.long (x - x / y * y) :: st)) : J c n w pc lv (.long y :: .long x :: st) := by
  obtain ⟨p, e, s, m, args, below, meth, cd, A, hx, hb, hml, hown, hts, hK, hA, hr, hlk, hnm, hX, rfl⟩ := K
  intro H locs ls hP hD hS hl
  exact lv_lrem hx hb d hne (kk H locs ls hP hD hS hl)

theorem g_lneg (K : zOk E J own cc nL ret Ts R nm X post) {x : Int64} (d : decode cc pc = .ok (.lneg, 1)) (kk : J c n w (pc + 1) lv (.long (-x) :: st)) : J c n w pc lv (.long x :: st) := by
  obtain ⟨p, e, s, m, args, below, meth, cd, A, hx, hb, hml, hown, hts, hK, hA, hr, hlk, hnm, hX, rfl⟩ := K
  intro H locs ls hP hD hS hl
  exact lv_lneg hx hb d (kk H locs ls hP hD hS hl)

theorem g_i2l (K : zOk E J own cc nL ret Ts R nm X post) {x : Int32} (d : decode cc pc = .ok (.i2l, 1)) (kk : J c n w (pc + 1) lv (.long x.toInt64 :: st)) : J c n w pc lv (.int x :: st) := by
  obtain ⟨p, e, s, m, args, below, meth, cd, A, hx, hb, hml, hown, hts, hK, hA, hr, hlk, hnm, hX, rfl⟩ := K
  intro H locs ls hP hD hS hl
  exact lv_i2l hx hb d rfl (kk H locs ls hP hD hS hl)

theorem g_l2i (K : zOk E J own cc nL ret Ts R nm X post) {x : Int64} (d : decode cc pc = .ok (.l2i, 1)) (kk : J c n w (pc + 1) lv (.int x.toInt32 :: st)) : J c n w pc lv (.long x :: st) := by
  obtain ⟨p, e, s, m, args, below, meth, cd, A, hx, hb, hml, hown, hts, hK, hA, hr, hlk, hnm, hX, rfl⟩ := K
  intro H locs ls hP hD hS hl
  exact lv_l2i hx hb d rfl (kk H locs ls hP hD hS hl)

theorem g_dup (K : zOk E J own cc nL ret Ts R nm X post) {v : Value} (d : decode cc pc = .ok (.dup, 1)) (hv : v.category = 1) (kk : J c n w (pc + 1) lv (v :: v :: st)) : J c n w pc lv (v :: st) := by
  obtain ⟨p, e, s, m, args, below, meth, cd, A, hx, hb, hml, hown, hts, hK, hA, hr, hlk, hnm, hX, rfl⟩ := K
  intro H locs ls hP hD hS hl
  exact lv_dup hx hb d hv (kk H locs ls hP hD hS hl)

theorem g_dup2_11 (K : zOk E J own cc nL ret Ts R nm X post) {v u : Value} (d : decode cc pc = .ok (.dup2, 1)) (hv : v.category = 1) (hu : u.category = 1) (kk : J c n w (pc + 1) lv (v :: u :: v :: u :: st)) : J c n w pc lv (v :: u :: st) := by
  obtain ⟨p, e, s, m, args, below, meth, cd, A, hx, hb, hml, hown, hts, hK, hA, hr, hlk, hnm, hX, rfl⟩ := K
  intro H locs ls hP hD hS hl
  exact lv_dup2_11 hx hb d hv hu (kk H locs ls hP hD hS hl)

theorem g_dup2_2 (K : zOk E J own cc nL ret Ts R nm X post) {v : Value} (d : decode cc pc = .ok (.dup2, 1)) (hv : v.category = 2) (kk : J c n w (pc + 1) lv (v :: v :: st)) : J c n w pc lv (v :: st) := by
  obtain ⟨p, e, s, m, args, below, meth, cd, A, hx, hb, hml, hown, hts, hK, hA, hr, hlk, hnm, hX, rfl⟩ := K
  intro H locs ls hP hD hS hl
  exact lv_dup2_2 hx hb d hv (kk H locs ls hP hD hS hl)

theorem g_istore (K : zOk E J own cc nL ret Ts R nm X post) {i : Nat} {x : Int32} {lv' : List (Nat × Value)} (d : decode cc pc = .ok (.istore i, 2)) (hn : i < nL) (hl : (i, Value.int x) :: lv.filter (fun q => !(q.1 == i) && !(q.1 + 1 == i && q.2.category == 2)) = lv') (kk : J c n w (pc + 2) lv' st) : J c n w pc lv (.int x :: st) := by
  obtain ⟨p, e, s, m, args, below, meth, cd, A, hx, hb, hml, hown, hts, hK, hA, hr, hlk, hnm, hX, rfl⟩ := K
  intro H locs ls hP hD hS hl
  exact lv_istore hx hb d hl hn (by assumption) (fun ls' hl' => kk H locs ls' hP hD hS hl')

theorem g_istore_n (K : zOk E J own cc nL ret Ts R nm X post) {k : Fin 4} {i : Nat} {x : Int32} {lv' : List (Nat × Value)} (d : decode cc pc = .ok (.istore_n k, 1)) (hi : (k : Nat) = i) (hn : i < nL) (hl : (i, Value.int x) :: lv.filter (fun q => !(q.1 == i) && !(q.1 + 1 == i && q.2.category == 2)) = lv') (kk : J c n w (pc + 1) lv' st) : J c n w pc lv (.int x :: st) := by
  obtain ⟨p, e, s, m, args, below, meth, cd, A, hx, hb, hml, hown, hts, hK, hA, hr, hlk, hnm, hX, rfl⟩ := K
  intro H locs ls hP hD hS hl
  exact lv_istore_n hx hb d hi hl hn (by assumption) (fun ls' hl' => kk H locs ls' hP hD hS hl')

theorem g_astore (K : zOk E J own cc nL ret Ts R nm X post) {i : Nat} {x : Nat} {lv' : List (Nat × Value)} (d : decode cc pc = .ok (.astore i, 2)) (hn : i < nL) (hl : (i, Value.ref x) :: lv.filter (fun q => !(q.1 == i) && !(q.1 + 1 == i && q.2.category == 2)) = lv') (kk : J c n w (pc + 2) lv' st) : J c n w pc lv (.ref x :: st) := by
  obtain ⟨p, e, s, m, args, below, meth, cd, A, hx, hb, hml, hown, hts, hK, hA, hr, hlk, hnm, hX, rfl⟩ := K
  intro H locs ls hP hD hS hl
  exact lv_astore hx hb d hl hn (by assumption) (fun ls' hl' => kk H locs ls' hP hD hS hl')

theorem g_astore_n (K : zOk E J own cc nL ret Ts R nm X post) {k : Fin 4} {i : Nat} {x : Nat} {lv' : List (Nat × Value)} (d : decode cc pc = .ok (.astore_n k, 1)) (hi : (k : Nat) = i) (hn : i < nL) (hl : (i, Value.ref x) :: lv.filter (fun q => !(q.1 == i) && !(q.1 + 1 == i && q.2.category == 2)) = lv') (kk : J c n w (pc + 1) lv' st) : J c n w pc lv (.ref x :: st) := by
  obtain ⟨p, e, s, m, args, below, meth, cd, A, hx, hb, hml, hown, hts, hK, hA, hr, hlk, hnm, hX, rfl⟩ := K
  intro H locs ls hP hD hS hl
  exact lv_astore_n hx hb d hi hl hn (by assumption) (fun ls' hl' => kk H locs ls' hP hD hS hl')

theorem g_lstore (K : zOk E J own cc nL ret Ts R nm X post) {i : Nat} {x : Int64} {lv' : List (Nat × Value)} (d : decode cc pc = .ok (.lstore i, 2)) (hn : i + 1 < nL) (hl : (i, Value.long x) :: lv.filter (fun q => !(q.1 == i) && (!(q.1 == i + 1) && !(q.1 + 1 == i && q.2.category == 2))) = lv') (kk : J c n w (pc + 2) lv' st) : J c n w pc lv (.long x :: st) := by
  obtain ⟨p, e, s, m, args, below, meth, cd, A, hx, hb, hml, hown, hts, hK, hA, hr, hlk, hnm, hX, rfl⟩ := K
  intro H locs ls hP hD hS hl
  exact lv_lstore hx hb d hl hn (by assumption) (fun ls' hl' => kk H locs ls' hP hD hS hl')

theorem g_lstore_n (K : zOk E J own cc nL ret Ts R nm X post) {k : Fin 4} {i : Nat} {x : Int64} {lv' : List (Nat × Value)} (d : decode cc pc = .ok (.lstore_n k, 1)) (hi : (k : Nat) = i) (hn : i + 1 < nL) (hl : (i, Value.long x) :: lv.filter (fun q => !(q.1 == i) && (!(q.1 == i + 1) && !(q.1 + 1 == i && q.2.category == 2))) = lv') (kk : J c n w (pc + 1) lv' st) : J c n w pc lv (.long x :: st) := by
  obtain ⟨p, e, s, m, args, below, meth, cd, A, hx, hb, hml, hown, hts, hK, hA, hr, hlk, hnm, hX, rfl⟩ := K
  intro H locs ls hP hD hS hl
  exact lv_lstore_n hx hb d hi hl hn (by assumption) (fun ls' hl' => kk H locs ls' hP hD hS hl')

theorem g_astoreN (K : zOk E J own cc nL ret Ts R nm X post) {i : Nat} {lv' : List (Nat × Value)} (d : decode cc pc = .ok (.astore i, 2)) (hn : i < nL) (hl : (i, Value.null) :: lv.filter (fun q => !(q.1 == i) && !(q.1 + 1 == i && q.2.category == 2)) = lv') (kk : J c n w (pc + 2) lv' st) : J c n w pc lv (.null :: st) := by
  obtain ⟨p, e, s, m, args, below, meth, cd, A, hx, hb, hml, hown, hts, hK, hA, hr, hlk, hnm, hX, rfl⟩ := K
  intro H locs ls hP hD hS hl
  exact lv_astoreN hx hb d hl hn (by assumption) (fun ls' hl' => kk H locs ls' hP hD hS hl')

theorem g_astore_nN (K : zOk E J own cc nL ret Ts R nm X post) {k : Fin 4} {i : Nat} {lv' : List (Nat × Value)} (d : decode cc pc = .ok (.astore_n k, 1)) (hi : (k : Nat) = i) (hn : i < nL) (hl : (i, Value.null) :: lv.filter (fun q => !(q.1 == i) && !(q.1 + 1 == i && q.2.category == 2)) = lv') (kk : J c n w (pc + 1) lv' st) : J c n w pc lv (.null :: st) := by
  obtain ⟨p, e, s, m, args, below, meth, cd, A, hx, hb, hml, hown, hts, hK, hA, hr, hlk, hnm, hX, rfl⟩ := K
  intro H locs ls hP hD hS hl
  exact lv_astore_nN hx hb d hi hl hn (by assumption) (fun ls' hl' => kk H locs ls' hP hD hS hl')

theorem g_iinc (K : zOk E J own cc nL ret Ts R nm X post) {i : Nat} {z : Int} {x v : Int32} {lv' : List (Nat × Value)} (d : decode cc pc = .ok (.iinc i z, 3)) (j : Nat) (h : lv[j]? = some (i, .int x)) (hv : x + Int32.ofInt z = v) (hn : i < nL) (hl : (i, Value.int v) :: lv.filter (fun q => !(q.1 == i) && !(q.1 + 1 == i && q.2.category == 2)) = lv') (kk : J c n w (pc + 3) lv' st) : J c n w pc lv st := by
  obtain ⟨p, e, s, m, args, below, meth, cd, A, hx, hb, hml, hown, hts, hK, hA, hr, hlk, hnm, hX, rfl⟩ := K
  intro H locs ls hP hD hS hl
  exact lv_iinc hx hb d hl h hv hn (by assumption) (fun ls' hl' => kk H locs ls' hP hD hS hl')

theorem g_goto (K : zOk E J own cc nL ret Ts R nm X post) {off : Int} {tgt : Nat} (d : decode cc pc = .ok (.goto off, 3)) (ht : (pc : Int) + off = (tgt : Int)) (kk : J c n w tgt lv st) : J c n w pc lv st := by
  obtain ⟨p, e, s, m, args, below, meth, cd, A, hx, hb, hml, hown, hts, hK, hA, hr, hlk, hnm, hX, rfl⟩ := K
  intro H locs ls hP hD hS hl
  exact lv_goto hx hb d ht (kk H locs ls hP hD hS hl)

theorem g_ifnull (K : zOk E J own cc nL ret Ts R nm X post) {x : Nat} {off : Int} (d : decode cc pc = .ok (.ifnull off, 3)) (kk : J c n w (pc + 3) lv st) : J c n w pc lv (.ref x :: st) := by
  obtain ⟨p, e, s, m, args, below, meth, cd, A, hx, hb, hml, hown, hts, hK, hA, hr, hlk, hnm, hX, rfl⟩ := K
  intro H locs ls hP hD hS hl
  exact lv_ifnull hx hb d (kk H locs ls hP hD hS hl)

theorem g_ifnullN (K : zOk E J own cc nL ret Ts R nm X post) {off : Int} {tgt : Nat} (d : decode cc pc = .ok (.ifnull off, 3)) (ht : (pc : Int) + off = (tgt : Int)) (kk : J c n w tgt lv st) : J c n w pc lv (.null :: st) := by
  obtain ⟨p, e, s, m, args, below, meth, cd, A, hx, hb, hml, hown, hts, hK, hA, hr, hlk, hnm, hX, rfl⟩ := K
  intro H locs ls hP hD hS hl
  exact lv_ifnullN hx hb d ht (kk H locs ls hP hD hS hl)

theorem g_ifnonnull (K : zOk E J own cc nL ret Ts R nm X post) {x : Nat} {off : Int} {tgt : Nat} (d : decode cc pc = .ok (.ifnonnull off, 3)) (ht : (pc : Int) + off = (tgt : Int)) (kk : J c n w tgt lv st) : J c n w pc lv (.ref x :: st) := by
  obtain ⟨p, e, s, m, args, below, meth, cd, A, hx, hb, hml, hown, hts, hK, hA, hr, hlk, hnm, hX, rfl⟩ := K
  intro H locs ls hP hD hS hl
  exact lv_ifnonnull hx hb d ht (kk H locs ls hP hD hS hl)

theorem g_ifnonnullN (K : zOk E J own cc nL ret Ts R nm X post) {off : Int} (d : decode cc pc = .ok (.ifnonnull off, 3)) (kk : J c n w (pc + 3) lv st) : J c n w pc lv (.null :: st) := by
  obtain ⟨p, e, s, m, args, below, meth, cd, A, hx, hb, hml, hown, hts, hK, hA, hr, hlk, hnm, hX, rfl⟩ := K
  intro H locs ls hP hD hS hl
  exact lv_ifnonnullN hx hb d (kk H locs ls hP hD hS hl)

theorem g_if_eq (K : zOk E J own cc nL ret Ts R nm X post) {x : Int32} {off : Int} {tgt : Nat} (d : decode cc pc = .ok (.ifCond .eq off, 3)) (ht : (pc : Int) + off = (tgt : Int)) (kt : x = 0 → J c n w tgt lv st) (kf : ¬ (x = 0) → J c n w (pc + 3) lv st) : J c n w pc lv (.int x :: st) := by
  obtain ⟨p, e, s, m, args, below, meth, cd, A, hx, hb, hml, hown, hts, hK, hA, hr, hlk, hnm, hX, rfl⟩ := K
  intro H locs ls hP hD hS hl
  exact lv_if_eq hx hb d ht (fun q => kt q H locs ls hP hD hS hl) (fun q => kf q H locs ls hP hD hS hl)

theorem g_icmp_eq (K : zOk E J own cc nL ret Ts R nm X post) {x y : Int32} {off : Int} {tgt : Nat} (d : decode cc pc = .ok (.if_icmp .eq off, 3)) (ht : (pc : Int) + off = (tgt : Int)) (kt : x = y → J c n w tgt lv st) (kf : ¬ (x = y) → J c n w (pc + 3) lv st) : J c n w pc lv (.int y :: .int x :: st) := by
  obtain ⟨p, e, s, m, args, below, meth, cd, A, hx, hb, hml, hown, hts, hK, hA, hr, hlk, hnm, hX, rfl⟩ := K
  intro H locs ls hP hD hS hl
  exact lv_icmp_eq hx hb d ht (fun q => kt q H locs ls hP hD hS hl) (fun q => kf q H locs ls hP hD hS hl)

theorem g_if_ne (K : zOk E J own cc nL ret Ts R nm X post) {x : Int32} {off : Int} {tgt : Nat} (d : decode cc pc = .ok (.ifCond .ne off, 3)) (ht : (pc : Int) + off = (tgt : Int)) (kt : ¬ x = 0 → J c n w tgt lv st) (kf : x = 0 → J c n w (pc + 3) lv st) : J c n w pc lv (.int x :: st) := by
  obtain ⟨p, e, s, m, args, below, meth, cd, A, hx, hb, hml, hown, hts, hK, hA, hr, hlk, hnm, hX, rfl⟩ := K
  intro H locs ls hP hD hS hl
  exact lv_if_ne hx hb d ht (fun q => kt q H locs ls hP hD hS hl) (fun q => kf q H locs ls hP hD hS hl)

theorem g_icmp_ne (K : zOk E J own cc nL ret Ts R nm X post) {x y : Int32} {off : Int} {tgt : Nat} (d : decode cc pc = .ok (.if_icmp .ne off, 3)) (ht : (pc : Int) + off = (tgt : Int)) (kt : ¬ x = y → J c n w tgt lv st) (kf : x = y → J c n w (pc + 3) lv st) : J c n w pc lv (.int y :: .int x :: st) := by
  obtain ⟨p, e, s, m, args, below, meth, cd, A, hx, hb, hml, hown, hts, hK, hA, hr, hlk, hnm, hX, rfl⟩ := K
  intro H locs ls hP hD hS hl
  exact lv_icmp_ne hx hb d ht (fun q => kt q H locs ls hP hD hS hl) (fun q => kf q H locs ls hP hD hS hl)

theorem g_if_lt (K : zOk E J own cc nL ret Ts R nm X post) {x : Int32} {off : Int} {tgt : Nat} (d : decode cc pc = .ok (.ifCond .lt off, 3)) (ht : (pc : Int) + off = (tgt : Int)) (kt : x < 0 → J c n w tgt lv st) (kf : ¬ (x < 0) → J c n w (pc + 3) lv st) : J c n w pc lv (.int x :: st) := by
  obtain ⟨p, e, s, m, args, below, meth, cd, A, hx, hb, hml, hown, hts, hK, hA, hr, hlk, hnm, hX, rfl⟩ := K
  intro H locs ls hP hD hS hl
  exact lv_if_lt hx hb d ht (fun q => kt q H locs ls hP hD hS hl) (fun q => kf q H locs ls hP hD hS hl)

theorem g_icmp_lt (K : zOk E J own cc nL ret Ts R nm X post) {x y : Int32} {off : Int} {tgt : Nat} (d : decode cc pc = .ok (.if_icmp .lt off, 3)) (ht : (pc : Int) + off = (tgt : Int)) (kt : x < y → J c n w tgt lv st) (kf : ¬ (x < y) → J c n w (pc + 3) lv st) : J c n w pc lv (.int y :: .int x :: st) := by
  obtain ⟨p, e, s, m, args, below, meth, cd, A, hx, hb, hml, hown, hts, hK, hA, hr, hlk, hnm, hX, rfl⟩ := K
  intro H locs ls hP hD hS hl
  exact lv_icmp_lt hx hb d ht (fun q => kt q H locs ls hP hD hS hl) (fun q => kf q H locs ls hP hD hS hl)

theorem g_if_ge (K : zOk E J own cc nL ret Ts R nm X post) {x : Int32} {off : Int} {tgt : Nat} (d : decode cc pc = .ok (.ifCond .ge off, 3)) (ht : (pc : Int) + off = (tgt : Int)) (kt : 0 ≤ x → J c n w tgt lv st) (kf : ¬ (0 ≤ x) → J c n w (pc + 3) lv st) : J c n w pc lv (.int x :: st) := by
  obtain ⟨p, e, s, m, args, below, meth, cd, A, hx, hb, hml, hown, hts, hK, hA, hr, hlk, hnm, hX, rfl⟩ := K
  intro H locs ls hP hD hS hl
  exact lv_if_ge hx hb d ht (fun q => kt q H locs ls hP hD hS hl) (fun q => kf q H locs ls hP hD hS hl)

theorem g_icmp_ge (K : zOk E J own cc nL ret Ts R nm X post) {x y : Int32} {off : Int} {tgt : Nat} (d : decode cc pc = .ok (.if_icmp .ge off, 3)) (ht : (pc : Int) + off = (tgt : Int)) (kt : y ≤ x → J c n w tgt lv st) (kf : ¬ (y ≤ x) → J c n w (pc + 3) lv st) : J c n w pc lv (.int y :: .int x :: st) := by
  obtain ⟨p, e, s, m, args, below, meth, cd, A, hx, hb, hml, hown, hts, hK, hA, hr, hlk, hnm, hX, rfl⟩ := K
  intro H locs ls hP hD hS hl
  exact lv_icmp_ge hx hb d ht (fun q => kt q H locs ls hP hD hS hl) (fun q => kf q H locs ls hP hD hS hl)

theorem g_if_gt (K : zOk E J own cc nL ret Ts R nm X post) {x : Int32} {off : Int} {tgt : Nat} (d : decode cc pc = .ok (.ifCond .gt off, 3)) (ht : (pc : Int) + off = (tgt : Int)) (kt : 0 < x → J c n w tgt lv st) (kf : ¬ (0 < x) → J c n w (pc + 3) lv st) : J c n w pc lv (.int x :: st) := by
  obtain ⟨p, e, s, m, args, below, meth, cd, A, hx, hb, hml, hown, hts, hK, hA, hr, hlk, hnm, hX, rfl⟩ := K
  intro H locs ls hP hD hS hl
  exact lv_if_gt hx hb d ht (fun q => kt q H locs ls hP hD hS hl) (fun q => kf q H locs ls hP hD hS hl)

theorem g_icmp_gt (K : zOk E J own cc nL ret Ts R nm X post) {x y : Int32} {off : Int} {tgt : Nat} (d : decode cc pc = .ok (.if_icmp .gt off, 3)) (ht : (pc : Int) + off = (tgt : Int)) (kt : y < x → J c n w tgt lv st) (kf : ¬ (y < x) → J c n w (pc + 3) lv st) : J c n w pc lv (.int y :: .int x :: st) := by
  obtain ⟨p, e, s, m, args, below, meth, cd, A, hx, hb, hml, hown, hts, hK, hA, hr, hlk, hnm, hX, rfl⟩ := K
  intro H locs ls hP hD hS hl
  exact lv_icmp_gt hx hb d ht (fun q => kt q H locs ls hP hD hS hl) (fun q => kf q H locs ls hP hD hS hl)

theorem g_if_le (K : zOk E J own cc nL ret Ts R nm X post) {x : Int32} {off : Int} {tgt : Nat} (d : decode cc pc = .ok (.ifCond .le off, 3)) (ht : (pc : Int) + off = (tgt : Int)) (kt : x ≤ 0 → J c n w tgt lv st) (kf : ¬ (x ≤ 0) → J c n w (pc + 3) lv st) : J c n w pc lv (.int x :: st) := by
  obtain ⟨p, e, s, m, args, below, meth, cd, A, hx, hb, hml, hown, hts, hK, hA, hr, hlk, hnm, hX, rfl⟩ := K
  intro H locs ls hP hD hS hl
  exact lv_if_le hx hb d ht (fun q => kt q H locs ls hP hD hS hl) (fun q => kf q H locs ls hP hD hS hl)

theorem g_icmp_le (K : zOk E J own cc nL ret Ts R nm X post) {x y : Int32} {off : Int} {tgt : Nat} (d : decode cc pc = .ok (.if_icmp .le off, 3)) (ht : (pc : Int) + off = (tgt : Int)) (kt : x ≤ y → J c n w tgt lv st) (kf : ¬ (x ≤ y) → J c n w (pc + 3) lv st) : J c n w pc lv (.int y :: .int x :: st) := by
  obtain ⟨p, e, s, m, args, below, meth, cd, A, hx, hb, hml, hown, hts, hK, hA, hr, hlk, hnm, hX, rfl⟩ := K
  intro H locs ls hP hD hS hl
  exact lv_icmp_le hx hb d ht (fun q => kt q H locs ls hP hD hS hl) (fun q => kf q H locs ls hP hD hS hl)

theorem g_lcmp_eq (K : zOk E J own cc nL ret Ts R nm X post) {x y : Int64} {off : Int} {tgt pc2 : Nat} (d : decode cc pc = .ok (.lcmp, 1)) (d2 : decode cc pc2 = .ok (.ifCond .eq off, 3)) (hp : pc + 1 = pc2) (ht : (pc2 : Int) + off = (tgt : Int)) (kt : x = y → J c n w tgt lv st) (kf : ¬ (x = y) → J c n w (pc2 + 3) lv st) : J c n w pc lv (.long y :: .long x :: st) := by
  obtain ⟨p, e, s, m, args, below, meth, cd, A, hx, hb, hml, hown, hts, hK, hA, hr, hlk, hnm, hX, rfl⟩ := K
  intro H locs ls hP hD hS hl
  subst hp
  refine W.lcmp hx hb d ?_
  exact lv_if_eq hx hb d2 ht (fun q => kt ((z_cmp_eq x y).mp q) H locs ls hP hD hS hl) (fun q => kf (fun h => q ((z_cmp_eq x y).mpr h)) H locs ls hP hD hS hl)

theorem g_lcmp_ne (K : zOk E J own cc nL ret Ts R nm X post) {x y : Int64} {off : Int} {tgt pc2 : Nat} (d : decode cc pc = .ok (.lcmp, 1)) (d2 : decode cc pc2 = .ok (.ifCond .ne off, 3)) (hp : pc + 1 = pc2) (ht : (pc2 : Int) + off = (tgt : Int)) (kt : x ≠ y → J c n w tgt lv st) (kf : x = y → J c n w (pc2 + 3) lv st) : J c n w pc lv (.long y :: .long x :: st) := by
  obtain ⟨p, e, s, m, args, below, meth, cd, A, hx, hb, hml, hown, hts, hK, hA, hr, hlk, hnm, hX, rfl⟩ := K
  intro H locs ls hP hD hS hl
  subst hp
  refine W.lcmp hx hb d ?_
  exact lv_if_ne hx hb d2 ht (fun q => kt ((z_cmp_ne x y).mp q) H locs ls hP hD hS hl) (fun q => kf ((z_cmp_eq x y).mp q) H locs ls hP hD hS hl)

theorem g_lcmp_lt (K : zOk E J own cc nL ret Ts R nm X post) {x y : Int64} {off : Int} {tgt pc2 : Nat} (d : decode cc pc = .ok (.lcmp, 1)) (d2 : decode cc pc2 = .ok (.ifCond .lt off, 3)) (hp : pc + 1 = pc2) (ht : (pc2 : Int) + off = (tgt : Int)) (kt : x < y → J c n w tgt lv st) (kf : ¬ (x < y) → J c n w (pc2 + 3) lv st) : J c n w pc lv (.long y :: .long x :: st) := by
  obtain ⟨p, e, s, m, args, below, meth, cd, A, hx, hb, hml, hown, hts, hK, hA, hr, hlk, hnm, hX, rfl⟩ := K
  intro H locs ls hP hD hS hl
  subst hp
  refine W.lcmp hx hb d ?_
  exact lv_if_lt hx hb d2 ht (fun q => kt ((z_cmp_lt x y).mp q) H locs ls hP hD hS hl) (fun q => kf (fun h => q ((z_cmp_lt x y).mpr h)) H locs ls hP hD hS hl)

theorem g_lcmp_ge (K : zOk E J own cc nL ret Ts R nm X post) {x y : Int64} {off : Int} {tgt pc2 : Nat} (d : decode cc pc = .ok (.lcmp, 1)) (d2 : decode cc pc2 = .ok (.ifCond .ge off, 3)) (hp : pc + 1 = pc2) (ht : (pc2 : Int) + off = (tgt : Int)) (kt : y ≤ x → J c n w tgt lv st) (kf : ¬ (y ≤ x) → J c n w (pc2 + 3) lv st) : J c n w pc lv (.long y :: .long x :: st) := by
  obtain ⟨p, e, s, m, args, below, meth, cd, A, hx, hb, hml, hown, hts, hK, hA, hr, hlk, hnm, hX, rfl⟩ := K
  intro H locs ls hP hD hS hl
  subst hp
  refine W.lcmp hx hb d ?_
  exact lv_if_ge hx hb d2 ht (fun q => kt ((z_cmp_ge x y).mp q) H locs ls hP hD hS hl) (fun q => kf (fun h => q ((z_cmp_ge x y).mpr h)) H locs ls hP hD hS hl)

theorem g_lcmp_gt (K : zOk E J own cc nL ret Ts R nm X post) {x y : Int64} {off : Int} {tgt pc2 : Nat} (d : decode cc pc = .ok (.lcmp, 1)) (d2 : decode cc pc2 = .ok (.ifCond .gt off, 3)) (hp : pc + 1 = pc2) (ht : (pc2 : Int) + off = (tgt : Int)) (kt : y < x → J c n w tgt lv st) (kf : ¬ (y < x) → J c n w (pc2 + 3) lv st) : J c n w pc lv (.long y :: .long x :: st) := by
  obtain ⟨p, e, s, m, args, below, meth, cd, A, hx, hb, hml, hown, hts, hK, hA, hr, hlk, hnm, hX, rfl⟩ := K
  intro H locs ls hP hD hS hl
  subst hp
  refine W.lcmp hx hb d ?_
  exact lv_if_gt hx hb d2 ht (fun q => kt ((z_cmp_gt x y).mp q) H locs ls hP hD hS hl) (fun q => kf (fun h => q ((z_cmp_gt x y).mpr h)) H locs ls hP hD hS hl)

theorem g_lcmp_le (K : zOk E J own cc nL ret Ts R nm X post) {x y : Int64} {off : Int} {tgt pc2 : Nat} (d : decode cc pc = .ok (.lcmp, 1)) (d2 : decode cc pc2 = .ok (.ifCond .le off, 3)) (hp : pc + 1 = pc2) (ht : (pc2 : Int) + off = (tgt : Int)) (kt : x ≤ y → J c n w tgt lv st) (kf : ¬ (x ≤ y) → J c n w (pc2 + 3) lv st) : J c n w pc lv (.long y :: .long x :: st) := by
  obtain ⟨p, e, s, m, args, below, meth, cd, A, hx, hb, hml, hown, hts, hK, hA, hr, hlk, hnm, hX, rfl⟩ := K
  intro H locs ls hP hD hS hl
  subst hp
  refine W.lcmp hx hb d ?_
  exact lv_if_le hx hb d2 ht (fun q => kt ((z_cmp_le x y).mp q) H locs ls hP hD hS hl) (fun q => kf (fun h => q ((z_cmp_le x y).mpr h)) H locs ls hP hD hS hl)

theorem g_tsin (K : zOk E J own cc nL ret Ts R nm X post) {dflt hi : Int} {offs : Array Int} {len : Nat} {x : Int32} {off : Int} {tgt : Nat} (d : decode cc pc = .ok (.tableswitch dflt 0 hi offs, len)) (j : Nat) (hxj : x = nI j) (hj : (j : Int) ≤ hi ∧ j < 2 ^ 31) (ho : offs[j]? = some off) (ht : (pc : Int) + off = (tgt : Int)) (kk : J c n w tgt lv st) : J c n w pc lv (.int x :: st) := by
  obtain ⟨p, e, s, m, args, below, meth, cd, A, hx, hb, hml, hown, hts, hK, hA, hr, hlk, hnm, hX, rfl⟩ := K
  intro H locs ls hP hD hS hl
  subst hxj
  have hj2 := nI_toInt hj.2
  exact lv_tableIn hx hb d (by rw [hj2]; omega) (by rw [hj2]; omega) (by rw [hj2]; simpa using ho) ht (kk H locs ls hP hD hS hl)

theorem g_tsout (K : zOk E J own cc nL ret Ts R nm X post) {dflt hi : Int} {offs : Array Int} {len : Nat} {x : Int32} {tgt : Nat} (d : decode cc pc = .ok (.tableswitch dflt 0 hi offs, len)) (h : x.toInt < 0 ∨ hi < x.toInt) (ht : (pc : Int) + dflt = (tgt : Int)) (kk : J c n w tgt lv st) : J c n w pc lv (.int x :: st) := by
  obtain ⟨p, e, s, m, args, below, meth, cd, A, hx, hb, hml, hown, hts, hK, hA, hr, hlk, hnm, hX, rfl⟩ := K
  intro H locs ls hP hD hS hl
  exact lv_tableOut hx hb d h ht (kk H locs ls hP hD hS hl)

theorem g_get (K : zOk E J own cc nL ret Ts R nm X post) {C : String} {T : u_T} {N ci idx : Nat} {fs : List Value} {v : Value} {a : Nat} (d : decode cc pc = .ok (.getfield idx, 3)) (q : Nat) (he : w[q]? = some (a, .inr (ci, fs))) (hc : vwCl[ci]? = some (C, T, N)) (hin : ∀ w ∈ u_ws C T N, w ∈ Ts) (k : Nat) (hk : k < N) (hfl : Cond.fieldLink own idx (T k).1 (T k).2.1 (T k).2.2.1 ∈ Ts) (hv : fs[k]? = some v) (kk : J c n w (pc + 3) lv (v :: st)) : J c n w pc lv (.ref a :: st) := by
  obtain ⟨p, e, s, m, args, below, meth, cd, A, hx, hb, hml, hown, hts, hK, hA, hr, hlk, hnm, hX, rfl⟩ := K
  intro H locs ls hP hD hS hl
  exact va_get hx hb hts hin hown hK hP q he hc k hk (hts _ hfl) (fun _ h9 => h9) hv d (kk H locs ls hP hD hS (by assumption))

theorem g_put (K : zOk E J own cc nL ret Ts R nm X post) {C : String} {T : u_T} {N ci idx : Nat} {fs : List Value} {v : Value} {a : Nat} {ty : FieldType} {w' : va_W} (d : decode cc pc = .ok (.putfield idx, 3)) (q : Nat) (he : w[q]? = some (a, .inr (ci, fs))) (hc : vwCl[ci]? = some (C, T, N)) (hin : ∀ w ∈ u_ws C T N, w ∈ Ts) (ty0 : Nat → FieldType) (hty : ∀ k, k < N → parseFieldDescriptor (T k).2.2.1 = some (ty0 k)) (hnmX : ∀ a, a < N → ∀ b, b < N → a ≠ b → (T a).2.1 ≠ (T b).2.1) (k : Nat) (hk : k < N) (hfl : Cond.fieldLink own idx (T k).1 (T k).2.1 (T k).2.2.1 ∈ Ts) (hfin : (T k).2.2.2 = false) (hty2 : ty0 k = ty) (hn : narrow ty v = v) (hfit : fits ty v = true) (hlen : k < fs.length) (hw : w.set q (a, .inr (ci, fs.set k v)) = w') (kk : J c n w' (pc + 3) lv st) : J c n w pc lv (v :: .ref a :: st) := by
  obtain ⟨p, e, s, m, args, below, meth, cd, A, hx, hb, hml, hown, hts, hK, hA, hr, hlk, hnm, hX, rfl⟩ := K
  intro H locs ls hP hD hS hl
  subst hw
  subst hty2
  exact va_put hx hb hts hin ty0 hty hnmX hown hK hP hD hS q he hc k hk (hts _ hfl) (fun _ h9 => h9) hfin (hty k hk) hn hfit hlen d (fun H1 locs1 hP1 hD1 hS1 => kk H1 locs1 ls hP1 hD1 hS1 (by assumption))

theorem g_putF (K : zOk E J own cc nL ret Ts R nm X post) {C : String} {T : u_T} {N ci idx : Nat} {fs : List Value} {v : Value} {a : Nat} {ty : FieldType} {w' : va_W} (d : decode cc pc = .ok (.putfield idx, 3)) (q : Nat) (he : w[q]? = some (a, .inr (ci, fs))) (hc : vwCl[ci]? = some (C, T, N)) (hin : ∀ w ∈ u_ws C T N, w ∈ Ts) (ty0 : Nat → FieldType) (hty : ∀ k, k < N → parseFieldDescriptor (T k).2.2.1 = some (ty0 k)) (hnmX : ∀ a, a < N → ∀ b, b < N → a ≠ b → (T a).2.1 ≠ (T b).2.1) (k : Nat) (hk : k < N) (hfl : Cond.fieldLink own idx (T k).1 (T k).2.1 (T k).2.2.1 ∈ Ts) (hfin : (T k).2.2.2 = true) (hini : nm = "<init>") (hdecl : (T k).1 = own) (hty2 : ty0 k = ty) (hn : narrow ty v = v) (hfit : fits ty v = true) (hlen : k < fs.length) (hw : w.set q (a, .inr (ci, fs.set k v)) = w') (kk : J c n w' (pc + 3) lv st) : J c n w pc lv (v :: .ref a :: st) := by
  obtain ⟨p, e, s, m, args, below, meth, cd, A, hx, hb, hml, hown, hts, hK, hA, hr, hlk, hnm, hX, rfl⟩ := K
  intro H locs ls hP hD hS hl
  subst hw
  subst hty2
  exact va_putF hx hb hts hin ty0 hty hnmX hown hK hP hD hS q he hc k hk (hts _ hfl) (fun _ h9 => h9) hfin (hnm.trans hini) hdecl (hty k hk) hn hfit hlen d (fun H1 locs1 hP1 hD1 hS1 => kk H1 locs1 ls hP1 hD1 hS1 (by assumption))

theorem g_iald (K : zOk E J own cc nL ret Ts R nm X post) {a z : Nat} {f : Nat → Int32} (d : decode cc pc = .ok (.iaload, 1)) (q : Nat) (ha : w[q]? = some (cI E a z f)) {i : Int32} (j : Nat) (hi : i = nI j) (hj : j < z) (hz : z.ble 4096 = true) (kk : J c n w (pc + 1) lv (.int (f j) :: st)) : J c n w pc lv (.int i :: .ref a :: st) := by
  obtain ⟨p, e, s, m, args, below, meth, cd, A, hx, hb, hml, hown, hts, hK, hA, hr, hlk, hnm, hX, rfl⟩ := K
  intro H locs ls hP hD hS hl
  subst hi
  have hz2 : z < 2 ^ 31 := Nat.lt_of_le_of_lt (Nat.le_of_ble_eq_true hz) (by decide)
  have hin := vp_in_nI hj hz2
  have hcl := nI_clamp (Nat.lt_trans hj hz2)
  refine va_iald hx hb hK hP q 0 ha rfl hin d ?_
  rw [hcl]
  exact kk H locs ls hP hD hS (by assumption)

theorem g_lald (K : zOk E J own cc nL ret Ts R nm X post) {a z : Nat} {f : Nat → Int64} (d : decode cc pc = .ok (.laload, 1)) (q : Nat) (ha : w[q]? = some (cJ E a z f)) {i : Int32} (j : Nat) (hi : i = nI j) (hj : j < z) (hz : z.ble 4096 = true) (kk : J c n w (pc + 1) lv (.long (f j) :: st)) : J c n w pc lv (.int i :: .ref a :: st) := by
  obtain ⟨p, e, s, m, args, below, meth, cd, A, hx, hb, hml, hown, hts, hK, hA, hr, hlk, hnm, hX, rfl⟩ := K
  intro H locs ls hP hD hS hl
  subst hi
  have hz2 : z < 2 ^ 31 := Nat.lt_of_le_of_lt (Nat.le_of_ble_eq_true hz) (by decide)
  have hin := vp_in_nI hj hz2
  have hcl := nI_clamp (Nat.lt_trans hj hz2)
  refine va_lald hx hb hK hP q 1 ha rfl hin d ?_
  rw [hcl]
  exact kk H locs ls hP hD hS (by assumption)

theorem g_aald (K : zOk E J own cc nL ret Ts R nm X post) {a z : Nat} {f : Nat → Option Nat} (d : decode cc pc = .ok (.aaload, 1)) (q : Nat) (ha : w[q]? = some (cQ E a z f)) {i : Int32} (j : Nat) (hi : i = nI j) (hj : j < z) (hz : z.ble 4096 = true) (kk : J c n w (pc + 1) lv (va_rf (f j) :: st)) : J c n w pc lv (.int i :: .ref a :: st) := by
  obtain ⟨p, e, s, m, args, below, meth, cd, A, hx, hb, hml, hown, hts, hK, hA, hr, hlk, hnm, hX, rfl⟩ := K
  intro H locs ls hP hD hS hl
  subst hi
  have hz2 : z < 2 ^ 31 := Nat.lt_of_le_of_lt (Nat.le_of_ble_eq_true hz) (by decide)
  have hin := vp_in_nI hj hz2
  have hcl := nI_clamp (Nat.lt_trans hj hz2)
  refine va_aldq hx hb hK hP q 2 ha rfl hin d ?_
  rw [hcl]
  exact kk H locs ls hP hD hS (by assumption)

theorem g_iast (K : zOk E J own cc nL ret Ts R nm X post) {a z : Nat} {f : Nat → Int32} {x : Int32} {w' : va_W} (d : decode cc pc = .ok (.iastore, 1)) (q : Nat) (ha : w[q]? = some (cI E a z f)) {i : Int32} (j : Nat) (hi : i = nI j) (hj : j < z) (hz : z.ble 4096 = true) (hw : w.set q (cI E a z (upd f j x)) = w') (kk : J c n w' (pc + 1) lv st) : J c n w pc lv (.int x :: .int i :: .ref a :: st) := by
  obtain ⟨p, e, s, m, args, below, meth, cd, A, hx, hb, hml, hown, hts, hK, hA, hr, hlk, hnm, hX, rfl⟩ := K
  intro H locs ls hP hD hS hl
  subst hw
  subst hi
  have hz2 : z < 2 ^ 31 := Nat.lt_of_le_of_lt (Nat.le_of_ble_eq_true hz) (by decide)
  have hin := vp_in_nI hj hz2
  have hcl := nI_clamp (Nat.lt_trans hj hz2)
  refine va_iast hx hb hK hP hD hS q 0 ha rfl hin d ?_
  rw [hcl]
  exact fun H1 locs1 hP1 hD1 hS1 => kk H1 locs1 ls hP1 hD1 hS1 (by assumption)

theorem g_last (K : zOk E J own cc nL ret Ts R nm X post) {a z : Nat} {f : Nat → Int64} {x : Int64} {w' : va_W} (d : decode cc pc = .ok (.lastore, 1)) (q : Nat) (ha : w[q]? = some (cJ E a z f)) {i : Int32} (j : Nat) (hi : i = nI j) (hj : j < z) (hz : z.ble 4096 = true) (hw : w.set q (cJ E a z (vp_updL f j x)) = w') (kk : J c n w' (pc + 1) lv st) : J c n w pc lv (.long x :: .int i :: .ref a :: st) := by
  obtain ⟨p, e, s, m, args, below, meth, cd, A, hx, hb, hml, hown, hts, hK, hA, hr, hlk, hnm, hX, rfl⟩ := K
  intro H locs ls hP hD hS hl
  subst hw
  subst hi
  have hz2 : z < 2 ^ 31 := Nat.lt_of_le_of_lt (Nat.le_of_ble_eq_true hz) (by decide)
  have hin := vp_in_nI hj hz2
  have hcl := nI_clamp (Nat.lt_trans hj hz2)
  refine va_last hx hb hK hP hD hS q 1 ha rfl hin d ?_
  rw [hcl]
  exact fun H1 locs1 hP1 hD1 hS1 => kk H1 locs1 ls hP1 hD1 hS1 (by assumption)

theorem g_aast (K : zOk E J own cc nL ret Ts R nm X post) {a z v ci : Nat} {vs : List Value} {f : Nat → Option Nat} {w' : va_W} {r : vw_C} (d : decode cc pc = .ok (.aastore, 1)) (q qk : Nat) (ha : w[q]? = some (cQ E a z f)) (hv : w[qk]? = some (v, .inr (ci, vs))) (hc : vwCl[ci]? = some r) (hr2 : ("LightRound$Row" : String) = r.1) {i : Int32} (j : Nat) (hi : i = nI j) (hj : j < z) (hz : z.ble 4096 = true) (hw : w.set q (cQ E a z (va_up f j (some v))) = w') (kk : J c n w' (pc + 1) lv st) : J c n w pc lv (.ref v :: .int i :: .ref a :: st) := by
  obtain ⟨p, e, s, m, args, below, meth, cd, A, hx, hb, hml, hown, hts, hK, hA, hr, hlk, hnm, hX, rfl⟩ := K
  intro H locs ls hP hD hS hl
  subst hw
  subst hi
  have hz2 : z < 2 ^ 31 := Nat.lt_of_le_of_lt (Nat.le_of_ble_eq_true hz) (by decide)
  have hin := vp_in_nI hj hz2
  have hcl := nI_clamp (Nat.lt_trans hj hz2)
  refine va_astq hx hb hK hP hD hS q 2 qk ci ha (r := r) (by rw [← hr2]; rfl) hv hc hin d ?_
  rw [hcl]
  exact fun H1 locs1 hP1 hD1 hS1 => kk H1 locs1 ls hP1 hD1 hS1 (by assumption)

theorem g_alen (K : zOk E J own cc nL ret Ts R nm X post) {a : Nat} {cA : ClassId} {x : vp_A} {ty : FieldType} {v : Int32} (d : decode cc pc = .ok (.arraylength, 1)) (q t0 : Nat) (ha : w[q]? = some (a, .inl (cA, x))) (ht : (zt E)[t0]? = some (cA, ty)) (hv : Int32.ofNat x.1 = v) (kk : J c n w (pc + 1) lv (.int v :: st)) : J c n w pc lv (.ref a :: st) := by
  obtain ⟨p, e, s, m, args, below, meth, cd, A, hx, hb, hml, hown, hts, hK, hA, hr, hlk, hnm, hX, rfl⟩ := K
  intro H locs ls hP hD hS hl
  exact va_alen hx hb hK hP q t0 ha ht hv d (kk H locs ls hP hD hS (by assumption))

theorem g_mabs (K : zOk E J own cc nL ret Ts R nm X post) {x : Int64} {idx : Nat} (d : decode cc pc = .ok (.invokestatic idx, 3)) (h1 : Cond.methodLink own idx Lib.MathLoose.abs_long.x ∈ Ts) (h2 : Cond.static Lib.MathLoose.abs_long.x ∈ Ts) (h3 : Cond.initialized "java/lang/Math" ∈ Ts) (h4 : Cond.code Lib.MathLoose.abs_long.x Lib.MathLoose.abs_long.code 2 (some .long) ∈ Ts) (hf : 1 ≤ R.frames) (hlo : (st.map fun v => v.category).sum + 13 ≤ R.locals) (hcn : c ≤ R.cells ∧ n ≤ R.slots) (kk : J c n w (pc + 3) lv (.long (if 0 < x then x else -x) :: st)) : J c n w pc lv (.long x :: st) := by
  obtain ⟨p, e, s, m, args, below, meth, cd, A, hx, hb, hml, hown, hts, hK, hA, hr, hlk, hnm, hX, rfl⟩ := K
  intro H locs ls hP hD hS hl
  exact va_mabs_long hx hb (hml.trans hl.1.symm) hown (hts _ h1) (hts _ h2) (hts _ h3) (hts _ h4) hf hlo hcn.1 hcn.2 d (kk H locs ls hP hD hS hl)

theorem g_mmin (K : zOk E J own cc nL ret Ts R nm X post) {x y : Int64} {idx : Nat} (d : decode cc pc = .ok (.invokestatic idx, 3)) (h1 : Cond.methodLink own idx Lib.MathLoose.min_long.x ∈ Ts) (h2 : Cond.static Lib.MathLoose.min_long.x ∈ Ts) (h3 : Cond.initialized "java/lang/Math" ∈ Ts) (h4 : Cond.code Lib.MathLoose.min_long.x Lib.MathLoose.min_long.code 4 (some .long) ∈ Ts) (hf : 1 ≤ R.frames) (hlo : (st.map fun v => v.category).sum + 15 ≤ R.locals) (hcn : c ≤ R.cells ∧ n ≤ R.slots) (kk : J c n w (pc + 3) lv (.long (if y < x then y else x) :: st)) : J c n w pc lv (.long y :: .long x :: st) := by
  obtain ⟨p, e, s, m, args, below, meth, cd, A, hx, hb, hml, hown, hts, hK, hA, hr, hlk, hnm, hX, rfl⟩ := K
  intro H locs ls hP hD hS hl
  exact va_mmin_long hx hb (hml.trans hl.1.symm) hown (hts _ h1) (hts _ h2) (hts _ h3) (hts _ h4) hf hlo hcn.1 hcn.2 d (kk H locs ls hP hD hS hl)

theorem g_iret (K : zOk E J own cc nL ret Ts R nm X post) {v : Int32} (d : decode cc pc = .ok (.ireturn, 1)) (hrt : ret = some .int)  (hcn : c ≤ R.cells ∧ n ≤ R.slots) (hp : post (some (.int v)) w) : J c n w pc lv [.int v] := by
  obtain ⟨p, e, s, m, args, below, meth, cd, A, hx, hb, hml, hown, hts, hK, hA, hr, hlk, hnm, hX, rfl⟩ := K
  intro H locs ls hP hD hS hl
  refine W.widen hcn.1 hcn.2 ?_
  exact W.iret hx hb (hr.trans hrt)  (fun t ht hW => ⟨_, w, rfl, hp, by rw [ht]; exact hP, hD, hS.F ht⟩) hS.2.2 d

theorem g_zret (K : zOk E J own cc nL ret Ts R nm X post) {v : Int32} (d : decode cc pc = .ok (.ireturn, 1)) (hrt : ret = some .boolean) (hv : narrow .boolean (.int v) = .int v) (hcn : c ≤ R.cells ∧ n ≤ R.slots) (hp : post (some (.int v)) w) : J c n w pc lv [.int v] := by
  obtain ⟨p, e, s, m, args, below, meth, cd, A, hx, hb, hml, hown, hts, hK, hA, hr, hlk, hnm, hX, rfl⟩ := K
  intro H locs ls hP hD hS hl
  refine W.widen hcn.1 hcn.2 ?_
  exact W.zret hx hb (hr.trans hrt) hv (fun t ht hW => ⟨_, w, rfl, hp, by rw [ht]; exact hP, hD, hS.F ht⟩) hS.2.2 d

theorem g_lret (K : zOk E J own cc nL ret Ts R nm X post) {v : Int64} (d : decode cc pc = .ok (.lreturn, 1)) (hrt : ret = some .long)  (hcn : c ≤ R.cells ∧ n ≤ R.slots) (hp : post (some (.long v)) w) : J c n w pc lv [.long v] := by
  obtain ⟨p, e, s, m, args, below, meth, cd, A, hx, hb, hml, hown, hts, hK, hA, hr, hlk, hnm, hX, rfl⟩ := K
  intro H locs ls hP hD hS hl
  refine W.widen hcn.1 hcn.2 ?_
  exact W.lret hx hb (hr.trans hrt)  (fun t ht hW => ⟨_, w, rfl, hp, by rw [ht]; exact hP, hD, hS.F ht⟩) hS.2.2 d

theorem g_vret (K : zOk E J own cc nL ret Ts R nm X post)  (d : decode cc pc = .ok (.return_, 1)) (hrt : ret = none)  (hcn : c ≤ R.cells ∧ n ≤ R.slots) (hp : post none w) : J c n w pc lv [] := by
  obtain ⟨p, e, s, m, args, below, meth, cd, A, hx, hb, hml, hown, hts, hK, hA, hr, hlk, hnm, hX, rfl⟩ := K
  intro H locs ls hP hD hS hl
  refine W.widen hcn.1 hcn.2 ?_
  exact W.vret hx hb (hr.trans hrt)  (fun t ht hW => ⟨_, w, rfl, hp, by rw [ht]; exact hP, hD, hS.F ht⟩) hS.2.2 d

theorem g_aret (K : zOk E J own cc nL ret Ts R nm X post) {v : Value} {C : String} (d : decode cc pc = .ok (.areturn, 1)) (hrt : ret = some (.object C)) (hv : v = .null ∨ ∃ a, v = .ref a) (hcn : c ≤ R.cells ∧ n ≤ R.slots) (hp : post (some v) w) : J c n w pc lv [v] := by
  obtain ⟨p, e, s, m, args, below, meth, cd, A, hx, hb, hml, hown, hts, hK, hA, hr, hlk, hnm, hX, rfl⟩ := K
  intro H locs ls hP hD hS hl
  refine W.widen hcn.1 hcn.2 ?_
  exact W.aret hx hb (hr.trans hrt) (Or.inl ⟨_, rfl⟩) hv (fun t ht hW => ⟨_, w, rfl, hp, by rw [ht]; exact hP, hD, hS.F ht⟩) hS.2.2 d

theorem z_b0 {P : Prop} [Decidable P] : ((if P then (1 : Int32) else 0) = 0) ↔ ¬ P := by
  by_cases h : P <;> simp [h]
theorem g_ifb_eq (K : zOk E J own cc nL ret Ts R nm X post) {P : Prop} [Decidable P] {off : Int} {tgt : Nat} (d : decode cc pc = .ok (.ifCond .eq off, 3)) (ht : (pc : Int) + off = (tgt : Int)) (kt : ¬ P → J c n w tgt lv st) (kf : P → J c n w (pc + 3) lv st) : J c n w pc lv (.int (if P then 1 else 0) :: st) :=
  g_if_eq K d ht (fun h => kt (z_b0.mp h)) (fun h => kf (Decidable.of_not_not (fun q => h (z_b0.mpr q))))
theorem g_ifb_ne (K : zOk E J own cc nL ret Ts R nm X post) {P : Prop} [Decidable P] {off : Int} {tgt : Nat} (d : decode cc pc = .ok (.ifCond .ne off, 3)) (ht : (pc : Int) + off = (tgt : Int)) (kt : P → J c n w tgt lv st) (kf : ¬ P → J c n w (pc + 3) lv st) : J c n w pc lv (.int (if P then 1 else 0) :: st) :=
  g_if_ne K d ht (fun h => kt (Decidable.of_not_not (fun q => h (z_b0.mpr q)))) (fun h => kf (z_b0.mp h))
theorem g_perm (K : zOk E J own cc nL ret Ts R nm X post) {w2 : va_W} (h : w.Perm w2) (kk : J c n w2 pc lv st) : J c n w pc lv st := by
  obtain ⟨p, e, s, m, args, below, meth, cd, A, hx, hb, hml, hown, hts, hK, hA, hr, hlk, hnm, hX, rfl⟩ := K
  intro H locs ls hP hD hS hl
  refine kk H locs ls (fun k q hq => ?_) ?_ hS hl
  · obtain ⟨i, hi⟩ := List.getElem?_of_mem (h.symm.mem_iff.mp (List.mem_of_getElem? hq))
    exact hP i q hi
  · exact va_D.perm hD h
/-- a call: what it comes to -/
theorem z_called {p : Program} {e : Env} {s : State} {m : MethodId} {args : Array Value} {below : List Frame} {meth : Method} {cd : Code} {A : Nat → Prop} {H : Heap} {locs : List Loc} {ls : Array Slot} {Q : State → Prop} {wc : va_W} {postc : zPost} {a : Array Value} {rest : List Value} {R : Room} {is : List Nat}
    (hA : ∀ q, s.heap.size ≤ q → A q) (hP : va_P E.2.1 vwCl w H) (hD : va_D A w) (hS : va_S A s.heap H locs) (hC : is.map (fun i => w[i]?) = wc.map some)
    (hr : va_Run p E.1 e R s m args below meth cd H locs c n 0 0 (F0 m pc ls st) rest (zQ E (va_A wc H.size) postc a) (va_A wc H.size))
    (kk : ∀ (o : Option Value) (w1 : va_W), postc o w1 → w1.map Prod.fst = wc.map Prod.fst ∧ ∀ (H1 : Heap) (locs1 : List Loc), va_P E.2.1 vwCl (zup w is w1) H1 → va_D A (zup w is w1) → va_S A s.heap H1 locs1 → W p E.1 e R s m args below meth cd H1 locs1 c n Q (F0 m (pc + 3) ls (o.toList ++ rest))) :
    W p E.1 e R s m args below meth cd H locs c n Q (F0 m pc ls st) := by
  have hFc := va_free (wc := wc) hD hS hA is hC
  intro T hT X0
  obtain ⟨v, st₀, t, T', L, h0, X', hL, e1, e2, ⟨o, w1, ho, hp, hP1, hD1, hz, hk⟩, stp⟩ := hr T hT X0
  cases ho
  obtain ⟨ha, kk⟩ := kk v w1 hp
  rw [h0] at hz hk
  rw [← e1] at hP1 hz hk
  obtain ⟨hP2, hD2⟩ := z_join hP hD is hC ha hk hP1
  obtain ⟨t2, a1, b1⟩ := kk T'.heap (locs ++ L) hP2 hD2 ⟨Nat.le_trans hS.1 hz, fun q h1 h2 => by
      rw [hk q (Nat.lt_of_lt_of_le h1 hS.1) (fun z => h2 (hFc q z))]; exact hS.2.1 q h1 h2, fun q hq => by
      rcases List.mem_append.mp hq with h | h
      · exact hS.2.2 q h
      · exact hFc _ (hL q h)⟩ T' rfl X'
  exact ⟨t2, stp t2 a1, b1⟩
theorem z_blind {av : List Value} {wc : va_W} {sz : Nat} : FrameBlind (zPre E av wc (fun _ => True) sz) := fun a U g mk q => by
  obtain ⟨q0, q1, qP, qK, qD, qX⟩ := q
  exact ⟨q0, q1, qP, va_K.moved (u := U) (U := U.calling g mk a) (Vm.Alike.refl U.vm) qK, qD, trivial⟩
theorem g_callV (K : zOk E J own cc nL ret Ts R nm X post) {y : MethodName} {wsy : List Cond} {rmy : Room} {As rest : List Value} {b : Nat} {wc : va_W} {postc : zPost} {C : String} {idx maxL nA : Nat} {rty : Option FieldType}
    (hF : zF E y wsy rmy (.ref b :: As) wc postc) (hI : zInfo y wsy C maxL rty nA) (hG : GoodIn Ts (wsV own idx C y wsy)) (hz : rmy.cells = 0 ∧ rmy.slots = 0) (hR : rmy.frames + 1 ≤ R.frames ∧ 8 + (maxL + 11) + rmy.locals ≤ R.locals)
    (d : decode cc pc = .ok (.invokevirtual idx, 3)) (hst : st = As.reverse ++ .ref b :: rest) (hn : As.length = nA) (hroom : (rest.map fun v => v.category).sum ≤ 8) (hcn : c ≤ R.cells ∧ n ≤ R.slots)
    (is : List Nat) (hC : is.map (fun i => w[i]?) = wc.map some) (hnd : va_nd is = true) (q0 : Nat) {ci : Nat} {fs : List Value} {vc : vw_C} (hq0 : wc[q0]? = some (b, .inr (ci, fs))) (hvc : vwCl[ci]? = some vc) (hvC : vc.1 = C)
    (kk : ∀ (o : Option Value) (w1 : va_W), postc o w1 → w1.map Prod.fst = wc.map Prod.fst ∧ J c n (zup w is w1) (pc + 3) lv (o.toList ++ rest)) : J c n w pc lv st := by
  obtain ⟨p, e, s, m, args, below, meth, cd, A, hx, hb, hml, hown, hts, hK, hA, hr, hlk, hnm, hX, rfl⟩ := K
  intro H locs ls hP hD hS hl
  obtain ⟨bytes, ws', hw, hd⟩ := hI
  subst hst
  subst hvC
  have hPc := hP.sub (ws' := wc) is (by rw [z_fm hC])
  have hDc := hD.sub (ws' := wc) is hnd hC
  have hM := hF H.size
  rw [hz.1, hz.2] at hM
  refine z_called hA hP hD hS hC (va_runV (As := As) (rest := rest) ⟨hx, hb, hml, hown, hts⟩ hM (cwV nA hts hG hw hz.1 hz.2 hd hR) ⟨z_blind, va_recv hK hPc hvc hq0, fun U hU hW => ⟨rfl, by rw [hU], by rw [hU]; exact hPc, va_K.moved hW.alike hK, hDc.weaken (fun _ _ _ _ => trivial), trivial⟩⟩ rfl hn hl.1 rfl (lv_room hroom) d hcn) ?_
  intro o w1 hp
  obtain ⟨ha, k2⟩ := kk o w1 hp
  exact ⟨ha, fun H1 locs1 hP1 hD1 hS1 => k2 H1 locs1 ls hP1 hD1 hS1 hl⟩
theorem g_callS (K : zOk E J own cc nL ret Ts R nm X post) {y : MethodName} {wsy : List Cond} {rmy : Room} {As rest : List Value} {wc : va_W} {postc : zPost} {idx maxL nA : Nat} {rty : Option FieldType}
    (hF : zF E y wsy rmy As wc postc) (hI : zInfo y wsy own maxL rty nA) (hG : GoodIn Ts (wsS own idx y wsy)) (hz : rmy.cells = 0 ∧ rmy.slots = 0) (hR : rmy.frames + 1 ≤ R.frames ∧ 8 + (maxL + 11) + rmy.locals ≤ R.locals)
    (d : decode cc pc = .ok (.invokestatic idx, 3)) (hst : st = As.reverse ++ rest) (hn : As.length = nA) (hroom : (rest.map fun v => v.category).sum ≤ 8) (hcn : c ≤ R.cells ∧ n ≤ R.slots)
    (is : List Nat) (hC : is.map (fun i => w[i]?) = wc.map some) (hnd : va_nd is = true)
    (kk : ∀ (o : Option Value) (w1 : va_W), postc o w1 → w1.map Prod.fst = wc.map Prod.fst ∧ J c n (zup w is w1) (pc + 3) lv (o.toList ++ rest)) : J c n w pc lv st := by
  obtain ⟨p, e, s, m, args, below, meth, cd, A, hx, hb, hml, hown, hts, hK, hA, hr, hlk, hnm, hX, rfl⟩ := K
  intro H locs ls hP hD hS hl
  obtain ⟨bytes, ws', hw, hd⟩ := hI
  subst hst
  have hPc := hP.sub (ws' := wc) is (by rw [z_fm hC])
  have hDc := hD.sub (ws' := wc) is hnd hC
  have hM := hF H.size
  rw [hz.1, hz.2] at hM
  refine z_called hA hP hD hS hC (va_runS (As := As) (rest := rest) ⟨hx, hb, hml, hown, hts⟩ hM (cwS nA hts hG hw hz.1 hz.2 hd hR) ⟨z_blind, fun U hU hW => ⟨rfl, by rw [hU], by rw [hU]; exact hPc, va_K.moved hW.alike hK, hDc.weaken (fun _ _ _ _ => trivial), trivial⟩⟩ rfl hn hl.1 rfl (lv_room hroom) d hcn) ?_
  intro o w1 hp
  obtain ⟨ha, k2⟩ := kk o w1 hp
  exact ⟨ha, fun H1 locs1 hP1 hD1 hS1 => k2 H1 locs1 ls hP1 hD1 hS1 hl⟩
/-- calls whose end is exact -/
theorem g_callVx (K : zOk E J own cc nL ret Ts R nm X post) {y : MethodName} {wsy : List Cond} {rmy : Room} {As rest : List Value} {b : Nat} {wc w1 w' : va_W} {o : Option Value} {C : String} {idx maxL nA : Nat} {rty : Option FieldType}
    (hF : zF E y wsy rmy (.ref b :: As) wc (zx o w1)) (hI : zInfo y wsy C maxL rty nA) (hG : GoodIn Ts (wsV own idx C y wsy)) (hz : rmy.cells = 0 ∧ rmy.slots = 0) (hR : rmy.frames + 1 ≤ R.frames ∧ 8 + (maxL + 11) + rmy.locals ≤ R.locals)
    (d : decode cc pc = .ok (.invokevirtual idx, 3)) (hst : st = As.reverse ++ .ref b :: rest) (hn : As.length = nA) (hroom : (rest.map fun v => v.category).sum ≤ 8) (hcn : c ≤ R.cells ∧ n ≤ R.slots)
    (is : List Nat) (hC : is.map (fun i => w[i]?) = wc.map some) (hnd : va_nd is = true) (q0 : Nat) {ci : Nat} {fs : List Value} {vc : vw_C} (hq0 : wc[q0]? = some (b, .inr (ci, fs))) (hvc : vwCl[ci]? = some vc) (hvC : vc.1 = C)
    (ha : w1.map Prod.fst = wc.map Prod.fst) (hw' : zup w is w1 = w') (kk : J c n w' (pc + 3) lv (o.toList ++ rest)) : J c n w pc lv st := by
  refine g_callV K hF hI hG hz hR d hst hn hroom hcn is hC hnd q0 hq0 hvc hvC ?_
  rintro o' w1' ⟨rfl, rfl⟩
  subst hw'
  exact ⟨ha, kk⟩
theorem g_callSx (K : zOk E J own cc nL ret Ts R nm X post) {y : MethodName} {wsy : List Cond} {rmy : Room} {As rest : List Value} {wc w1 w' : va_W} {o : Option Value} {idx maxL nA : Nat} {rty : Option FieldType}
    (hF : zF E y wsy rmy As wc (zx o w1)) (hI : zInfo y wsy own maxL rty nA) (hG : GoodIn Ts (wsS own idx y wsy)) (hz : rmy.cells = 0 ∧ rmy.slots = 0) (hR : rmy.frames + 1 ≤ R.frames ∧ 8 + (maxL + 11) + rmy.locals ≤ R.locals)
    (d : decode cc pc = .ok (.invokestatic idx, 3)) (hst : st = As.reverse ++ rest) (hn : As.length = nA) (hroom : (rest.map fun v => v.category).sum ≤ 8) (hcn : c ≤ R.cells ∧ n ≤ R.slots)
    (is : List Nat) (hC : is.map (fun i => w[i]?) = wc.map some) (hnd : va_nd is = true)
    (ha : w1.map Prod.fst = wc.map Prod.fst) (hw' : zup w is w1 = w') (kk : J c n w' (pc + 3) lv (o.toList ++ rest)) : J c n w pc lv st := by
  refine g_callS K hF hI hG hz hR d hst hn hroom hcn is hC hnd ?_
  rintro o' w1' ⟨rfl, rfl⟩
  subst hw'
  exact ⟨ha, kk⟩
end ZR
theorem zb_m100 : (Int8.ofInt (-100)).toInt32 = (-100) := by decide
theorem zb_m9 : (Int8.ofInt (-9)).toInt32 = (-9) := by decide
theorem zb_m4 : (Int8.ofInt (-4)).toInt32 = (-4) := by decide
theorem zb_m3 : (Int8.ofInt (-3)).toInt32 = (-3) := by decide
theorem zb_m2 : (Int8.ofInt (-2)).toInt32 = (-2) := by decide
theorem zb_6 : (Int8.ofInt 6).toInt32 = 6 := by decide
theorem zb_7 : (Int8.ofInt 7).toInt32 = 7 := by decide
theorem zb_8 : (Int8.ofInt 8).toInt32 = 8 := by decide
theorem zb_9 : (Int8.ofInt 9).toInt32 = 9 := by decide
theorem zb_12 : (Int8.ofInt 12).toInt32 = 12 := by decide
theorem zb_20 : (Int8.ofInt 20).toInt32 = 20 := by decide
theorem zb_31 : (Int8.ofInt 31).toInt32 = 31 := by decide
theorem zb_32 : (Int8.ofInt 32).toInt32 = 32 := by decide
theorem zb_100 : (Int8.ofInt 100).toInt32 = 100 := by decide
theorem zi_m1 : Int32.ofInt (-1) = (-1) := by decide
theorem zi_0 : Int32.ofInt 0 = 0 := by decide
theorem zi_1 : Int32.ofInt 1 = 1 := by decide
theorem zi_2 : Int32.ofInt 2 = 2 := by decide
theorem zi_3 : Int32.ofInt 3 = 3 := by decide
theorem zi_4 : Int32.ofInt 4 = 4 := by decide
theorem zi_5 : Int32.ofInt 5 = 5 := by decide
theorem zs_m1000 : (Int16.ofInt (-1000)).toInt32 = (-1000) := by decide
theorem zs_1000 : (Int16.ofInt 1000).toInt32 = 1000 := by decide
theorem zl_0 : Int64.ofNat (((0 : Fin 2)) : Nat) = 0 := by decide
theorem zl_1 : Int64.ofNat (((1 : Fin 2)) : Nat) = 1 := by decide
theorem zinc (k : Nat) : nI k + Int32.ofInt 1 = nI (k + 1) := nI_1 k
theorem zdec (k : Nat) : nI (k + 1) + Int32.ofInt (-1) = nI k := pk_m1 k
theorem z_t {P : Prop} [Decidable P] (h : P) : (some (Value.int 1)) = some (Value.int (if P then 1 else 0)) := by rw [if_pos h]
theorem z_f {P : Prop} [Decidable P] (h : ¬ P) : (some (Value.int 0)) = some (Value.int (if P then 1 else 0)) := by rw [if_neg h]
theorem z_swx (x : Int32) (N : Nat) (hN : N < 2 ^ 31) : (∃ j, j < N ∧ x = nI j) ∨ (x.toInt < 0 ∨ (N : Int) ≤ x.toInt) := by
  by_cases h : x < 0
  · exact Or.inr (Or.inl (by have := Int32.lt_iff_toInt_lt.mp h; simpa using this))
  · obtain ⟨j, hj, rfl⟩ := nI_of h
    rcases Nat.lt_or_ge j N with q | q
    · exact Or.inl ⟨j, q, rfl⟩
    · exact Or.inr (Or.inr (by rw [nI_toInt hj]; omega))
theorem z_ne_of {x : Int32} {N : Nat} (h : x.toInt < 0 ∨ (N : Int) ≤ x.toInt) (j : Nat) (hj : j < N) (hN : N < 2 ^ 31) : ¬ x = nI j := by
  intro e
  rw [e, nI_toInt (by omega)] at h
  omega
theorem z_sw2 (x : Int32) : x = nI 0 ∨ x = nI 1 ∨ x = nI 2 ∨ ((x.toInt < 0 ∨ (2 : Int) < x.toInt) ∧ ¬ x = 0 ∧ ¬ x = 1 ∧ ¬ x = 2) := by
  rcases z_swx x 3 (by decide) with ⟨j, hj, rfl⟩ | h
  · rcases (show j = 0 ∨ j = 1 ∨ j = 2 by omega) with rfl | rfl | rfl
    · exact Or.inl rfl
    · exact Or.inr (Or.inl rfl)
    · exact Or.inr (Or.inr (Or.inl rfl))
  · exact Or.inr (Or.inr (Or.inr (⟨by omega, z_ne_of h 0 (by decide) (by decide), z_ne_of h 1 (by decide) (by decide), z_ne_of h 2 (by decide) (by decide)⟩)))
theorem z_sw3 (x : Int32) : x = nI 0 ∨ x = nI 1 ∨ x = nI 2 ∨ x = nI 3 ∨ ((x.toInt < 0 ∨ (3 : Int) < x.toInt) ∧ ¬ x = 0 ∧ ¬ x = 1 ∧ ¬ x = 2 ∧ ¬ x = 3) := by
  rcases z_swx x 4 (by decide) with ⟨j, hj, rfl⟩ | h
  · rcases (show j = 0 ∨ j = 1 ∨ j = 2 ∨ j = 3 by omega) with rfl | rfl | rfl | rfl
    · exact Or.inl rfl
    · exact Or.inr (Or.inl rfl)
    · exact Or.inr (Or.inr (Or.inl rfl))
    · exact Or.inr (Or.inr (Or.inr (Or.inl rfl)))
  · exact Or.inr (Or.inr (Or.inr (Or.inr (⟨by omega, z_ne_of h 0 (by decide) (by decide), z_ne_of h 1 (by decide) (by decide), z_ne_of h 2 (by decide) (by decide), z_ne_of h 3 (by decide) (by decide)⟩))))
theorem z_sw4 (x : Int32) : x = nI 0 ∨ x = nI 1 ∨ x = nI 2 ∨ x = nI 3 ∨ x = nI 4 ∨ ((x.toInt < 0 ∨ (4 : Int) < x.toInt) ∧ ¬ x = 0 ∧ ¬ x = 1 ∧ ¬ x = 2 ∧ ¬ x = 3 ∧ ¬ x = 4) := by
  rcases z_swx x 5 (by decide) with ⟨j, hj, rfl⟩ | h
  · rcases (show j = 0 ∨ j = 1 ∨ j = 2 ∨ j = 3 ∨ j = 4 by omega) with rfl | rfl | rfl | rfl | rfl
    · exact Or.inl rfl
    · exact Or.inr (Or.inl rfl)
    · exact Or.inr (Or.inr (Or.inl rfl))
    · exact Or.inr (Or.inr (Or.inr (Or.inl rfl)))
    · exact Or.inr (Or.inr (Or.inr (Or.inr (Or.inl rfl))))
  · exact Or.inr (Or.inr (Or.inr (Or.inr (Or.inr (⟨by omega, z_ne_of h 0 (by decide) (by decide), z_ne_of h 1 (by decide) (by decide), z_ne_of h 2 (by decide) (by decide), z_ne_of h 3 (by decide) (by decide), z_ne_of h 4 (by decide) (by decide)⟩)))))
