/-! Calls that may make cells; worlds as lists of any length; what is made. -/
theorem z_joinC {A0 : Nat → Prop} {D : va_G} {wc wr w1 : va_W} {H H1 : Heap} (hP : va_P D vwCl (wc ++ wr) H) (hD : va_D A0 (wc ++ wr))
    (hk : ∀ q : Nat, q < H.size → ¬ va_A wc H.size q → H1[q]? = H[q]?) (hF : ∀ q, va_A wc H.size q → A0 q) (hP1 : va_P D vwCl w1 H1) (hD1 : va_D (va_A wc H.size) w1) : va_P D vwCl (w1 ++ wr) H1 ∧ va_D A0 (w1 ++ wr) := by
  have hin : ∀ (k : Nat) (q : Nat × va_E), wr[k]? = some q → (wc ++ wr)[wc.length + k]? = some q := by
    intro k q hk
    rw [List.getElem?_append_right (by omega), Nat.add_sub_cancel_left]
    exact hk
  have hinc : ∀ (k : Nat) (q : Nat × va_E), wc[k]? = some q → (wc ++ wr)[k]? = some q := by
    intro k q hk
    rw [List.getElem?_append_left (List.getElem?_eq_some_iff.mp hk).1]
    exact hk
  have apart : ∀ (k : Nat) (q : Nat × va_E), wr[k]? = some q → q.1 < H.size ∧ ¬ va_A wc H.size q.1 := by
    intro k q hq
    have hl := (hP _ q (hin k q hq)).lt
    refine ⟨hl, fun h => ?_⟩
    rcases h with ⟨k2, e, h⟩ | h
    · have hij := hD.1 _ _ q (q.1, e) (hin k q hq) (hinc k2 _ h) rfl
      have := (List.getElem?_eq_some_iff.mp h).1
      omega
    · omega
  have hDr : va_D A0 wr := by
    refine ⟨fun i j p q hi hj hpq => ?_, fun k q hk => hD.2 _ q (hin k q hk)⟩
    have := hD.1 _ _ p q (hin i p hi) (hin j q hj) hpq
    omega
  refine ⟨va_P.app hP1 (fun k q hq => ?_), va_D.app (hD1.weaken (fun k q _ h => hF q.1 h)) hDr (fun i j x y hx hy hxy => ?_)⟩
  · obtain ⟨g1, g2⟩ := apart k q hq
    exact (hP _ q (hin k q hq)).kept (hk q.1 g1 g2)
  · exact (apart j y hy).2 (by rw [← hxy]; exact hD1.2 i x hx)
section ZN
variable {E : zE} {J : zJ} {own nm : String} {cc : ByteArray} {nL : Nat} {ret : Option FieldType} {Ts : List Cond} {R : Room} {X : State → Prop} {post : zPost} {c n : Nat} {w : va_W} {pc : Nat} {lv : List (Nat × Value)} {st : List Value}
theorem z_freeC {A0 : Nat → Prop} {wc wr : va_W} {H0 H : Heap} {locs : List Loc} (hD : va_D A0 (wc ++ wr)) (hS : va_S A0 H0 H locs) (hA : ∀ q, H0.size ≤ q → A0 q) : ∀ q, va_A wc H.size q → A0 q := by
  intro q h
  rcases h with ⟨k, e, h⟩ | h
  · exact hD.2 k (q, e) (by rw [List.getElem?_append_left (List.getElem?_eq_some_iff.mp h).1]; exact h)
  · exact hA q (Nat.le_trans hS.1 h)
theorem z_calledC {p : Program} {e : Env} {s : State} {m : MethodId} {args : Array Value} {below : List Frame} {meth : Method} {cd : Code} {A : Nat → Prop} {H : Heap} {locs : List Loc} {ls : Array Slot} {Q : State → Prop} {wc wr : va_W} {postc : zPost} {a : Array Value} {rest : List Value} {R : Room} {mc ms : Nat}
    (hA : ∀ q, s.heap.size ≤ q → A q) (hP : va_P E.2.1 vwCl (wc ++ wr) H) (hD : va_D A (wc ++ wr)) (hS : va_S A s.heap H locs)
    (hr : va_Run p E.1 e R s m args below meth cd H locs c n mc ms (F0 m pc ls st) rest (zQ E (va_A wc H.size) postc a) (va_A wc H.size))
    (kk : ∀ (o : Option Value) (w1 : va_W), postc o w1 → ∀ (H1 : Heap) (locs1 : List Loc), va_P E.2.1 vwCl (w1 ++ wr) H1 → va_D A (w1 ++ wr) → va_S A s.heap H1 locs1 → W p E.1 e R s m args below meth cd H1 locs1 (c + mc) (n + ms) Q (F0 m (pc + 3) ls (o.toList ++ rest))) :
    W p E.1 e R s m args below meth cd H locs c n Q (F0 m pc ls st) := by
  have hFc := z_freeC hD hS hA
  intro T hT X0
  obtain ⟨v, st₀, t, T', L, h0, X', hL, e1, e2, ⟨o, w1, ho, hp, hP1, hD1, hz, hk⟩, stp⟩ := hr T hT X0
  cases ho
  rw [h0] at hz hk
  rw [← e1] at hP1 hz hk
  obtain ⟨hP2, hD2⟩ := z_joinC hP hD hk hFc hP1 hD1
  obtain ⟨t2, a1, b1⟩ := kk v w1 hp T'.heap (locs ++ L) hP2 hD2 ⟨Nat.le_trans hS.1 hz, fun q h1 h2 => by
      rw [hk q (Nat.lt_of_lt_of_le h1 hS.1) (fun z => h2 (hFc q z))]; exact hS.2.1 q h1 h2, fun q hq => by
      rcases List.mem_append.mp hq with h | h
      · exact hS.2.2 q h
      · exact hFc _ (hL q h)⟩ T' rfl X'
  exact ⟨t2, stp t2 a1, b1⟩
theorem z_cut {w wc wr : va_W} {D : va_G} {A : Nat → Prop} {H : Heap} (h : w.Perm (wc ++ wr)) (hP : va_P D vwCl w H) (hD : va_D A w) : va_P D vwCl (wc ++ wr) H ∧ va_D A (wc ++ wr) := by
  refine ⟨fun k q hq => ?_, hD.perm h⟩
  obtain ⟨i, hi⟩ := List.getElem?_of_mem (h.symm.mem_iff.mp (List.mem_of_getElem? hq))
  exact hP i q hi
theorem z_cut1 {wc wr : va_W} {D : va_G} {A : Nat → Prop} {H : Heap} (hP : va_P D vwCl (wc ++ wr) H) (hD : va_D A (wc ++ wr)) : va_P D vwCl wc H ∧ va_D (fun _ => True) wc := by
  have hinc : ∀ (k : Nat) (q : Nat × va_E), wc[k]? = some q → (wc ++ wr)[k]? = some q := by
    intro k q hk
    rw [List.getElem?_append_left (List.getElem?_eq_some_iff.mp hk).1]
    exact hk
  exact ⟨fun k q hk => hP k q (hinc k q hk), fun i j p q hp hq h => hD.1 i j p q (hinc i p hp) (hinc j q hq) h, fun _ _ _ => trivial⟩
/-- what a predicate on the tables needs to go along with a call -/
def zKeep (X0 : State → Prop) : Prop := (∀ (U : State) (g : JFrame) (mk : _) (a : Array Value), X0 U → X0 (U.calling g mk a)) ∧ ∀ s U : State, s.WarmedH U.vm → X0 s → X0 U
theorem zKeep_true : zKeep (fun _ => True) := ⟨fun _ _ _ _ _ => trivial, fun _ _ _ _ => trivial⟩
theorem z_blindX {X0 : State → Prop} (hX0 : zKeep X0) {av : List Value} {wc : va_W} {sz : Nat} : FrameBlind (zPre E av wc X0 sz) := fun a U g mk q => by
  obtain ⟨q0, q1, qP, qK, qD, qX⟩ := q
  exact ⟨q0, q1, qP, va_K.moved (u := U) (U := U.calling g mk a) (Vm.Alike.refl U.vm) qK, qD, hX0.1 U g mk a qX⟩
theorem g_callVC (K : zOk E J own cc nL ret Ts R nm X post) {y : MethodName} {wsy : List Cond} {rmy : Room} {As rest : List Value} {b : Nat} {wc wr : va_W} {postc : zPost} {C : String} {idx maxL nA : Nat} {rty : Option FieldType} {X0 : State → Prop}
    (hF : zG E y wsy rmy (.ref b :: As) wc X0 postc) (hX0 : zKeep X0) (hXX : ∀ s, X s → X0 s) (hI : zInfo y wsy C maxL rty nA) (hG : GoodIn Ts (wsV own idx C y wsy)) (hR : rmy.frames + 1 ≤ R.frames ∧ 8 + (maxL + 11) + rmy.locals ≤ R.locals)
    (d : decode cc pc = .ok (.invokevirtual idx, 3)) (hst : st = As.reverse ++ .ref b :: rest) (hn : As.length = nA) (hroom : (rest.map fun v => v.category).sum ≤ 8) (hcn : c + rmy.cells ≤ R.cells ∧ n + rmy.slots ≤ R.slots)
    (hp : w.Perm (wc ++ wr)) (q0 : Nat) {ci : Nat} {fs : List Value} {vc : vw_C} (hq0 : wc[q0]? = some (b, .inr (ci, fs))) (hvc : vwCl[ci]? = some vc) (hvC : vc.1 = C)
    (kk : ∀ (o : Option Value) (w1 : va_W), postc o w1 → J (c + rmy.cells) (n + rmy.slots) (w1 ++ wr) (pc + 3) lv (o.toList ++ rest)) : J c n w pc lv st := by
  obtain ⟨p, e, s, m, args, below, meth, cd, A, hx, hb, hml, hown, hts, hK, hA, hr, hlk, hnm, hX, rfl⟩ := K
  intro H locs ls hP hD hS hl
  obtain ⟨bytes, ws', hw, hd⟩ := hI
  subst hst
  subst hvC
  obtain ⟨hP, hD⟩ := z_cut hp hP hD
  obtain ⟨hPc, hDc⟩ := z_cut1 hP hD
  refine z_calledC hA hP hD hS (va_runV (As := As) (rest := rest) ⟨hx, hb, hml, hown, hts⟩ (hF H.size) (cwV nA hts hG hw rfl rfl hd hR) ⟨z_blindX hX0, va_recv hK hPc hvc hq0, fun U hU hW => ⟨rfl, by rw [hU], by rw [hU]; exact hPc, va_K.moved hW.alike hK, hDc, hX0.2 s U hW (hXX s hX)⟩⟩ rfl hn hl.1 rfl (lv_room hroom) d hcn) ?_
  intro o w1 hp1 H1 locs1 hP1 hD1 hS1
  exact kk o w1 hp1 H1 locs1 ls hP1 hD1 hS1 hl
theorem g_callIC (K : zOk E J own cc nL ret Ts R nm X post) {y : MethodName} {wsy : List Cond} {rmy : Room} {As rest : List Value} {b : Nat} {wc wr : va_W} {postc : zPost} {idx maxL nA : Nat} {X0 : State → Prop} {C : String}
    (hF : zG E y wsy rmy (.ref b :: As) wc X0 postc) (hX0 : zKeep X0) (hXX : ∀ s, X s → X0 s) (hI : zInfo y wsy C maxL none nA) (hG : GoodIn Ts wsy) (h1 : Cond.initialized y.cls ∈ Ts) (h2 : Cond.methodLink own idx y ∈ Ts) (h3 : Cond.instanceMethod y ∈ Ts) (h4 : y.name = "<init>") (hR : rmy.frames + 1 ≤ R.frames ∧ 8 + (maxL + 11) + rmy.locals ≤ R.locals)
    (d : decode cc pc = .ok (.invokespecial idx, 3)) (hst : st = As.reverse ++ .ref b :: rest) (hn : As.length = nA) (hroom : (rest.map fun v => v.category).sum ≤ 8) (hcn : c + rmy.cells ≤ R.cells ∧ n + rmy.slots ≤ R.slots)
    (hp : w.Perm (wc ++ wr))
    (kk : ∀ (o : Option Value) (w1 : va_W), postc o w1 → J (c + rmy.cells) (n + rmy.slots) (w1 ++ wr) (pc + 3) lv (o.toList ++ rest)) : J c n w pc lv st := by
  obtain ⟨p, e, s, m, args, below, meth, cd, A, hx, hb, hml, hown, hts, hK, hA, hr, hlk, hnm, hX, rfl⟩ := K
  intro H locs ls hP hD hS hl
  obtain ⟨bytes, ws', hw, hd⟩ := hI
  subst hst
  obtain ⟨hP, hD⟩ := z_cut hp hP hD
  obtain ⟨hPc, hDc⟩ := z_cut1 hP hD
  refine z_calledC hA hP hD hS (va_runI (As := As) (rest := rest) ⟨hx, hb, hml, hown, hts⟩ (hF H.size) (cwI nA hts hG hw rfl rfl (hts _ h1) (hts _ h2) (hts _ h3) h4 hd.2 hR) ⟨z_blindX hX0, fun U hU hW => ⟨rfl, by rw [hU], by rw [hU]; exact hPc, va_K.moved hW.alike hK, hDc, hX0.2 s U hW (hXX s hX)⟩⟩ rfl hn hl.1 rfl (lv_room hroom) d hcn) ?_
  intro o w1 hp1 H1 locs1 hP1 hD1 hS1
  exact kk o w1 hp1 H1 locs1 ls hP1 hD1 hS1 hl
theorem g_callIN (K : zOk E J own cc nL ret Ts R nm X post) {y : MethodName} {wsy : List Cond} {rmy : Room} {As rest : List Value} {b : Nat} {wc wr : va_W} {postc : zPost} {idx maxL nA : Nat} {X0 : State → Prop} {C host : String}
    (hF : zG E y wsy rmy (.ref b :: As) wc X0 postc) (hX0 : zKeep X0) (hXX : ∀ s, X s → X0 s) (hI : zInfo y wsy C maxL none nA) (hG : GoodIn Ts wsy) (h1 : Cond.initialized y.cls ∈ Ts) (h2 : ∀ s, X s → va_Nw (.methodLinkNest own idx y host) s) (h3 : Cond.instanceMethod y ∈ Ts) (h4 : y.name = "<init>") (hR : rmy.frames + 1 ≤ R.frames ∧ 8 + (maxL + 11) + rmy.locals ≤ R.locals)
    (d : decode cc pc = .ok (.invokespecial idx, 3)) (hst : st = As.reverse ++ .ref b :: rest) (hn : As.length = nA) (hroom : (rest.map fun v => v.category).sum ≤ 8) (hcn : c + rmy.cells ≤ R.cells ∧ n + rmy.slots ≤ R.slots)
    (hp : w.Perm (wc ++ wr))
    (kk : ∀ (o : Option Value) (w1 : va_W), postc o w1 → J (c + rmy.cells) (n + rmy.slots) (w1 ++ wr) (pc + 3) lv (o.toList ++ rest)) : J c n w pc lv st := by
  obtain ⟨p, e, s, m, args, below, meth, cd, A, hx, hb, hml, hown, hts, hK, hA, hr, hlk, hnm, hX, rfl⟩ := K
  intro H locs ls hP hD hS hl
  obtain ⟨bytes, ws', hw, hd⟩ := hI
  subst hst
  obtain ⟨hP, hD⟩ := z_cut hp hP hD
  obtain ⟨hPc, hDc⟩ := z_cut1 hP hD
  refine z_calledC hA hP hD hS (va_runIN (As := As) (rest := rest) ⟨hx, hb, hml, hown, hts⟩ (hF H.size) ⟨va_cnB nA hts hG hw rfl rfl (h2 s hX) (hts _ h1) hd.2 hR, h4, hts _ h3⟩ ⟨z_blindX hX0, fun U hU hW => ⟨rfl, by rw [hU], by rw [hU]; exact hPc, va_K.moved hW.alike hK, hDc, hX0.2 s U hW (hXX s hX)⟩⟩ rfl hn hl.1 rfl (lv_room hroom) d hcn) ?_
  intro o w1 hp1 H1 locs1 hP1 hD1 hS1
  exact kk o w1 hp1 H1 locs1 ls hP1 hD1 hS1 hl
theorem g_objInit (K : zOk E J own cc nL ret Ts R nm X post) {idx a : Nat} (d : decode cc pc = .ok (.invokespecial idx, 3)) (h1 : Cond.methodLink own idx Lib.objectInit ∈ Ts) (h2 : Cond.instanceMethod Lib.objectInit ∈ Ts) (h3 : Cond.code Lib.objectInit ⟨#[0xb1]⟩ 1 none ∈ Ts) (hf : 1 ≤ R.frames) (hlo : (st.map fun v => v.category).sum + 12 ≤ R.locals) (kk : J c n w (pc + 3) lv st) : J c n w pc lv (.ref a :: st) := by
  obtain ⟨p, e, s, m, args, below, meth, cd, A, hx, hb, hml, hown, hts, hK, hA, hr, hlk, hnm, hX, rfl⟩ := K
  intro H locs ls hP hD hS hl
  exact W.objInit hx hb hown (hts _ h1) (hts _ h2) (hts _ h3) rfl (by rw [hml]; exact hl.1) rfl d hf (by show 2 * 0 + _ + 12 ≤ _; omega) (kk H locs ls hP hD hS hl)
theorem g_new (K : zOk E J own cc nL ret Ts R nm X post) {C : String} {T : u_T} {N ci idx : Nat} (d : decode cc pc = .ok (.new idx, 3)) (hc : vwCl[ci]? = some (C, T, N)) (hin : ∀ w ∈ u_ws C T N, w ∈ Ts) (ty : Nat → FieldType) (hty : ∀ k, k < N → parseFieldDescriptor (T k).2.2.1 = some (ty k)) (h1 : Cond.classLink own idx C ∈ Ts) (h2 : Cond.instantiable C N ∈ Ts) (h3 : Cond.initialized C ∈ Ts) (fs : List Value) (hfs : ∀ j, j < N → defaultValue (ty j) = vp_V fs j) (hcn : c + 1 ≤ R.cells ∧ n + N ≤ R.slots)
    (kk : ∀ q : Nat, J (c + 1) (n + N) (w ++ [(q, .inr (ci, fs))]) (pc + 3) lv (.ref q :: st)) : J c n w pc lv st := by
  obtain ⟨p, e, s, m, args, below, meth, cd, A, hx, hb, hml, hown, hts, hK, hA, hr, hlk, hnm, hX, rfl⟩ := K
  intro H locs ls hP hD hS hl
  exact va_new hx hb hts hin ty hty hown (hts _ h1) (hts _ h2) (hts _ h3) hK hP hD hS hA hc hfs hcn.1 hcn.2 d (fun q H1 hP1 hD1 hS1 => kk q H1 locs ls hP1 hD1 hS1 hl)
theorem g_newI (K : zOk E J own cc nL ret Ts R nm X post) {z : Nat} {i : Int32} (d : decode cc pc = .ok (.newarray .int, 2)) (h1 : Cond.arrayClass .int ∈ Ts) (hi : i = nI z) (hz : z.ble 4096 = true) (hcn : c + 1 ≤ R.cells ∧ n + z ≤ R.slots)
    (kk : ∀ q : Nat, J (c + 1) (n + z) (w ++ [cI E q z (fun _ => 0)]) (pc + 2) lv (.ref q :: st)) : J c n w pc lv (.int i :: st) := by
  obtain ⟨p, e, s, m, args, below, meth, cd, A, hx, hb, hml, hown, hts, hK, hA, hr, hlk, hnm, hX, rfl⟩ := K
  intro H locs ls hP hD hS hl
  have hz1 : z ≤ 4096 := Nat.le_of_ble_eq_true hz
  subst hi
  refine va_newa (atype := .int) (ty := .int) (a0 := (z, .inl (fun _ => 0))) hx hb (hts _ h1) rfl hK hP hD hS hA (fun _ => rfl) (nI_pos (by omega)) (nI_clamp (by omega)) (by show z * 4 ≤ _; omega) hcn.1 hcn.2 d ?_
  intro q cA H1 hK1 hP1 hD1 hS1
  have e1 : cA = E.2.2.1 := by
    have a1 : s.vm.findClass ("[" ++ FieldType.int.toString) = some cA := (hK1.2 3 (cA, .int) rfl).2
    have a2 : s.vm.findClass ("[" ++ FieldType.int.toString) = some E.2.2.1 := (hK.2 0 (E.2.2.1, .int) rfl).2
    exact Option.some.inj (a1.symm.trans a2)
  subst e1
  exact kk q H1 locs ls hP1 hD1 hS1 hl
theorem g_newL (K : zOk E J own cc nL ret Ts R nm X post) {z : Nat} {i : Int32} (d : decode cc pc = .ok (.newarray .long, 2)) (h1 : Cond.arrayClass .long ∈ Ts) (hi : i = nI z) (hz : z.ble 4096 = true) (hcn : c + 1 ≤ R.cells ∧ n + z ≤ R.slots)
    (kk : ∀ q : Nat, J (c + 1) (n + z) (w ++ [cJ E q z (fun _ => 0)]) (pc + 2) lv (.ref q :: st)) : J c n w pc lv (.int i :: st) := by
  obtain ⟨p, e, s, m, args, below, meth, cd, A, hx, hb, hml, hown, hts, hK, hA, hr, hlk, hnm, hX, rfl⟩ := K
  intro H locs ls hP hD hS hl
  have hz1 : z ≤ 4096 := Nat.le_of_ble_eq_true hz
  subst hi
  refine va_newa (atype := .long) (ty := .long) (a0 := (z, .inr (.inl (fun _ => 0)))) hx hb (hts _ h1) rfl hK hP hD hS hA (fun _ => rfl) (nI_pos (by omega)) (nI_clamp (by omega)) (by show z * 8 ≤ _; omega) hcn.1 hcn.2 d ?_
  intro q cA H1 hK1 hP1 hD1 hS1
  have e1 : cA = E.2.2.2.1 := by
    have a1 : s.vm.findClass ("[" ++ FieldType.long.toString) = some cA := (hK1.2 3 (cA, .long) rfl).2
    have a2 : s.vm.findClass ("[" ++ FieldType.long.toString) = some E.2.2.2.1 := (hK.2 1 (E.2.2.2.1, .long) rfl).2
    exact Option.some.inj (a1.symm.trans a2)
  subst e1
  exact kk q H1 locs ls hP1 hD1 hS1 hl
theorem g_newQ (K : zOk E J own cc nL ret Ts R nm X post) {z idx : Nat} {i : Int32} (d : decode cc pc = .ok (.anewarray idx, 3)) (h1 : Cond.classLink own idx "LightRound$Row" ∈ Ts) (h2 : ∀ s, X s → va_AO "LightRound$Row" s) (hi : i = nI z) (hz : z.ble 4096 = true) (hcn : c + 1 ≤ R.cells ∧ n + z ≤ R.slots)
    (kk : ∀ q : Nat, J (c + 1) (n + z) (w ++ [cQ E q z (fun _ => none)]) (pc + 3) lv (.ref q :: st)) : J c n w pc lv (.int i :: st) := by
  obtain ⟨p, e, s, m, args, below, meth, cd, A, hx, hb, hml, hown, hts, hK, hA, hr, hlk, hnm, hX, rfl⟩ := K
  intro H locs ls hP hD hS hl
  have hz1 : z ≤ 4096 := Nat.le_of_ble_eq_true hz
  subst hi
  refine va_newq hx hb hown (hts _ h1) (h2 s hX) hK hP hD hS hA (nI_pos (by omega)) (nI_clamp (by omega)) (by omega) hcn.1 hcn.2 d ?_
  intro q cA H1 hK1 hP1 hD1 hS1
  have e1 : cA = E.2.2.2.2 := by
    obtain ⟨_, _, _, _, _, a1⟩ := (hK1.2 3 (cA, .object "LightRound$Row") rfl).2
    obtain ⟨_, _, _, _, _, a2⟩ := (hK.2 2 (E.2.2.2.2, .object "LightRound$Row") rfl).2
    exact Option.some.inj (a1.symm.trans a2)
  subst e1
  exact kk q H1 locs ls hP1 hD1 hS1 hl
end ZN
