/-! The law's cases, each walked once: a call of the class, a call of the reference, their answers compared. -/
def WK (E : zE) (J : zJ) (y2 : MethodName) (ws2 : List Cond) (r2 : Room) (y3 : MethodName) (ws3 : List Cond) (r3 : Room) {α : Type} (mk : α → Value) (As : List Value) (x h c n : Nat) (lv : List (Nat × Value)) (pc : Nat) : Prop :=
  ∀ (w wx wxr : va_W) (px : zPost) (fsx : List Value), zF E y2 ws2 r2 (.ref x :: As) wx px → w.Perm (wx ++ wxr) → wx[0]? = some (cO x 2 fsx) → (∀ (ov : Option Value) (wv : va_W), px ov wv → ∃ (v : α) (wm wmr : va_W) (fsm : List Value) (pm : zPost), ov = some (mk v) ∧ zF E y3 ws3 r3 (.ref h :: As) wm pm ∧ (wv ++ wxr).Perm (wm ++ wmr) ∧ wm[0]? = some (cO h 3 fsm) ∧ ∀ (ov2 : Option Value) (wv2 : va_W), pm ov2 wv2 → ov2 = some (mk v) ∧ J (c + r2.cells + r3.cells) (n + r2.slots + r3.slots) (wv2 ++ wmr) 1193 lv []) → J c n w pc lv []
section ZW
variable {E : zE} {J : zJ} {nm : String} {b L : Nat} {xs : Nat → Int32} {c n : Nat}
theorem wk_bench (K : zLw E J nm b L xs) (hL : L ≤ 4096) {x h i : Nat} (hi : i + 8 ≤ L) (hcn : c + 4 ≤ 623441 ∧ n + 28 ≤ 7231924) : WK E J yX2_bench wsX2_bench rX2_bench yX3_bench wsX3_bench rX3_bench Value.int [] x h c n (lV b x h i) 148 := by
  intro w wx wxr px fsx hx hp h0 hk
  refine g_aload_n K.ok dL_law_148 2 rfl rfl ?_
  refine g_callVC (wc := wx) (wr := wxr) (C := RX2) (As := []) (rest := []) K.ok hx zKeep_true (fun _ _ => trivial) iX2_bench gL_law_X2_bench ⟨Nat.le_of_ble_eq_true rfl, Nat.le_of_ble_eq_true rfl⟩ dL_law_149 rfl rfl (Nat.le_of_ble_eq_true rfl) hcn hp 0 h0 rfl rfl ?_
  intro ov wv hpx
  obtain ⟨v, wm, wmr, fsm, pm, rfl, hm, hp2, h02, hk2⟩ := hk ov wv hpx
  refine g_aload_n K.ok dL_law_152 1 rfl rfl ?_
  refine g_callVC (wc := wm) (wr := wmr) (C := RX3) (As := []) (rest := [.int v]) K.ok hm zKeep_true (fun _ _ => trivial) iX3_bench gL_law_X3_bench ⟨Nat.le_of_ble_eq_true rfl, Nat.le_of_ble_eq_true rfl⟩ dL_law_153 rfl rfl (Nat.le_of_ble_eq_true rfl) hcn hp2 0 h02 rfl rfl ?_
  intro ov2 wv2 hpm
  obtain ⟨rfl, hJ⟩ := hk2 ov2 wv2 hpm
  exact g_icmp_eq (tgt := 1193) K.ok dL_law_156 rfl (fun _ => hJ) (fun h => absurd rfl h)
theorem wk_put (K : zLw E J nm b L xs) (hL : L ≤ 4096) {x h i : Nat} (hi : i + 8 ≤ L) (hcn : c + 4 ≤ 623441 ∧ n + 28 ≤ 7231924) : WK E J yX2_put wsX2_put rX2_put yX3_put wsX3_put rX3_put Value.int [.int (xs (i + 1)), .int (xs (i + 2)), .int (xs (i + 3)), .int (xs (i + 4)), .int (xs (i + 5))] x h c n (lV b x h i) 161 := by
  intro w wx wxr px fsx hx hp h0 hk
  refine g_aload_n K.ok dL_law_161 2 rfl rfl ?_
  refine g_arg (k := 1) K hL dL_law_162 dL_law_163 dL_law_164 dL_law_165 dL_law_166 hi (by decide) rfl ?_
  refine g_arg (k := 2) K hL dL_law_167 dL_law_168 dL_law_169 dL_law_170 dL_law_171 hi (by decide) rfl ?_
  refine g_arg (k := 3) K hL dL_law_172 dL_law_173 dL_law_174 dL_law_175 dL_law_176 hi (by decide) rfl ?_
  refine g_arg (k := 4) K hL dL_law_177 dL_law_178 dL_law_179 dL_law_180 dL_law_181 hi (by decide) rfl ?_
  refine g_arg (k := 5) K hL dL_law_182 dL_law_183 dL_law_184 dL_law_185 dL_law_186 hi (by decide) rfl ?_
  refine g_callVC (wc := wx) (wr := wxr) (C := RX2) (As := [.int (xs (i + 1)), .int (xs (i + 2)), .int (xs (i + 3)), .int (xs (i + 4)), .int (xs (i + 5))]) (rest := []) K.ok hx zKeep_true (fun _ _ => trivial) iX2_put gL_law_X2_put ⟨Nat.le_of_ble_eq_true rfl, Nat.le_of_ble_eq_true rfl⟩ dL_law_187 rfl rfl (Nat.le_of_ble_eq_true rfl) ⟨Nat.le_trans (Nat.le_add_right c 4) hcn.1, Nat.le_trans (Nat.le_add_right n 28) hcn.2⟩ hp 0 h0 rfl rfl ?_
  intro ov wv hpx
  obtain ⟨v, wm, wmr, fsm, pm, rfl, hm, hp2, h02, hk2⟩ := hk ov wv hpx
  refine g_aload_n K.ok dL_law_190 1 rfl rfl ?_
  refine g_arg (k := 1) K hL dL_law_191 dL_law_192 dL_law_193 dL_law_194 dL_law_195 hi (by decide) rfl ?_
  refine g_arg (k := 2) K hL dL_law_196 dL_law_197 dL_law_198 dL_law_199 dL_law_200 hi (by decide) rfl ?_
  refine g_arg (k := 3) K hL dL_law_201 dL_law_202 dL_law_203 dL_law_204 dL_law_205 hi (by decide) rfl ?_
  refine g_arg (k := 4) K hL dL_law_206 dL_law_207 dL_law_208 dL_law_209 dL_law_210 hi (by decide) rfl ?_
  refine g_arg (k := 5) K hL dL_law_211 dL_law_212 dL_law_213 dL_law_214 dL_law_215 hi (by decide) rfl ?_
  refine g_callVC (wc := wm) (wr := wmr) (C := RX3) (As := [.int (xs (i + 1)), .int (xs (i + 2)), .int (xs (i + 3)), .int (xs (i + 4)), .int (xs (i + 5))]) (rest := [.int v]) K.ok hm zKeep_true (fun _ _ => trivial) iX3_put gL_law_X3_put ⟨Nat.le_of_ble_eq_true rfl, Nat.le_of_ble_eq_true rfl⟩ dL_law_216 rfl rfl (Nat.le_of_ble_eq_true rfl) ⟨Nat.le_trans (Nat.le_add_right c 4) hcn.1, Nat.le_trans (Nat.le_add_right n 28) hcn.2⟩ hp2 0 h02 rfl rfl ?_
  intro ov2 wv2 hpm
  obtain ⟨rfl, hJ⟩ := hk2 ov2 wv2 hpm
  exact g_icmp_eq (tgt := 1193) K.ok dL_law_219 rfl (fun _ => hJ) (fun h => absurd rfl h)
theorem wk_take (K : zLw E J nm b L xs) (hL : L ≤ 4096) {x h i : Nat} (hi : i + 8 ≤ L) (hcn : c + 4 ≤ 623441 ∧ n + 28 ≤ 7231924) : WK E J yX2_take wsX2_take rX2_take yX3_take wsX3_take rX3_take Value.int [.int (xs (i + 1)), .int (xs (i + 2))] x h c n (lV b x h i) 224 := by
  intro w wx wxr px fsx hx hp h0 hk
  refine g_aload_n K.ok dL_law_224 2 rfl rfl ?_
  refine g_arg (k := 1) K hL dL_law_225 dL_law_226 dL_law_227 dL_law_228 dL_law_229 hi (by decide) rfl ?_
  refine g_arg (k := 2) K hL dL_law_230 dL_law_231 dL_law_232 dL_law_233 dL_law_234 hi (by decide) rfl ?_
  refine g_callVC (wc := wx) (wr := wxr) (C := RX2) (As := [.int (xs (i + 1)), .int (xs (i + 2))]) (rest := []) K.ok hx zKeep_true (fun _ _ => trivial) iX2_take gL_law_X2_take ⟨Nat.le_of_ble_eq_true rfl, Nat.le_of_ble_eq_true rfl⟩ dL_law_235 rfl rfl (Nat.le_of_ble_eq_true rfl) ⟨Nat.le_trans (Nat.le_add_right c 4) hcn.1, Nat.le_trans (Nat.le_add_right n 28) hcn.2⟩ hp 0 h0 rfl rfl ?_
  intro ov wv hpx
  obtain ⟨v, wm, wmr, fsm, pm, rfl, hm, hp2, h02, hk2⟩ := hk ov wv hpx
  refine g_aload_n K.ok dL_law_238 1 rfl rfl ?_
  refine g_arg (k := 1) K hL dL_law_239 dL_law_240 dL_law_241 dL_law_242 dL_law_243 hi (by decide) rfl ?_
  refine g_arg (k := 2) K hL dL_law_244 dL_law_245 dL_law_246 dL_law_247 dL_law_248 hi (by decide) rfl ?_
  refine g_callVC (wc := wm) (wr := wmr) (C := RX3) (As := [.int (xs (i + 1)), .int (xs (i + 2))]) (rest := [.int v]) K.ok hm zKeep_true (fun _ _ => trivial) iX3_take gL_law_X3_take ⟨Nat.le_of_ble_eq_true rfl, Nat.le_of_ble_eq_true rfl⟩ dL_law_249 rfl rfl (Nat.le_of_ble_eq_true rfl) ⟨Nat.le_trans (Nat.le_add_right c 4) hcn.1, Nat.le_trans (Nat.le_add_right n 28) hcn.2⟩ hp2 0 h02 rfl rfl ?_
  intro ov2 wv2 hpm
  obtain ⟨rfl, hJ⟩ := hk2 ov2 wv2 hpm
  exact g_icmp_eq (tgt := 1193) K.ok dL_law_252 rfl (fun _ => hJ) (fun h => absurd rfl h)
theorem wk_set (K : zLw E J nm b L xs) (hL : L ≤ 4096) {x h i : Nat} (hi : i + 8 ≤ L) (hcn : c + 4 ≤ 623441 ∧ n + 28 ≤ 7231924) : WK E J yX2_set wsX2_set rX2_set yX3_set wsX3_set rX3_set Value.int [.int (xs (i + 1)), .int (xs (i + 2)), .int (xs (i + 3)), .int (xs (i + 4))] x h c n (lV b x h i) 257 := by
  intro w wx wxr px fsx hx hp h0 hk
  refine g_aload_n K.ok dL_law_257 2 rfl rfl ?_
  refine g_arg (k := 1) K hL dL_law_258 dL_law_259 dL_law_260 dL_law_261 dL_law_262 hi (by decide) rfl ?_
  refine g_arg (k := 2) K hL dL_law_263 dL_law_264 dL_law_265 dL_law_266 dL_law_267 hi (by decide) rfl ?_
  refine g_arg (k := 3) K hL dL_law_268 dL_law_269 dL_law_270 dL_law_271 dL_law_272 hi (by decide) rfl ?_
  refine g_arg (k := 4) K hL dL_law_273 dL_law_274 dL_law_275 dL_law_276 dL_law_277 hi (by decide) rfl ?_
  refine g_callVC (wc := wx) (wr := wxr) (C := RX2) (As := [.int (xs (i + 1)), .int (xs (i + 2)), .int (xs (i + 3)), .int (xs (i + 4))]) (rest := []) K.ok hx zKeep_true (fun _ _ => trivial) iX2_set gL_law_X2_set ⟨Nat.le_of_ble_eq_true rfl, Nat.le_of_ble_eq_true rfl⟩ dL_law_278 rfl rfl (Nat.le_of_ble_eq_true rfl) ⟨Nat.le_trans (Nat.le_add_right c 4) hcn.1, Nat.le_trans (Nat.le_add_right n 28) hcn.2⟩ hp 0 h0 rfl rfl ?_
  intro ov wv hpx
  obtain ⟨v, wm, wmr, fsm, pm, rfl, hm, hp2, h02, hk2⟩ := hk ov wv hpx
  refine g_aload_n K.ok dL_law_281 1 rfl rfl ?_
  refine g_arg (k := 1) K hL dL_law_282 dL_law_283 dL_law_284 dL_law_285 dL_law_286 hi (by decide) rfl ?_
  refine g_arg (k := 2) K hL dL_law_287 dL_law_288 dL_law_289 dL_law_290 dL_law_291 hi (by decide) rfl ?_
  refine g_arg (k := 3) K hL dL_law_292 dL_law_293 dL_law_294 dL_law_295 dL_law_296 hi (by decide) rfl ?_
  refine g_arg (k := 4) K hL dL_law_297 dL_law_298 dL_law_299 dL_law_300 dL_law_301 hi (by decide) rfl ?_
  refine g_callVC (wc := wm) (wr := wmr) (C := RX3) (As := [.int (xs (i + 1)), .int (xs (i + 2)), .int (xs (i + 3)), .int (xs (i + 4))]) (rest := [.int v]) K.ok hm zKeep_true (fun _ _ => trivial) iX3_set gL_law_X3_set ⟨Nat.le_of_ble_eq_true rfl, Nat.le_of_ble_eq_true rfl⟩ dL_law_302 rfl rfl (Nat.le_of_ble_eq_true rfl) ⟨Nat.le_trans (Nat.le_add_right c 4) hcn.1, Nat.le_trans (Nat.le_add_right n 28) hcn.2⟩ hp2 0 h02 rfl rfl ?_
  intro ov2 wv2 hpm
  obtain ⟨rfl, hJ⟩ := hk2 ov2 wv2 hpm
  exact g_icmp_eq (tgt := 1193) K.ok dL_law_305 rfl (fun _ => hJ) (fun h => absurd rfl h)
theorem wk_part (K : zLw E J nm b L xs) (hL : L ≤ 4096) {x h i : Nat} (hi : i + 8 ≤ L) (hcn : c + 4 ≤ 623441 ∧ n + 28 ≤ 7231924) : WK E J yX2_part wsX2_part rX2_part yX3_part wsX3_part rX3_part Value.int [.int (xs (i + 1)), .int (xs (i + 2)), .int (xs (i + 3))] x h c n (lV b x h i) 310 := by
  intro w wx wxr px fsx hx hp h0 hk
  refine g_aload_n K.ok dL_law_310 2 rfl rfl ?_
  refine g_arg (k := 1) K hL dL_law_311 dL_law_312 dL_law_313 dL_law_314 dL_law_315 hi (by decide) rfl ?_
  refine g_arg (k := 2) K hL dL_law_316 dL_law_317 dL_law_318 dL_law_319 dL_law_320 hi (by decide) rfl ?_
  refine g_arg (k := 3) K hL dL_law_321 dL_law_322 dL_law_323 dL_law_324 dL_law_325 hi (by decide) rfl ?_
  refine g_callVC (wc := wx) (wr := wxr) (C := RX2) (As := [.int (xs (i + 1)), .int (xs (i + 2)), .int (xs (i + 3))]) (rest := []) K.ok hx zKeep_true (fun _ _ => trivial) iX2_part gL_law_X2_part ⟨Nat.le_of_ble_eq_true rfl, Nat.le_of_ble_eq_true rfl⟩ dL_law_326 rfl rfl (Nat.le_of_ble_eq_true rfl) ⟨Nat.le_trans (Nat.le_add_right c 4) hcn.1, Nat.le_trans (Nat.le_add_right n 28) hcn.2⟩ hp 0 h0 rfl rfl ?_
  intro ov wv hpx
  obtain ⟨v, wm, wmr, fsm, pm, rfl, hm, hp2, h02, hk2⟩ := hk ov wv hpx
  refine g_aload_n K.ok dL_law_329 1 rfl rfl ?_
  refine g_arg (k := 1) K hL dL_law_330 dL_law_331 dL_law_332 dL_law_333 dL_law_334 hi (by decide) rfl ?_
  refine g_arg (k := 2) K hL dL_law_335 dL_law_336 dL_law_337 dL_law_338 dL_law_339 hi (by decide) rfl ?_
  refine g_arg (k := 3) K hL dL_law_340 dL_law_341 dL_law_342 dL_law_343 dL_law_344 hi (by decide) rfl ?_
  refine g_callVC (wc := wm) (wr := wmr) (C := RX3) (As := [.int (xs (i + 1)), .int (xs (i + 2)), .int (xs (i + 3))]) (rest := [.int v]) K.ok hm zKeep_true (fun _ _ => trivial) iX3_part gL_law_X3_part ⟨Nat.le_of_ble_eq_true rfl, Nat.le_of_ble_eq_true rfl⟩ dL_law_345 rfl rfl (Nat.le_of_ble_eq_true rfl) ⟨Nat.le_trans (Nat.le_add_right c 4) hcn.1, Nat.le_trans (Nat.le_add_right n 28) hcn.2⟩ hp2 0 h02 rfl rfl ?_
  intro ov2 wv2 hpm
  obtain ⟨rfl, hJ⟩ := hk2 ov2 wv2 hpm
  exact g_icmp_eq (tgt := 1193) K.ok dL_law_348 rfl (fun _ => hJ) (fun h => absurd rfl h)
theorem wk_turn (K : zLw E J nm b L xs) (hL : L ≤ 4096) {x h i : Nat} (hi : i + 8 ≤ L) (hcn : c + 4 ≤ 623441 ∧ n + 28 ≤ 7231924) : WK E J yX2_turn wsX2_turn rX2_turn yX3_turn wsX3_turn rX3_turn Value.int [.int (xs (i + 1))] x h c n (lV b x h i) 353 := by
  intro w wx wxr px fsx hx hp h0 hk
  refine g_aload_n K.ok dL_law_353 2 rfl rfl ?_
  refine g_arg (k := 1) K hL dL_law_354 dL_law_355 dL_law_356 dL_law_357 dL_law_358 hi (by decide) rfl ?_
  refine g_callVC (wc := wx) (wr := wxr) (C := RX2) (As := [.int (xs (i + 1))]) (rest := []) K.ok hx zKeep_true (fun _ _ => trivial) iX2_turn gL_law_X2_turn ⟨Nat.le_of_ble_eq_true rfl, Nat.le_of_ble_eq_true rfl⟩ dL_law_359 rfl rfl (Nat.le_of_ble_eq_true rfl) ⟨Nat.le_trans (Nat.le_add_right c 4) hcn.1, Nat.le_trans (Nat.le_add_right n 28) hcn.2⟩ hp 0 h0 rfl rfl ?_
  intro ov wv hpx
  obtain ⟨v, wm, wmr, fsm, pm, rfl, hm, hp2, h02, hk2⟩ := hk ov wv hpx
  refine g_aload_n K.ok dL_law_362 1 rfl rfl ?_
  refine g_arg (k := 1) K hL dL_law_363 dL_law_364 dL_law_365 dL_law_366 dL_law_367 hi (by decide) rfl ?_
  refine g_callVC (wc := wm) (wr := wmr) (C := RX3) (As := [.int (xs (i + 1))]) (rest := [.int v]) K.ok hm zKeep_true (fun _ _ => trivial) iX3_turn gL_law_X3_turn ⟨Nat.le_of_ble_eq_true rfl, Nat.le_of_ble_eq_true rfl⟩ dL_law_368 rfl rfl (Nat.le_of_ble_eq_true rfl) ⟨Nat.le_trans (Nat.le_add_right c 4) hcn.1, Nat.le_trans (Nat.le_add_right n 28) hcn.2⟩ hp2 0 h02 rfl rfl ?_
  intro ov2 wv2 hpm
  obtain ⟨rfl, hJ⟩ := hk2 ov2 wv2 hpm
  exact g_icmp_eq (tgt := 1193) K.ok dL_law_371 rfl (fun _ => hJ) (fun h => absurd rfl h)
theorem wk_join (K : zLw E J nm b L xs) (hL : L ≤ 4096) {x h i : Nat} (hi : i + 8 ≤ L) (hcn : c + 4 ≤ 623441 ∧ n + 28 ≤ 7231924) : WK E J yX2_join wsX2_join rX2_join yX3_join wsX3_join rX3_join Value.int [.int (xs (i + 1)), .int (xs (i + 2))] x h c n (lV b x h i) 376 := by
  intro w wx wxr px fsx hx hp h0 hk
  refine g_aload_n K.ok dL_law_376 2 rfl rfl ?_
  refine g_arg (k := 1) K hL dL_law_377 dL_law_378 dL_law_379 dL_law_380 dL_law_381 hi (by decide) rfl ?_
  refine g_arg (k := 2) K hL dL_law_382 dL_law_383 dL_law_384 dL_law_385 dL_law_386 hi (by decide) rfl ?_
  refine g_callVC (wc := wx) (wr := wxr) (C := RX2) (As := [.int (xs (i + 1)), .int (xs (i + 2))]) (rest := []) K.ok hx zKeep_true (fun _ _ => trivial) iX2_join gL_law_X2_join ⟨Nat.le_of_ble_eq_true rfl, Nat.le_of_ble_eq_true rfl⟩ dL_law_387 rfl rfl (Nat.le_of_ble_eq_true rfl) ⟨Nat.le_trans (Nat.le_add_right c 4) hcn.1, Nat.le_trans (Nat.le_add_right n 28) hcn.2⟩ hp 0 h0 rfl rfl ?_
  intro ov wv hpx
  obtain ⟨v, wm, wmr, fsm, pm, rfl, hm, hp2, h02, hk2⟩ := hk ov wv hpx
  refine g_aload_n K.ok dL_law_390 1 rfl rfl ?_
  refine g_arg (k := 1) K hL dL_law_391 dL_law_392 dL_law_393 dL_law_394 dL_law_395 hi (by decide) rfl ?_
  refine g_arg (k := 2) K hL dL_law_396 dL_law_397 dL_law_398 dL_law_399 dL_law_400 hi (by decide) rfl ?_
  refine g_callVC (wc := wm) (wr := wmr) (C := RX3) (As := [.int (xs (i + 1)), .int (xs (i + 2))]) (rest := [.int v]) K.ok hm zKeep_true (fun _ _ => trivial) iX3_join gL_law_X3_join ⟨Nat.le_of_ble_eq_true rfl, Nat.le_of_ble_eq_true rfl⟩ dL_law_401 rfl rfl (Nat.le_of_ble_eq_true rfl) ⟨Nat.le_trans (Nat.le_add_right c 4) hcn.1, Nat.le_trans (Nat.le_add_right n 28) hcn.2⟩ hp2 0 h02 rfl rfl ?_
  intro ov2 wv2 hpm
  obtain ⟨rfl, hJ⟩ := hk2 ov2 wv2 hpm
  exact g_icmp_eq (tgt := 1193) K.ok dL_law_404 rfl (fun _ => hJ) (fun h => absurd rfl h)
theorem wk_table (K : zLw E J nm b L xs) (hL : L ≤ 4096) {x h i : Nat} (hi : i + 8 ≤ L) (hcn : c + 4 ≤ 623441 ∧ n + 28 ≤ 7231924) : WK E J yX2_table wsX2_table rX2_table yX3_table wsX3_table rX3_table Value.long [.int (xs (i + 1)), .int (xs (i + 2)), .int (xs (i + 3)), .int (xs (i + 4))] x h c n (lV b x h i) 409 := by
  intro w wx wxr px fsx hx hp h0 hk
  refine g_aload_n K.ok dL_law_409 2 rfl rfl ?_
  refine g_arg (k := 1) K hL dL_law_410 dL_law_411 dL_law_412 dL_law_413 dL_law_414 hi (by decide) rfl ?_
  refine g_arg (k := 2) K hL dL_law_415 dL_law_416 dL_law_417 dL_law_418 dL_law_419 hi (by decide) rfl ?_
  refine g_arg (k := 3) K hL dL_law_420 dL_law_421 dL_law_422 dL_law_423 dL_law_424 hi (by decide) rfl ?_
  refine g_arg (k := 4) K hL dL_law_425 dL_law_426 dL_law_427 dL_law_428 dL_law_429 hi (by decide) rfl ?_
  refine g_callVC (wc := wx) (wr := wxr) (C := RX2) (As := [.int (xs (i + 1)), .int (xs (i + 2)), .int (xs (i + 3)), .int (xs (i + 4))]) (rest := []) K.ok hx zKeep_true (fun _ _ => trivial) iX2_table gL_law_X2_table ⟨Nat.le_of_ble_eq_true rfl, Nat.le_of_ble_eq_true rfl⟩ dL_law_430 rfl rfl (Nat.le_of_ble_eq_true rfl) ⟨Nat.le_trans (Nat.le_add_right c 4) hcn.1, Nat.le_trans (Nat.le_add_right n 28) hcn.2⟩ hp 0 h0 rfl rfl ?_
  intro ov wv hpx
  obtain ⟨v, wm, wmr, fsm, pm, rfl, hm, hp2, h02, hk2⟩ := hk ov wv hpx
  refine g_aload_n K.ok dL_law_433 1 rfl rfl ?_
  refine g_arg (k := 1) K hL dL_law_434 dL_law_435 dL_law_436 dL_law_437 dL_law_438 hi (by decide) rfl ?_
  refine g_arg (k := 2) K hL dL_law_439 dL_law_440 dL_law_441 dL_law_442 dL_law_443 hi (by decide) rfl ?_
  refine g_arg (k := 3) K hL dL_law_444 dL_law_445 dL_law_446 dL_law_447 dL_law_448 hi (by decide) rfl ?_
  refine g_arg (k := 4) K hL dL_law_449 dL_law_450 dL_law_451 dL_law_452 dL_law_453 hi (by decide) rfl ?_
  refine g_callVC (wc := wm) (wr := wmr) (C := RX3) (As := [.int (xs (i + 1)), .int (xs (i + 2)), .int (xs (i + 3)), .int (xs (i + 4))]) (rest := [.long v]) K.ok hm zKeep_true (fun _ _ => trivial) iX3_table gL_law_X3_table ⟨Nat.le_of_ble_eq_true rfl, Nat.le_of_ble_eq_true rfl⟩ dL_law_454 rfl rfl (Nat.le_of_ble_eq_true rfl) ⟨Nat.le_trans (Nat.le_add_right c 4) hcn.1, Nat.le_trans (Nat.le_add_right n 28) hcn.2⟩ hp2 0 h02 rfl rfl ?_
  intro ov2 wv2 hpm
  obtain ⟨rfl, hJ⟩ := hk2 ov2 wv2 hpm
  exact g_lcmp_eq (tgt := 1193) K.ok dL_law_457 dL_law_458 rfl rfl (fun _ => hJ) (fun h => absurd rfl h)
theorem wk_ray (K : zLw E J nm b L xs) (hL : L ≤ 4096) {x h i : Nat} (hi : i + 8 ≤ L) (hcn : c + 4 ≤ 623441 ∧ n + 28 ≤ 7231924) : WK E J yX2_ray wsX2_ray rX2_ray yX3_ray wsX3_ray rX3_ray Value.long [.int (xs (i + 1)), .int (xs (i + 2)), .int (xs (i + 3)), .int (xs (i + 4)), .int (xs (i + 5)), .int (xs (i + 6)), .int (xs (i + 7))] x h c n (lV b x h i) 463 := by
  intro w wx wxr px fsx hx hp h0 hk
  refine g_aload_n K.ok dL_law_463 2 rfl rfl ?_
  refine g_arg (k := 1) K hL dL_law_464 dL_law_465 dL_law_466 dL_law_467 dL_law_468 hi (by decide) rfl ?_
  refine g_arg (k := 2) K hL dL_law_469 dL_law_470 dL_law_471 dL_law_472 dL_law_473 hi (by decide) rfl ?_
  refine g_arg (k := 3) K hL dL_law_474 dL_law_475 dL_law_476 dL_law_477 dL_law_478 hi (by decide) rfl ?_
  refine g_arg (k := 4) K hL dL_law_479 dL_law_480 dL_law_481 dL_law_482 dL_law_483 hi (by decide) rfl ?_
  refine g_arg (k := 5) K hL dL_law_484 dL_law_485 dL_law_486 dL_law_487 dL_law_488 hi (by decide) rfl ?_
  refine g_argB (k := 6) K hL dL_law_489 dL_law_490 dL_law_491 dL_law_493 dL_law_494 hi (by decide) rfl ?_
  refine g_argB (k := 7) K hL dL_law_495 dL_law_496 dL_law_497 dL_law_499 dL_law_500 hi (by decide) rfl ?_
  refine g_callVC (wc := wx) (wr := wxr) (C := RX2) (As := [.int (xs (i + 1)), .int (xs (i + 2)), .int (xs (i + 3)), .int (xs (i + 4)), .int (xs (i + 5)), .int (xs (i + 6)), .int (xs (i + 7))]) (rest := []) K.ok hx zKeep_true (fun _ _ => trivial) iX2_ray gL_law_X2_ray ⟨Nat.le_of_ble_eq_true rfl, Nat.le_of_ble_eq_true rfl⟩ dL_law_501 rfl rfl (Nat.le_of_ble_eq_true rfl) ⟨Nat.le_trans (Nat.le_add_right c 4) hcn.1, Nat.le_trans (Nat.le_add_right n 28) hcn.2⟩ hp 0 h0 rfl rfl ?_
  intro ov wv hpx
  obtain ⟨v, wm, wmr, fsm, pm, rfl, hm, hp2, h02, hk2⟩ := hk ov wv hpx
  refine g_aload_n K.ok dL_law_504 1 rfl rfl ?_
  refine g_arg (k := 1) K hL dL_law_505 dL_law_506 dL_law_507 dL_law_508 dL_law_509 hi (by decide) rfl ?_
  refine g_arg (k := 2) K hL dL_law_510 dL_law_511 dL_law_512 dL_law_513 dL_law_514 hi (by decide) rfl ?_
  refine g_arg (k := 3) K hL dL_law_515 dL_law_516 dL_law_517 dL_law_518 dL_law_519 hi (by decide) rfl ?_
  refine g_arg (k := 4) K hL dL_law_520 dL_law_521 dL_law_522 dL_law_523 dL_law_524 hi (by decide) rfl ?_
  refine g_arg (k := 5) K hL dL_law_525 dL_law_526 dL_law_527 dL_law_528 dL_law_529 hi (by decide) rfl ?_
  refine g_argB (k := 6) K hL dL_law_530 dL_law_531 dL_law_532 dL_law_534 dL_law_535 hi (by decide) rfl ?_
  refine g_argB (k := 7) K hL dL_law_536 dL_law_537 dL_law_538 dL_law_540 dL_law_541 hi (by decide) rfl ?_
  refine g_callVC (wc := wm) (wr := wmr) (C := RX3) (As := [.int (xs (i + 1)), .int (xs (i + 2)), .int (xs (i + 3)), .int (xs (i + 4)), .int (xs (i + 5)), .int (xs (i + 6)), .int (xs (i + 7))]) (rest := [.long v]) K.ok hm zKeep_true (fun _ _ => trivial) iX3_ray gL_law_X3_ray ⟨Nat.le_of_ble_eq_true rfl, Nat.le_of_ble_eq_true rfl⟩ dL_law_542 rfl rfl (Nat.le_of_ble_eq_true rfl) ⟨Nat.le_trans (Nat.le_add_right c 4) hcn.1, Nat.le_trans (Nat.le_add_right n 28) hcn.2⟩ hp2 0 h02 rfl rfl ?_
  intro ov2 wv2 hpm
  obtain ⟨rfl, hJ⟩ := hk2 ov2 wv2 hpm
  exact g_lcmp_eq (tgt := 1193) K.ok dL_law_545 dL_law_546 rfl rfl (fun _ => hJ) (fun h => absurd rfl h)
theorem wk_stops (K : zLw E J nm b L xs) (hL : L ≤ 4096) {x h i : Nat} (hi : i + 8 ≤ L) (hcn : c + 4 ≤ 623441 ∧ n + 28 ≤ 7231924) : WK E J yX2_stops wsX2_stops rX2_stops yX3_stops wsX3_stops rX3_stops Value.int [.int (xs (i + 1)), .int (xs (i + 2)), .int (xs (i + 3)), .int (xs (i + 4))] x h c n (lV b x h i) 551 := by
  intro w wx wxr px fsx hx hp h0 hk
  refine g_aload_n K.ok dL_law_551 2 rfl rfl ?_
  refine g_arg (k := 1) K hL dL_law_552 dL_law_553 dL_law_554 dL_law_555 dL_law_556 hi (by decide) rfl ?_
  refine g_arg (k := 2) K hL dL_law_557 dL_law_558 dL_law_559 dL_law_560 dL_law_561 hi (by decide) rfl ?_
  refine g_arg (k := 3) K hL dL_law_562 dL_law_563 dL_law_564 dL_law_565 dL_law_566 hi (by decide) rfl ?_
  refine g_arg (k := 4) K hL dL_law_567 dL_law_568 dL_law_569 dL_law_570 dL_law_571 hi (by decide) rfl ?_
  refine g_callVC (wc := wx) (wr := wxr) (C := RX2) (As := [.int (xs (i + 1)), .int (xs (i + 2)), .int (xs (i + 3)), .int (xs (i + 4))]) (rest := []) K.ok hx zKeep_true (fun _ _ => trivial) iX2_stops gL_law_X2_stops ⟨Nat.le_of_ble_eq_true rfl, Nat.le_of_ble_eq_true rfl⟩ dL_law_572 rfl rfl (Nat.le_of_ble_eq_true rfl) ⟨Nat.le_trans (Nat.le_add_right c 4) hcn.1, Nat.le_trans (Nat.le_add_right n 28) hcn.2⟩ hp 0 h0 rfl rfl ?_
  intro ov wv hpx
  obtain ⟨v, wm, wmr, fsm, pm, rfl, hm, hp2, h02, hk2⟩ := hk ov wv hpx
  refine g_aload_n K.ok dL_law_575 1 rfl rfl ?_
  refine g_arg (k := 1) K hL dL_law_576 dL_law_577 dL_law_578 dL_law_579 dL_law_580 hi (by decide) rfl ?_
  refine g_arg (k := 2) K hL dL_law_581 dL_law_582 dL_law_583 dL_law_584 dL_law_585 hi (by decide) rfl ?_
  refine g_arg (k := 3) K hL dL_law_586 dL_law_587 dL_law_588 dL_law_589 dL_law_590 hi (by decide) rfl ?_
  refine g_arg (k := 4) K hL dL_law_591 dL_law_592 dL_law_593 dL_law_594 dL_law_595 hi (by decide) rfl ?_
  refine g_callVC (wc := wm) (wr := wmr) (C := RX3) (As := [.int (xs (i + 1)), .int (xs (i + 2)), .int (xs (i + 3)), .int (xs (i + 4))]) (rest := [.int v]) K.ok hm zKeep_true (fun _ _ => trivial) iX3_stops gL_law_X3_stops ⟨Nat.le_of_ble_eq_true rfl, Nat.le_of_ble_eq_true rfl⟩ dL_law_596 rfl rfl (Nat.le_of_ble_eq_true rfl) ⟨Nat.le_trans (Nat.le_add_right c 4) hcn.1, Nat.le_trans (Nat.le_add_right n 28) hcn.2⟩ hp2 0 h02 rfl rfl ?_
  intro ov2 wv2 hpm
  obtain ⟨rfl, hJ⟩ := hk2 ov2 wv2 hpm
  exact g_icmp_eq (tgt := 1193) K.ok dL_law_599 rfl (fun _ => hJ) (fun h => absurd rfl h)
theorem wk_full (K : zLw E J nm b L xs) (hL : L ≤ 4096) {x h i : Nat} (hi : i + 8 ≤ L) (hcn : c + 4 ≤ 623441 ∧ n + 28 ≤ 7231924) : WK E J yX2_full wsX2_full rX2_full yX3_full wsX3_full rX3_full Value.int [.int (xs (i + 1)), .int (xs (i + 2))] x h c n (lV b x h i) 604 := by
  intro w wx wxr px fsx hx hp h0 hk
  refine g_aload_n K.ok dL_law_604 2 rfl rfl ?_
  refine g_arg (k := 1) K hL dL_law_605 dL_law_606 dL_law_607 dL_law_608 dL_law_609 hi (by decide) rfl ?_
  refine g_arg (k := 2) K hL dL_law_610 dL_law_611 dL_law_612 dL_law_613 dL_law_614 hi (by decide) rfl ?_
  refine g_callVC (wc := wx) (wr := wxr) (C := RX2) (As := [.int (xs (i + 1)), .int (xs (i + 2))]) (rest := []) K.ok hx zKeep_true (fun _ _ => trivial) iX2_full gL_law_X2_full ⟨Nat.le_of_ble_eq_true rfl, Nat.le_of_ble_eq_true rfl⟩ dL_law_615 rfl rfl (Nat.le_of_ble_eq_true rfl) ⟨Nat.le_trans (Nat.le_add_right c 4) hcn.1, Nat.le_trans (Nat.le_add_right n 28) hcn.2⟩ hp 0 h0 rfl rfl ?_
  intro ov wv hpx
  obtain ⟨v, wm, wmr, fsm, pm, rfl, hm, hp2, h02, hk2⟩ := hk ov wv hpx
  refine g_aload_n K.ok dL_law_618 1 rfl rfl ?_
  refine g_arg (k := 1) K hL dL_law_619 dL_law_620 dL_law_621 dL_law_622 dL_law_623 hi (by decide) rfl ?_
  refine g_arg (k := 2) K hL dL_law_624 dL_law_625 dL_law_626 dL_law_627 dL_law_628 hi (by decide) rfl ?_
  refine g_callVC (wc := wm) (wr := wmr) (C := RX3) (As := [.int (xs (i + 1)), .int (xs (i + 2))]) (rest := [.int v]) K.ok hm zKeep_true (fun _ _ => trivial) iX3_full gL_law_X3_full ⟨Nat.le_of_ble_eq_true rfl, Nat.le_of_ble_eq_true rfl⟩ dL_law_629 rfl rfl (Nat.le_of_ble_eq_true rfl) ⟨Nat.le_trans (Nat.le_add_right c 4) hcn.1, Nat.le_trans (Nat.le_add_right n 28) hcn.2⟩ hp2 0 h02 rfl rfl ?_
  intro ov2 wv2 hpm
  obtain ⟨rfl, hJ⟩ := hk2 ov2 wv2 hpm
  exact g_icmp_eq (tgt := 1193) K.ok dL_law_632 rfl (fun _ => hJ) (fun h => absurd rfl h)
theorem wk_image (K : zLw E J nm b L xs) (hL : L ≤ 4096) {x h i : Nat} (hi : i + 8 ≤ L) (hcn : c + 4 ≤ 623441 ∧ n + 28 ≤ 7231924) : WK E J yX2_image wsX2_image rX2_image yX3_image wsX3_image rX3_image Value.long [.int (xs (i + 1)), .int (xs (i + 2)), .int (xs (i + 3)), .int (xs (i + 4))] x h c n (lV b x h i) 637 := by
  intro w wx wxr px fsx hx hp h0 hk
  refine g_aload_n K.ok dL_law_637 2 rfl rfl ?_
  refine g_arg (k := 1) K hL dL_law_638 dL_law_639 dL_law_640 dL_law_641 dL_law_642 hi (by decide) rfl ?_
  refine g_arg (k := 2) K hL dL_law_643 dL_law_644 dL_law_645 dL_law_646 dL_law_647 hi (by decide) rfl ?_
  refine g_arg (k := 3) K hL dL_law_648 dL_law_649 dL_law_650 dL_law_651 dL_law_652 hi (by decide) rfl ?_
  refine g_arg (k := 4) K hL dL_law_653 dL_law_654 dL_law_655 dL_law_656 dL_law_657 hi (by decide) rfl ?_
  refine g_callVC (wc := wx) (wr := wxr) (C := RX2) (As := [.int (xs (i + 1)), .int (xs (i + 2)), .int (xs (i + 3)), .int (xs (i + 4))]) (rest := []) K.ok hx zKeep_true (fun _ _ => trivial) iX2_image gL_law_X2_image ⟨Nat.le_of_ble_eq_true rfl, Nat.le_of_ble_eq_true rfl⟩ dL_law_658 rfl rfl (Nat.le_of_ble_eq_true rfl) ⟨Nat.le_trans (Nat.le_add_right c 4) hcn.1, Nat.le_trans (Nat.le_add_right n 28) hcn.2⟩ hp 0 h0 rfl rfl ?_
  intro ov wv hpx
  obtain ⟨v, wm, wmr, fsm, pm, rfl, hm, hp2, h02, hk2⟩ := hk ov wv hpx
  refine g_aload_n K.ok dL_law_661 1 rfl rfl ?_
  refine g_arg (k := 1) K hL dL_law_662 dL_law_663 dL_law_664 dL_law_665 dL_law_666 hi (by decide) rfl ?_
  refine g_arg (k := 2) K hL dL_law_667 dL_law_668 dL_law_669 dL_law_670 dL_law_671 hi (by decide) rfl ?_
  refine g_arg (k := 3) K hL dL_law_672 dL_law_673 dL_law_674 dL_law_675 dL_law_676 hi (by decide) rfl ?_
  refine g_arg (k := 4) K hL dL_law_677 dL_law_678 dL_law_679 dL_law_680 dL_law_681 hi (by decide) rfl ?_
  refine g_callVC (wc := wm) (wr := wmr) (C := RX3) (As := [.int (xs (i + 1)), .int (xs (i + 2)), .int (xs (i + 3)), .int (xs (i + 4))]) (rest := [.long v]) K.ok hm zKeep_true (fun _ _ => trivial) iX3_image gL_law_X3_image ⟨Nat.le_of_ble_eq_true rfl, Nat.le_of_ble_eq_true rfl⟩ dL_law_682 rfl rfl (Nat.le_of_ble_eq_true rfl) ⟨Nat.le_trans (Nat.le_add_right c 4) hcn.1, Nat.le_trans (Nat.le_add_right n 28) hcn.2⟩ hp2 0 h02 rfl rfl ?_
  intro ov2 wv2 hpm
  obtain ⟨rfl, hJ⟩ := hk2 ov2 wv2 hpm
  exact g_lcmp_eq (tgt := 1193) K.ok dL_law_685 dL_law_686 rfl rfl (fun _ => hJ) (fun h => absurd rfl h)
theorem wk_same (K : zLw E J nm b L xs) (hL : L ≤ 4096) {x h i : Nat} (hi : i + 8 ≤ L) (hcn : c + 4 ≤ 623441 ∧ n + 28 ≤ 7231924) : WK E J yX2_same wsX2_same rX2_same yX3_same wsX3_same rX3_same Value.int [.int (xs (i + 1)), .int (xs (i + 2)), .int (xs (i + 3))] x h c n (lV b x h i) 691 := by
  intro w wx wxr px fsx hx hp h0 hk
  refine g_aload_n K.ok dL_law_691 2 rfl rfl ?_
  refine g_arg (k := 1) K hL dL_law_692 dL_law_693 dL_law_694 dL_law_695 dL_law_696 hi (by decide) rfl ?_
  refine g_arg (k := 2) K hL dL_law_697 dL_law_698 dL_law_699 dL_law_700 dL_law_701 hi (by decide) rfl ?_
  refine g_arg (k := 3) K hL dL_law_702 dL_law_703 dL_law_704 dL_law_705 dL_law_706 hi (by decide) rfl ?_
  refine g_callVC (wc := wx) (wr := wxr) (C := RX2) (As := [.int (xs (i + 1)), .int (xs (i + 2)), .int (xs (i + 3))]) (rest := []) K.ok hx zKeep_true (fun _ _ => trivial) iX2_same gL_law_X2_same ⟨Nat.le_of_ble_eq_true rfl, Nat.le_of_ble_eq_true rfl⟩ dL_law_707 rfl rfl (Nat.le_of_ble_eq_true rfl) ⟨Nat.le_trans (Nat.le_add_right c 4) hcn.1, Nat.le_trans (Nat.le_add_right n 28) hcn.2⟩ hp 0 h0 rfl rfl ?_
  intro ov wv hpx
  obtain ⟨v, wm, wmr, fsm, pm, rfl, hm, hp2, h02, hk2⟩ := hk ov wv hpx
  refine g_aload_n K.ok dL_law_710 1 rfl rfl ?_
  refine g_arg (k := 1) K hL dL_law_711 dL_law_712 dL_law_713 dL_law_714 dL_law_715 hi (by decide) rfl ?_
  refine g_arg (k := 2) K hL dL_law_716 dL_law_717 dL_law_718 dL_law_719 dL_law_720 hi (by decide) rfl ?_
  refine g_arg (k := 3) K hL dL_law_721 dL_law_722 dL_law_723 dL_law_724 dL_law_725 hi (by decide) rfl ?_
  refine g_callVC (wc := wm) (wr := wmr) (C := RX3) (As := [.int (xs (i + 1)), .int (xs (i + 2)), .int (xs (i + 3))]) (rest := [.int v]) K.ok hm zKeep_true (fun _ _ => trivial) iX3_same gL_law_X3_same ⟨Nat.le_of_ble_eq_true rfl, Nat.le_of_ble_eq_true rfl⟩ dL_law_726 rfl rfl (Nat.le_of_ble_eq_true rfl) ⟨Nat.le_trans (Nat.le_add_right c 4) hcn.1, Nat.le_trans (Nat.le_add_right n 28) hcn.2⟩ hp2 0 h02 rfl rfl ?_
  intro ov2 wv2 hpm
  obtain ⟨rfl, hJ⟩ := hk2 ov2 wv2 hpm
  exact g_icmp_eq (tgt := 1193) K.ok dL_law_729 rfl (fun _ => hJ) (fun h => absurd rfl h)
theorem wk_round (K : zLw E J nm b L xs) (hL : L ≤ 4096) {x h i : Nat} (hi : i + 8 ≤ L) (hcn : c + 4 ≤ 623441 ∧ n + 28 ≤ 7231924) : WK E J yX2_round wsX2_round rX2_round yX3_round wsX3_round rX3_round Value.int [.int (xs (i + 1)), .int (xs (i + 2))] x h c n (lV b x h i) 734 := by
  intro w wx wxr px fsx hx hp h0 hk
  refine g_aload_n K.ok dL_law_734 2 rfl rfl ?_
  refine g_arg (k := 1) K hL dL_law_735 dL_law_736 dL_law_737 dL_law_738 dL_law_739 hi (by decide) rfl ?_
  refine g_arg (k := 2) K hL dL_law_740 dL_law_741 dL_law_742 dL_law_743 dL_law_744 hi (by decide) rfl ?_
  refine g_callVC (wc := wx) (wr := wxr) (C := RX2) (As := [.int (xs (i + 1)), .int (xs (i + 2))]) (rest := []) K.ok hx zKeep_true (fun _ _ => trivial) iX2_round gL_law_X2_round ⟨Nat.le_of_ble_eq_true rfl, Nat.le_of_ble_eq_true rfl⟩ dL_law_745 rfl rfl (Nat.le_of_ble_eq_true rfl) ⟨Nat.le_trans (Nat.le_add_right c 4) hcn.1, Nat.le_trans (Nat.le_add_right n 28) hcn.2⟩ hp 0 h0 rfl rfl ?_
  intro ov wv hpx
  obtain ⟨v, wm, wmr, fsm, pm, rfl, hm, hp2, h02, hk2⟩ := hk ov wv hpx
  refine g_aload_n K.ok dL_law_748 1 rfl rfl ?_
  refine g_arg (k := 1) K hL dL_law_749 dL_law_750 dL_law_751 dL_law_752 dL_law_753 hi (by decide) rfl ?_
  refine g_arg (k := 2) K hL dL_law_754 dL_law_755 dL_law_756 dL_law_757 dL_law_758 hi (by decide) rfl ?_
  refine g_callVC (wc := wm) (wr := wmr) (C := RX3) (As := [.int (xs (i + 1)), .int (xs (i + 2))]) (rest := [.int v]) K.ok hm zKeep_true (fun _ _ => trivial) iX3_round gL_law_X3_round ⟨Nat.le_of_ble_eq_true rfl, Nat.le_of_ble_eq_true rfl⟩ dL_law_759 rfl rfl (Nat.le_of_ble_eq_true rfl) ⟨Nat.le_trans (Nat.le_add_right c 4) hcn.1, Nat.le_trans (Nat.le_add_right n 28) hcn.2⟩ hp2 0 h02 rfl rfl ?_
  intro ov2 wv2 hpm
  obtain ⟨rfl, hJ⟩ := hk2 ov2 wv2 hpm
  exact g_icmp_eq (tgt := 1193) K.ok dL_law_762 rfl (fun _ => hJ) (fun h => absurd rfl h)
theorem wk_trace (K : zLw E J nm b L xs) (hL : L ≤ 4096) {x h i : Nat} (hi : i + 8 ≤ L) (hcn : c + 4 ≤ 623441 ∧ n + 28 ≤ 7231924) : WK E J yX2_trace wsX2_trace rX2_trace yX3_trace wsX3_trace rX3_trace Value.long [.int (xs (i + 1)), .int (xs (i + 2)), .int (xs (i + 3))] x h c n (lV b x h i) 767 := by
  intro w wx wxr px fsx hx hp h0 hk
  refine g_aload_n K.ok dL_law_767 2 rfl rfl ?_
  refine g_arg (k := 1) K hL dL_law_768 dL_law_769 dL_law_770 dL_law_771 dL_law_772 hi (by decide) rfl ?_
  refine g_arg (k := 2) K hL dL_law_773 dL_law_774 dL_law_775 dL_law_776 dL_law_777 hi (by decide) rfl ?_
  refine g_arg (k := 3) K hL dL_law_778 dL_law_779 dL_law_780 dL_law_781 dL_law_782 hi (by decide) rfl ?_
  refine g_callVC (wc := wx) (wr := wxr) (C := RX2) (As := [.int (xs (i + 1)), .int (xs (i + 2)), .int (xs (i + 3))]) (rest := []) K.ok hx zKeep_true (fun _ _ => trivial) iX2_trace gL_law_X2_trace ⟨Nat.le_of_ble_eq_true rfl, Nat.le_of_ble_eq_true rfl⟩ dL_law_783 rfl rfl (Nat.le_of_ble_eq_true rfl) ⟨Nat.le_trans (Nat.le_add_right c 4) hcn.1, Nat.le_trans (Nat.le_add_right n 28) hcn.2⟩ hp 0 h0 rfl rfl ?_
  intro ov wv hpx
  obtain ⟨v, wm, wmr, fsm, pm, rfl, hm, hp2, h02, hk2⟩ := hk ov wv hpx
  refine g_aload_n K.ok dL_law_786 1 rfl rfl ?_
  refine g_arg (k := 1) K hL dL_law_787 dL_law_788 dL_law_789 dL_law_790 dL_law_791 hi (by decide) rfl ?_
  refine g_arg (k := 2) K hL dL_law_792 dL_law_793 dL_law_794 dL_law_795 dL_law_796 hi (by decide) rfl ?_
  refine g_arg (k := 3) K hL dL_law_797 dL_law_798 dL_law_799 dL_law_800 dL_law_801 hi (by decide) rfl ?_
  refine g_callVC (wc := wm) (wr := wmr) (C := RX3) (As := [.int (xs (i + 1)), .int (xs (i + 2)), .int (xs (i + 3))]) (rest := [.long v]) K.ok hm zKeep_true (fun _ _ => trivial) iX3_trace gL_law_X3_trace ⟨Nat.le_of_ble_eq_true rfl, Nat.le_of_ble_eq_true rfl⟩ dL_law_802 rfl rfl (Nat.le_of_ble_eq_true rfl) ⟨Nat.le_trans (Nat.le_add_right c 4) hcn.1, Nat.le_trans (Nat.le_add_right n 28) hcn.2⟩ hp2 0 h02 rfl rfl ?_
  intro ov2 wv2 hpm
  obtain ⟨rfl, hJ⟩ := hk2 ov2 wv2 hpm
  exact g_lcmp_eq (tgt := 1193) K.ok dL_law_805 dL_law_806 rfl rfl (fun _ => hJ) (fun h => absurd rfl h)
theorem wk_turns (K : zLw E J nm b L xs) (hL : L ≤ 4096) {x h i : Nat} (hi : i + 8 ≤ L) (hcn : c + 4 ≤ 623441 ∧ n + 28 ≤ 7231924) : WK E J yX2_turns wsX2_turns rX2_turns yX3_turns wsX3_turns rX3_turns Value.int [.int (xs (i + 1)), .int (xs (i + 2))] x h c n (lV b x h i) 811 := by
  intro w wx wxr px fsx hx hp h0 hk
  refine g_aload_n K.ok dL_law_811 2 rfl rfl ?_
  refine g_arg (k := 1) K hL dL_law_812 dL_law_813 dL_law_814 dL_law_815 dL_law_816 hi (by decide) rfl ?_
  refine g_arg (k := 2) K hL dL_law_817 dL_law_818 dL_law_819 dL_law_820 dL_law_821 hi (by decide) rfl ?_
  refine g_callVC (wc := wx) (wr := wxr) (C := RX2) (As := [.int (xs (i + 1)), .int (xs (i + 2))]) (rest := []) K.ok hx zKeep_true (fun _ _ => trivial) iX2_turns gL_law_X2_turns ⟨Nat.le_of_ble_eq_true rfl, Nat.le_of_ble_eq_true rfl⟩ dL_law_822 rfl rfl (Nat.le_of_ble_eq_true rfl) ⟨Nat.le_trans (Nat.le_add_right c 4) hcn.1, Nat.le_trans (Nat.le_add_right n 28) hcn.2⟩ hp 0 h0 rfl rfl ?_
  intro ov wv hpx
  obtain ⟨v, wm, wmr, fsm, pm, rfl, hm, hp2, h02, hk2⟩ := hk ov wv hpx
  refine g_aload_n K.ok dL_law_825 1 rfl rfl ?_
  refine g_arg (k := 1) K hL dL_law_826 dL_law_827 dL_law_828 dL_law_829 dL_law_830 hi (by decide) rfl ?_
  refine g_arg (k := 2) K hL dL_law_831 dL_law_832 dL_law_833 dL_law_834 dL_law_835 hi (by decide) rfl ?_
  refine g_callVC (wc := wm) (wr := wmr) (C := RX3) (As := [.int (xs (i + 1)), .int (xs (i + 2))]) (rest := [.int v]) K.ok hm zKeep_true (fun _ _ => trivial) iX3_turns gL_law_X3_turns ⟨Nat.le_of_ble_eq_true rfl, Nat.le_of_ble_eq_true rfl⟩ dL_law_836 rfl rfl (Nat.le_of_ble_eq_true rfl) ⟨Nat.le_trans (Nat.le_add_right c 4) hcn.1, Nat.le_trans (Nat.le_add_right n 28) hcn.2⟩ hp2 0 h02 rfl rfl ?_
  intro ov2 wv2 hpm
  obtain ⟨rfl, hJ⟩ := hk2 ov2 wv2 hpm
  exact g_icmp_eq (tgt := 1193) K.ok dL_law_839 rfl (fun _ => hJ) (fun h => absurd rfl h)
theorem wk_beam (K : zLw E J nm b L xs) (hL : L ≤ 4096) {x h i : Nat} (hi : i + 8 ≤ L) (hcn : c + 4 ≤ 623441 ∧ n + 28 ≤ 7231924) : WK E J yX2_beam wsX2_beam rX2_beam yX3_beam wsX3_beam rX3_beam Value.long [.int (xs (i + 1)), .int (xs (i + 2)), .int (xs (i + 3)), .int (xs (i + 4)), .int (xs (i + 5))] x h c n (lV b x h i) 844 := by
  intro w wx wxr px fsx hx hp h0 hk
  refine g_aload_n K.ok dL_law_844 2 rfl rfl ?_
  refine g_arg (k := 1) K hL dL_law_845 dL_law_846 dL_law_847 dL_law_848 dL_law_849 hi (by decide) rfl ?_
  refine g_arg (k := 2) K hL dL_law_850 dL_law_851 dL_law_852 dL_law_853 dL_law_854 hi (by decide) rfl ?_
  refine g_arg (k := 3) K hL dL_law_855 dL_law_856 dL_law_857 dL_law_858 dL_law_859 hi (by decide) rfl ?_
  refine g_arg (k := 4) K hL dL_law_860 dL_law_861 dL_law_862 dL_law_863 dL_law_864 hi (by decide) rfl ?_
  refine g_arg (k := 5) K hL dL_law_865 dL_law_866 dL_law_867 dL_law_868 dL_law_869 hi (by decide) rfl ?_
  refine g_callVC (wc := wx) (wr := wxr) (C := RX2) (As := [.int (xs (i + 1)), .int (xs (i + 2)), .int (xs (i + 3)), .int (xs (i + 4)), .int (xs (i + 5))]) (rest := []) K.ok hx zKeep_true (fun _ _ => trivial) iX2_beam gL_law_X2_beam ⟨Nat.le_of_ble_eq_true rfl, Nat.le_of_ble_eq_true rfl⟩ dL_law_870 rfl rfl (Nat.le_of_ble_eq_true rfl) ⟨Nat.le_trans (Nat.le_add_right c 4) hcn.1, Nat.le_trans (Nat.le_add_right n 28) hcn.2⟩ hp 0 h0 rfl rfl ?_
  intro ov wv hpx
  obtain ⟨v, wm, wmr, fsm, pm, rfl, hm, hp2, h02, hk2⟩ := hk ov wv hpx
  refine g_aload_n K.ok dL_law_873 1 rfl rfl ?_
  refine g_arg (k := 1) K hL dL_law_874 dL_law_875 dL_law_876 dL_law_877 dL_law_878 hi (by decide) rfl ?_
  refine g_arg (k := 2) K hL dL_law_879 dL_law_880 dL_law_881 dL_law_882 dL_law_883 hi (by decide) rfl ?_
  refine g_arg (k := 3) K hL dL_law_884 dL_law_885 dL_law_886 dL_law_887 dL_law_888 hi (by decide) rfl ?_
  refine g_arg (k := 4) K hL dL_law_889 dL_law_890 dL_law_891 dL_law_892 dL_law_893 hi (by decide) rfl ?_
  refine g_arg (k := 5) K hL dL_law_894 dL_law_895 dL_law_896 dL_law_897 dL_law_898 hi (by decide) rfl ?_
  refine g_callVC (wc := wm) (wr := wmr) (C := RX3) (As := [.int (xs (i + 1)), .int (xs (i + 2)), .int (xs (i + 3)), .int (xs (i + 4)), .int (xs (i + 5))]) (rest := [.long v]) K.ok hm zKeep_true (fun _ _ => trivial) iX3_beam gL_law_X3_beam ⟨Nat.le_of_ble_eq_true rfl, Nat.le_of_ble_eq_true rfl⟩ dL_law_899 rfl rfl (Nat.le_of_ble_eq_true rfl) ⟨Nat.le_trans (Nat.le_add_right c 4) hcn.1, Nat.le_trans (Nat.le_add_right n 28) hcn.2⟩ hp2 0 h02 rfl rfl ?_
  intro ov2 wv2 hpm
  obtain ⟨rfl, hJ⟩ := hk2 ov2 wv2 hpm
  exact g_lcmp_eq (tgt := 1193) K.ok dL_law_902 dL_law_903 rfl rfl (fun _ => hJ) (fun h => absurd rfl h)
theorem wk_waist (K : zLw E J nm b L xs) (hL : L ≤ 4096) {x h i : Nat} (hi : i + 8 ≤ L) (hcn : c + 4 ≤ 623441 ∧ n + 28 ≤ 7231924) : WK E J yX2_waist wsX2_waist rX2_waist yX3_waist wsX3_waist rX3_waist Value.int [.int (xs (i + 1)), .int (xs (i + 2))] x h c n (lV b x h i) 908 := by
  intro w wx wxr px fsx hx hp h0 hk
  refine g_aload_n K.ok dL_law_908 2 rfl rfl ?_
  refine g_arg (k := 1) K hL dL_law_909 dL_law_910 dL_law_911 dL_law_912 dL_law_913 hi (by decide) rfl ?_
  refine g_arg (k := 2) K hL dL_law_914 dL_law_915 dL_law_916 dL_law_917 dL_law_918 hi (by decide) rfl ?_
  refine g_callVC (wc := wx) (wr := wxr) (C := RX2) (As := [.int (xs (i + 1)), .int (xs (i + 2))]) (rest := []) K.ok hx zKeep_true (fun _ _ => trivial) iX2_waist gL_law_X2_waist ⟨Nat.le_of_ble_eq_true rfl, Nat.le_of_ble_eq_true rfl⟩ dL_law_919 rfl rfl (Nat.le_of_ble_eq_true rfl) ⟨Nat.le_trans (Nat.le_add_right c 4) hcn.1, Nat.le_trans (Nat.le_add_right n 28) hcn.2⟩ hp 0 h0 rfl rfl ?_
  intro ov wv hpx
  obtain ⟨v, wm, wmr, fsm, pm, rfl, hm, hp2, h02, hk2⟩ := hk ov wv hpx
  refine g_aload_n K.ok dL_law_922 1 rfl rfl ?_
  refine g_arg (k := 1) K hL dL_law_923 dL_law_924 dL_law_925 dL_law_926 dL_law_927 hi (by decide) rfl ?_
  refine g_arg (k := 2) K hL dL_law_928 dL_law_929 dL_law_930 dL_law_931 dL_law_932 hi (by decide) rfl ?_
  refine g_callVC (wc := wm) (wr := wmr) (C := RX3) (As := [.int (xs (i + 1)), .int (xs (i + 2))]) (rest := [.int v]) K.ok hm zKeep_true (fun _ _ => trivial) iX3_waist gL_law_X3_waist ⟨Nat.le_of_ble_eq_true rfl, Nat.le_of_ble_eq_true rfl⟩ dL_law_933 rfl rfl (Nat.le_of_ble_eq_true rfl) ⟨Nat.le_trans (Nat.le_add_right c 4) hcn.1, Nat.le_trans (Nat.le_add_right n 28) hcn.2⟩ hp2 0 h02 rfl rfl ?_
  intro ov2 wv2 hpm
  obtain ⟨rfl, hJ⟩ := hk2 ov2 wv2 hpm
  exact g_icmp_eq (tgt := 1193) K.ok dL_law_936 rfl (fun _ => hJ) (fun h => absurd rfl h)
theorem wk_axis (K : zLw E J nm b L xs) (hL : L ≤ 4096) {x h i : Nat} (hi : i + 8 ≤ L) (hcn : c + 4 ≤ 623441 ∧ n + 28 ≤ 7231924) : WK E J yX2_axis wsX2_axis rX2_axis yX3_axis wsX3_axis rX3_axis Value.long [.int (xs (i + 1)), .int (xs (i + 2)), .int (xs (i + 3)), .int (xs (i + 4)), .int (xs (i + 5))] x h c n (lV b x h i) 941 := by
  intro w wx wxr px fsx hx hp h0 hk
  refine g_aload_n K.ok dL_law_941 2 rfl rfl ?_
  refine g_arg (k := 1) K hL dL_law_942 dL_law_943 dL_law_944 dL_law_945 dL_law_946 hi (by decide) rfl ?_
  refine g_arg (k := 2) K hL dL_law_947 dL_law_948 dL_law_949 dL_law_950 dL_law_951 hi (by decide) rfl ?_
  refine g_arg (k := 3) K hL dL_law_952 dL_law_953 dL_law_954 dL_law_955 dL_law_956 hi (by decide) rfl ?_
  refine g_arg (k := 4) K hL dL_law_957 dL_law_958 dL_law_959 dL_law_960 dL_law_961 hi (by decide) rfl ?_
  refine g_arg (k := 5) K hL dL_law_962 dL_law_963 dL_law_964 dL_law_965 dL_law_966 hi (by decide) rfl ?_
  refine g_callVC (wc := wx) (wr := wxr) (C := RX2) (As := [.int (xs (i + 1)), .int (xs (i + 2)), .int (xs (i + 3)), .int (xs (i + 4)), .int (xs (i + 5))]) (rest := []) K.ok hx zKeep_true (fun _ _ => trivial) iX2_axis gL_law_X2_axis ⟨Nat.le_of_ble_eq_true rfl, Nat.le_of_ble_eq_true rfl⟩ dL_law_967 rfl rfl (Nat.le_of_ble_eq_true rfl) ⟨Nat.le_trans (Nat.le_add_right c 4) hcn.1, Nat.le_trans (Nat.le_add_right n 28) hcn.2⟩ hp 0 h0 rfl rfl ?_
  intro ov wv hpx
  obtain ⟨v, wm, wmr, fsm, pm, rfl, hm, hp2, h02, hk2⟩ := hk ov wv hpx
  refine g_aload_n K.ok dL_law_970 1 rfl rfl ?_
  refine g_arg (k := 1) K hL dL_law_971 dL_law_972 dL_law_973 dL_law_974 dL_law_975 hi (by decide) rfl ?_
  refine g_arg (k := 2) K hL dL_law_976 dL_law_977 dL_law_978 dL_law_979 dL_law_980 hi (by decide) rfl ?_
  refine g_arg (k := 3) K hL dL_law_981 dL_law_982 dL_law_983 dL_law_984 dL_law_985 hi (by decide) rfl ?_
  refine g_arg (k := 4) K hL dL_law_986 dL_law_987 dL_law_988 dL_law_989 dL_law_990 hi (by decide) rfl ?_
  refine g_arg (k := 5) K hL dL_law_991 dL_law_992 dL_law_993 dL_law_994 dL_law_995 hi (by decide) rfl ?_
  refine g_callVC (wc := wm) (wr := wmr) (C := RX3) (As := [.int (xs (i + 1)), .int (xs (i + 2)), .int (xs (i + 3)), .int (xs (i + 4)), .int (xs (i + 5))]) (rest := [.long v]) K.ok hm zKeep_true (fun _ _ => trivial) iX3_axis gL_law_X3_axis ⟨Nat.le_of_ble_eq_true rfl, Nat.le_of_ble_eq_true rfl⟩ dL_law_996 rfl rfl (Nat.le_of_ble_eq_true rfl) ⟨Nat.le_trans (Nat.le_add_right c 4) hcn.1, Nat.le_trans (Nat.le_add_right n 28) hcn.2⟩ hp2 0 h02 rfl rfl ?_
  intro ov2 wv2 hpm
  obtain ⟨rfl, hJ⟩ := hk2 ov2 wv2 hpm
  exact g_lcmp_eq (tgt := 1193) K.ok dL_law_999 dL_law_1000 rfl rfl (fun _ => hJ) (fun h => absurd rfl h)
theorem wk_span (K : zLw E J nm b L xs) (hL : L ≤ 4096) {x h i : Nat} (hi : i + 8 ≤ L) (hcn : c + 4 ≤ 623441 ∧ n + 28 ≤ 7231924) : WK E J yX2_span wsX2_span rX2_span yX3_span wsX3_span rX3_span Value.int [.int (xs (i + 1)), .int (xs (i + 2)), .int (xs (i + 3))] x h c n (lV b x h i) 1005 := by
  intro w wx wxr px fsx hx hp h0 hk
  refine g_aload_n K.ok dL_law_1005 2 rfl rfl ?_
  refine g_arg (k := 1) K hL dL_law_1006 dL_law_1007 dL_law_1008 dL_law_1009 dL_law_1010 hi (by decide) rfl ?_
  refine g_arg (k := 2) K hL dL_law_1011 dL_law_1012 dL_law_1013 dL_law_1014 dL_law_1015 hi (by decide) rfl ?_
  refine g_arg (k := 3) K hL dL_law_1016 dL_law_1017 dL_law_1018 dL_law_1019 dL_law_1020 hi (by decide) rfl ?_
  refine g_callVC (wc := wx) (wr := wxr) (C := RX2) (As := [.int (xs (i + 1)), .int (xs (i + 2)), .int (xs (i + 3))]) (rest := []) K.ok hx zKeep_true (fun _ _ => trivial) iX2_span gL_law_X2_span ⟨Nat.le_of_ble_eq_true rfl, Nat.le_of_ble_eq_true rfl⟩ dL_law_1021 rfl rfl (Nat.le_of_ble_eq_true rfl) ⟨Nat.le_trans (Nat.le_add_right c 4) hcn.1, Nat.le_trans (Nat.le_add_right n 28) hcn.2⟩ hp 0 h0 rfl rfl ?_
  intro ov wv hpx
  obtain ⟨v, wm, wmr, fsm, pm, rfl, hm, hp2, h02, hk2⟩ := hk ov wv hpx
  refine g_aload_n K.ok dL_law_1024 1 rfl rfl ?_
  refine g_arg (k := 1) K hL dL_law_1025 dL_law_1026 dL_law_1027 dL_law_1028 dL_law_1029 hi (by decide) rfl ?_
  refine g_arg (k := 2) K hL dL_law_1030 dL_law_1031 dL_law_1032 dL_law_1033 dL_law_1034 hi (by decide) rfl ?_
  refine g_arg (k := 3) K hL dL_law_1035 dL_law_1036 dL_law_1037 dL_law_1038 dL_law_1039 hi (by decide) rfl ?_
  refine g_callVC (wc := wm) (wr := wmr) (C := RX3) (As := [.int (xs (i + 1)), .int (xs (i + 2)), .int (xs (i + 3))]) (rest := [.int v]) K.ok hm zKeep_true (fun _ _ => trivial) iX3_span gL_law_X3_span ⟨Nat.le_of_ble_eq_true rfl, Nat.le_of_ble_eq_true rfl⟩ dL_law_1040 rfl rfl (Nat.le_of_ble_eq_true rfl) ⟨Nat.le_trans (Nat.le_add_right c 4) hcn.1, Nat.le_trans (Nat.le_add_right n 28) hcn.2⟩ hp2 0 h02 rfl rfl ?_
  intro ov2 wv2 hpm
  obtain ⟨rfl, hJ⟩ := hk2 ov2 wv2 hpm
  exact g_icmp_eq (tgt := 1193) K.ok dL_law_1043 rfl (fun _ => hJ) (fun h => absurd rfl h)
theorem wk_own (K : zLw E J nm b L xs) (hL : L ≤ 4096) {x h i : Nat} (hi : i + 8 ≤ L) (hcn : c + 4 ≤ 623441 ∧ n + 28 ≤ 7231924) : WK E J yX2_own wsX2_own rX2_own yX3_own wsX3_own rX3_own Value.int [.int (xs (i + 1))] x h c n (lV b x h i) 1048 := by
  intro w wx wxr px fsx hx hp h0 hk
  refine g_aload_n K.ok dL_law_1048 2 rfl rfl ?_
  refine g_arg (k := 1) K hL dL_law_1049 dL_law_1050 dL_law_1051 dL_law_1052 dL_law_1053 hi (by decide) rfl ?_
  refine g_callVC (wc := wx) (wr := wxr) (C := RX2) (As := [.int (xs (i + 1))]) (rest := []) K.ok hx zKeep_true (fun _ _ => trivial) iX2_own gL_law_X2_own ⟨Nat.le_of_ble_eq_true rfl, Nat.le_of_ble_eq_true rfl⟩ dL_law_1054 rfl rfl (Nat.le_of_ble_eq_true rfl) ⟨Nat.le_trans (Nat.le_add_right c 4) hcn.1, Nat.le_trans (Nat.le_add_right n 28) hcn.2⟩ hp 0 h0 rfl rfl ?_
  intro ov wv hpx
  obtain ⟨v, wm, wmr, fsm, pm, rfl, hm, hp2, h02, hk2⟩ := hk ov wv hpx
  refine g_aload_n K.ok dL_law_1057 1 rfl rfl ?_
  refine g_arg (k := 1) K hL dL_law_1058 dL_law_1059 dL_law_1060 dL_law_1061 dL_law_1062 hi (by decide) rfl ?_
  refine g_callVC (wc := wm) (wr := wmr) (C := RX3) (As := [.int (xs (i + 1))]) (rest := [.int v]) K.ok hm zKeep_true (fun _ _ => trivial) iX3_own gL_law_X3_own ⟨Nat.le_of_ble_eq_true rfl, Nat.le_of_ble_eq_true rfl⟩ dL_law_1063 rfl rfl (Nat.le_of_ble_eq_true rfl) ⟨Nat.le_trans (Nat.le_add_right c 4) hcn.1, Nat.le_trans (Nat.le_add_right n 28) hcn.2⟩ hp2 0 h02 rfl rfl ?_
  intro ov2 wv2 hpm
  obtain ⟨rfl, hJ⟩ := hk2 ov2 wv2 hpm
  exact g_icmp_eq (tgt := 1193) K.ok dL_law_1066 rfl (fun _ => hJ) (fun h => absurd rfl h)
theorem wk_fit (K : zLw E J nm b L xs) (hL : L ≤ 4096) {x h i : Nat} (hi : i + 8 ≤ L) (hcn : c + 4 ≤ 623441 ∧ n + 28 ≤ 7231924) : WK E J yX2_fit wsX2_fit rX2_fit yX3_fit wsX3_fit rX3_fit Value.int [.int (xs (i + 1)), .int (xs (i + 2))] x h c n (lV b x h i) 1071 := by
  intro w wx wxr px fsx hx hp h0 hk
  refine g_aload_n K.ok dL_law_1071 2 rfl rfl ?_
  refine g_arg (k := 1) K hL dL_law_1072 dL_law_1073 dL_law_1074 dL_law_1075 dL_law_1076 hi (by decide) rfl ?_
  refine g_arg (k := 2) K hL dL_law_1077 dL_law_1078 dL_law_1079 dL_law_1080 dL_law_1081 hi (by decide) rfl ?_
  refine g_callVC (wc := wx) (wr := wxr) (C := RX2) (As := [.int (xs (i + 1)), .int (xs (i + 2))]) (rest := []) K.ok hx zKeep_true (fun _ _ => trivial) iX2_fit gL_law_X2_fit ⟨Nat.le_of_ble_eq_true rfl, Nat.le_of_ble_eq_true rfl⟩ dL_law_1082 rfl rfl (Nat.le_of_ble_eq_true rfl) ⟨Nat.le_trans (Nat.le_add_right c 4) hcn.1, Nat.le_trans (Nat.le_add_right n 28) hcn.2⟩ hp 0 h0 rfl rfl ?_
  intro ov wv hpx
  obtain ⟨v, wm, wmr, fsm, pm, rfl, hm, hp2, h02, hk2⟩ := hk ov wv hpx
  refine g_aload_n K.ok dL_law_1085 1 rfl rfl ?_
  refine g_arg (k := 1) K hL dL_law_1086 dL_law_1087 dL_law_1088 dL_law_1089 dL_law_1090 hi (by decide) rfl ?_
  refine g_arg (k := 2) K hL dL_law_1091 dL_law_1092 dL_law_1093 dL_law_1094 dL_law_1095 hi (by decide) rfl ?_
  refine g_callVC (wc := wm) (wr := wmr) (C := RX3) (As := [.int (xs (i + 1)), .int (xs (i + 2))]) (rest := [.int v]) K.ok hm zKeep_true (fun _ _ => trivial) iX3_fit gL_law_X3_fit ⟨Nat.le_of_ble_eq_true rfl, Nat.le_of_ble_eq_true rfl⟩ dL_law_1096 rfl rfl (Nat.le_of_ble_eq_true rfl) ⟨Nat.le_trans (Nat.le_add_right c 4) hcn.1, Nat.le_trans (Nat.le_add_right n 28) hcn.2⟩ hp2 0 h02 rfl rfl ?_
  intro ov2 wv2 hpm
  obtain ⟨rfl, hJ⟩ := hk2 ov2 wv2 hpm
  exact g_icmp_eq (tgt := 1193) K.ok dL_law_1099 rfl (fun _ => hJ) (fun h => absurd rfl h)
theorem wk_swap (K : zLw E J nm b L xs) (hL : L ≤ 4096) {x h i : Nat} (hi : i + 8 ≤ L) (hcn : c + 4 ≤ 623441 ∧ n + 28 ≤ 7231924) : WK E J yX2_swap wsX2_swap rX2_swap yX3_swap wsX3_swap rX3_swap Value.int [.int (xs (i + 1)), .int (xs (i + 2)), .int (xs (i + 3))] x h c n (lV b x h i) 1104 := by
  intro w wx wxr px fsx hx hp h0 hk
  refine g_aload_n K.ok dL_law_1104 2 rfl rfl ?_
  refine g_arg (k := 1) K hL dL_law_1105 dL_law_1106 dL_law_1107 dL_law_1108 dL_law_1109 hi (by decide) rfl ?_
  refine g_arg (k := 2) K hL dL_law_1110 dL_law_1111 dL_law_1112 dL_law_1113 dL_law_1114 hi (by decide) rfl ?_
  refine g_arg (k := 3) K hL dL_law_1115 dL_law_1116 dL_law_1117 dL_law_1118 dL_law_1119 hi (by decide) rfl ?_
  refine g_callVC (wc := wx) (wr := wxr) (C := RX2) (As := [.int (xs (i + 1)), .int (xs (i + 2)), .int (xs (i + 3))]) (rest := []) K.ok hx zKeep_true (fun _ _ => trivial) iX2_swap gL_law_X2_swap ⟨Nat.le_of_ble_eq_true rfl, Nat.le_of_ble_eq_true rfl⟩ dL_law_1120 rfl rfl (Nat.le_of_ble_eq_true rfl) ⟨Nat.le_trans (Nat.le_add_right c 4) hcn.1, Nat.le_trans (Nat.le_add_right n 28) hcn.2⟩ hp 0 h0 rfl rfl ?_
  intro ov wv hpx
  obtain ⟨v, wm, wmr, fsm, pm, rfl, hm, hp2, h02, hk2⟩ := hk ov wv hpx
  refine g_aload_n K.ok dL_law_1123 1 rfl rfl ?_
  refine g_arg (k := 1) K hL dL_law_1124 dL_law_1125 dL_law_1126 dL_law_1127 dL_law_1128 hi (by decide) rfl ?_
  refine g_arg (k := 2) K hL dL_law_1129 dL_law_1130 dL_law_1131 dL_law_1132 dL_law_1133 hi (by decide) rfl ?_
  refine g_arg (k := 3) K hL dL_law_1134 dL_law_1135 dL_law_1136 dL_law_1137 dL_law_1138 hi (by decide) rfl ?_
  refine g_callVC (wc := wm) (wr := wmr) (C := RX3) (As := [.int (xs (i + 1)), .int (xs (i + 2)), .int (xs (i + 3))]) (rest := [.int v]) K.ok hm zKeep_true (fun _ _ => trivial) iX3_swap gL_law_X3_swap ⟨Nat.le_of_ble_eq_true rfl, Nat.le_of_ble_eq_true rfl⟩ dL_law_1139 rfl rfl (Nat.le_of_ble_eq_true rfl) ⟨Nat.le_trans (Nat.le_add_right c 4) hcn.1, Nat.le_trans (Nat.le_add_right n 28) hcn.2⟩ hp2 0 h02 rfl rfl ?_
  intro ov2 wv2 hpm
  obtain ⟨rfl, hJ⟩ := hk2 ov2 wv2 hpm
  exact g_icmp_eq (tgt := 1193) K.ok dL_law_1142 rfl (fun _ => hJ) (fun h => absurd rfl h)
theorem wk_count (K : zLw E J nm b L xs) (hL : L ≤ 4096) {x h i : Nat} (hi : i + 8 ≤ L) (hcn : c + 4 ≤ 623441 ∧ n + 28 ≤ 7231924) : WK E J yX2_count wsX2_count rX2_count yX3_count wsX3_count rX3_count Value.int [.int (xs (i + 1))] x h c n (lV b x h i) 1147 := by
  intro w wx wxr px fsx hx hp h0 hk
  refine g_aload_n K.ok dL_law_1147 2 rfl rfl ?_
  refine g_arg (k := 1) K hL dL_law_1148 dL_law_1149 dL_law_1150 dL_law_1151 dL_law_1152 hi (by decide) rfl ?_
  refine g_callVC (wc := wx) (wr := wxr) (C := RX2) (As := [.int (xs (i + 1))]) (rest := []) K.ok hx zKeep_true (fun _ _ => trivial) iX2_count gL_law_X2_count ⟨Nat.le_of_ble_eq_true rfl, Nat.le_of_ble_eq_true rfl⟩ dL_law_1153 rfl rfl (Nat.le_of_ble_eq_true rfl) ⟨Nat.le_trans (Nat.le_add_right c 4) hcn.1, Nat.le_trans (Nat.le_add_right n 28) hcn.2⟩ hp 0 h0 rfl rfl ?_
  intro ov wv hpx
  obtain ⟨v, wm, wmr, fsm, pm, rfl, hm, hp2, h02, hk2⟩ := hk ov wv hpx
  refine g_aload_n K.ok dL_law_1156 1 rfl rfl ?_
  refine g_arg (k := 1) K hL dL_law_1157 dL_law_1158 dL_law_1159 dL_law_1160 dL_law_1161 hi (by decide) rfl ?_
  refine g_callVC (wc := wm) (wr := wmr) (C := RX3) (As := [.int (xs (i + 1))]) (rest := [.int v]) K.ok hm zKeep_true (fun _ _ => trivial) iX3_count gL_law_X3_count ⟨Nat.le_of_ble_eq_true rfl, Nat.le_of_ble_eq_true rfl⟩ dL_law_1162 rfl rfl (Nat.le_of_ble_eq_true rfl) ⟨Nat.le_trans (Nat.le_add_right c 4) hcn.1, Nat.le_trans (Nat.le_add_right n 28) hcn.2⟩ hp2 0 h02 rfl rfl ?_
  intro ov2 wv2 hpm
  obtain ⟨rfl, hJ⟩ := hk2 ov2 wv2 hpm
  exact g_icmp_eq (tgt := 1193) K.ok dL_law_1165 rfl (fun _ => hJ) (fun h => absurd rfl h)
theorem wk_drawer (K : zLw E J nm b L xs) (hL : L ≤ 4096) {x h i : Nat} (hi : i + 8 ≤ L) (hcn : c + 4 ≤ 623441 ∧ n + 28 ≤ 7231924) : WK E J yX2_drawer wsX2_drawer rX2_drawer yX3_drawer wsX3_drawer rX3_drawer Value.int [.int (xs (i + 1))] x h c n (lV b x h i) 1170 := by
  intro w wx wxr px fsx hx hp h0 hk
  refine g_aload_n K.ok dL_law_1170 2 rfl rfl ?_
  refine g_arg (k := 1) K hL dL_law_1171 dL_law_1172 dL_law_1173 dL_law_1174 dL_law_1175 hi (by decide) rfl ?_
  refine g_callVC (wc := wx) (wr := wxr) (C := RX2) (As := [.int (xs (i + 1))]) (rest := []) K.ok hx zKeep_true (fun _ _ => trivial) iX2_drawer gL_law_X2_drawer ⟨Nat.le_of_ble_eq_true rfl, Nat.le_of_ble_eq_true rfl⟩ dL_law_1176 rfl rfl (Nat.le_of_ble_eq_true rfl) ⟨Nat.le_trans (Nat.le_add_right c 4) hcn.1, Nat.le_trans (Nat.le_add_right n 28) hcn.2⟩ hp 0 h0 rfl rfl ?_
  intro ov wv hpx
  obtain ⟨v, wm, wmr, fsm, pm, rfl, hm, hp2, h02, hk2⟩ := hk ov wv hpx
  refine g_aload_n K.ok dL_law_1179 1 rfl rfl ?_
  refine g_arg (k := 1) K hL dL_law_1180 dL_law_1181 dL_law_1182 dL_law_1183 dL_law_1184 hi (by decide) rfl ?_
  refine g_callVC (wc := wm) (wr := wmr) (C := RX3) (As := [.int (xs (i + 1))]) (rest := [.int v]) K.ok hm zKeep_true (fun _ _ => trivial) iX3_drawer gL_law_X3_drawer ⟨Nat.le_of_ble_eq_true rfl, Nat.le_of_ble_eq_true rfl⟩ dL_law_1185 rfl rfl (Nat.le_of_ble_eq_true rfl) ⟨Nat.le_trans (Nat.le_add_right c 4) hcn.1, Nat.le_trans (Nat.le_add_right n 28) hcn.2⟩ hp2 0 h02 rfl rfl ?_
  intro ov2 wv2 hpm
  obtain ⟨rfl, hJ⟩ := hk2 ov2 wv2 hpm
  exact g_icmp_eq (tgt := 1193) K.ok dL_law_1188 rfl (fun _ => hJ) (fun h => absurd rfl h)
end ZW
