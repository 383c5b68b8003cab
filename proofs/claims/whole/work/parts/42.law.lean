/-! the law: its script, its cases, its loop -/
/-- the script lies at cell 79, outside of what changes -/
def Sx (X : Cx) (L : Nat) (xs : Nat → Int32) : Prop := match X with
  | (p, l, e, R, s, m, args, below, meth, c, D, ad, cy, A, Q, kc, ks) => va_X (ad 79) L xs s s.heap ∧ ad 79 < s.heap.size ∧ ¬ A (ad 79)
section LAW
variable {X : Cx} {cc : ByteArray} {nL fr lo pc : Nat} {own : String} {ls : List (Option Value)} {st stk : List Value} {I : Wo} {L : Nat} {xs : Nat → Int32}
theorem g_sld (B : Fx X cc nL own fr lo) (S : Sx X L xs) (hL : L < 2 ^ 31) {i : Int32} (j : Nat) (he : i = nI j) (hj9 : j < L) (d : decode cc pc = .ok (.iaload, 1)) (kk : GW X nL (pc + 1) ls (.int (xs j) :: st) I) : GW X nL pc ls (.int i :: .ref 79 :: st) I := by
  obtain ⟨p, l, e, R, s, m, args, below, meth, c, D, ad, cy, A, Q, kc, ks⟩ := X
  obtain ⟨⟨hx, hb, hml, hown, hts⟩, hj, hA, hK, hZ, hN, hfr, hlo, hkc, hks⟩ := B
  obtain ⟨hX, hbl, hbA⟩ := S
  intro la H locs hl hP hS
  subst he
  have h := kk la H locs hl hP hS
  have e9 : (nI j).toNatClampNeg = j := nI_clamp (by omega)
  refine va_sld (xs := xs) hx hb hX hbl hbA hS (vp_in_nI hj9 hL) d ?_
  rw [e9]
  exact h
theorem g_xlen (B : Fx X cc nL own fr lo) (S : Sx X L xs) (d : decode cc pc = .ok (.arraylength, 1)) (kk : GW X nL (pc + 1) ls (.int (nI L) :: st) I) : GW X nL pc ls (.ref 79 :: st) I := by
  obtain ⟨p, l, e, R, s, m, args, below, meth, c, D, ad, cy, A, Q, kc, ks⟩ := X
  obtain ⟨⟨hx, hb, hml, hown, hts⟩, hj, hA, hK, hZ, hN, hfr, hlo, hkc, hks⟩ := B
  obtain ⟨hX, hbl, hbA⟩ := S
  intro la H locs hl hP hS
  exact va_slen (xs := xs) hx hb hX hbl hbA hS d (kk la H locs hl hP hS)

theorem lcmp_self (x : Int64) : lg_cmp x x = 0 := by simp [lg_cmp]
set_option maxRecDepth 100000 in
theorem lc_feed (B : Fx X cL_law 4 RL 13 482) (S : Sx X L xs) (hL : L < 2 ^ 31) {i : Nat} (hi : i + 5 ≤ L) (h : Inv I) (k : ∀ u, Inv u → GW X 4 1345 [some (.ref 79), some (.ref 0), some (.ref 57), some (.int (nI i))] [] u) : GW X 4 212 [some (.ref 79), some (.ref 0), some (.ref 57), some (.int (nI i))] [] I := by
  obtain ⟨rr, U, c1, c2⟩ := op_feed h (xs (i + 1))
  refine g_aload_n B dL_law_212 rfl ?_
  refine g_aload_n B dL_law_213 rfl ?_
  refine g_iload_n B dL_law_214 rfl ?_
  refine g_iconst B (v := 1) dL_law_215 (by decide) ?_
  refine g_iadd B dL_law_216 ?_
  refine g_sld B S hL (i + 1) (nI_add i 1) (by omega) dL_law_217 ?_
  refine g_callVI B c1 rfl rfl ml_L_13 mm_X6_feed rfl rfl (Nat.le_of_ble_eq_true rfl) dL_law_218 (by decide) ?_
  rintro _ u ⟨rfl, hU⟩
  refine g_aload_n B dL_law_221 rfl ?_
  refine g_aload_n B dL_law_222 rfl ?_
  refine g_iload_n B dL_law_223 rfl ?_
  refine g_iconst B (v := 1) dL_law_224 (by decide) ?_
  refine g_iadd B dL_law_225 ?_
  refine g_sld B S hL (i + 1) (nI_add i 1) (by omega) dL_law_226 ?_
  refine g_callVI B (c2 u hU) rfl rfl ml_L_17 mm_X7_feed rfl rfl (Nat.le_of_ble_eq_true rfl) dL_law_227 (by decide) ?_
  rintro _ u' ⟨rfl, hI'⟩
  exact g_icmp_eq B 1345 dL_law_230 (by decide) (fun _ => k u' hI') (fun hc => absurd rfl hc)
set_option maxRecDepth 100000 in
theorem lc_end (B : Fx X cL_law 4 RL 13 482) (S : Sx X L xs) (hL : L < 2 ^ 31) {i : Nat} (hi : i + 5 ≤ L) (h : Inv I) (k : ∀ u, Inv u → GW X 4 1345 [some (.ref 79), some (.ref 0), some (.ref 57), some (.int (nI i))] [] u) : GW X 4 235 [some (.ref 79), some (.ref 0), some (.ref 57), some (.int (nI i))] [] I := by
  obtain ⟨rr, U, c1, c2⟩ := op_end h (xs (i + 1))
  refine g_aload_n B dL_law_235 rfl ?_
  refine g_aload_n B dL_law_236 rfl ?_
  refine g_iload_n B dL_law_237 rfl ?_
  refine g_iconst B (v := 1) dL_law_238 (by decide) ?_
  refine g_iadd B dL_law_239 ?_
  refine g_sld B S hL (i + 1) (nI_add i 1) (by omega) dL_law_240 ?_
  refine g_callVI B c1 rfl rfl ml_L_18 mm_X6_end rfl rfl (Nat.le_of_ble_eq_true rfl) dL_law_241 (by decide) ?_
  rintro _ u ⟨rfl, hU⟩
  refine g_aload_n B dL_law_244 rfl ?_
  refine g_aload_n B dL_law_245 rfl ?_
  refine g_iload_n B dL_law_246 rfl ?_
  refine g_iconst B (v := 1) dL_law_247 (by decide) ?_
  refine g_iadd B dL_law_248 ?_
  refine g_sld B S hL (i + 1) (nI_add i 1) (by omega) dL_law_249 ?_
  refine g_callVI B (c2 u hU) rfl rfl ml_L_21 mm_X7_end rfl rfl (Nat.le_of_ble_eq_true rfl) dL_law_250 (by decide) ?_
  rintro _ u' ⟨rfl, hI'⟩
  exact g_icmp_eq B 1345 dL_law_253 (by decide) (fun _ => k u' hI') (fun hc => absurd rfl hc)
set_option maxRecDepth 100000 in
theorem lc_text (B : Fx X cL_law 4 RL 13 482) (S : Sx X L xs) (hL : L < 2 ^ 31) {i : Nat} (hi : i + 5 ≤ L) (h : Inv I) (k : ∀ u, Inv u → GW X 4 1345 [some (.ref 79), some (.ref 0), some (.ref 57), some (.int (nI i))] [] u) : GW X 4 258 [some (.ref 79), some (.ref 0), some (.ref 57), some (.int (nI i))] [] I := by
  obtain ⟨rr, U, c1, c2⟩ := op_text h
  refine g_aload_n B dL_law_258 rfl ?_
  refine g_callVI B c1 rfl rfl ml_L_22 mm_X6_text rfl rfl (Nat.le_of_ble_eq_true rfl) dL_law_259 (by decide) ?_
  rintro _ u ⟨rfl, hU⟩
  refine g_aload_n B dL_law_262 rfl ?_
  refine g_callVI B (c2 u hU) rfl rfl ml_L_26 mm_X7_text rfl rfl (Nat.le_of_ble_eq_true rfl) dL_law_263 (by decide) ?_
  rintro _ u' ⟨rfl, hI'⟩
  exact g_icmp_eq B 1345 dL_law_266 (by decide) (fun _ => k u' hI') (fun hc => absurd rfl hc)
set_option maxRecDepth 100000 in
theorem lc_fault (B : Fx X cL_law 4 RL 13 482) (S : Sx X L xs) (hL : L < 2 ^ 31) {i : Nat} (hi : i + 5 ≤ L) (h : Inv I) (k : ∀ u, Inv u → GW X 4 1345 [some (.ref 79), some (.ref 0), some (.ref 57), some (.int (nI i))] [] u) : GW X 4 271 [some (.ref 79), some (.ref 0), some (.ref 57), some (.int (nI i))] [] I := by
  obtain ⟨rr, U, c1, c2⟩ := op_fault h
  refine g_aload_n B dL_law_271 rfl ?_
  refine g_callVI B c1 rfl rfl ml_L_27 mm_X6_fault rfl rfl (Nat.le_of_ble_eq_true rfl) dL_law_272 (by decide) ?_
  rintro _ u ⟨rfl, hU⟩
  refine g_aload_n B dL_law_275 rfl ?_
  refine g_callVI B (c2 u hU) rfl rfl ml_L_30 mm_X7_fault rfl rfl (Nat.le_of_ble_eq_true rfl) dL_law_276 (by decide) ?_
  rintro _ u' ⟨rfl, hI'⟩
  exact g_icmp_eq B 1345 dL_law_279 (by decide) (fun _ => k u' hI') (fun hc => absurd rfl hc)
set_option maxRecDepth 100000 in
theorem lc_rule (B : Fx X cL_law 4 RL 13 482) (S : Sx X L xs) (hL : L < 2 ^ 31) {i : Nat} (hi : i + 5 ≤ L) (h : Inv I) (k : ∀ u, Inv u → GW X 4 1345 [some (.ref 79), some (.ref 0), some (.ref 57), some (.int (nI i))] [] u) : GW X 4 284 [some (.ref 79), some (.ref 0), some (.ref 57), some (.int (nI i))] [] I := by
  obtain ⟨rr, U, c1, c2⟩ := op_rule h (xs (i + 1))
  refine g_aload_n B dL_law_284 rfl ?_
  refine g_aload_n B dL_law_285 rfl ?_
  refine g_iload_n B dL_law_286 rfl ?_
  refine g_iconst B (v := 1) dL_law_287 (by decide) ?_
  refine g_iadd B dL_law_288 ?_
  refine g_sld B S hL (i + 1) (nI_add i 1) (by omega) dL_law_289 ?_
  refine g_callVI B c1 rfl rfl ml_L_31 mm_X6_rule rfl rfl (Nat.le_of_ble_eq_true rfl) dL_law_290 (by decide) ?_
  rintro _ u ⟨rfl, hU⟩
  refine g_aload_n B dL_law_293 rfl ?_
  refine g_aload_n B dL_law_294 rfl ?_
  refine g_iload_n B dL_law_295 rfl ?_
  refine g_iconst B (v := 1) dL_law_296 (by decide) ?_
  refine g_iadd B dL_law_297 ?_
  refine g_sld B S hL (i + 1) (nI_add i 1) (by omega) dL_law_298 ?_
  refine g_callVI B (c2 u hU) rfl rfl ml_L_34 mm_X7_rule rfl rfl (Nat.le_of_ble_eq_true rfl) dL_law_299 (by decide) ?_
  rintro _ u' ⟨rfl, hI'⟩
  exact g_icmp_eq B 1345 dL_law_302 (by decide) (fun _ => k u' hI') (fun hc => absurd rfl hc)
set_option maxRecDepth 100000 in
theorem lc_claim (B : Fx X cL_law 4 RL 13 482) (S : Sx X L xs) (hL : L < 2 ^ 31) {i : Nat} (hi : i + 5 ≤ L) (h : Inv I) (k : ∀ u, Inv u → GW X 4 1345 [some (.ref 79), some (.ref 0), some (.ref 57), some (.int (nI i))] [] u) : GW X 4 307 [some (.ref 79), some (.ref 0), some (.ref 57), some (.int (nI i))] [] I := by
  obtain ⟨rr, U, c1, c2⟩ := op_claim h (xs (i + 1)) (xs (i + 2))
  refine g_aload_n B dL_law_307 rfl ?_
  refine g_aload_n B dL_law_308 rfl ?_
  refine g_iload_n B dL_law_309 rfl ?_
  refine g_iconst B (v := 1) dL_law_310 (by decide) ?_
  refine g_iadd B dL_law_311 ?_
  refine g_sld B S hL (i + 1) (nI_add i 1) (by omega) dL_law_312 ?_
  refine g_aload_n B dL_law_313 rfl ?_
  refine g_iload_n B dL_law_314 rfl ?_
  refine g_iconst B (v := 2) dL_law_315 (by decide) ?_
  refine g_iadd B dL_law_316 ?_
  refine g_sld B S hL (i + 2) (nI_add i 2) (by omega) dL_law_317 ?_
  refine g_callVI B c1 rfl rfl ml_L_35 mm_X6_claim rfl rfl (Nat.le_of_ble_eq_true rfl) dL_law_318 (by decide) ?_
  rintro _ u ⟨rfl, hU⟩
  refine g_aload_n B dL_law_321 rfl ?_
  refine g_aload_n B dL_law_322 rfl ?_
  refine g_iload_n B dL_law_323 rfl ?_
  refine g_iconst B (v := 1) dL_law_324 (by decide) ?_
  refine g_iadd B dL_law_325 ?_
  refine g_sld B S hL (i + 1) (nI_add i 1) (by omega) dL_law_326 ?_
  refine g_aload_n B dL_law_327 rfl ?_
  refine g_iload_n B dL_law_328 rfl ?_
  refine g_iconst B (v := 2) dL_law_329 (by decide) ?_
  refine g_iadd B dL_law_330 ?_
  refine g_sld B S hL (i + 2) (nI_add i 2) (by omega) dL_law_331 ?_
  refine g_callVI B (c2 u hU) rfl rfl ml_L_39 mm_X7_claim rfl rfl (Nat.le_of_ble_eq_true rfl) dL_law_332 (by decide) ?_
  rintro _ u' ⟨rfl, hI'⟩
  exact g_icmp_eq B 1345 dL_law_335 (by decide) (fun _ => k u' hI') (fun hc => absurd rfl hc)
set_option maxRecDepth 100000 in
theorem lc_plan (B : Fx X cL_law 4 RL 13 482) (S : Sx X L xs) (hL : L < 2 ^ 31) {i : Nat} (hi : i + 5 ≤ L) (h : Inv I) (k : ∀ u, Inv u → GW X 4 1345 [some (.ref 79), some (.ref 0), some (.ref 57), some (.int (nI i))] [] u) : GW X 4 340 [some (.ref 79), some (.ref 0), some (.ref 57), some (.int (nI i))] [] I := by
  obtain ⟨rr, U, c1, c2⟩ := op_plan h (xs (i + 1))
  refine g_aload_n B dL_law_340 rfl ?_
  refine g_aload_n B dL_law_341 rfl ?_
  refine g_iload_n B dL_law_342 rfl ?_
  refine g_iconst B (v := 1) dL_law_343 (by decide) ?_
  refine g_iadd B dL_law_344 ?_
  refine g_sld B S hL (i + 1) (nI_add i 1) (by omega) dL_law_345 ?_
  refine g_callVI B c1 rfl rfl ml_L_40 mm_X6_plan rfl rfl (Nat.le_of_ble_eq_true rfl) dL_law_346 (by decide) ?_
  rintro _ u ⟨rfl, hU⟩
  refine g_aload_n B dL_law_349 rfl ?_
  refine g_aload_n B dL_law_350 rfl ?_
  refine g_iload_n B dL_law_351 rfl ?_
  refine g_iconst B (v := 1) dL_law_352 (by decide) ?_
  refine g_iadd B dL_law_353 ?_
  refine g_sld B S hL (i + 1) (nI_add i 1) (by omega) dL_law_354 ?_
  refine g_callVI B (c2 u hU) rfl rfl ml_L_43 mm_X7_plan rfl rfl (Nat.le_of_ble_eq_true rfl) dL_law_355 (by decide) ?_
  rintro _ u' ⟨rfl, hI'⟩
  exact g_icmp_eq B 1345 dL_law_358 (by decide) (fun _ => k u' hI') (fun hc => absurd rfl hc)
set_option maxRecDepth 100000 in
theorem lc_say (B : Fx X cL_law 4 RL 13 482) (S : Sx X L xs) (hL : L < 2 ^ 31) {i : Nat} (hi : i + 5 ≤ L) (h : Inv I) (k : ∀ u, Inv u → GW X 4 1345 [some (.ref 79), some (.ref 0), some (.ref 57), some (.int (nI i))] [] u) : GW X 4 363 [some (.ref 79), some (.ref 0), some (.ref 57), some (.int (nI i))] [] I := by
  obtain ⟨rr, U, c1, c2⟩ := op_say h (xs (i + 1))
  refine g_aload_n B dL_law_363 rfl ?_
  refine g_aload_n B dL_law_364 rfl ?_
  refine g_iload_n B dL_law_365 rfl ?_
  refine g_iconst B (v := 1) dL_law_366 (by decide) ?_
  refine g_iadd B dL_law_367 ?_
  refine g_sld B S hL (i + 1) (nI_add i 1) (by omega) dL_law_368 ?_
  refine g_callVI B c1 rfl rfl ml_L_44 mm_X6_say rfl rfl (Nat.le_of_ble_eq_true rfl) dL_law_369 (by decide) ?_
  rintro _ u ⟨rfl, hU⟩
  refine g_aload_n B dL_law_372 rfl ?_
  refine g_aload_n B dL_law_373 rfl ?_
  refine g_iload_n B dL_law_374 rfl ?_
  refine g_iconst B (v := 1) dL_law_375 (by decide) ?_
  refine g_iadd B dL_law_376 ?_
  refine g_sld B S hL (i + 1) (nI_add i 1) (by omega) dL_law_377 ?_
  refine g_callVI B (c2 u hU) rfl rfl ml_L_47 mm_X7_say rfl rfl (Nat.le_of_ble_eq_true rfl) dL_law_378 (by decide) ?_
  rintro _ u' ⟨rfl, hI'⟩
  exact g_icmp_eq B 1345 dL_law_381 (by decide) (fun _ => k u' hI') (fun hc => absurd rfl hc)
set_option maxRecDepth 100000 in
theorem lc_drop (B : Fx X cL_law 4 RL 13 482) (S : Sx X L xs) (hL : L < 2 ^ 31) {i : Nat} (hi : i + 5 ≤ L) (h : Inv I) (k : ∀ u, Inv u → GW X 4 1345 [some (.ref 79), some (.ref 0), some (.ref 57), some (.int (nI i))] [] u) : GW X 4 386 [some (.ref 79), some (.ref 0), some (.ref 57), some (.int (nI i))] [] I := by
  obtain ⟨rr, U, c1, c2⟩ := op_drop h (xs (i + 1))
  refine g_aload_n B dL_law_386 rfl ?_
  refine g_aload_n B dL_law_387 rfl ?_
  refine g_iload_n B dL_law_388 rfl ?_
  refine g_iconst B (v := 1) dL_law_389 (by decide) ?_
  refine g_iadd B dL_law_390 ?_
  refine g_sld B S hL (i + 1) (nI_add i 1) (by omega) dL_law_391 ?_
  refine g_callVI B c1 rfl rfl ml_L_48 mm_X6_drop rfl rfl (Nat.le_of_ble_eq_true rfl) dL_law_392 (by decide) ?_
  rintro _ u ⟨rfl, hU⟩
  refine g_aload_n B dL_law_395 rfl ?_
  refine g_aload_n B dL_law_396 rfl ?_
  refine g_iload_n B dL_law_397 rfl ?_
  refine g_iconst B (v := 1) dL_law_398 (by decide) ?_
  refine g_iadd B dL_law_399 ?_
  refine g_sld B S hL (i + 1) (nI_add i 1) (by omega) dL_law_400 ?_
  refine g_callVI B (c2 u hU) rfl rfl ml_L_51 mm_X7_drop rfl rfl (Nat.le_of_ble_eq_true rfl) dL_law_401 (by decide) ?_
  rintro _ u' ⟨rfl, hI'⟩
  exact g_icmp_eq B 1345 dL_law_404 (by decide) (fun _ => k u' hI') (fun hc => absurd rfl hc)
set_option maxRecDepth 100000 in
theorem lc_day (B : Fx X cL_law 4 RL 13 482) (S : Sx X L xs) (hL : L < 2 ^ 31) {i : Nat} (hi : i + 5 ≤ L) (h : Inv I) (k : ∀ u, Inv u → GW X 4 1345 [some (.ref 79), some (.ref 0), some (.ref 57), some (.int (nI i))] [] u) : GW X 4 409 [some (.ref 79), some (.ref 0), some (.ref 57), some (.int (nI i))] [] I := by
  obtain ⟨rr, U, c1, c2⟩ := op_day h (xs (i + 1))
  refine g_aload_n B dL_law_409 rfl ?_
  refine g_aload_n B dL_law_410 rfl ?_
  refine g_iload_n B dL_law_411 rfl ?_
  refine g_iconst B (v := 1) dL_law_412 (by decide) ?_
  refine g_iadd B dL_law_413 ?_
  refine g_sld B S hL (i + 1) (nI_add i 1) (by omega) dL_law_414 ?_
  refine g_callVI B c1 rfl rfl ml_L_52 mm_X6_day rfl rfl (Nat.le_of_ble_eq_true rfl) dL_law_415 (by decide) ?_
  rintro _ u ⟨rfl, hU⟩
  refine g_aload_n B dL_law_418 rfl ?_
  refine g_aload_n B dL_law_419 rfl ?_
  refine g_iload_n B dL_law_420 rfl ?_
  refine g_iconst B (v := 1) dL_law_421 (by decide) ?_
  refine g_iadd B dL_law_422 ?_
  refine g_sld B S hL (i + 1) (nI_add i 1) (by omega) dL_law_423 ?_
  refine g_callVI B (c2 u hU) rfl rfl ml_L_55 mm_X7_day rfl rfl (Nat.le_of_ble_eq_true rfl) dL_law_424 (by decide) ?_
  rintro _ u' ⟨rfl, hI'⟩
  exact g_icmp_eq B 1345 dL_law_427 (by decide) (fun _ => k u' hI') (fun hc => absurd rfl hc)
set_option maxRecDepth 100000 in
theorem lc_aim (B : Fx X cL_law 4 RL 13 482) (S : Sx X L xs) (hL : L < 2 ^ 31) {i : Nat} (hi : i + 5 ≤ L) (h : Inv I) (k : ∀ u, Inv u → GW X 4 1345 [some (.ref 79), some (.ref 0), some (.ref 57), some (.int (nI i))] [] u) : GW X 4 432 [some (.ref 79), some (.ref 0), some (.ref 57), some (.int (nI i))] [] I := by
  obtain ⟨rr, U, c1, c2⟩ := op_aim h (xs (i + 1))
  refine g_aload_n B dL_law_432 rfl ?_
  refine g_aload_n B dL_law_433 rfl ?_
  refine g_iload_n B dL_law_434 rfl ?_
  refine g_iconst B (v := 1) dL_law_435 (by decide) ?_
  refine g_iadd B dL_law_436 ?_
  refine g_sld B S hL (i + 1) (nI_add i 1) (by omega) dL_law_437 ?_
  refine g_callVI B c1 rfl rfl ml_L_56 mm_X6_aim rfl rfl (Nat.le_of_ble_eq_true rfl) dL_law_438 (by decide) ?_
  rintro _ u ⟨rfl, hU⟩
  refine g_aload_n B dL_law_441 rfl ?_
  refine g_aload_n B dL_law_442 rfl ?_
  refine g_iload_n B dL_law_443 rfl ?_
  refine g_iconst B (v := 1) dL_law_444 (by decide) ?_
  refine g_iadd B dL_law_445 ?_
  refine g_sld B S hL (i + 1) (nI_add i 1) (by omega) dL_law_446 ?_
  refine g_callVI B (c2 u hU) rfl rfl ml_L_59 mm_X7_aim rfl rfl (Nat.le_of_ble_eq_true rfl) dL_law_447 (by decide) ?_
  rintro _ u' ⟨rfl, hI'⟩
  exact g_icmp_eq B 1345 dL_law_450 (by decide) (fun _ => k u' hI') (fun hc => absurd rfl hc)
set_option maxRecDepth 100000 in
theorem lc_leans (B : Fx X cL_law 4 RL 13 482) (S : Sx X L xs) (hL : L < 2 ^ 31) {i : Nat} (hi : i + 5 ≤ L) (h : Inv I) (k : ∀ u, Inv u → GW X 4 1345 [some (.ref 79), some (.ref 0), some (.ref 57), some (.int (nI i))] [] u) : GW X 4 455 [some (.ref 79), some (.ref 0), some (.ref 57), some (.int (nI i))] [] I := by
  by_cases z3 : xs (i + 3) = 0
  · obtain ⟨rr, U, c1, c2⟩ := op_leans h (xs (i + 1)) (xs (i + 2)) false
    refine g_aload_n B dL_law_455 rfl ?_
    refine g_aload_n B dL_law_456 rfl ?_
    refine g_iload_n B dL_law_457 rfl ?_
    refine g_iconst B (v := 1) dL_law_458 (by decide) ?_
    refine g_iadd B dL_law_459 ?_
    refine g_sld B S hL (i + 1) (nI_add i 1) (by omega) dL_law_460 ?_
    refine g_aload_n B dL_law_461 rfl ?_
    refine g_iload_n B dL_law_462 rfl ?_
    refine g_iconst B (v := 2) dL_law_463 (by decide) ?_
    refine g_iadd B dL_law_464 ?_
    refine g_sld B S hL (i + 2) (nI_add i 2) (by omega) dL_law_465 ?_
    refine g_aload_n B dL_law_466 rfl ?_
    refine g_iload_n B dL_law_467 rfl ?_
    refine g_iconst B (v := 3) dL_law_468 (by decide) ?_
    refine g_iadd B dL_law_469 ?_
    refine g_sld B S hL (i + 3) (nI_add i 3) (by omega) dL_law_470 ?_
    refine g_if_eq B 478 dL_law_471 (by decide) (fun _ => ?_) (fun hc => absurd z3 hc)
    refine g_iconst B (v := 0) dL_law_478 (by decide) ?_
    refine g_callVI B c1 rfl rfl ml_L_60 mm_X6_leans rfl rfl (Nat.le_of_ble_eq_true rfl) dL_law_479 (by decide) ?_
    rintro _ u ⟨rfl, hU⟩
    refine g_aload_n B dL_law_482 rfl ?_
    refine g_aload_n B dL_law_483 rfl ?_
    refine g_iload_n B dL_law_484 rfl ?_
    refine g_iconst B (v := 1) dL_law_485 (by decide) ?_
    refine g_iadd B dL_law_486 ?_
    refine g_sld B S hL (i + 1) (nI_add i 1) (by omega) dL_law_487 ?_
    refine g_aload_n B dL_law_488 rfl ?_
    refine g_iload_n B dL_law_489 rfl ?_
    refine g_iconst B (v := 2) dL_law_490 (by decide) ?_
    refine g_iadd B dL_law_491 ?_
    refine g_sld B S hL (i + 2) (nI_add i 2) (by omega) dL_law_492 ?_
    refine g_aload_n B dL_law_493 rfl ?_
    refine g_iload_n B dL_law_494 rfl ?_
    refine g_iconst B (v := 3) dL_law_495 (by decide) ?_
    refine g_iadd B dL_law_496 ?_
    refine g_sld B S hL (i + 3) (nI_add i 3) (by omega) dL_law_497 ?_
    refine g_if_eq B 505 dL_law_498 (by decide) (fun _ => ?_) (fun hc => absurd z3 hc)
    refine g_iconst B (v := 0) dL_law_505 (by decide) ?_
    refine g_callVI B (c2 u hU) rfl rfl ml_L_64 mm_X7_leans rfl rfl (Nat.le_of_ble_eq_true rfl) dL_law_506 (by decide) ?_
    rintro _ u' ⟨rfl, hI'⟩
    exact g_icmp_eq B 1345 dL_law_509 (by decide) (fun _ => k u' hI') (fun hc => absurd rfl hc)
  · obtain ⟨rr, U, c1, c2⟩ := op_leans h (xs (i + 1)) (xs (i + 2)) true
    refine g_aload_n B dL_law_455 rfl ?_
    refine g_aload_n B dL_law_456 rfl ?_
    refine g_iload_n B dL_law_457 rfl ?_
    refine g_iconst B (v := 1) dL_law_458 (by decide) ?_
    refine g_iadd B dL_law_459 ?_
    refine g_sld B S hL (i + 1) (nI_add i 1) (by omega) dL_law_460 ?_
    refine g_aload_n B dL_law_461 rfl ?_
    refine g_iload_n B dL_law_462 rfl ?_
    refine g_iconst B (v := 2) dL_law_463 (by decide) ?_
    refine g_iadd B dL_law_464 ?_
    refine g_sld B S hL (i + 2) (nI_add i 2) (by omega) dL_law_465 ?_
    refine g_aload_n B dL_law_466 rfl ?_
    refine g_iload_n B dL_law_467 rfl ?_
    refine g_iconst B (v := 3) dL_law_468 (by decide) ?_
    refine g_iadd B dL_law_469 ?_
    refine g_sld B S hL (i + 3) (nI_add i 3) (by omega) dL_law_470 ?_
    refine g_if_eq B 478 dL_law_471 (by decide) (fun hc => absurd hc z3) (fun _ => ?_)
    refine g_iconst B (v := 1) dL_law_474 (by decide) ?_
    refine g_goto B 479 dL_law_475 (by decide) ?_
    refine g_callVI B c1 rfl rfl ml_L_60 mm_X6_leans rfl rfl (Nat.le_of_ble_eq_true rfl) dL_law_479 (by decide) ?_
    rintro _ u ⟨rfl, hU⟩
    refine g_aload_n B dL_law_482 rfl ?_
    refine g_aload_n B dL_law_483 rfl ?_
    refine g_iload_n B dL_law_484 rfl ?_
    refine g_iconst B (v := 1) dL_law_485 (by decide) ?_
    refine g_iadd B dL_law_486 ?_
    refine g_sld B S hL (i + 1) (nI_add i 1) (by omega) dL_law_487 ?_
    refine g_aload_n B dL_law_488 rfl ?_
    refine g_iload_n B dL_law_489 rfl ?_
    refine g_iconst B (v := 2) dL_law_490 (by decide) ?_
    refine g_iadd B dL_law_491 ?_
    refine g_sld B S hL (i + 2) (nI_add i 2) (by omega) dL_law_492 ?_
    refine g_aload_n B dL_law_493 rfl ?_
    refine g_iload_n B dL_law_494 rfl ?_
    refine g_iconst B (v := 3) dL_law_495 (by decide) ?_
    refine g_iadd B dL_law_496 ?_
    refine g_sld B S hL (i + 3) (nI_add i 3) (by omega) dL_law_497 ?_
    refine g_if_eq B 505 dL_law_498 (by decide) (fun hc => absurd hc z3) (fun _ => ?_)
    refine g_iconst B (v := 1) dL_law_501 (by decide) ?_
    refine g_goto B 506 dL_law_502 (by decide) ?_
    refine g_callVI B (c2 u hU) rfl rfl ml_L_64 mm_X7_leans rfl rfl (Nat.le_of_ble_eq_true rfl) dL_law_506 (by decide) ?_
    rintro _ u' ⟨rfl, hI'⟩
    exact g_icmp_eq B 1345 dL_law_509 (by decide) (fun _ => k u' hI') (fun hc => absurd rfl hc)
set_option maxRecDepth 100000 in
theorem lc_falls (B : Fx X cL_law 4 RL 13 482) (S : Sx X L xs) (hL : L < 2 ^ 31) {i : Nat} (hi : i + 5 ≤ L) (h : Inv I) (k : ∀ u, Inv u → GW X 4 1345 [some (.ref 79), some (.ref 0), some (.ref 57), some (.int (nI i))] [] u) : GW X 4 514 [some (.ref 79), some (.ref 0), some (.ref 57), some (.int (nI i))] [] I := by
  by_cases z3 : xs (i + 3) = 0
  · obtain ⟨rr, U, c1, c2⟩ := op_falls h (xs (i + 1)) (xs (i + 2)) false
    refine g_aload_n B dL_law_514 rfl ?_
    refine g_aload_n B dL_law_515 rfl ?_
    refine g_iload_n B dL_law_516 rfl ?_
    refine g_iconst B (v := 1) dL_law_517 (by decide) ?_
    refine g_iadd B dL_law_518 ?_
    refine g_sld B S hL (i + 1) (nI_add i 1) (by omega) dL_law_519 ?_
    refine g_aload_n B dL_law_520 rfl ?_
    refine g_iload_n B dL_law_521 rfl ?_
    refine g_iconst B (v := 2) dL_law_522 (by decide) ?_
    refine g_iadd B dL_law_523 ?_
    refine g_sld B S hL (i + 2) (nI_add i 2) (by omega) dL_law_524 ?_
    refine g_aload_n B dL_law_525 rfl ?_
    refine g_iload_n B dL_law_526 rfl ?_
    refine g_iconst B (v := 3) dL_law_527 (by decide) ?_
    refine g_iadd B dL_law_528 ?_
    refine g_sld B S hL (i + 3) (nI_add i 3) (by omega) dL_law_529 ?_
    refine g_if_eq B 537 dL_law_530 (by decide) (fun _ => ?_) (fun hc => absurd z3 hc)
    refine g_iconst B (v := 0) dL_law_537 (by decide) ?_
    refine g_callVI B c1 rfl rfl ml_L_65 mm_X6_falls rfl rfl (Nat.le_of_ble_eq_true rfl) dL_law_538 (by decide) ?_
    rintro _ u ⟨rfl, hU⟩
    refine g_aload_n B dL_law_541 rfl ?_
    refine g_aload_n B dL_law_542 rfl ?_
    refine g_iload_n B dL_law_543 rfl ?_
    refine g_iconst B (v := 1) dL_law_544 (by decide) ?_
    refine g_iadd B dL_law_545 ?_
    refine g_sld B S hL (i + 1) (nI_add i 1) (by omega) dL_law_546 ?_
    refine g_aload_n B dL_law_547 rfl ?_
    refine g_iload_n B dL_law_548 rfl ?_
    refine g_iconst B (v := 2) dL_law_549 (by decide) ?_
    refine g_iadd B dL_law_550 ?_
    refine g_sld B S hL (i + 2) (nI_add i 2) (by omega) dL_law_551 ?_
    refine g_aload_n B dL_law_552 rfl ?_
    refine g_iload_n B dL_law_553 rfl ?_
    refine g_iconst B (v := 3) dL_law_554 (by decide) ?_
    refine g_iadd B dL_law_555 ?_
    refine g_sld B S hL (i + 3) (nI_add i 3) (by omega) dL_law_556 ?_
    refine g_if_eq B 564 dL_law_557 (by decide) (fun _ => ?_) (fun hc => absurd z3 hc)
    refine g_iconst B (v := 0) dL_law_564 (by decide) ?_
    refine g_callVI B (c2 u hU) rfl rfl ml_L_68 mm_X7_falls rfl rfl (Nat.le_of_ble_eq_true rfl) dL_law_565 (by decide) ?_
    rintro _ u' ⟨rfl, hI'⟩
    exact g_icmp_eq B 1345 dL_law_568 (by decide) (fun _ => k u' hI') (fun hc => absurd rfl hc)
  · obtain ⟨rr, U, c1, c2⟩ := op_falls h (xs (i + 1)) (xs (i + 2)) true
    refine g_aload_n B dL_law_514 rfl ?_
    refine g_aload_n B dL_law_515 rfl ?_
    refine g_iload_n B dL_law_516 rfl ?_
    refine g_iconst B (v := 1) dL_law_517 (by decide) ?_
    refine g_iadd B dL_law_518 ?_
    refine g_sld B S hL (i + 1) (nI_add i 1) (by omega) dL_law_519 ?_
    refine g_aload_n B dL_law_520 rfl ?_
    refine g_iload_n B dL_law_521 rfl ?_
    refine g_iconst B (v := 2) dL_law_522 (by decide) ?_
    refine g_iadd B dL_law_523 ?_
    refine g_sld B S hL (i + 2) (nI_add i 2) (by omega) dL_law_524 ?_
    refine g_aload_n B dL_law_525 rfl ?_
    refine g_iload_n B dL_law_526 rfl ?_
    refine g_iconst B (v := 3) dL_law_527 (by decide) ?_
    refine g_iadd B dL_law_528 ?_
    refine g_sld B S hL (i + 3) (nI_add i 3) (by omega) dL_law_529 ?_
    refine g_if_eq B 537 dL_law_530 (by decide) (fun hc => absurd hc z3) (fun _ => ?_)
    refine g_iconst B (v := 1) dL_law_533 (by decide) ?_
    refine g_goto B 538 dL_law_534 (by decide) ?_
    refine g_callVI B c1 rfl rfl ml_L_65 mm_X6_falls rfl rfl (Nat.le_of_ble_eq_true rfl) dL_law_538 (by decide) ?_
    rintro _ u ⟨rfl, hU⟩
    refine g_aload_n B dL_law_541 rfl ?_
    refine g_aload_n B dL_law_542 rfl ?_
    refine g_iload_n B dL_law_543 rfl ?_
    refine g_iconst B (v := 1) dL_law_544 (by decide) ?_
    refine g_iadd B dL_law_545 ?_
    refine g_sld B S hL (i + 1) (nI_add i 1) (by omega) dL_law_546 ?_
    refine g_aload_n B dL_law_547 rfl ?_
    refine g_iload_n B dL_law_548 rfl ?_
    refine g_iconst B (v := 2) dL_law_549 (by decide) ?_
    refine g_iadd B dL_law_550 ?_
    refine g_sld B S hL (i + 2) (nI_add i 2) (by omega) dL_law_551 ?_
    refine g_aload_n B dL_law_552 rfl ?_
    refine g_iload_n B dL_law_553 rfl ?_
    refine g_iconst B (v := 3) dL_law_554 (by decide) ?_
    refine g_iadd B dL_law_555 ?_
    refine g_sld B S hL (i + 3) (nI_add i 3) (by omega) dL_law_556 ?_
    refine g_if_eq B 564 dL_law_557 (by decide) (fun hc => absurd hc z3) (fun _ => ?_)
    refine g_iconst B (v := 1) dL_law_560 (by decide) ?_
    refine g_goto B 565 dL_law_561 (by decide) ?_
    refine g_callVI B (c2 u hU) rfl rfl ml_L_68 mm_X7_falls rfl rfl (Nat.le_of_ble_eq_true rfl) dL_law_565 (by decide) ?_
    rintro _ u' ⟨rfl, hI'⟩
    exact g_icmp_eq B 1345 dL_law_568 (by decide) (fun _ => k u' hI') (fun hc => absurd rfl hc)
set_option maxRecDepth 100000 in
theorem lc_yards (B : Fx X cL_law 4 RL 13 482) (S : Sx X L xs) (hL : L < 2 ^ 31) {i : Nat} (hi : i + 5 ≤ L) (h : Inv I) (k : ∀ u, Inv u → GW X 4 1345 [some (.ref 79), some (.ref 0), some (.ref 57), some (.int (nI i))] [] u) : GW X 4 573 [some (.ref 79), some (.ref 0), some (.ref 57), some (.int (nI i))] [] I := by
  obtain ⟨rr, U, c1, c2⟩ := op_yards h (xs (i + 1)) (xs (i + 2))
  refine g_aload_n B dL_law_573 rfl ?_
  refine g_aload_n B dL_law_574 rfl ?_
  refine g_iload_n B dL_law_575 rfl ?_
  refine g_iconst B (v := 1) dL_law_576 (by decide) ?_
  refine g_iadd B dL_law_577 ?_
  refine g_sld B S hL (i + 1) (nI_add i 1) (by omega) dL_law_578 ?_
  refine g_aload_n B dL_law_579 rfl ?_
  refine g_iload_n B dL_law_580 rfl ?_
  refine g_iconst B (v := 2) dL_law_581 (by decide) ?_
  refine g_iadd B dL_law_582 ?_
  refine g_sld B S hL (i + 2) (nI_add i 2) (by omega) dL_law_583 ?_
  refine g_callVI B c1 rfl rfl ml_L_69 mm_X6_yards rfl rfl (Nat.le_of_ble_eq_true rfl) dL_law_584 (by decide) ?_
  rintro _ u ⟨rfl, hU⟩
  refine g_aload_n B dL_law_587 rfl ?_
  refine g_aload_n B dL_law_588 rfl ?_
  refine g_iload_n B dL_law_589 rfl ?_
  refine g_iconst B (v := 1) dL_law_590 (by decide) ?_
  refine g_iadd B dL_law_591 ?_
  refine g_sld B S hL (i + 1) (nI_add i 1) (by omega) dL_law_592 ?_
  refine g_aload_n B dL_law_593 rfl ?_
  refine g_iload_n B dL_law_594 rfl ?_
  refine g_iconst B (v := 2) dL_law_595 (by decide) ?_
  refine g_iadd B dL_law_596 ?_
  refine g_sld B S hL (i + 2) (nI_add i 2) (by omega) dL_law_597 ?_
  refine g_callVI B (c2 u hU) rfl rfl ml_L_72 mm_X7_yards rfl rfl (Nat.le_of_ble_eq_true rfl) dL_law_598 (by decide) ?_
  rintro _ u' ⟨rfl, hI'⟩
  exact g_icmp_eq B 1345 dL_law_601 (by decide) (fun _ => k u' hI') (fun hc => absurd rfl hc)
set_option maxRecDepth 100000 in
theorem lc_plans (B : Fx X cL_law 4 RL 13 482) (S : Sx X L xs) (hL : L < 2 ^ 31) {i : Nat} (hi : i + 5 ≤ L) (h : Inv I) (k : ∀ u, Inv u → GW X 4 1345 [some (.ref 79), some (.ref 0), some (.ref 57), some (.int (nI i))] [] u) : GW X 4 606 [some (.ref 79), some (.ref 0), some (.ref 57), some (.int (nI i))] [] I := by
  obtain ⟨rr, U, c1, c2⟩ := op_plans h (xs (i + 1))
  refine g_aload_n B dL_law_606 rfl ?_
  refine g_aload_n B dL_law_607 rfl ?_
  refine g_iload_n B dL_law_608 rfl ?_
  refine g_iconst B (v := 1) dL_law_609 (by decide) ?_
  refine g_iadd B dL_law_610 ?_
  refine g_sld B S hL (i + 1) (nI_add i 1) (by omega) dL_law_611 ?_
  refine g_callVI B c1 rfl rfl ml_L_73 mm_X6_plans rfl rfl (Nat.le_of_ble_eq_true rfl) dL_law_612 (by decide) ?_
  rintro _ u ⟨rfl, hU⟩
  refine g_aload_n B dL_law_615 rfl ?_
  refine g_aload_n B dL_law_616 rfl ?_
  refine g_iload_n B dL_law_617 rfl ?_
  refine g_iconst B (v := 1) dL_law_618 (by decide) ?_
  refine g_iadd B dL_law_619 ?_
  refine g_sld B S hL (i + 1) (nI_add i 1) (by omega) dL_law_620 ?_
  refine g_callVI B (c2 u hU) rfl rfl ml_L_76 mm_X7_plans rfl rfl (Nat.le_of_ble_eq_true rfl) dL_law_621 (by decide) ?_
  rintro _ u' ⟨rfl, hI'⟩
  exact g_icmp_eq B 1345 dL_law_624 (by decide) (fun _ => k u' hI') (fun hc => absurd rfl hc)
set_option maxRecDepth 100000 in
theorem lc_cut (B : Fx X cL_law 4 RL 13 482) (S : Sx X L xs) (hL : L < 2 ^ 31) {i : Nat} (hi : i + 5 ≤ L) (h : Inv I) (k : ∀ u, Inv u → GW X 4 1345 [some (.ref 79), some (.ref 0), some (.ref 57), some (.int (nI i))] [] u) : GW X 4 629 [some (.ref 79), some (.ref 0), some (.ref 57), some (.int (nI i))] [] I := by
  obtain ⟨rr, U, c1, c2⟩ := op_cut h (xs (i + 1))
  refine g_aload_n B dL_law_629 rfl ?_
  refine g_aload_n B dL_law_630 rfl ?_
  refine g_iload_n B dL_law_631 rfl ?_
  refine g_iconst B (v := 1) dL_law_632 (by decide) ?_
  refine g_iadd B dL_law_633 ?_
  refine g_sld B S hL (i + 1) (nI_add i 1) (by omega) dL_law_634 ?_
  refine g_callVI B c1 rfl rfl ml_L_77 mm_X6_cut rfl rfl (Nat.le_of_ble_eq_true rfl) dL_law_635 (by decide) ?_
  rintro _ u ⟨rfl, hU⟩
  refine g_aload_n B dL_law_638 rfl ?_
  refine g_aload_n B dL_law_639 rfl ?_
  refine g_iload_n B dL_law_640 rfl ?_
  refine g_iconst B (v := 1) dL_law_641 (by decide) ?_
  refine g_iadd B dL_law_642 ?_
  refine g_sld B S hL (i + 1) (nI_add i 1) (by omega) dL_law_643 ?_
  refine g_callVI B (c2 u hU) rfl rfl ml_L_80 mm_X7_cut rfl rfl (Nat.le_of_ble_eq_true rfl) dL_law_644 (by decide) ?_
  rintro _ u' ⟨rfl, hI'⟩
  exact g_icmp_eq B 1345 dL_law_647 (by decide) (fun _ => k u' hI') (fun hc => absurd rfl hc)
set_option maxRecDepth 100000 in
theorem lc_stands (B : Fx X cL_law 4 RL 13 482) (S : Sx X L xs) (hL : L < 2 ^ 31) {i : Nat} (hi : i + 5 ≤ L) (h : Inv I) (k : ∀ u, Inv u → GW X 4 1345 [some (.ref 79), some (.ref 0), some (.ref 57), some (.int (nI i))] [] u) : GW X 4 652 [some (.ref 79), some (.ref 0), some (.ref 57), some (.int (nI i))] [] I := by
  obtain ⟨rr, U, c1, c2⟩ := op_stands h (xs (i + 1))
  refine g_aload_n B dL_law_652 rfl ?_
  refine g_aload_n B dL_law_653 rfl ?_
  refine g_iload_n B dL_law_654 rfl ?_
  refine g_iconst B (v := 1) dL_law_655 (by decide) ?_
  refine g_iadd B dL_law_656 ?_
  refine g_sld B S hL (i + 1) (nI_add i 1) (by omega) dL_law_657 ?_
  refine g_callVI B c1 rfl rfl ml_L_81 mm_X6_stands rfl rfl (Nat.le_of_ble_eq_true rfl) dL_law_658 (by decide) ?_
  rintro _ u ⟨rfl, hU⟩
  refine g_aload_n B dL_law_661 rfl ?_
  refine g_aload_n B dL_law_662 rfl ?_
  refine g_iload_n B dL_law_663 rfl ?_
  refine g_iconst B (v := 1) dL_law_664 (by decide) ?_
  refine g_iadd B dL_law_665 ?_
  refine g_sld B S hL (i + 1) (nI_add i 1) (by omega) dL_law_666 ?_
  refine g_callVI B (c2 u hU) rfl rfl ml_L_84 mm_X7_stands rfl rfl (Nat.le_of_ble_eq_true rfl) dL_law_667 (by decide) ?_
  rintro _ u' ⟨rfl, hI'⟩
  exact g_icmp_eq B 1345 dL_law_670 (by decide) (fun _ => k u' hI') (fun hc => absurd rfl hc)
set_option maxRecDepth 100000 in
theorem lc_sum (B : Fx X cL_law 4 RL 13 482) (S : Sx X L xs) (hL : L < 2 ^ 31) {i : Nat} (hi : i + 5 ≤ L) (h : Inv I) (k : ∀ u, Inv u → GW X 4 1345 [some (.ref 79), some (.ref 0), some (.ref 57), some (.int (nI i))] [] u) : GW X 4 675 [some (.ref 79), some (.ref 0), some (.ref 57), some (.int (nI i))] [] I := by
  obtain ⟨rr, U, c1, c2⟩ := op_sum h (xs (i + 1))
  refine g_aload_n B dL_law_675 rfl ?_
  refine g_aload_n B dL_law_676 rfl ?_
  refine g_iload_n B dL_law_677 rfl ?_
  refine g_iconst B (v := 1) dL_law_678 (by decide) ?_
  refine g_iadd B dL_law_679 ?_
  refine g_sld B S hL (i + 1) (nI_add i 1) (by omega) dL_law_680 ?_
  refine g_callVI B c1 rfl rfl ml_L_85 mm_X6_sum rfl rfl (Nat.le_of_ble_eq_true rfl) dL_law_681 (by decide) ?_
  rintro _ u ⟨rfl, hU⟩
  refine g_aload_n B dL_law_684 rfl ?_
  refine g_aload_n B dL_law_685 rfl ?_
  refine g_iload_n B dL_law_686 rfl ?_
  refine g_iconst B (v := 1) dL_law_687 (by decide) ?_
  refine g_iadd B dL_law_688 ?_
  refine g_sld B S hL (i + 1) (nI_add i 1) (by omega) dL_law_689 ?_
  refine g_callVI B (c2 u hU) rfl rfl ml_L_88 mm_X7_sum rfl rfl (Nat.le_of_ble_eq_true rfl) dL_law_690 (by decide) ?_
  rintro _ u' ⟨rfl, hI'⟩
  exact g_icmp_eq B 1345 dL_law_693 (by decide) (fun _ => k u' hI') (fun hc => absurd rfl hc)
set_option maxRecDepth 100000 in
theorem lc_upon (B : Fx X cL_law 4 RL 13 482) (S : Sx X L xs) (hL : L < 2 ^ 31) {i : Nat} (hi : i + 5 ≤ L) (h : Inv I) (k : ∀ u, Inv u → GW X 4 1345 [some (.ref 79), some (.ref 0), some (.ref 57), some (.int (nI i))] [] u) : GW X 4 698 [some (.ref 79), some (.ref 0), some (.ref 57), some (.int (nI i))] [] I := by
  obtain ⟨rr, U, c1, c2⟩ := op_upon h (xs (i + 1))
  refine g_aload_n B dL_law_698 rfl ?_
  refine g_aload_n B dL_law_699 rfl ?_
  refine g_iload_n B dL_law_700 rfl ?_
  refine g_iconst B (v := 1) dL_law_701 (by decide) ?_
  refine g_iadd B dL_law_702 ?_
  refine g_sld B S hL (i + 1) (nI_add i 1) (by omega) dL_law_703 ?_
  refine g_callVI B c1 rfl rfl ml_L_89 mm_X6_upon rfl rfl (Nat.le_of_ble_eq_true rfl) dL_law_704 (by decide) ?_
  rintro _ u ⟨rfl, hU⟩
  refine g_aload_n B dL_law_707 rfl ?_
  refine g_aload_n B dL_law_708 rfl ?_
  refine g_iload_n B dL_law_709 rfl ?_
  refine g_iconst B (v := 1) dL_law_710 (by decide) ?_
  refine g_iadd B dL_law_711 ?_
  refine g_sld B S hL (i + 1) (nI_add i 1) (by omega) dL_law_712 ?_
  refine g_callVI B (c2 u hU) rfl rfl ml_L_92 mm_X7_upon rfl rfl (Nat.le_of_ble_eq_true rfl) dL_law_713 (by decide) ?_
  rintro _ u' ⟨rfl, hI'⟩
  exact g_icmp_eq B 1345 dL_law_716 (by decide) (fun _ => k u' hI') (fun hc => absurd rfl hc)
set_option maxRecDepth 100000 in
theorem lc_reply (B : Fx X cL_law 4 RL 13 482) (S : Sx X L xs) (hL : L < 2 ^ 31) {i : Nat} (hi : i + 5 ≤ L) (h : Inv I) (k : ∀ u, Inv u → GW X 4 1345 [some (.ref 79), some (.ref 0), some (.ref 57), some (.int (nI i))] [] u) : GW X 4 721 [some (.ref 79), some (.ref 0), some (.ref 57), some (.int (nI i))] [] I := by
  obtain ⟨rr, U, c1, c2⟩ := op_reply h (xs (i + 1)) (xs (i + 2))
  refine g_aload_n B dL_law_721 rfl ?_
  refine g_aload_n B dL_law_722 rfl ?_
  refine g_iload_n B dL_law_723 rfl ?_
  refine g_iconst B (v := 1) dL_law_724 (by decide) ?_
  refine g_iadd B dL_law_725 ?_
  refine g_sld B S hL (i + 1) (nI_add i 1) (by omega) dL_law_726 ?_
  refine g_aload_n B dL_law_727 rfl ?_
  refine g_iload_n B dL_law_728 rfl ?_
  refine g_iconst B (v := 2) dL_law_729 (by decide) ?_
  refine g_iadd B dL_law_730 ?_
  refine g_sld B S hL (i + 2) (nI_add i 2) (by omega) dL_law_731 ?_
  refine g_callVI B c1 rfl rfl ml_L_93 mm_X6_reply rfl rfl (Nat.le_of_ble_eq_true rfl) dL_law_732 (by decide) ?_
  rintro _ u ⟨rfl, hU⟩
  refine g_aload_n B dL_law_735 rfl ?_
  refine g_aload_n B dL_law_736 rfl ?_
  refine g_iload_n B dL_law_737 rfl ?_
  refine g_iconst B (v := 1) dL_law_738 (by decide) ?_
  refine g_iadd B dL_law_739 ?_
  refine g_sld B S hL (i + 1) (nI_add i 1) (by omega) dL_law_740 ?_
  refine g_aload_n B dL_law_741 rfl ?_
  refine g_iload_n B dL_law_742 rfl ?_
  refine g_iconst B (v := 2) dL_law_743 (by decide) ?_
  refine g_iadd B dL_law_744 ?_
  refine g_sld B S hL (i + 2) (nI_add i 2) (by omega) dL_law_745 ?_
  refine g_callVI B (c2 u hU) rfl rfl ml_L_96 mm_X7_reply rfl rfl (Nat.le_of_ble_eq_true rfl) dL_law_746 (by decide) ?_
  rintro _ u' ⟨rfl, hI'⟩
  exact g_icmp_eq B 1345 dL_law_749 (by decide) (fun _ => k u' hI') (fun hc => absurd rfl hc)
set_option maxRecDepth 100000 in
theorem lc_ever (B : Fx X cL_law 4 RL 13 482) (S : Sx X L xs) (hL : L < 2 ^ 31) {i : Nat} (hi : i + 5 ≤ L) (h : Inv I) (k : ∀ u, Inv u → GW X 4 1345 [some (.ref 79), some (.ref 0), some (.ref 57), some (.int (nI i))] [] u) : GW X 4 754 [some (.ref 79), some (.ref 0), some (.ref 57), some (.int (nI i))] [] I := by
  obtain ⟨rr, U, c1, c2⟩ := op_ever h (xs (i + 1))
  refine g_aload_n B dL_law_754 rfl ?_
  refine g_aload_n B dL_law_755 rfl ?_
  refine g_iload_n B dL_law_756 rfl ?_
  refine g_iconst B (v := 1) dL_law_757 (by decide) ?_
  refine g_iadd B dL_law_758 ?_
  refine g_sld B S hL (i + 1) (nI_add i 1) (by omega) dL_law_759 ?_
  refine g_callVI B c1 rfl rfl ml_L_97 mm_X6_ever rfl rfl (Nat.le_of_ble_eq_true rfl) dL_law_760 (by decide) ?_
  rintro _ u ⟨rfl, hU⟩
  refine g_aload_n B dL_law_763 rfl ?_
  refine g_aload_n B dL_law_764 rfl ?_
  refine g_iload_n B dL_law_765 rfl ?_
  refine g_iconst B (v := 1) dL_law_766 (by decide) ?_
  refine g_iadd B dL_law_767 ?_
  refine g_sld B S hL (i + 1) (nI_add i 1) (by omega) dL_law_768 ?_
  refine g_callVI B (c2 u hU) rfl rfl ml_L_100 mm_X7_ever rfl rfl (Nat.le_of_ble_eq_true rfl) dL_law_769 (by decide) ?_
  rintro _ u' ⟨rfl, hI'⟩
  exact g_icmp_eq B 1345 dL_law_772 (by decide) (fun _ => k u' hI') (fun hc => absurd rfl hc)
set_option maxRecDepth 100000 in
theorem lc_chain (B : Fx X cL_law 4 RL 13 482) (S : Sx X L xs) (hL : L < 2 ^ 31) {i : Nat} (hi : i + 5 ≤ L) (h : Inv I) (k : ∀ u, Inv u → GW X 4 1345 [some (.ref 79), some (.ref 0), some (.ref 57), some (.int (nI i))] [] u) : GW X 4 777 [some (.ref 79), some (.ref 0), some (.ref 57), some (.int (nI i))] [] I := by
  obtain ⟨rr, U, c1, c2⟩ := op_chain h (xs (i + 1))
  refine g_aload_n B dL_law_777 rfl ?_
  refine g_aload_n B dL_law_778 rfl ?_
  refine g_iload_n B dL_law_779 rfl ?_
  refine g_iconst B (v := 1) dL_law_780 (by decide) ?_
  refine g_iadd B dL_law_781 ?_
  refine g_sld B S hL (i + 1) (nI_add i 1) (by omega) dL_law_782 ?_
  refine g_callVI B c1 rfl rfl ml_L_101 mm_X6_chain rfl rfl (Nat.le_of_ble_eq_true rfl) dL_law_783 (by decide) ?_
  rintro _ u ⟨rfl, hU⟩
  refine g_aload_n B dL_law_786 rfl ?_
  refine g_aload_n B dL_law_787 rfl ?_
  refine g_iload_n B dL_law_788 rfl ?_
  refine g_iconst B (v := 1) dL_law_789 (by decide) ?_
  refine g_iadd B dL_law_790 ?_
  refine g_sld B S hL (i + 1) (nI_add i 1) (by omega) dL_law_791 ?_
  refine g_callVI B (c2 u hU) rfl rfl ml_L_104 mm_X7_chain rfl rfl (Nat.le_of_ble_eq_true rfl) dL_law_792 (by decide) ?_
  rintro _ u' ⟨rfl, hI'⟩
  exact g_icmp_eq B 1345 dL_law_795 (by decide) (fun _ => k u' hI') (fun hc => absurd rfl hc)
set_option maxRecDepth 100000 in
theorem lc_late (B : Fx X cL_law 4 RL 13 482) (S : Sx X L xs) (hL : L < 2 ^ 31) {i : Nat} (hi : i + 5 ≤ L) (h : Inv I) (k : ∀ u, Inv u → GW X 4 1345 [some (.ref 79), some (.ref 0), some (.ref 57), some (.int (nI i))] [] u) : GW X 4 800 [some (.ref 79), some (.ref 0), some (.ref 57), some (.int (nI i))] [] I := by
  obtain ⟨rr, U, c1, c2⟩ := op_late h
  refine g_aload_n B dL_law_800 rfl ?_
  refine g_callVI B c1 rfl rfl ml_L_105 mm_X6_late rfl rfl (Nat.le_of_ble_eq_true rfl) dL_law_801 (by decide) ?_
  rintro _ u ⟨rfl, hU⟩
  refine g_aload_n B dL_law_804 rfl ?_
  refine g_callVI B (c2 u hU) rfl rfl ml_L_108 mm_X7_late rfl rfl (Nat.le_of_ble_eq_true rfl) dL_law_805 (by decide) ?_
  rintro _ u' ⟨rfl, hI'⟩
  exact g_icmp_eq B 1345 dL_law_808 (by decide) (fun _ => k u' hI') (fun hc => absurd rfl hc)
set_option maxRecDepth 100000 in
theorem lc_few (B : Fx X cL_law 4 RL 13 482) (S : Sx X L xs) (hL : L < 2 ^ 31) {i : Nat} (hi : i + 5 ≤ L) (h : Inv I) (k : ∀ u, Inv u → GW X 4 1345 [some (.ref 79), some (.ref 0), some (.ref 57), some (.int (nI i))] [] u) : GW X 4 813 [some (.ref 79), some (.ref 0), some (.ref 57), some (.int (nI i))] [] I := by
  obtain ⟨rr, U, c1, c2⟩ := op_few h (xs (i + 1))
  refine g_aload_n B dL_law_813 rfl ?_
  refine g_aload_n B dL_law_814 rfl ?_
  refine g_iload_n B dL_law_815 rfl ?_
  refine g_iconst B (v := 1) dL_law_816 (by decide) ?_
  refine g_iadd B dL_law_817 ?_
  refine g_sld B S hL (i + 1) (nI_add i 1) (by omega) dL_law_818 ?_
  refine g_callVI B c1 rfl rfl ml_L_109 mm_X6_few rfl rfl (Nat.le_of_ble_eq_true rfl) dL_law_819 (by decide) ?_
  rintro _ u ⟨rfl, hU⟩
  refine g_aload_n B dL_law_822 rfl ?_
  refine g_aload_n B dL_law_823 rfl ?_
  refine g_iload_n B dL_law_824 rfl ?_
  refine g_iconst B (v := 1) dL_law_825 (by decide) ?_
  refine g_iadd B dL_law_826 ?_
  refine g_sld B S hL (i + 1) (nI_add i 1) (by omega) dL_law_827 ?_
  refine g_callVI B (c2 u hU) rfl rfl ml_L_112 mm_X7_few rfl rfl (Nat.le_of_ble_eq_true rfl) dL_law_828 (by decide) ?_
  rintro _ u' ⟨rfl, hI'⟩
  exact g_icmp_eq B 1345 dL_law_831 (by decide) (fun _ => k u' hI') (fun hc => absurd rfl hc)
set_option maxRecDepth 100000 in
theorem lc_foil (B : Fx X cL_law 4 RL 13 482) (S : Sx X L xs) (hL : L < 2 ^ 31) {i : Nat} (hi : i + 5 ≤ L) (h : Inv I) (k : ∀ u, Inv u → GW X 4 1345 [some (.ref 79), some (.ref 0), some (.ref 57), some (.int (nI i))] [] u) : GW X 4 836 [some (.ref 79), some (.ref 0), some (.ref 57), some (.int (nI i))] [] I := by
  obtain ⟨rr, U, c1, c2⟩ := op_foil h (xs (i + 1))
  refine g_aload_n B dL_law_836 rfl ?_
  refine g_aload_n B dL_law_837 rfl ?_
  refine g_iload_n B dL_law_838 rfl ?_
  refine g_iconst B (v := 1) dL_law_839 (by decide) ?_
  refine g_iadd B dL_law_840 ?_
  refine g_sld B S hL (i + 1) (nI_add i 1) (by omega) dL_law_841 ?_
  refine g_callVI B c1 rfl rfl ml_L_113 mm_X6_foil rfl rfl (Nat.le_of_ble_eq_true rfl) dL_law_842 (by decide) ?_
  rintro _ u ⟨rfl, hU⟩
  refine g_aload_n B dL_law_845 rfl ?_
  refine g_aload_n B dL_law_846 rfl ?_
  refine g_iload_n B dL_law_847 rfl ?_
  refine g_iconst B (v := 1) dL_law_848 (by decide) ?_
  refine g_iadd B dL_law_849 ?_
  refine g_sld B S hL (i + 1) (nI_add i 1) (by omega) dL_law_850 ?_
  refine g_callVI B (c2 u hU) rfl rfl ml_L_116 mm_X7_foil rfl rfl (Nat.le_of_ble_eq_true rfl) dL_law_851 (by decide) ?_
  rintro _ u' ⟨rfl, hI'⟩
  exact g_icmp_eq B 1345 dL_law_854 (by decide) (fun _ => k u' hI') (fun hc => absurd rfl hc)
set_option maxRecDepth 100000 in
theorem lc_trial (B : Fx X cL_law 4 RL 13 482) (S : Sx X L xs) (hL : L < 2 ^ 31) {i : Nat} (hi : i + 5 ≤ L) (h : Inv I) (k : ∀ u, Inv u → GW X 4 1345 [some (.ref 79), some (.ref 0), some (.ref 57), some (.int (nI i))] [] u) : GW X 4 859 [some (.ref 79), some (.ref 0), some (.ref 57), some (.int (nI i))] [] I := by
  obtain ⟨rr, U, c1, c2⟩ := op_trial h (xs (i + 1))
  refine g_aload_n B dL_law_859 rfl ?_
  refine g_aload_n B dL_law_860 rfl ?_
  refine g_iload_n B dL_law_861 rfl ?_
  refine g_iconst B (v := 1) dL_law_862 (by decide) ?_
  refine g_iadd B dL_law_863 ?_
  refine g_sld B S hL (i + 1) (nI_add i 1) (by omega) dL_law_864 ?_
  refine g_callVI B c1 rfl rfl ml_L_117 mm_X6_trial rfl rfl (Nat.le_of_ble_eq_true rfl) dL_law_865 (by decide) ?_
  rintro _ u ⟨rfl, hU⟩
  refine g_aload_n B dL_law_868 rfl ?_
  refine g_aload_n B dL_law_869 rfl ?_
  refine g_iload_n B dL_law_870 rfl ?_
  refine g_iconst B (v := 1) dL_law_871 (by decide) ?_
  refine g_iadd B dL_law_872 ?_
  refine g_sld B S hL (i + 1) (nI_add i 1) (by omega) dL_law_873 ?_
  refine g_callVI B (c2 u hU) rfl rfl ml_L_120 mm_X7_trial rfl rfl (Nat.le_of_ble_eq_true rfl) dL_law_874 (by decide) ?_
  rintro _ u' ⟨rfl, hI'⟩
  exact g_icmp_eq B 1345 dL_law_877 (by decide) (fun _ => k u' hI') (fun hc => absurd rfl hc)
set_option maxRecDepth 100000 in
theorem lc_luck (B : Fx X cL_law 4 RL 13 482) (S : Sx X L xs) (hL : L < 2 ^ 31) {i : Nat} (hi : i + 5 ≤ L) (h : Inv I) (k : ∀ u, Inv u → GW X 4 1345 [some (.ref 79), some (.ref 0), some (.ref 57), some (.int (nI i))] [] u) : GW X 4 882 [some (.ref 79), some (.ref 0), some (.ref 57), some (.int (nI i))] [] I := by
  obtain ⟨rr, U, c1, c2⟩ := op_luck h (xs (i + 1)) (xs (i + 2))
  refine g_aload_n B dL_law_882 rfl ?_
  refine g_aload_n B dL_law_883 rfl ?_
  refine g_iload_n B dL_law_884 rfl ?_
  refine g_iconst B (v := 1) dL_law_885 (by decide) ?_
  refine g_iadd B dL_law_886 ?_
  refine g_sld B S hL (i + 1) (nI_add i 1) (by omega) dL_law_887 ?_
  refine g_aload_n B dL_law_888 rfl ?_
  refine g_iload_n B dL_law_889 rfl ?_
  refine g_iconst B (v := 2) dL_law_890 (by decide) ?_
  refine g_iadd B dL_law_891 ?_
  refine g_sld B S hL (i + 2) (nI_add i 2) (by omega) dL_law_892 ?_
  refine g_callVL B c1 rfl rfl ml_L_121 mm_X6_luck rfl rfl (Nat.le_of_ble_eq_true rfl) dL_law_893 (by decide) ?_
  rintro _ u ⟨rfl, hU⟩
  refine g_aload_n B dL_law_896 rfl ?_
  refine g_aload_n B dL_law_897 rfl ?_
  refine g_iload_n B dL_law_898 rfl ?_
  refine g_iconst B (v := 1) dL_law_899 (by decide) ?_
  refine g_iadd B dL_law_900 ?_
  refine g_sld B S hL (i + 1) (nI_add i 1) (by omega) dL_law_901 ?_
  refine g_aload_n B dL_law_902 rfl ?_
  refine g_iload_n B dL_law_903 rfl ?_
  refine g_iconst B (v := 2) dL_law_904 (by decide) ?_
  refine g_iadd B dL_law_905 ?_
  refine g_sld B S hL (i + 2) (nI_add i 2) (by omega) dL_law_906 ?_
  refine g_callVL B (c2 u hU) rfl rfl ml_L_125 mm_X7_luck rfl rfl (Nat.le_of_ble_eq_true rfl) dL_law_907 (by decide) ?_
  rintro _ u' ⟨rfl, hI'⟩
  refine g_lcmp B dL_law_910 ?_
  exact g_if_eq B 1345 dL_law_911 (by decide) (fun _ => k u' hI') (fun hc => absurd (lcmp_self _) hc)
set_option maxRecDepth 100000 in
theorem lc_game (B : Fx X cL_law 4 RL 13 482) (S : Sx X L xs) (hL : L < 2 ^ 31) {i : Nat} (hi : i + 5 ≤ L) (h : Inv I) (k : ∀ u, Inv u → GW X 4 1345 [some (.ref 79), some (.ref 0), some (.ref 57), some (.int (nI i))] [] u) : GW X 4 916 [some (.ref 79), some (.ref 0), some (.ref 57), some (.int (nI i))] [] I := by
  obtain ⟨rr, U, c1, c2⟩ := op_game h (xs (i + 1))
  refine g_aload_n B dL_law_916 rfl ?_
  refine g_aload_n B dL_law_917 rfl ?_
  refine g_iload_n B dL_law_918 rfl ?_
  refine g_iconst B (v := 1) dL_law_919 (by decide) ?_
  refine g_iadd B dL_law_920 ?_
  refine g_sld B S hL (i + 1) (nI_add i 1) (by omega) dL_law_921 ?_
  refine g_callVI B c1 rfl rfl ml_L_126 mm_X6_game rfl rfl (Nat.le_of_ble_eq_true rfl) dL_law_922 (by decide) ?_
  rintro _ u ⟨rfl, hU⟩
  refine g_aload_n B dL_law_925 rfl ?_
  refine g_aload_n B dL_law_926 rfl ?_
  refine g_iload_n B dL_law_927 rfl ?_
  refine g_iconst B (v := 1) dL_law_928 (by decide) ?_
  refine g_iadd B dL_law_929 ?_
  refine g_sld B S hL (i + 1) (nI_add i 1) (by omega) dL_law_930 ?_
  refine g_callVI B (c2 u hU) rfl rfl ml_L_129 mm_X7_game rfl rfl (Nat.le_of_ble_eq_true rfl) dL_law_931 (by decide) ?_
  rintro _ u' ⟨rfl, hI'⟩
  exact g_icmp_eq B 1345 dL_law_934 (by decide) (fun _ => k u' hI') (fun hc => absurd rfl hc)
set_option maxRecDepth 100000 in
theorem lc_days (B : Fx X cL_law 4 RL 13 482) (S : Sx X L xs) (hL : L < 2 ^ 31) {i : Nat} (hi : i + 5 ≤ L) (h : Inv I) (k : ∀ u, Inv u → GW X 4 1345 [some (.ref 79), some (.ref 0), some (.ref 57), some (.int (nI i))] [] u) : GW X 4 939 [some (.ref 79), some (.ref 0), some (.ref 57), some (.int (nI i))] [] I := by
  obtain ⟨rr, U, c1, c2⟩ := op_days h
  refine g_aload_n B dL_law_939 rfl ?_
  refine g_callVI B c1 rfl rfl ml_L_130 mm_X6_days rfl rfl (Nat.le_of_ble_eq_true rfl) dL_law_940 (by decide) ?_
  rintro _ u ⟨rfl, hU⟩
  refine g_aload_n B dL_law_943 rfl ?_
  refine g_callVI B (c2 u hU) rfl rfl ml_L_133 mm_X7_days rfl rfl (Nat.le_of_ble_eq_true rfl) dL_law_944 (by decide) ?_
  rintro _ u' ⟨rfl, hI'⟩
  exact g_icmp_eq B 1345 dL_law_947 (by decide) (fun _ => k u' hI') (fun hc => absurd rfl hc)
set_option maxRecDepth 100000 in
theorem lc_share (B : Fx X cL_law 4 RL 13 482) (S : Sx X L xs) (hL : L < 2 ^ 31) {i : Nat} (hi : i + 5 ≤ L) (h : Inv I) (k : ∀ u, Inv u → GW X 4 1345 [some (.ref 79), some (.ref 0), some (.ref 57), some (.int (nI i))] [] u) : GW X 4 952 [some (.ref 79), some (.ref 0), some (.ref 57), some (.int (nI i))] [] I := by
  obtain ⟨rr, U, c1, c2⟩ := op_share h (xs (i + 1)) (xs (i + 2))
  refine g_aload_n B dL_law_952 rfl ?_
  refine g_aload_n B dL_law_953 rfl ?_
  refine g_iload_n B dL_law_954 rfl ?_
  refine g_iconst B (v := 1) dL_law_955 (by decide) ?_
  refine g_iadd B dL_law_956 ?_
  refine g_sld B S hL (i + 1) (nI_add i 1) (by omega) dL_law_957 ?_
  refine g_aload_n B dL_law_958 rfl ?_
  refine g_iload_n B dL_law_959 rfl ?_
  refine g_iconst B (v := 2) dL_law_960 (by decide) ?_
  refine g_iadd B dL_law_961 ?_
  refine g_sld B S hL (i + 2) (nI_add i 2) (by omega) dL_law_962 ?_
  refine g_callVL B c1 rfl rfl ml_L_134 mm_X6_share rfl rfl (Nat.le_of_ble_eq_true rfl) dL_law_963 (by decide) ?_
  rintro _ u ⟨rfl, hU⟩
  refine g_aload_n B dL_law_966 rfl ?_
  refine g_aload_n B dL_law_967 rfl ?_
  refine g_iload_n B dL_law_968 rfl ?_
  refine g_iconst B (v := 1) dL_law_969 (by decide) ?_
  refine g_iadd B dL_law_970 ?_
  refine g_sld B S hL (i + 1) (nI_add i 1) (by omega) dL_law_971 ?_
  refine g_aload_n B dL_law_972 rfl ?_
  refine g_iload_n B dL_law_973 rfl ?_
  refine g_iconst B (v := 2) dL_law_974 (by decide) ?_
  refine g_iadd B dL_law_975 ?_
  refine g_sld B S hL (i + 2) (nI_add i 2) (by omega) dL_law_976 ?_
  refine g_callVL B (c2 u hU) rfl rfl ml_L_137 mm_X7_share rfl rfl (Nat.le_of_ble_eq_true rfl) dL_law_977 (by decide) ?_
  rintro _ u' ⟨rfl, hI'⟩
  refine g_lcmp B dL_law_980 ?_
  exact g_if_eq B 1345 dL_law_981 (by decide) (fun _ => k u' hI') (fun hc => absurd (lcmp_self _) hc)
set_option maxRecDepth 100000 in
theorem lc_see (B : Fx X cL_law 4 RL 13 482) (S : Sx X L xs) (hL : L < 2 ^ 31) {i : Nat} (hi : i + 5 ≤ L) (h : Inv I) (k : ∀ u, Inv u → GW X 4 1345 [some (.ref 79), some (.ref 0), some (.ref 57), some (.int (nI i))] [] u) : GW X 4 986 [some (.ref 79), some (.ref 0), some (.ref 57), some (.int (nI i))] [] I := by
  by_cases z2 : xs (i + 2) = 0
  · obtain ⟨rr, U, c1, c2⟩ := op_see h (xs (i + 1)) false
    refine g_aload_n B dL_law_986 rfl ?_
    refine g_aload_n B dL_law_987 rfl ?_
    refine g_iload_n B dL_law_988 rfl ?_
    refine g_iconst B (v := 1) dL_law_989 (by decide) ?_
    refine g_iadd B dL_law_990 ?_
    refine g_sld B S hL (i + 1) (nI_add i 1) (by omega) dL_law_991 ?_
    refine g_aload_n B dL_law_992 rfl ?_
    refine g_iload_n B dL_law_993 rfl ?_
    refine g_iconst B (v := 2) dL_law_994 (by decide) ?_
    refine g_iadd B dL_law_995 ?_
    refine g_sld B S hL (i + 2) (nI_add i 2) (by omega) dL_law_996 ?_
    refine g_if_eq B 1004 dL_law_997 (by decide) (fun _ => ?_) (fun hc => absurd z2 hc)
    refine g_iconst B (v := 0) dL_law_1004 (by decide) ?_
    refine g_callVI B c1 rfl rfl ml_L_138 mm_X6_see rfl rfl (Nat.le_of_ble_eq_true rfl) dL_law_1005 (by decide) ?_
    rintro _ u ⟨rfl, hU⟩
    refine g_aload_n B dL_law_1008 rfl ?_
    refine g_aload_n B dL_law_1009 rfl ?_
    refine g_iload_n B dL_law_1010 rfl ?_
    refine g_iconst B (v := 1) dL_law_1011 (by decide) ?_
    refine g_iadd B dL_law_1012 ?_
    refine g_sld B S hL (i + 1) (nI_add i 1) (by omega) dL_law_1013 ?_
    refine g_aload_n B dL_law_1014 rfl ?_
    refine g_iload_n B dL_law_1015 rfl ?_
    refine g_iconst B (v := 2) dL_law_1016 (by decide) ?_
    refine g_iadd B dL_law_1017 ?_
    refine g_sld B S hL (i + 2) (nI_add i 2) (by omega) dL_law_1018 ?_
    refine g_if_eq B 1026 dL_law_1019 (by decide) (fun _ => ?_) (fun hc => absurd z2 hc)
    refine g_iconst B (v := 0) dL_law_1026 (by decide) ?_
    refine g_callVI B (c2 u hU) rfl rfl ml_L_142 mm_X7_see rfl rfl (Nat.le_of_ble_eq_true rfl) dL_law_1027 (by decide) ?_
    rintro _ u' ⟨rfl, hI'⟩
    exact g_icmp_eq B 1345 dL_law_1030 (by decide) (fun _ => k u' hI') (fun hc => absurd rfl hc)
  · obtain ⟨rr, U, c1, c2⟩ := op_see h (xs (i + 1)) true
    refine g_aload_n B dL_law_986 rfl ?_
    refine g_aload_n B dL_law_987 rfl ?_
    refine g_iload_n B dL_law_988 rfl ?_
    refine g_iconst B (v := 1) dL_law_989 (by decide) ?_
    refine g_iadd B dL_law_990 ?_
    refine g_sld B S hL (i + 1) (nI_add i 1) (by omega) dL_law_991 ?_
    refine g_aload_n B dL_law_992 rfl ?_
    refine g_iload_n B dL_law_993 rfl ?_
    refine g_iconst B (v := 2) dL_law_994 (by decide) ?_
    refine g_iadd B dL_law_995 ?_
    refine g_sld B S hL (i + 2) (nI_add i 2) (by omega) dL_law_996 ?_
    refine g_if_eq B 1004 dL_law_997 (by decide) (fun hc => absurd hc z2) (fun _ => ?_)
    refine g_iconst B (v := 1) dL_law_1000 (by decide) ?_
    refine g_goto B 1005 dL_law_1001 (by decide) ?_
    refine g_callVI B c1 rfl rfl ml_L_138 mm_X6_see rfl rfl (Nat.le_of_ble_eq_true rfl) dL_law_1005 (by decide) ?_
    rintro _ u ⟨rfl, hU⟩
    refine g_aload_n B dL_law_1008 rfl ?_
    refine g_aload_n B dL_law_1009 rfl ?_
    refine g_iload_n B dL_law_1010 rfl ?_
    refine g_iconst B (v := 1) dL_law_1011 (by decide) ?_
    refine g_iadd B dL_law_1012 ?_
    refine g_sld B S hL (i + 1) (nI_add i 1) (by omega) dL_law_1013 ?_
    refine g_aload_n B dL_law_1014 rfl ?_
    refine g_iload_n B dL_law_1015 rfl ?_
    refine g_iconst B (v := 2) dL_law_1016 (by decide) ?_
    refine g_iadd B dL_law_1017 ?_
    refine g_sld B S hL (i + 2) (nI_add i 2) (by omega) dL_law_1018 ?_
    refine g_if_eq B 1026 dL_law_1019 (by decide) (fun hc => absurd hc z2) (fun _ => ?_)
    refine g_iconst B (v := 1) dL_law_1022 (by decide) ?_
    refine g_goto B 1027 dL_law_1023 (by decide) ?_
    refine g_callVI B (c2 u hU) rfl rfl ml_L_142 mm_X7_see rfl rfl (Nat.le_of_ble_eq_true rfl) dL_law_1027 (by decide) ?_
    rintro _ u' ⟨rfl, hI'⟩
    exact g_icmp_eq B 1345 dL_law_1030 (by decide) (fun _ => k u' hI') (fun hc => absurd rfl hc)
set_option maxRecDepth 100000 in
theorem lc_forget (B : Fx X cL_law 4 RL 13 482) (S : Sx X L xs) (hL : L < 2 ^ 31) {i : Nat} (hi : i + 5 ≤ L) (h : Inv I) (k : ∀ u, Inv u → GW X 4 1345 [some (.ref 79), some (.ref 0), some (.ref 57), some (.int (nI i))] [] u) : GW X 4 1035 [some (.ref 79), some (.ref 0), some (.ref 57), some (.int (nI i))] [] I := by
  obtain ⟨rr, U, c1, c2⟩ := op_forget h (xs (i + 1))
  refine g_aload_n B dL_law_1035 rfl ?_
  refine g_aload_n B dL_law_1036 rfl ?_
  refine g_iload_n B dL_law_1037 rfl ?_
  refine g_iconst B (v := 1) dL_law_1038 (by decide) ?_
  refine g_iadd B dL_law_1039 ?_
  refine g_sld B S hL (i + 1) (nI_add i 1) (by omega) dL_law_1040 ?_
  refine g_callVI B c1 rfl rfl ml_L_143 mm_X6_forget rfl rfl (Nat.le_of_ble_eq_true rfl) dL_law_1041 (by decide) ?_
  rintro _ u ⟨rfl, hU⟩
  refine g_aload_n B dL_law_1044 rfl ?_
  refine g_aload_n B dL_law_1045 rfl ?_
  refine g_iload_n B dL_law_1046 rfl ?_
  refine g_iconst B (v := 1) dL_law_1047 (by decide) ?_
  refine g_iadd B dL_law_1048 ?_
  refine g_sld B S hL (i + 1) (nI_add i 1) (by omega) dL_law_1049 ?_
  refine g_callVI B (c2 u hU) rfl rfl ml_L_146 mm_X7_forget rfl rfl (Nat.le_of_ble_eq_true rfl) dL_law_1050 (by decide) ?_
  rintro _ u' ⟨rfl, hI'⟩
  exact g_icmp_eq B 1345 dL_law_1053 (by decide) (fun _ => k u' hI') (fun hc => absurd rfl hc)
set_option maxRecDepth 100000 in
theorem lc_fits (B : Fx X cL_law 4 RL 13 482) (S : Sx X L xs) (hL : L < 2 ^ 31) {i : Nat} (hi : i + 5 ≤ L) (h : Inv I) (k : ∀ u, Inv u → GW X 4 1345 [some (.ref 79), some (.ref 0), some (.ref 57), some (.int (nI i))] [] u) : GW X 4 1058 [some (.ref 79), some (.ref 0), some (.ref 57), some (.int (nI i))] [] I := by
  obtain ⟨rr, U, c1, c2⟩ := op_fits h (xs (i + 1))
  refine g_aload_n B dL_law_1058 rfl ?_
  refine g_aload_n B dL_law_1059 rfl ?_
  refine g_iload_n B dL_law_1060 rfl ?_
  refine g_iconst B (v := 1) dL_law_1061 (by decide) ?_
  refine g_iadd B dL_law_1062 ?_
  refine g_sld B S hL (i + 1) (nI_add i 1) (by omega) dL_law_1063 ?_
  refine g_callVI B c1 rfl rfl ml_L_147 mm_X6_fits rfl rfl (Nat.le_of_ble_eq_true rfl) dL_law_1064 (by decide) ?_
  rintro _ u ⟨rfl, hU⟩
  refine g_aload_n B dL_law_1067 rfl ?_
  refine g_aload_n B dL_law_1068 rfl ?_
  refine g_iload_n B dL_law_1069 rfl ?_
  refine g_iconst B (v := 1) dL_law_1070 (by decide) ?_
  refine g_iadd B dL_law_1071 ?_
  refine g_sld B S hL (i + 1) (nI_add i 1) (by omega) dL_law_1072 ?_
  refine g_callVI B (c2 u hU) rfl rfl ml_L_150 mm_X7_fits rfl rfl (Nat.le_of_ble_eq_true rfl) dL_law_1073 (by decide) ?_
  rintro _ u' ⟨rfl, hI'⟩
  exact g_icmp_eq B 1345 dL_law_1076 (by decide) (fun _ => k u' hI') (fun hc => absurd rfl hc)
set_option maxRecDepth 100000 in
theorem lc_drift (B : Fx X cL_law 4 RL 13 482) (S : Sx X L xs) (hL : L < 2 ^ 31) {i : Nat} (hi : i + 5 ≤ L) (h : Inv I) (k : ∀ u, Inv u → GW X 4 1345 [some (.ref 79), some (.ref 0), some (.ref 57), some (.int (nI i))] [] u) : GW X 4 1081 [some (.ref 79), some (.ref 0), some (.ref 57), some (.int (nI i))] [] I := by
  obtain ⟨rr, U, c1, c2⟩ := op_drift h (xs (i + 1)) (xs (i + 2)) (xs (i + 3))
  refine g_aload_n B dL_law_1081 rfl ?_
  refine g_aload_n B dL_law_1082 rfl ?_
  refine g_iload_n B dL_law_1083 rfl ?_
  refine g_iconst B (v := 1) dL_law_1084 (by decide) ?_
  refine g_iadd B dL_law_1085 ?_
  refine g_sld B S hL (i + 1) (nI_add i 1) (by omega) dL_law_1086 ?_
  refine g_aload_n B dL_law_1087 rfl ?_
  refine g_iload_n B dL_law_1088 rfl ?_
  refine g_iconst B (v := 2) dL_law_1089 (by decide) ?_
  refine g_iadd B dL_law_1090 ?_
  refine g_sld B S hL (i + 2) (nI_add i 2) (by omega) dL_law_1091 ?_
  refine g_aload_n B dL_law_1092 rfl ?_
  refine g_iload_n B dL_law_1093 rfl ?_
  refine g_iconst B (v := 3) dL_law_1094 (by decide) ?_
  refine g_iadd B dL_law_1095 ?_
  refine g_sld B S hL (i + 3) (nI_add i 3) (by omega) dL_law_1096 ?_
  refine g_callVI B c1 rfl rfl ml_L_151 mm_X6_drift rfl rfl (Nat.le_of_ble_eq_true rfl) dL_law_1097 (by decide) ?_
  rintro _ u ⟨rfl, hU⟩
  refine g_aload_n B dL_law_1100 rfl ?_
  refine g_aload_n B dL_law_1101 rfl ?_
  refine g_iload_n B dL_law_1102 rfl ?_
  refine g_iconst B (v := 1) dL_law_1103 (by decide) ?_
  refine g_iadd B dL_law_1104 ?_
  refine g_sld B S hL (i + 1) (nI_add i 1) (by omega) dL_law_1105 ?_
  refine g_aload_n B dL_law_1106 rfl ?_
  refine g_iload_n B dL_law_1107 rfl ?_
  refine g_iconst B (v := 2) dL_law_1108 (by decide) ?_
  refine g_iadd B dL_law_1109 ?_
  refine g_sld B S hL (i + 2) (nI_add i 2) (by omega) dL_law_1110 ?_
  refine g_aload_n B dL_law_1111 rfl ?_
  refine g_iload_n B dL_law_1112 rfl ?_
  refine g_iconst B (v := 3) dL_law_1113 (by decide) ?_
  refine g_iadd B dL_law_1114 ?_
  refine g_sld B S hL (i + 3) (nI_add i 3) (by omega) dL_law_1115 ?_
  refine g_callVI B (c2 u hU) rfl rfl ml_L_155 mm_X7_drift rfl rfl (Nat.le_of_ble_eq_true rfl) dL_law_1116 (by decide) ?_
  rintro _ u' ⟨rfl, hI'⟩
  exact g_icmp_eq B 1345 dL_law_1119 (by decide) (fun _ => k u' hI') (fun hc => absurd rfl hc)
set_option maxRecDepth 100000 in
theorem lc_keep (B : Fx X cL_law 4 RL 13 482) (S : Sx X L xs) (hL : L < 2 ^ 31) {i : Nat} (hi : i + 5 ≤ L) (h : Inv I) (k : ∀ u, Inv u → GW X 4 1345 [some (.ref 79), some (.ref 0), some (.ref 57), some (.int (nI i))] [] u) : GW X 4 1124 [some (.ref 79), some (.ref 0), some (.ref 57), some (.int (nI i))] [] I := by
  obtain ⟨rr, U, c1, c2⟩ := op_keep h (xs (i + 1))
  refine g_aload_n B dL_law_1124 rfl ?_
  refine g_aload_n B dL_law_1125 rfl ?_
  refine g_iload_n B dL_law_1126 rfl ?_
  refine g_iconst B (v := 1) dL_law_1127 (by decide) ?_
  refine g_iadd B dL_law_1128 ?_
  refine g_sld B S hL (i + 1) (nI_add i 1) (by omega) dL_law_1129 ?_
  refine g_callVI B c1 rfl rfl ml_L_156 mm_X6_keep rfl rfl (Nat.le_of_ble_eq_true rfl) dL_law_1130 (by decide) ?_
  rintro _ u ⟨rfl, hU⟩
  refine g_aload_n B dL_law_1133 rfl ?_
  refine g_aload_n B dL_law_1134 rfl ?_
  refine g_iload_n B dL_law_1135 rfl ?_
  refine g_iconst B (v := 1) dL_law_1136 (by decide) ?_
  refine g_iadd B dL_law_1137 ?_
  refine g_sld B S hL (i + 1) (nI_add i 1) (by omega) dL_law_1138 ?_
  refine g_callVI B (c2 u hU) rfl rfl ml_L_159 mm_X7_keep rfl rfl (Nat.le_of_ble_eq_true rfl) dL_law_1139 (by decide) ?_
  rintro _ u' ⟨rfl, hI'⟩
  exact g_icmp_eq B 1345 dL_law_1142 (by decide) (fun _ => k u' hI') (fun hc => absurd rfl hc)
set_option maxRecDepth 100000 in
theorem lc_back (B : Fx X cL_law 4 RL 13 482) (S : Sx X L xs) (hL : L < 2 ^ 31) {i : Nat} (hi : i + 5 ≤ L) (h : Inv I) (k : ∀ u, Inv u → GW X 4 1345 [some (.ref 79), some (.ref 0), some (.ref 57), some (.int (nI i))] [] u) : GW X 4 1147 [some (.ref 79), some (.ref 0), some (.ref 57), some (.int (nI i))] [] I := by
  obtain ⟨rr, U, c1, c2⟩ := op_back h (xs (i + 1))
  refine g_aload_n B dL_law_1147 rfl ?_
  refine g_aload_n B dL_law_1148 rfl ?_
  refine g_iload_n B dL_law_1149 rfl ?_
  refine g_iconst B (v := 1) dL_law_1150 (by decide) ?_
  refine g_iadd B dL_law_1151 ?_
  refine g_sld B S hL (i + 1) (nI_add i 1) (by omega) dL_law_1152 ?_
  refine g_callVI B c1 rfl rfl ml_L_160 mm_X6_back rfl rfl (Nat.le_of_ble_eq_true rfl) dL_law_1153 (by decide) ?_
  rintro _ u ⟨rfl, hU⟩
  refine g_aload_n B dL_law_1156 rfl ?_
  refine g_aload_n B dL_law_1157 rfl ?_
  refine g_iload_n B dL_law_1158 rfl ?_
  refine g_iconst B (v := 1) dL_law_1159 (by decide) ?_
  refine g_iadd B dL_law_1160 ?_
  refine g_sld B S hL (i + 1) (nI_add i 1) (by omega) dL_law_1161 ?_
  refine g_callVI B (c2 u hU) rfl rfl ml_L_163 mm_X7_back rfl rfl (Nat.le_of_ble_eq_true rfl) dL_law_1162 (by decide) ?_
  rintro _ u' ⟨rfl, hI'⟩
  exact g_icmp_eq B 1345 dL_law_1165 (by decide) (fun _ => k u' hI') (fun hc => absurd rfl hc)
set_option maxRecDepth 100000 in
theorem lc_sheet (B : Fx X cL_law 4 RL 13 482) (S : Sx X L xs) (hL : L < 2 ^ 31) {i : Nat} (hi : i + 5 ≤ L) (h : Inv I) (k : ∀ u, Inv u → GW X 4 1345 [some (.ref 79), some (.ref 0), some (.ref 57), some (.int (nI i))] [] u) : GW X 4 1170 [some (.ref 79), some (.ref 0), some (.ref 57), some (.int (nI i))] [] I := by
  obtain ⟨rr, U, c1, c2⟩ := op_sheet h (xs (i + 1)) (xs (i + 2)) (xs (i + 3))
  refine g_aload_n B dL_law_1170 rfl ?_
  refine g_aload_n B dL_law_1171 rfl ?_
  refine g_iload_n B dL_law_1172 rfl ?_
  refine g_iconst B (v := 1) dL_law_1173 (by decide) ?_
  refine g_iadd B dL_law_1174 ?_
  refine g_sld B S hL (i + 1) (nI_add i 1) (by omega) dL_law_1175 ?_
  refine g_aload_n B dL_law_1176 rfl ?_
  refine g_iload_n B dL_law_1177 rfl ?_
  refine g_iconst B (v := 2) dL_law_1178 (by decide) ?_
  refine g_iadd B dL_law_1179 ?_
  refine g_sld B S hL (i + 2) (nI_add i 2) (by omega) dL_law_1180 ?_
  refine g_aload_n B dL_law_1181 rfl ?_
  refine g_iload_n B dL_law_1182 rfl ?_
  refine g_iconst B (v := 3) dL_law_1183 (by decide) ?_
  refine g_iadd B dL_law_1184 ?_
  refine g_sld B S hL (i + 3) (nI_add i 3) (by omega) dL_law_1185 ?_
  refine g_callVI B c1 rfl rfl ml_L_164 mm_X6_sheet rfl rfl (Nat.le_of_ble_eq_true rfl) dL_law_1186 (by decide) ?_
  rintro _ u ⟨rfl, hU⟩
  refine g_aload_n B dL_law_1189 rfl ?_
  refine g_aload_n B dL_law_1190 rfl ?_
  refine g_iload_n B dL_law_1191 rfl ?_
  refine g_iconst B (v := 1) dL_law_1192 (by decide) ?_
  refine g_iadd B dL_law_1193 ?_
  refine g_sld B S hL (i + 1) (nI_add i 1) (by omega) dL_law_1194 ?_
  refine g_aload_n B dL_law_1195 rfl ?_
  refine g_iload_n B dL_law_1196 rfl ?_
  refine g_iconst B (v := 2) dL_law_1197 (by decide) ?_
  refine g_iadd B dL_law_1198 ?_
  refine g_sld B S hL (i + 2) (nI_add i 2) (by omega) dL_law_1199 ?_
  refine g_aload_n B dL_law_1200 rfl ?_
  refine g_iload_n B dL_law_1201 rfl ?_
  refine g_iconst B (v := 3) dL_law_1202 (by decide) ?_
  refine g_iadd B dL_law_1203 ?_
  refine g_sld B S hL (i + 3) (nI_add i 3) (by omega) dL_law_1204 ?_
  refine g_callVI B (c2 u hU) rfl rfl ml_L_167 mm_X7_sheet rfl rfl (Nat.le_of_ble_eq_true rfl) dL_law_1205 (by decide) ?_
  rintro _ u' ⟨rfl, hI'⟩
  exact g_icmp_eq B 1345 dL_law_1208 (by decide) (fun _ => k u' hI') (fun hc => absurd rfl hc)
set_option maxRecDepth 100000 in
theorem lc_lay (B : Fx X cL_law 4 RL 13 482) (S : Sx X L xs) (hL : L < 2 ^ 31) {i : Nat} (hi : i + 5 ≤ L) (h : Inv I) (k : ∀ u, Inv u → GW X 4 1345 [some (.ref 79), some (.ref 0), some (.ref 57), some (.int (nI i))] [] u) : GW X 4 1213 [some (.ref 79), some (.ref 0), some (.ref 57), some (.int (nI i))] [] I := by
  obtain ⟨rr, U, c1, c2⟩ := op_lay h (xs (i + 1)) (xs (i + 2)) (xs (i + 3))
  refine g_aload_n B dL_law_1213 rfl ?_
  refine g_aload_n B dL_law_1214 rfl ?_
  refine g_iload_n B dL_law_1215 rfl ?_
  refine g_iconst B (v := 1) dL_law_1216 (by decide) ?_
  refine g_iadd B dL_law_1217 ?_
  refine g_sld B S hL (i + 1) (nI_add i 1) (by omega) dL_law_1218 ?_
  refine g_aload_n B dL_law_1219 rfl ?_
  refine g_iload_n B dL_law_1220 rfl ?_
  refine g_iconst B (v := 2) dL_law_1221 (by decide) ?_
  refine g_iadd B dL_law_1222 ?_
  refine g_sld B S hL (i + 2) (nI_add i 2) (by omega) dL_law_1223 ?_
  refine g_aload_n B dL_law_1224 rfl ?_
  refine g_iload_n B dL_law_1225 rfl ?_
  refine g_iconst B (v := 3) dL_law_1226 (by decide) ?_
  refine g_iadd B dL_law_1227 ?_
  refine g_sld B S hL (i + 3) (nI_add i 3) (by omega) dL_law_1228 ?_
  refine g_callVI B c1 rfl rfl ml_L_168 mm_X6_lay rfl rfl (Nat.le_of_ble_eq_true rfl) dL_law_1229 (by decide) ?_
  rintro _ u ⟨rfl, hU⟩
  refine g_aload_n B dL_law_1232 rfl ?_
  refine g_aload_n B dL_law_1233 rfl ?_
  refine g_iload_n B dL_law_1234 rfl ?_
  refine g_iconst B (v := 1) dL_law_1235 (by decide) ?_
  refine g_iadd B dL_law_1236 ?_
  refine g_sld B S hL (i + 1) (nI_add i 1) (by omega) dL_law_1237 ?_
  refine g_aload_n B dL_law_1238 rfl ?_
  refine g_iload_n B dL_law_1239 rfl ?_
  refine g_iconst B (v := 2) dL_law_1240 (by decide) ?_
  refine g_iadd B dL_law_1241 ?_
  refine g_sld B S hL (i + 2) (nI_add i 2) (by omega) dL_law_1242 ?_
  refine g_aload_n B dL_law_1243 rfl ?_
  refine g_iload_n B dL_law_1244 rfl ?_
  refine g_iconst B (v := 3) dL_law_1245 (by decide) ?_
  refine g_iadd B dL_law_1246 ?_
  refine g_sld B S hL (i + 3) (nI_add i 3) (by omega) dL_law_1247 ?_
  refine g_callVI B (c2 u hU) rfl rfl ml_L_171 mm_X7_lay rfl rfl (Nat.le_of_ble_eq_true rfl) dL_law_1248 (by decide) ?_
  rintro _ u' ⟨rfl, hI'⟩
  exact g_icmp_eq B 1345 dL_law_1251 (by decide) (fun _ => k u' hI') (fun hc => absurd rfl hc)
set_option maxRecDepth 100000 in
theorem lc_read (B : Fx X cL_law 4 RL 13 482) (S : Sx X L xs) (hL : L < 2 ^ 31) {i : Nat} (hi : i + 5 ≤ L) (h : Inv I) (k : ∀ u, Inv u → GW X 4 1345 [some (.ref 79), some (.ref 0), some (.ref 57), some (.int (nI i))] [] u) : GW X 4 1256 [some (.ref 79), some (.ref 0), some (.ref 57), some (.int (nI i))] [] I := by
  obtain ⟨rr, U, c1, c2⟩ := op_read h (xs (i + 1)) (xs (i + 2)) (xs (i + 3)) (xs (i + 4))
  refine g_aload_n B dL_law_1256 rfl ?_
  refine g_aload_n B dL_law_1257 rfl ?_
  refine g_iload_n B dL_law_1258 rfl ?_
  refine g_iconst B (v := 1) dL_law_1259 (by decide) ?_
  refine g_iadd B dL_law_1260 ?_
  refine g_sld B S hL (i + 1) (nI_add i 1) (by omega) dL_law_1261 ?_
  refine g_aload_n B dL_law_1262 rfl ?_
  refine g_iload_n B dL_law_1263 rfl ?_
  refine g_iconst B (v := 2) dL_law_1264 (by decide) ?_
  refine g_iadd B dL_law_1265 ?_
  refine g_sld B S hL (i + 2) (nI_add i 2) (by omega) dL_law_1266 ?_
  refine g_aload_n B dL_law_1267 rfl ?_
  refine g_iload_n B dL_law_1268 rfl ?_
  refine g_iconst B (v := 3) dL_law_1269 (by decide) ?_
  refine g_iadd B dL_law_1270 ?_
  refine g_sld B S hL (i + 3) (nI_add i 3) (by omega) dL_law_1271 ?_
  refine g_aload_n B dL_law_1272 rfl ?_
  refine g_iload_n B dL_law_1273 rfl ?_
  refine g_iconst B (v := 4) dL_law_1274 (by decide) ?_
  refine g_iadd B dL_law_1275 ?_
  refine g_sld B S hL (i + 4) (nI_add i 4) (by omega) dL_law_1276 ?_
  refine g_callVI B c1 rfl rfl ml_L_172 mm_X6_read rfl rfl (Nat.le_of_ble_eq_true rfl) dL_law_1277 (by decide) ?_
  rintro _ u ⟨rfl, hU⟩
  refine g_aload_n B dL_law_1280 rfl ?_
  refine g_aload_n B dL_law_1281 rfl ?_
  refine g_iload_n B dL_law_1282 rfl ?_
  refine g_iconst B (v := 1) dL_law_1283 (by decide) ?_
  refine g_iadd B dL_law_1284 ?_
  refine g_sld B S hL (i + 1) (nI_add i 1) (by omega) dL_law_1285 ?_
  refine g_aload_n B dL_law_1286 rfl ?_
  refine g_iload_n B dL_law_1287 rfl ?_
  refine g_iconst B (v := 2) dL_law_1288 (by decide) ?_
  refine g_iadd B dL_law_1289 ?_
  refine g_sld B S hL (i + 2) (nI_add i 2) (by omega) dL_law_1290 ?_
  refine g_aload_n B dL_law_1291 rfl ?_
  refine g_iload_n B dL_law_1292 rfl ?_
  refine g_iconst B (v := 3) dL_law_1293 (by decide) ?_
  refine g_iadd B dL_law_1294 ?_
  refine g_sld B S hL (i + 3) (nI_add i 3) (by omega) dL_law_1295 ?_
  refine g_aload_n B dL_law_1296 rfl ?_
  refine g_iload_n B dL_law_1297 rfl ?_
  refine g_iconst B (v := 4) dL_law_1298 (by decide) ?_
  refine g_iadd B dL_law_1299 ?_
  refine g_sld B S hL (i + 4) (nI_add i 4) (by omega) dL_law_1300 ?_
  refine g_callVI B (c2 u hU) rfl rfl ml_L_176 mm_X7_read rfl rfl (Nat.le_of_ble_eq_true rfl) dL_law_1301 (by decide) ?_
  rintro _ u' ⟨rfl, hI'⟩
  exact g_icmp_eq B 1345 dL_law_1304 (by decide) (fun _ => k u' hI') (fun hc => absurd rfl hc)
set_option maxRecDepth 100000 in
theorem lc_torn (B : Fx X cL_law 4 RL 13 482) (S : Sx X L xs) (hL : L < 2 ^ 31) {i : Nat} (hi : i + 5 ≤ L) (h : Inv I) (k : ∀ u, Inv u → GW X 4 1345 [some (.ref 79), some (.ref 0), some (.ref 57), some (.int (nI i))] [] u) : GW X 4 1309 [some (.ref 79), some (.ref 0), some (.ref 57), some (.int (nI i))] [] I := by
  obtain ⟨rr, U, c1, c2⟩ := op_torn h
  refine g_aload_n B dL_law_1309 rfl ?_
  refine g_callVI B c1 rfl rfl ml_L_177 mm_X6_torn rfl rfl (Nat.le_of_ble_eq_true rfl) dL_law_1310 (by decide) ?_
  rintro _ u ⟨rfl, hU⟩
  refine g_aload_n B dL_law_1313 rfl ?_
  refine g_callVI B (c2 u hU) rfl rfl ml_L_180 mm_X7_torn rfl rfl (Nat.le_of_ble_eq_true rfl) dL_law_1314 (by decide) ?_
  rintro _ u' ⟨rfl, hI'⟩
  exact g_icmp_eq B 1345 dL_law_1317 (by decide) (fun _ => k u' hI') (fun hc => absurd rfl hc)
set_option maxRecDepth 100000 in
theorem lc_count (B : Fx X cL_law 4 RL 13 482) (S : Sx X L xs) (hL : L < 2 ^ 31) {i : Nat} (hi : i + 5 ≤ L) (h : Inv I) (k : ∀ u, Inv u → GW X 4 1345 [some (.ref 79), some (.ref 0), some (.ref 57), some (.int (nI i))] [] u) : GW X 4 1322 [some (.ref 79), some (.ref 0), some (.ref 57), some (.int (nI i))] [] I := by
  obtain ⟨rr, U, c1, c2⟩ := op_count h (xs (i + 1))
  refine g_aload_n B dL_law_1322 rfl ?_
  refine g_aload_n B dL_law_1323 rfl ?_
  refine g_iload_n B dL_law_1324 rfl ?_
  refine g_iconst B (v := 1) dL_law_1325 (by decide) ?_
  refine g_iadd B dL_law_1326 ?_
  refine g_sld B S hL (i + 1) (nI_add i 1) (by omega) dL_law_1327 ?_
  refine g_callVI B c1 rfl rfl ml_L_181 mm_X6_count rfl rfl (Nat.le_of_ble_eq_true rfl) dL_law_1328 (by decide) ?_
  rintro _ u ⟨rfl, hU⟩
  refine g_aload_n B dL_law_1331 rfl ?_
  refine g_aload_n B dL_law_1332 rfl ?_
  refine g_iload_n B dL_law_1333 rfl ?_
  refine g_iconst B (v := 1) dL_law_1334 (by decide) ?_
  refine g_iadd B dL_law_1335 ?_
  refine g_sld B S hL (i + 1) (nI_add i 1) (by omega) dL_law_1336 ?_
  refine g_callVI B (c2 u hU) rfl rfl ml_L_184 mm_X7_count rfl rfl (Nat.le_of_ble_eq_true rfl) dL_law_1337 (by decide) ?_
  rintro _ u' ⟨rfl, hI'⟩
  exact g_icmp_eq B 1345 dL_law_1340 (by decide) (fun _ => k u' hI') (fun hc => absurd rfl hc)
theorem law_c1 {i L : Nat} (hi : i ≤ L + 5) (hL : L ≤ 2560) : nI L - 5 < nI i ↔ L < i + 5 := by
  have e1 : (nI L - 5).toInt = (L : Int) - 5 := by
    rw [Int32.toInt_sub, nI_toInt (by omega)]
    rw [show (5 : Int32).toInt = 5 by decide +kernel]
    exact Int.bmod_eq_of_le (by omega) (by omega)
  rw [Int32.lt_iff_toInt_lt, e1, nI_toInt (by omega)]
  omega
theorem law_c2 (x : Int32) : ∃ v, v < 64 ∧ x &&& 63 = nI v := by
  have e : x = nI x.toBitVec.toNat := by
    apply Int32.toBitVec_inj.mp
    show x.toBitVec = BitVec.ofNat 32 x.toBitVec.toNat
    simp
  refine ⟨x.toBitVec.toNat &&& 63, Nat.and_lt_two_pow _ (by decide : 63 < 2 ^ 6), ?_⟩
  have h := nI_and x.toBitVec.toNat 63
  rw [← e] at h
  exact h

set_option maxRecDepth 100000 in
theorem law_sel (B : Fx X cL_law 4 RL 13 482) (S : Sx X L xs) (hL : L < 2 ^ 31) {i : Nat} (hi : i + 5 ≤ L) (h : Inv I) (k : ∀ u, Inv u → GW X 4 1345 [some (.ref 79), some (.ref 0), some (.ref 57), some (.int (nI i))] [] u) (v : Nat) (hv : v < 64) : GW X 4 32 [some (.ref 79), some (.ref 0), some (.ref 57), some (.int (nI i))] [.int (nI v)] I := by
  by_cases h41 : 41 ≤ v
  · exact g_tableOut B 1345 dL_law_32 (Or.inr (by rw [nI_toInt (by omega)]; omega)) (by decide) (k I h)
  · match v, h41 with
    | 0, _ => exact g_tableIn B 212 dL_law_32 (by decide) (by decide) rfl (by decide) (lc_feed B S hL hi h k)
    | 1, _ => exact g_tableIn B 235 dL_law_32 (by decide) (by decide) rfl (by decide) (lc_end B S hL hi h k)
    | 2, _ => exact g_tableIn B 258 dL_law_32 (by decide) (by decide) rfl (by decide) (lc_text B S hL hi h k)
    | 3, _ => exact g_tableIn B 271 dL_law_32 (by decide) (by decide) rfl (by decide) (lc_fault B S hL hi h k)
    | 4, _ => exact g_tableIn B 284 dL_law_32 (by decide) (by decide) rfl (by decide) (lc_rule B S hL hi h k)
    | 5, _ => exact g_tableIn B 307 dL_law_32 (by decide) (by decide) rfl (by decide) (lc_claim B S hL hi h k)
    | 6, _ => exact g_tableIn B 340 dL_law_32 (by decide) (by decide) rfl (by decide) (lc_plan B S hL hi h k)
    | 7, _ => exact g_tableIn B 363 dL_law_32 (by decide) (by decide) rfl (by decide) (lc_say B S hL hi h k)
    | 8, _ => exact g_tableIn B 386 dL_law_32 (by decide) (by decide) rfl (by decide) (lc_drop B S hL hi h k)
    | 9, _ => exact g_tableIn B 409 dL_law_32 (by decide) (by decide) rfl (by decide) (lc_day B S hL hi h k)
    | 10, _ => exact g_tableIn B 432 dL_law_32 (by decide) (by decide) rfl (by decide) (lc_aim B S hL hi h k)
    | 11, _ => exact g_tableIn B 455 dL_law_32 (by decide) (by decide) rfl (by decide) (lc_leans B S hL hi h k)
    | 12, _ => exact g_tableIn B 514 dL_law_32 (by decide) (by decide) rfl (by decide) (lc_falls B S hL hi h k)
    | 13, _ => exact g_tableIn B 573 dL_law_32 (by decide) (by decide) rfl (by decide) (lc_yards B S hL hi h k)
    | 14, _ => exact g_tableIn B 606 dL_law_32 (by decide) (by decide) rfl (by decide) (lc_plans B S hL hi h k)
    | 15, _ => exact g_tableIn B 629 dL_law_32 (by decide) (by decide) rfl (by decide) (lc_cut B S hL hi h k)
    | 16, _ => exact g_tableIn B 652 dL_law_32 (by decide) (by decide) rfl (by decide) (lc_stands B S hL hi h k)
    | 17, _ => exact g_tableIn B 675 dL_law_32 (by decide) (by decide) rfl (by decide) (lc_sum B S hL hi h k)
    | 18, _ => exact g_tableIn B 698 dL_law_32 (by decide) (by decide) rfl (by decide) (lc_upon B S hL hi h k)
    | 19, _ => exact g_tableIn B 721 dL_law_32 (by decide) (by decide) rfl (by decide) (lc_reply B S hL hi h k)
    | 20, _ => exact g_tableIn B 754 dL_law_32 (by decide) (by decide) rfl (by decide) (lc_ever B S hL hi h k)
    | 21, _ => exact g_tableIn B 777 dL_law_32 (by decide) (by decide) rfl (by decide) (lc_chain B S hL hi h k)
    | 22, _ => exact g_tableIn B 800 dL_law_32 (by decide) (by decide) rfl (by decide) (lc_late B S hL hi h k)
    | 23, _ => exact g_tableIn B 813 dL_law_32 (by decide) (by decide) rfl (by decide) (lc_few B S hL hi h k)
    | 24, _ => exact g_tableIn B 836 dL_law_32 (by decide) (by decide) rfl (by decide) (lc_foil B S hL hi h k)
    | 25, _ => exact g_tableIn B 859 dL_law_32 (by decide) (by decide) rfl (by decide) (lc_trial B S hL hi h k)
    | 26, _ => exact g_tableIn B 882 dL_law_32 (by decide) (by decide) rfl (by decide) (lc_luck B S hL hi h k)
    | 27, _ => exact g_tableIn B 916 dL_law_32 (by decide) (by decide) rfl (by decide) (lc_game B S hL hi h k)
    | 28, _ => exact g_tableIn B 939 dL_law_32 (by decide) (by decide) rfl (by decide) (lc_days B S hL hi h k)
    | 29, _ => exact g_tableIn B 952 dL_law_32 (by decide) (by decide) rfl (by decide) (lc_share B S hL hi h k)
    | 30, _ => exact g_tableIn B 986 dL_law_32 (by decide) (by decide) rfl (by decide) (lc_see B S hL hi h k)
    | 31, _ => exact g_tableIn B 1035 dL_law_32 (by decide) (by decide) rfl (by decide) (lc_forget B S hL hi h k)
    | 32, _ => exact g_tableIn B 1058 dL_law_32 (by decide) (by decide) rfl (by decide) (lc_fits B S hL hi h k)
    | 33, _ => exact g_tableIn B 1081 dL_law_32 (by decide) (by decide) rfl (by decide) (lc_drift B S hL hi h k)
    | 34, _ => exact g_tableIn B 1124 dL_law_32 (by decide) (by decide) rfl (by decide) (lc_keep B S hL hi h k)
    | 35, _ => exact g_tableIn B 1147 dL_law_32 (by decide) (by decide) rfl (by decide) (lc_back B S hL hi h k)
    | 36, _ => exact g_tableIn B 1170 dL_law_32 (by decide) (by decide) rfl (by decide) (lc_sheet B S hL hi h k)
    | 37, _ => exact g_tableIn B 1213 dL_law_32 (by decide) (by decide) rfl (by decide) (lc_lay B S hL hi h k)
    | 38, _ => exact g_tableIn B 1256 dL_law_32 (by decide) (by decide) rfl (by decide) (lc_read B S hL hi h k)
    | 39, _ => exact g_tableIn B 1309 dL_law_32 (by decide) (by decide) rfl (by decide) (lc_torn B S hL hi h k)
    | 40, _ => exact g_tableIn B 1322 dL_law_32 (by decide) (by decide) rfl (by decide) (lc_count B S hL hi h k)
    | v + 41, h41 => exact absurd (by omega) h41
set_option maxRecDepth 100000 in
theorem law_loop (B : Fx X cL_law 4 RL 13 482) (S : Sx X L xs) (hL : L ≤ 2560) (hE : ∀ (ls : List (Option Value)) (u : Wo), GW X 4 1352 ls [.int 1] u) : ∀ (n i : Nat), L + 5 ≤ i + n → i ≤ L + 5 → ∀ I : Wo, Inv I → GW X 4 18 [some (.ref 79), some (.ref 0), some (.ref 57), some (.int (nI i))] [] I
  | 0, i, hn, hi, I, h => by
    refine g_iload_n B dL_law_18 rfl ?_
    refine g_aload_n B dL_law_19 rfl ?_
    refine g_xlen B S dL_law_20 ?_
    refine g_iconst B (v := 5) dL_law_21 (by decide) ?_
    refine g_isub B dL_law_22 ?_
    refine g_icmp_gt B 1351 dL_law_23 (by decide) (fun hc => ?_) (fun hc => absurd ((law_c1 hi hL).mpr (by omega)) hc)
    refine g_iconst B (v := 1) dL_law_1351 (by decide) ?_
    exact hE _ _
  | n + 1, i, hn, hi, I, h => by
    refine g_iload_n B dL_law_18 rfl ?_
    refine g_aload_n B dL_law_19 rfl ?_
    refine g_xlen B S dL_law_20 ?_
    refine g_iconst B (v := 5) dL_law_21 (by decide) ?_
    refine g_isub B dL_law_22 ?_
    refine g_icmp_gt B 1351 dL_law_23 (by decide) (fun hc => ?_) (fun hc => ?_)
    · refine g_iconst B (v := 1) dL_law_1351 (by decide) ?_
      exact hE _ _
    · have hi5 : i + 5 ≤ L := by
        have := mt (law_c1 hi hL).mpr hc
        omega
      refine g_aload_n B dL_law_26 rfl ?_
      refine g_iload_n B dL_law_27 rfl ?_
      refine g_sld B S (by omega) i rfl (by omega) dL_law_28 ?_
      refine g_bipush B (v := 63) dL_law_29 (by decide) ?_
      refine g_iand B dL_law_31 ?_
      obtain ⟨v, hv, e⟩ := law_c2 (xs i)
      refine g_eqi (nI v) e ?_
      refine law_sel B S (by omega) hi5 h (fun u hu => ?_) v hv
      refine g_iinc B (v := nI (i + 5)) dL_law_1345 rfl (nI_add i 5) (by decide) rfl ?_
      refine g_goto B 18 dL_law_1348 (by decide) ?_
      exact law_loop B S hL hE n (i + 5) (by omega) (by omega) u hu
end LAW
