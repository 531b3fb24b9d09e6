/-! THE LAW'S CASES 0 to 13 -/
theorem cs_append {g : pr_C} {X : pr_X} {Q : State → Prop} {cs sl : Nat} {T : pr_T} {I : pr_I} {L : pr_L} {b N x : Nat} {xs : Nat → Int32} (hA : pr_Am g X mLaw 13 601024 7293034) (hs : Scr g X b N xs) {i : Int32} (h1 : vp_in (i + 1) N) (h2 : vp_in (i + 2) N) (h3 : vp_in (i + 3) N) (h4 : vp_in (i + 4) N) (hcs : cs + 122 ≤ 601024) (hsl : sl + 5821 ≤ 7293034) (h : LI x T I L) (nx : ∀ T' I' L', LI x T' I' L' → pr_G g X 8 Q (cs + 122) (sl + 5821) 3256 (lwL b x i) [] T' I' L') : pr_G g X 8 Q cs sl 276 (lwL b x i) [] T I L := by
  obtain ⟨d1, d2, r, I1, I2, L1, hd1, hd2, ⟨bb, rfl⟩, hC, hM2, h2'⟩ := S_append (g := g) (l := pr_launch X) (q := ((xs (i + 1).toNatClampNeg).toInt64 <<< (((32 : Int32)).toInt64 &&& 63) ||| ((xs (i + 2).toNatClampNeg).toInt64 &&& (4294967295 : Int64)))) (pr_hl hA) h
  have x7 : T.2.1 x = (7, 0) := by
    obtain ⟨_, _, _, _, _, _, hS, _⟩ := h
    exact hS.1.1
  have x8 : T.2.1 (x + 251) = (8, 0) := by
    obtain ⟨_, _, _, _, _, _, hS, _⟩ := h
    exact mo_k0 hS.2.2.2.2.2.2.1
  refine pr_aload_n (n := 1) hA dM_276 rfl ?_
  refine lw_arg hA hs 1 dM_277 dM_278 dM_280 (by decide) dM_281 dM_282 rfl rfl h1 ?_
  refine pr_i2l hA dM_283 ?_
  refine pr_bipush hA 32 dM_284 (by decide) ?_
  refine pr_lshl hA dM_286 ?_
  refine lw_arg hA hs 2 dM_287 dM_288 dM_290 (by decide) dM_291 dM_292 rfl rfl h2 ?_
  refine pr_i2l hA dM_293 ?_
  refine pr_ldc2 hA kK_L_145 dM_294 ?_
  refine pr_land hA dM_297 ?_
  refine pr_lor hA dM_298 ?_
  refine pr_callV (st := []) (As := [.long ((xs (i + 1).toNatClampNeg).toInt64 <<< (((32 : Int32)).toInt64 &&& 63) ||| ((xs (i + 2).toNatClampNeg).toInt64 &&& (4294967295 : Int64)))]) hA rfl hC v_L_147 x7 (by decide) rfl rfl rfl (by omega) (by omega) (by omega) rfl (Nat.le_of_ble_eq_true rfl) dM_299 (fun v T1 I3 L3 hv => ?_) (fun _ _ _ _ h => h.elim)
  obtain ⟨rfl, rfl, rfl, rfl⟩ := hv
  refine pr_aload_n (n := 2) hA dM_302 rfl ?_
  refine lw_arg hA hs 1 dM_303 dM_304 dM_306 (by decide) dM_307 dM_308 rfl rfl h1 ?_
  refine pr_i2l hA dM_309 ?_
  refine pr_bipush hA 32 dM_310 (by decide) ?_
  refine pr_lshl hA dM_312 ?_
  refine lw_arg hA hs 2 dM_313 dM_314 dM_316 (by decide) dM_317 dM_318 rfl rfl h2 ?_
  refine pr_i2l hA dM_319 ?_
  refine pr_ldc2 hA kK_L_145 dM_320 ?_
  refine pr_land hA dM_323 ?_
  refine pr_lor hA dM_324 ?_
  refine pr_callV (st := [.int bb]) (As := [.long ((xs (i + 1).toNatClampNeg).toInt64 <<< (((32 : Int32)).toInt64 &&& 63) ||| ((xs (i + 2).toNatClampNeg).toInt64 &&& (4294967295 : Int64)))]) hA rfl hM2 v_L_151 x8 (by decide) rfl rfl rfl (by omega) (by omega) (by omega) rfl (Nat.le_of_ble_eq_true rfl) dM_325 (fun v T1 I3 L3 hv => ?_) (fun _ _ _ _ h => h.elim)
  obtain ⟨rfl, rfl, rfl, rfl⟩ := hv
  exact pr_icmp_eq hA 3256 dM_328 (by decide) (fun _ => pr_more (by omega) (by omega) (nx _ _ _ h2')) (fun c => absurd rfl c)
theorem cs_load {g : pr_C} {X : pr_X} {Q : State → Prop} {cs sl : Nat} {T : pr_T} {I : pr_I} {L : pr_L} {b N x : Nat} {xs : Nat → Int32} (hA : pr_Am g X mLaw 13 601024 7293034) (hs : Scr g X b N xs) {i : Int32} (h1 : vp_in (i + 1) N) (h2 : vp_in (i + 2) N) (h3 : vp_in (i + 3) N) (h4 : vp_in (i + 4) N) (hcs : cs + 122 ≤ 601024) (hsl : sl + 5821 ≤ 7293034) (h : LI x T I L) (nx : ∀ T' I' L', LI x T' I' L' → pr_G g X 8 Q (cs + 122) (sl + 5821) 3256 (lwL b x i) [] T' I' L') : pr_G g X 8 Q cs sl 333 (lwL b x i) [] T I L := by
  obtain ⟨d1, d2, r, I1, I2, L1, hd1, hd2, ⟨bb, rfl⟩, hC, hM2, h2'⟩ := S_load (g := g) (l := pr_launch X) (pr_hl hA) h
  have x7 : T.2.1 x = (7, 0) := by
    obtain ⟨_, _, _, _, _, _, hS, _⟩ := h
    exact hS.1.1
  have x8 : T.2.1 (x + 251) = (8, 0) := by
    obtain ⟨_, _, _, _, _, _, hS, _⟩ := h
    exact mo_k0 hS.2.2.2.2.2.2.1
  refine pr_aload_n (n := 1) hA dM_333 rfl ?_
  refine pr_callV (st := []) (As := []) hA rfl hC v_L_152 x7 (by decide) rfl rfl rfl (by omega) (by omega) (by omega) rfl (Nat.le_of_ble_eq_true rfl) dM_334 (fun v T1 I3 L3 hv => ?_) (fun _ _ _ _ h => h.elim)
  obtain ⟨rfl, rfl, rfl, rfl⟩ := hv
  refine pr_aload_n (n := 2) hA dM_337 rfl ?_
  refine pr_callV (st := [.int bb]) (As := []) hA rfl hM2 v_L_156 x8 (by decide) rfl rfl rfl (by omega) (by omega) (by omega) rfl (Nat.le_of_ble_eq_true rfl) dM_338 (fun v T1 I3 L3 hv => ?_) (fun _ _ _ _ h => h.elim)
  obtain ⟨rfl, rfl, rfl, rfl⟩ := hv
  exact pr_icmp_eq hA 3256 dM_341 (by decide) (fun _ => pr_more (by omega) (by omega) (nx _ _ _ h2')) (fun c => absurd rfl c)
theorem cs_loadError {g : pr_C} {X : pr_X} {Q : State → Prop} {cs sl : Nat} {T : pr_T} {I : pr_I} {L : pr_L} {b N x : Nat} {xs : Nat → Int32} (hA : pr_Am g X mLaw 13 601024 7293034) (hs : Scr g X b N xs) {i : Int32} (h1 : vp_in (i + 1) N) (h2 : vp_in (i + 2) N) (h3 : vp_in (i + 3) N) (h4 : vp_in (i + 4) N) (hcs : cs + 122 ≤ 601024) (hsl : sl + 5821 ≤ 7293034) (h : LI x T I L) (nx : ∀ T' I' L', LI x T' I' L' → pr_G g X 8 Q (cs + 122) (sl + 5821) 3256 (lwL b x i) [] T' I' L') : pr_G g X 8 Q cs sl 346 (lwL b x i) [] T I L := by
  obtain ⟨d1, d2, r, I1, I2, L1, hd1, hd2, ⟨bb, rfl⟩, hC, hM2, h2'⟩ := S_loadError (g := g) (l := pr_launch X) (pr_hl hA) h
  have x7 : T.2.1 x = (7, 0) := by
    obtain ⟨_, _, _, _, _, _, hS, _⟩ := h
    exact hS.1.1
  have x8 : T.2.1 (x + 251) = (8, 0) := by
    obtain ⟨_, _, _, _, _, _, hS, _⟩ := h
    exact mo_k0 hS.2.2.2.2.2.2.1
  refine pr_aload_n (n := 1) hA dM_346 rfl ?_
  refine pr_callV (st := []) (As := []) hA rfl hC v_L_157 x7 (by decide) rfl rfl rfl (by omega) (by omega) (by omega) rfl (Nat.le_of_ble_eq_true rfl) dM_347 (fun v T1 I3 L3 hv => ?_) (fun _ _ _ _ h => h.elim)
  obtain ⟨rfl, rfl, rfl, rfl⟩ := hv
  refine pr_aload_n (n := 2) hA dM_350 rfl ?_
  refine pr_callV (st := [.int bb]) (As := []) hA rfl hM2 v_L_160 x8 (by decide) rfl rfl rfl (by omega) (by omega) (by omega) rfl (Nat.le_of_ble_eq_true rfl) dM_351 (fun v T1 I3 L3 hv => ?_) (fun _ _ _ _ h => h.elim)
  obtain ⟨rfl, rfl, rfl, rfl⟩ := hv
  exact pr_icmp_eq hA 3256 dM_354 (by decide) (fun _ => pr_more (by omega) (by omega) (nx _ _ _ h2')) (fun c => absurd rfl c)
theorem cs_nodeNamed {g : pr_C} {X : pr_X} {Q : State → Prop} {cs sl : Nat} {T : pr_T} {I : pr_I} {L : pr_L} {b N x : Nat} {xs : Nat → Int32} (hA : pr_Am g X mLaw 13 601024 7293034) (hs : Scr g X b N xs) {i : Int32} (h1 : vp_in (i + 1) N) (h2 : vp_in (i + 2) N) (h3 : vp_in (i + 3) N) (h4 : vp_in (i + 4) N) (hcs : cs + 122 ≤ 601024) (hsl : sl + 5821 ≤ 7293034) (h : LI x T I L) (nx : ∀ T' I' L', LI x T' I' L' → pr_G g X 8 Q (cs + 122) (sl + 5821) 3256 (lwL b x i) [] T' I' L') : pr_G g X 8 Q cs sl 359 (lwL b x i) [] T I L := by
  obtain ⟨d1, d2, r, I1, I2, L1, hd1, hd2, ⟨bb, rfl⟩, hC, hM2, h2'⟩ := S_nodeNamed (g := g) (l := pr_launch X) (pr_hl hA) h
  have x7 : T.2.1 x = (7, 0) := by
    obtain ⟨_, _, _, _, _, _, hS, _⟩ := h
    exact hS.1.1
  have x8 : T.2.1 (x + 251) = (8, 0) := by
    obtain ⟨_, _, _, _, _, _, hS, _⟩ := h
    exact mo_k0 hS.2.2.2.2.2.2.1
  refine pr_aload_n (n := 1) hA dM_359 rfl ?_
  refine pr_callV (st := []) (As := []) hA rfl hC v_L_161 x7 (by decide) rfl rfl rfl (by omega) (by omega) (by omega) rfl (Nat.le_of_ble_eq_true rfl) dM_360 (fun v T1 I3 L3 hv => ?_) (fun _ _ _ _ h => h.elim)
  obtain ⟨rfl, rfl, rfl, rfl⟩ := hv
  refine pr_aload_n (n := 2) hA dM_363 rfl ?_
  refine pr_callV (st := [.int bb]) (As := []) hA rfl hM2 v_L_164 x8 (by decide) rfl rfl rfl (by omega) (by omega) (by omega) rfl (Nat.le_of_ble_eq_true rfl) dM_364 (fun v T1 I3 L3 hv => ?_) (fun _ _ _ _ h => h.elim)
  obtain ⟨rfl, rfl, rfl, rfl⟩ := hv
  exact pr_icmp_eq hA 3256 dM_367 (by decide) (fun _ => pr_more (by omega) (by omega) (nx _ _ _ h2')) (fun c => absurd rfl c)
theorem cs_nodeCount {g : pr_C} {X : pr_X} {Q : State → Prop} {cs sl : Nat} {T : pr_T} {I : pr_I} {L : pr_L} {b N x : Nat} {xs : Nat → Int32} (hA : pr_Am g X mLaw 13 601024 7293034) (hs : Scr g X b N xs) {i : Int32} (h1 : vp_in (i + 1) N) (h2 : vp_in (i + 2) N) (h3 : vp_in (i + 3) N) (h4 : vp_in (i + 4) N) (hcs : cs + 122 ≤ 601024) (hsl : sl + 5821 ≤ 7293034) (h : LI x T I L) (nx : ∀ T' I' L', LI x T' I' L' → pr_G g X 8 Q (cs + 122) (sl + 5821) 3256 (lwL b x i) [] T' I' L') : pr_G g X 8 Q cs sl 372 (lwL b x i) [] T I L := by
  obtain ⟨d1, d2, r, I1, I2, L1, hd1, hd2, ⟨bb, rfl⟩, hC, hM2, h2'⟩ := S_nodeCount (g := g) (l := pr_launch X) (pr_hl hA) h
  have x7 : T.2.1 x = (7, 0) := by
    obtain ⟨_, _, _, _, _, _, hS, _⟩ := h
    exact hS.1.1
  have x8 : T.2.1 (x + 251) = (8, 0) := by
    obtain ⟨_, _, _, _, _, _, hS, _⟩ := h
    exact mo_k0 hS.2.2.2.2.2.2.1
  refine pr_aload_n (n := 1) hA dM_372 rfl ?_
  refine pr_callV (st := []) (As := []) hA rfl hC v_L_165 x7 (by decide) rfl rfl rfl (by omega) (by omega) (by omega) rfl (Nat.le_of_ble_eq_true rfl) dM_373 (fun v T1 I3 L3 hv => ?_) (fun _ _ _ _ h => h.elim)
  obtain ⟨rfl, rfl, rfl, rfl⟩ := hv
  refine pr_aload_n (n := 2) hA dM_376 rfl ?_
  refine pr_callV (st := [.int bb]) (As := []) hA rfl hM2 v_L_168 x8 (by decide) rfl rfl rfl (by omega) (by omega) (by omega) rfl (Nat.le_of_ble_eq_true rfl) dM_377 (fun v T1 I3 L3 hv => ?_) (fun _ _ _ _ h => h.elim)
  obtain ⟨rfl, rfl, rfl, rfl⟩ := hv
  exact pr_icmp_eq hA 3256 dM_380 (by decide) (fun _ => pr_more (by omega) (by omega) (nx _ _ _ h2')) (fun c => absurd rfl c)
theorem cs_linkCount {g : pr_C} {X : pr_X} {Q : State → Prop} {cs sl : Nat} {T : pr_T} {I : pr_I} {L : pr_L} {b N x : Nat} {xs : Nat → Int32} (hA : pr_Am g X mLaw 13 601024 7293034) (hs : Scr g X b N xs) {i : Int32} (h1 : vp_in (i + 1) N) (h2 : vp_in (i + 2) N) (h3 : vp_in (i + 3) N) (h4 : vp_in (i + 4) N) (hcs : cs + 122 ≤ 601024) (hsl : sl + 5821 ≤ 7293034) (h : LI x T I L) (nx : ∀ T' I' L', LI x T' I' L' → pr_G g X 8 Q (cs + 122) (sl + 5821) 3256 (lwL b x i) [] T' I' L') : pr_G g X 8 Q cs sl 385 (lwL b x i) [] T I L := by
  obtain ⟨d1, d2, r, I1, I2, L1, hd1, hd2, ⟨bb, rfl⟩, hC, hM2, h2'⟩ := S_linkCount (g := g) (l := pr_launch X) (pr_hl hA) h
  have x7 : T.2.1 x = (7, 0) := by
    obtain ⟨_, _, _, _, _, _, hS, _⟩ := h
    exact hS.1.1
  have x8 : T.2.1 (x + 251) = (8, 0) := by
    obtain ⟨_, _, _, _, _, _, hS, _⟩ := h
    exact mo_k0 hS.2.2.2.2.2.2.1
  refine pr_aload_n (n := 1) hA dM_385 rfl ?_
  refine pr_callV (st := []) (As := []) hA rfl hC v_L_169 x7 (by decide) rfl rfl rfl (by omega) (by omega) (by omega) rfl (Nat.le_of_ble_eq_true rfl) dM_386 (fun v T1 I3 L3 hv => ?_) (fun _ _ _ _ h => h.elim)
  obtain ⟨rfl, rfl, rfl, rfl⟩ := hv
  refine pr_aload_n (n := 2) hA dM_389 rfl ?_
  refine pr_callV (st := [.int bb]) (As := []) hA rfl hM2 v_L_172 x8 (by decide) rfl rfl rfl (by omega) (by omega) (by omega) rfl (Nat.le_of_ble_eq_true rfl) dM_390 (fun v T1 I3 L3 hv => ?_) (fun _ _ _ _ h => h.elim)
  obtain ⟨rfl, rfl, rfl, rfl⟩ := hv
  exact pr_icmp_eq hA 3256 dM_393 (by decide) (fun _ => pr_more (by omega) (by omega) (nx _ _ _ h2')) (fun c => absurd rfl c)
theorem cs_nameLetter {g : pr_C} {X : pr_X} {Q : State → Prop} {cs sl : Nat} {T : pr_T} {I : pr_I} {L : pr_L} {b N x : Nat} {xs : Nat → Int32} (hA : pr_Am g X mLaw 13 601024 7293034) (hs : Scr g X b N xs) {i : Int32} (h1 : vp_in (i + 1) N) (h2 : vp_in (i + 2) N) (h3 : vp_in (i + 3) N) (h4 : vp_in (i + 4) N) (hcs : cs + 122 ≤ 601024) (hsl : sl + 5821 ≤ 7293034) (h : LI x T I L) (nx : ∀ T' I' L', LI x T' I' L' → pr_G g X 8 Q (cs + 122) (sl + 5821) 3256 (lwL b x i) [] T' I' L') : pr_G g X 8 Q cs sl 398 (lwL b x i) [] T I L := by
  obtain ⟨d1, mc1, ms1, Φ, hd1, hmc, hms, hC, K⟩ := S_nameLetter (g := g) (l := pr_launch X) (p1 := xs (i + 1).toNatClampNeg) (p2 := xs (i + 2).toNatClampNeg) (pr_hl hA) h
  refine pr_aload_n (n := 1) hA dM_398 rfl ?_
  refine lw_arg hA hs 1 dM_399 dM_400 dM_402 (by decide) dM_403 dM_404 rfl rfl h1 ?_
  refine lw_arg hA hs 2 dM_405 dM_406 dM_408 (by decide) dM_409 dM_410 rfl rfl h2 ?_
  refine pr_aload_n (n := 3) hA dM_411 rfl ?_
  refine pr_callSH (n := 4) (st := []) (As := [.ref x, .int (xs (i + 1).toNatClampNeg), .int (xs (i + 2).toNatClampNeg), .ref (x + 267)]) hA rfl hC kM_L_173 kZ_L kW_L_nameLetter (by decide +kernel) (by decide) rfl kT_L_nameLetter rfl (by omega) (by omega) (by omega) rfl (Nat.le_of_ble_eq_true rfl) dM_412 (fun v T1 I1 L1 hv => ?_)
  obtain ⟨k, rfl, d2, Φ2, hd2, hk8, hM2, K2⟩ := K v T1 I1 L1 hv
  refine pr_istore (ls' := [.ref b, .ref x, .ref (x + 251), .ref (x + 267), .int i, .int k, .null, .null]) hA dM_415 (by decide) rfl ?_
  refine pr_aload_n (n := 2) hA dM_417 rfl ?_
  refine lw_arg hA hs 1 dM_418 dM_419 dM_421 (by decide) dM_422 dM_423 rfl rfl h1 ?_
  refine lw_arg hA hs 2 dM_424 dM_425 dM_427 (by decide) dM_428 dM_429 rfl rfl h2 ?_
  refine pr_callV (st := []) (As := [.int (xs (i + 1).toNatClampNeg), .int (xs (i + 2).toNatClampNeg)]) hA rfl hM2 v_L_178 hk8 (by decide) rfl rfl rfl (by omega) (by omega) (by omega) rfl (Nat.le_of_ble_eq_true rfl) dM_430 (fun v T2 I2 L2 hv => ?_) (fun _ _ _ _ h => h.elim)
  obtain ⟨⟨_, rfl, bb, rfl, hr⟩, h6, h2⟩ := K2 v T2 I2 L2 hv
  exact lw_tail hA dM_433 dM_435 dM_436 dM_439 dM_441 dM_446 dM_448 dM_451 dM_452 dM_453 dM_454 dM_456 dM_457 dM_458 dM_463 (by decide) (by omega) (by omega) hcs hsl hr h6 h2 nx
theorem cs_linkValue {g : pr_C} {X : pr_X} {Q : State → Prop} {cs sl : Nat} {T : pr_T} {I : pr_I} {L : pr_L} {b N x : Nat} {xs : Nat → Int32} (hA : pr_Am g X mLaw 13 601024 7293034) (hs : Scr g X b N xs) {i : Int32} (h1 : vp_in (i + 1) N) (h2 : vp_in (i + 2) N) (h3 : vp_in (i + 3) N) (h4 : vp_in (i + 4) N) (hcs : cs + 122 ≤ 601024) (hsl : sl + 5821 ≤ 7293034) (h : LI x T I L) (nx : ∀ T' I' L', LI x T' I' L' → pr_G g X 8 Q (cs + 122) (sl + 5821) 3256 (lwL b x i) [] T' I' L') : pr_G g X 8 Q cs sl 466 (lwL b x i) [] T I L := by
  obtain ⟨d1, mc1, ms1, Φ, hd1, hmc, hms, hC, K⟩ := S_linkValue (g := g) (l := pr_launch X) (p1 := xs (i + 1).toNatClampNeg) (p2 := xs (i + 2).toNatClampNeg) (pr_hl hA) h
  refine pr_aload_n (n := 1) hA dM_466 rfl ?_
  refine lw_arg hA hs 1 dM_467 dM_468 dM_470 (by decide) dM_471 dM_472 rfl rfl h1 ?_
  refine lw_arg hA hs 2 dM_473 dM_474 dM_476 (by decide) dM_477 dM_478 rfl rfl h2 ?_
  refine pr_aload_n (n := 3) hA dM_479 rfl ?_
  refine pr_callSH (n := 4) (st := []) (As := [.ref x, .int (xs (i + 1).toNatClampNeg), .int (xs (i + 2).toNatClampNeg), .ref (x + 267)]) hA rfl hC kM_L_182 kZ_L kW_L_linkValue (by decide +kernel) (by decide) rfl kT_L_linkValue rfl (by omega) (by omega) (by omega) rfl (Nat.le_of_ble_eq_true rfl) dM_480 (fun v T1 I1 L1 hv => ?_)
  obtain ⟨k, rfl, d2, Φ2, hd2, hk8, hM2, K2⟩ := K v T1 I1 L1 hv
  refine pr_istore (ls' := [.ref b, .ref x, .ref (x + 251), .ref (x + 267), .int i, .int k, .null, .null]) hA dM_483 (by decide) rfl ?_
  refine pr_aload_n (n := 2) hA dM_485 rfl ?_
  refine lw_arg hA hs 1 dM_486 dM_487 dM_489 (by decide) dM_490 dM_491 rfl rfl h1 ?_
  refine lw_arg hA hs 2 dM_492 dM_493 dM_495 (by decide) dM_496 dM_497 rfl rfl h2 ?_
  refine pr_callV (st := []) (As := [.int (xs (i + 1).toNatClampNeg), .int (xs (i + 2).toNatClampNeg)]) hA rfl hM2 v_L_184 hk8 (by decide) rfl rfl rfl (by omega) (by omega) (by omega) rfl (Nat.le_of_ble_eq_true rfl) dM_498 (fun v T2 I2 L2 hv => ?_) (fun _ _ _ _ h => h.elim)
  obtain ⟨⟨_, rfl, bb, rfl, hr⟩, h6, h2⟩ := K2 v T2 I2 L2 hv
  exact lw_tail hA dM_501 dM_503 dM_504 dM_507 dM_509 dM_514 dM_516 dM_519 dM_520 dM_521 dM_522 dM_524 dM_525 dM_526 dM_531 (by decide) (by omega) (by omega) hcs hsl hr h6 h2 nx
theorem cs_setting {g : pr_C} {X : pr_X} {Q : State → Prop} {cs sl : Nat} {T : pr_T} {I : pr_I} {L : pr_L} {b N x : Nat} {xs : Nat → Int32} (hA : pr_Am g X mLaw 13 601024 7293034) (hs : Scr g X b N xs) {i : Int32} (h1 : vp_in (i + 1) N) (h2 : vp_in (i + 2) N) (h3 : vp_in (i + 3) N) (h4 : vp_in (i + 4) N) (hcs : cs + 122 ≤ 601024) (hsl : sl + 5821 ≤ 7293034) (h : LI x T I L) (nx : ∀ T' I' L', LI x T' I' L' → pr_G g X 8 Q (cs + 122) (sl + 5821) 3256 (lwL b x i) [] T' I' L') : pr_G g X 8 Q cs sl 534 (lwL b x i) [] T I L := by
  obtain ⟨d1, mc1, ms1, Φ, hd1, hmc, hms, hC, K⟩ := S_setting (g := g) (l := pr_launch X) (p1 := xs (i + 1).toNatClampNeg) (pr_hl hA) h
  refine pr_aload_n (n := 1) hA dM_534 rfl ?_
  refine lw_arg hA hs 1 dM_535 dM_536 dM_538 (by decide) dM_539 dM_540 rfl rfl h1 ?_
  refine pr_aload_n (n := 3) hA dM_541 rfl ?_
  refine pr_callSH (n := 3) (st := []) (As := [.ref x, .int (xs (i + 1).toNatClampNeg), .ref (x + 267)]) hA rfl hC kM_L_185 kZ_L kW_L_setting (by decide +kernel) (by decide) rfl kT_L_setting rfl (by omega) (by omega) (by omega) rfl (Nat.le_of_ble_eq_true rfl) dM_542 (fun v T1 I1 L1 hv => ?_)
  obtain ⟨k, rfl, d2, Φ2, hd2, hk8, hM2, K2⟩ := K v T1 I1 L1 hv
  refine pr_istore (ls' := [.ref b, .ref x, .ref (x + 251), .ref (x + 267), .int i, .int k, .null, .null]) hA dM_545 (by decide) rfl ?_
  refine pr_aload_n (n := 2) hA dM_547 rfl ?_
  refine lw_arg hA hs 1 dM_548 dM_549 dM_551 (by decide) dM_552 dM_553 rfl rfl h1 ?_
  refine pr_callV (st := []) (As := [.int (xs (i + 1).toNatClampNeg)]) hA rfl hM2 v_L_188 hk8 (by decide) rfl rfl rfl (by omega) (by omega) (by omega) rfl (Nat.le_of_ble_eq_true rfl) dM_554 (fun v T2 I2 L2 hv => ?_) (fun _ _ _ _ h => h.elim)
  obtain ⟨⟨_, rfl, bb, rfl, hr⟩, h6, h2⟩ := K2 v T2 I2 L2 hv
  exact lw_tail hA dM_557 dM_559 dM_560 dM_563 dM_565 dM_570 dM_572 dM_575 dM_576 dM_577 dM_578 dM_580 dM_581 dM_582 dM_587 (by decide) (by omega) (by omega) hcs hsl hr h6 h2 nx
theorem cs_setSetting {g : pr_C} {X : pr_X} {Q : State → Prop} {cs sl : Nat} {T : pr_T} {I : pr_I} {L : pr_L} {b N x : Nat} {xs : Nat → Int32} (hA : pr_Am g X mLaw 13 601024 7293034) (hs : Scr g X b N xs) {i : Int32} (h1 : vp_in (i + 1) N) (h2 : vp_in (i + 2) N) (h3 : vp_in (i + 3) N) (h4 : vp_in (i + 4) N) (hcs : cs + 122 ≤ 601024) (hsl : sl + 5821 ≤ 7293034) (h : LI x T I L) (nx : ∀ T' I' L', LI x T' I' L' → pr_G g X 8 Q (cs + 122) (sl + 5821) 3256 (lwL b x i) [] T' I' L') : pr_G g X 8 Q cs sl 590 (lwL b x i) [] T I L := by
  obtain ⟨d1, mc1, ms1, Φ, hd1, hmc, hms, hC, K⟩ := S_setSetting (g := g) (l := pr_launch X) (p1 := xs (i + 1).toNatClampNeg) (p2 := xs (i + 2).toNatClampNeg) (pr_hl hA) h
  refine pr_aload_n (n := 1) hA dM_590 rfl ?_
  refine lw_arg hA hs 1 dM_591 dM_592 dM_594 (by decide) dM_595 dM_596 rfl rfl h1 ?_
  refine lw_arg hA hs 2 dM_597 dM_598 dM_600 (by decide) dM_601 dM_602 rfl rfl h2 ?_
  refine pr_aload_n (n := 3) hA dM_603 rfl ?_
  refine pr_callSH (n := 4) (st := []) (As := [.ref x, .int (xs (i + 1).toNatClampNeg), .int (xs (i + 2).toNatClampNeg), .ref (x + 267)]) hA rfl hC kM_L_189 kZ_L kW_L_setSetting (by decide +kernel) (by decide) rfl kT_L_setSetting rfl (by omega) (by omega) (by omega) rfl (Nat.le_of_ble_eq_true rfl) dM_604 (fun v T1 I1 L1 hv => ?_)
  obtain ⟨k, rfl, d2, Φ2, hd2, hk8, hM2, K2⟩ := K v T1 I1 L1 hv
  refine pr_istore (ls' := [.ref b, .ref x, .ref (x + 251), .ref (x + 267), .int i, .int k, .null, .null]) hA dM_607 (by decide) rfl ?_
  refine pr_aload_n (n := 2) hA dM_609 rfl ?_
  refine lw_arg hA hs 1 dM_610 dM_611 dM_613 (by decide) dM_614 dM_615 rfl rfl h1 ?_
  refine lw_arg hA hs 2 dM_616 dM_617 dM_619 (by decide) dM_620 dM_621 rfl rfl h2 ?_
  refine pr_callV (st := []) (As := [.int (xs (i + 1).toNatClampNeg), .int (xs (i + 2).toNatClampNeg)]) hA rfl hM2 v_L_191 hk8 (by decide) rfl rfl rfl (by omega) (by omega) (by omega) rfl (Nat.le_of_ble_eq_true rfl) dM_622 (fun v T2 I2 L2 hv => ?_) (fun _ _ _ _ h => h.elim)
  obtain ⟨⟨_, rfl, bb, rfl, hr⟩, h6, h2⟩ := K2 v T2 I2 L2 hv
  exact lw_tail hA dM_625 dM_627 dM_628 dM_631 dM_633 dM_638 dM_640 dM_643 dM_644 dM_645 dM_646 dM_648 dM_649 dM_650 dM_655 (by decide) (by omega) (by omega) hcs hsl hr h6 h2 nx
theorem cs_setCapacity {g : pr_C} {X : pr_X} {Q : State → Prop} {cs sl : Nat} {T : pr_T} {I : pr_I} {L : pr_L} {b N x : Nat} {xs : Nat → Int32} (hA : pr_Am g X mLaw 13 601024 7293034) (hs : Scr g X b N xs) {i : Int32} (h1 : vp_in (i + 1) N) (h2 : vp_in (i + 2) N) (h3 : vp_in (i + 3) N) (h4 : vp_in (i + 4) N) (hcs : cs + 122 ≤ 601024) (hsl : sl + 5821 ≤ 7293034) (h : LI x T I L) (nx : ∀ T' I' L', LI x T' I' L' → pr_G g X 8 Q (cs + 122) (sl + 5821) 3256 (lwL b x i) [] T' I' L') : pr_G g X 8 Q cs sl 658 (lwL b x i) [] T I L := by
  obtain ⟨d1, mc1, ms1, Φ, hd1, hmc, hms, hC, K⟩ := S_setCapacity (g := g) (l := pr_launch X) (p1 := xs (i + 1).toNatClampNeg) (p2 := xs (i + 2).toNatClampNeg) (pr_hl hA) h
  refine pr_aload_n (n := 1) hA dM_658 rfl ?_
  refine lw_arg hA hs 1 dM_659 dM_660 dM_662 (by decide) dM_663 dM_664 rfl rfl h1 ?_
  refine lw_arg hA hs 2 dM_665 dM_666 dM_668 (by decide) dM_669 dM_670 rfl rfl h2 ?_
  refine pr_aload_n (n := 3) hA dM_671 rfl ?_
  refine pr_callSH (n := 4) (st := []) (As := [.ref x, .int (xs (i + 1).toNatClampNeg), .int (xs (i + 2).toNatClampNeg), .ref (x + 267)]) hA rfl hC kM_L_192 kZ_L kW_L_setCapacity (by decide +kernel) (by decide) rfl kT_L_setCapacity rfl (by omega) (by omega) (by omega) rfl (Nat.le_of_ble_eq_true rfl) dM_672 (fun v T1 I1 L1 hv => ?_)
  obtain ⟨k, rfl, d2, Φ2, hd2, hk8, hM2, K2⟩ := K v T1 I1 L1 hv
  refine pr_istore (ls' := [.ref b, .ref x, .ref (x + 251), .ref (x + 267), .int i, .int k, .null, .null]) hA dM_675 (by decide) rfl ?_
  refine pr_aload_n (n := 2) hA dM_677 rfl ?_
  refine lw_arg hA hs 1 dM_678 dM_679 dM_681 (by decide) dM_682 dM_683 rfl rfl h1 ?_
  refine lw_arg hA hs 2 dM_684 dM_685 dM_687 (by decide) dM_688 dM_689 rfl rfl h2 ?_
  refine pr_callV (st := []) (As := [.int (xs (i + 1).toNatClampNeg), .int (xs (i + 2).toNatClampNeg)]) hA rfl hM2 v_L_194 hk8 (by decide) rfl rfl rfl (by omega) (by omega) (by omega) rfl (Nat.le_of_ble_eq_true rfl) dM_690 (fun v T2 I2 L2 hv => ?_) (fun _ _ _ _ h => h.elim)
  obtain ⟨⟨_, rfl, bb, rfl, hr⟩, h6, h2⟩ := K2 v T2 I2 L2 hv
  exact lw_tail hA dM_693 dM_695 dM_696 dM_699 dM_701 dM_706 dM_708 dM_711 dM_712 dM_713 dM_714 dM_716 dM_717 dM_718 dM_723 (by decide) (by omega) (by omega) hcs hsl hr h6 h2 nx
theorem cs_takeDown {g : pr_C} {X : pr_X} {Q : State → Prop} {cs sl : Nat} {T : pr_T} {I : pr_I} {L : pr_L} {b N x : Nat} {xs : Nat → Int32} (hA : pr_Am g X mLaw 13 601024 7293034) (hs : Scr g X b N xs) {i : Int32} (h1 : vp_in (i + 1) N) (h2 : vp_in (i + 2) N) (h3 : vp_in (i + 3) N) (h4 : vp_in (i + 4) N) (hcs : cs + 122 ≤ 601024) (hsl : sl + 5821 ≤ 7293034) (h : LI x T I L) (nx : ∀ T' I' L', LI x T' I' L' → pr_G g X 8 Q (cs + 122) (sl + 5821) 3256 (lwL b x i) [] T' I' L') : pr_G g X 8 Q cs sl 726 (lwL b x i) [] T I L := by
  obtain ⟨d1, mc1, ms1, Φ, hd1, hmc, hms, hC, K⟩ := S_takeDown (g := g) (l := pr_launch X) (p1 := xs (i + 1).toNatClampNeg) (pr_hl hA) h
  refine pr_aload_n (n := 1) hA dM_726 rfl ?_
  refine lw_arg hA hs 1 dM_727 dM_728 dM_730 (by decide) dM_731 dM_732 rfl rfl h1 ?_
  refine pr_aload_n (n := 3) hA dM_733 rfl ?_
  refine pr_callSH (n := 3) (st := []) (As := [.ref x, .int (xs (i + 1).toNatClampNeg), .ref (x + 267)]) hA rfl hC kM_L_195 kZ_L kW_L_takeDown (by decide +kernel) (by decide) rfl kT_L_takeDown rfl (by omega) (by omega) (by omega) rfl (Nat.le_of_ble_eq_true rfl) dM_734 (fun v T1 I1 L1 hv => ?_)
  obtain ⟨k, rfl, d2, Φ2, hd2, hk8, hM2, K2⟩ := K v T1 I1 L1 hv
  refine pr_istore (ls' := [.ref b, .ref x, .ref (x + 251), .ref (x + 267), .int i, .int k, .null, .null]) hA dM_737 (by decide) rfl ?_
  refine pr_aload_n (n := 2) hA dM_739 rfl ?_
  refine lw_arg hA hs 1 dM_740 dM_741 dM_743 (by decide) dM_744 dM_745 rfl rfl h1 ?_
  refine pr_callV (st := []) (As := [.int (xs (i + 1).toNatClampNeg)]) hA rfl hM2 v_L_197 hk8 (by decide) rfl rfl rfl (by omega) (by omega) (by omega) rfl (Nat.le_of_ble_eq_true rfl) dM_746 (fun v T2 I2 L2 hv => ?_) (fun _ _ _ _ h => h.elim)
  obtain ⟨⟨_, rfl, bb, rfl, hr⟩, h6, h2⟩ := K2 v T2 I2 L2 hv
  exact lw_tail hA dM_749 dM_751 dM_752 dM_755 dM_757 dM_762 dM_764 dM_767 dM_768 dM_769 dM_770 dM_772 dM_773 dM_774 dM_779 (by decide) (by omega) (by omega) hcs hsl hr h6 h2 nx
theorem cs_bringUp {g : pr_C} {X : pr_X} {Q : State → Prop} {cs sl : Nat} {T : pr_T} {I : pr_I} {L : pr_L} {b N x : Nat} {xs : Nat → Int32} (hA : pr_Am g X mLaw 13 601024 7293034) (hs : Scr g X b N xs) {i : Int32} (h1 : vp_in (i + 1) N) (h2 : vp_in (i + 2) N) (h3 : vp_in (i + 3) N) (h4 : vp_in (i + 4) N) (hcs : cs + 122 ≤ 601024) (hsl : sl + 5821 ≤ 7293034) (h : LI x T I L) (nx : ∀ T' I' L', LI x T' I' L' → pr_G g X 8 Q (cs + 122) (sl + 5821) 3256 (lwL b x i) [] T' I' L') : pr_G g X 8 Q cs sl 782 (lwL b x i) [] T I L := by
  obtain ⟨d1, mc1, ms1, Φ, hd1, hmc, hms, hC, K⟩ := S_bringUp (g := g) (l := pr_launch X) (p1 := xs (i + 1).toNatClampNeg) (pr_hl hA) h
  refine pr_aload_n (n := 1) hA dM_782 rfl ?_
  refine lw_arg hA hs 1 dM_783 dM_784 dM_786 (by decide) dM_787 dM_788 rfl rfl h1 ?_
  refine pr_aload_n (n := 3) hA dM_789 rfl ?_
  refine pr_callSH (n := 3) (st := []) (As := [.ref x, .int (xs (i + 1).toNatClampNeg), .ref (x + 267)]) hA rfl hC kM_L_198 kZ_L kW_L_bringUp (by decide +kernel) (by decide) rfl kT_L_bringUp rfl (by omega) (by omega) (by omega) rfl (Nat.le_of_ble_eq_true rfl) dM_790 (fun v T1 I1 L1 hv => ?_)
  obtain ⟨k, rfl, d2, Φ2, hd2, hk8, hM2, K2⟩ := K v T1 I1 L1 hv
  refine pr_istore (ls' := [.ref b, .ref x, .ref (x + 251), .ref (x + 267), .int i, .int k, .null, .null]) hA dM_793 (by decide) rfl ?_
  refine pr_aload_n (n := 2) hA dM_795 rfl ?_
  refine lw_arg hA hs 1 dM_796 dM_797 dM_799 (by decide) dM_800 dM_801 rfl rfl h1 ?_
  refine pr_callV (st := []) (As := [.int (xs (i + 1).toNatClampNeg)]) hA rfl hM2 v_L_200 hk8 (by decide) rfl rfl rfl (by omega) (by omega) (by omega) rfl (Nat.le_of_ble_eq_true rfl) dM_802 (fun v T2 I2 L2 hv => ?_) (fun _ _ _ _ h => h.elim)
  obtain ⟨⟨_, rfl, bb, rfl, hr⟩, h6, h2⟩ := K2 v T2 I2 L2 hv
  exact lw_tail hA dM_805 dM_807 dM_808 dM_811 dM_813 dM_818 dM_820 dM_823 dM_824 dM_825 dM_826 dM_828 dM_829 dM_830 dM_835 (by decide) (by omega) (by omega) hcs hsl hr h6 h2 nx
theorem cs_request {g : pr_C} {X : pr_X} {Q : State → Prop} {cs sl : Nat} {T : pr_T} {I : pr_I} {L : pr_L} {b N x : Nat} {xs : Nat → Int32} (hA : pr_Am g X mLaw 13 601024 7293034) (hs : Scr g X b N xs) {i : Int32} (h1 : vp_in (i + 1) N) (h2 : vp_in (i + 2) N) (h3 : vp_in (i + 3) N) (h4 : vp_in (i + 4) N) (hcs : cs + 122 ≤ 601024) (hsl : sl + 5821 ≤ 7293034) (h : LI x T I L) (nx : ∀ T' I' L', LI x T' I' L' → pr_G g X 8 Q (cs + 122) (sl + 5821) 3256 (lwL b x i) [] T' I' L') : pr_G g X 8 Q cs sl 838 (lwL b x i) [] T I L := by
  obtain ⟨d1, mc1, ms1, Φ, hd1, hmc, hms, hC, K⟩ := S_request (g := g) (l := pr_launch X) (p1 := xs (i + 1).toNatClampNeg) (p2 := xs (i + 2).toNatClampNeg) (p3 := xs (i + 3).toNatClampNeg) (p4 := xs (i + 4).toNatClampNeg) (pr_hl hA) h
  refine pr_aload_n (n := 1) hA dM_838 rfl ?_
  refine lw_arg hA hs 1 dM_839 dM_840 dM_842 (by decide) dM_843 dM_844 rfl rfl h1 ?_
  refine lw_arg hA hs 2 dM_845 dM_846 dM_848 (by decide) dM_849 dM_850 rfl rfl h2 ?_
  refine lw_arg hA hs 3 dM_851 dM_852 dM_854 (by decide) dM_855 dM_856 rfl rfl h3 ?_
  refine lw_arg hA hs 4 dM_857 dM_858 dM_860 (by decide) dM_861 dM_862 rfl rfl h4 ?_
  refine pr_aload_n (n := 3) hA dM_863 rfl ?_
  refine pr_callSH (n := 6) (st := []) (As := [.ref x, .int (xs (i + 1).toNatClampNeg), .int (xs (i + 2).toNatClampNeg), .int (xs (i + 3).toNatClampNeg), .int (xs (i + 4).toNatClampNeg), .ref (x + 267)]) hA rfl hC kM_L_201 kZ_L kW_L_request (by decide +kernel) (by decide) rfl kT_L_request rfl (by omega) (by omega) (by omega) rfl (Nat.le_of_ble_eq_true rfl) dM_864 (fun v T1 I1 L1 hv => ?_)
  obtain ⟨k, rfl, d2, Φ2, hd2, hk8, hM2, K2⟩ := K v T1 I1 L1 hv
  refine pr_istore (ls' := [.ref b, .ref x, .ref (x + 251), .ref (x + 267), .int i, .int k, .null, .null]) hA dM_867 (by decide) rfl ?_
  refine pr_aload_n (n := 2) hA dM_869 rfl ?_
  refine lw_arg hA hs 1 dM_870 dM_871 dM_873 (by decide) dM_874 dM_875 rfl rfl h1 ?_
  refine lw_arg hA hs 2 dM_876 dM_877 dM_879 (by decide) dM_880 dM_881 rfl rfl h2 ?_
  refine lw_arg hA hs 3 dM_882 dM_883 dM_885 (by decide) dM_886 dM_887 rfl rfl h3 ?_
  refine lw_arg hA hs 4 dM_888 dM_889 dM_891 (by decide) dM_892 dM_893 rfl rfl h4 ?_
  refine pr_callV (st := []) (As := [.int (xs (i + 1).toNatClampNeg), .int (xs (i + 2).toNatClampNeg), .int (xs (i + 3).toNatClampNeg), .int (xs (i + 4).toNatClampNeg)]) hA rfl hM2 v_L_204 hk8 (by decide) rfl rfl rfl (by omega) (by omega) (by omega) rfl (Nat.le_of_ble_eq_true rfl) dM_894 (fun v T2 I2 L2 hv => ?_) (fun _ _ _ _ h => h.elim)
  obtain ⟨⟨_, rfl, bb, rfl, hr⟩, h6, h2⟩ := K2 v T2 I2 L2 hv
  exact lw_tail hA dM_897 dM_899 dM_900 dM_903 dM_905 dM_910 dM_912 dM_915 dM_916 dM_917 dM_918 dM_920 dM_921 dM_922 dM_927 (by decide) (by omega) (by omega) hcs hsl hr h6 h2 nx
