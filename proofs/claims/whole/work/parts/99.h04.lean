/-! THE LAW'S CASES 42 to 55 -/
theorem cs_disjointPaths {g : pr_C} {X : pr_X} {Q : State → Prop} {cs sl : Nat} {T : pr_T} {I : pr_I} {L : pr_L} {b N x : Nat} {xs : Nat → Int32} (hA : pr_Am g X mLaw 13 601024 7293034) (hs : Scr g X b N xs) {i : Int32} (h1 : vp_in (i + 1) N) (h2 : vp_in (i + 2) N) (h3 : vp_in (i + 3) N) (h4 : vp_in (i + 4) N) (hcs : cs + 122 ≤ 601024) (hsl : sl + 5821 ≤ 7293034) (h : LI x T I L) (nx : ∀ T' I' L', LI x T' I' L' → pr_G g X 8 Q (cs + 122) (sl + 5821) 3256 (lwL b x i) [] T' I' L') : pr_G g X 8 Q cs sl 2372 (lwL b x i) [] T I L := by
  obtain ⟨d1, mc1, ms1, Φ, hd1, hmc, hms, hC, K⟩ := S_disjointPaths (g := g) (l := pr_launch X) (p1 := xs (i + 1).toNatClampNeg) (p2 := xs (i + 2).toNatClampNeg) (p3 := xs (i + 3).toNatClampNeg) (pr_hl hA) h
  refine pr_aload_n (n := 1) hA dM_2372 rfl ?_
  refine lw_arg hA hs 1 dM_2373 dM_2374 dM_2376 (by decide) dM_2377 dM_2378 rfl rfl h1 ?_
  refine lw_arg hA hs 2 dM_2379 dM_2380 dM_2382 (by decide) dM_2383 dM_2384 rfl rfl h2 ?_
  refine lw_arg hA hs 3 dM_2385 dM_2386 dM_2388 (by decide) dM_2389 dM_2390 rfl rfl h3 ?_
  refine pr_aload_n (n := 3) hA dM_2391 rfl ?_
  refine pr_callSH (n := 5) (st := []) (As := [.ref x, .int (xs (i + 1).toNatClampNeg), .int (xs (i + 2).toNatClampNeg), .int (xs (i + 3).toNatClampNeg), .ref (x + 267)]) hA rfl hC kM_L_300 kZ_L kW_L_disjointPaths (by decide +kernel) (by decide) rfl kT_L_disjointPaths rfl (by omega) (by omega) (by omega) rfl (Nat.le_of_ble_eq_true rfl) dM_2392 (fun v T1 I1 L1 hv => ?_)
  obtain ⟨k, rfl, d2, Φ2, hd2, hk8, hM2, K2⟩ := K v T1 I1 L1 hv
  refine pr_istore (ls' := [.ref b, .ref x, .ref (x + 251), .ref (x + 267), .int i, .int k, .null, .null]) hA dM_2395 (by decide) rfl ?_
  refine pr_aload_n (n := 2) hA dM_2397 rfl ?_
  refine lw_arg hA hs 1 dM_2398 dM_2399 dM_2401 (by decide) dM_2402 dM_2403 rfl rfl h1 ?_
  refine lw_arg hA hs 2 dM_2404 dM_2405 dM_2407 (by decide) dM_2408 dM_2409 rfl rfl h2 ?_
  refine lw_arg hA hs 3 dM_2410 dM_2411 dM_2413 (by decide) dM_2414 dM_2415 rfl rfl h3 ?_
  refine pr_callV (st := []) (As := [.int (xs (i + 1).toNatClampNeg), .int (xs (i + 2).toNatClampNeg), .int (xs (i + 3).toNatClampNeg)]) hA rfl hM2 v_L_302 hk8 (by decide) rfl rfl rfl (by omega) (by omega) (by omega) rfl (Nat.le_of_ble_eq_true rfl) dM_2416 (fun v T2 I2 L2 hv => ?_) (fun _ _ _ _ h => h.elim)
  obtain ⟨⟨_, rfl, bb, rfl, hr⟩, h6, h2⟩ := K2 v T2 I2 L2 hv
  exact lw_tail hA dM_2419 dM_2421 dM_2422 dM_2425 dM_2427 dM_2432 dM_2434 dM_2437 dM_2438 dM_2439 dM_2440 dM_2442 dM_2443 dM_2444 dM_2449 (by decide) (by omega) (by omega) hcs hsl hr h6 h2 nx
theorem cs_reachable {g : pr_C} {X : pr_X} {Q : State → Prop} {cs sl : Nat} {T : pr_T} {I : pr_I} {L : pr_L} {b N x : Nat} {xs : Nat → Int32} (hA : pr_Am g X mLaw 13 601024 7293034) (hs : Scr g X b N xs) {i : Int32} (h1 : vp_in (i + 1) N) (h2 : vp_in (i + 2) N) (h3 : vp_in (i + 3) N) (h4 : vp_in (i + 4) N) (hcs : cs + 122 ≤ 601024) (hsl : sl + 5821 ≤ 7293034) (h : LI x T I L) (nx : ∀ T' I' L', LI x T' I' L' → pr_G g X 8 Q (cs + 122) (sl + 5821) 3256 (lwL b x i) [] T' I' L') : pr_G g X 8 Q cs sl 2452 (lwL b x i) [] T I L := by
  obtain ⟨d1, mc1, ms1, Φ, hd1, hmc, hms, hC, K⟩ := S_reachable (g := g) (l := pr_launch X) (p1 := xs (i + 1).toNatClampNeg) (p2 := xs (i + 2).toNatClampNeg) (pr_hl hA) h
  refine pr_aload_n (n := 1) hA dM_2452 rfl ?_
  refine lw_arg hA hs 1 dM_2453 dM_2454 dM_2456 (by decide) dM_2457 dM_2458 rfl rfl h1 ?_
  refine lw_arg hA hs 2 dM_2459 dM_2460 dM_2462 (by decide) dM_2463 dM_2464 rfl rfl h2 ?_
  refine pr_aload_n (n := 3) hA dM_2465 rfl ?_
  refine pr_callSH (n := 4) (st := []) (As := [.ref x, .int (xs (i + 1).toNatClampNeg), .int (xs (i + 2).toNatClampNeg), .ref (x + 267)]) hA rfl hC kM_L_303 kZ_L kW_L_reachable (by decide +kernel) (by decide) rfl kT_L_reachable rfl (by omega) (by omega) (by omega) rfl (Nat.le_of_ble_eq_true rfl) dM_2466 (fun v T1 I1 L1 hv => ?_)
  obtain ⟨k, rfl, d2, Φ2, hd2, hk8, hM2, K2⟩ := K v T1 I1 L1 hv
  refine pr_istore (ls' := [.ref b, .ref x, .ref (x + 251), .ref (x + 267), .int i, .int k, .null, .null]) hA dM_2469 (by decide) rfl ?_
  refine pr_aload_n (n := 2) hA dM_2471 rfl ?_
  refine lw_arg hA hs 1 dM_2472 dM_2473 dM_2475 (by decide) dM_2476 dM_2477 rfl rfl h1 ?_
  refine lw_arg hA hs 2 dM_2478 dM_2479 dM_2481 (by decide) dM_2482 dM_2483 rfl rfl h2 ?_
  refine pr_callV (st := []) (As := [.int (xs (i + 1).toNatClampNeg), .int (xs (i + 2).toNatClampNeg)]) hA rfl hM2 v_L_305 hk8 (by decide) rfl rfl rfl (by omega) (by omega) (by omega) rfl (Nat.le_of_ble_eq_true rfl) dM_2484 (fun v T2 I2 L2 hv => ?_) (fun _ _ _ _ h => h.elim)
  obtain ⟨⟨_, rfl, bb, rfl, hr⟩, h6, h2⟩ := K2 v T2 I2 L2 hv
  exact lw_tail hA dM_2487 dM_2489 dM_2490 dM_2493 dM_2495 dM_2500 dM_2502 dM_2505 dM_2506 dM_2507 dM_2508 dM_2510 dM_2511 dM_2512 dM_2517 (by decide) (by omega) (by omega) hcs hsl hr h6 h2 nx
theorem cs_criticalLinks {g : pr_C} {X : pr_X} {Q : State → Prop} {cs sl : Nat} {T : pr_T} {I : pr_I} {L : pr_L} {b N x : Nat} {xs : Nat → Int32} (hA : pr_Am g X mLaw 13 601024 7293034) (hs : Scr g X b N xs) {i : Int32} (h1 : vp_in (i + 1) N) (h2 : vp_in (i + 2) N) (h3 : vp_in (i + 3) N) (h4 : vp_in (i + 4) N) (hcs : cs + 122 ≤ 601024) (hsl : sl + 5821 ≤ 7293034) (h : LI x T I L) (nx : ∀ T' I' L', LI x T' I' L' → pr_G g X 8 Q (cs + 122) (sl + 5821) 3256 (lwL b x i) [] T' I' L') : pr_G g X 8 Q cs sl 2520 (lwL b x i) [] T I L := by
  obtain ⟨d1, mc1, ms1, Φ, hd1, hmc, hms, hC, K⟩ := S_criticalLinks (g := g) (l := pr_launch X) (p1 := xs (i + 1).toNatClampNeg) (p2 := xs (i + 2).toNatClampNeg) (p3 := xs (i + 3).toNatClampNeg) (pr_hl hA) h
  refine pr_aload_n (n := 1) hA dM_2520 rfl ?_
  refine lw_arg hA hs 1 dM_2521 dM_2522 dM_2524 (by decide) dM_2525 dM_2526 rfl rfl h1 ?_
  refine lw_arg hA hs 2 dM_2527 dM_2528 dM_2530 (by decide) dM_2531 dM_2532 rfl rfl h2 ?_
  refine lw_arg hA hs 3 dM_2533 dM_2534 dM_2536 (by decide) dM_2537 dM_2538 rfl rfl h3 ?_
  refine pr_aload_n (n := 3) hA dM_2539 rfl ?_
  refine pr_callSH (n := 5) (st := []) (As := [.ref x, .int (xs (i + 1).toNatClampNeg), .int (xs (i + 2).toNatClampNeg), .int (xs (i + 3).toNatClampNeg), .ref (x + 267)]) hA rfl hC kM_L_306 kZ_L kW_L_criticalLinks (by decide +kernel) (by decide) rfl kT_L_criticalLinks rfl (by omega) (by omega) (by omega) rfl (Nat.le_of_ble_eq_true rfl) dM_2540 (fun v T1 I1 L1 hv => ?_)
  obtain ⟨k, rfl, d2, Φ2, hd2, hk8, hM2, K2⟩ := K v T1 I1 L1 hv
  refine pr_istore (ls' := [.ref b, .ref x, .ref (x + 251), .ref (x + 267), .int i, .int k, .null, .null]) hA dM_2543 (by decide) rfl ?_
  refine pr_aload_n (n := 2) hA dM_2545 rfl ?_
  refine lw_arg hA hs 1 dM_2546 dM_2547 dM_2549 (by decide) dM_2550 dM_2551 rfl rfl h1 ?_
  refine lw_arg hA hs 2 dM_2552 dM_2553 dM_2555 (by decide) dM_2556 dM_2557 rfl rfl h2 ?_
  refine lw_arg hA hs 3 dM_2558 dM_2559 dM_2561 (by decide) dM_2562 dM_2563 rfl rfl h3 ?_
  refine pr_callV (st := []) (As := [.int (xs (i + 1).toNatClampNeg), .int (xs (i + 2).toNatClampNeg), .int (xs (i + 3).toNatClampNeg)]) hA rfl hM2 v_L_308 hk8 (by decide) rfl rfl rfl (by omega) (by omega) (by omega) rfl (Nat.le_of_ble_eq_true rfl) dM_2564 (fun v T2 I2 L2 hv => ?_) (fun _ _ _ _ h => h.elim)
  obtain ⟨⟨_, rfl, bb, rfl, hr⟩, h6, h2⟩ := K2 v T2 I2 L2 hv
  exact lw_tail hA dM_2567 dM_2569 dM_2570 dM_2573 dM_2575 dM_2580 dM_2582 dM_2585 dM_2586 dM_2587 dM_2588 dM_2590 dM_2591 dM_2592 dM_2597 (by decide) (by omega) (by omega) hcs hsl hr h6 h2 nx
theorem cs_ticksUntilActive {g : pr_C} {X : pr_X} {Q : State → Prop} {cs sl : Nat} {T : pr_T} {I : pr_I} {L : pr_L} {b N x : Nat} {xs : Nat → Int32} (hA : pr_Am g X mLaw 13 601024 7293034) (hs : Scr g X b N xs) {i : Int32} (h1 : vp_in (i + 1) N) (h2 : vp_in (i + 2) N) (h3 : vp_in (i + 3) N) (h4 : vp_in (i + 4) N) (hcs : cs + 122 ≤ 601024) (hsl : sl + 5821 ≤ 7293034) (h : LI x T I L) (nx : ∀ T' I' L', LI x T' I' L' → pr_G g X 8 Q (cs + 122) (sl + 5821) 3256 (lwL b x i) [] T' I' L') : pr_G g X 8 Q cs sl 2600 (lwL b x i) [] T I L := by
  obtain ⟨d1, mc1, ms1, Φ, hd1, hmc, hms, hC, K⟩ := S_ticksUntilActive (g := g) (l := pr_launch X) (p1 := xs (i + 1).toNatClampNeg) (pr_hl hA) h
  refine pr_aload_n (n := 1) hA dM_2600 rfl ?_
  refine lw_arg hA hs 1 dM_2601 dM_2602 dM_2604 (by decide) dM_2605 dM_2606 rfl rfl h1 ?_
  refine pr_aload_n (n := 3) hA dM_2607 rfl ?_
  refine pr_callSH (n := 3) (st := []) (As := [.ref x, .int (xs (i + 1).toNatClampNeg), .ref (x + 267)]) hA rfl hC kM_L_309 kZ_L kW_L_ticksUntilActive (by decide +kernel) (by decide) rfl kT_L_ticksUntilActive rfl (by omega) (by omega) (by omega) rfl (Nat.le_of_ble_eq_true rfl) dM_2608 (fun v T1 I1 L1 hv => ?_)
  obtain ⟨k, rfl, d2, Φ2, hd2, hk8, hM2, K2⟩ := K v T1 I1 L1 hv
  refine pr_istore (ls' := [.ref b, .ref x, .ref (x + 251), .ref (x + 267), .int i, .int k, .null, .null]) hA dM_2611 (by decide) rfl ?_
  refine pr_aload_n (n := 2) hA dM_2613 rfl ?_
  refine lw_arg hA hs 1 dM_2614 dM_2615 dM_2617 (by decide) dM_2618 dM_2619 rfl rfl h1 ?_
  refine pr_callV (st := []) (As := [.int (xs (i + 1).toNatClampNeg)]) hA rfl hM2 v_L_311 hk8 (by decide) rfl rfl rfl (by omega) (by omega) (by omega) rfl (Nat.le_of_ble_eq_true rfl) dM_2620 (fun v T2 I2 L2 hv => ?_) (fun _ _ _ _ h => h.elim)
  obtain ⟨⟨_, rfl, bb, rfl, hr⟩, h6, h2⟩ := K2 v T2 I2 L2 hv
  exact lw_tail hA dM_2623 dM_2625 dM_2626 dM_2629 dM_2631 dM_2636 dM_2638 dM_2641 dM_2642 dM_2643 dM_2644 dM_2646 dM_2647 dM_2648 dM_2653 (by decide) (by omega) (by omega) hcs hsl hr h6 h2 nx
theorem cs_ticksForNew {g : pr_C} {X : pr_X} {Q : State → Prop} {cs sl : Nat} {T : pr_T} {I : pr_I} {L : pr_L} {b N x : Nat} {xs : Nat → Int32} (hA : pr_Am g X mLaw 13 601024 7293034) (hs : Scr g X b N xs) {i : Int32} (h1 : vp_in (i + 1) N) (h2 : vp_in (i + 2) N) (h3 : vp_in (i + 3) N) (h4 : vp_in (i + 4) N) (hcs : cs + 122 ≤ 601024) (hsl : sl + 5821 ≤ 7293034) (h : LI x T I L) (nx : ∀ T' I' L', LI x T' I' L' → pr_G g X 8 Q (cs + 122) (sl + 5821) 3256 (lwL b x i) [] T' I' L') : pr_G g X 8 Q cs sl 2656 (lwL b x i) [] T I L := by
  obtain ⟨d1, mc1, ms1, Φ, hd1, hmc, hms, hC, K⟩ := S_ticksForNew (g := g) (l := pr_launch X) (p1 := xs (i + 1).toNatClampNeg) (p2 := xs (i + 2).toNatClampNeg) (p3 := xs (i + 3).toNatClampNeg) (pr_hl hA) h
  refine pr_aload_n (n := 1) hA dM_2656 rfl ?_
  refine lw_arg hA hs 1 dM_2657 dM_2658 dM_2660 (by decide) dM_2661 dM_2662 rfl rfl h1 ?_
  refine lw_arg hA hs 2 dM_2663 dM_2664 dM_2666 (by decide) dM_2667 dM_2668 rfl rfl h2 ?_
  refine lw_arg hA hs 3 dM_2669 dM_2670 dM_2672 (by decide) dM_2673 dM_2674 rfl rfl h3 ?_
  refine pr_aload_n (n := 3) hA dM_2675 rfl ?_
  refine pr_callSH (n := 5) (st := []) (As := [.ref x, .int (xs (i + 1).toNatClampNeg), .int (xs (i + 2).toNatClampNeg), .int (xs (i + 3).toNatClampNeg), .ref (x + 267)]) hA rfl hC kM_L_312 kZ_L kW_L_ticksForNew (by decide +kernel) (by decide) rfl kT_L_ticksForNew rfl (by omega) (by omega) (by omega) rfl (Nat.le_of_ble_eq_true rfl) dM_2676 (fun v T1 I1 L1 hv => ?_)
  obtain ⟨k, rfl, d2, Φ2, hd2, hk8, hM2, K2⟩ := K v T1 I1 L1 hv
  refine pr_istore (ls' := [.ref b, .ref x, .ref (x + 251), .ref (x + 267), .int i, .int k, .null, .null]) hA dM_2679 (by decide) rfl ?_
  refine pr_aload_n (n := 2) hA dM_2681 rfl ?_
  refine lw_arg hA hs 1 dM_2682 dM_2683 dM_2685 (by decide) dM_2686 dM_2687 rfl rfl h1 ?_
  refine lw_arg hA hs 2 dM_2688 dM_2689 dM_2691 (by decide) dM_2692 dM_2693 rfl rfl h2 ?_
  refine lw_arg hA hs 3 dM_2694 dM_2695 dM_2697 (by decide) dM_2698 dM_2699 rfl rfl h3 ?_
  refine pr_callV (st := []) (As := [.int (xs (i + 1).toNatClampNeg), .int (xs (i + 2).toNatClampNeg), .int (xs (i + 3).toNatClampNeg)]) hA rfl hM2 v_L_314 hk8 (by decide) rfl rfl rfl (by omega) (by omega) (by omega) rfl (Nat.le_of_ble_eq_true rfl) dM_2700 (fun v T2 I2 L2 hv => ?_) (fun _ _ _ _ h => h.elim)
  obtain ⟨⟨_, rfl, bb, rfl, hr⟩, h6, h2⟩ := K2 v T2 I2 L2 hv
  exact lw_tail hA dM_2703 dM_2705 dM_2706 dM_2709 dM_2711 dM_2716 dM_2718 dM_2721 dM_2722 dM_2723 dM_2724 dM_2726 dM_2727 dM_2728 dM_2733 (by decide) (by omega) (by omega) hcs hsl hr h6 h2 nx
theorem cs_greatestNew {g : pr_C} {X : pr_X} {Q : State → Prop} {cs sl : Nat} {T : pr_T} {I : pr_I} {L : pr_L} {b N x : Nat} {xs : Nat → Int32} (hA : pr_Am g X mLaw 13 601024 7293034) (hs : Scr g X b N xs) {i : Int32} (h1 : vp_in (i + 1) N) (h2 : vp_in (i + 2) N) (h3 : vp_in (i + 3) N) (h4 : vp_in (i + 4) N) (hcs : cs + 122 ≤ 601024) (hsl : sl + 5821 ≤ 7293034) (h : LI x T I L) (nx : ∀ T' I' L', LI x T' I' L' → pr_G g X 8 Q (cs + 122) (sl + 5821) 3256 (lwL b x i) [] T' I' L') : pr_G g X 8 Q cs sl 2736 (lwL b x i) [] T I L := by
  obtain ⟨d1, mc1, ms1, Φ, hd1, hmc, hms, hC, K⟩ := S_greatestNew (g := g) (l := pr_launch X) (p1 := xs (i + 1).toNatClampNeg) (p2 := xs (i + 2).toNatClampNeg) (pr_hl hA) h
  refine pr_aload_n (n := 1) hA dM_2736 rfl ?_
  refine lw_arg hA hs 1 dM_2737 dM_2738 dM_2740 (by decide) dM_2741 dM_2742 rfl rfl h1 ?_
  refine lw_arg hA hs 2 dM_2743 dM_2744 dM_2746 (by decide) dM_2747 dM_2748 rfl rfl h2 ?_
  refine pr_aload_n (n := 3) hA dM_2749 rfl ?_
  refine pr_callSH (n := 4) (st := []) (As := [.ref x, .int (xs (i + 1).toNatClampNeg), .int (xs (i + 2).toNatClampNeg), .ref (x + 267)]) hA rfl hC kM_L_315 kZ_L kW_L_greatestNew (by decide +kernel) (by decide) rfl kT_L_greatestNew rfl (by omega) (by omega) (by omega) rfl (Nat.le_of_ble_eq_true rfl) dM_2750 (fun v T1 I1 L1 hv => ?_)
  obtain ⟨k, rfl, d2, Φ2, hd2, hk8, hM2, K2⟩ := K v T1 I1 L1 hv
  refine pr_istore (ls' := [.ref b, .ref x, .ref (x + 251), .ref (x + 267), .int i, .int k, .null, .null]) hA dM_2753 (by decide) rfl ?_
  refine pr_aload_n (n := 2) hA dM_2755 rfl ?_
  refine lw_arg hA hs 1 dM_2756 dM_2757 dM_2759 (by decide) dM_2760 dM_2761 rfl rfl h1 ?_
  refine lw_arg hA hs 2 dM_2762 dM_2763 dM_2765 (by decide) dM_2766 dM_2767 rfl rfl h2 ?_
  refine pr_callV (st := []) (As := [.int (xs (i + 1).toNatClampNeg), .int (xs (i + 2).toNatClampNeg)]) hA rfl hM2 v_L_317 hk8 (by decide) rfl rfl rfl (by omega) (by omega) (by omega) rfl (Nat.le_of_ble_eq_true rfl) dM_2768 (fun v T2 I2 L2 hv => ?_) (fun _ _ _ _ h => h.elim)
  obtain ⟨⟨_, rfl, bb, rfl, hr⟩, h6, h2⟩ := K2 v T2 I2 L2 hv
  exact lw_tail hA dM_2771 dM_2773 dM_2774 dM_2777 dM_2779 dM_2784 dM_2786 dM_2789 dM_2790 dM_2791 dM_2792 dM_2794 dM_2795 dM_2796 dM_2801 (by decide) (by omega) (by omega) hcs hsl hr h6 h2 nx
theorem cs_revenueAfter {g : pr_C} {X : pr_X} {Q : State → Prop} {cs sl : Nat} {T : pr_T} {I : pr_I} {L : pr_L} {b N x : Nat} {xs : Nat → Int32} (hA : pr_Am g X mLaw 13 601024 7293034) (hs : Scr g X b N xs) {i : Int32} (h1 : vp_in (i + 1) N) (h2 : vp_in (i + 2) N) (h3 : vp_in (i + 3) N) (h4 : vp_in (i + 4) N) (hcs : cs + 122 ≤ 601024) (hsl : sl + 5821 ≤ 7293034) (h : LI x T I L) (nx : ∀ T' I' L', LI x T' I' L' → pr_G g X 8 Q (cs + 122) (sl + 5821) 3256 (lwL b x i) [] T' I' L') : pr_G g X 8 Q cs sl 2804 (lwL b x i) [] T I L := by
  obtain ⟨d1, mc1, ms1, Φ, hd1, hmc, hms, hC, K⟩ := S_revenueAfter (g := g) (l := pr_launch X) (p1 := xs (i + 1).toNatClampNeg) (pr_hl hA) h
  refine pr_aload_n (n := 1) hA dM_2804 rfl ?_
  refine lw_arg hA hs 1 dM_2805 dM_2806 dM_2808 (by decide) dM_2809 dM_2810 rfl rfl h1 ?_
  refine pr_aload_n (n := 3) hA dM_2811 rfl ?_
  refine pr_callSH (n := 3) (st := []) (As := [.ref x, .int (xs (i + 1).toNatClampNeg), .ref (x + 267)]) hA rfl hC kM_L_318 kZ_L kW_L_revenueAfter (by decide +kernel) (by decide) rfl kT_L_revenueAfter rfl (by omega) (by omega) (by omega) rfl (Nat.le_of_ble_eq_true rfl) dM_2812 (fun v T1 I1 L1 hv => ?_)
  obtain ⟨k, rfl, d2, Φ2, hd2, hk8, hM2, K2⟩ := K v T1 I1 L1 hv
  refine pr_istore (ls' := [.ref b, .ref x, .ref (x + 251), .ref (x + 267), .int i, .int k, .null, .null]) hA dM_2815 (by decide) rfl ?_
  refine pr_aload_n (n := 2) hA dM_2817 rfl ?_
  refine lw_arg hA hs 1 dM_2818 dM_2819 dM_2821 (by decide) dM_2822 dM_2823 rfl rfl h1 ?_
  refine pr_callV (st := []) (As := [.int (xs (i + 1).toNatClampNeg)]) hA rfl hM2 v_L_320 hk8 (by decide) rfl rfl rfl (by omega) (by omega) (by omega) rfl (Nat.le_of_ble_eq_true rfl) dM_2824 (fun v T2 I2 L2 hv => ?_) (fun _ _ _ _ h => h.elim)
  obtain ⟨⟨_, rfl, bb, rfl, hr⟩, h6, h2⟩ := K2 v T2 I2 L2 hv
  exact lw_tailL hA dM_2827 dM_2829 dM_2830 dM_2833 dM_2835 dM_2840 dM_2842 dM_2845 dM_2846 dM_2847 dM_2848 dM_2850 dM_2851 dM_2856 (by decide) (by omega) (by omega) hcs hsl hr h6 h2 nx
theorem cs_availableAfter {g : pr_C} {X : pr_X} {Q : State → Prop} {cs sl : Nat} {T : pr_T} {I : pr_I} {L : pr_L} {b N x : Nat} {xs : Nat → Int32} (hA : pr_Am g X mLaw 13 601024 7293034) (hs : Scr g X b N xs) {i : Int32} (h1 : vp_in (i + 1) N) (h2 : vp_in (i + 2) N) (h3 : vp_in (i + 3) N) (h4 : vp_in (i + 4) N) (hcs : cs + 122 ≤ 601024) (hsl : sl + 5821 ≤ 7293034) (h : LI x T I L) (nx : ∀ T' I' L', LI x T' I' L' → pr_G g X 8 Q (cs + 122) (sl + 5821) 3256 (lwL b x i) [] T' I' L') : pr_G g X 8 Q cs sl 2859 (lwL b x i) [] T I L := by
  obtain ⟨d1, mc1, ms1, Φ, hd1, hmc, hms, hC, K⟩ := S_availableAfter (g := g) (l := pr_launch X) (p1 := xs (i + 1).toNatClampNeg) (p2 := xs (i + 2).toNatClampNeg) (pr_hl hA) h
  refine pr_aload_n (n := 1) hA dM_2859 rfl ?_
  refine lw_arg hA hs 1 dM_2860 dM_2861 dM_2863 (by decide) dM_2864 dM_2865 rfl rfl h1 ?_
  refine lw_arg hA hs 2 dM_2866 dM_2867 dM_2869 (by decide) dM_2870 dM_2871 rfl rfl h2 ?_
  refine pr_aload_n (n := 3) hA dM_2872 rfl ?_
  refine pr_callSH (n := 4) (st := []) (As := [.ref x, .int (xs (i + 1).toNatClampNeg), .int (xs (i + 2).toNatClampNeg), .ref (x + 267)]) hA rfl hC kM_L_321 kZ_L kW_L_availableAfter (by decide +kernel) (by decide) rfl kT_L_availableAfter rfl (by omega) (by omega) (by omega) rfl (Nat.le_of_ble_eq_true rfl) dM_2873 (fun v T1 I1 L1 hv => ?_)
  obtain ⟨k, rfl, d2, Φ2, hd2, hk8, hM2, K2⟩ := K v T1 I1 L1 hv
  refine pr_istore (ls' := [.ref b, .ref x, .ref (x + 251), .ref (x + 267), .int i, .int k, .null, .null]) hA dM_2876 (by decide) rfl ?_
  refine pr_aload_n (n := 2) hA dM_2878 rfl ?_
  refine lw_arg hA hs 1 dM_2879 dM_2880 dM_2882 (by decide) dM_2883 dM_2884 rfl rfl h1 ?_
  refine lw_arg hA hs 2 dM_2885 dM_2886 dM_2888 (by decide) dM_2889 dM_2890 rfl rfl h2 ?_
  refine pr_callV (st := []) (As := [.int (xs (i + 1).toNatClampNeg), .int (xs (i + 2).toNatClampNeg)]) hA rfl hM2 v_L_323 hk8 (by decide) rfl rfl rfl (by omega) (by omega) (by omega) rfl (Nat.le_of_ble_eq_true rfl) dM_2891 (fun v T2 I2 L2 hv => ?_) (fun _ _ _ _ h => h.elim)
  obtain ⟨⟨_, rfl, bb, rfl, hr⟩, h6, h2⟩ := K2 v T2 I2 L2 hv
  exact lw_tail hA dM_2894 dM_2896 dM_2897 dM_2900 dM_2902 dM_2907 dM_2909 dM_2912 dM_2913 dM_2914 dM_2915 dM_2917 dM_2918 dM_2919 dM_2924 (by decide) (by omega) (by omega) hcs hsl hr h6 h2 nx
theorem cs_ticksUntilAvailable {g : pr_C} {X : pr_X} {Q : State → Prop} {cs sl : Nat} {T : pr_T} {I : pr_I} {L : pr_L} {b N x : Nat} {xs : Nat → Int32} (hA : pr_Am g X mLaw 13 601024 7293034) (hs : Scr g X b N xs) {i : Int32} (h1 : vp_in (i + 1) N) (h2 : vp_in (i + 2) N) (h3 : vp_in (i + 3) N) (h4 : vp_in (i + 4) N) (hcs : cs + 122 ≤ 601024) (hsl : sl + 5821 ≤ 7293034) (h : LI x T I L) (nx : ∀ T' I' L', LI x T' I' L' → pr_G g X 8 Q (cs + 122) (sl + 5821) 3256 (lwL b x i) [] T' I' L') : pr_G g X 8 Q cs sl 2927 (lwL b x i) [] T I L := by
  obtain ⟨d1, mc1, ms1, Φ, hd1, hmc, hms, hC, K⟩ := S_ticksUntilAvailable (g := g) (l := pr_launch X) (p1 := xs (i + 1).toNatClampNeg) (p2 := xs (i + 2).toNatClampNeg) (pr_hl hA) h
  refine pr_aload_n (n := 1) hA dM_2927 rfl ?_
  refine lw_arg hA hs 1 dM_2928 dM_2929 dM_2931 (by decide) dM_2932 dM_2933 rfl rfl h1 ?_
  refine lw_arg hA hs 2 dM_2934 dM_2935 dM_2937 (by decide) dM_2938 dM_2939 rfl rfl h2 ?_
  refine pr_aload_n (n := 3) hA dM_2940 rfl ?_
  refine pr_callSH (n := 4) (st := []) (As := [.ref x, .int (xs (i + 1).toNatClampNeg), .int (xs (i + 2).toNatClampNeg), .ref (x + 267)]) hA rfl hC kM_L_324 kZ_L kW_L_ticksUntilAvailable (by decide +kernel) (by decide) rfl kT_L_ticksUntilAvailable rfl (by omega) (by omega) (by omega) rfl (Nat.le_of_ble_eq_true rfl) dM_2941 (fun v T1 I1 L1 hv => ?_)
  obtain ⟨k, rfl, d2, Φ2, hd2, hk8, hM2, K2⟩ := K v T1 I1 L1 hv
  refine pr_istore (ls' := [.ref b, .ref x, .ref (x + 251), .ref (x + 267), .int i, .int k, .null, .null]) hA dM_2944 (by decide) rfl ?_
  refine pr_aload_n (n := 2) hA dM_2946 rfl ?_
  refine lw_arg hA hs 1 dM_2947 dM_2948 dM_2950 (by decide) dM_2951 dM_2952 rfl rfl h1 ?_
  refine lw_arg hA hs 2 dM_2953 dM_2954 dM_2956 (by decide) dM_2957 dM_2958 rfl rfl h2 ?_
  refine pr_callV (st := []) (As := [.int (xs (i + 1).toNatClampNeg), .int (xs (i + 2).toNatClampNeg)]) hA rfl hM2 v_L_326 hk8 (by decide) rfl rfl rfl (by omega) (by omega) (by omega) rfl (Nat.le_of_ble_eq_true rfl) dM_2959 (fun v T2 I2 L2 hv => ?_) (fun _ _ _ _ h => h.elim)
  obtain ⟨⟨_, rfl, bb, rfl, hr⟩, h6, h2⟩ := K2 v T2 I2 L2 hv
  exact lw_tail hA dM_2962 dM_2964 dM_2965 dM_2968 dM_2970 dM_2975 dM_2977 dM_2980 dM_2981 dM_2982 dM_2983 dM_2985 dM_2986 dM_2987 dM_2992 (by decide) (by omega) (by omega) hcs hsl hr h6 h2 nx
theorem cs_stateAfter {g : pr_C} {X : pr_X} {Q : State → Prop} {cs sl : Nat} {T : pr_T} {I : pr_I} {L : pr_L} {b N x : Nat} {xs : Nat → Int32} (hA : pr_Am g X mLaw 13 601024 7293034) (hs : Scr g X b N xs) {i : Int32} (h1 : vp_in (i + 1) N) (h2 : vp_in (i + 2) N) (h3 : vp_in (i + 3) N) (h4 : vp_in (i + 4) N) (hcs : cs + 122 ≤ 601024) (hsl : sl + 5821 ≤ 7293034) (h : LI x T I L) (nx : ∀ T' I' L', LI x T' I' L' → pr_G g X 8 Q (cs + 122) (sl + 5821) 3256 (lwL b x i) [] T' I' L') : pr_G g X 8 Q cs sl 2995 (lwL b x i) [] T I L := by
  obtain ⟨d1, mc1, ms1, Φ, hd1, hmc, hms, hC, K⟩ := S_stateAfter (g := g) (l := pr_launch X) (p1 := xs (i + 1).toNatClampNeg) (p2 := xs (i + 2).toNatClampNeg) (pr_hl hA) h
  refine pr_aload_n (n := 1) hA dM_2995 rfl ?_
  refine lw_arg hA hs 1 dM_2996 dM_2997 dM_2999 (by decide) dM_3000 dM_3001 rfl rfl h1 ?_
  refine lw_arg hA hs 2 dM_3002 dM_3003 dM_3005 (by decide) dM_3006 dM_3007 rfl rfl h2 ?_
  refine pr_aload_n (n := 3) hA dM_3008 rfl ?_
  refine pr_callSH (n := 4) (st := []) (As := [.ref x, .int (xs (i + 1).toNatClampNeg), .int (xs (i + 2).toNatClampNeg), .ref (x + 267)]) hA rfl hC kM_L_327 kZ_L kW_L_stateAfter (by decide +kernel) (by decide) rfl kT_L_stateAfter rfl (by omega) (by omega) (by omega) rfl (Nat.le_of_ble_eq_true rfl) dM_3009 (fun v T1 I1 L1 hv => ?_)
  obtain ⟨k, rfl, d2, Φ2, hd2, hk8, hM2, K2⟩ := K v T1 I1 L1 hv
  refine pr_istore (ls' := [.ref b, .ref x, .ref (x + 251), .ref (x + 267), .int i, .int k, .null, .null]) hA dM_3012 (by decide) rfl ?_
  refine pr_aload_n (n := 2) hA dM_3014 rfl ?_
  refine lw_arg hA hs 1 dM_3015 dM_3016 dM_3018 (by decide) dM_3019 dM_3020 rfl rfl h1 ?_
  refine lw_arg hA hs 2 dM_3021 dM_3022 dM_3024 (by decide) dM_3025 dM_3026 rfl rfl h2 ?_
  refine pr_callV (st := []) (As := [.int (xs (i + 1).toNatClampNeg), .int (xs (i + 2).toNatClampNeg)]) hA rfl hM2 v_L_329 hk8 (by decide) rfl rfl rfl (by omega) (by omega) (by omega) rfl (Nat.le_of_ble_eq_true rfl) dM_3027 (fun v T2 I2 L2 hv => ?_) (fun _ _ _ _ h => h.elim)
  obtain ⟨⟨_, rfl, bb, rfl, hr⟩, h6, h2⟩ := K2 v T2 I2 L2 hv
  exact lw_tail hA dM_3030 dM_3032 dM_3033 dM_3036 dM_3038 dM_3043 dM_3045 dM_3048 dM_3049 dM_3050 dM_3051 dM_3053 dM_3054 dM_3055 dM_3060 (by decide) (by omega) (by omega) hcs hsl hr h6 h2 nx
theorem cs_activeWithout {g : pr_C} {X : pr_X} {Q : State → Prop} {cs sl : Nat} {T : pr_T} {I : pr_I} {L : pr_L} {b N x : Nat} {xs : Nat → Int32} (hA : pr_Am g X mLaw 13 601024 7293034) (hs : Scr g X b N xs) {i : Int32} (h1 : vp_in (i + 1) N) (h2 : vp_in (i + 2) N) (h3 : vp_in (i + 3) N) (h4 : vp_in (i + 4) N) (hcs : cs + 122 ≤ 601024) (hsl : sl + 5821 ≤ 7293034) (h : LI x T I L) (nx : ∀ T' I' L', LI x T' I' L' → pr_G g X 8 Q (cs + 122) (sl + 5821) 3256 (lwL b x i) [] T' I' L') : pr_G g X 8 Q cs sl 3063 (lwL b x i) [] T I L := by
  obtain ⟨d1, mc1, ms1, Φ, hd1, hmc, hms, hC, K⟩ := S_activeWithout (g := g) (l := pr_launch X) (p1 := xs (i + 1).toNatClampNeg) (p2 := xs (i + 2).toNatClampNeg) (pr_hl hA) h
  refine pr_aload_n (n := 1) hA dM_3063 rfl ?_
  refine lw_arg hA hs 1 dM_3064 dM_3065 dM_3067 (by decide) dM_3068 dM_3069 rfl rfl h1 ?_
  refine lw_arg hA hs 2 dM_3070 dM_3071 dM_3073 (by decide) dM_3074 dM_3075 rfl rfl h2 ?_
  refine pr_aload_n (n := 3) hA dM_3076 rfl ?_
  refine pr_callSH (n := 4) (st := []) (As := [.ref x, .int (xs (i + 1).toNatClampNeg), .int (xs (i + 2).toNatClampNeg), .ref (x + 267)]) hA rfl hC kM_L_330 kZ_L kW_L_activeWithout (by decide +kernel) (by decide) rfl kT_L_activeWithout rfl (by omega) (by omega) (by omega) rfl (Nat.le_of_ble_eq_true rfl) dM_3077 (fun v T1 I1 L1 hv => ?_)
  obtain ⟨k, rfl, d2, Φ2, hd2, hk8, hM2, K2⟩ := K v T1 I1 L1 hv
  refine pr_istore (ls' := [.ref b, .ref x, .ref (x + 251), .ref (x + 267), .int i, .int k, .null, .null]) hA dM_3080 (by decide) rfl ?_
  refine pr_aload_n (n := 2) hA dM_3082 rfl ?_
  refine lw_arg hA hs 1 dM_3083 dM_3084 dM_3086 (by decide) dM_3087 dM_3088 rfl rfl h1 ?_
  refine lw_arg hA hs 2 dM_3089 dM_3090 dM_3092 (by decide) dM_3093 dM_3094 rfl rfl h2 ?_
  refine pr_callV (st := []) (As := [.int (xs (i + 1).toNatClampNeg), .int (xs (i + 2).toNatClampNeg)]) hA rfl hM2 v_L_332 hk8 (by decide) rfl rfl rfl (by omega) (by omega) (by omega) rfl (Nat.le_of_ble_eq_true rfl) dM_3095 (fun v T2 I2 L2 hv => ?_) (fun _ _ _ _ h => h.elim)
  obtain ⟨⟨_, rfl, bb, rfl, hr⟩, h6, h2⟩ := K2 v T2 I2 L2 hv
  exact lw_tail hA dM_3098 dM_3100 dM_3101 dM_3104 dM_3106 dM_3111 dM_3113 dM_3116 dM_3117 dM_3118 dM_3119 dM_3121 dM_3122 dM_3123 dM_3128 (by decide) (by omega) (by omega) hcs hsl hr h6 h2 nx
theorem cs_ticksUntilQuiet {g : pr_C} {X : pr_X} {Q : State → Prop} {cs sl : Nat} {T : pr_T} {I : pr_I} {L : pr_L} {b N x : Nat} {xs : Nat → Int32} (hA : pr_Am g X mLaw 13 601024 7293034) (hs : Scr g X b N xs) {i : Int32} (h1 : vp_in (i + 1) N) (h2 : vp_in (i + 2) N) (h3 : vp_in (i + 3) N) (h4 : vp_in (i + 4) N) (hcs : cs + 122 ≤ 601024) (hsl : sl + 5821 ≤ 7293034) (h : LI x T I L) (nx : ∀ T' I' L', LI x T' I' L' → pr_G g X 8 Q (cs + 122) (sl + 5821) 3256 (lwL b x i) [] T' I' L') : pr_G g X 8 Q cs sl 3131 (lwL b x i) [] T I L := by
  obtain ⟨d1, d2, r, I1, I2, L1, hd1, hd2, ⟨bb, rfl⟩, hC, hM2, h2'⟩ := S_ticksUntilQuiet (g := g) (l := pr_launch X) (pr_hl hA) h
  have x7 : T.2.1 x = (7, 0) := by
    obtain ⟨_, _, _, _, _, _, hS, _⟩ := h
    exact hS.1.1
  have x8 : T.2.1 (x + 251) = (8, 0) := by
    obtain ⟨_, _, _, _, _, _, hS, _⟩ := h
    exact mo_k0 hS.2.2.2.2.2.2.1
  refine pr_aload_n (n := 1) hA dM_3131 rfl ?_
  refine pr_callV (st := []) (As := []) hA rfl hC v_L_333 x7 (by decide) rfl rfl rfl (by omega) (by omega) (by omega) rfl (Nat.le_of_ble_eq_true rfl) dM_3132 (fun v T1 I3 L3 hv => ?_) (fun _ _ _ _ h => h.elim)
  obtain ⟨rfl, rfl, rfl, rfl⟩ := hv
  refine pr_aload_n (n := 2) hA dM_3135 rfl ?_
  refine pr_callV (st := [.int bb]) (As := []) hA rfl hM2 v_L_336 x8 (by decide) rfl rfl rfl (by omega) (by omega) (by omega) rfl (Nat.le_of_ble_eq_true rfl) dM_3136 (fun v T1 I3 L3 hv => ?_) (fun _ _ _ _ h => h.elim)
  obtain ⟨rfl, rfl, rfl, rfl⟩ := hv
  exact pr_icmp_eq hA 3256 dM_3139 (by decide) (fun _ => pr_more (by omega) (by omega) (nx _ _ _ h2')) (fun c => absurd rfl c)
theorem cs_saveSnapshot {g : pr_C} {X : pr_X} {Q : State → Prop} {cs sl : Nat} {T : pr_T} {I : pr_I} {L : pr_L} {b N x : Nat} {xs : Nat → Int32} (hA : pr_Am g X mLaw 13 601024 7293034) (hs : Scr g X b N xs) {i : Int32} (h1 : vp_in (i + 1) N) (h2 : vp_in (i + 2) N) (h3 : vp_in (i + 3) N) (h4 : vp_in (i + 4) N) (hcs : cs + 122 ≤ 601024) (hsl : sl + 5821 ≤ 7293034) (h : LI x T I L) (nx : ∀ T' I' L', LI x T' I' L' → pr_G g X 8 Q (cs + 122) (sl + 5821) 3256 (lwL b x i) [] T' I' L') : pr_G g X 8 Q cs sl 3144 (lwL b x i) [] T I L := by
  obtain ⟨d1, mc1, ms1, Φ, hd1, hmc, hms, hC, K⟩ := S_saveSnapshot (g := g) (l := pr_launch X) (p1 := xs (i + 1).toNatClampNeg) (pr_hl hA) h
  refine pr_aload_n (n := 1) hA dM_3144 rfl ?_
  refine lw_arg hA hs 1 dM_3145 dM_3146 dM_3148 (by decide) dM_3149 dM_3150 rfl rfl h1 ?_
  refine pr_aload_n (n := 3) hA dM_3151 rfl ?_
  refine pr_callSH (n := 3) (st := []) (As := [.ref x, .int (xs (i + 1).toNatClampNeg), .ref (x + 267)]) hA rfl hC kM_L_337 kZ_L kW_L_saveSnapshot (by decide +kernel) (by decide) rfl kT_L_saveSnapshot rfl (by omega) (by omega) (by omega) rfl (Nat.le_of_ble_eq_true rfl) dM_3152 (fun v T1 I1 L1 hv => ?_)
  obtain ⟨k, rfl, d2, Φ2, hd2, hk8, hM2, K2⟩ := K v T1 I1 L1 hv
  refine pr_istore (ls' := [.ref b, .ref x, .ref (x + 251), .ref (x + 267), .int i, .int k, .null, .null]) hA dM_3155 (by decide) rfl ?_
  refine pr_aload_n (n := 2) hA dM_3157 rfl ?_
  refine lw_arg hA hs 1 dM_3158 dM_3159 dM_3161 (by decide) dM_3162 dM_3163 rfl rfl h1 ?_
  refine pr_callV (st := []) (As := [.int (xs (i + 1).toNatClampNeg)]) hA rfl hM2 v_L_339 hk8 (by decide) rfl rfl rfl (by omega) (by omega) (by omega) rfl (Nat.le_of_ble_eq_true rfl) dM_3164 (fun v T2 I2 L2 hv => ?_) (fun _ _ _ _ h => h.elim)
  obtain ⟨⟨_, rfl, bb, rfl, hr⟩, h6, h2⟩ := K2 v T2 I2 L2 hv
  exact lw_tail hA dM_3167 dM_3169 dM_3170 dM_3173 dM_3175 dM_3180 dM_3182 dM_3185 dM_3186 dM_3187 dM_3188 dM_3190 dM_3191 dM_3192 dM_3197 (by decide) (by omega) (by omega) hcs hsl hr h6 h2 nx
theorem cs_restoreSnapshot {g : pr_C} {X : pr_X} {Q : State → Prop} {cs sl : Nat} {T : pr_T} {I : pr_I} {L : pr_L} {b N x : Nat} {xs : Nat → Int32} (hA : pr_Am g X mLaw 13 601024 7293034) (hs : Scr g X b N xs) {i : Int32} (h1 : vp_in (i + 1) N) (h2 : vp_in (i + 2) N) (h3 : vp_in (i + 3) N) (h4 : vp_in (i + 4) N) (hcs : cs + 122 ≤ 601024) (hsl : sl + 5821 ≤ 7293034) (h : LI x T I L) (nx : ∀ T' I' L', LI x T' I' L' → pr_G g X 8 Q (cs + 122) (sl + 5821) 3256 (lwL b x i) [] T' I' L') : pr_G g X 8 Q cs sl 3200 (lwL b x i) [] T I L := by
  obtain ⟨d1, mc1, ms1, Φ, hd1, hmc, hms, hC, K⟩ := S_restoreSnapshot (g := g) (l := pr_launch X) (p1 := xs (i + 1).toNatClampNeg) (pr_hl hA) h
  refine pr_aload_n (n := 1) hA dM_3200 rfl ?_
  refine lw_arg hA hs 1 dM_3201 dM_3202 dM_3204 (by decide) dM_3205 dM_3206 rfl rfl h1 ?_
  refine pr_aload_n (n := 3) hA dM_3207 rfl ?_
  refine pr_callSH (n := 3) (st := []) (As := [.ref x, .int (xs (i + 1).toNatClampNeg), .ref (x + 267)]) hA rfl hC kM_L_340 kZ_L kW_L_restoreSnapshot (by decide +kernel) (by decide) rfl kT_L_restoreSnapshot rfl (by omega) (by omega) (by omega) rfl (Nat.le_of_ble_eq_true rfl) dM_3208 (fun v T1 I1 L1 hv => ?_)
  obtain ⟨k, rfl, d2, Φ2, hd2, hk8, hM2, K2⟩ := K v T1 I1 L1 hv
  refine pr_istore (ls' := [.ref b, .ref x, .ref (x + 251), .ref (x + 267), .int i, .int k, .null, .null]) hA dM_3211 (by decide) rfl ?_
  refine pr_aload_n (n := 2) hA dM_3213 rfl ?_
  refine lw_arg hA hs 1 dM_3214 dM_3215 dM_3217 (by decide) dM_3218 dM_3219 rfl rfl h1 ?_
  refine pr_callV (st := []) (As := [.int (xs (i + 1).toNatClampNeg)]) hA rfl hM2 v_L_342 hk8 (by decide) rfl rfl rfl (by omega) (by omega) (by omega) rfl (Nat.le_of_ble_eq_true rfl) dM_3220 (fun v T2 I2 L2 hv => ?_) (fun _ _ _ _ h => h.elim)
  obtain ⟨⟨_, rfl, bb, rfl, hr⟩, h6, h2⟩ := K2 v T2 I2 L2 hv
  exact lw_tail hA dM_3223 dM_3225 dM_3226 dM_3229 dM_3231 dM_3236 dM_3238 dM_3241 dM_3242 dM_3243 dM_3244 dM_3246 dM_3247 dM_3248 dM_3253 (by decide) (by omega) (by omega) hcs hsl hr h6 h2 nx
