/-! ===== printed: the code of each method ===== -/
set_option maxRecDepth 100000 in
theorem zk_2455 : zi_chk cX12_counts false 12 0 kX12_counts = true := by decide +kernel
theorem zp_2455 : zi_pg (2455, (yX12_counts, cX12_counts, 2, 1, 1)) := zi_pg_of zm_2455 rfl (fun h => by cases h) zk_2455
set_option maxRecDepth 100000 in
theorem zk_2456 : zi_chk cX12_undo false 12 0 kX12_undo = true := by decide +kernel
theorem zp_2456 : zi_pg (2456, (yX12_undo, cX12_undo, 2, 1, 0)) := zi_pg_of zm_2456 rfl (fun h => by cases h) zk_2456
set_option maxRecDepth 100000 in
theorem zk_2457 : zi_chk cX12_hiresTo false 12 0 kX12_hiresTo = true := by decide +kernel
theorem zp_2457 : zi_pg (2457, (yX12_hiresTo, cX12_hiresTo, 5, 1, 3)) := zi_pg_of zm_2457 rfl (fun h => by cases h) zk_2457
set_option maxRecDepth 100000 in
theorem zk_2458 : zi_chk cX12_leaves false 12 0 kX12_leaves = true := by decide +kernel
theorem zp_2458 : zi_pg (2458, (yX12_leaves, cX12_leaves, 4, 1, 2)) := zi_pg_of zm_2458 rfl (fun h => by cases h) zk_2458
set_option maxRecDepth 100000 in
theorem zk_2459 : zi_chk cX12_waterFor false 12 0 kX12_waterFor = true := by decide +kernel
theorem zp_2459 : zi_pg (2459, (yX12_waterFor, cX12_waterFor, 2, 1, 2)) := zi_pg_of zm_2459 rfl (fun h => by cases h) zk_2459
set_option maxRecDepth 100000 in
theorem zk_2460 : zi_chk cX12_whyNot false 12 0 kX12_whyNot = true := by decide +kernel
theorem zp_2460 : zi_pg (2460, (yX12_whyNot, cX12_whyNot, 5, 1, 3)) := zi_pg_of zm_2460 rfl (fun h => by cases h) zk_2460
set_option maxRecDepth 100000 in
theorem zk_2461 : zi_chk cX12_passes false 12 0 kX12_passes = true := by decide +kernel
theorem zp_2461 : zi_pg (2461, (yX12_passes, cX12_passes, 9, 1, 3)) := zi_pg_of zm_2461 rfl (fun h => by cases h) zk_2461
set_option maxRecDepth 100000 in
theorem zk_2462 : zi_chk cX12_restsFor false 12 0 kX12_restsFor = true := by decide +kernel
theorem zp_2462 : zi_pg (2462, (yX12_restsFor, cX12_restsFor, 5, 0, 2)) := zi_pg_of zm_2462 rfl (fun h => by cases h) zk_2462
set_option maxRecDepth 100000 in
theorem zk_2463 : zi_chk cX12_hire false 12 0 kX12_hire = true := by decide +kernel
theorem zp_2463 : zi_pg (2463, (yX12_hire, cX12_hire, 3, 1, 2)) := zi_pg_of zm_2463 rfl (fun h => by cases h) zk_2463
set_option maxRecDepth 100000 in
theorem zk_2464 : zi_chk cX12_leave false 12 0 kX12_leave = true := by decide +kernel
theorem zp_2464 : zi_pg (2464, (yX12_leave, cX12_leave, 2, 1, 1)) := zi_pg_of zm_2464 rfl (fun h => by cases h) zk_2464
set_option maxRecDepth 100000 in
theorem zk_2465 : zi_chk cX12_pass false 12 0 kX12_pass = true := by decide +kernel
theorem zp_2465 : zi_pg (2465, (yX12_pass, cX12_pass, 4, 1, 2)) := zi_pg_of zm_2465 rfl (fun h => by cases h) zk_2465
set_option maxRecDepth 100000 in
theorem zk_2466 : zi_chk cX12_rest false 12 0 kX12_rest = true := by decide +kernel
theorem zp_2466 : zi_pg (2466, (yX12_rest, cX12_rest, 2, 1, 1)) := zi_pg_of zm_2466 rfl (fun h => by cases h) zk_2466
set_option maxRecDepth 100000 in
theorem zk_2467 : zi_chk cX12_readsAct false 12 0 kX12_readsAct = true := by decide +kernel
theorem zp_2467 : zi_pg (2467, (yX12_readsAct, cX12_readsAct, 2, 2, 0)) := zi_pg_of zm_2467 rfl (fun h => by cases h) zk_2467
set_option maxRecDepth 100000 in
theorem zk_2468 : zi_chk cX12_does false 12 0 kX12_does = true := by decide +kernel
theorem zp_2468 : zi_pg (2468, (yX12_does, cX12_does, 4, 2, 1)) := zi_pg_of zm_2468 rfl (fun h => by cases h) zk_2468
set_option maxRecDepth 100000 in
theorem zk_2469 : zi_chk cX12_day false 12 0 kX12_day = true := by decide +kernel
theorem zp_2469 : zi_pg (2469, (yX12_day, cX12_day, 6, 1, 0)) := zi_pg_of zm_2469 rfl (fun h => by cases h) zk_2469
set_option maxRecDepth 100000 in
theorem zk_2470 : zi_chk cX12_isPair false 12 0 kX12_isPair = true := by decide +kernel
theorem zp_2470 : zi_pg (2470, (yX12_isPair, cX12_isPair, 3, 2, 2)) := zi_pg_of zm_2470 rfl (fun h => by cases h) zk_2470
set_option maxRecDepth 100000 in
theorem zk_2471 : zi_chk cX12_sings false 12 0 kX12_sings = true := by decide +kernel
theorem zp_2471 : zi_pg (2471, (yX12_sings, cX12_sings, 4, 1, 2)) := zi_pg_of zm_2471 rfl (fun h => by cases h) zk_2471
set_option maxRecDepth 100000 in
theorem zk_2472 : zi_chk cX12_lacks false 12 0 kX12_lacks = true := by decide +kernel
theorem zp_2472 : zi_pg (2472, (yX12_lacks, cX12_lacks, 6, 1, 2)) := zi_pg_of zm_2472 rfl (fun h => by cases h) zk_2472
set_option maxRecDepth 100000 in
theorem zk_2473 : zi_chk cX12_spoils false 12 0 kX12_spoils = true := by decide +kernel
theorem zp_2473 : zi_pg (2473, (yX12_spoils, cX12_spoils, 7, 1, 2)) := zi_pg_of zm_2473 rfl (fun h => by cases h) zk_2473
set_option maxRecDepth 100000 in
theorem zk_2474 : zi_chk cX12_isShift false 12 0 kX12_isShift = true := by decide +kernel
theorem zp_2474 : zi_pg (2474, (yX12_isShift, cX12_isShift, 6, 2, 3)) := zi_pg_of zm_2474 rfl (fun h => by cases h) zk_2474
set_option maxRecDepth 100000 in
theorem zk_2475 : zi_chk cX12_shift false 12 0 kX12_shift = true := by decide +kernel
theorem zp_2475 : zi_pg (2475, (yX12_shift, cX12_shift, 5, 1, 2)) := zi_pg_of zm_2475 rfl (fun h => by cases h) zk_2475
set_option maxRecDepth 100000 in
theorem zk_2476 : zi_chk cX12_fees false 12 0 kX12_fees = true := by decide +kernel
theorem zp_2476 : zi_pg (2476, (yX12_fees, cX12_fees, 4, 1, 1)) := zi_pg_of zm_2476 rfl (fun h => by cases h) zk_2476
set_option maxRecDepth 100000 in
theorem zk_2477 : zi_chk cX12_isCheaper false 12 0 kX12_isCheaper = true := by decide +kernel
theorem zp_2477 : zi_pg (2477, (yX12_isCheaper, cX12_isCheaper, 3, 2, 2)) := zi_pg_of zm_2477 rfl (fun h => by cases h) zk_2477
set_option maxRecDepth 100000 in
theorem zk_2478 : zi_chk cX12_voicesOf false 12 0 kX12_voicesOf = true := by decide +kernel
theorem zp_2478 : zi_pg (2478, (yX12_voicesOf, cX12_voicesOf, 7, 1, 3)) := zi_pg_of zm_2478 rfl (fun h => by cases h) zk_2478
set_option maxRecDepth 100000 in
theorem zk_2479 : zi_chk cX12_freeAt false 12 0 kX12_freeAt = true := by decide +kernel
theorem zp_2479 : zi_pg (2479, (yX12_freeAt, cX12_freeAt, 4, 1, 1)) := zi_pg_of zm_2479 rfl (fun h => by cases h) zk_2479
set_option maxRecDepth 100000 in
theorem zk_2480 : zi_chk cX12_voices false 12 0 kX12_voices = true := by decide +kernel
theorem zp_2480 : zi_pg (2480, (yX12_voices, cX12_voices, 4, 1, 2)) := zi_pg_of zm_2480 rfl (fun h => by cases h) zk_2480
set_option maxRecDepth 100000 in
theorem zk_2481 : zi_chk cX12_puts false 12 0 kX12_puts = true := by decide +kernel
theorem zp_2481 : zi_pg (2481, (yX12_puts, cX12_puts, 2, 0, 0)) := zi_pg_of zm_2481 rfl (fun h => by cases h) zk_2481
set_option maxRecDepth 100000 in
theorem zk_2482 : zi_chk cX12_goesTo false 12 0 kX12_goesTo = true := by decide +kernel
theorem zp_2482 : zi_pg (2482, (yX12_goesTo, cX12_goesTo, 4, 1, 2)) := zi_pg_of zm_2482 rfl (fun h => by cases h) zk_2482
set_option maxRecDepth 100000 in
theorem zk_2483 : zi_chk cX12_journey false 12 0 kX12_journey = true := by decide +kernel
theorem zp_2483 : zi_pg (2483, (yX12_journey, cX12_journey, 4, 1, 2)) := zi_pg_of zm_2483 rfl (fun h => by cases h) zk_2483
set_option maxRecDepth 100000 in
theorem zk_2484 : zi_chk cX12_singsAll false 12 0 kX12_singsAll = true := by decide +kernel
theorem zp_2484 : zi_pg (2484, (yX12_singsAll, cX12_singsAll, 9, 2, 3)) := zi_pg_of zm_2484 rfl (fun h => by cases h) zk_2484
set_option maxRecDepth 100000 in
theorem zk_2485 : zi_chk cX12_hires false 12 0 kX12_hires = true := by decide +kernel
theorem zp_2485 : zi_pg (2485, (yX12_hires, cX12_hires, 7, 1, 2)) := zi_pg_of zm_2485 rfl (fun h => by cases h) zk_2485
set_option maxRecDepth 100000 in
theorem zk_2486 : zi_chk cX12_rested false 12 0 kX12_rested = true := by decide +kernel
theorem zp_2486 : zi_pg (2486, (yX12_rested, cX12_rested, 5, 1, 2)) := zi_pg_of zm_2486 rfl (fun h => by cases h) zk_2486
set_option maxRecDepth 100000 in
theorem zk_2487 : zi_chk cX12_spot false 12 0 kX12_spot = true := by decide +kernel
theorem zp_2487 : zi_pg (2487, (yX12_spot, cX12_spot, 3, 1, 3)) := zi_pg_of zm_2487 rfl (fun h => by cases h) zk_2487
set_option maxRecDepth 100000 in
theorem zk_2488 : zi_chk cX12_costOf false 12 0 kX12_costOf = true := by decide +kernel
theorem zp_2488 : zi_pg (2488, (yX12_costOf, cX12_costOf, 2, 1, 2)) := zi_pg_of zm_2488 rfl (fun h => by cases h) zk_2488
set_option maxRecDepth 100000 in
theorem zk_2489 : zi_chk cX12_yetBy false 12 0 kX12_yetBy = true := by decide +kernel
theorem zp_2489 : zi_pg (2489, (yX12_yetBy, cX12_yetBy, 5, 1, 4)) := zi_pg_of zm_2489 rfl (fun h => by cases h) zk_2489
set_option maxRecDepth 100000 in
theorem zk_2490 : zi_chk cX12_laysQueue false 12 0 kX12_laysQueue = true := by decide +kernel
theorem zp_2490 : zi_pg (2490, (yX12_laysQueue, cX12_laysQueue, 5, 0, 0)) := zi_pg_of zm_2490 rfl (fun h => by cases h) zk_2490
set_option maxRecDepth 100000 in
theorem zk_2491 : zi_chk cX12_queue false 12 0 kX12_queue = true := by decide +kernel
theorem zp_2491 : zi_pg (2491, (yX12_queue, cX12_queue, 10, 1, 1)) := zi_pg_of zm_2491 rfl (fun h => by cases h) zk_2491
set_option maxRecDepth 100000 in
theorem zk_2492 : zi_chk cX12_passing false 12 0 kX12_passing = true := by decide +kernel
theorem zp_2492 : zi_pg (2492, (yX12_passing, cX12_passing, 3, 1, 0)) := zi_pg_of zm_2492 rfl (fun h => by cases h) zk_2492
set_option maxRecDepth 100000 in
theorem zk_2493 : zi_chk cX12_jams false 12 0 kX12_jams = true := by decide +kernel
theorem zp_2493 : zi_pg (2493, (yX12_jams, cX12_jams, 9, 1, 0)) := zi_pg_of zm_2493 rfl (fun h => by cases h) zk_2493
set_option maxRecDepth 100000 in
theorem zk_2494 : zi_chk cX12_heard false 12 0 kX12_heard = true := by decide +kernel
theorem zp_2494 : zi_pg (2494, (yX12_heard, cX12_heard, 3, 1, 2)) := zi_pg_of zm_2494 rfl (fun h => by cases h) zk_2494
set_option maxRecDepth 100000 in
theorem zk_2495 : zi_chk cX12_forget false 12 0 kX12_forget = true := by decide +kernel
theorem zp_2495 : zi_pg (2495, (yX12_forget, cX12_forget, 2, 1, 0)) := zi_pg_of zm_2495 rfl (fun h => by cases h) zk_2495
set_option maxRecDepth 100000 in
theorem zk_2496 : zi_chk cX12_singersOf false 12 0 kX12_singersOf = true := by decide +kernel
theorem zp_2496 : zi_pg (2496, (yX12_singersOf, cX12_singersOf, 4, 1, 1)) := zi_pg_of zm_2496 rfl (fun h => by cases h) zk_2496
set_option maxRecDepth 100000 in
theorem zk_2497 : zi_chk cX12_fitting false 12 0 kX12_fitting = true := by decide +kernel
theorem zp_2497 : zi_pg (2497, (yX12_fitting, cX12_fitting, 3, 1, 0)) := zi_pg_of zm_2497 rfl (fun h => by cases h) zk_2497
set_option maxRecDepth 100000 in
theorem zk_2498 : zi_chk cX12_who false 12 0 kX12_who = true := by decide +kernel
theorem zp_2498 : zi_pg (2498, (yX12_who, cX12_who, 2, 1, 0)) := zi_pg_of zm_2498 rfl (fun h => by cases h) zk_2498
set_option maxRecDepth 100000 in
theorem zk_2499 : zi_chk cX12_listen false 12 0 kX12_listen = true := by decide +kernel
theorem zp_2499 : zi_pg (2499, (yX12_listen, cX12_listen, 6, 1, 0)) := zi_pg_of zm_2499 rfl (fun h => by cases h) zk_2499
set_option maxRecDepth 100000 in
theorem zk_2500 : zi_chk cX12_isParted false 12 0 kX12_isParted = true := by decide +kernel
theorem zp_2500 : zi_pg (2500, (yX12_isParted, cX12_isParted, 8, 2, 2)) := zi_pg_of zm_2500 rfl (fun h => by cases h) zk_2500
set_option maxRecDepth 100000 in
theorem zk_2501 : zi_chk cX12_partsBy false 12 0 kX12_partsBy = true := by decide +kernel
theorem zp_2501 : zi_pg (2501, (yX12_partsBy, cX12_partsBy, 7, 1, 4)) := zi_pg_of zm_2501 rfl (fun h => by cases h) zk_2501
set_option maxRecDepth 100000 in
theorem zk_2502 : zi_chk cX12_parts false 12 0 kX12_parts = true := by decide +kernel
theorem zp_2502 : zi_pg (2502, (yX12_parts, cX12_parts, 4, 1, 0)) := zi_pg_of zm_2502 rfl (fun h => by cases h) zk_2502
set_option maxRecDepth 100000 in
theorem zk_2503 : zi_chk cX12_bets false 12 0 kX12_bets = true := by decide +kernel
theorem zp_2503 : zi_pg (2503, (yX12_bets, cX12_bets, 8, 0, 2)) := zi_pg_of zm_2503 rfl (fun h => by cases h) zk_2503
set_option maxRecDepth 100000 in
theorem zk_2504 : zi_chk cX12_opens false 12 0 kX12_opens = true := by decide +kernel
theorem zp_2504 : zi_pg (2504, (yX12_opens, cX12_opens, 5, 1, 2)) := zi_pg_of zm_2504 rfl (fun h => by cases h) zk_2504
set_option maxRecDepth 100000 in
theorem zk_2505 : zi_chk cX12_tries false 12 0 kX12_tries = true := by decide +kernel
theorem zp_2505 : zi_pg (2505, (yX12_tries, cX12_tries, 4, 1, 2)) := zi_pg_of zm_2505 rfl (fun h => by cases h) zk_2505
set_option maxRecDepth 100000 in
theorem zk_2506 : zi_chk cX12_earns false 12 0 kX12_earns = true := by decide +kernel
theorem zp_2506 : zi_pg (2506, (yX12_earns, cX12_earns, 3, 1, 3)) := zi_pg_of zm_2506 rfl (fun h => by cases h) zk_2506
set_option maxRecDepth 100000 in
theorem zk_2507 : zi_chk cX12_isRest false 12 0 kX12_isRest = true := by decide +kernel
theorem zp_2507 : zi_pg (2507, (yX12_isRest, cX12_isRest, 5, 2, 3)) := zi_pg_of zm_2507 rfl (fun h => by cases h) zk_2507
set_option maxRecDepth 100000 in
theorem zk_2508 : zi_chk cX12_rests false 12 0 kX12_rests = true := by decide +kernel
theorem zp_2508 : zi_pg (2508, (yX12_rests, cX12_rests, 5, 1, 1)) := zi_pg_of zm_2508 rfl (fun h => by cases h) zk_2508
set_option maxRecDepth 100000 in
theorem zk_2509 : zi_chk cX12_pays false 12 0 kX12_pays = true := by decide +kernel
theorem zp_2509 : zi_pg (2509, (yX12_pays, cX12_pays, 9, 1, 2)) := zi_pg_of zm_2509 rfl (fun h => by cases h) zk_2509
set_option maxRecDepth 100000 in
theorem zk_2510 : zi_chk cX12_days false 12 0 kX12_days = true := by decide +kernel
theorem zp_2510 : zi_pg (2510, (yX12_days, cX12_days, 8, 1, 2)) := zi_pg_of zm_2510 rfl (fun h => by cases h) zk_2510
set_option maxRecDepth 100000 in
theorem zk_2511 : zi_chk cX12_keep false 12 0 kX12_keep = true := by decide +kernel
theorem zp_2511 : zi_pg (2511, (yX12_keep, cX12_keep, 3, 2, 1)) := zi_pg_of zm_2511 rfl (fun h => by cases h) zk_2511
set_option maxRecDepth 100000 in
theorem zk_2512 : zi_chk cX12_again false 12 0 kX12_again = true := by decide +kernel
theorem zp_2512 : zi_pg (2512, (yX12_again, cX12_again, 3, 2, 1)) := zi_pg_of zm_2512 rfl (fun h => by cases h) zk_2512
set_option maxRecDepth 100000 in
theorem zk_2513 : zi_chk cX12_levels false 12 0 kX12_levels = true := by decide +kernel
theorem zp_2513 : zi_pg (2513, (yX12_levels, cX12_levels, 3, 1, 0)) := zi_pg_of zm_2513 rfl (fun h => by cases h) zk_2513
set_option maxRecDepth 100000 in
theorem zk_2514 : zi_chk cX12_count false 12 0 kX12_count = true := by decide +kernel
theorem zp_2514 : zi_pg (2514, (yX12_count, cX12_count, 2, 1, 1)) := zi_pg_of zm_2514 rfl (fun h => by cases h) zk_2514
set_option maxRecDepth 100000 in
theorem zk_2515 : zi_chk cX12_row false 12 0 kX12_row = true := by decide +kernel
theorem zp_2515 : zi_pg (2515, (yX12_row, cX12_row, 2, 3, 1)) := zi_pg_of zm_2515 rfl (fun h => by cases h) zk_2515
set_option maxRecDepth 100000 in
theorem zk_2800 : zi_chk cJ6_bitCount_0f7a4 false 14 0 kJ6_bitCount_0f7a4 = true := by decide +kernel
theorem zp_2800 : zi_pg (2800, (yJ6_bitCount_0f7a4, cJ6_bitCount_0f7a4, 1, 1, 1)) := zi_pg_of zm_2800 rfl (fun h => by cases h) zk_2800
set_option maxRecDepth 100000 in
theorem zk_3000 : zi_chk cJ0_length_8abf5 false 15 0 kJ0_length_8abf5 = true := by decide +kernel
theorem zp_3000 : zi_pg (3000, (yJ0_length_8abf5, cJ0_length_8abf5, 1, 1, 0)) := zi_pg_of zm_3000 rfl (fun h => by cases h) zk_3000
set_option maxRecDepth 100000 in
theorem zk_3001 : zi_chk cJ0_charAt_5068e false 15 0 kJ0_charAt_5068e = true := by decide +kernel
theorem zp_3001 : zi_pg (3001, (yJ0_charAt_5068e, cJ0_charAt_5068e, 2, 4, 1)) := zi_pg_of zm_3001 rfl (fun h => by cases h) zk_3001
set_option maxRecDepth 100000 in
theorem zk_3002 : zi_chk cJ0_indexOf_0f7a4 false 15 0 kJ0_indexOf_0f7a4 = true := by decide +kernel
theorem zp_3002 : zi_pg (3002, (yJ0_indexOf_0f7a4, cJ0_indexOf_0f7a4, 2, 1, 1)) := zi_pg_of zm_3002 rfl (fun h => by cases h) zk_3002
set_option maxRecDepth 100000 in
theorem zk_3003 : zi_chk cJ0_indexOf_7cf53 false 15 0 kJ0_indexOf_7cf53 = true := by decide +kernel
theorem zp_3003 : zi_pg (3003, (yJ0_indexOf_7cf53, cJ0_indexOf_7cf53, 3, 1, 2)) := zi_pg_of zm_3003 rfl (fun h => by cases h) zk_3003
set_option maxRecDepth 100000 in
theorem zk_3004 : zi_chk cJ0_coder_7d493 false 15 0 kJ0_coder_7d493 = true := by decide +kernel
theorem zp_3004 : zi_pg (3004, (yJ0_coder_7d493, cJ0_coder_7d493, 1, 5, 0)) := zi_pg_of zm_3004 rfl (fun h => by cases h) zk_3004
set_option maxRecDepth 100000 in
theorem zk_3005 : zi_chk cJ0_isLatin1_aae02 false 15 0 kJ0_isLatin1_aae02 = true := by decide +kernel
theorem zp_3005 : zi_pg (3005, (yJ0_isLatin1_aae02, cJ0_isLatin1_aae02, 1, 2, 0)) := zi_pg_of zm_3005 rfl (fun h => by cases h) zk_3005
set_option maxRecDepth 100000 in
theorem zk_3099 : zi_chk cJ0_checkIndex_df160 false 15 0 kJ0_checkIndex_df160 = true := by decide +kernel
theorem zp_3099 : zi_pg (3099, (yJ0_checkIndex_df160, cJ0_checkIndex_df160, 2, 0, 2)) := zi_pg_of zm_3099 rfl (fun h => by cases h) zk_3099
set_option maxRecDepth 100000 in
theorem zk_3200 : zi_chk cJ1_charAt_3b067 false 16 0 kJ1_charAt_3b067 = true := by decide +kernel
theorem zp_3200 : zi_pg (3200, (yJ1_charAt_3b067, cJ1_charAt_3b067, 2, 4, 2)) := zi_pg_of zm_3200 rfl (fun h => by cases h) zk_3200
set_option maxRecDepth 100000 in
theorem zk_3201 : zi_chk cJ1_canEncode_9a6ad false 16 0 kJ1_canEncode_9a6ad = true := by decide +kernel
theorem zp_3201 : zi_pg (3201, (yJ1_canEncode_9a6ad, cJ1_canEncode_9a6ad, 1, 2, 1)) := zi_pg_of zm_3201 rfl (fun h => by cases h) zk_3201
set_option maxRecDepth 100000 in
theorem zk_3202 : zi_chk cJ1_indexOf_4cfef false 16 0 kJ1_indexOf_4cfef = true := by decide +kernel
theorem zp_3202 : zi_pg (3202, (yJ1_indexOf_4cfef, cJ1_indexOf_4cfef, 4, 1, 4)) := zi_pg_of zm_3202 rfl (fun h => by cases h) zk_3202
set_option maxRecDepth 100000 in
theorem zk_3203 : zi_chk cJ1_indexOfChar_4cfef false 16 0 kJ1_indexOfChar_4cfef = true := by decide +kernel
theorem zp_3203 : zi_pg (3203, (yJ1_indexOfChar_4cfef, cJ1_indexOfChar_4cfef, 6, 1, 4)) := zi_pg_of zm_3203 rfl (fun h => by cases h) zk_3203
