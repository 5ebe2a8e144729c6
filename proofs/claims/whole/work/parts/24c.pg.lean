/-! ===== printed: the code of each method ===== -/
set_option maxRecDepth 100000 in
theorem zk_2242 : zi_chk cX11_forget false 11 0 kX11_forget = true := by decide +kernel
theorem zp_2242 : zi_pg (2242, (yX11_forget, cX11_forget, 2, 1, 0)) := zi_pg_of zm_2242 rfl (fun h => by cases h) zk_2242
set_option maxRecDepth 100000 in
theorem zk_2243 : zi_chk cX11_who false 11 0 kX11_who = true := by decide +kernel
theorem zp_2243 : zi_pg (2243, (yX11_who, cX11_who, 2, 1, 0)) := zi_pg_of zm_2243 rfl (fun h => by cases h) zk_2243
set_option maxRecDepth 100000 in
theorem zk_2244 : zi_chk cX11_listen false 11 0 kX11_listen = true := by decide +kernel
theorem zp_2244 : zi_pg (2244, (yX11_listen, cX11_listen, 6, 1, 0)) := zi_pg_of zm_2244 rfl (fun h => by cases h) zk_2244
set_option maxRecDepth 100000 in
theorem zk_2245 : zi_chk cX11_parts false 11 0 kX11_parts = true := by decide +kernel
theorem zp_2245 : zi_pg (2245, (yX11_parts, cX11_parts, 2, 1, 0)) := zi_pg_of zm_2245 rfl (fun h => by cases h) zk_2245
set_option maxRecDepth 100000 in
theorem zk_2246 : zi_chk cX11_opens false 11 0 kX11_opens = true := by decide +kernel
theorem zp_2246 : zi_pg (2246, (yX11_opens, cX11_opens, 9, 1, 2)) := zi_pg_of zm_2246 rfl (fun h => by cases h) zk_2246
set_option maxRecDepth 100000 in
theorem zk_2247 : zi_chk cX11_tries false 11 0 kX11_tries = true := by decide +kernel
theorem zp_2247 : zi_pg (2247, (yX11_tries, cX11_tries, 4, 1, 2)) := zi_pg_of zm_2247 rfl (fun h => by cases h) zk_2247
set_option maxRecDepth 100000 in
theorem zk_2248 : zi_chk cX11_rests false 11 0 kX11_rests = true := by decide +kernel
theorem zp_2248 : zi_pg (2248, (yX11_rests, cX11_rests, 5, 1, 1)) := zi_pg_of zm_2248 rfl (fun h => by cases h) zk_2248
set_option maxRecDepth 100000 in
theorem zk_2249 : zi_chk cX11_pays false 11 0 kX11_pays = true := by decide +kernel
theorem zp_2249 : zi_pg (2249, (yX11_pays, cX11_pays, 9, 1, 2)) := zi_pg_of zm_2249 rfl (fun h => by cases h) zk_2249
set_option maxRecDepth 100000 in
theorem zk_2250 : zi_chk cX11_tellFirstPair false 11 0 kX11_tellFirstPair = true := by decide +kernel
theorem zp_2250 : zi_pg (2250, (yX11_tellFirstPair, cX11_tellFirstPair, 4, 0, 3)) := zi_pg_of zm_2250 rfl (fun h => by cases h) zk_2250
set_option maxRecDepth 100000 in
theorem zk_2251 : zi_chk cX11_chances false 11 0 kX11_chances = true := by decide +kernel
theorem zp_2251 : zi_pg (2251, (yX11_chances, cX11_chances, 4, 3, 2)) := zi_pg_of zm_2251 rfl (fun h => by cases h) zk_2251
set_option maxRecDepth 100000 in
theorem zk_2252 : zi_chk cX11_power false 11 0 kX11_power = true := by decide +kernel
theorem zp_2252 : zi_pg (2252, (yX11_power, cX11_power, 6, 3, 2)) := zi_pg_of zm_2252 rfl (fun h => by cases h) zk_2252
set_option maxRecDepth 100000 in
theorem zk_2253 : zi_chk cX11_commonDivisor false 11 0 kX11_commonDivisor = true := by decide +kernel
theorem zp_2253 : zi_pg (2253, (yX11_commonDivisor, cX11_commonDivisor, 7, 3, 2)) := zi_pg_of zm_2253 rfl (fun h => by cases h) zk_2253
set_option maxRecDepth 100000 in
theorem zk_2254 : zi_chk cX11_isBest false 11 0 kX11_isBest = true := by decide +kernel
theorem zp_2254 : zi_pg (2254, (yX11_isBest, cX11_isBest, 5, 2, 3)) := zi_pg_of zm_2254 rfl (fun h => by cases h) zk_2254
set_option maxRecDepth 100000 in
theorem zk_2255 : zi_chk cX11_gain false 11 0 kX11_gain = true := by decide +kernel
theorem zp_2255 : zi_pg (2255, (yX11_gain, cX11_gain, 3, 1, 3)) := zi_pg_of zm_2255 rfl (fun h => by cases h) zk_2255
set_option maxRecDepth 100000 in
theorem zk_2256 : zi_chk cX11_days false 11 0 kX11_days = true := by decide +kernel
theorem zp_2256 : zi_pg (2256, (yX11_days, cX11_days, 8, 1, 2)) := zi_pg_of zm_2256 rfl (fun h => by cases h) zk_2256
set_option maxRecDepth 100000 in
theorem zk_2257 : zi_chk cX11_drawNext false 11 0 kX11_drawNext = true := by decide +kernel
theorem zp_2257 : zi_pg (2257, (yX11_drawNext, cX11_drawNext, 1, 1, 1)) := zi_pg_of zm_2257 rfl (fun h => by cases h) zk_2257
set_option maxRecDepth 100000 in
theorem zk_2258 : zi_chk cX11_keep false 11 0 kX11_keep = true := by decide +kernel
theorem zp_2258 : zi_pg (2258, (yX11_keep, cX11_keep, 2, 2, 1)) := zi_pg_of zm_2258 rfl (fun h => by cases h) zk_2258
set_option maxRecDepth 100000 in
theorem zk_2259 : zi_chk cX11_again false 11 0 kX11_again = true := by decide +kernel
theorem zp_2259 : zi_pg (2259, (yX11_again, cX11_again, 2, 2, 1)) := zi_pg_of zm_2259 rfl (fun h => by cases h) zk_2259
set_option maxRecDepth 100000 in
theorem zk_2260 : zi_chk cX11_count false 11 0 kX11_count = true := by decide +kernel
theorem zp_2260 : zi_pg (2260, (yX11_count, cX11_count, 2, 1, 1)) := zi_pg_of zm_2260 rfl (fun h => by cases h) zk_2260
set_option maxRecDepth 100000 in
theorem zk_2261 : zi_chk cX11_row false 11 0 kX11_row = true := by decide +kernel
theorem zp_2261 : zi_pg (2261, (yX11_row, cX11_row, 2, 3, 1)) := zi_pg_of zm_2261 rfl (fun h => by cases h) zk_2261
set_option maxRecDepth 100000 in
theorem zk_2400 : zi_chk cX12_init true 12 0 kX12_init = true := by decide +kernel
theorem zp_2400 : zi_pg (2400, (yX12_init, cX12_init, 1, 0, 0)) := zi_pg_of zm_2400 rfl (fun _ => rfl) zk_2400
set_option maxRecDepth 100000 in
theorem zk_2401 : zi_chk cX12_thrown false 12 0 kX12_thrown = true := by decide +kernel
theorem zp_2401 : zi_pg (2401, (yX12_thrown, cX12_thrown, 1, 1, 0)) := zi_pg_of zm_2401 rfl (fun h => by cases h) zk_2401
set_option maxRecDepth 100000 in
theorem zk_2402 : zi_chk cX12_refuse false 12 0 kX12_refuse = true := by decide +kernel
theorem zp_2402 : zi_pg (2402, (yX12_refuse, cX12_refuse, 1, 1, 0)) := zi_pg_of zm_2402 rfl (fun h => by cases h) zk_2402
set_option maxRecDepth 100000 in
theorem zk_2403 : zi_chk cX12_in false 12 0 kX12_in = true := by decide +kernel
theorem zp_2403 : zi_pg (2403, (yX12_in, cX12_in, 6, 2, 3)) := zi_pg_of zm_2403 rfl (fun h => by cases h) zk_2403
set_option maxRecDepth 100000 in
theorem zk_2404 : zi_chk cX12_has false 12 0 kX12_has = true := by decide +kernel
theorem zp_2404 : zi_pg (2404, (yX12_has, cX12_has, 2, 2, 2)) := zi_pg_of zm_2404 rfl (fun h => by cases h) zk_2404
set_option maxRecDepth 100000 in
theorem zk_2405 : zi_chk cX12_flag false 12 0 kX12_flag = true := by decide +kernel
theorem zp_2405 : zi_pg (2405, (yX12_flag, cX12_flag, 1, 1, 1)) := zi_pg_of zm_2405 rfl (fun h => by cases h) zk_2405
set_option maxRecDepth 100000 in
theorem zk_2406 : zi_chk cX12_common false 12 0 kX12_common = true := by decide +kernel
theorem zp_2406 : zi_pg (2406, (yX12_common, cX12_common, 4, 3, 2)) := zi_pg_of zm_2406 rfl (fun h => by cases h) zk_2406
set_option maxRecDepth 100000 in
theorem zk_2407 : zi_chk cX12_enters false 12 0 kX12_enters = true := by decide +kernel
theorem zp_2407 : zi_pg (2407, (yX12_enters, cX12_enters, 3, 0, 1)) := zi_pg_of zm_2407 rfl (fun h => by cases h) zk_2407
set_option maxRecDepth 100000 in
theorem zk_2408 : zi_chk cX12_isLock false 12 0 kX12_isLock = true := by decide +kernel
theorem zp_2408 : zi_pg (2408, (yX12_isLock, cX12_isLock, 2, 2, 1)) := zi_pg_of zm_2408 rfl (fun h => by cases h) zk_2408
set_option maxRecDepth 100000 in
theorem zk_2409 : zi_chk cX12_isSinger false 12 0 kX12_isSinger = true := by decide +kernel
theorem zp_2409 : zi_pg (2409, (yX12_isSinger, cX12_isSinger, 2, 2, 1)) := zi_pg_of zm_2409 rfl (fun h => by cases h) zk_2409
set_option maxRecDepth 100000 in
theorem zk_2410 : zi_chk cX12_isBarge false 12 0 kX12_isBarge = true := by decide +kernel
theorem zp_2410 : zi_pg (2410, (yX12_isBarge, cX12_isBarge, 2, 2, 1)) := zi_pg_of zm_2410 rfl (fun h => by cases h) zk_2410
set_option maxRecDepth 100000 in
theorem zk_2411 : zi_chk cX12_isPlace false 12 0 kX12_isPlace = true := by decide +kernel
theorem zp_2411 : zi_pg (2411, (yX12_isPlace, cX12_isPlace, 2, 2, 1)) := zi_pg_of zm_2411 rfl (fun h => by cases h) zk_2411
set_option maxRecDepth 100000 in
theorem zk_2412 : zi_chk cX12_placeOf false 12 0 kX12_placeOf = true := by decide +kernel
theorem zp_2412 : zi_pg (2412, (yX12_placeOf, cX12_placeOf, 2, 1, 2)) := zi_pg_of zm_2412 rfl (fun h => by cases h) zk_2412
set_option maxRecDepth 100000 in
theorem zk_2413 : zi_chk cX12_crewOf false 12 0 kX12_crewOf = true := by decide +kernel
theorem zp_2413 : zi_pg (2413, (yX12_crewOf, cX12_crewOf, 2, 1, 2)) := zi_pg_of zm_2413 rfl (fun h => by cases h) zk_2413
set_option maxRecDepth 100000 in
theorem zk_2414 : zi_chk cX12_tiredOf false 12 0 kX12_tiredOf = true := by decide +kernel
theorem zp_2414 : zi_pg (2414, (yX12_tiredOf, cX12_tiredOf, 2, 1, 2)) := zi_pg_of zm_2414 rfl (fun h => by cases h) zk_2414
set_option maxRecDepth 100000 in
theorem zk_2415 : zi_chk cX12_crew false 12 0 kX12_crew = true := by decide +kernel
theorem zp_2415 : zi_pg (2415, (yX12_crew, cX12_crew, 5, 1, 2)) := zi_pg_of zm_2415 rfl (fun h => by cases h) zk_2415
set_option maxRecDepth 100000 in
theorem zk_2416 : zi_chk cX12_whereIs false 12 0 kX12_whereIs = true := by decide +kernel
theorem zp_2416 : zi_pg (2416, (yX12_whereIs, cX12_whereIs, 3, 1, 1)) := zi_pg_of zm_2416 rfl (fun h => by cases h) zk_2416
set_option maxRecDepth 100000 in
theorem zk_2417 : zi_chk cX12_sign false 12 0 kX12_sign = true := by decide +kernel
theorem zp_2417 : zi_pg (2417, (yX12_sign, cX12_sign, 3, 1, 1)) := zi_pg_of zm_2417 rfl (fun h => by cases h) zk_2417
set_option maxRecDepth 100000 in
theorem zk_2418 : zi_chk cX12_end false 12 0 kX12_end = true := by decide +kernel
theorem zp_2418 : zi_pg (2418, (yX12_end, cX12_end, 2, 2, 1)) := zi_pg_of zm_2418 rfl (fun h => by cases h) zk_2418
set_option maxRecDepth 100000 in
theorem zk_2419 : zi_chk cX12_begins false 12 0 kX12_begins = true := by decide +kernel
theorem zp_2419 : zi_pg (2419, (yX12_begins, cX12_begins, 3, 1, 1)) := zi_pg_of zm_2419 rfl (fun h => by cases h) zk_2419
set_option maxRecDepth 100000 in
theorem zk_2420 : zi_chk cX12_takes false 12 0 kX12_takes = true := by decide +kernel
theorem zp_2420 : zi_pg (2420, (yX12_takes, cX12_takes, 3, 2, 1)) := zi_pg_of zm_2420 rfl (fun h => by cases h) zk_2420
set_option maxRecDepth 100000 in
theorem zk_2421 : zi_chk cX12_isDigit false 12 0 kX12_isDigit = true := by decide +kernel
theorem zp_2421 : zi_pg (2421, (yX12_isDigit, cX12_isDigit, 1, 2, 0)) := zi_pg_of zm_2421 rfl (fun h => by cases h) zk_2421
set_option maxRecDepth 100000 in
theorem zk_2422 : zi_chk cX12_among false 12 0 kX12_among = true := by decide +kernel
theorem zp_2422 : zi_pg (2422, (yX12_among, cX12_among, 3, 1, 1)) := zi_pg_of zm_2422 rfl (fun h => by cases h) zk_2422
set_option maxRecDepth 100000 in
theorem zk_2423 : zi_chk cX12_takesOf false 12 0 kX12_takesOf = true := by decide +kernel
theorem zp_2423 : zi_pg (2423, (yX12_takesOf, cX12_takesOf, 3, 1, 1)) := zi_pg_of zm_2423 rfl (fun h => by cases h) zk_2423
set_option maxRecDepth 100000 in
theorem zk_2424 : zi_chk cX12_number false 12 0 kX12_number = true := by decide +kernel
theorem zp_2424 : zi_pg (2424, (yX12_number, cX12_number, 4, 1, 1)) := zi_pg_of zm_2424 rfl (fun h => by cases h) zk_2424
set_option maxRecDepth 100000 in
theorem zk_2425 : zi_chk cX12_signIn false 12 0 kX12_signIn = true := by decide +kernel
theorem zp_2425 : zi_pg (2425, (yX12_signIn, cX12_signIn, 4, 1, 3)) := zi_pg_of zm_2425 rfl (fun h => by cases h) zk_2425
set_option maxRecDepth 100000 in
theorem zk_2426 : zi_chk cX12_faultOf false 12 0 kX12_faultOf = true := by decide +kernel
theorem zp_2426 : zi_pg (2426, (yX12_faultOf, cX12_faultOf, 5, 1, 3)) := zi_pg_of zm_2426 rfl (fun h => by cases h) zk_2426
set_option maxRecDepth 100000 in
theorem zk_2427 : zi_chk cX12_readsLock false 12 0 kX12_readsLock = true := by decide +kernel
theorem zp_2427 : zi_pg (2427, (yX12_readsLock, cX12_readsLock, 3, 2, 0)) := zi_pg_of zm_2427 rfl (fun h => by cases h) zk_2427
set_option maxRecDepth 100000 in
theorem zk_2428 : zi_chk cX12_readsSinger false 12 0 kX12_readsSinger = true := by decide +kernel
theorem zp_2428 : zi_pg (2428, (yX12_readsSinger, cX12_readsSinger, 2, 2, 0)) := zi_pg_of zm_2428 rfl (fun h => by cases h) zk_2428
set_option maxRecDepth 100000 in
theorem zk_2429 : zi_chk cX12_readsBarge false 12 0 kX12_readsBarge = true := by decide +kernel
theorem zp_2429 : zi_pg (2429, (yX12_readsBarge, cX12_readsBarge, 2, 2, 0)) := zi_pg_of zm_2429 rfl (fun h => by cases h) zk_2429
set_option maxRecDepth 100000 in
theorem zk_2430 : zi_chk cX12_readsLines false 12 0 kX12_readsLines = true := by decide +kernel
theorem zp_2430 : zi_pg (2430, (yX12_readsLines, cX12_readsLines, 6, 1, 2)) := zi_pg_of zm_2430 rfl (fun h => by cases h) zk_2430
set_option maxRecDepth 100000 in
theorem zk_2431 : zi_chk cX12_came false 12 0 kX12_came = true := by decide +kernel
theorem zp_2431 : zi_pg (2431, (yX12_came, cX12_came, 1, 1, 0)) := zi_pg_of zm_2431 rfl (fun h => by cases h) zk_2431
set_option maxRecDepth 100000 in
theorem zk_2432 : zi_chk cX12_locks false 12 0 kX12_locks = true := by decide +kernel
theorem zp_2432 : zi_pg (2432, (yX12_locks, cX12_locks, 4, 1, 0)) := zi_pg_of zm_2432 rfl (fun h => by cases h) zk_2432
set_option maxRecDepth 100000 in
theorem zk_2433 : zi_chk cX12_singers false 12 0 kX12_singers = true := by decide +kernel
theorem zp_2433 : zi_pg (2433, (yX12_singers, cX12_singers, 3, 1, 0)) := zi_pg_of zm_2433 rfl (fun h => by cases h) zk_2433
set_option maxRecDepth 100000 in
theorem zk_2434 : zi_chk cX12_barges false 12 0 kX12_barges = true := by decide +kernel
theorem zp_2434 : zi_pg (2434, (yX12_barges, cX12_barges, 3, 1, 0)) := zi_pg_of zm_2434 rfl (fun h => by cases h) zk_2434
set_option maxRecDepth 100000 in
theorem zk_2435 : zi_chk cX12_codes false 12 0 kX12_codes = true := by decide +kernel
theorem zp_2435 : zi_pg (2435, (yX12_codes, cX12_codes, 2, 0, 1)) := zi_pg_of zm_2435 rfl (fun h => by cases h) zk_2435
set_option maxRecDepth 100000 in
theorem zk_2436 : zi_chk cX12_readsThing false 12 0 kX12_readsThing = true := by decide +kernel
theorem zp_2436 : zi_pg (2436, (yX12_readsThing, cX12_readsThing, 2, 2, 0)) := zi_pg_of zm_2436 rfl (fun h => by cases h) zk_2436
set_option maxRecDepth 100000 in
theorem zk_2437 : zi_chk cX12_readsRank false 12 0 kX12_readsRank = true := by decide +kernel
theorem zp_2437 : zi_pg (2437, (yX12_readsRank, cX12_readsRank, 4, 2, 1)) := zi_pg_of zm_2437 rfl (fun h => by cases h) zk_2437
set_option maxRecDepth 100000 in
theorem zk_2438 : zi_chk cX12_rule false 12 0 kX12_rule = true := by decide +kernel
theorem zp_2438 : zi_pg (2438, (yX12_rule, cX12_rule, 5, 1, 0)) := zi_pg_of zm_2438 rfl (fun h => by cases h) zk_2438
set_option maxRecDepth 100000 in
theorem zk_2439 : zi_chk cX12_worked false 12 0 kX12_worked = true := by decide +kernel
theorem zp_2439 : zi_pg (2439, (yX12_worked, cX12_worked, 3, 1, 3)) := zi_pg_of zm_2439 rfl (fun h => by cases h) zk_2439
set_option maxRecDepth 100000 in
theorem zk_2440 : zi_chk cX12_ruled false 12 0 kX12_ruled = true := by decide +kernel
theorem zp_2440 : zi_pg (2440, (yX12_ruled, cX12_ruled, 4, 1, 0)) := zi_pg_of zm_2440 rfl (fun h => by cases h) zk_2440
set_option maxRecDepth 100000 in
theorem zk_2441 : zi_chk cX12_tiredAll false 12 0 kX12_tiredAll = true := by decide +kernel
theorem zp_2441 : zi_pg (2441, (yX12_tiredAll, cX12_tiredAll, 5, 1, 2)) := zi_pg_of zm_2441 rfl (fun h => by cases h) zk_2441
set_option maxRecDepth 100000 in
theorem zk_2442 : zi_chk cX12_minutes false 12 0 kX12_minutes = true := by decide +kernel
theorem zp_2442 : zi_pg (2442, (yX12_minutes, cX12_minutes, 6, 1, 4)) := zi_pg_of zm_2442 rfl (fun h => by cases h) zk_2442
set_option maxRecDepth 100000 in
theorem zk_2443 : zi_chk cX12_laysNotes false 12 0 kX12_laysNotes = true := by decide +kernel
theorem zp_2443 : zi_pg (2443, (yX12_laysNotes, cX12_laysNotes, 4, 0, 2)) := zi_pg_of zm_2443 rfl (fun h => by cases h) zk_2443
set_option maxRecDepth 100000 in
theorem zk_2444 : zi_chk cX12_canSing false 12 0 kX12_canSing = true := by decide +kernel
theorem zp_2444 : zi_pg (2444, (yX12_canSing, cX12_canSing, 4, 2, 3)) := zi_pg_of zm_2444 rfl (fun h => by cases h) zk_2444
set_option maxRecDepth 100000 in
theorem zk_2445 : zi_chk cX12_singsFrom false 12 0 kX12_singsFrom = true := by decide +kernel
theorem zp_2445 : zi_pg (2445, (yX12_singsFrom, cX12_singsFrom, 6, 2, 4)) := zi_pg_of zm_2445 rfl (fun h => by cases h) zk_2445
set_option maxRecDepth 100000 in
theorem zk_2446 : zi_chk cX12_singsChord false 12 0 kX12_singsChord = true := by decide +kernel
theorem zp_2446 : zi_pg (2446, (yX12_singsChord, cX12_singsChord, 4, 2, 3)) := zi_pg_of zm_2446 rfl (fun h => by cases h) zk_2446
set_option maxRecDepth 100000 in
theorem zk_2447 : zi_chk cX12_tellsSung false 12 0 kX12_tellsSung = true := by decide +kernel
theorem zp_2447 : zi_pg (2447, (yX12_tellsSung, cX12_tellsSung, 2, 0, 0)) := zi_pg_of zm_2447 rfl (fun h => by cases h) zk_2447
set_option maxRecDepth 100000 in
theorem zk_2448 : zi_chk cX12_lock false 12 0 kX12_lock = true := by decide +kernel
theorem zp_2448 : zi_pg (2448, (yX12_lock, cX12_lock, 3, 1, 2)) := zi_pg_of zm_2448 rfl (fun h => by cases h) zk_2448
set_option maxRecDepth 100000 in
theorem zk_2449 : zi_chk cX12_singer false 12 0 kX12_singer = true := by decide +kernel
theorem zp_2449 : zi_pg (2449, (yX12_singer, cX12_singer, 3, 1, 2)) := zi_pg_of zm_2449 rfl (fun h => by cases h) zk_2449
set_option maxRecDepth 100000 in
theorem zk_2450 : zi_chk cX12_barge false 12 0 kX12_barge = true := by decide +kernel
theorem zp_2450 : zi_pg (2450, (yX12_barge, cX12_barge, 3, 1, 2)) := zi_pg_of zm_2450 rfl (fun h => by cases h) zk_2450
set_option maxRecDepth 100000 in
theorem zk_2451 : zi_chk cX12_set false 12 0 kX12_set = true := by decide +kernel
theorem zp_2451 : zi_pg (2451, (yX12_set, cX12_set, 4, 1, 2)) := zi_pg_of zm_2451 rfl (fun h => by cases h) zk_2451
set_option maxRecDepth 100000 in
theorem zk_2452 : zi_chk cX12_sheet false 12 0 kX12_sheet = true := by decide +kernel
theorem zp_2452 : zi_pg (2452, (yX12_sheet, cX12_sheet, 9, 1, 4)) := zi_pg_of zm_2452 rfl (fun h => by cases h) zk_2452
set_option maxRecDepth 100000 in
theorem zk_2453 : zi_chk cX12_putsBy false 12 0 kX12_putsBy = true := by decide +kernel
theorem zp_2453 : zi_pg (2453, (yX12_putsBy, cX12_putsBy, 2, 0, 0)) := zi_pg_of zm_2453 rfl (fun h => by cases h) zk_2453
set_option maxRecDepth 100000 in
theorem zk_2454 : zi_chk cX12_adds false 12 0 kX12_adds = true := by decide +kernel
theorem zp_2454 : zi_pg (2454, (yX12_adds, cX12_adds, 3, 1, 1)) := zi_pg_of zm_2454 rfl (fun h => by cases h) zk_2454
