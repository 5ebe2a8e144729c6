/-! ===== printed: the code of each method ===== -/
set_option maxRecDepth 100000 in
theorem zk_0 : zi_chk cX0_init true 0 0 kX0_init = true := by decide +kernel
theorem zp_0 : zi_pg (0, (yX0_init, cX0_init, 1, 0, 0)) := zi_pg_of zm_0 rfl (fun _ => rfl) zk_0
set_option maxRecDepth 100000 in
theorem zk_1 : zi_chk cX0_hasLock false 0 0 kX0_hasLock = true := by decide +kernel
theorem zp_1 : zi_pg (1, (yX0_hasLock, cX0_hasLock, 2, 2, 1)) := zi_pg_of zm_1 rfl (fun h => by cases h) zk_1
set_option maxRecDepth 100000 in
theorem zk_2 : zi_chk cX0_hasPlace false 0 0 kX0_hasPlace = true := by decide +kernel
theorem zp_2 : zi_pg (2, (yX0_hasPlace, cX0_hasPlace, 2, 2, 1)) := zi_pg_of zm_2 rfl (fun h => by cases h) zk_2
set_option maxRecDepth 100000 in
theorem zk_3 : zi_chk cX0_hasSinger false 0 0 kX0_hasSinger = true := by decide +kernel
theorem zp_3 : zi_pg (3, (yX0_hasSinger, cX0_hasSinger, 2, 2, 1)) := zi_pg_of zm_3 rfl (fun h => by cases h) zk_3
set_option maxRecDepth 100000 in
theorem zk_4 : zi_chk cX0_hasBarge false 0 0 kX0_hasBarge = true := by decide +kernel
theorem zp_4 : zi_pg (4, (yX0_hasBarge, cX0_hasBarge, 2, 2, 1)) := zi_pg_of zm_4 rfl (fun h => by cases h) zk_4
set_option maxRecDepth 100000 in
theorem zk_5 : zi_chk cX0_many false 0 0 kX0_many = true := by decide +kernel
theorem zp_5 : zi_pg (5, (yX0_many, cX0_many, 2, 1, 1)) := zi_pg_of zm_5 rfl (fun h => by cases h) zk_5
set_option maxRecDepth 100000 in
theorem zk_6 : zi_chk cX0_room false 0 0 kX0_room = true := by decide +kernel
theorem zp_6 : zi_pg (6, (yX0_room, cX0_room, 2, 1, 1)) := zi_pg_of zm_6 rfl (fun h => by cases h) zk_6
set_option maxRecDepth 100000 in
theorem zk_7 : zi_chk cX0_grow false 0 0 kX0_grow = true := by decide +kernel
theorem zp_7 : zi_pg (7, (yX0_grow, cX0_grow, 3, 0, 2)) := zi_pg_of zm_7 rfl (fun h => by cases h) zk_7
set_option maxRecDepth 100000 in
theorem zk_8 : zi_chk cX0_readLine false 0 0 kX0_readLine = true := by decide +kernel
theorem zp_8 : zi_pg (8, (yX0_readLine, cX0_readLine, 5, 2, 4)) := zi_pg_of zm_8 rfl (fun h => by cases h) zk_8
set_option maxRecDepth 100000 in
theorem zk_9 : zi_chk cX0_readLock false 0 0 kX0_readLock = true := by decide +kernel
theorem zp_9 : zi_pg (9, (yX0_readLock, cX0_readLock, 5, 2, 2)) := zi_pg_of zm_9 rfl (fun h => by cases h) zk_9
set_option maxRecDepth 100000 in
theorem zk_10 : zi_chk cX0_readSinger false 0 0 kX0_readSinger = true := by decide +kernel
theorem zp_10 : zi_pg (10, (yX0_readSinger, cX0_readSinger, 7, 2, 3)) := zi_pg_of zm_10 rfl (fun h => by cases h) zk_10
set_option maxRecDepth 100000 in
theorem zk_11 : zi_chk cX0_readBarge false 0 0 kX0_readBarge = true := by decide +kernel
theorem zp_11 : zi_pg (11, (yX0_readBarge, cX0_readBarge, 5, 2, 3)) := zi_pg_of zm_11 rfl (fun h => by cases h) zk_11
set_option maxRecDepth 100000 in
theorem zk_12 : zi_chk cX0_readPlace false 0 0 kX0_readPlace = true := by decide +kernel
theorem zp_12 : zi_pg (12, (yX0_readPlace, cX0_readPlace, 3, 1, 1)) := zi_pg_of zm_12 rfl (fun h => by cases h) zk_12
set_option maxRecDepth 100000 in
theorem zk_13 : zi_chk cX0_takeFees false 0 0 kX0_takeFees = true := by decide +kernel
theorem zp_13 : zi_pg (13, (yX0_takeFees, cX0_takeFees, 8, 1, 4)) := zi_pg_of zm_13 rfl (fun h => by cases h) zk_13
set_option maxRecDepth 100000 in
theorem zk_14 : zi_chk cX0_narrowed false 0 0 kX0_narrowed = true := by decide +kernel
theorem zp_14 : zi_pg (14, (yX0_narrowed, cX0_narrowed, 2, 1, 2)) := zi_pg_of zm_14 rfl (fun h => by cases h) zk_14
set_option maxRecDepth 100000 in
theorem zk_15 : zi_chk cX0_crewOf false 0 0 kX0_crewOf = true := by decide +kernel
theorem zp_15 : zi_pg (15, (yX0_crewOf, cX0_crewOf, 5, 1, 2)) := zi_pg_of zm_15 rfl (fun h => by cases h) zk_15
set_option maxRecDepth 100000 in
theorem zk_16 : zi_chk cX0_freeAt false 0 0 kX0_freeAt = true := by decide +kernel
theorem zp_16 : zi_pg (16, (yX0_freeAt, cX0_freeAt, 5, 1, 2)) := zi_pg_of zm_16 rfl (fun h => by cases h) zk_16
set_option maxRecDepth 100000 in
theorem zk_17 : zi_chk cX0_tiredOf false 0 0 kX0_tiredOf = true := by decide +kernel
theorem zp_17 : zi_pg (17, (yX0_tiredOf, cX0_tiredOf, 5, 1, 2)) := zi_pg_of zm_17 rfl (fun h => by cases h) zk_17
set_option maxRecDepth 100000 in
theorem zk_18 : zi_chk cX0_feesOf false 0 0 kX0_feesOf = true := by decide +kernel
theorem zp_18 : zi_pg (18, (yX0_feesOf, cX0_feesOf, 4, 1, 1)) := zi_pg_of zm_18 rfl (fun h => by cases h) zk_18
set_option maxRecDepth 100000 in
theorem zk_19 : zi_chk cX0_ableToSing false 0 0 kX0_ableToSing = true := by decide +kernel
theorem zp_19 : zi_pg (19, (yX0_ableToSing, cX0_ableToSing, 5, 1, 2)) := zi_pg_of zm_19 rfl (fun h => by cases h) zk_19
set_option maxRecDepth 100000 in
theorem zk_20 : zi_chk cX0_chordBits false 0 0 kX0_chordBits = true := by decide +kernel
theorem zp_20 : zi_pg (20, (yX0_chordBits, cX0_chordBits, 4, 1, 1)) := zi_pg_of zm_20 rfl (fun h => by cases h) zk_20
set_option maxRecDepth 100000 in
theorem zk_200 : zi_chk cX1_init true 1 0 kX1_init = true := by decide +kernel
theorem zp_200 : zi_pg (200, (yX1_init, cX1_init, 2, 0, 1)) := zi_pg_of zm_200 rfl (fun _ => rfl) zk_200
set_option maxRecDepth 100000 in
theorem zk_201 : zi_chk cX1_gather false 1 0 kX1_gather = true := by decide +kernel
theorem zp_201 : zi_pg (201, (yX1_gather, cX1_gather, 6, 0, 3)) := zi_pg_of zm_201 rfl (fun h => by cases h) zk_201
set_option maxRecDepth 100000 in
theorem zk_202 : zi_chk cX1_placeOf false 1 0 kX1_placeOf = true := by decide +kernel
theorem zp_202 : zi_pg (202, (yX1_placeOf, cX1_placeOf, 1, 1, 1)) := zi_pg_of zm_202 rfl (fun h => by cases h) zk_202
set_option maxRecDepth 100000 in
theorem zk_203 : zi_chk cX1_canSing false 1 0 kX1_canSing = true := by decide +kernel
theorem zp_203 : zi_pg (203, (yX1_canSing, cX1_canSing, 5, 2, 2)) := zi_pg_of zm_203 rfl (fun h => by cases h) zk_203
set_option maxRecDepth 100000 in
theorem zk_204 : zi_chk cX1_settle false 1 0 kX1_settle = true := by decide +kernel
theorem zp_204 : zi_pg (204, (yX1_settle, cX1_settle, 5, 2, 1)) := zi_pg_of zm_204 rfl (fun h => by cases h) zk_204
set_option maxRecDepth 100000 in
theorem zk_205 : zi_chk cX1_firstFor false 1 0 kX1_firstFor = true := by decide +kernel
theorem zp_205 : zi_pg (205, (yX1_firstFor, cX1_firstFor, 6, 1, 3)) := zi_pg_of zm_205 rfl (fun h => by cases h) zk_205
set_option maxRecDepth 100000 in
theorem zk_206 : zi_chk cX1_mostNotes false 1 0 kX1_mostNotes = true := by decide +kernel
theorem zp_206 : zi_pg (206, (yX1_mostNotes, cX1_mostNotes, 4, 1, 1)) := zi_pg_of zm_206 rfl (fun h => by cases h) zk_206
set_option maxRecDepth 100000 in
theorem zk_207 : zi_chk cX1_fewestMissed false 1 0 kX1_fewestMissed = true := by decide +kernel
theorem zp_207 : zi_pg (207, (yX1_fewestMissed, cX1_fewestMissed, 5, 1, 1)) := zi_pg_of zm_207 rfl (fun h => by cases h) zk_207
set_option maxRecDepth 100000 in
theorem zk_400 : zi_chk cX2_init true 2 0 kX2_init = true := by decide +kernel
theorem zp_400 : zi_pg (400, (yX2_init, cX2_init, 3, 0, 2)) := zi_pg_of zm_400 rfl (fun _ => rfl) zk_400
set_option maxRecDepth 100000 in
theorem zk_401 : zi_chk cX2_begin false 2 0 kX2_begin = true := by decide +kernel
theorem zp_401 : zi_pg (401, (yX2_begin, cX2_begin, 2, 0, 0)) := zi_pg_of zm_401 rfl (fun h => by cases h) zk_401
set_option maxRecDepth 100000 in
theorem zk_402 : zi_chk cX2_mustSing false 2 0 kX2_mustSing = true := by decide +kernel
theorem zp_402 : zi_pg (402, (yX2_mustSing, cX2_mustSing, 6, 0, 4)) := zi_pg_of zm_402 rfl (fun h => by cases h) zk_402
set_option maxRecDepth 100000 in
theorem zk_403 : zi_chk cX2_cheapest false 2 0 kX2_cheapest = true := by decide +kernel
theorem zp_403 : zi_pg (403, (yX2_cheapest, cX2_cheapest, 4, 1, 1)) := zi_pg_of zm_403 rfl (fun h => by cases h) zk_403
set_option maxRecDepth 100000 in
theorem zk_404 : zi_chk cX2_isBetter false 2 0 kX2_isBetter = true := by decide +kernel
theorem zp_404 : zi_pg (404, (yX2_isBetter, cX2_isBetter, 5, 2, 2)) := zi_pg_of zm_404 rfl (fun h => by cases h) zk_404
set_option maxRecDepth 100000 in
theorem zk_600 : zi_chk cX3_init true 3 0 kX3_init = true := by decide +kernel
theorem zp_600 : zi_pg (600, (yX3_init, cX3_init, 1, 0, 0)) := zi_pg_of zm_600 rfl (fun _ => rfl) zk_600
set_option maxRecDepth 100000 in
theorem zk_601 : zi_chk cX3_copy false 3 0 kX3_copy = true := by decide +kernel
theorem zp_601 : zi_pg (601, (yX3_copy, cX3_copy, 2, 0, 1)) := zi_pg_of zm_601 rfl (fun h => by cases h) zk_601
set_option maxRecDepth 100000 in
theorem zk_602 : zi_chk cX3_levelOf false 3 0 kX3_levelOf = true := by decide +kernel
theorem zp_602 : zi_pg (602, (yX3_levelOf, cX3_levelOf, 2, 1, 1)) := zi_pg_of zm_602 rfl (fun h => by cases h) zk_602
set_option maxRecDepth 100000 in
theorem zk_603 : zi_chk cX3_setLevel false 3 0 kX3_setLevel = true := by decide +kernel
theorem zp_603 : zi_pg (603, (yX3_setLevel, cX3_setLevel, 3, 0, 2)) := zi_pg_of zm_603 rfl (fun h => by cases h) zk_603
set_option maxRecDepth 100000 in
theorem zk_604 : zi_chk cX3_whereIs false 3 0 kX3_whereIs = true := by decide +kernel
theorem zp_604 : zi_pg (604, (yX3_whereIs, cX3_whereIs, 3, 1, 1)) := zi_pg_of zm_604 rfl (fun h => by cases h) zk_604
set_option maxRecDepth 100000 in
theorem zk_605 : zi_chk cX3_letGoBy false 3 0 kX3_letGoBy = true := by decide +kernel
theorem zp_605 : zi_pg (605, (yX3_letGoBy, cX3_letGoBy, 4, 0, 1)) := zi_pg_of zm_605 rfl (fun h => by cases h) zk_605
set_option maxRecDepth 100000 in
theorem zk_800 : zi_chk cX4_init true 4 0 kX4_init = true := by decide +kernel
theorem zp_800 : zi_pg (800, (yX4_init, cX4_init, 2, 0, 1)) := zi_pg_of zm_800 rfl (fun _ => rfl) zk_800
set_option maxRecDepth 100000 in
theorem zk_801 : zi_chk cX4_size false 4 0 kX4_size = true := by decide +kernel
theorem zp_801 : zi_pg (801, (yX4_size, cX4_size, 1, 1, 0)) := zi_pg_of zm_801 rfl (fun h => by cases h) zk_801
set_option maxRecDepth 100000 in
theorem zk_802 : zi_chk cX4_clear false 4 0 kX4_clear = true := by decide +kernel
theorem zp_802 : zi_pg (802, (yX4_clear, cX4_clear, 1, 0, 0)) := zi_pg_of zm_802 rfl (fun h => by cases h) zk_802
set_option maxRecDepth 100000 in
theorem zk_803 : zi_chk cX4_note false 4 0 kX4_note = true := by decide +kernel
theorem zp_803 : zi_pg (803, (yX4_note, cX4_note, 3, 2, 2)) := zi_pg_of zm_803 rfl (fun h => by cases h) zk_803
set_option maxRecDepth 100000 in
theorem zk_804 : zi_chk cX4_hasInRange false 4 0 kX4_hasInRange = true := by decide +kernel
theorem zp_804 : zi_pg (804, (yX4_hasInRange, cX4_hasInRange, 3, 2, 2)) := zi_pg_of zm_804 rfl (fun h => by cases h) zk_804
set_option maxRecDepth 100000 in
theorem zk_805 : zi_chk cX4_fitting false 4 0 kX4_fitting = true := by decide +kernel
theorem zp_805 : zi_pg (805, (yX4_fitting, cX4_fitting, 5, 1, 0)) := zi_pg_of zm_805 rfl (fun h => by cases h) zk_805
set_option maxRecDepth 100000 in
theorem zk_806 : zi_chk cX4_leftAtMost false 4 0 kX4_leftAtMost = true := by decide +kernel
theorem zp_806 : zi_pg (806, (yX4_leftAtMost, cX4_leftAtMost, 7, 1, 2)) := zi_pg_of zm_806 rfl (fun h => by cases h) zk_806
set_option maxRecDepth 100000 in
theorem zk_807 : zi_chk cX4_parting false 4 0 kX4_parting = true := by decide +kernel
theorem zp_807 : zi_pg (807, (yX4_parting, cX4_parting, 3, 1, 0)) := zi_pg_of zm_807 rfl (fun h => by cases h) zk_807
set_option maxRecDepth 100000 in
theorem zk_808 : zi_chk cX4_findPairs false 4 0 kX4_findPairs = true := by decide +kernel
theorem zp_808 : zi_pg (808, (yX4_findPairs, cX4_findPairs, 5, 0, 1)) := zi_pg_of zm_808 rfl (fun h => by cases h) zk_808
set_option maxRecDepth 100000 in
theorem zk_809 : zi_chk cX4_allApart false 4 0 kX4_allApart = true := by decide +kernel
theorem zp_809 : zi_pg (809, (yX4_allApart, cX4_allApart, 3, 2, 0)) := zi_pg_of zm_809 rfl (fun h => by cases h) zk_809
set_option maxRecDepth 100000 in
theorem zk_810 : zi_chk cX4_markPair false 4 0 kX4_markPair = true := by decide +kernel
theorem zp_810 : zi_pg (810, (yX4_markPair, cX4_markPair, 5, 0, 3)) := zi_pg_of zm_810 rfl (fun h => by cases h) zk_810
set_option maxRecDepth 100000 in
theorem zk_811 : zi_chk cX4_partingBy false 4 0 kX4_partingBy = true := by decide +kernel
theorem zp_811 : zi_pg (811, (yX4_partingBy, cX4_partingBy, 6, 1, 3)) := zi_pg_of zm_811 rfl (fun h => by cases h) zk_811
set_option maxRecDepth 100000 in
theorem zk_1000 : zi_chk cX5_init true 5 0 kX5_init = true := by decide +kernel
theorem zp_1000 : zi_pg (1000, (yX5_init, cX5_init, 1, 0, 0)) := zi_pg_of zm_1000 rfl (fun _ => rfl) zk_1000
set_option maxRecDepth 100000 in
theorem zk_1001 : zi_chk cX5_size false 5 0 kX5_size = true := by decide +kernel
theorem zp_1001 : zi_pg (1001, (yX5_size, cX5_size, 1, 1, 0)) := zi_pg_of zm_1001 rfl (fun h => by cases h) zk_1001
set_option maxRecDepth 100000 in
theorem zk_1002 : zi_chk cX5_at false 5 0 kX5_at = true := by decide +kernel
theorem zp_1002 : zi_pg (1002, (yX5_at, cX5_at, 2, 3, 1)) := zi_pg_of zm_1002 rfl (fun h => by cases h) zk_1002
set_option maxRecDepth 100000 in
theorem zk_1003 : zi_chk cX5_clear false 5 0 kX5_clear = true := by decide +kernel
theorem zp_1003 : zi_pg (1003, (yX5_clear, cX5_clear, 1, 0, 0)) := zi_pg_of zm_1003 rfl (fun h => by cases h) zk_1003
set_option maxRecDepth 100000 in
theorem zk_1004 : zi_chk cX5_add false 5 0 kX5_add = true := by decide +kernel
theorem zp_1004 : zi_pg (1004, (yX5_add, cX5_add, 3, 0, 1)) := zi_pg_of zm_1004 rfl (fun h => by cases h) zk_1004
set_option maxRecDepth 100000 in
theorem zk_1005 : zi_chk cX5_tell false 5 0 kX5_tell = true := by decide +kernel
theorem zp_1005 : zi_pg (1005, (yX5_tell, cX5_tell, 3, 0, 1)) := zi_pg_of zm_1005 rfl (fun h => by cases h) zk_1005
set_option maxRecDepth 100000 in
theorem zk_1200 : zi_chk cX6_init true 6 0 kX6_init = true := by decide +kernel
theorem zp_1200 : zi_pg (1200, (yX6_init, cX6_init, 2, 0, 0)) := zi_pg_of zm_1200 rfl (fun _ => rfl) zk_1200
set_option maxRecDepth 100000 in
theorem zk_1201 : zi_chk cX6_size false 6 0 kX6_size = true := by decide +kernel
theorem zp_1201 : zi_pg (1201, (yX6_size, cX6_size, 1, 1, 0)) := zi_pg_of zm_1201 rfl (fun h => by cases h) zk_1201
set_option maxRecDepth 100000 in
theorem zk_1202 : zi_chk cX6_clear false 6 0 kX6_clear = true := by decide +kernel
theorem zp_1202 : zi_pg (1202, (yX6_clear, cX6_clear, 1, 0, 0)) := zi_pg_of zm_1202 rfl (fun h => by cases h) zk_1202
set_option maxRecDepth 100000 in
theorem zk_1203 : zi_chk cX6_add false 6 0 kX6_add = true := by decide +kernel
theorem zp_1203 : zi_pg (1203, (yX6_add, cX6_add, 2, 0, 1)) := zi_pg_of zm_1203 rfl (fun h => by cases h) zk_1203
set_option maxRecDepth 100000 in
theorem zk_1204 : zi_chk cX6_takeBack false 6 0 kX6_takeBack = true := by decide +kernel
theorem zp_1204 : zi_pg (1204, (yX6_takeBack, cX6_takeBack, 2, 2, 1)) := zi_pg_of zm_1204 rfl (fun h => by cases h) zk_1204
set_option maxRecDepth 100000 in
theorem zk_1400 : zi_chk cX7_init true 7 0 kX7_init = true := by decide +kernel
theorem zp_1400 : zi_pg (1400, (yX7_init, cX7_init, 1, 0, 0)) := zi_pg_of zm_1400 rfl (fun _ => rfl) zk_1400
set_option maxRecDepth 100000 in
theorem zk_1401 : zi_chk cX7_read false 7 0 kX7_read = true := by decide +kernel
theorem zp_1401 : zi_pg (1401, (yX7_read, cX7_read, 2, 1, 1)) := zi_pg_of zm_1401 rfl (fun h => by cases h) zk_1401
set_option maxRecDepth 100000 in
theorem zk_1402 : zi_chk cX7_put false 7 0 kX7_put = true := by decide +kernel
theorem zp_1402 : zi_pg (1402, (yX7_put, cX7_put, 3, 0, 2)) := zi_pg_of zm_1402 rfl (fun h => by cases h) zk_1402
set_option maxRecDepth 100000 in
theorem zk_1403 : zi_chk cX7_minutes false 7 0 kX7_minutes = true := by decide +kernel
theorem zp_1403 : zi_pg (1403, (yX7_minutes, cX7_minutes, 2, 1, 0)) := zi_pg_of zm_1403 rfl (fun h => by cases h) zk_1403
set_option maxRecDepth 100000 in
theorem zk_1404 : zi_chk cX7_comparison false 7 0 kX7_comparison = true := by decide +kernel
theorem zp_1404 : zi_pg (1404, (yX7_comparison, cX7_comparison, 4, 2, 2)) := zi_pg_of zm_1404 rfl (fun h => by cases h) zk_1404
set_option maxRecDepth 100000 in
theorem zk_1405 : zi_chk cX7_sum false 7 0 kX7_sum = true := by decide +kernel
theorem zp_1405 : zi_pg (1405, (yX7_sum, cX7_sum, 6, 2, 2)) := zi_pg_of zm_1405 rfl (fun h => by cases h) zk_1405
set_option maxRecDepth 100000 in
theorem zk_1406 : zi_chk cX7_product false 7 0 kX7_product = true := by decide +kernel
theorem zp_1406 : zi_pg (1406, (yX7_product, cX7_product, 6, 2, 2)) := zi_pg_of zm_1406 rfl (fun h => by cases h) zk_1406
set_option maxRecDepth 100000 in
theorem zk_1407 : zi_chk cX7_negated false 7 0 kX7_negated = true := by decide +kernel
theorem zp_1407 : zi_pg (1407, (yX7_negated, cX7_negated, 5, 2, 2)) := zi_pg_of zm_1407 rfl (fun h => by cases h) zk_1407
set_option maxRecDepth 100000 in
theorem zk_1408 : zi_chk cX7_thing false 7 0 kX7_thing = true := by decide +kernel
theorem zp_1408 : zi_pg (1408, (yX7_thing, cX7_thing, 5, 2, 2)) := zi_pg_of zm_1408 rfl (fun h => by cases h) zk_1408
set_option maxRecDepth 100000 in
theorem zk_1409 : zi_chk cX7_emit false 7 0 kX7_emit = true := by decide +kernel
theorem zp_1409 : zi_pg (1409, (yX7_emit, cX7_emit, 2, 2, 1)) := zi_pg_of zm_1409 rfl (fun h => by cases h) zk_1409
set_option maxRecDepth 100000 in
theorem zk_1410 : zi_chk cX7_worth false 7 0 kX7_worth = true := by decide +kernel
theorem zp_1410 : zi_pg (1410, (yX7_worth, cX7_worth, 5, 1, 0)) := zi_pg_of zm_1410 rfl (fun h => by cases h) zk_1410
set_option maxRecDepth 100000 in
theorem zk_1411 : zi_chk cX7_joined false 7 0 kX7_joined = true := by decide +kernel
theorem zp_1411 : zi_pg (1411, (yX7_joined, cX7_joined, 3, 1, 3)) := zi_pg_of zm_1411 rfl (fun h => by cases h) zk_1411
