/-! ===== printed: the code of each method ===== -/
set_option maxRecDepth 100000 in
theorem zk_1600 : zi_chk cX8_init true 8 0 kX8_init = true := by decide +kernel
theorem zp_1600 : zi_pg (1600, (yX8_init, cX8_init, 1, 0, 0)) := zi_pg_of zm_1600 rfl (fun _ => rfl) zk_1600
set_option maxRecDepth 100000 in
theorem zk_1601 : zi_chk cX8_length false 8 0 kX8_length = true := by decide +kernel
theorem zp_1601 : zi_pg (1601, (yX8_length, cX8_length, 1, 1, 0)) := zi_pg_of zm_1601 rfl (fun h => by cases h) zk_1601
set_option maxRecDepth 100000 in
theorem zk_1602 : zi_chk cX8_addFour false 8 0 kX8_addFour = true := by decide +kernel
theorem zp_1602 : zi_pg (1602, (yX8_addFour, cX8_addFour, 3, 2, 1)) := zi_pg_of zm_1602 rfl (fun h => by cases h) zk_1602
set_option maxRecDepth 100000 in
theorem zk_1603 : zi_chk cX8_cutTo false 8 0 kX8_cutTo = true := by decide +kernel
theorem zp_1603 : zi_pg (1603, (yX8_cutTo, cX8_cutTo, 2, 2, 1)) := zi_pg_of zm_1603 rfl (fun h => by cases h) zk_1603
set_option maxRecDepth 100000 in
theorem zk_1604 : zi_chk cX8_clear false 8 0 kX8_clear = true := by decide +kernel
theorem zp_1604 : zi_pg (1604, (yX8_clear, cX8_clear, 1, 0, 0)) := zi_pg_of zm_1604 rfl (fun h => by cases h) zk_1604
set_option maxRecDepth 100000 in
theorem zk_1605 : zi_chk cX8_open false 8 0 kX8_open = true := by decide +kernel
theorem zp_1605 : zi_pg (1605, (yX8_open, cX8_open, 2, 0, 1)) := zi_pg_of zm_1605 rfl (fun h => by cases h) zk_1605
set_option maxRecDepth 100000 in
theorem zk_1606 : zi_chk cX8_look false 8 0 kX8_look = true := by decide +kernel
theorem zp_1606 : zi_pg (1606, (yX8_look, cX8_look, 1, 1, 0)) := zi_pg_of zm_1606 rfl (fun h => by cases h) zk_1606
set_option maxRecDepth 100000 in
theorem zk_1607 : zi_chk cX8_step false 8 0 kX8_step = true := by decide +kernel
theorem zp_1607 : zi_pg (1607, (yX8_step, cX8_step, 1, 0, 0)) := zi_pg_of zm_1607 rfl (fun h => by cases h) zk_1607
set_option maxRecDepth 100000 in
theorem zk_1608 : zi_chk cX8_over false 8 0 kX8_over = true := by decide +kernel
theorem zp_1608 : zi_pg (1608, (yX8_over, cX8_over, 1, 2, 0)) := zi_pg_of zm_1608 rfl (fun h => by cases h) zk_1608
set_option maxRecDepth 100000 in
theorem zk_1609 : zi_chk cX8_fault false 8 0 kX8_fault = true := by decide +kernel
theorem zp_1609 : zi_pg (1609, (yX8_fault, cX8_fault, 1, 1, 0)) := zi_pg_of zm_1609 rfl (fun h => by cases h) zk_1609
set_option maxRecDepth 100000 in
theorem zk_1610 : zi_chk cX8_take false 8 0 kX8_take = true := by decide +kernel
theorem zp_1610 : zi_pg (1610, (yX8_take, cX8_take, 4, 1, 2)) := zi_pg_of zm_1610 rfl (fun h => by cases h) zk_1610
set_option maxRecDepth 100000 in
theorem zk_1611 : zi_chk cX8_takeNumber false 8 0 kX8_takeNumber = true := by decide +kernel
theorem zp_1611 : zi_pg (1611, (yX8_takeNumber, cX8_takeNumber, 5, 1, 1)) := zi_pg_of zm_1611 rfl (fun h => by cases h) zk_1611
set_option maxRecDepth 100000 in
theorem zk_1800 : zi_chk cX9_init true 9 0 kX9_init = true := by decide +kernel
theorem zp_1800 : zi_pg (1800, (yX9_init, cX9_init, 3, 0, 2)) := zi_pg_of zm_1800 rfl (fun _ => rfl) zk_1800
set_option maxRecDepth 100000 in
theorem zk_1801 : zi_chk cX9_way false 9 0 kX9_way = true := by decide +kernel
theorem zp_1801 : zi_pg (1801, (yX9_way, cX9_way, 4, 1, 3)) := zi_pg_of zm_1801 rfl (fun h => by cases h) zk_1801
set_option maxRecDepth 100000 in
theorem zk_1802 : zi_chk cX9_lockAhead false 9 0 kX9_lockAhead = true := by decide +kernel
theorem zp_1802 : zi_pg (1802, (yX9_lockAhead, cX9_lockAhead, 5, 1, 3)) := zi_pg_of zm_1802 rfl (fun h => by cases h) zk_1802
set_option maxRecDepth 100000 in
theorem zk_1803 : zi_chk cX9_hindrance false 9 0 kX9_hindrance = true := by decide +kernel
theorem zp_1803 : zi_pg (1803, (yX9_hindrance, cX9_hindrance, 5, 1, 3)) := zi_pg_of zm_1803 rfl (fun h => by cases h) zk_1803
set_option maxRecDepth 100000 in
theorem zk_1804 : zi_chk cX9_waterFor false 9 0 kX9_waterFor = true := by decide +kernel
theorem zp_1804 : zi_pg (1804, (yX9_waterFor, cX9_waterFor, 3, 1, 3)) := zi_pg_of zm_1804 rfl (fun h => by cases h) zk_1804
set_option maxRecDepth 100000 in
theorem zk_1805 : zi_chk cX9_go false 9 0 kX9_go = true := by decide +kernel
theorem zp_1805 : zi_pg (1805, (yX9_go, cX9_go, 9, 1, 3)) := zi_pg_of zm_1805 rfl (fun h => by cases h) zk_1805
set_option maxRecDepth 100000 in
theorem zk_1806 : zi_chk cX9_minutesFor false 9 0 kX9_minutesFor = true := by decide +kernel
theorem zp_1806 : zi_pg (1806, (yX9_minutesFor, cX9_minutesFor, 7, 1, 4)) := zi_pg_of zm_1806 rfl (fun h => by cases h) zk_1806
set_option maxRecDepth 100000 in
theorem zk_1807 : zi_chk cX9_travel false 9 0 kX9_travel = true := by decide +kernel
theorem zp_1807 : zi_pg (1807, (yX9_travel, cX9_travel, 7, 1, 3)) := zi_pg_of zm_1807 rfl (fun h => by cases h) zk_1807
set_option maxRecDepth 100000 in
theorem zk_1808 : zi_chk cX9_findWays false 9 0 kX9_findWays = true := by decide +kernel
theorem zp_1808 : zi_pg (1808, (yX9_findWays, cX9_findWays, 3, 0, 1)) := zi_pg_of zm_1808 rfl (fun h => by cases h) zk_1808
set_option maxRecDepth 100000 in
theorem zk_1809 : zi_chk cX9_chordAhead false 9 0 kX9_chordAhead = true := by decide +kernel
theorem zp_1809 : zi_pg (1809, (yX9_chordAhead, cX9_chordAhead, 5, 1, 3)) := zi_pg_of zm_1809 rfl (fun h => by cases h) zk_1809
set_option maxRecDepth 100000 in
theorem zk_1810 : zi_chk cX9_keptBy false 9 0 kX9_keptBy = true := by decide +kernel
theorem zp_1810 : zi_pg (1810, (yX9_keptBy, cX9_keptBy, 7, 1, 1)) := zi_pg_of zm_1810 rfl (fun h => by cases h) zk_1810
set_option maxRecDepth 100000 in
theorem zk_2000 : zi_chk cX10_init true 10 0 kX10_init = true := by decide +kernel
theorem zp_2000 : zi_pg (2000, (yX10_init, cX10_init, 1, 0, 0)) := zi_pg_of zm_2000 rfl (fun _ => rfl) zk_2000
set_option maxRecDepth 100000 in
theorem zk_2001 : zi_chk cX10_read false 10 0 kX10_read = true := by decide +kernel
theorem zp_2001 : zi_pg (2001, (yX10_read, cX10_read, 3, 1, 1)) := zi_pg_of zm_2001 rfl (fun h => by cases h) zk_2001
set_option maxRecDepth 100000 in
theorem zk_2002 : zi_chk cX10_order false 10 0 kX10_order = true := by decide +kernel
theorem zp_2002 : zi_pg (2002, (yX10_order, cX10_order, 8, 1, 2)) := zi_pg_of zm_2002 rfl (fun h => by cases h) zk_2002
set_option maxRecDepth 100000 in
theorem zk_2003 : zi_chk cX10_goesUpNext false 10 0 kX10_goesUpNext = true := by decide +kernel
theorem zp_2003 : zi_pg (2003, (yX10_goesUpNext, cX10_goesUpNext, 6, 2, 3)) := zi_pg_of zm_2003 rfl (fun h => by cases h) zk_2003
set_option maxRecDepth 100000 in
theorem zk_2004 : zi_chk cX10_findCosts false 10 0 kX10_findCosts = true := by decide +kernel
theorem zp_2004 : zi_pg (2004, (yX10_findCosts, cX10_findCosts, 4, 0, 0)) := zi_pg_of zm_2004 rfl (fun h => by cases h) zk_2004
set_option maxRecDepth 100000 in
theorem zk_2005 : zi_chk cX10_costNext false 10 0 kX10_costNext = true := by decide +kernel
theorem zp_2005 : zi_pg (2005, (yX10_costNext, cX10_costNext, 5, 1, 3)) := zi_pg_of zm_2005 rfl (fun h => by cases h) zk_2005
set_option maxRecDepth 100000 in
theorem zk_2006 : zi_chk cX10_upCost false 10 0 kX10_upCost = true := by decide +kernel
theorem zp_2006 : zi_pg (2006, (yX10_upCost, cX10_upCost, 4, 1, 3)) := zi_pg_of zm_2006 rfl (fun h => by cases h) zk_2006
set_option maxRecDepth 100000 in
theorem zk_2007 : zi_chk cX10_downCost false 10 0 kX10_downCost = true := by decide +kernel
theorem zp_2007 : zi_pg (2007, (yX10_downCost, cX10_downCost, 4, 1, 3)) := zi_pg_of zm_2007 rfl (fun h => by cases h) zk_2007
set_option maxRecDepth 100000 in
theorem zk_2008 : zi_chk cX10_costAfter false 10 0 kX10_costAfter = true := by decide +kernel
theorem zp_2008 : zi_pg (2008, (yX10_costAfter, cX10_costAfter, 4, 1, 3)) := zi_pg_of zm_2008 rfl (fun h => by cases h) zk_2008
set_option maxRecDepth 100000 in
theorem zk_2009 : zi_chk cX10_slot false 10 0 kX10_slot = true := by decide +kernel
theorem zp_2009 : zi_pg (2009, (yX10_slot, cX10_slot, 3, 1, 3)) := zi_pg_of zm_2009 rfl (fun h => by cases h) zk_2009
set_option maxRecDepth 100000 in
theorem zk_2200 : zi_chk cX11_init true 11 0 kX11_init = true := by decide +kernel
theorem zp_2200 : zi_pg (2200, (yX11_init, cX11_init, 2, 0, 0)) := zi_pg_of zm_2200 rfl (fun _ => rfl) zk_2200
set_option maxRecDepth 100000 in
theorem zk_2201 : zi_chk cX11_sign false 11 0 kX11_sign = true := by decide +kernel
theorem zp_2201 : zi_pg (2201, (yX11_sign, cX11_sign, 2, 1, 1)) := zi_pg_of zm_2201 rfl (fun h => by cases h) zk_2201
set_option maxRecDepth 100000 in
theorem zk_2202 : zi_chk cX11_end false 11 0 kX11_end = true := by decide +kernel
theorem zp_2202 : zi_pg (2202, (yX11_end, cX11_end, 2, 2, 1)) := zi_pg_of zm_2202 rfl (fun h => by cases h) zk_2202
set_option maxRecDepth 100000 in
theorem zk_2203 : zi_chk cX11_locks false 11 0 kX11_locks = true := by decide +kernel
theorem zp_2203 : zi_pg (2203, (yX11_locks, cX11_locks, 1, 1, 0)) := zi_pg_of zm_2203 rfl (fun h => by cases h) zk_2203
set_option maxRecDepth 100000 in
theorem zk_2204 : zi_chk cX11_singers false 11 0 kX11_singers = true := by decide +kernel
theorem zp_2204 : zi_pg (2204, (yX11_singers, cX11_singers, 1, 1, 0)) := zi_pg_of zm_2204 rfl (fun h => by cases h) zk_2204
set_option maxRecDepth 100000 in
theorem zk_2205 : zi_chk cX11_barges false 11 0 kX11_barges = true := by decide +kernel
theorem zp_2205 : zi_pg (2205, (yX11_barges, cX11_barges, 1, 1, 0)) := zi_pg_of zm_2205 rfl (fun h => by cases h) zk_2205
set_option maxRecDepth 100000 in
theorem zk_2206 : zi_chk cX11_rule false 11 0 kX11_rule = true := by decide +kernel
theorem zp_2206 : zi_pg (2206, (yX11_rule, cX11_rule, 2, 1, 0)) := zi_pg_of zm_2206 rfl (fun h => by cases h) zk_2206
set_option maxRecDepth 100000 in
theorem zk_2207 : zi_chk cX11_lock false 11 0 kX11_lock = true := by decide +kernel
theorem zp_2207 : zi_pg (2207, (yX11_lock, cX11_lock, 3, 1, 2)) := zi_pg_of zm_2207 rfl (fun h => by cases h) zk_2207
set_option maxRecDepth 100000 in
theorem zk_2208 : zi_chk cX11_singer false 11 0 kX11_singer = true := by decide +kernel
theorem zp_2208 : zi_pg (2208, (yX11_singer, cX11_singer, 3, 1, 2)) := zi_pg_of zm_2208 rfl (fun h => by cases h) zk_2208
set_option maxRecDepth 100000 in
theorem zk_2209 : zi_chk cX11_barge false 11 0 kX11_barge = true := by decide +kernel
theorem zp_2209 : zi_pg (2209, (yX11_barge, cX11_barge, 3, 1, 2)) := zi_pg_of zm_2209 rfl (fun h => by cases h) zk_2209
set_option maxRecDepth 100000 in
theorem zk_2210 : zi_chk cX11_set false 11 0 kX11_set = true := by decide +kernel
theorem zp_2210 : zi_pg (2210, (yX11_set, cX11_set, 4, 1, 2)) := zi_pg_of zm_2210 rfl (fun h => by cases h) zk_2210
set_option maxRecDepth 100000 in
theorem zk_2211 : zi_chk cX11_sheet false 11 0 kX11_sheet = true := by decide +kernel
theorem zp_2211 : zi_pg (2211, (yX11_sheet, cX11_sheet, 5, 1, 4)) := zi_pg_of zm_2211 rfl (fun h => by cases h) zk_2211
set_option maxRecDepth 100000 in
theorem zk_2212 : zi_chk cX11_tellOf false 11 0 kX11_tellOf = true := by decide +kernel
theorem zp_2212 : zi_pg (2212, (yX11_tellOf, cX11_tellOf, 4, 1, 2)) := zi_pg_of zm_2212 rfl (fun h => by cases h) zk_2212
set_option maxRecDepth 100000 in
theorem zk_2213 : zi_chk cX11_readLines false 11 0 kX11_readLines = true := by decide +kernel
theorem zp_2213 : zi_pg (2213, (yX11_readLines, cX11_readLines, 5, 1, 1)) := zi_pg_of zm_2213 rfl (fun h => by cases h) zk_2213
set_option maxRecDepth 100000 in
theorem zk_2214 : zi_chk cX11_hire false 11 0 kX11_hire = true := by decide +kernel
theorem zp_2214 : zi_pg (2214, (yX11_hire, cX11_hire, 3, 1, 2)) := zi_pg_of zm_2214 rfl (fun h => by cases h) zk_2214
set_option maxRecDepth 100000 in
theorem zk_2215 : zi_chk cX11_leave false 11 0 kX11_leave = true := by decide +kernel
theorem zp_2215 : zi_pg (2215, (yX11_leave, cX11_leave, 2, 1, 1)) := zi_pg_of zm_2215 rfl (fun h => by cases h) zk_2215
set_option maxRecDepth 100000 in
theorem zk_2216 : zi_chk cX11_pass false 11 0 kX11_pass = true := by decide +kernel
theorem zp_2216 : zi_pg (2216, (yX11_pass, cX11_pass, 4, 1, 2)) := zi_pg_of zm_2216 rfl (fun h => by cases h) zk_2216
set_option maxRecDepth 100000 in
theorem zk_2217 : zi_chk cX11_rest false 11 0 kX11_rest = true := by decide +kernel
theorem zp_2217 : zi_pg (2217, (yX11_rest, cX11_rest, 2, 1, 1)) := zi_pg_of zm_2217 rfl (fun h => by cases h) zk_2217
set_option maxRecDepth 100000 in
theorem zk_2218 : zi_chk cX11_day false 11 0 kX11_day = true := by decide +kernel
theorem zp_2218 : zi_pg (2218, (yX11_day, cX11_day, 6, 1, 0)) := zi_pg_of zm_2218 rfl (fun h => by cases h) zk_2218
set_option maxRecDepth 100000 in
theorem zk_2219 : zi_chk cX11_undo false 11 0 kX11_undo = true := by decide +kernel
theorem zp_2219 : zi_pg (2219, (yX11_undo, cX11_undo, 1, 1, 0)) := zi_pg_of zm_2219 rfl (fun h => by cases h) zk_2219
set_option maxRecDepth 100000 in
theorem zk_2220 : zi_chk cX11_remember false 11 0 kX11_remember = true := by decide +kernel
theorem zp_2220 : zi_pg (2220, (yX11_remember, cX11_remember, 2, 1, 1)) := zi_pg_of zm_2220 rfl (fun h => by cases h) zk_2220
set_option maxRecDepth 100000 in
theorem zk_2221 : zi_chk cX11_takeOn false 11 0 kX11_takeOn = true := by decide +kernel
theorem zp_2221 : zi_pg (2221, (yX11_takeOn, cX11_takeOn, 3, 1, 2)) := zi_pg_of zm_2221 rfl (fun h => by cases h) zk_2221
set_option maxRecDepth 100000 in
theorem zk_2222 : zi_chk cX11_letGo false 11 0 kX11_letGo = true := by decide +kernel
theorem zp_2222 : zi_pg (2222, (yX11_letGo, cX11_letGo, 3, 1, 1)) := zi_pg_of zm_2222 rfl (fun h => by cases h) zk_2222
set_option maxRecDepth 100000 in
theorem zk_2223 : zi_chk cX11_takeRest false 11 0 kX11_takeRest = true := by decide +kernel
theorem zp_2223 : zi_pg (2223, (yX11_takeRest, cX11_takeRest, 2, 1, 1)) := zi_pg_of zm_2223 rfl (fun h => by cases h) zk_2223
set_option maxRecDepth 100000 in
theorem zk_2224 : zi_chk cX11_readActs false 11 0 kX11_readActs = true := by decide +kernel
theorem zp_2224 : zi_pg (2224, (yX11_readActs, cX11_readActs, 3, 1, 0)) := zi_pg_of zm_2224 rfl (fun h => by cases h) zk_2224
set_option maxRecDepth 100000 in
theorem zk_2225 : zi_chk cX11_readAct false 11 0 kX11_readAct = true := by decide +kernel
theorem zp_2225 : zi_pg (2225, (yX11_readAct, cX11_readAct, 4, 1, 0)) := zi_pg_of zm_2225 rfl (fun h => by cases h) zk_2225
set_option maxRecDepth 100000 in
theorem zk_2226 : zi_chk cX11_isPass false 11 0 kX11_isPass = true := by decide +kernel
theorem zp_2226 : zi_pg (2226, (yX11_isPass, cX11_isPass, 2, 2, 1)) := zi_pg_of zm_2226 rfl (fun h => by cases h) zk_2226
set_option maxRecDepth 100000 in
theorem zk_2227 : zi_chk cX11_perform false 11 0 kX11_perform = true := by decide +kernel
theorem zp_2227 : zi_pg (2227, (yX11_perform, cX11_perform, 3, 1, 1)) := zi_pg_of zm_2227 rfl (fun h => by cases h) zk_2227
set_option maxRecDepth 100000 in
theorem zk_2228 : zi_chk cX11_sings false 11 0 kX11_sings = true := by decide +kernel
theorem zp_2228 : zi_pg (2228, (yX11_sings, cX11_sings, 3, 1, 2)) := zi_pg_of zm_2228 rfl (fun h => by cases h) zk_2228
set_option maxRecDepth 100000 in
theorem zk_2229 : zi_chk cX11_lacks false 11 0 kX11_lacks = true := by decide +kernel
theorem zp_2229 : zi_pg (2229, (yX11_lacks, cX11_lacks, 4, 1, 2)) := zi_pg_of zm_2229 rfl (fun h => by cases h) zk_2229
set_option maxRecDepth 100000 in
theorem zk_2230 : zi_chk cX11_spoils false 11 0 kX11_spoils = true := by decide +kernel
theorem zp_2230 : zi_pg (2230, (yX11_spoils, cX11_spoils, 4, 1, 2)) := zi_pg_of zm_2230 rfl (fun h => by cases h) zk_2230
set_option maxRecDepth 100000 in
theorem zk_2231 : zi_chk cX11_shift false 11 0 kX11_shift = true := by decide +kernel
theorem zp_2231 : zi_pg (2231, (yX11_shift, cX11_shift, 5, 1, 2)) := zi_pg_of zm_2231 rfl (fun h => by cases h) zk_2231
set_option maxRecDepth 100000 in
theorem zk_2232 : zi_chk cX11_voices false 11 0 kX11_voices = true := by decide +kernel
theorem zp_2232 : zi_pg (2232, (yX11_voices, cX11_voices, 4, 1, 2)) := zi_pg_of zm_2232 rfl (fun h => by cases h) zk_2232
set_option maxRecDepth 100000 in
theorem zk_2233 : zi_chk cX11_singsShifted false 11 0 kX11_singsShifted = true := by decide +kernel
theorem zp_2233 : zi_pg (2233, (yX11_singsShifted, cX11_singsShifted, 4, 2, 3)) := zi_pg_of zm_2233 rfl (fun h => by cases h) zk_2233
set_option maxRecDepth 100000 in
theorem zk_2234 : zi_chk cX11_tellSong false 11 0 kX11_tellSong = true := by decide +kernel
theorem zp_2234 : zi_pg (2234, (yX11_tellSong, cX11_tellSong, 2, 0, 0)) := zi_pg_of zm_2234 rfl (fun h => by cases h) zk_2234
set_option maxRecDepth 100000 in
theorem zk_2235 : zi_chk cX11_tellHired false 11 0 kX11_tellHired = true := by decide +kernel
theorem zp_2235 : zi_pg (2235, (yX11_tellHired, cX11_tellHired, 2, 1, 1)) := zi_pg_of zm_2235 rfl (fun h => by cases h) zk_2235
set_option maxRecDepth 100000 in
theorem zk_2236 : zi_chk cX11_journey false 11 0 kX11_journey = true := by decide +kernel
theorem zp_2236 : zi_pg (2236, (yX11_journey, cX11_journey, 4, 1, 2)) := zi_pg_of zm_2236 rfl (fun h => by cases h) zk_2236
set_option maxRecDepth 100000 in
theorem zk_2237 : zi_chk cX11_hires false 11 0 kX11_hires = true := by decide +kernel
theorem zp_2237 : zi_pg (2237, (yX11_hires, cX11_hires, 8, 1, 2)) := zi_pg_of zm_2237 rfl (fun h => by cases h) zk_2237
set_option maxRecDepth 100000 in
theorem zk_2238 : zi_chk cX11_rested false 11 0 kX11_rested = true := by decide +kernel
theorem zp_2238 : zi_pg (2238, (yX11_rested, cX11_rested, 5, 1, 2)) := zi_pg_of zm_2238 rfl (fun h => by cases h) zk_2238
set_option maxRecDepth 100000 in
theorem zk_2239 : zi_chk cX11_queue false 11 0 kX11_queue = true := by decide +kernel
theorem zp_2239 : zi_pg (2239, (yX11_queue, cX11_queue, 3, 1, 1)) := zi_pg_of zm_2239 rfl (fun h => by cases h) zk_2239
set_option maxRecDepth 100000 in
theorem zk_2240 : zi_chk cX11_jams false 11 0 kX11_jams = true := by decide +kernel
theorem zp_2240 : zi_pg (2240, (yX11_jams, cX11_jams, 7, 1, 0)) := zi_pg_of zm_2240 rfl (fun h => by cases h) zk_2240
set_option maxRecDepth 100000 in
theorem zk_2241 : zi_chk cX11_heard false 11 0 kX11_heard = true := by decide +kernel
theorem zp_2241 : zi_pg (2241, (yX11_heard, cX11_heard, 3, 1, 2)) := zi_pg_of zm_2241 rfl (fun h => by cases h) zk_2241
