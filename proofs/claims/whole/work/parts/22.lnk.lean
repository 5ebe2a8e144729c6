/-! ===== printed: the links are among the tables' words ===== -/
theorem zi_w1 {j : Nat} {w : Cond} (h : tables_1_1[j]? = some w) : w ∈ lw_tbl := List.mem_append_right _ (show w ∈ tables_1 from List.mem_append_left _ (List.mem_of_getElem? h))
theorem zi_t1 {j : Nat} {w : Cond} (h : tables_1_1[j]? = some w) (g : goodWord w = true) : w ∈ zi_tb := List.mem_filter.mpr ⟨zi_w1 h, g⟩
theorem zi_n1 {j : Nat} {w : Cond} (h : tables_1_1[j]? = some w) (g : zi_isN w = true) : w ∈ zi_nw := List.mem_filter.mpr ⟨zi_w1 h, g⟩
theorem zi_w2 {j : Nat} {w : Cond} (h : tables_1_2[j]? = some w) : w ∈ lw_tbl := List.mem_append_right _ (show w ∈ tables_1 from List.mem_append_right _ (List.mem_append_left _ (List.mem_of_getElem? h)))
theorem zi_t2 {j : Nat} {w : Cond} (h : tables_1_2[j]? = some w) (g : goodWord w = true) : w ∈ zi_tb := List.mem_filter.mpr ⟨zi_w2 h, g⟩
theorem zi_n2 {j : Nat} {w : Cond} (h : tables_1_2[j]? = some w) (g : zi_isN w = true) : w ∈ zi_nw := List.mem_filter.mpr ⟨zi_w2 h, g⟩
theorem zi_w3 {j : Nat} {w : Cond} (h : tables_1_3[j]? = some w) : w ∈ lw_tbl := List.mem_append_right _ (show w ∈ tables_1 from List.mem_append_right _ (List.mem_append_right _ (List.mem_append_left _ (List.mem_of_getElem? h))))
theorem zi_t3 {j : Nat} {w : Cond} (h : tables_1_3[j]? = some w) (g : goodWord w = true) : w ∈ zi_tb := List.mem_filter.mpr ⟨zi_w3 h, g⟩
theorem zi_n3 {j : Nat} {w : Cond} (h : tables_1_3[j]? = some w) (g : zi_isN w = true) : w ∈ zi_nw := List.mem_filter.mpr ⟨zi_w3 h, g⟩
theorem zi_w4 {j : Nat} {w : Cond} (h : tables_1_4[j]? = some w) : w ∈ lw_tbl := List.mem_append_right _ (show w ∈ tables_1 from List.mem_append_right _ (List.mem_append_right _ (List.mem_append_right _ (List.mem_append_left _ (List.mem_of_getElem? h)))))
theorem zi_t4 {j : Nat} {w : Cond} (h : tables_1_4[j]? = some w) (g : goodWord w = true) : w ∈ zi_tb := List.mem_filter.mpr ⟨zi_w4 h, g⟩
theorem zi_n4 {j : Nat} {w : Cond} (h : tables_1_4[j]? = some w) (g : zi_isN w = true) : w ∈ zi_nw := List.mem_filter.mpr ⟨zi_w4 h, g⟩
theorem zi_w5 {j : Nat} {w : Cond} (h : tables_1_5[j]? = some w) : w ∈ lw_tbl := List.mem_append_right _ (show w ∈ tables_1 from List.mem_append_right _ (List.mem_append_right _ (List.mem_append_right _ (List.mem_append_right _ (List.mem_append_left _ (List.mem_of_getElem? h))))))
theorem zi_t5 {j : Nat} {w : Cond} (h : tables_1_5[j]? = some w) (g : goodWord w = true) : w ∈ zi_tb := List.mem_filter.mpr ⟨zi_w5 h, g⟩
theorem zi_n5 {j : Nat} {w : Cond} (h : tables_1_5[j]? = some w) (g : zi_isN w = true) : w ∈ zi_nw := List.mem_filter.mpr ⟨zi_w5 h, g⟩
theorem zi_w6 {j : Nat} {w : Cond} (h : tables_1_6[j]? = some w) : w ∈ lw_tbl := List.mem_append_right _ (show w ∈ tables_1 from List.mem_append_right _ (List.mem_append_right _ (List.mem_append_right _ (List.mem_append_right _ (List.mem_append_right _ (List.mem_append_left _ (List.mem_of_getElem? h)))))))
theorem zi_t6 {j : Nat} {w : Cond} (h : tables_1_6[j]? = some w) (g : goodWord w = true) : w ∈ zi_tb := List.mem_filter.mpr ⟨zi_w6 h, g⟩
theorem zi_n6 {j : Nat} {w : Cond} (h : tables_1_6[j]? = some w) (g : zi_isN w = true) : w ∈ zi_nw := List.mem_filter.mpr ⟨zi_w6 h, g⟩
theorem zi_w7 {j : Nat} {w : Cond} (h : tables_1_7[j]? = some w) : w ∈ lw_tbl := List.mem_append_right _ (show w ∈ tables_1 from List.mem_append_right _ (List.mem_append_right _ (List.mem_append_right _ (List.mem_append_right _ (List.mem_append_right _ (List.mem_append_right _ (List.mem_append_left _ (List.mem_of_getElem? h))))))))
theorem zi_t7 {j : Nat} {w : Cond} (h : tables_1_7[j]? = some w) (g : goodWord w = true) : w ∈ zi_tb := List.mem_filter.mpr ⟨zi_w7 h, g⟩
theorem zi_n7 {j : Nat} {w : Cond} (h : tables_1_7[j]? = some w) (g : zi_isN w = true) : w ∈ zi_nw := List.mem_filter.mpr ⟨zi_w7 h, g⟩
theorem zi_w8 {j : Nat} {w : Cond} (h : tables_1_8[j]? = some w) : w ∈ lw_tbl := List.mem_append_right _ (show w ∈ tables_1 from List.mem_append_right _ (List.mem_append_right _ (List.mem_append_right _ (List.mem_append_right _ (List.mem_append_right _ (List.mem_append_right _ (List.mem_append_right _ (List.mem_of_getElem? h))))))))
theorem zi_t8 {j : Nat} {w : Cond} (h : tables_1_8[j]? = some w) (g : goodWord w = true) : w ∈ zi_tb := List.mem_filter.mpr ⟨zi_w8 h, g⟩
theorem zi_n8 {j : Nat} {w : Cond} (h : tables_1_8[j]? = some w) (g : zi_isN w = true) : w ∈ zi_nw := List.mem_filter.mpr ⟨zi_w8 h, g⟩
theorem zi_s1 {j n : Nat} {y : MethodName} (h : lw_privs_1[j]? = some (y, n)) : Cond.selects y.cls y y ∈ zi_tb := List.mem_filter.mpr ⟨List.mem_append_left _ (List.mem_map.mpr ⟨(y, n), show (y, n) ∈ lw_privs from List.mem_append_left _ (List.mem_of_getElem? h), rfl⟩), rfl⟩
theorem zi_s2 {j n : Nat} {y : MethodName} (h : lw_privs_2[j]? = some (y, n)) : Cond.selects y.cls y y ∈ zi_tb := List.mem_filter.mpr ⟨List.mem_append_left _ (List.mem_map.mpr ⟨(y, n), show (y, n) ∈ lw_privs from List.mem_append_right _ (List.mem_append_left _ (List.mem_of_getElem? h)), rfl⟩), rfl⟩
theorem zi_s3 {j n : Nat} {y : MethodName} (h : lw_privs_3[j]? = some (y, n)) : Cond.selects y.cls y y ∈ zi_tb := List.mem_filter.mpr ⟨List.mem_append_left _ (List.mem_map.mpr ⟨(y, n), show (y, n) ∈ lw_privs from List.mem_append_right _ (List.mem_append_right _ (List.mem_append_left _ (List.mem_of_getElem? h))), rfl⟩), rfl⟩
theorem zi_s4 {j n : Nat} {y : MethodName} (h : lw_privs_4[j]? = some (y, n)) : Cond.selects y.cls y y ∈ zi_tb := List.mem_filter.mpr ⟨List.mem_append_left _ (List.mem_map.mpr ⟨(y, n), show (y, n) ∈ lw_privs from List.mem_append_right _ (List.mem_append_right _ (List.mem_append_right _ (List.mem_append_left _ (List.mem_of_getElem? h)))), rfl⟩), rfl⟩
theorem zi_s5 {j n : Nat} {y : MethodName} (h : lw_privs_5[j]? = some (y, n)) : Cond.selects y.cls y y ∈ zi_tb := List.mem_filter.mpr ⟨List.mem_append_left _ (List.mem_map.mpr ⟨(y, n), show (y, n) ∈ lw_privs from List.mem_append_right _ (List.mem_append_right _ (List.mem_append_right _ (List.mem_append_right _ (List.mem_append_left _ (List.mem_of_getElem? h))))), rfl⟩), rfl⟩
theorem zi_s6 {j n : Nat} {y : MethodName} (h : lw_privs_6[j]? = some (y, n)) : Cond.selects y.cls y y ∈ zi_tb := List.mem_filter.mpr ⟨List.mem_append_left _ (List.mem_map.mpr ⟨(y, n), show (y, n) ∈ lw_privs from List.mem_append_right _ (List.mem_append_right _ (List.mem_append_right _ (List.mem_append_right _ (List.mem_append_right _ (List.mem_append_left _ (List.mem_of_getElem? h)))))), rfl⟩), rfl⟩
theorem zi_s7 {j n : Nat} {y : MethodName} (h : lw_privs_7[j]? = some (y, n)) : Cond.selects y.cls y y ∈ zi_tb := List.mem_filter.mpr ⟨List.mem_append_left _ (List.mem_map.mpr ⟨(y, n), show (y, n) ∈ lw_privs from List.mem_append_right _ (List.mem_append_right _ (List.mem_append_right _ (List.mem_append_right _ (List.mem_append_right _ (List.mem_append_right _ (List.mem_of_getElem? h)))))), rfl⟩), rfl⟩
theorem zi_M_mem {x : Nat} {d : zi_MI} (h : zi_M x = some d) : (x, d) ∈ zi_ml := by
  unfold zi_M at h
  obtain ⟨q, hq, rfl⟩ := Option.map_eq_some_iff.mp h
  have h1 := List.find?_some hq
  have h2 := List.mem_of_find?_eq_some hq
  have h3 : q.1 = x := zi_beq h1
  subst h3
  exact h2
/-- what is known of a method -/
def zi_mf (x : Nat) (d : zi_MI) : Prop := zi_M x = some d ∧ d.1.cls = zi_cn (x / 200) ∧ Cond.initialized d.1.cls ∈ zi_tb ∧ (d.1.cls ≠ "java/lang/invoke/MethodHandle" ∧ d.1.cls ≠ "java/lang/invoke/VarHandle" ∧ (parseMethodDescriptor d.1.desc).map (fun q => q.parameters.length) = some d.2.2.2.2) ∧ Cond.code d.1 d.2.1 d.2.2.1 (zi_rt d.2.2.2.1) ∈ zi_tb ∧ d.2.2.1 ≤ 40 ∧ plainName d.1.cls = true
theorem zi_mkM {o ix x : Nat} {d : zi_MI} (h : zi_mf x d) (hl : Cond.methodLink (zi_cn o) ix d.1 ∈ zi_tb ∨ ∃ host, Cond.methodLinkNest (zi_cn o) ix d.1 host ∈ zi_nw) : zi_gM zi_M o ix x d.2.2.2.2 := ⟨d, h.1, rfl, h.2.1, h.2.2.1, h.2.2.2.1, h.2.2.2.2.1, h.2.2.2.2.2.1, hl⟩
theorem zi_mkV {o ix x : Nat} {d : zi_MI} (h : zi_mf x d) (hl : Cond.methodLink (zi_cn o) ix d.1 ∈ zi_tb ∨ ∃ host, Cond.methodLinkNest (zi_cn o) ix d.1 host ∈ zi_nw) (h1 : Cond.instanceMethod d.1 ∈ zi_tb) (h2 : Cond.selects (zi_cn (x / 200)) d.1 d.1 ∈ zi_tb) (hr : (∃ r : vw_C, vwCl[x / 200]? = some r ∧ r.1 = zi_cn (x / 200)) ∨ x / 200 = 15) : zi_gV zi_M o ix x d.2.2.2.2 := ⟨zi_mkM h hl, fun d' h' => by
  rw [h.1] at h'
  cases h'
  exact ⟨h1, h2, hr⟩⟩
theorem zi_mkI {o ix x : Nat} {d : zi_MI} (h : zi_mf x d) (hl : Cond.methodLink (zi_cn o) ix d.1 ∈ zi_tb ∨ ∃ host, Cond.methodLinkNest (zi_cn o) ix d.1 host ∈ zi_nw) (h1 : Cond.instanceMethod d.1 ∈ zi_tb) (h2 : d.1.name = "<init>" ∧ d.2.2.2.1 = 0) : zi_gI zi_M o ix x d.2.2.2.2 := ⟨zi_mkM h hl, fun d' h' => by
  rw [h.1] at h'
  cases h'
  exact ⟨h1, h2⟩⟩
theorem zi_mkS {o ix x : Nat} {d : zi_MI} (h : zi_mf x d) (hl : Cond.methodLink (zi_cn o) ix d.1 ∈ zi_tb ∨ ∃ host, Cond.methodLinkNest (zi_cn o) ix d.1 host ∈ zi_nw) (h1 : Cond.static d.1 ∈ zi_tb) : zi_gS zi_M o ix x d.2.2.2.2 := ⟨zi_mkM h hl, fun d' h' => by
  rw [h.1] at h'
  cases h'
  exact h1⟩
theorem zi_ini_0 : Cond.initialized (zi_cn 0) ∈ zi_tb := (zi_t1 (j := 4) rfl rfl)
theorem zi_ini_1 : Cond.initialized (zi_cn 1) ∈ zi_tb := (zi_t1 (j := 7) rfl rfl)
theorem zi_ini_2 : Cond.initialized (zi_cn 2) ∈ zi_tb := (zi_t1 (j := 9) rfl rfl)
theorem zi_ini_3 : Cond.initialized (zi_cn 3) ∈ zi_tb := (zi_t1 (j := 6) rfl rfl)
theorem zi_ini_4 : Cond.initialized (zi_cn 4) ∈ zi_tb := (zi_t1 (j := 10) rfl rfl)
theorem zi_ini_5 : Cond.initialized (zi_cn 5) ∈ zi_tb := (zi_t1 (j := 3) rfl rfl)
theorem zi_ini_6 : Cond.initialized (zi_cn 6) ∈ zi_tb := (zi_t1 (j := 12) rfl rfl)
theorem zi_ini_7 : Cond.initialized (zi_cn 7) ∈ zi_tb := (zi_t1 (j := 5) rfl rfl)
theorem zi_ini_8 : Cond.initialized (zi_cn 8) ∈ zi_tb := (zi_t1 (j := 2) rfl rfl)
theorem zi_ini_9 : Cond.initialized (zi_cn 9) ∈ zi_tb := (zi_t1 (j := 8) rfl rfl)
theorem zi_ini_10 : Cond.initialized (zi_cn 10) ∈ zi_tb := (zi_t1 (j := 11) rfl rfl)
theorem zi_ini_11 : Cond.initialized (zi_cn 11) ∈ zi_tb := (zi_t1 (j := 1) rfl rfl)
theorem zi_ini_12 : Cond.initialized (zi_cn 12) ∈ zi_tb := (zi_t1 (j := 13) rfl rfl)
theorem zi_ini_14 : Cond.initialized (zi_cn 14) ∈ zi_tb := (zi_t1 (j := 25) rfl rfl)
theorem zi_ini_15 : Cond.initialized (zi_cn 15) ∈ zi_tb := (zi_t1 (j := 15) rfl rfl)
theorem zi_ini_16 : Cond.initialized (zi_cn 16) ∈ zi_tb := (zi_t1 (j := 16) rfl rfl)
theorem zm_0 : zi_mf 0 (yX0_init, cX0_init, 1, 0, 0) := ⟨rfl, rfl, zi_ini_0, by decide +kernel, (zi_t1 (j := 72) rfl rfl), by decide, by decide +kernel⟩
theorem zm_1 : zi_mf 1 (yX0_hasLock, cX0_hasLock, 2, 2, 1) := ⟨rfl, rfl, zi_ini_0, by decide +kernel, (zi_t3 (j := 210) rfl rfl), by decide, by decide +kernel⟩
theorem zm_2 : zi_mf 2 (yX0_hasPlace, cX0_hasPlace, 2, 2, 1) := ⟨rfl, rfl, zi_ini_0, by decide +kernel, (zi_t4 (j := 183) rfl rfl), by decide, by decide +kernel⟩
theorem zm_3 : zi_mf 3 (yX0_hasSinger, cX0_hasSinger, 2, 2, 1) := ⟨rfl, rfl, zi_ini_0, by decide +kernel, (zi_t3 (j := 168) rfl rfl), by decide, by decide +kernel⟩
theorem zm_4 : zi_mf 4 (yX0_hasBarge, cX0_hasBarge, 2, 2, 1) := ⟨rfl, rfl, zi_ini_0, by decide +kernel, (zi_t3 (j := 164) rfl rfl), by decide, by decide +kernel⟩
theorem zm_5 : zi_mf 5 (yX0_many, cX0_many, 2, 1, 1) := ⟨rfl, rfl, zi_ini_0, by decide +kernel, (zi_t2 (j := 175) rfl rfl), by decide, by decide +kernel⟩
theorem zm_6 : zi_mf 6 (yX0_room, cX0_room, 2, 1, 1) := ⟨rfl, rfl, zi_ini_0, by decide +kernel, (zi_t2 (j := 179) rfl rfl), by decide, by decide +kernel⟩
theorem zm_7 : zi_mf 7 (yX0_grow, cX0_grow, 3, 0, 2) := ⟨rfl, rfl, zi_ini_0, by decide +kernel, (zi_t2 (j := 229) rfl rfl), by decide, by decide +kernel⟩
theorem zm_8 : zi_mf 8 (yX0_readLine, cX0_readLine, 5, 2, 4) := ⟨rfl, rfl, zi_ini_0, by decide +kernel, (zi_t2 (j := 183) rfl rfl), by decide, by decide +kernel⟩
theorem zm_9 : zi_mf 9 (yX0_readLock, cX0_readLock, 5, 2, 2) := ⟨rfl, rfl, zi_ini_0, by decide +kernel, (zi_t2 (j := 187) rfl rfl), by decide, by decide +kernel⟩
theorem zm_10 : zi_mf 10 (yX0_readSinger, cX0_readSinger, 7, 2, 3) := ⟨rfl, rfl, zi_ini_0, by decide +kernel, (zi_t2 (j := 203) rfl rfl), by decide, by decide +kernel⟩
theorem zm_11 : zi_mf 11 (yX0_readBarge, cX0_readBarge, 5, 2, 3) := ⟨rfl, rfl, zi_ini_0, by decide +kernel, (zi_t2 (j := 216) rfl rfl), by decide, by decide +kernel⟩
theorem zm_12 : zi_mf 12 (yX0_readPlace, cX0_readPlace, 3, 1, 1) := ⟨rfl, rfl, zi_ini_0, by decide +kernel, (zi_t2 (j := 207) rfl rfl), by decide, by decide +kernel⟩
theorem zm_13 : zi_mf 13 (yX0_takeFees, cX0_takeFees, 8, 1, 4) := ⟨rfl, rfl, zi_ini_0, by decide +kernel, (zi_t3 (j := 142) rfl rfl), by decide, by decide +kernel⟩
theorem zm_14 : zi_mf 14 (yX0_narrowed, cX0_narrowed, 2, 1, 2) := ⟨rfl, rfl, zi_ini_0, by decide +kernel, (zi_t3 (j := 145) rfl rfl), by decide, by decide +kernel⟩
theorem zm_15 : zi_mf 15 (yX0_crewOf, cX0_crewOf, 5, 1, 2) := ⟨rfl, rfl, zi_ini_0, by decide +kernel, (zi_t3 (j := 231) rfl rfl), by decide, by decide +kernel⟩
theorem zm_16 : zi_mf 16 (yX0_freeAt, cX0_freeAt, 5, 1, 2) := ⟨rfl, rfl, zi_ini_0, by decide +kernel, (zi_t4 (j := 147) rfl rfl), by decide, by decide +kernel⟩
theorem zm_17 : zi_mf 17 (yX0_tiredOf, cX0_tiredOf, 5, 1, 2) := ⟨rfl, rfl, zi_ini_0, by decide +kernel, (zi_t4 (j := 22) rfl rfl), by decide, by decide +kernel⟩
theorem zm_18 : zi_mf 18 (yX0_feesOf, cX0_feesOf, 4, 1, 1) := ⟨rfl, rfl, zi_ini_0, by decide +kernel, (zi_t4 (j := 169) rfl rfl), by decide, by decide +kernel⟩
theorem zm_19 : zi_mf 19 (yX0_ableToSing, cX0_ableToSing, 5, 1, 2) := ⟨rfl, rfl, zi_ini_0, by decide +kernel, (zi_t3 (j := 227) rfl rfl), by decide, by decide +kernel⟩
theorem zm_20 : zi_mf 20 (yX0_chordBits, cX0_chordBits, 4, 1, 1) := ⟨rfl, rfl, zi_ini_0, by decide +kernel, (zi_t5 (j := 26) rfl rfl), by decide, by decide +kernel⟩
theorem zm_200 : zi_mf 200 (yX1_init, cX1_init, 2, 0, 1) := ⟨rfl, rfl, zi_ini_1, by decide +kernel, (zi_t1 (j := 203) rfl rfl), by decide, by decide +kernel⟩
theorem zm_201 : zi_mf 201 (yX1_gather, cX1_gather, 6, 0, 3) := ⟨rfl, rfl, zi_ini_1, by decide +kernel, (zi_t3 (j := 214) rfl rfl), by decide, by decide +kernel⟩
theorem zm_202 : zi_mf 202 (yX1_placeOf, cX1_placeOf, 1, 1, 1) := ⟨rfl, rfl, zi_ini_1, by decide +kernel, (zi_t3 (j := 217) rfl rfl), by decide, by decide +kernel⟩
theorem zm_203 : zi_mf 203 (yX1_canSing, cX1_canSing, 5, 2, 2) := ⟨rfl, rfl, zi_ini_1, by decide +kernel, (zi_t3 (j := 239) rfl rfl), by decide, by decide +kernel⟩
theorem zm_204 : zi_mf 204 (yX1_settle, cX1_settle, 5, 2, 1) := ⟨rfl, rfl, zi_ini_1, by decide +kernel, (zi_t3 (j := 235) rfl rfl), by decide, by decide +kernel⟩
theorem zm_205 : zi_mf 205 (yX1_firstFor, cX1_firstFor, 6, 1, 3) := ⟨rfl, rfl, zi_ini_1, by decide +kernel, (zi_t4 (j := 3) rfl rfl), by decide, by decide +kernel⟩
theorem zm_206 : zi_mf 206 (yX1_mostNotes, cX1_mostNotes, 4, 1, 1) := ⟨rfl, rfl, zi_ini_1, by decide +kernel, (zi_t4 (j := 116) rfl rfl), by decide, by decide +kernel⟩
theorem zm_207 : zi_mf 207 (yX1_fewestMissed, cX1_fewestMissed, 5, 1, 1) := ⟨rfl, rfl, zi_ini_1, by decide +kernel, (zi_t4 (j := 131) rfl rfl), by decide, by decide +kernel⟩
theorem zm_400 : zi_mf 400 (yX2_init, cX2_init, 3, 0, 2) := ⟨rfl, rfl, zi_ini_2, by decide +kernel, (zi_t2 (j := 4) rfl rfl), by decide, by decide +kernel⟩
theorem zm_401 : zi_mf 401 (yX2_begin, cX2_begin, 2, 0, 0) := ⟨rfl, rfl, zi_ini_2, by decide +kernel, (zi_t4 (j := 151) rfl rfl), by decide, by decide +kernel⟩
theorem zm_402 : zi_mf 402 (yX2_mustSing, cX2_mustSing, 6, 0, 4) := ⟨rfl, rfl, zi_ini_2, by decide +kernel, (zi_t4 (j := 155) rfl rfl), by decide, by decide +kernel⟩
theorem zm_403 : zi_mf 403 (yX2_cheapest, cX2_cheapest, 4, 1, 1) := ⟨rfl, rfl, zi_ini_2, by decide +kernel, (zi_t4 (j := 161) rfl rfl), by decide, by decide +kernel⟩
theorem zm_404 : zi_mf 404 (yX2_isBetter, cX2_isBetter, 5, 2, 2) := ⟨rfl, rfl, zi_ini_2, by decide +kernel, (zi_t4 (j := 165) rfl rfl), by decide, by decide +kernel⟩
theorem zm_600 : zi_mf 600 (yX3_init, cX3_init, 1, 0, 0) := ⟨rfl, rfl, zi_ini_3, by decide +kernel, (zi_t1 (j := 155) rfl rfl), by decide, by decide +kernel⟩
theorem zm_601 : zi_mf 601 (yX3_copy, cX3_copy, 2, 0, 1) := ⟨rfl, rfl, zi_ini_3, by decide +kernel, (zi_t3 (j := 155) rfl rfl), by decide, by decide +kernel⟩
theorem zm_602 : zi_mf 602 (yX3_levelOf, cX3_levelOf, 2, 1, 1) := ⟨rfl, rfl, zi_ini_3, by decide +kernel, (zi_t4 (j := 10) rfl rfl), by decide, by decide +kernel⟩
theorem zm_603 : zi_mf 603 (yX3_setLevel, cX3_setLevel, 3, 0, 2) := ⟨rfl, rfl, zi_ini_3, by decide +kernel, (zi_t4 (j := 40) rfl rfl), by decide, by decide +kernel⟩
theorem zm_604 : zi_mf 604 (yX3_whereIs, cX3_whereIs, 3, 1, 1) := ⟨rfl, rfl, zi_ini_3, by decide +kernel, (zi_t3 (j := 189) rfl rfl), by decide, by decide +kernel⟩
theorem zm_605 : zi_mf 605 (yX3_letGoBy, cX3_letGoBy, 4, 0, 1) := ⟨rfl, rfl, zi_ini_3, by decide +kernel, (zi_t4 (j := 65) rfl rfl), by decide, by decide +kernel⟩
theorem zm_800 : zi_mf 800 (yX4_init, cX4_init, 2, 0, 1) := ⟨rfl, rfl, zi_ini_4, by decide +kernel, (zi_t2 (j := 21) rfl rfl), by decide, by decide +kernel⟩
theorem zm_801 : zi_mf 801 (yX4_size, cX4_size, 1, 1, 0) := ⟨rfl, rfl, zi_ini_4, by decide +kernel, (zi_t5 (j := 42) rfl rfl), by decide, by decide +kernel⟩
theorem zm_802 : zi_mf 802 (yX4_clear, cX4_clear, 1, 0, 0) := ⟨rfl, rfl, zi_ini_4, by decide +kernel, (zi_t5 (j := 50) rfl rfl), by decide, by decide +kernel⟩
theorem zm_803 : zi_mf 803 (yX4_note, cX4_note, 3, 2, 2) := ⟨rfl, rfl, zi_ini_4, by decide +kernel, (zi_t5 (j := 38) rfl rfl), by decide, by decide +kernel⟩
theorem zm_804 : zi_mf 804 (yX4_hasInRange, cX4_hasInRange, 3, 2, 2) := ⟨rfl, rfl, zi_ini_4, by decide +kernel, (zi_t5 (j := 70) rfl rfl), by decide, by decide +kernel⟩
theorem zm_805 : zi_mf 805 (yX4_fitting, cX4_fitting, 5, 1, 0) := ⟨rfl, rfl, zi_ini_4, by decide +kernel, (zi_t5 (j := 58) rfl rfl), by decide, by decide +kernel⟩
theorem zm_806 : zi_mf 806 (yX4_leftAtMost, cX4_leftAtMost, 7, 1, 2) := ⟨rfl, rfl, zi_ini_4, by decide +kernel, (zi_t5 (j := 66) rfl rfl), by decide, by decide +kernel⟩
theorem zm_807 : zi_mf 807 (yX4_parting, cX4_parting, 3, 1, 0) := ⟨rfl, rfl, zi_ini_4, by decide +kernel, (zi_t5 (j := 79) rfl rfl), by decide, by decide +kernel⟩
theorem zm_808 : zi_mf 808 (yX4_findPairs, cX4_findPairs, 5, 0, 1) := ⟨rfl, rfl, zi_ini_4, by decide +kernel, (zi_t5 (j := 84) rfl rfl), by decide, by decide +kernel⟩
theorem zm_809 : zi_mf 809 (yX4_allApart, cX4_allApart, 3, 2, 0) := ⟨rfl, rfl, zi_ini_4, by decide +kernel, (zi_t5 (j := 92) rfl rfl), by decide, by decide +kernel⟩
theorem zm_810 : zi_mf 810 (yX4_markPair, cX4_markPair, 5, 0, 3) := ⟨rfl, rfl, zi_ini_4, by decide +kernel, (zi_t5 (j := 88) rfl rfl), by decide, by decide +kernel⟩
theorem zm_811 : zi_mf 811 (yX4_partingBy, cX4_partingBy, 6, 1, 3) := ⟨rfl, rfl, zi_ini_4, by decide +kernel, (zi_t5 (j := 96) rfl rfl), by decide, by decide +kernel⟩
theorem zm_1000 : zi_mf 1000 (yX5_init, cX5_init, 1, 0, 0) := ⟨rfl, rfl, zi_ini_5, by decide +kernel, (zi_t1 (j := 58) rfl rfl), by decide, by decide +kernel⟩
theorem zm_1001 : zi_mf 1001 (yX5_size, cX5_size, 1, 1, 0) := ⟨rfl, rfl, zi_ini_5, by decide +kernel, (zi_t5 (j := 158) rfl rfl), by decide, by decide +kernel⟩
theorem zm_1002 : zi_mf 1002 (yX5_at, cX5_at, 2, 3, 1) := ⟨rfl, rfl, zi_ini_5, by decide +kernel, (zi_t6 (j := 12) rfl rfl), by decide, by decide +kernel⟩
theorem zm_1003 : zi_mf 1003 (yX5_clear, cX5_clear, 1, 0, 0) := ⟨rfl, rfl, zi_ini_5, by decide +kernel, (zi_t4 (j := 49) rfl rfl), by decide, by decide +kernel⟩
theorem zm_1004 : zi_mf 1004 (yX5_add, cX5_add, 3, 0, 1) := ⟨rfl, rfl, zi_ini_5, by decide +kernel, (zi_t4 (j := 53) rfl rfl), by decide, by decide +kernel⟩
theorem zm_1005 : zi_mf 1005 (yX5_tell, cX5_tell, 3, 0, 1) := ⟨rfl, rfl, zi_ini_5, by decide +kernel, (zi_t4 (j := 120) rfl rfl), by decide, by decide +kernel⟩
theorem zm_1200 : zi_mf 1200 (yX6_init, cX6_init, 2, 0, 0) := ⟨rfl, rfl, zi_ini_6, by decide +kernel, (zi_t2 (j := 68) rfl rfl), by decide, by decide +kernel⟩
theorem zm_1201 : zi_mf 1201 (yX6_size, cX6_size, 1, 1, 0) := ⟨rfl, rfl, zi_ini_6, by decide +kernel, (zi_t4 (j := 100) rfl rfl), by decide, by decide +kernel⟩
theorem zm_1202 : zi_mf 1202 (yX6_clear, cX6_clear, 1, 0, 0) := ⟨rfl, rfl, zi_ini_6, by decide +kernel, (zi_t2 (j := 233) rfl rfl), by decide, by decide +kernel⟩
theorem zm_1203 : zi_mf 1203 (yX6_add, cX6_add, 2, 0, 1) := ⟨rfl, rfl, zi_ini_6, by decide +kernel, (zi_t3 (j := 176) rfl rfl), by decide, by decide +kernel⟩
theorem zm_1204 : zi_mf 1204 (yX6_takeBack, cX6_takeBack, 2, 2, 1) := ⟨rfl, rfl, zi_ini_6, by decide +kernel, (zi_t4 (j := 96) rfl rfl), by decide, by decide +kernel⟩
theorem zm_1400 : zi_mf 1400 (yX7_init, cX7_init, 1, 0, 0) := ⟨rfl, rfl, zi_ini_7, by decide +kernel, (zi_t1 (j := 78) rfl rfl), by decide, by decide +kernel⟩
theorem zm_1401 : zi_mf 1401 (yX7_read, cX7_read, 2, 1, 1) := ⟨rfl, rfl, zi_ini_7, by decide +kernel, (zi_t3 (j := 9) rfl rfl), by decide, by decide +kernel⟩
theorem zm_1402 : zi_mf 1402 (yX7_put, cX7_put, 3, 0, 2) := ⟨rfl, rfl, zi_ini_7, by decide +kernel, (zi_t4 (j := 18) rfl rfl), by decide, by decide +kernel⟩
theorem zm_1403 : zi_mf 1403 (yX7_minutes, cX7_minutes, 2, 1, 0) := ⟨rfl, rfl, zi_ini_7, by decide +kernel, (zi_t4 (j := 27) rfl rfl), by decide, by decide +kernel⟩
theorem zm_1404 : zi_mf 1404 (yX7_comparison, cX7_comparison, 4, 2, 2) := ⟨rfl, rfl, zi_ini_7, by decide +kernel, (zi_t3 (j := 15) rfl rfl), by decide, by decide +kernel⟩
theorem zm_1405 : zi_mf 1405 (yX7_sum, cX7_sum, 6, 2, 2) := ⟨rfl, rfl, zi_ini_7, by decide +kernel, (zi_t3 (j := 19) rfl rfl), by decide, by decide +kernel⟩
theorem zm_1406 : zi_mf 1406 (yX7_product, cX7_product, 6, 2, 2) := ⟨rfl, rfl, zi_ini_7, by decide +kernel, (zi_t3 (j := 23) rfl rfl), by decide, by decide +kernel⟩
theorem zm_1407 : zi_mf 1407 (yX7_negated, cX7_negated, 5, 2, 2) := ⟨rfl, rfl, zi_ini_7, by decide +kernel, (zi_t3 (j := 27) rfl rfl), by decide, by decide +kernel⟩
theorem zm_1408 : zi_mf 1408 (yX7_thing, cX7_thing, 5, 2, 2) := ⟨rfl, rfl, zi_ini_7, by decide +kernel, (zi_t3 (j := 32) rfl rfl), by decide, by decide +kernel⟩
theorem zm_1409 : zi_mf 1409 (yX7_emit, cX7_emit, 2, 2, 1) := ⟨rfl, rfl, zi_ini_7, by decide +kernel, (zi_t3 (j := 37) rfl rfl), by decide, by decide +kernel⟩
theorem zm_1410 : zi_mf 1410 (yX7_worth, cX7_worth, 5, 1, 0) := ⟨rfl, rfl, zi_ini_7, by decide +kernel, (zi_t4 (j := 31) rfl rfl), by decide, by decide +kernel⟩
theorem zm_1411 : zi_mf 1411 (yX7_joined, cX7_joined, 3, 1, 3) := ⟨rfl, rfl, zi_ini_7, by decide +kernel, (zi_t4 (j := 34) rfl rfl), by decide, by decide +kernel⟩
theorem zm_1600 : zi_mf 1600 (yX8_init, cX8_init, 1, 0, 0) := ⟨rfl, rfl, zi_ini_8, by decide +kernel, (zi_t1 (j := 38) rfl rfl), by decide, by decide +kernel⟩
theorem zm_1601 : zi_mf 1601 (yX8_length, cX8_length, 1, 1, 0) := ⟨rfl, rfl, zi_ini_8, by decide +kernel, (zi_t2 (j := 140) rfl rfl), by decide, by decide +kernel⟩
theorem zm_1602 : zi_mf 1602 (yX8_addFour, cX8_addFour, 3, 2, 1) := ⟨rfl, rfl, zi_ini_8, by decide +kernel, (zi_t2 (j := 136) rfl rfl), by decide, by decide +kernel⟩
theorem zm_1603 : zi_mf 1603 (yX8_cutTo, cX8_cutTo, 2, 2, 1) := ⟨rfl, rfl, zi_ini_8, by decide +kernel, (zi_t2 (j := 148) rfl rfl), by decide, by decide +kernel⟩
theorem zm_1604 : zi_mf 1604 (yX8_clear, cX8_clear, 1, 0, 0) := ⟨rfl, rfl, zi_ini_8, by decide +kernel, (zi_t2 (j := 225) rfl rfl), by decide, by decide +kernel⟩
theorem zm_1605 : zi_mf 1605 (yX8_open, cX8_open, 2, 0, 1) := ⟨rfl, rfl, zi_ini_8, by decide +kernel, (zi_t2 (j := 160) rfl rfl), by decide, by decide +kernel⟩
theorem zm_1606 : zi_mf 1606 (yX8_look, cX8_look, 1, 1, 0) := ⟨rfl, rfl, zi_ini_8, by decide +kernel, (zi_t2 (j := 195) rfl rfl), by decide, by decide +kernel⟩
theorem zm_1607 : zi_mf 1607 (yX8_step, cX8_step, 1, 0, 0) := ⟨rfl, rfl, zi_ini_8, by decide +kernel, (zi_t2 (j := 199) rfl rfl), by decide, by decide +kernel⟩
theorem zm_1608 : zi_mf 1608 (yX8_over, cX8_over, 1, 2, 0) := ⟨rfl, rfl, zi_ini_8, by decide +kernel, (zi_t2 (j := 167) rfl rfl), by decide, by decide +kernel⟩
theorem zm_1609 : zi_mf 1609 (yX8_fault, cX8_fault, 1, 1, 0) := ⟨rfl, rfl, zi_ini_8, by decide +kernel, (zi_t2 (j := 220) rfl rfl), by decide, by decide +kernel⟩
theorem zm_1610 : zi_mf 1610 (yX8_take, cX8_take, 4, 1, 2) := ⟨rfl, rfl, zi_ini_8, by decide +kernel, (zi_t2 (j := 191) rfl rfl), by decide, by decide +kernel⟩
theorem zm_1611 : zi_mf 1611 (yX8_takeNumber, cX8_takeNumber, 5, 1, 1) := ⟨rfl, rfl, zi_ini_8, by decide +kernel, (zi_t2 (j := 211) rfl rfl), by decide, by decide +kernel⟩
theorem zm_1800 : zi_mf 1800 (yX9_init, cX9_init, 3, 0, 2) := ⟨rfl, rfl, zi_ini_9, by decide +kernel, (zi_t1 (j := 221) rfl rfl), by decide, by decide +kernel⟩
theorem zm_1801 : zi_mf 1801 (yX9_way, cX9_way, 4, 1, 3) := ⟨rfl, rfl, zi_ini_9, by decide +kernel, (zi_t4 (j := 191) rfl rfl), by decide, by decide +kernel⟩
theorem zm_1802 : zi_mf 1802 (yX9_lockAhead, cX9_lockAhead, 5, 1, 3) := ⟨rfl, rfl, zi_ini_9, by decide +kernel, (zi_t3 (j := 206) rfl rfl), by decide, by decide +kernel⟩
theorem zm_1803 : zi_mf 1803 (yX9_hindrance, cX9_hindrance, 5, 1, 3) := ⟨rfl, rfl, zi_ini_9, by decide +kernel, (zi_t3 (j := 201) rfl rfl), by decide, by decide +kernel⟩
theorem zm_1804 : zi_mf 1804 (yX9_waterFor, cX9_waterFor, 3, 1, 3) := ⟨rfl, rfl, zi_ini_9, by decide +kernel, (zi_t4 (j := 6) rfl rfl), by decide, by decide +kernel⟩
theorem zm_1805 : zi_mf 1805 (yX9_go, cX9_go, 9, 1, 3) := ⟨rfl, rfl, zi_ini_9, by decide +kernel, (zi_t3 (j := 197) rfl rfl), by decide, by decide +kernel⟩
theorem zm_1806 : zi_mf 1806 (yX9_minutesFor, cX9_minutesFor, 7, 1, 4) := ⟨rfl, rfl, zi_ini_9, by decide +kernel, (zi_t4 (j := 14) rfl rfl), by decide, by decide +kernel⟩
theorem zm_1807 : zi_mf 1807 (yX9_travel, cX9_travel, 7, 1, 3) := ⟨rfl, rfl, zi_ini_9, by decide +kernel, (zi_t4 (j := 187) rfl rfl), by decide, by decide +kernel⟩
theorem zm_1808 : zi_mf 1808 (yX9_findWays, cX9_findWays, 3, 0, 1) := ⟨rfl, rfl, zi_ini_9, by decide +kernel, (zi_t5 (j := 18) rfl rfl), by decide, by decide +kernel⟩
theorem zm_1809 : zi_mf 1809 (yX9_chordAhead, cX9_chordAhead, 5, 1, 3) := ⟨rfl, rfl, zi_ini_9, by decide +kernel, (zi_t5 (j := 22) rfl rfl), by decide, by decide +kernel⟩
theorem zm_1810 : zi_mf 1810 (yX9_keptBy, cX9_keptBy, 7, 1, 1) := ⟨rfl, rfl, zi_ini_9, by decide +kernel, (zi_t5 (j := 30) rfl rfl), by decide, by decide +kernel⟩
theorem zm_2000 : zi_mf 2000 (yX10_init, cX10_init, 1, 0, 0) := ⟨rfl, rfl, zi_ini_10, by decide +kernel, (zi_t2 (j := 46) rfl rfl), by decide, by decide +kernel⟩
theorem zm_2001 : zi_mf 2001 (yX10_read, cX10_read, 3, 1, 1) := ⟨rfl, rfl, zi_ini_10, by decide +kernel, (zi_t4 (j := 211) rfl rfl), by decide, by decide +kernel⟩
theorem zm_2002 : zi_mf 2002 (yX10_order, cX10_order, 8, 1, 2) := ⟨rfl, rfl, zi_ini_10, by decide +kernel, (zi_t4 (j := 220) rfl rfl), by decide, by decide +kernel⟩
theorem zm_2003 : zi_mf 2003 (yX10_goesUpNext, cX10_goesUpNext, 6, 2, 3) := ⟨rfl, rfl, zi_ini_10, by decide +kernel, (zi_t5 (j := 9) rfl rfl), by decide, by decide +kernel⟩
theorem zm_2004 : zi_mf 2004 (yX10_findCosts, cX10_findCosts, 4, 0, 0) := ⟨rfl, rfl, zi_ini_10, by decide +kernel, (zi_t4 (j := 224) rfl rfl), by decide, by decide +kernel⟩
theorem zm_2005 : zi_mf 2005 (yX10_costNext, cX10_costNext, 5, 1, 3) := ⟨rfl, rfl, zi_ini_10, by decide +kernel, (zi_t4 (j := 231) rfl rfl), by decide, by decide +kernel⟩
theorem zm_2006 : zi_mf 2006 (yX10_upCost, cX10_upCost, 4, 1, 3) := ⟨rfl, rfl, zi_ini_10, by decide +kernel, (zi_t5 (j := 3) rfl rfl), by decide, by decide +kernel⟩
theorem zm_2007 : zi_mf 2007 (yX10_downCost, cX10_downCost, 4, 1, 3) := ⟨rfl, rfl, zi_ini_10, by decide +kernel, (zi_t4 (j := 235) rfl rfl), by decide, by decide +kernel⟩
theorem zm_2008 : zi_mf 2008 (yX10_costAfter, cX10_costAfter, 4, 1, 3) := ⟨rfl, rfl, zi_ini_10, by decide +kernel, (zi_t4 (j := 239) rfl rfl), by decide, by decide +kernel⟩
theorem zm_2009 : zi_mf 2009 (yX10_slot, cX10_slot, 3, 1, 3) := ⟨rfl, rfl, zi_ini_10, by decide +kernel, (zi_t4 (j := 227) rfl rfl), by decide, by decide +kernel⟩
theorem zm_2200 : zi_mf 2200 (yX11_init, cX11_init, 2, 0, 0) := ⟨rfl, rfl, zi_ini_11, by decide +kernel, (zi_t1 (j := 30) rfl rfl), by decide, by decide +kernel⟩
theorem zm_2201 : zi_mf 2201 (yX11_sign, cX11_sign, 2, 1, 1) := ⟨rfl, rfl, zi_ini_11, by decide +kernel, (zi_t2 (j := 132) rfl rfl), by decide, by decide +kernel⟩
theorem zm_2202 : zi_mf 2202 (yX11_end, cX11_end, 2, 2, 1) := ⟨rfl, rfl, zi_ini_11, by decide +kernel, (zi_t2 (j := 144) rfl rfl), by decide, by decide +kernel⟩
theorem zm_2203 : zi_mf 2203 (yX11_locks, cX11_locks, 1, 1, 0) := ⟨rfl, rfl, zi_ini_11, by decide +kernel, (zi_t2 (j := 152) rfl rfl), by decide, by decide +kernel⟩
theorem zm_2204 : zi_mf 2204 (yX11_singers, cX11_singers, 1, 1, 0) := ⟨rfl, rfl, zi_ini_11, by decide +kernel, (zi_t2 (j := 237) rfl rfl), by decide, by decide +kernel⟩
theorem zm_2205 : zi_mf 2205 (yX11_barges, cX11_barges, 1, 1, 0) := ⟨rfl, rfl, zi_ini_11, by decide +kernel, (zi_t3 (j := 1) rfl rfl), by decide, by decide +kernel⟩
theorem zm_2206 : zi_mf 2206 (yX11_rule, cX11_rule, 2, 1, 0) := ⟨rfl, rfl, zi_ini_11, by decide +kernel, (zi_t3 (j := 5) rfl rfl), by decide, by decide +kernel⟩
theorem zm_2207 : zi_mf 2207 (yX11_lock, cX11_lock, 3, 1, 2) := ⟨rfl, rfl, zi_ini_11, by decide +kernel, (zi_t5 (j := 166) rfl rfl), by decide, by decide +kernel⟩
theorem zm_2208 : zi_mf 2208 (yX11_singer, cX11_singer, 3, 1, 2) := ⟨rfl, rfl, zi_ini_11, by decide +kernel, (zi_t5 (j := 234) rfl rfl), by decide, by decide +kernel⟩
theorem zm_2209 : zi_mf 2209 (yX11_barge, cX11_barge, 3, 1, 2) := ⟨rfl, rfl, zi_ini_11, by decide +kernel, (zi_t6 (j := 1) rfl rfl), by decide, by decide +kernel⟩
theorem zm_2210 : zi_mf 2210 (yX11_set, cX11_set, 4, 1, 2) := ⟨rfl, rfl, zi_ini_11, by decide +kernel, (zi_t3 (j := 133) rfl rfl), by decide, by decide +kernel⟩
theorem zm_2211 : zi_mf 2211 (yX11_sheet, cX11_sheet, 5, 1, 4) := ⟨rfl, rfl, zi_ini_11, by decide +kernel, (zi_t3 (j := 138) rfl rfl), by decide, by decide +kernel⟩
theorem zm_2212 : zi_mf 2212 (yX11_tellOf, cX11_tellOf, 4, 1, 2) := ⟨rfl, rfl, zi_ini_11, by decide +kernel, (zi_t2 (j := 156) rfl rfl), by decide, by decide +kernel⟩
theorem zm_2213 : zi_mf 2213 (yX11_readLines, cX11_readLines, 5, 1, 1) := ⟨rfl, rfl, zi_ini_11, by decide +kernel, (zi_t2 (j := 171) rfl rfl), by decide, by decide +kernel⟩
theorem zm_2214 : zi_mf 2214 (yX11_hire, cX11_hire, 3, 1, 2) := ⟨rfl, rfl, zi_ini_11, by decide +kernel, (zi_t3 (j := 151) rfl rfl), by decide, by decide +kernel⟩
theorem zm_2215 : zi_mf 2215 (yX11_leave, cX11_leave, 2, 1, 1) := ⟨rfl, rfl, zi_ini_11, by decide +kernel, (zi_t3 (j := 181) rfl rfl), by decide, by decide +kernel⟩
theorem zm_2216 : zi_mf 2216 (yX11_pass, cX11_pass, 4, 1, 2) := ⟨rfl, rfl, zi_ini_11, by decide +kernel, (zi_t3 (j := 193) rfl rfl), by decide, by decide +kernel⟩
theorem zm_2217 : zi_mf 2217 (yX11_rest, cX11_rest, 2, 1, 1) := ⟨rfl, rfl, zi_ini_11, by decide +kernel, (zi_t4 (j := 57) rfl rfl), by decide, by decide +kernel⟩
theorem zm_2218 : zi_mf 2218 (yX11_day, cX11_day, 6, 1, 0) := ⟨rfl, rfl, zi_ini_11, by decide +kernel, (zi_t4 (j := 70) rfl rfl), by decide, by decide +kernel⟩
theorem zm_2219 : zi_mf 2219 (yX11_undo, cX11_undo, 1, 1, 0) := ⟨rfl, rfl, zi_ini_11, by decide +kernel, (zi_t4 (j := 92) rfl rfl), by decide, by decide +kernel⟩
theorem zm_2220 : zi_mf 2220 (yX11_remember, cX11_remember, 2, 1, 1) := ⟨rfl, rfl, zi_ini_11, by decide +kernel, (zi_t3 (j := 172) rfl rfl), by decide, by decide +kernel⟩
theorem zm_2221 : zi_mf 2221 (yX11_takeOn, cX11_takeOn, 3, 1, 2) := ⟨rfl, rfl, zi_ini_11, by decide +kernel, (zi_t3 (j := 160) rfl rfl), by decide, by decide +kernel⟩
theorem zm_2222 : zi_mf 2222 (yX11_letGo, cX11_letGo, 3, 1, 1) := ⟨rfl, rfl, zi_ini_11, by decide +kernel, (zi_t3 (j := 185) rfl rfl), by decide, by decide +kernel⟩
theorem zm_2223 : zi_mf 2223 (yX11_takeRest, cX11_takeRest, 2, 1, 1) := ⟨rfl, rfl, zi_ini_11, by decide +kernel, (zi_t4 (j := 61) rfl rfl), by decide, by decide +kernel⟩
theorem zm_2224 : zi_mf 2224 (yX11_readActs, cX11_readActs, 3, 1, 0) := ⟨rfl, rfl, zi_ini_11, by decide +kernel, (zi_t4 (j := 74) rfl rfl), by decide, by decide +kernel⟩
theorem zm_2225 : zi_mf 2225 (yX11_readAct, cX11_readAct, 4, 1, 0) := ⟨rfl, rfl, zi_ini_11, by decide +kernel, (zi_t4 (j := 78) rfl rfl), by decide, by decide +kernel⟩
theorem zm_2226 : zi_mf 2226 (yX11_isPass, cX11_isPass, 2, 2, 1) := ⟨rfl, rfl, zi_ini_11, by decide +kernel, (zi_t4 (j := 88) rfl rfl), by decide, by decide +kernel⟩
theorem zm_2227 : zi_mf 2227 (yX11_perform, cX11_perform, 3, 1, 1) := ⟨rfl, rfl, zi_ini_11, by decide +kernel, (zi_t4 (j := 85) rfl rfl), by decide, by decide +kernel⟩
theorem zm_2228 : zi_mf 2228 (yX11_sings, cX11_sings, 3, 1, 2) := ⟨rfl, rfl, zi_ini_11, by decide +kernel, (zi_t4 (j := 104) rfl rfl), by decide, by decide +kernel⟩
theorem zm_2229 : zi_mf 2229 (yX11_lacks, cX11_lacks, 4, 1, 2) := ⟨rfl, rfl, zi_ini_11, by decide +kernel, (zi_t4 (j := 112) rfl rfl), by decide, by decide +kernel⟩
theorem zm_2230 : zi_mf 2230 (yX11_spoils, cX11_spoils, 4, 1, 2) := ⟨rfl, rfl, zi_ini_11, by decide +kernel, (zi_t4 (j := 127) rfl rfl), by decide, by decide +kernel⟩
theorem zm_2231 : zi_mf 2231 (yX11_shift, cX11_shift, 5, 1, 2) := ⟨rfl, rfl, zi_ini_11, by decide +kernel, (zi_t4 (j := 135) rfl rfl), by decide, by decide +kernel⟩
theorem zm_2232 : zi_mf 2232 (yX11_voices, cX11_voices, 4, 1, 2) := ⟨rfl, rfl, zi_ini_11, by decide +kernel, (zi_t4 (j := 143) rfl rfl), by decide, by decide +kernel⟩
theorem zm_2233 : zi_mf 2233 (yX11_singsShifted, cX11_singsShifted, 4, 2, 3) := ⟨rfl, rfl, zi_ini_11, by decide +kernel, (zi_t4 (j := 139) rfl rfl), by decide, by decide +kernel⟩
theorem zm_2234 : zi_mf 2234 (yX11_tellSong, cX11_tellSong, 2, 0, 0) := ⟨rfl, rfl, zi_ini_11, by decide +kernel, (zi_t4 (j := 45) rfl rfl), by decide, by decide +kernel⟩
theorem zm_2235 : zi_mf 2235 (yX11_tellHired, cX11_tellHired, 2, 1, 1) := ⟨rfl, rfl, zi_ini_11, by decide +kernel, (zi_t4 (j := 174) rfl rfl), by decide, by decide +kernel⟩
theorem zm_2236 : zi_mf 2236 (yX11_journey, cX11_journey, 4, 1, 2) := ⟨rfl, rfl, zi_ini_11, by decide +kernel, (zi_t4 (j := 179) rfl rfl), by decide, by decide +kernel⟩
theorem zm_2237 : zi_mf 2237 (yX11_hires, cX11_hires, 8, 1, 2) := ⟨rfl, rfl, zi_ini_11, by decide +kernel, (zi_t4 (j := 199) rfl rfl), by decide, by decide +kernel⟩
theorem zm_2238 : zi_mf 2238 (yX11_rested, cX11_rested, 5, 1, 2) := ⟨rfl, rfl, zi_ini_11, by decide +kernel, (zi_t4 (j := 203) rfl rfl), by decide, by decide +kernel⟩
theorem zm_2239 : zi_mf 2239 (yX11_queue, cX11_queue, 3, 1, 1) := ⟨rfl, rfl, zi_ini_11, by decide +kernel, (zi_t4 (j := 207) rfl rfl), by decide, by decide +kernel⟩
theorem zm_2240 : zi_mf 2240 (yX11_jams, cX11_jams, 7, 1, 0) := ⟨rfl, rfl, zi_ini_11, by decide +kernel, (zi_t5 (j := 14) rfl rfl), by decide, by decide +kernel⟩
theorem zm_2241 : zi_mf 2241 (yX11_heard, cX11_heard, 3, 1, 2) := ⟨rfl, rfl, zi_ini_11, by decide +kernel, (zi_t5 (j := 34) rfl rfl), by decide, by decide +kernel⟩
theorem zm_2242 : zi_mf 2242 (yX11_forget, cX11_forget, 2, 1, 0) := ⟨rfl, rfl, zi_ini_11, by decide +kernel, (zi_t5 (j := 46) rfl rfl), by decide, by decide +kernel⟩
theorem zm_2243 : zi_mf 2243 (yX11_who, cX11_who, 2, 1, 0) := ⟨rfl, rfl, zi_ini_11, by decide +kernel, (zi_t5 (j := 54) rfl rfl), by decide, by decide +kernel⟩
theorem zm_2244 : zi_mf 2244 (yX11_listen, cX11_listen, 6, 1, 0) := ⟨rfl, rfl, zi_ini_11, by decide +kernel, (zi_t5 (j := 62) rfl rfl), by decide, by decide +kernel⟩
theorem zm_2245 : zi_mf 2245 (yX11_parts, cX11_parts, 2, 1, 0) := ⟨rfl, rfl, zi_ini_11, by decide +kernel, (zi_t5 (j := 75) rfl rfl), by decide, by decide +kernel⟩
theorem zm_2246 : zi_mf 2246 (yX11_opens, cX11_opens, 9, 1, 2) := ⟨rfl, rfl, zi_ini_11, by decide +kernel, (zi_t5 (j := 100) rfl rfl), by decide, by decide +kernel⟩
theorem zm_2247 : zi_mf 2247 (yX11_tries, cX11_tries, 4, 1, 2) := ⟨rfl, rfl, zi_ini_11, by decide +kernel, (zi_t5 (j := 114) rfl rfl), by decide, by decide +kernel⟩
theorem zm_2248 : zi_mf 2248 (yX11_rests, cX11_rests, 5, 1, 1) := ⟨rfl, rfl, zi_ini_11, by decide +kernel, (zi_t5 (j := 119) rfl rfl), by decide, by decide +kernel⟩
theorem zm_2249 : zi_mf 2249 (yX11_pays, cX11_pays, 9, 1, 2) := ⟨rfl, rfl, zi_ini_11, by decide +kernel, (zi_t5 (j := 133) rfl rfl), by decide, by decide +kernel⟩
theorem zm_2250 : zi_mf 2250 (yX11_tellFirstPair, cX11_tellFirstPair, 4, 0, 3) := ⟨rfl, rfl, zi_ini_11, by decide +kernel, (zi_t5 (j := 129) rfl rfl), by decide, by decide +kernel⟩
theorem zm_2251 : zi_mf 2251 (yX11_chances, cX11_chances, 4, 3, 2) := ⟨rfl, rfl, zi_ini_11, by decide +kernel, (zi_t5 (j := 103) rfl rfl), by decide, by decide +kernel⟩
theorem zm_2252 : zi_mf 2252 (yX11_power, cX11_power, 6, 3, 2) := ⟨rfl, rfl, zi_ini_11, by decide +kernel, (zi_t5 (j := 106) rfl rfl), by decide, by decide +kernel⟩
theorem zm_2253 : zi_mf 2253 (yX11_commonDivisor, cX11_commonDivisor, 7, 3, 2) := ⟨rfl, rfl, zi_ini_11, by decide +kernel, (zi_t5 (j := 110) rfl rfl), by decide, by decide +kernel⟩
theorem zm_2254 : zi_mf 2254 (yX11_isBest, cX11_isBest, 5, 2, 3) := ⟨rfl, rfl, zi_ini_11, by decide +kernel, (zi_t5 (j := 122) rfl rfl), by decide, by decide +kernel⟩
theorem zm_2255 : zi_mf 2255 (yX11_gain, cX11_gain, 3, 1, 3) := ⟨rfl, rfl, zi_ini_11, by decide +kernel, (zi_t5 (j := 125) rfl rfl), by decide, by decide +kernel⟩
theorem zm_2256 : zi_mf 2256 (yX11_days, cX11_days, 8, 1, 2) := ⟨rfl, rfl, zi_ini_11, by decide +kernel, (zi_t5 (j := 138) rfl rfl), by decide, by decide +kernel⟩
theorem zm_2257 : zi_mf 2257 (yX11_drawNext, cX11_drawNext, 1, 1, 1) := ⟨rfl, rfl, zi_ini_11, by decide +kernel, (zi_t5 (j := 141) rfl rfl), by decide, by decide +kernel⟩
theorem zm_2258 : zi_mf 2258 (yX11_keep, cX11_keep, 2, 2, 1) := ⟨rfl, rfl, zi_ini_11, by decide +kernel, (zi_t5 (j := 146) rfl rfl), by decide, by decide +kernel⟩
theorem zm_2259 : zi_mf 2259 (yX11_again, cX11_again, 2, 2, 1) := ⟨rfl, rfl, zi_ini_11, by decide +kernel, (zi_t5 (j := 150) rfl rfl), by decide, by decide +kernel⟩
theorem zm_2260 : zi_mf 2260 (yX11_count, cX11_count, 2, 1, 1) := ⟨rfl, rfl, zi_ini_11, by decide +kernel, (zi_t5 (j := 154) rfl rfl), by decide, by decide +kernel⟩
theorem zm_2261 : zi_mf 2261 (yX11_row, cX11_row, 2, 3, 1) := ⟨rfl, rfl, zi_ini_11, by decide +kernel, (zi_t6 (j := 8) rfl rfl), by decide, by decide +kernel⟩
theorem zm_2400 : zi_mf 2400 (yX12_init, cX12_init, 1, 0, 0) := ⟨rfl, rfl, zi_ini_12, by decide +kernel, (zi_t6 (j := 17) rfl rfl), by decide, by decide +kernel⟩
theorem zm_2401 : zi_mf 2401 (yX12_thrown, cX12_thrown, 1, 1, 0) := ⟨rfl, rfl, zi_ini_12, by decide +kernel, (zi_t6 (j := 182) rfl rfl), by decide, by decide +kernel⟩
theorem zm_2402 : zi_mf 2402 (yX12_refuse, cX12_refuse, 1, 1, 0) := ⟨rfl, rfl, zi_ini_12, by decide +kernel, (zi_t7 (j := 77) rfl rfl), by decide, by decide +kernel⟩
theorem zm_2403 : zi_mf 2403 (yX12_in, cX12_in, 6, 2, 3) := ⟨rfl, rfl, zi_ini_12, by decide +kernel, (zi_t6 (j := 193) rfl rfl), by decide, by decide +kernel⟩
theorem zm_2404 : zi_mf 2404 (yX12_has, cX12_has, 2, 2, 2) := ⟨rfl, rfl, zi_ini_12, by decide +kernel, (zi_t7 (j := 181) rfl rfl), by decide, by decide +kernel⟩
theorem zm_2405 : zi_mf 2405 (yX12_flag, cX12_flag, 1, 1, 1) := ⟨rfl, rfl, zi_ini_12, by decide +kernel, (zi_t6 (j := 225) rfl rfl), by decide, by decide +kernel⟩
theorem zm_2406 : zi_mf 2406 (yX12_common, cX12_common, 4, 3, 2) := ⟨rfl, rfl, zi_ini_12, by decide +kernel, (zi_t8 (j := 145) rfl rfl), by decide, by decide +kernel⟩
theorem zm_2407 : zi_mf 2407 (yX12_enters, cX12_enters, 3, 0, 1) := ⟨rfl, rfl, zi_ini_12, by decide +kernel, (zi_t7 (j := 212) rfl rfl), by decide, by decide +kernel⟩
theorem zm_2408 : zi_mf 2408 (yX12_isLock, cX12_isLock, 2, 2, 1) := ⟨rfl, rfl, zi_ini_12, by decide +kernel, (zi_t7 (j := 72) rfl rfl), by decide, by decide +kernel⟩
theorem zm_2409 : zi_mf 2409 (yX12_isSinger, cX12_isSinger, 2, 2, 1) := ⟨rfl, rfl, zi_ini_12, by decide +kernel, (zi_t7 (j := 85) rfl rfl), by decide, by decide +kernel⟩
theorem zm_2410 : zi_mf 2410 (yX12_isBarge, cX12_isBarge, 2, 2, 1) := ⟨rfl, rfl, zi_ini_12, by decide +kernel, (zi_t7 (j := 106) rfl rfl), by decide, by decide +kernel⟩
theorem zm_2411 : zi_mf 2411 (yX12_isPlace, cX12_isPlace, 2, 2, 1) := ⟨rfl, rfl, zi_ini_12, by decide +kernel, (zi_t8 (j := 47) rfl rfl), by decide, by decide +kernel⟩
theorem zm_2412 : zi_mf 2412 (yX12_placeOf, cX12_placeOf, 2, 1, 2) := ⟨rfl, rfl, zi_ini_12, by decide +kernel, (zi_t7 (j := 98) rfl rfl), by decide, by decide +kernel⟩
theorem zm_2413 : zi_mf 2413 (yX12_crewOf, cX12_crewOf, 2, 1, 2) := ⟨rfl, rfl, zi_ini_12, by decide +kernel, (zi_t7 (j := 95) rfl rfl), by decide, by decide +kernel⟩
theorem zm_2414 : zi_mf 2414 (yX12_tiredOf, cX12_tiredOf, 2, 1, 2) := ⟨rfl, rfl, zi_ini_12, by decide +kernel, (zi_t7 (j := 88) rfl rfl), by decide, by decide +kernel⟩
theorem zm_2415 : zi_mf 2415 (yX12_crew, cX12_crew, 5, 1, 2) := ⟨rfl, rfl, zi_ini_12, by decide +kernel, (zi_t7 (j := 111) rfl rfl), by decide, by decide +kernel⟩
theorem zm_2416 : zi_mf 2416 (yX12_whereIs, cX12_whereIs, 3, 1, 1) := ⟨rfl, rfl, zi_ini_12, by decide +kernel, (zi_t7 (j := 92) rfl rfl), by decide, by decide +kernel⟩
theorem zm_2417 : zi_mf 2417 (yX12_sign, cX12_sign, 3, 1, 1) := ⟨rfl, rfl, zi_ini_12, by decide +kernel, (zi_t6 (j := 186) rfl rfl), by decide, by decide +kernel⟩
theorem zm_2418 : zi_mf 2418 (yX12_end, cX12_end, 2, 2, 1) := ⟨rfl, rfl, zi_ini_12, by decide +kernel, (zi_t6 (j := 190) rfl rfl), by decide, by decide +kernel⟩
theorem zm_2419 : zi_mf 2419 (yX12_begins, cX12_begins, 3, 1, 1) := ⟨rfl, rfl, zi_ini_12, by decide +kernel, (zi_t6 (j := 205) rfl rfl), by decide, by decide +kernel⟩
theorem zm_2420 : zi_mf 2420 (yX12_takes, cX12_takes, 3, 2, 1) := ⟨rfl, rfl, zi_ini_12, by decide +kernel, (zi_t6 (j := 222) rfl rfl), by decide, by decide +kernel⟩
theorem zm_2421 : zi_mf 2421 (yX12_isDigit, cX12_isDigit, 1, 2, 0) := ⟨rfl, rfl, zi_ini_12, by decide +kernel, (zi_t6 (j := 233) rfl rfl), by decide, by decide +kernel⟩
theorem zm_2422 : zi_mf 2422 (yX12_among, cX12_among, 3, 1, 1) := ⟨rfl, rfl, zi_ini_12, by decide +kernel, (zi_t7 (j := 40) rfl rfl), by decide, by decide +kernel⟩
theorem zm_2423 : zi_mf 2423 (yX12_takesOf, cX12_takesOf, 3, 1, 1) := ⟨rfl, rfl, zi_ini_12, by decide +kernel, (zi_t7 (j := 36) rfl rfl), by decide, by decide +kernel⟩
theorem zm_2424 : zi_mf 2424 (yX12_number, cX12_number, 4, 1, 1) := ⟨rfl, rfl, zi_ini_12, by decide +kernel, (zi_t6 (j := 229) rfl rfl), by decide, by decide +kernel⟩
theorem zm_2425 : zi_mf 2425 (yX12_signIn, cX12_signIn, 4, 1, 3) := ⟨rfl, rfl, zi_ini_12, by decide +kernel, (zi_t6 (j := 214) rfl rfl), by decide, by decide +kernel⟩
theorem zm_2426 : zi_mf 2426 (yX12_faultOf, cX12_faultOf, 5, 1, 3) := ⟨rfl, rfl, zi_ini_12, by decide +kernel, (zi_t7 (j := 3) rfl rfl), by decide, by decide +kernel⟩
theorem zm_2427 : zi_mf 2427 (yX12_readsLock, cX12_readsLock, 3, 2, 0) := ⟨rfl, rfl, zi_ini_12, by decide +kernel, (zi_t6 (j := 210) rfl rfl), by decide, by decide +kernel⟩
theorem zm_2428 : zi_mf 2428 (yX12_readsSinger, cX12_readsSinger, 2, 2, 0) := ⟨rfl, rfl, zi_ini_12, by decide +kernel, (zi_t6 (j := 218) rfl rfl), by decide, by decide +kernel⟩
theorem zm_2429 : zi_mf 2429 (yX12_readsBarge, cX12_readsBarge, 2, 2, 0) := ⟨rfl, rfl, zi_ini_12, by decide +kernel, (zi_t6 (j := 239) rfl rfl), by decide, by decide +kernel⟩
theorem zm_2430 : zi_mf 2430 (yX12_readsLines, cX12_readsLines, 6, 1, 2) := ⟨rfl, rfl, zi_ini_12, by decide +kernel, (zi_t6 (j := 201) rfl rfl), by decide, by decide +kernel⟩
theorem zm_2431 : zi_mf 2431 (yX12_came, cX12_came, 1, 1, 0) := ⟨rfl, rfl, zi_ini_12, by decide +kernel, (zi_t7 (j := 7) rfl rfl), by decide, by decide +kernel⟩
theorem zm_2432 : zi_mf 2432 (yX12_locks, cX12_locks, 4, 1, 0) := ⟨rfl, rfl, zi_ini_12, by decide +kernel, (zi_t6 (j := 197) rfl rfl), by decide, by decide +kernel⟩
theorem zm_2433 : zi_mf 2433 (yX12_singers, cX12_singers, 3, 1, 0) := ⟨rfl, rfl, zi_ini_12, by decide +kernel, (zi_t7 (j := 11) rfl rfl), by decide, by decide +kernel⟩
theorem zm_2434 : zi_mf 2434 (yX12_barges, cX12_barges, 3, 1, 0) := ⟨rfl, rfl, zi_ini_12, by decide +kernel, (zi_t7 (j := 15) rfl rfl), by decide, by decide +kernel⟩
theorem zm_2435 : zi_mf 2435 (yX12_codes, cX12_codes, 2, 0, 1) := ⟨rfl, rfl, zi_ini_12, by decide +kernel, (zi_t7 (j := 31) rfl rfl), by decide, by decide +kernel⟩
theorem zm_2436 : zi_mf 2436 (yX12_readsThing, cX12_readsThing, 2, 2, 0) := ⟨rfl, rfl, zi_ini_12, by decide +kernel, (zi_t7 (j := 27) rfl rfl), by decide, by decide +kernel⟩
theorem zm_2437 : zi_mf 2437 (yX12_readsRank, cX12_readsRank, 4, 2, 1) := ⟨rfl, rfl, zi_ini_12, by decide +kernel, (zi_t7 (j := 23) rfl rfl), by decide, by decide +kernel⟩
theorem zm_2438 : zi_mf 2438 (yX12_rule, cX12_rule, 5, 1, 0) := ⟨rfl, rfl, zi_ini_12, by decide +kernel, (zi_t7 (j := 19) rfl rfl), by decide, by decide +kernel⟩
theorem zm_2439 : zi_mf 2439 (yX12_worked, cX12_worked, 3, 1, 3) := ⟨rfl, rfl, zi_ini_12, by decide +kernel, (zi_t7 (j := 204) rfl rfl), by decide, by decide +kernel⟩
theorem zm_2440 : zi_mf 2440 (yX12_ruled, cX12_ruled, 4, 1, 0) := ⟨rfl, rfl, zi_ini_12, by decide +kernel, (zi_t7 (j := 201) rfl rfl), by decide, by decide +kernel⟩
theorem zm_2441 : zi_mf 2441 (yX12_tiredAll, cX12_tiredAll, 5, 1, 2) := ⟨rfl, rfl, zi_ini_12, by decide +kernel, (zi_t7 (j := 196) rfl rfl), by decide, by decide +kernel⟩
theorem zm_2442 : zi_mf 2442 (yX12_minutes, cX12_minutes, 6, 1, 4) := ⟨rfl, rfl, zi_ini_12, by decide +kernel, (zi_t7 (j := 192) rfl rfl), by decide, by decide +kernel⟩
theorem zm_2443 : zi_mf 2443 (yX12_laysNotes, cX12_laysNotes, 4, 0, 2) := ⟨rfl, rfl, zi_ini_12, by decide +kernel, (zi_t7 (j := 174) rfl rfl), by decide, by decide +kernel⟩
theorem zm_2444 : zi_mf 2444 (yX12_canSing, cX12_canSing, 4, 2, 3) := ⟨rfl, rfl, zi_ini_12, by decide +kernel, (zi_t7 (j := 185) rfl rfl), by decide, by decide +kernel⟩
theorem zm_2445 : zi_mf 2445 (yX12_singsFrom, cX12_singsFrom, 6, 2, 4) := ⟨rfl, rfl, zi_ini_12, by decide +kernel, (zi_t7 (j := 178) rfl rfl), by decide, by decide +kernel⟩
theorem zm_2446 : zi_mf 2446 (yX12_singsChord, cX12_singsChord, 4, 2, 3) := ⟨rfl, rfl, zi_ini_12, by decide +kernel, (zi_t7 (j := 170) rfl rfl), by decide, by decide +kernel⟩
theorem zm_2447 : zi_mf 2447 (yX12_tellsSung, cX12_tellsSung, 2, 0, 0) := ⟨rfl, rfl, zi_ini_12, by decide +kernel, (zi_t7 (j := 208) rfl rfl), by decide, by decide +kernel⟩
theorem zm_2448 : zi_mf 2448 (yX12_lock, cX12_lock, 3, 1, 2) := ⟨rfl, rfl, zi_ini_12, by decide +kernel, (zi_t7 (j := 68) rfl rfl), by decide, by decide +kernel⟩
theorem zm_2449 : zi_mf 2449 (yX12_singer, cX12_singer, 3, 1, 2) := ⟨rfl, rfl, zi_ini_12, by decide +kernel, (zi_t7 (j := 81) rfl rfl), by decide, by decide +kernel⟩
theorem zm_2450 : zi_mf 2450 (yX12_barge, cX12_barge, 3, 1, 2) := ⟨rfl, rfl, zi_ini_12, by decide +kernel, (zi_t7 (j := 102) rfl rfl), by decide, by decide +kernel⟩
theorem zm_2451 : zi_mf 2451 (yX12_set, cX12_set, 4, 1, 2) := ⟨rfl, rfl, zi_ini_12, by decide +kernel, (zi_t7 (j := 115) rfl rfl), by decide, by decide +kernel⟩
theorem zm_2452 : zi_mf 2452 (yX12_sheet, cX12_sheet, 9, 1, 4) := ⟨rfl, rfl, zi_ini_12, by decide +kernel, (zi_t7 (j := 121) rfl rfl), by decide, by decide +kernel⟩
theorem zm_2453 : zi_mf 2453 (yX12_putsBy, cX12_putsBy, 2, 0, 0) := ⟨rfl, rfl, zi_ini_12, by decide +kernel, (zi_t7 (j := 134) rfl rfl), by decide, by decide +kernel⟩
theorem zm_2454 : zi_mf 2454 (yX12_adds, cX12_adds, 3, 1, 1) := ⟨rfl, rfl, zi_ini_12, by decide +kernel, (zi_t7 (j := 146) rfl rfl), by decide, by decide +kernel⟩
theorem zm_2455 : zi_mf 2455 (yX12_counts, cX12_counts, 2, 1, 1) := ⟨rfl, rfl, zi_ini_12, by decide +kernel, (zi_t7 (j := 142) rfl rfl), by decide, by decide +kernel⟩
theorem zm_2456 : zi_mf 2456 (yX12_undo, cX12_undo, 2, 1, 0) := ⟨rfl, rfl, zi_ini_12, by decide +kernel, (zi_t7 (j := 126) rfl rfl), by decide, by decide +kernel⟩
theorem zm_2457 : zi_mf 2457 (yX12_hiresTo, cX12_hiresTo, 5, 1, 3) := ⟨rfl, rfl, zi_ini_12, by decide +kernel, (zi_t7 (j := 138) rfl rfl), by decide, by decide +kernel⟩
theorem zm_2458 : zi_mf 2458 (yX12_leaves, cX12_leaves, 4, 1, 2) := ⟨rfl, rfl, zi_ini_12, by decide +kernel, (zi_t7 (j := 154) rfl rfl), by decide, by decide +kernel⟩
theorem zm_2459 : zi_mf 2459 (yX12_waterFor, cX12_waterFor, 2, 1, 2) := ⟨rfl, rfl, zi_ini_12, by decide +kernel, (zi_t7 (j := 188) rfl rfl), by decide, by decide +kernel⟩
theorem zm_2460 : zi_mf 2460 (yX12_whyNot, cX12_whyNot, 5, 1, 3) := ⟨rfl, rfl, zi_ini_12, by decide +kernel, (zi_t7 (j := 166) rfl rfl), by decide, by decide +kernel⟩
theorem zm_2461 : zi_mf 2461 (yX12_passes, cX12_passes, 9, 1, 3) := ⟨rfl, rfl, zi_ini_12, by decide +kernel, (zi_t7 (j := 162) rfl rfl), by decide, by decide +kernel⟩
theorem zm_2462 : zi_mf 2462 (yX12_restsFor, cX12_restsFor, 5, 0, 2) := ⟨rfl, rfl, zi_ini_12, by decide +kernel, (zi_t7 (j := 221) rfl rfl), by decide, by decide +kernel⟩
theorem zm_2463 : zi_mf 2463 (yX12_hire, cX12_hire, 3, 1, 2) := ⟨rfl, rfl, zi_ini_12, by decide +kernel, (zi_t7 (j := 130) rfl rfl), by decide, by decide +kernel⟩
theorem zm_2464 : zi_mf 2464 (yX12_leave, cX12_leave, 2, 1, 1) := ⟨rfl, rfl, zi_ini_12, by decide +kernel, (zi_t7 (j := 150) rfl rfl), by decide, by decide +kernel⟩
theorem zm_2465 : zi_mf 2465 (yX12_pass, cX12_pass, 4, 1, 2) := ⟨rfl, rfl, zi_ini_12, by decide +kernel, (zi_t7 (j := 158) rfl rfl), by decide, by decide +kernel⟩
theorem zm_2466 : zi_mf 2466 (yX12_rest, cX12_rest, 2, 1, 1) := ⟨rfl, rfl, zi_ini_12, by decide +kernel, (zi_t7 (j := 216) rfl rfl), by decide, by decide +kernel⟩
theorem zm_2467 : zi_mf 2467 (yX12_readsAct, cX12_readsAct, 2, 2, 0) := ⟨rfl, rfl, zi_ini_12, by decide +kernel, (zi_t7 (j := 229) rfl rfl), by decide, by decide +kernel⟩
theorem zm_2468 : zi_mf 2468 (yX12_does, cX12_does, 4, 2, 1) := ⟨rfl, rfl, zi_ini_12, by decide +kernel, (zi_t7 (j := 234) rfl rfl), by decide, by decide +kernel⟩
theorem zm_2469 : zi_mf 2469 (yX12_day, cX12_day, 6, 1, 0) := ⟨rfl, rfl, zi_ini_12, by decide +kernel, (zi_t7 (j := 225) rfl rfl), by decide, by decide +kernel⟩
theorem zm_2470 : zi_mf 2470 (yX12_isPair, cX12_isPair, 3, 2, 2) := ⟨rfl, rfl, zi_ini_12, by decide +kernel, (zi_t8 (j := 2) rfl rfl), by decide, by decide +kernel⟩
theorem zm_2471 : zi_mf 2471 (yX12_sings, cX12_sings, 4, 1, 2) := ⟨rfl, rfl, zi_ini_12, by decide +kernel, (zi_t7 (j := 238) rfl rfl), by decide, by decide +kernel⟩
theorem zm_2472 : zi_mf 2472 (yX12_lacks, cX12_lacks, 6, 1, 2) := ⟨rfl, rfl, zi_ini_12, by decide +kernel, (zi_t8 (j := 6) rfl rfl), by decide, by decide +kernel⟩
theorem zm_2473 : zi_mf 2473 (yX12_spoils, cX12_spoils, 7, 1, 2) := ⟨rfl, rfl, zi_ini_12, by decide +kernel, (zi_t8 (j := 10) rfl rfl), by decide, by decide +kernel⟩
theorem zm_2474 : zi_mf 2474 (yX12_isShift, cX12_isShift, 6, 2, 3) := ⟨rfl, rfl, zi_ini_12, by decide +kernel, (zi_t8 (j := 18) rfl rfl), by decide, by decide +kernel⟩
theorem zm_2475 : zi_mf 2475 (yX12_shift, cX12_shift, 5, 1, 2) := ⟨rfl, rfl, zi_ini_12, by decide +kernel, (zi_t8 (j := 14) rfl rfl), by decide, by decide +kernel⟩
theorem zm_2476 : zi_mf 2476 (yX12_fees, cX12_fees, 4, 1, 1) := ⟨rfl, rfl, zi_ini_12, by decide +kernel, (zi_t8 (j := 39) rfl rfl), by decide, by decide +kernel⟩
theorem zm_2477 : zi_mf 2477 (yX12_isCheaper, cX12_isCheaper, 3, 2, 2) := ⟨rfl, rfl, zi_ini_12, by decide +kernel, (zi_t8 (j := 35) rfl rfl), by decide, by decide +kernel⟩
theorem zm_2478 : zi_mf 2478 (yX12_voicesOf, cX12_voicesOf, 7, 1, 3) := ⟨rfl, rfl, zi_ini_12, by decide +kernel, (zi_t8 (j := 31) rfl rfl), by decide, by decide +kernel⟩
theorem zm_2479 : zi_mf 2479 (yX12_freeAt, cX12_freeAt, 4, 1, 1) := ⟨rfl, rfl, zi_ini_12, by decide +kernel, (zi_t8 (j := 27) rfl rfl), by decide, by decide +kernel⟩
theorem zm_2480 : zi_mf 2480 (yX12_voices, cX12_voices, 4, 1, 2) := ⟨rfl, rfl, zi_ini_12, by decide +kernel, (zi_t8 (j := 23) rfl rfl), by decide, by decide +kernel⟩
theorem zm_2481 : zi_mf 2481 (yX12_puts, cX12_puts, 2, 0, 0) := ⟨rfl, rfl, zi_ini_12, by decide +kernel, (zi_t8 (j := 51) rfl rfl), by decide, by decide +kernel⟩
theorem zm_2482 : zi_mf 2482 (yX12_goesTo, cX12_goesTo, 4, 1, 2) := ⟨rfl, rfl, zi_ini_12, by decide +kernel, (zi_t8 (j := 55) rfl rfl), by decide, by decide +kernel⟩
theorem zm_2483 : zi_mf 2483 (yX12_journey, cX12_journey, 4, 1, 2) := ⟨rfl, rfl, zi_ini_12, by decide +kernel, (zi_t8 (j := 43) rfl rfl), by decide, by decide +kernel⟩
theorem zm_2484 : zi_mf 2484 (yX12_singsAll, cX12_singsAll, 9, 2, 3) := ⟨rfl, rfl, zi_ini_12, by decide +kernel, (zi_t8 (j := 63) rfl rfl), by decide, by decide +kernel⟩
theorem zm_2485 : zi_mf 2485 (yX12_hires, cX12_hires, 7, 1, 2) := ⟨rfl, rfl, zi_ini_12, by decide +kernel, (zi_t8 (j := 59) rfl rfl), by decide, by decide +kernel⟩
theorem zm_2486 : zi_mf 2486 (yX12_rested, cX12_rested, 5, 1, 2) := ⟨rfl, rfl, zi_ini_12, by decide +kernel, (zi_t8 (j := 67) rfl rfl), by decide, by decide +kernel⟩
theorem zm_2487 : zi_mf 2487 (yX12_spot, cX12_spot, 3, 1, 3) := ⟨rfl, rfl, zi_ini_12, by decide +kernel, (zi_t8 (j := 87) rfl rfl), by decide, by decide +kernel⟩
theorem zm_2488 : zi_mf 2488 (yX12_costOf, cX12_costOf, 2, 1, 2) := ⟨rfl, rfl, zi_ini_12, by decide +kernel, (zi_t8 (j := 84) rfl rfl), by decide, by decide +kernel⟩
theorem zm_2489 : zi_mf 2489 (yX12_yetBy, cX12_yetBy, 5, 1, 4) := ⟨rfl, rfl, zi_ini_12, by decide +kernel, (zi_t8 (j := 80) rfl rfl), by decide, by decide +kernel⟩
theorem zm_2490 : zi_mf 2490 (yX12_laysQueue, cX12_laysQueue, 5, 0, 0) := ⟨rfl, rfl, zi_ini_12, by decide +kernel, (zi_t8 (j := 76) rfl rfl), by decide, by decide +kernel⟩
theorem zm_2491 : zi_mf 2491 (yX12_queue, cX12_queue, 10, 1, 1) := ⟨rfl, rfl, zi_ini_12, by decide +kernel, (zi_t8 (j := 71) rfl rfl), by decide, by decide +kernel⟩
theorem zm_2492 : zi_mf 2492 (yX12_passing, cX12_passing, 3, 1, 0) := ⟨rfl, rfl, zi_ini_12, by decide +kernel, (zi_t8 (j := 95) rfl rfl), by decide, by decide +kernel⟩
theorem zm_2493 : zi_mf 2493 (yX12_jams, cX12_jams, 9, 1, 0) := ⟨rfl, rfl, zi_ini_12, by decide +kernel, (zi_t8 (j := 91) rfl rfl), by decide, by decide +kernel⟩
theorem zm_2494 : zi_mf 2494 (yX12_heard, cX12_heard, 3, 1, 2) := ⟨rfl, rfl, zi_ini_12, by decide +kernel, (zi_t8 (j := 99) rfl rfl), by decide, by decide +kernel⟩
theorem zm_2495 : zi_mf 2495 (yX12_forget, cX12_forget, 2, 1, 0) := ⟨rfl, rfl, zi_ini_12, by decide +kernel, (zi_t8 (j := 103) rfl rfl), by decide, by decide +kernel⟩
theorem zm_2496 : zi_mf 2496 (yX12_singersOf, cX12_singersOf, 4, 1, 1) := ⟨rfl, rfl, zi_ini_12, by decide +kernel, (zi_t8 (j := 115) rfl rfl), by decide, by decide +kernel⟩
theorem zm_2497 : zi_mf 2497 (yX12_fitting, cX12_fitting, 3, 1, 0) := ⟨rfl, rfl, zi_ini_12, by decide +kernel, (zi_t8 (j := 111) rfl rfl), by decide, by decide +kernel⟩
theorem zm_2498 : zi_mf 2498 (yX12_who, cX12_who, 2, 1, 0) := ⟨rfl, rfl, zi_ini_12, by decide +kernel, (zi_t8 (j := 107) rfl rfl), by decide, by decide +kernel⟩
theorem zm_2499 : zi_mf 2499 (yX12_listen, cX12_listen, 6, 1, 0) := ⟨rfl, rfl, zi_ini_12, by decide +kernel, (zi_t8 (j := 119) rfl rfl), by decide, by decide +kernel⟩
theorem zm_2500 : zi_mf 2500 (yX12_isParted, cX12_isParted, 8, 2, 2) := ⟨rfl, rfl, zi_ini_12, by decide +kernel, (zi_t8 (j := 131) rfl rfl), by decide, by decide +kernel⟩
theorem zm_2501 : zi_mf 2501 (yX12_partsBy, cX12_partsBy, 7, 1, 4) := ⟨rfl, rfl, zi_ini_12, by decide +kernel, (zi_t8 (j := 127) rfl rfl), by decide, by decide +kernel⟩
theorem zm_2502 : zi_mf 2502 (yX12_parts, cX12_parts, 4, 1, 0) := ⟨rfl, rfl, zi_ini_12, by decide +kernel, (zi_t8 (j := 123) rfl rfl), by decide, by decide +kernel⟩
theorem zm_2503 : zi_mf 2503 (yX12_bets, cX12_bets, 8, 0, 2) := ⟨rfl, rfl, zi_ini_12, by decide +kernel, (zi_t8 (j := 141) rfl rfl), by decide, by decide +kernel⟩
theorem zm_2504 : zi_mf 2504 (yX12_opens, cX12_opens, 5, 1, 2) := ⟨rfl, rfl, zi_ini_12, by decide +kernel, (zi_t8 (j := 135) rfl rfl), by decide, by decide +kernel⟩
theorem zm_2505 : zi_mf 2505 (yX12_tries, cX12_tries, 4, 1, 2) := ⟨rfl, rfl, zi_ini_12, by decide +kernel, (zi_t8 (j := 149) rfl rfl), by decide, by decide +kernel⟩
theorem zm_2506 : zi_mf 2506 (yX12_earns, cX12_earns, 3, 1, 3) := ⟨rfl, rfl, zi_ini_12, by decide +kernel, (zi_t8 (j := 161) rfl rfl), by decide, by decide +kernel⟩
theorem zm_2507 : zi_mf 2507 (yX12_isRest, cX12_isRest, 5, 2, 3) := ⟨rfl, rfl, zi_ini_12, by decide +kernel, (zi_t8 (j := 158) rfl rfl), by decide, by decide +kernel⟩
theorem zm_2508 : zi_mf 2508 (yX12_rests, cX12_rests, 5, 1, 1) := ⟨rfl, rfl, zi_ini_12, by decide +kernel, (zi_t8 (j := 154) rfl rfl), by decide, by decide +kernel⟩
theorem zm_2509 : zi_mf 2509 (yX12_pays, cX12_pays, 9, 1, 2) := ⟨rfl, rfl, zi_ini_12, by decide +kernel, (zi_t8 (j := 165) rfl rfl), by decide, by decide +kernel⟩
theorem zm_2510 : zi_mf 2510 (yX12_days, cX12_days, 8, 1, 2) := ⟨rfl, rfl, zi_ini_12, by decide +kernel, (zi_t8 (j := 169) rfl rfl), by decide, by decide +kernel⟩
theorem zm_2511 : zi_mf 2511 (yX12_keep, cX12_keep, 3, 2, 1) := ⟨rfl, rfl, zi_ini_12, by decide +kernel, (zi_t8 (j := 175) rfl rfl), by decide, by decide +kernel⟩
theorem zm_2512 : zi_mf 2512 (yX12_again, cX12_again, 3, 2, 1) := ⟨rfl, rfl, zi_ini_12, by decide +kernel, (zi_t8 (j := 180) rfl rfl), by decide, by decide +kernel⟩
theorem zm_2513 : zi_mf 2513 (yX12_levels, cX12_levels, 3, 1, 0) := ⟨rfl, rfl, zi_ini_12, by decide +kernel, (zi_t8 (j := 188) rfl rfl), by decide, by decide +kernel⟩
theorem zm_2514 : zi_mf 2514 (yX12_count, cX12_count, 2, 1, 1) := ⟨rfl, rfl, zi_ini_12, by decide +kernel, (zi_t8 (j := 184) rfl rfl), by decide, by decide +kernel⟩
theorem zm_2515 : zi_mf 2515 (yX12_row, cX12_row, 2, 3, 1) := ⟨rfl, rfl, zi_ini_12, by decide +kernel, (zi_t8 (j := 192) rfl rfl), by decide, by decide +kernel⟩
theorem zm_2800 : zi_mf 2800 (yJ6_bitCount_0f7a4, cJ6_bitCount_0f7a4, 1, 1, 1) := ⟨rfl, rfl, zi_ini_14, by decide +kernel, (zi_t3 (j := 220) rfl rfl), by decide, by decide +kernel⟩
theorem zm_3000 : zi_mf 3000 (yJ0_length_8abf5, cJ0_length_8abf5, 1, 1, 0) := ⟨rfl, rfl, zi_ini_15, by decide +kernel, (zi_t3 (j := 58) rfl rfl), by decide, by decide +kernel⟩
theorem zm_3001 : zi_mf 3001 (yJ0_charAt_5068e, cJ0_charAt_5068e, 2, 4, 1) := ⟨rfl, rfl, zi_ini_15, by decide +kernel, (zi_t7 (j := 45) rfl rfl), by decide, by decide +kernel⟩
theorem zm_3002 : zi_mf 3002 (yJ0_indexOf_0f7a4, cJ0_indexOf_0f7a4, 2, 1, 1) := ⟨rfl, rfl, zi_ini_15, by decide +kernel, (zi_t3 (j := 44) rfl rfl), by decide, by decide +kernel⟩
theorem zm_3003 : zi_mf 3003 (yJ0_indexOf_7cf53, cJ0_indexOf_7cf53, 3, 1, 2) := ⟨rfl, rfl, zi_ini_15, by decide +kernel, (zi_t3 (j := 48) rfl rfl), by decide, by decide +kernel⟩
theorem zm_3004 : zi_mf 3004 (yJ0_coder_7d493, cJ0_coder_7d493, 1, 5, 0) := ⟨rfl, rfl, zi_ini_15, by decide +kernel, (zi_t3 (j := 62) rfl rfl), by decide, by decide +kernel⟩
theorem zm_3005 : zi_mf 3005 (yJ0_isLatin1_aae02, cJ0_isLatin1_aae02, 1, 2, 0) := ⟨rfl, rfl, zi_ini_15, by decide +kernel, (zi_t3 (j := 52) rfl rfl), by decide, by decide +kernel⟩
theorem zm_3099 : zi_mf 3099 (yJ0_checkIndex_df160, cJ0_checkIndex_df160, 2, 0, 2) := ⟨rfl, rfl, zi_ini_15, by decide +kernel, (zi_t7 (j := 51) rfl rfl), by decide, by decide +kernel⟩
theorem zm_3200 : zi_mf 3200 (yJ1_charAt_3b067, cJ1_charAt_3b067, 2, 4, 2) := ⟨rfl, rfl, zi_ini_16, by decide +kernel, (zi_t7 (j := 48) rfl rfl), by decide, by decide +kernel⟩
theorem zm_3201 : zi_mf 3201 (yJ1_canEncode_9a6ad, cJ1_canEncode_9a6ad, 1, 2, 1) := ⟨rfl, rfl, zi_ini_16, by decide +kernel, (zi_t3 (j := 68) rfl rfl), by decide, by decide +kernel⟩
theorem zm_3202 : zi_mf 3202 (yJ1_indexOf_4cfef, cJ1_indexOf_4cfef, 4, 1, 4) := ⟨rfl, rfl, zi_ini_16, by decide +kernel, (zi_t3 (j := 65) rfl rfl), by decide, by decide +kernel⟩
theorem zm_3203 : zi_mf 3203 (yJ1_indexOfChar_4cfef, cJ1_indexOfChar_4cfef, 6, 1, 4) := ⟨rfl, rfl, zi_ini_16, by decide +kernel, (zi_t3 (j := 75) rfl rfl), by decide, by decide +kernel⟩
theorem zF_0 : zi_gG 0 18 0 1 := (Or.inl ⟨_, rfl, by decide, (Or.inl (zi_t1 (j := 102) rfl rfl))⟩)
theorem zF_1 : zi_gG 0 22 0 2 := (Or.inl ⟨_, rfl, by decide, (Or.inl (zi_t1 (j := 105) rfl rfl))⟩)
theorem zF_2 : zi_gG 0 25 0 3 := (Or.inl ⟨_, rfl, by decide, (Or.inl (zi_t1 (j := 108) rfl rfl))⟩)
theorem zF_3 : zi_gG 0 28 0 4 := (Or.inl ⟨_, rfl, by decide, (Or.inl (zi_t1 (j := 111) rfl rfl))⟩)
theorem zF_4 : zi_gG 0 31 0 5 := (Or.inl ⟨_, rfl, by decide, (Or.inl (zi_t1 (j := 114) rfl rfl))⟩)
theorem zF_5 : zi_gG 0 34 0 6 := (Or.inl ⟨_, rfl, by decide, (Or.inl (zi_t1 (j := 116) rfl rfl))⟩)
theorem zF_6 : zi_gG 0 37 0 7 := (Or.inl ⟨_, rfl, by decide, (Or.inl (zi_t1 (j := 119) rfl rfl))⟩)
theorem zF_7 : zi_gG 0 41 0 8 := (Or.inl ⟨_, rfl, by decide, (Or.inl (zi_t1 (j := 120) rfl rfl))⟩)
theorem zF_8 : zi_gG 0 44 0 9 := (Or.inl ⟨_, rfl, by decide, (Or.inl (zi_t1 (j := 123) rfl rfl))⟩)
theorem zF_9 : zi_gG 0 72 3 3 := (Or.inl ⟨_, rfl, by decide, (Or.inr ⟨_, (zi_n1 (j := 166) rfl rfl)⟩)⟩)
theorem zF_10 : zi_gG 0 77 3 4 := (Or.inl ⟨_, rfl, by decide, (Or.inr ⟨_, (zi_n1 (j := 170) rfl rfl)⟩)⟩)
theorem zF_11 : zi_gG 0 80 3 5 := (Or.inl ⟨_, rfl, by decide, (Or.inr ⟨_, (zi_n1 (j := 174) rfl rfl)⟩)⟩)
theorem zF_12 : zi_gG 0 83 3 6 := (Or.inl ⟨_, rfl, by decide, (Or.inr ⟨_, (zi_n1 (j := 178) rfl rfl)⟩)⟩)
theorem zF_13 : zi_gG 0 86 3 7 := (Or.inl ⟨_, rfl, by decide, (Or.inr ⟨_, (zi_n1 (j := 181) rfl rfl)⟩)⟩)
theorem zF_14 : zi_gG 0 100 0 10 := (Or.inl ⟨_, rfl, by decide, (Or.inl (zi_t1 (j := 127) rfl rfl))⟩)
theorem zF_15 : zi_gG 1 9 1 1 := (Or.inl ⟨_, rfl, by decide, (Or.inl (zi_t1 (j := 206) rfl rfl))⟩)
theorem zF_16 : zi_gG 1 15 1 2 := (Or.inl ⟨_, rfl, by decide, (Or.inl (zi_t1 (j := 207) rfl rfl))⟩)
theorem zF_17 : zi_gG 1 18 1 0 := (Or.inl ⟨_, rfl, by decide, (Or.inl (zi_t1 (j := 205) rfl rfl))⟩)
theorem zF_18 : zi_gG 1 22 0 1 := (Or.inl ⟨_, rfl, by decide, (Or.inr ⟨_, (zi_n1 (j := 103) rfl rfl)⟩)⟩)
theorem zF_19 : zi_gG 2 11 2 2 := (Or.inl ⟨_, rfl, by decide, (Or.inl (zi_t2 (j := 8) rfl rfl))⟩)
theorem zF_20 : zi_gG 2 15 2 0 := (Or.inl ⟨_, rfl, by decide, (Or.inl (zi_t2 (j := 6) rfl rfl))⟩)
theorem zF_21 : zi_gG 2 19 2 1 := (Or.inl ⟨_, rfl, by decide, (Or.inl (zi_t2 (j := 7) rfl rfl))⟩)
theorem zF_22 : zi_gG 3 9 3 1 := (Or.inl ⟨_, rfl, by decide, (Or.inl (zi_t1 (j := 159) rfl rfl))⟩)
theorem zF_23 : zi_gG 3 15 3 3 := (Or.inl ⟨_, rfl, by decide, (Or.inl (zi_t1 (j := 165) rfl rfl))⟩)
theorem zF_24 : zi_gG 3 19 3 4 := (Or.inl ⟨_, rfl, by decide, (Or.inl (zi_t1 (j := 168) rfl rfl))⟩)
theorem zF_25 : zi_gG 3 22 3 5 := (Or.inl ⟨_, rfl, by decide, (Or.inl (zi_t1 (j := 171) rfl rfl))⟩)
theorem zF_26 : zi_gG 3 25 3 6 := (Or.inl ⟨_, rfl, by decide, (Or.inl (zi_t1 (j := 175) rfl rfl))⟩)
theorem zF_27 : zi_gG 3 28 3 7 := (Or.inl ⟨_, rfl, by decide, (Or.inl (zi_t1 (j := 179) rfl rfl))⟩)
theorem zF_28 : zi_gG 3 31 3 0 := (Or.inl ⟨_, rfl, by decide, (Or.inl (zi_t1 (j := 157) rfl rfl))⟩)
theorem zF_29 : zi_gG 3 34 3 2 := (Or.inl ⟨_, rfl, by decide, (Or.inl (zi_t1 (j := 162) rfl rfl))⟩)
theorem zF_30 : zi_gG 4 9 4 1 := (Or.inl ⟨_, rfl, by decide, (Or.inl (zi_t2 (j := 24) rfl rfl))⟩)
theorem zF_31 : zi_gG 4 15 4 0 := (Or.inl ⟨_, rfl, by decide, (Or.inl (zi_t2 (j := 23) rfl rfl))⟩)
theorem zF_32 : zi_gG 4 19 4 4 := (Or.inl ⟨_, rfl, by decide, (Or.inl (zi_t2 (j := 27) rfl rfl))⟩)
theorem zF_33 : zi_gG 4 23 4 2 := (Or.inl ⟨_, rfl, by decide, (Or.inl (zi_t2 (j := 25) rfl rfl))⟩)
theorem zF_34 : zi_gG 4 26 4 3 := (Or.inl ⟨_, rfl, by decide, (Or.inl (zi_t2 (j := 26) rfl rfl))⟩)
theorem zF_35 : zi_gG 4 29 0 3 := (Or.inl ⟨_, rfl, by decide, (Or.inr ⟨_, (zi_n1 (j := 109) rfl rfl)⟩)⟩)
theorem zF_36 : zi_gG 4 34 0 4 := (Or.inl ⟨_, rfl, by decide, (Or.inr ⟨_, (zi_n1 (j := 112) rfl rfl)⟩)⟩)
theorem zF_37 : zi_gG 4 37 0 8 := (Or.inl ⟨_, rfl, by decide, (Or.inr ⟨_, (zi_n1 (j := 121) rfl rfl)⟩)⟩)
theorem zF_38 : zi_gG 4 66 4 5 := (Or.inl ⟨_, rfl, by decide, (Or.inl (zi_t2 (j := 28) rfl rfl))⟩)
theorem zF_39 : zi_gG 5 7 5 0 := (Or.inl ⟨_, rfl, by decide, (Or.inl (zi_t1 (j := 60) rfl rfl))⟩)
theorem zF_40 : zi_gG 5 13 5 1 := (Or.inl ⟨_, rfl, by decide, (Or.inl (zi_t1 (j := 61) rfl rfl))⟩)
theorem zF_41 : zi_gG 6 11 6 0 := (Or.inl ⟨_, rfl, by decide, (Or.inl (zi_t2 (j := 73) rfl rfl))⟩)
theorem zF_42 : zi_gG 6 16 6 2 := (Or.inl ⟨_, rfl, by decide, (Or.inl (zi_t2 (j := 75) rfl rfl))⟩)
theorem zF_43 : zi_gG 6 20 6 1 := (Or.inl ⟨_, rfl, by decide, (Or.inl (zi_t2 (j := 74) rfl rfl))⟩)
theorem zF_44 : zi_gG 7 11 7 0 := (Or.inl ⟨_, rfl, by decide, (Or.inl (zi_t1 (j := 80) rfl rfl))⟩)
theorem zF_45 : zi_gG 7 15 7 1 := (Or.inl ⟨_, rfl, by decide, (Or.inl (zi_t1 (j := 81) rfl rfl))⟩)
theorem zF_46 : zi_gG 7 18 7 2 := (Or.inl ⟨_, rfl, by decide, (Or.inl (zi_t1 (j := 82) rfl rfl))⟩)
theorem zF_47 : zi_gG 7 21 7 3 := (Or.inl ⟨_, rfl, by decide, (Or.inl (zi_t1 (j := 83) rfl rfl))⟩)
theorem zF_48 : zi_gG 7 30 7 5 := (Or.inl ⟨_, rfl, by decide, (Or.inl (zi_t1 (j := 85) rfl rfl))⟩)
theorem zF_49 : zi_gG 7 52 7 4 := (Or.inl ⟨_, rfl, by decide, (Or.inl (zi_t1 (j := 84) rfl rfl))⟩)
theorem zF_50 : zi_gG 8 9 8 0 := (Or.inl ⟨_, rfl, by decide, (Or.inl (zi_t1 (j := 40) rfl rfl))⟩)
theorem zF_51 : zi_gG 8 13 8 1 := (Or.inl ⟨_, rfl, by decide, (Or.inl (zi_t1 (j := 41) rfl rfl))⟩)
theorem zF_52 : zi_gG 8 17 8 2 := (Or.inl ⟨_, rfl, by decide, (Or.inl (zi_t1 (j := 42) rfl rfl))⟩)
theorem zF_53 : zi_gG 8 26 8 3 := (Or.inl ⟨_, rfl, by decide, (Or.inl (zi_t1 (j := 43) rfl rfl))⟩)
theorem zF_54 : zi_gG 9 9 9 2 := (Or.inl ⟨_, rfl, by decide, (Or.inl (zi_t1 (j := 225) rfl rfl))⟩)
theorem zF_55 : zi_gG 9 15 9 3 := (Or.inl ⟨_, rfl, by decide, (Or.inl (zi_t1 (j := 226) rfl rfl))⟩)
theorem zF_56 : zi_gG 9 18 9 0 := (Or.inl ⟨_, rfl, by decide, (Or.inl (zi_t1 (j := 223) rfl rfl))⟩)
theorem zF_57 : zi_gG 9 22 9 1 := (Or.inl ⟨_, rfl, by decide, (Or.inl (zi_t1 (j := 224) rfl rfl))⟩)
theorem zF_58 : zi_gG 9 26 3 6 := (Or.inl ⟨_, rfl, by decide, (Or.inr ⟨_, (zi_n1 (j := 176) rfl rfl)⟩)⟩)
theorem zF_59 : zi_gG 9 57 3 1 := (Or.inl ⟨_, rfl, by decide, (Or.inr ⟨_, (zi_n1 (j := 160) rfl rfl)⟩)⟩)
theorem zF_60 : zi_gG 9 79 3 2 := (Or.inl ⟨_, rfl, by decide, (Or.inr ⟨_, (zi_n1 (j := 163) rfl rfl)⟩)⟩)
theorem zF_61 : zi_gG 9 82 1 2 := (Or.inl ⟨_, rfl, by decide, (Or.inr ⟨_, (zi_n1 (j := 208) rfl rfl)⟩)⟩)
theorem zF_62 : zi_gG 9 85 3 5 := (Or.inl ⟨_, rfl, by decide, (Or.inr ⟨_, (zi_n1 (j := 172) rfl rfl)⟩)⟩)
theorem zF_63 : zi_gG 9 94 0 0 := (Or.inl ⟨_, rfl, by decide, (Or.inr ⟨_, (zi_n1 (j := 101) rfl rfl)⟩)⟩)
theorem zF_64 : zi_gG 9 98 0 2 := (Or.inl ⟨_, rfl, by decide, (Or.inr ⟨_, (zi_n1 (j := 106) rfl rfl)⟩)⟩)
theorem zF_65 : zi_gG 9 109 0 6 := (Or.inl ⟨_, rfl, by decide, (Or.inr ⟨_, (zi_n1 (j := 117) rfl rfl)⟩)⟩)
theorem zF_66 : zi_gG 9 121 9 4 := (Or.inl ⟨_, rfl, by decide, (Or.inl (zi_t1 (j := 227) rfl rfl))⟩)
theorem zF_67 : zi_gG 9 130 0 9 := (Or.inl ⟨_, rfl, by decide, (Or.inr ⟨_, (zi_n1 (j := 124) rfl rfl)⟩)⟩)
theorem zF_68 : zi_gG 10 9 10 0 := (Or.inl ⟨_, rfl, by decide, (Or.inl (zi_t2 (j := 48) rfl rfl))⟩)
theorem zF_69 : zi_gG 10 13 10 1 := (Or.inl ⟨_, rfl, by decide, (Or.inl (zi_t2 (j := 49) rfl rfl))⟩)
theorem zF_70 : zi_gG 10 16 10 2 := (Or.inl ⟨_, rfl, by decide, (Or.inl (zi_t2 (j := 50) rfl rfl))⟩)
theorem zF_71 : zi_gG 10 25 10 3 := (Or.inl ⟨_, rfl, by decide, (Or.inl (zi_t2 (j := 51) rfl rfl))⟩)
theorem zF_72 : zi_gG 10 29 10 4 := (Or.inl ⟨_, rfl, by decide, (Or.inl (zi_t2 (j := 52) rfl rfl))⟩)
theorem zF_73 : zi_gG 11 10 11 0 := (Or.inl ⟨_, rfl, by decide, (Or.inl (zi_t2 (j := 83) rfl rfl))⟩)
theorem zF_74 : zi_gG 11 19 11 1 := (Or.inl ⟨_, rfl, by decide, (Or.inl (zi_t2 (j := 84) rfl rfl))⟩)
theorem zF_75 : zi_gG 11 26 11 2 := (Or.inl ⟨_, rfl, by decide, (Or.inl (zi_t2 (j := 85) rfl rfl))⟩)
theorem zF_76 : zi_gG 11 33 11 3 := (Or.inl ⟨_, rfl, by decide, (Or.inl (zi_t2 (j := 86) rfl rfl))⟩)
theorem zF_77 : zi_gG 11 37 11 4 := (Or.inl ⟨_, rfl, by decide, (Or.inl (zi_t2 (j := 87) rfl rfl))⟩)
theorem zF_78 : zi_gG 11 40 11 5 := (Or.inl ⟨_, rfl, by decide, (Or.inl (zi_t2 (j := 88) rfl rfl))⟩)
theorem zF_79 : zi_gG 11 48 11 6 := (Or.inl ⟨_, rfl, by decide, (Or.inl (zi_t2 (j := 89) rfl rfl))⟩)
theorem zF_80 : zi_gG 11 57 11 7 := (Or.inl ⟨_, rfl, by decide, (Or.inl (zi_t2 (j := 90) rfl rfl))⟩)
theorem zF_81 : zi_gG 11 64 11 8 := (Or.inl ⟨_, rfl, by decide, (Or.inl (zi_t2 (j := 91) rfl rfl))⟩)
theorem zF_82 : zi_gG 11 71 11 9 := (Or.inl ⟨_, rfl, by decide, (Or.inl (zi_t2 (j := 92) rfl rfl))⟩)
theorem zF_83 : zi_gG 11 78 11 10 := (Or.inl ⟨_, rfl, by decide, (Or.inl (zi_t2 (j := 93) rfl rfl))⟩)
theorem zF_84 : zi_gG 11 85 11 11 := (Or.inl ⟨_, rfl, by decide, (Or.inl (zi_t2 (j := 94) rfl rfl))⟩)
theorem zF_85 : zi_gG 11 89 11 12 := (Or.inl ⟨_, rfl, by decide, (Or.inl (zi_t2 (j := 95) rfl rfl))⟩)
theorem zF_86 : zi_gG 11 93 11 13 := (Or.inl ⟨_, rfl, by decide, (Or.inl (zi_t2 (j := 96) rfl rfl))⟩)
theorem zF_87 : zi_gG 11 112 0 0 := (Or.inl ⟨_, rfl, by decide, (Or.inr ⟨_, (zi_n1 (j := 100) rfl rfl)⟩)⟩)
theorem zF_88 : zi_gG 11 131 0 1 := (Or.inl ⟨_, rfl, by decide, (Or.inr ⟨_, (zi_n1 (j := 104) rfl rfl)⟩)⟩)
theorem zF_89 : zi_gG 11 134 0 2 := (Or.inl ⟨_, rfl, by decide, (Or.inr ⟨_, (zi_n1 (j := 107) rfl rfl)⟩)⟩)
theorem zF_90 : zi_gG 11 144 0 3 := (Or.inl ⟨_, rfl, by decide, (Or.inr ⟨_, (zi_n1 (j := 110) rfl rfl)⟩)⟩)
theorem zF_91 : zi_gG 11 147 0 4 := (Or.inl ⟨_, rfl, by decide, (Or.inr ⟨_, (zi_n1 (j := 113) rfl rfl)⟩)⟩)
theorem zF_92 : zi_gG 11 150 0 5 := (Or.inl ⟨_, rfl, by decide, (Or.inr ⟨_, (zi_n1 (j := 115) rfl rfl)⟩)⟩)
theorem zF_93 : zi_gG 11 153 3 5 := (Or.inl ⟨_, rfl, by decide, (Or.inr ⟨_, (zi_n1 (j := 173) rfl rfl)⟩)⟩)
theorem zF_94 : zi_gG 11 159 3 4 := (Or.inl ⟨_, rfl, by decide, (Or.inr ⟨_, (zi_n1 (j := 169) rfl rfl)⟩)⟩)
theorem zF_95 : zi_gG 11 165 3 6 := (Or.inl ⟨_, rfl, by decide, (Or.inr ⟨_, (zi_n1 (j := 177) rfl rfl)⟩)⟩)
theorem zF_96 : zi_gG 11 168 0 6 := (Or.inl ⟨_, rfl, by decide, (Or.inr ⟨_, (zi_n1 (j := 118) rfl rfl)⟩)⟩)
theorem zF_97 : zi_gG 11 171 3 7 := (Or.inl ⟨_, rfl, by decide, (Or.inr ⟨_, (zi_n1 (j := 180) rfl rfl)⟩)⟩)
theorem zF_98 : zi_gG 11 178 3 1 := (Or.inl ⟨_, rfl, by decide, (Or.inr ⟨_, (zi_n1 (j := 161) rfl rfl)⟩)⟩)
theorem zF_99 : zi_gG 11 183 0 10 := (Or.inl ⟨_, rfl, by decide, (Or.inr ⟨_, (zi_n1 (j := 126) rfl rfl)⟩)⟩)
theorem zF_100 : zi_gG 11 206 11 14 := (Or.inl ⟨_, rfl, by decide, (Or.inl (zi_t2 (j := 97) rfl rfl))⟩)
theorem zF_101 : zi_gG 11 271 3 3 := (Or.inl ⟨_, rfl, by decide, (Or.inr ⟨_, (zi_n1 (j := 167) rfl rfl)⟩)⟩)
theorem zF_102 : zi_gG 11 277 3 2 := (Or.inl ⟨_, rfl, by decide, (Or.inr ⟨_, (zi_n1 (j := 164) rfl rfl)⟩)⟩)
theorem zF_103 : zi_gG 11 333 1 2 := (Or.inl ⟨_, rfl, by decide, (Or.inr ⟨_, (zi_n1 (j := 209) rfl rfl)⟩)⟩)
theorem zF_104 : zi_gG 11 345 9 4 := (Or.inl ⟨_, rfl, by decide, (Or.inr ⟨_, (zi_n1 (j := 228) rfl rfl)⟩)⟩)
theorem zF_105 : zi_gG 11 406 0 8 := (Or.inl ⟨_, rfl, by decide, (Or.inr ⟨_, (zi_n1 (j := 122) rfl rfl)⟩)⟩)
theorem zF_106 : zi_gG 11 418 0 9 := (Or.inl ⟨_, rfl, by decide, (Or.inr ⟨_, (zi_n1 (j := 125) rfl rfl)⟩)⟩)
theorem zF_107 : zi_gG 11 425 3 0 := (Or.inl ⟨_, rfl, by decide, (Or.inr ⟨_, (zi_n1 (j := 158) rfl rfl)⟩)⟩)
theorem zF_108 : zi_gG 12 9 12 2 := (Or.inl ⟨_, rfl, by decide, (Or.inl (zi_t6 (j := 21) rfl rfl))⟩)
theorem zF_109 : zi_gG 12 13 12 8 := (Or.inl ⟨_, rfl, by decide, (Or.inl (zi_t6 (j := 27) rfl rfl))⟩)
theorem zF_110 : zi_gG 12 17 12 9 := (Or.inl ⟨_, rfl, by decide, (Or.inl (zi_t6 (j := 28) rfl rfl))⟩)
theorem zF_111 : zi_gG 12 20 12 10 := (Or.inl ⟨_, rfl, by decide, (Or.inl (zi_t6 (j := 29) rfl rfl))⟩)
theorem zF_112 : zi_gG 12 23 12 11 := (Or.inl ⟨_, rfl, by decide, (Or.inl (zi_t6 (j := 30) rfl rfl))⟩)
theorem zF_113 : zi_gG 12 26 12 12 := (Or.inl ⟨_, rfl, by decide, (Or.inl (zi_t6 (j := 31) rfl rfl))⟩)
theorem zF_114 : zi_gG 12 29 12 13 := (Or.inl ⟨_, rfl, by decide, (Or.inl (zi_t6 (j := 32) rfl rfl))⟩)
theorem zF_115 : zi_gG 12 32 12 14 := (Or.inl ⟨_, rfl, by decide, (Or.inl (zi_t6 (j := 33) rfl rfl))⟩)
theorem zF_116 : zi_gG 12 35 12 15 := (Or.inl ⟨_, rfl, by decide, (Or.inl (zi_t6 (j := 34) rfl rfl))⟩)
theorem zF_117 : zi_gG 12 38 12 16 := (Or.inl ⟨_, rfl, by decide, (Or.inl (zi_t6 (j := 35) rfl rfl))⟩)
theorem zF_118 : zi_gG 12 41 12 21 := (Or.inl ⟨_, rfl, by decide, (Or.inl (zi_t6 (j := 40) rfl rfl))⟩)
theorem zF_119 : zi_gG 12 44 12 23 := (Or.inl ⟨_, rfl, by decide, (Or.inl (zi_t6 (j := 42) rfl rfl))⟩)
theorem zF_120 : zi_gG 12 47 12 24 := (Or.inl ⟨_, rfl, by decide, (Or.inl (zi_t6 (j := 43) rfl rfl))⟩)
theorem zF_121 : zi_gG 12 50 12 27 := (Or.inl ⟨_, rfl, by decide, (Or.inl (zi_t6 (j := 46) rfl rfl))⟩)
theorem zF_122 : zi_gG 12 53 12 28 := (Or.inl ⟨_, rfl, by decide, (Or.inl (zi_t6 (j := 47) rfl rfl))⟩)
theorem zF_123 : zi_gG 12 56 12 29 := (Or.inl ⟨_, rfl, by decide, (Or.inl (zi_t6 (j := 48) rfl rfl))⟩)
theorem zF_124 : zi_gG 12 59 12 30 := (Or.inl ⟨_, rfl, by decide, (Or.inl (zi_t6 (j := 49) rfl rfl))⟩)
theorem zF_125 : zi_gG 12 62 12 32 := (Or.inl ⟨_, rfl, by decide, (Or.inl (zi_t6 (j := 51) rfl rfl))⟩)
theorem zF_126 : zi_gG 12 65 12 33 := (Or.inl ⟨_, rfl, by decide, (Or.inl (zi_t6 (j := 52) rfl rfl))⟩)
theorem zF_127 : zi_gG 12 68 12 34 := (Or.inl ⟨_, rfl, by decide, (Or.inl (zi_t6 (j := 53) rfl rfl))⟩)
theorem zF_128 : zi_gG 12 71 12 35 := (Or.inl ⟨_, rfl, by decide, (Or.inl (zi_t6 (j := 54) rfl rfl))⟩)
theorem zF_129 : zi_gG 12 74 12 40 := (Or.inl ⟨_, rfl, by decide, (Or.inl (zi_t6 (j := 59) rfl rfl))⟩)
theorem zF_130 : zi_gG 12 77 12 41 := (Or.inl ⟨_, rfl, by decide, (Or.inl (zi_t6 (j := 60) rfl rfl))⟩)
theorem zF_131 : zi_gG 12 80 12 44 := (Or.inl ⟨_, rfl, by decide, (Or.inl (zi_t6 (j := 63) rfl rfl))⟩)
theorem zF_132 : zi_gG 12 83 12 46 := (Or.inl ⟨_, rfl, by decide, (Or.inl (zi_t6 (j := 65) rfl rfl))⟩)
theorem zF_133 : zi_gG 12 86 12 47 := (Or.inl ⟨_, rfl, by decide, (Or.inl (zi_t6 (j := 66) rfl rfl))⟩)
theorem zF_134 : zi_gG 12 89 12 50 := (Or.inl ⟨_, rfl, by decide, (Or.inl (zi_t6 (j := 69) rfl rfl))⟩)
theorem zF_135 : zi_gG 12 93 12 51 := (Or.inl ⟨_, rfl, by decide, (Or.inl (zi_t6 (j := 70) rfl rfl))⟩)
theorem zF_136 : zi_gG 12 96 12 52 := (Or.inl ⟨_, rfl, by decide, (Or.inl (zi_t6 (j := 71) rfl rfl))⟩)
theorem zF_137 : zi_gG 12 99 12 0 := (Or.inl ⟨_, rfl, by decide, (Or.inl (zi_t6 (j := 19) rfl rfl))⟩)
theorem zF_138 : zi_gG 12 107 12 1 := (Or.inl ⟨_, rfl, by decide, (Or.inl (zi_t6 (j := 20) rfl rfl))⟩)
theorem zF_139 : zi_gG 12 110 12 3 := (Or.inl ⟨_, rfl, by decide, (Or.inl (zi_t6 (j := 22) rfl rfl))⟩)
theorem zF_140 : zi_gG 12 117 12 4 := (Or.inl ⟨_, rfl, by decide, (Or.inl (zi_t6 (j := 23) rfl rfl))⟩)
theorem zF_141 : zi_gG 12 120 12 5 := (Or.inl ⟨_, rfl, by decide, (Or.inl (zi_t6 (j := 24) rfl rfl))⟩)
theorem zF_142 : zi_gG 12 130 12 17 := (Or.inl ⟨_, rfl, by decide, (Or.inl (zi_t6 (j := 36) rfl rfl))⟩)
theorem zF_143 : zi_gG 12 133 12 18 := (Or.inl ⟨_, rfl, by decide, (Or.inl (zi_t6 (j := 37) rfl rfl))⟩)
theorem zF_144 : zi_gG 12 136 12 20 := (Or.inl ⟨_, rfl, by decide, (Or.inl (zi_t6 (j := 39) rfl rfl))⟩)
theorem zF_145 : zi_gG 12 145 12 19 := (Or.inl ⟨_, rfl, by decide, (Or.inl (zi_t6 (j := 38) rfl rfl))⟩)
theorem zF_146 : zi_gG 12 174 12 22 := (Or.inl ⟨_, rfl, by decide, (Or.inl (zi_t6 (j := 41) rfl rfl))⟩)
theorem zF_147 : zi_gG 12 205 12 31 := (Or.inl ⟨_, rfl, by decide, (Or.inl (zi_t6 (j := 50) rfl rfl))⟩)
theorem zF_148 : zi_gG 12 208 12 7 := (Or.inl ⟨_, rfl, by decide, (Or.inl (zi_t6 (j := 26) rfl rfl))⟩)
theorem zF_149 : zi_gG 12 217 12 26 := (Or.inl ⟨_, rfl, by decide, (Or.inl (zi_t6 (j := 45) rfl rfl))⟩)
theorem zF_150 : zi_gG 12 241 12 25 := (Or.inl ⟨_, rfl, by decide, (Or.inl (zi_t6 (j := 44) rfl rfl))⟩)
theorem zF_151 : zi_gG 12 271 12 6 := (Or.inl ⟨_, rfl, by decide, (Or.inl (zi_t6 (j := 25) rfl rfl))⟩)
theorem zF_152 : zi_gG 12 354 12 36 := (Or.inl ⟨_, rfl, by decide, (Or.inl (zi_t6 (j := 55) rfl rfl))⟩)
theorem zF_153 : zi_gG 12 359 12 37 := (Or.inl ⟨_, rfl, by decide, (Or.inl (zi_t6 (j := 56) rfl rfl))⟩)
theorem zF_154 : zi_gG 12 389 12 38 := (Or.inl ⟨_, rfl, by decide, (Or.inl (zi_t6 (j := 57) rfl rfl))⟩)
theorem zF_155 : zi_gG 12 392 12 39 := (Or.inl ⟨_, rfl, by decide, (Or.inl (zi_t6 (j := 58) rfl rfl))⟩)
theorem zF_156 : zi_gG 12 407 12 42 := (Or.inl ⟨_, rfl, by decide, (Or.inl (zi_t6 (j := 61) rfl rfl))⟩)
theorem zF_157 : zi_gG 12 410 12 43 := (Or.inl ⟨_, rfl, by decide, (Or.inl (zi_t6 (j := 62) rfl rfl))⟩)
theorem zF_158 : zi_gG 12 432 12 45 := (Or.inl ⟨_, rfl, by decide, (Or.inl (zi_t6 (j := 64) rfl rfl))⟩)
theorem zF_159 : zi_gG 12 447 12 49 := (Or.inl ⟨_, rfl, by decide, (Or.inl (zi_t6 (j := 68) rfl rfl))⟩)
theorem zF_160 : zi_gG 12 453 12 48 := (Or.inl ⟨_, rfl, by decide, (Or.inl (zi_t6 (j := 67) rfl rfl))⟩)
theorem zF_161 : zi_gG 15 9 15 0 := (Or.inr ⟨rfl, Or.inl ⟨rfl, (zi_t8 (j := 211) rfl rfl)⟩⟩)
theorem zF_162 : zi_gG 15 15 15 1 := (Or.inr ⟨rfl, Or.inr ⟨rfl, (zi_t8 (j := 210) rfl rfl)⟩⟩)
set_option maxRecDepth 100000 in
theorem zi_FT_ok : ∀ q ∈ zi_FT, zi_gG q.1 q.2.1 q.2.2.1 q.2.2.2 := List.forall_mem_cons.mpr ⟨zF_0, List.forall_mem_cons.mpr ⟨zF_1, List.forall_mem_cons.mpr ⟨zF_2, List.forall_mem_cons.mpr ⟨zF_3, List.forall_mem_cons.mpr ⟨zF_4, List.forall_mem_cons.mpr ⟨zF_5, List.forall_mem_cons.mpr ⟨zF_6, List.forall_mem_cons.mpr ⟨zF_7, List.forall_mem_cons.mpr ⟨zF_8, List.forall_mem_cons.mpr ⟨zF_9, List.forall_mem_cons.mpr ⟨zF_10, List.forall_mem_cons.mpr ⟨zF_11, List.forall_mem_cons.mpr ⟨zF_12, List.forall_mem_cons.mpr ⟨zF_13, List.forall_mem_cons.mpr ⟨zF_14, List.forall_mem_cons.mpr ⟨zF_15, List.forall_mem_cons.mpr ⟨zF_16, List.forall_mem_cons.mpr ⟨zF_17, List.forall_mem_cons.mpr ⟨zF_18, List.forall_mem_cons.mpr ⟨zF_19, List.forall_mem_cons.mpr ⟨zF_20, List.forall_mem_cons.mpr ⟨zF_21, List.forall_mem_cons.mpr ⟨zF_22, List.forall_mem_cons.mpr ⟨zF_23, List.forall_mem_cons.mpr ⟨zF_24, List.forall_mem_cons.mpr ⟨zF_25, List.forall_mem_cons.mpr ⟨zF_26, List.forall_mem_cons.mpr ⟨zF_27, List.forall_mem_cons.mpr ⟨zF_28, List.forall_mem_cons.mpr ⟨zF_29, List.forall_mem_cons.mpr ⟨zF_30, List.forall_mem_cons.mpr ⟨zF_31, List.forall_mem_cons.mpr ⟨zF_32, List.forall_mem_cons.mpr ⟨zF_33, List.forall_mem_cons.mpr ⟨zF_34, List.forall_mem_cons.mpr ⟨zF_35, List.forall_mem_cons.mpr ⟨zF_36, List.forall_mem_cons.mpr ⟨zF_37, List.forall_mem_cons.mpr ⟨zF_38, List.forall_mem_cons.mpr ⟨zF_39, List.forall_mem_cons.mpr ⟨zF_40, List.forall_mem_cons.mpr ⟨zF_41, List.forall_mem_cons.mpr ⟨zF_42, List.forall_mem_cons.mpr ⟨zF_43, List.forall_mem_cons.mpr ⟨zF_44, List.forall_mem_cons.mpr ⟨zF_45, List.forall_mem_cons.mpr ⟨zF_46, List.forall_mem_cons.mpr ⟨zF_47, List.forall_mem_cons.mpr ⟨zF_48, List.forall_mem_cons.mpr ⟨zF_49, List.forall_mem_cons.mpr ⟨zF_50, List.forall_mem_cons.mpr ⟨zF_51, List.forall_mem_cons.mpr ⟨zF_52, List.forall_mem_cons.mpr ⟨zF_53, List.forall_mem_cons.mpr ⟨zF_54, List.forall_mem_cons.mpr ⟨zF_55, List.forall_mem_cons.mpr ⟨zF_56, List.forall_mem_cons.mpr ⟨zF_57, List.forall_mem_cons.mpr ⟨zF_58, List.forall_mem_cons.mpr ⟨zF_59, List.forall_mem_cons.mpr ⟨zF_60, List.forall_mem_cons.mpr ⟨zF_61, List.forall_mem_cons.mpr ⟨zF_62, List.forall_mem_cons.mpr ⟨zF_63, List.forall_mem_cons.mpr ⟨zF_64, List.forall_mem_cons.mpr ⟨zF_65, List.forall_mem_cons.mpr ⟨zF_66, List.forall_mem_cons.mpr ⟨zF_67, List.forall_mem_cons.mpr ⟨zF_68, List.forall_mem_cons.mpr ⟨zF_69, List.forall_mem_cons.mpr ⟨zF_70, List.forall_mem_cons.mpr ⟨zF_71, List.forall_mem_cons.mpr ⟨zF_72, List.forall_mem_cons.mpr ⟨zF_73, List.forall_mem_cons.mpr ⟨zF_74, List.forall_mem_cons.mpr ⟨zF_75, List.forall_mem_cons.mpr ⟨zF_76, List.forall_mem_cons.mpr ⟨zF_77, List.forall_mem_cons.mpr ⟨zF_78, List.forall_mem_cons.mpr ⟨zF_79, List.forall_mem_cons.mpr ⟨zF_80, List.forall_mem_cons.mpr ⟨zF_81, List.forall_mem_cons.mpr ⟨zF_82, List.forall_mem_cons.mpr ⟨zF_83, List.forall_mem_cons.mpr ⟨zF_84, List.forall_mem_cons.mpr ⟨zF_85, List.forall_mem_cons.mpr ⟨zF_86, List.forall_mem_cons.mpr ⟨zF_87, List.forall_mem_cons.mpr ⟨zF_88, List.forall_mem_cons.mpr ⟨zF_89, List.forall_mem_cons.mpr ⟨zF_90, List.forall_mem_cons.mpr ⟨zF_91, List.forall_mem_cons.mpr ⟨zF_92, List.forall_mem_cons.mpr ⟨zF_93, List.forall_mem_cons.mpr ⟨zF_94, List.forall_mem_cons.mpr ⟨zF_95, List.forall_mem_cons.mpr ⟨zF_96, List.forall_mem_cons.mpr ⟨zF_97, List.forall_mem_cons.mpr ⟨zF_98, List.forall_mem_cons.mpr ⟨zF_99, List.forall_mem_cons.mpr ⟨zF_100, List.forall_mem_cons.mpr ⟨zF_101, List.forall_mem_cons.mpr ⟨zF_102, List.forall_mem_cons.mpr ⟨zF_103, List.forall_mem_cons.mpr ⟨zF_104, List.forall_mem_cons.mpr ⟨zF_105, List.forall_mem_cons.mpr ⟨zF_106, List.forall_mem_cons.mpr ⟨zF_107, List.forall_mem_cons.mpr ⟨zF_108, List.forall_mem_cons.mpr ⟨zF_109, List.forall_mem_cons.mpr ⟨zF_110, List.forall_mem_cons.mpr ⟨zF_111, List.forall_mem_cons.mpr ⟨zF_112, List.forall_mem_cons.mpr ⟨zF_113, List.forall_mem_cons.mpr ⟨zF_114, List.forall_mem_cons.mpr ⟨zF_115, List.forall_mem_cons.mpr ⟨zF_116, List.forall_mem_cons.mpr ⟨zF_117, List.forall_mem_cons.mpr ⟨zF_118, List.forall_mem_cons.mpr ⟨zF_119, List.forall_mem_cons.mpr ⟨zF_120, List.forall_mem_cons.mpr ⟨zF_121, List.forall_mem_cons.mpr ⟨zF_122, List.forall_mem_cons.mpr ⟨zF_123, List.forall_mem_cons.mpr ⟨zF_124, List.forall_mem_cons.mpr ⟨zF_125, List.forall_mem_cons.mpr ⟨zF_126, List.forall_mem_cons.mpr ⟨zF_127, List.forall_mem_cons.mpr ⟨zF_128, List.forall_mem_cons.mpr ⟨zF_129, List.forall_mem_cons.mpr ⟨zF_130, List.forall_mem_cons.mpr ⟨zF_131, List.forall_mem_cons.mpr ⟨zF_132, List.forall_mem_cons.mpr ⟨zF_133, List.forall_mem_cons.mpr ⟨zF_134, List.forall_mem_cons.mpr ⟨zF_135, List.forall_mem_cons.mpr ⟨zF_136, List.forall_mem_cons.mpr ⟨zF_137, List.forall_mem_cons.mpr ⟨zF_138, List.forall_mem_cons.mpr ⟨zF_139, List.forall_mem_cons.mpr ⟨zF_140, List.forall_mem_cons.mpr ⟨zF_141, List.forall_mem_cons.mpr ⟨zF_142, List.forall_mem_cons.mpr ⟨zF_143, List.forall_mem_cons.mpr ⟨zF_144, List.forall_mem_cons.mpr ⟨zF_145, List.forall_mem_cons.mpr ⟨zF_146, List.forall_mem_cons.mpr ⟨zF_147, List.forall_mem_cons.mpr ⟨zF_148, List.forall_mem_cons.mpr ⟨zF_149, List.forall_mem_cons.mpr ⟨zF_150, List.forall_mem_cons.mpr ⟨zF_151, List.forall_mem_cons.mpr ⟨zF_152, List.forall_mem_cons.mpr ⟨zF_153, List.forall_mem_cons.mpr ⟨zF_154, List.forall_mem_cons.mpr ⟨zF_155, List.forall_mem_cons.mpr ⟨zF_156, List.forall_mem_cons.mpr ⟨zF_157, List.forall_mem_cons.mpr ⟨zF_158, List.forall_mem_cons.mpr ⟨zF_159, List.forall_mem_cons.mpr ⟨zF_160, List.forall_mem_cons.mpr ⟨zF_161, List.forall_mem_cons.mpr ⟨zF_162, fun _ h => absurd h List.not_mem_nil⟩⟩⟩⟩⟩⟩⟩⟩⟩⟩⟩⟩⟩⟩⟩⟩⟩⟩⟩⟩⟩⟩⟩⟩⟩⟩⟩⟩⟩⟩⟩⟩⟩⟩⟩⟩⟩⟩⟩⟩⟩⟩⟩⟩⟩⟩⟩⟩⟩⟩⟩⟩⟩⟩⟩⟩⟩⟩⟩⟩⟩⟩⟩⟩⟩⟩⟩⟩⟩⟩⟩⟩⟩⟩⟩⟩⟩⟩⟩⟩⟩⟩⟩⟩⟩⟩⟩⟩⟩⟩⟩⟩⟩⟩⟩⟩⟩⟩⟩⟩⟩⟩⟩⟩⟩⟩⟩⟩⟩⟩⟩⟩⟩⟩⟩⟩⟩⟩⟩⟩⟩⟩⟩⟩⟩⟩⟩⟩⟩⟩⟩⟩⟩⟩⟩⟩⟩⟩⟩⟩⟩⟩⟩⟩⟩⟩⟩⟩⟩⟩⟩⟩⟩⟩⟩⟩⟩⟩⟩⟩⟩⟩⟩
theorem zG_0 : Cond.fieldLink (zi_cn 15) 38 "java/lang/String" "COMPACT_STRINGS" "Z" ∈ zi_tb := (zi_t3 (j := 53) rfl rfl)
set_option maxRecDepth 100000 in
theorem zi_GT_ok : ∀ q ∈ zi_GT, Cond.fieldLink (zi_cn q.1) q.2 "java/lang/String" "COMPACT_STRINGS" "Z" ∈ zi_tb := List.forall_mem_cons.mpr ⟨zG_0, fun _ h => absurd h List.not_mem_nil⟩
theorem zPN_0 : ∀ nm, zi_gP nm 0 37 0 7 := fun _ => ⟨_, rfl, by decide, Or.inr ⟨rfl, (Or.inl (zi_t1 (j := 119) rfl rfl))⟩⟩
theorem zPN_1 : ∀ nm, zi_gP nm 0 41 0 8 := fun _ => ⟨_, rfl, by decide, Or.inr ⟨rfl, (Or.inl (zi_t1 (j := 120) rfl rfl))⟩⟩
theorem zPN_2 : ∀ nm, zi_gP nm 0 44 0 9 := fun _ => ⟨_, rfl, by decide, Or.inr ⟨rfl, (Or.inl (zi_t1 (j := 123) rfl rfl))⟩⟩
theorem zPN_3 : ∀ nm, zi_gP nm 3 9 3 1 := fun _ => ⟨_, rfl, by decide, Or.inr ⟨rfl, (Or.inl (zi_t1 (j := 159) rfl rfl))⟩⟩
theorem zPN_4 : ∀ nm, zi_gP nm 3 31 3 0 := fun _ => ⟨_, rfl, by decide, Or.inr ⟨rfl, (Or.inl (zi_t1 (j := 157) rfl rfl))⟩⟩
theorem zPN_5 : ∀ nm, zi_gP nm 3 34 3 2 := fun _ => ⟨_, rfl, by decide, Or.inr ⟨rfl, (Or.inl (zi_t1 (j := 162) rfl rfl))⟩⟩
theorem zPN_6 : ∀ nm, zi_gP nm 4 19 4 4 := fun _ => ⟨_, rfl, by decide, Or.inr ⟨rfl, (Or.inl (zi_t2 (j := 27) rfl rfl))⟩⟩
theorem zPN_7 : ∀ nm, zi_gP nm 4 23 4 2 := fun _ => ⟨_, rfl, by decide, Or.inr ⟨rfl, (Or.inl (zi_t2 (j := 25) rfl rfl))⟩⟩
theorem zPN_8 : ∀ nm, zi_gP nm 4 26 4 3 := fun _ => ⟨_, rfl, by decide, Or.inr ⟨rfl, (Or.inl (zi_t2 (j := 26) rfl rfl))⟩⟩
theorem zPN_9 : ∀ nm, zi_gP nm 4 66 4 5 := fun _ => ⟨_, rfl, by decide, Or.inr ⟨rfl, (Or.inl (zi_t2 (j := 28) rfl rfl))⟩⟩
theorem zPN_10 : ∀ nm, zi_gP nm 5 13 5 1 := fun _ => ⟨_, rfl, by decide, Or.inr ⟨rfl, (Or.inl (zi_t1 (j := 61) rfl rfl))⟩⟩
theorem zPN_11 : ∀ nm, zi_gP nm 6 16 6 2 := fun _ => ⟨_, rfl, by decide, Or.inr ⟨rfl, (Or.inl (zi_t2 (j := 75) rfl rfl))⟩⟩
theorem zPN_12 : ∀ nm, zi_gP nm 6 20 6 1 := fun _ => ⟨_, rfl, by decide, Or.inr ⟨rfl, (Or.inl (zi_t2 (j := 74) rfl rfl))⟩⟩
theorem zPN_13 : ∀ nm, zi_gP nm 7 30 7 5 := fun _ => ⟨_, rfl, by decide, Or.inr ⟨rfl, (Or.inl (zi_t1 (j := 85) rfl rfl))⟩⟩
theorem zPN_14 : ∀ nm, zi_gP nm 7 52 7 4 := fun _ => ⟨_, rfl, by decide, Or.inr ⟨rfl, (Or.inl (zi_t1 (j := 84) rfl rfl))⟩⟩
theorem zPN_15 : ∀ nm, zi_gP nm 8 13 8 1 := fun _ => ⟨_, rfl, by decide, Or.inr ⟨rfl, (Or.inl (zi_t1 (j := 41) rfl rfl))⟩⟩
theorem zPN_16 : ∀ nm, zi_gP nm 8 17 8 2 := fun _ => ⟨_, rfl, by decide, Or.inr ⟨rfl, (Or.inl (zi_t1 (j := 42) rfl rfl))⟩⟩
theorem zPN_17 : ∀ nm, zi_gP nm 8 26 8 3 := fun _ => ⟨_, rfl, by decide, Or.inr ⟨rfl, (Or.inl (zi_t1 (j := 43) rfl rfl))⟩⟩
theorem zPN_18 : ∀ nm, zi_gP nm 9 57 3 1 := fun _ => ⟨_, rfl, by decide, Or.inr ⟨rfl, (Or.inr ⟨_, (zi_n1 (j := 160) rfl rfl)⟩)⟩⟩
theorem zPN_19 : ∀ nm, zi_gP nm 9 79 3 2 := fun _ => ⟨_, rfl, by decide, Or.inr ⟨rfl, (Or.inr ⟨_, (zi_n1 (j := 163) rfl rfl)⟩)⟩⟩
theorem zPN_20 : ∀ nm, zi_gP nm 9 121 9 4 := fun _ => ⟨_, rfl, by decide, Or.inr ⟨rfl, (Or.inl (zi_t1 (j := 227) rfl rfl))⟩⟩
theorem zPN_21 : ∀ nm, zi_gP nm 10 25 10 3 := fun _ => ⟨_, rfl, by decide, Or.inr ⟨rfl, (Or.inl (zi_t2 (j := 51) rfl rfl))⟩⟩
theorem zPN_22 : ∀ nm, zi_gP nm 10 29 10 4 := fun _ => ⟨_, rfl, by decide, Or.inr ⟨rfl, (Or.inl (zi_t2 (j := 52) rfl rfl))⟩⟩
theorem zPN_23 : ∀ nm, zi_gP nm 11 178 3 1 := fun _ => ⟨_, rfl, by decide, Or.inr ⟨rfl, (Or.inr ⟨_, (zi_n1 (j := 161) rfl rfl)⟩)⟩⟩
theorem zPN_24 : ∀ nm, zi_gP nm 11 183 0 10 := fun _ => ⟨_, rfl, by decide, Or.inr ⟨rfl, (Or.inr ⟨_, (zi_n1 (j := 126) rfl rfl)⟩)⟩⟩
theorem zPN_25 : ∀ nm, zi_gP nm 11 206 11 14 := fun _ => ⟨_, rfl, by decide, Or.inr ⟨rfl, (Or.inl (zi_t2 (j := 97) rfl rfl))⟩⟩
theorem zPN_26 : ∀ nm, zi_gP nm 12 99 12 0 := fun _ => ⟨_, rfl, by decide, Or.inr ⟨rfl, (Or.inl (zi_t6 (j := 19) rfl rfl))⟩⟩
theorem zPN_27 : ∀ nm, zi_gP nm 12 107 12 1 := fun _ => ⟨_, rfl, by decide, Or.inr ⟨rfl, (Or.inl (zi_t6 (j := 20) rfl rfl))⟩⟩
theorem zPN_28 : ∀ nm, zi_gP nm 12 110 12 3 := fun _ => ⟨_, rfl, by decide, Or.inr ⟨rfl, (Or.inl (zi_t6 (j := 22) rfl rfl))⟩⟩
theorem zPN_29 : ∀ nm, zi_gP nm 12 117 12 4 := fun _ => ⟨_, rfl, by decide, Or.inr ⟨rfl, (Or.inl (zi_t6 (j := 23) rfl rfl))⟩⟩
theorem zPN_30 : ∀ nm, zi_gP nm 12 120 12 5 := fun _ => ⟨_, rfl, by decide, Or.inr ⟨rfl, (Or.inl (zi_t6 (j := 24) rfl rfl))⟩⟩
theorem zPN_31 : ∀ nm, zi_gP nm 12 130 12 17 := fun _ => ⟨_, rfl, by decide, Or.inr ⟨rfl, (Or.inl (zi_t6 (j := 36) rfl rfl))⟩⟩
theorem zPN_32 : ∀ nm, zi_gP nm 12 133 12 18 := fun _ => ⟨_, rfl, by decide, Or.inr ⟨rfl, (Or.inl (zi_t6 (j := 37) rfl rfl))⟩⟩
theorem zPN_33 : ∀ nm, zi_gP nm 12 136 12 20 := fun _ => ⟨_, rfl, by decide, Or.inr ⟨rfl, (Or.inl (zi_t6 (j := 39) rfl rfl))⟩⟩
theorem zPN_34 : ∀ nm, zi_gP nm 12 145 12 19 := fun _ => ⟨_, rfl, by decide, Or.inr ⟨rfl, (Or.inl (zi_t6 (j := 38) rfl rfl))⟩⟩
theorem zPN_35 : ∀ nm, zi_gP nm 12 174 12 22 := fun _ => ⟨_, rfl, by decide, Or.inr ⟨rfl, (Or.inl (zi_t6 (j := 41) rfl rfl))⟩⟩
theorem zPN_36 : ∀ nm, zi_gP nm 12 205 12 31 := fun _ => ⟨_, rfl, by decide, Or.inr ⟨rfl, (Or.inl (zi_t6 (j := 50) rfl rfl))⟩⟩
theorem zPN_37 : ∀ nm, zi_gP nm 12 208 12 7 := fun _ => ⟨_, rfl, by decide, Or.inr ⟨rfl, (Or.inl (zi_t6 (j := 26) rfl rfl))⟩⟩
theorem zPN_38 : ∀ nm, zi_gP nm 12 217 12 26 := fun _ => ⟨_, rfl, by decide, Or.inr ⟨rfl, (Or.inl (zi_t6 (j := 45) rfl rfl))⟩⟩
theorem zPN_39 : ∀ nm, zi_gP nm 12 241 12 25 := fun _ => ⟨_, rfl, by decide, Or.inr ⟨rfl, (Or.inl (zi_t6 (j := 44) rfl rfl))⟩⟩
theorem zPN_40 : ∀ nm, zi_gP nm 12 271 12 6 := fun _ => ⟨_, rfl, by decide, Or.inr ⟨rfl, (Or.inl (zi_t6 (j := 25) rfl rfl))⟩⟩
theorem zPN_41 : ∀ nm, zi_gP nm 12 354 12 36 := fun _ => ⟨_, rfl, by decide, Or.inr ⟨rfl, (Or.inl (zi_t6 (j := 55) rfl rfl))⟩⟩
theorem zPN_42 : ∀ nm, zi_gP nm 12 359 12 37 := fun _ => ⟨_, rfl, by decide, Or.inr ⟨rfl, (Or.inl (zi_t6 (j := 56) rfl rfl))⟩⟩
theorem zPN_43 : ∀ nm, zi_gP nm 12 389 12 38 := fun _ => ⟨_, rfl, by decide, Or.inr ⟨rfl, (Or.inl (zi_t6 (j := 57) rfl rfl))⟩⟩
theorem zPN_44 : ∀ nm, zi_gP nm 12 392 12 39 := fun _ => ⟨_, rfl, by decide, Or.inr ⟨rfl, (Or.inl (zi_t6 (j := 58) rfl rfl))⟩⟩
theorem zPN_45 : ∀ nm, zi_gP nm 12 407 12 42 := fun _ => ⟨_, rfl, by decide, Or.inr ⟨rfl, (Or.inl (zi_t6 (j := 61) rfl rfl))⟩⟩
theorem zPN_46 : ∀ nm, zi_gP nm 12 410 12 43 := fun _ => ⟨_, rfl, by decide, Or.inr ⟨rfl, (Or.inl (zi_t6 (j := 62) rfl rfl))⟩⟩
theorem zPN_47 : ∀ nm, zi_gP nm 12 432 12 45 := fun _ => ⟨_, rfl, by decide, Or.inr ⟨rfl, (Or.inl (zi_t6 (j := 64) rfl rfl))⟩⟩
theorem zPN_48 : ∀ nm, zi_gP nm 12 447 12 49 := fun _ => ⟨_, rfl, by decide, Or.inr ⟨rfl, (Or.inl (zi_t6 (j := 68) rfl rfl))⟩⟩
theorem zPN_49 : ∀ nm, zi_gP nm 12 453 12 48 := fun _ => ⟨_, rfl, by decide, Or.inr ⟨rfl, (Or.inl (zi_t6 (j := 67) rfl rfl))⟩⟩
set_option maxRecDepth 100000 in
theorem zi_PN_ok : ∀ q ∈ zi_PN, ∀ nm, zi_gP nm q.1 q.2.1 q.2.2.1 q.2.2.2 := List.forall_mem_cons.mpr ⟨zPN_0, List.forall_mem_cons.mpr ⟨zPN_1, List.forall_mem_cons.mpr ⟨zPN_2, List.forall_mem_cons.mpr ⟨zPN_3, List.forall_mem_cons.mpr ⟨zPN_4, List.forall_mem_cons.mpr ⟨zPN_5, List.forall_mem_cons.mpr ⟨zPN_6, List.forall_mem_cons.mpr ⟨zPN_7, List.forall_mem_cons.mpr ⟨zPN_8, List.forall_mem_cons.mpr ⟨zPN_9, List.forall_mem_cons.mpr ⟨zPN_10, List.forall_mem_cons.mpr ⟨zPN_11, List.forall_mem_cons.mpr ⟨zPN_12, List.forall_mem_cons.mpr ⟨zPN_13, List.forall_mem_cons.mpr ⟨zPN_14, List.forall_mem_cons.mpr ⟨zPN_15, List.forall_mem_cons.mpr ⟨zPN_16, List.forall_mem_cons.mpr ⟨zPN_17, List.forall_mem_cons.mpr ⟨zPN_18, List.forall_mem_cons.mpr ⟨zPN_19, List.forall_mem_cons.mpr ⟨zPN_20, List.forall_mem_cons.mpr ⟨zPN_21, List.forall_mem_cons.mpr ⟨zPN_22, List.forall_mem_cons.mpr ⟨zPN_23, List.forall_mem_cons.mpr ⟨zPN_24, List.forall_mem_cons.mpr ⟨zPN_25, List.forall_mem_cons.mpr ⟨zPN_26, List.forall_mem_cons.mpr ⟨zPN_27, List.forall_mem_cons.mpr ⟨zPN_28, List.forall_mem_cons.mpr ⟨zPN_29, List.forall_mem_cons.mpr ⟨zPN_30, List.forall_mem_cons.mpr ⟨zPN_31, List.forall_mem_cons.mpr ⟨zPN_32, List.forall_mem_cons.mpr ⟨zPN_33, List.forall_mem_cons.mpr ⟨zPN_34, List.forall_mem_cons.mpr ⟨zPN_35, List.forall_mem_cons.mpr ⟨zPN_36, List.forall_mem_cons.mpr ⟨zPN_37, List.forall_mem_cons.mpr ⟨zPN_38, List.forall_mem_cons.mpr ⟨zPN_39, List.forall_mem_cons.mpr ⟨zPN_40, List.forall_mem_cons.mpr ⟨zPN_41, List.forall_mem_cons.mpr ⟨zPN_42, List.forall_mem_cons.mpr ⟨zPN_43, List.forall_mem_cons.mpr ⟨zPN_44, List.forall_mem_cons.mpr ⟨zPN_45, List.forall_mem_cons.mpr ⟨zPN_46, List.forall_mem_cons.mpr ⟨zPN_47, List.forall_mem_cons.mpr ⟨zPN_48, List.forall_mem_cons.mpr ⟨zPN_49, fun _ h => absurd h List.not_mem_nil⟩⟩⟩⟩⟩⟩⟩⟩⟩⟩⟩⟩⟩⟩⟩⟩⟩⟩⟩⟩⟩⟩⟩⟩⟩⟩⟩⟩⟩⟩⟩⟩⟩⟩⟩⟩⟩⟩⟩⟩⟩⟩⟩⟩⟩⟩⟩⟩⟩⟩
theorem zPF_0 : zi_gP "<init>" 0 12 0 0 := ⟨_, rfl, by decide, Or.inl ⟨rfl, rfl, rfl, (zi_t1 (j := 99) rfl rfl)⟩⟩
theorem zPF_1 : zi_gP "<init>" 0 18 0 1 := ⟨_, rfl, by decide, Or.inl ⟨rfl, rfl, rfl, (zi_t1 (j := 102) rfl rfl)⟩⟩
theorem zPF_2 : zi_gP "<init>" 0 22 0 2 := ⟨_, rfl, by decide, Or.inl ⟨rfl, rfl, rfl, (zi_t1 (j := 105) rfl rfl)⟩⟩
theorem zPF_3 : zi_gP "<init>" 0 25 0 3 := ⟨_, rfl, by decide, Or.inl ⟨rfl, rfl, rfl, (zi_t1 (j := 108) rfl rfl)⟩⟩
theorem zPF_4 : zi_gP "<init>" 0 28 0 4 := ⟨_, rfl, by decide, Or.inl ⟨rfl, rfl, rfl, (zi_t1 (j := 111) rfl rfl)⟩⟩
theorem zPF_5 : zi_gP "<init>" 0 31 0 5 := ⟨_, rfl, by decide, Or.inl ⟨rfl, rfl, rfl, (zi_t1 (j := 114) rfl rfl)⟩⟩
theorem zPF_6 : zi_gP "<init>" 0 34 0 6 := ⟨_, rfl, by decide, Or.inl ⟨rfl, rfl, rfl, (zi_t1 (j := 116) rfl rfl)⟩⟩
theorem zPF_7 : zi_gP "<init>" 1 9 1 1 := ⟨_, rfl, by decide, Or.inl ⟨rfl, rfl, rfl, (zi_t1 (j := 206) rfl rfl)⟩⟩
theorem zPF_8 : zi_gP "<init>" 1 15 1 2 := ⟨_, rfl, by decide, Or.inl ⟨rfl, rfl, rfl, (zi_t1 (j := 207) rfl rfl)⟩⟩
theorem zPF_9 : zi_gP "<init>" 1 18 1 0 := ⟨_, rfl, by decide, Or.inl ⟨rfl, rfl, rfl, (zi_t1 (j := 205) rfl rfl)⟩⟩
theorem zPF_10 : zi_gP "<init>" 2 11 2 2 := ⟨_, rfl, by decide, Or.inl ⟨rfl, rfl, rfl, (zi_t2 (j := 8) rfl rfl)⟩⟩
theorem zPF_11 : zi_gP "<init>" 2 15 2 0 := ⟨_, rfl, by decide, Or.inl ⟨rfl, rfl, rfl, (zi_t2 (j := 6) rfl rfl)⟩⟩
theorem zPF_12 : zi_gP "<init>" 2 19 2 1 := ⟨_, rfl, by decide, Or.inl ⟨rfl, rfl, rfl, (zi_t2 (j := 7) rfl rfl)⟩⟩
theorem zPF_13 : zi_gP "<init>" 3 15 3 3 := ⟨_, rfl, by decide, Or.inl ⟨rfl, rfl, rfl, (zi_t1 (j := 165) rfl rfl)⟩⟩
theorem zPF_14 : zi_gP "<init>" 3 19 3 4 := ⟨_, rfl, by decide, Or.inl ⟨rfl, rfl, rfl, (zi_t1 (j := 168) rfl rfl)⟩⟩
theorem zPF_15 : zi_gP "<init>" 3 22 3 5 := ⟨_, rfl, by decide, Or.inl ⟨rfl, rfl, rfl, (zi_t1 (j := 171) rfl rfl)⟩⟩
theorem zPF_16 : zi_gP "<init>" 3 25 3 6 := ⟨_, rfl, by decide, Or.inl ⟨rfl, rfl, rfl, (zi_t1 (j := 175) rfl rfl)⟩⟩
theorem zPF_17 : zi_gP "<init>" 3 28 3 7 := ⟨_, rfl, by decide, Or.inl ⟨rfl, rfl, rfl, (zi_t1 (j := 179) rfl rfl)⟩⟩
theorem zPF_18 : zi_gP "<init>" 4 9 4 1 := ⟨_, rfl, by decide, Or.inl ⟨rfl, rfl, rfl, (zi_t2 (j := 24) rfl rfl)⟩⟩
theorem zPF_19 : zi_gP "<init>" 4 15 4 0 := ⟨_, rfl, by decide, Or.inl ⟨rfl, rfl, rfl, (zi_t2 (j := 23) rfl rfl)⟩⟩
theorem zPF_20 : zi_gP "<init>" 5 7 5 0 := ⟨_, rfl, by decide, Or.inl ⟨rfl, rfl, rfl, (zi_t1 (j := 60) rfl rfl)⟩⟩
theorem zPF_21 : zi_gP "<init>" 6 11 6 0 := ⟨_, rfl, by decide, Or.inl ⟨rfl, rfl, rfl, (zi_t2 (j := 73) rfl rfl)⟩⟩
theorem zPF_22 : zi_gP "<init>" 7 11 7 0 := ⟨_, rfl, by decide, Or.inl ⟨rfl, rfl, rfl, (zi_t1 (j := 80) rfl rfl)⟩⟩
theorem zPF_23 : zi_gP "<init>" 7 15 7 1 := ⟨_, rfl, by decide, Or.inl ⟨rfl, rfl, rfl, (zi_t1 (j := 81) rfl rfl)⟩⟩
theorem zPF_24 : zi_gP "<init>" 7 18 7 2 := ⟨_, rfl, by decide, Or.inl ⟨rfl, rfl, rfl, (zi_t1 (j := 82) rfl rfl)⟩⟩
theorem zPF_25 : zi_gP "<init>" 7 21 7 3 := ⟨_, rfl, by decide, Or.inl ⟨rfl, rfl, rfl, (zi_t1 (j := 83) rfl rfl)⟩⟩
theorem zPF_26 : zi_gP "<init>" 8 9 8 0 := ⟨_, rfl, by decide, Or.inl ⟨rfl, rfl, rfl, (zi_t1 (j := 40) rfl rfl)⟩⟩
theorem zPF_27 : zi_gP "<init>" 9 9 9 2 := ⟨_, rfl, by decide, Or.inl ⟨rfl, rfl, rfl, (zi_t1 (j := 225) rfl rfl)⟩⟩
theorem zPF_28 : zi_gP "<init>" 9 15 9 3 := ⟨_, rfl, by decide, Or.inl ⟨rfl, rfl, rfl, (zi_t1 (j := 226) rfl rfl)⟩⟩
theorem zPF_29 : zi_gP "<init>" 9 18 9 0 := ⟨_, rfl, by decide, Or.inl ⟨rfl, rfl, rfl, (zi_t1 (j := 223) rfl rfl)⟩⟩
theorem zPF_30 : zi_gP "<init>" 9 22 9 1 := ⟨_, rfl, by decide, Or.inl ⟨rfl, rfl, rfl, (zi_t1 (j := 224) rfl rfl)⟩⟩
theorem zPF_31 : zi_gP "<init>" 10 9 10 0 := ⟨_, rfl, by decide, Or.inl ⟨rfl, rfl, rfl, (zi_t2 (j := 48) rfl rfl)⟩⟩
theorem zPF_32 : zi_gP "<init>" 10 13 10 1 := ⟨_, rfl, by decide, Or.inl ⟨rfl, rfl, rfl, (zi_t2 (j := 49) rfl rfl)⟩⟩
theorem zPF_33 : zi_gP "<init>" 10 16 10 2 := ⟨_, rfl, by decide, Or.inl ⟨rfl, rfl, rfl, (zi_t2 (j := 50) rfl rfl)⟩⟩
theorem zPF_34 : zi_gP "<init>" 11 10 11 0 := ⟨_, rfl, by decide, Or.inl ⟨rfl, rfl, rfl, (zi_t2 (j := 83) rfl rfl)⟩⟩
theorem zPF_35 : zi_gP "<init>" 11 19 11 1 := ⟨_, rfl, by decide, Or.inl ⟨rfl, rfl, rfl, (zi_t2 (j := 84) rfl rfl)⟩⟩
theorem zPF_36 : zi_gP "<init>" 11 26 11 2 := ⟨_, rfl, by decide, Or.inl ⟨rfl, rfl, rfl, (zi_t2 (j := 85) rfl rfl)⟩⟩
theorem zPF_37 : zi_gP "<init>" 11 33 11 3 := ⟨_, rfl, by decide, Or.inl ⟨rfl, rfl, rfl, (zi_t2 (j := 86) rfl rfl)⟩⟩
theorem zPF_38 : zi_gP "<init>" 11 37 11 4 := ⟨_, rfl, by decide, Or.inl ⟨rfl, rfl, rfl, (zi_t2 (j := 87) rfl rfl)⟩⟩
theorem zPF_39 : zi_gP "<init>" 11 40 11 5 := ⟨_, rfl, by decide, Or.inl ⟨rfl, rfl, rfl, (zi_t2 (j := 88) rfl rfl)⟩⟩
theorem zPF_40 : zi_gP "<init>" 11 48 11 6 := ⟨_, rfl, by decide, Or.inl ⟨rfl, rfl, rfl, (zi_t2 (j := 89) rfl rfl)⟩⟩
theorem zPF_41 : zi_gP "<init>" 11 57 11 7 := ⟨_, rfl, by decide, Or.inl ⟨rfl, rfl, rfl, (zi_t2 (j := 90) rfl rfl)⟩⟩
theorem zPF_42 : zi_gP "<init>" 11 64 11 8 := ⟨_, rfl, by decide, Or.inl ⟨rfl, rfl, rfl, (zi_t2 (j := 91) rfl rfl)⟩⟩
theorem zPF_43 : zi_gP "<init>" 11 71 11 9 := ⟨_, rfl, by decide, Or.inl ⟨rfl, rfl, rfl, (zi_t2 (j := 92) rfl rfl)⟩⟩
theorem zPF_44 : zi_gP "<init>" 11 78 11 10 := ⟨_, rfl, by decide, Or.inl ⟨rfl, rfl, rfl, (zi_t2 (j := 93) rfl rfl)⟩⟩
theorem zPF_45 : zi_gP "<init>" 11 85 11 11 := ⟨_, rfl, by decide, Or.inl ⟨rfl, rfl, rfl, (zi_t2 (j := 94) rfl rfl)⟩⟩
theorem zPF_46 : zi_gP "<init>" 11 89 11 12 := ⟨_, rfl, by decide, Or.inl ⟨rfl, rfl, rfl, (zi_t2 (j := 95) rfl rfl)⟩⟩
theorem zPF_47 : zi_gP "<init>" 11 93 11 13 := ⟨_, rfl, by decide, Or.inl ⟨rfl, rfl, rfl, (zi_t2 (j := 96) rfl rfl)⟩⟩
theorem zPF_48 : zi_gP "<init>" 12 9 12 2 := ⟨_, rfl, by decide, Or.inl ⟨rfl, rfl, rfl, (zi_t6 (j := 21) rfl rfl)⟩⟩
theorem zPF_49 : zi_gP "<init>" 12 13 12 8 := ⟨_, rfl, by decide, Or.inl ⟨rfl, rfl, rfl, (zi_t6 (j := 27) rfl rfl)⟩⟩
theorem zPF_50 : zi_gP "<init>" 12 17 12 9 := ⟨_, rfl, by decide, Or.inl ⟨rfl, rfl, rfl, (zi_t6 (j := 28) rfl rfl)⟩⟩
theorem zPF_51 : zi_gP "<init>" 12 20 12 10 := ⟨_, rfl, by decide, Or.inl ⟨rfl, rfl, rfl, (zi_t6 (j := 29) rfl rfl)⟩⟩
theorem zPF_52 : zi_gP "<init>" 12 23 12 11 := ⟨_, rfl, by decide, Or.inl ⟨rfl, rfl, rfl, (zi_t6 (j := 30) rfl rfl)⟩⟩
theorem zPF_53 : zi_gP "<init>" 12 26 12 12 := ⟨_, rfl, by decide, Or.inl ⟨rfl, rfl, rfl, (zi_t6 (j := 31) rfl rfl)⟩⟩
theorem zPF_54 : zi_gP "<init>" 12 29 12 13 := ⟨_, rfl, by decide, Or.inl ⟨rfl, rfl, rfl, (zi_t6 (j := 32) rfl rfl)⟩⟩
theorem zPF_55 : zi_gP "<init>" 12 32 12 14 := ⟨_, rfl, by decide, Or.inl ⟨rfl, rfl, rfl, (zi_t6 (j := 33) rfl rfl)⟩⟩
theorem zPF_56 : zi_gP "<init>" 12 35 12 15 := ⟨_, rfl, by decide, Or.inl ⟨rfl, rfl, rfl, (zi_t6 (j := 34) rfl rfl)⟩⟩
theorem zPF_57 : zi_gP "<init>" 12 38 12 16 := ⟨_, rfl, by decide, Or.inl ⟨rfl, rfl, rfl, (zi_t6 (j := 35) rfl rfl)⟩⟩
theorem zPF_58 : zi_gP "<init>" 12 41 12 21 := ⟨_, rfl, by decide, Or.inl ⟨rfl, rfl, rfl, (zi_t6 (j := 40) rfl rfl)⟩⟩
theorem zPF_59 : zi_gP "<init>" 12 44 12 23 := ⟨_, rfl, by decide, Or.inl ⟨rfl, rfl, rfl, (zi_t6 (j := 42) rfl rfl)⟩⟩
theorem zPF_60 : zi_gP "<init>" 12 47 12 24 := ⟨_, rfl, by decide, Or.inl ⟨rfl, rfl, rfl, (zi_t6 (j := 43) rfl rfl)⟩⟩
theorem zPF_61 : zi_gP "<init>" 12 50 12 27 := ⟨_, rfl, by decide, Or.inl ⟨rfl, rfl, rfl, (zi_t6 (j := 46) rfl rfl)⟩⟩
theorem zPF_62 : zi_gP "<init>" 12 53 12 28 := ⟨_, rfl, by decide, Or.inl ⟨rfl, rfl, rfl, (zi_t6 (j := 47) rfl rfl)⟩⟩
theorem zPF_63 : zi_gP "<init>" 12 56 12 29 := ⟨_, rfl, by decide, Or.inl ⟨rfl, rfl, rfl, (zi_t6 (j := 48) rfl rfl)⟩⟩
theorem zPF_64 : zi_gP "<init>" 12 59 12 30 := ⟨_, rfl, by decide, Or.inl ⟨rfl, rfl, rfl, (zi_t6 (j := 49) rfl rfl)⟩⟩
theorem zPF_65 : zi_gP "<init>" 12 62 12 32 := ⟨_, rfl, by decide, Or.inl ⟨rfl, rfl, rfl, (zi_t6 (j := 51) rfl rfl)⟩⟩
theorem zPF_66 : zi_gP "<init>" 12 65 12 33 := ⟨_, rfl, by decide, Or.inl ⟨rfl, rfl, rfl, (zi_t6 (j := 52) rfl rfl)⟩⟩
theorem zPF_67 : zi_gP "<init>" 12 68 12 34 := ⟨_, rfl, by decide, Or.inl ⟨rfl, rfl, rfl, (zi_t6 (j := 53) rfl rfl)⟩⟩
theorem zPF_68 : zi_gP "<init>" 12 71 12 35 := ⟨_, rfl, by decide, Or.inl ⟨rfl, rfl, rfl, (zi_t6 (j := 54) rfl rfl)⟩⟩
theorem zPF_69 : zi_gP "<init>" 12 74 12 40 := ⟨_, rfl, by decide, Or.inl ⟨rfl, rfl, rfl, (zi_t6 (j := 59) rfl rfl)⟩⟩
theorem zPF_70 : zi_gP "<init>" 12 77 12 41 := ⟨_, rfl, by decide, Or.inl ⟨rfl, rfl, rfl, (zi_t6 (j := 60) rfl rfl)⟩⟩
theorem zPF_71 : zi_gP "<init>" 12 80 12 44 := ⟨_, rfl, by decide, Or.inl ⟨rfl, rfl, rfl, (zi_t6 (j := 63) rfl rfl)⟩⟩
theorem zPF_72 : zi_gP "<init>" 12 83 12 46 := ⟨_, rfl, by decide, Or.inl ⟨rfl, rfl, rfl, (zi_t6 (j := 65) rfl rfl)⟩⟩
theorem zPF_73 : zi_gP "<init>" 12 86 12 47 := ⟨_, rfl, by decide, Or.inl ⟨rfl, rfl, rfl, (zi_t6 (j := 66) rfl rfl)⟩⟩
theorem zPF_74 : zi_gP "<init>" 12 89 12 50 := ⟨_, rfl, by decide, Or.inl ⟨rfl, rfl, rfl, (zi_t6 (j := 69) rfl rfl)⟩⟩
theorem zPF_75 : zi_gP "<init>" 12 93 12 51 := ⟨_, rfl, by decide, Or.inl ⟨rfl, rfl, rfl, (zi_t6 (j := 70) rfl rfl)⟩⟩
theorem zPF_76 : zi_gP "<init>" 12 96 12 52 := ⟨_, rfl, by decide, Or.inl ⟨rfl, rfl, rfl, (zi_t6 (j := 71) rfl rfl)⟩⟩
set_option maxRecDepth 100000 in
theorem zi_PF_ok : ∀ q ∈ zi_PF, zi_gP "<init>" q.1 q.2.1 q.2.2.1 q.2.2.2 := List.forall_mem_cons.mpr ⟨zPF_0, List.forall_mem_cons.mpr ⟨zPF_1, List.forall_mem_cons.mpr ⟨zPF_2, List.forall_mem_cons.mpr ⟨zPF_3, List.forall_mem_cons.mpr ⟨zPF_4, List.forall_mem_cons.mpr ⟨zPF_5, List.forall_mem_cons.mpr ⟨zPF_6, List.forall_mem_cons.mpr ⟨zPF_7, List.forall_mem_cons.mpr ⟨zPF_8, List.forall_mem_cons.mpr ⟨zPF_9, List.forall_mem_cons.mpr ⟨zPF_10, List.forall_mem_cons.mpr ⟨zPF_11, List.forall_mem_cons.mpr ⟨zPF_12, List.forall_mem_cons.mpr ⟨zPF_13, List.forall_mem_cons.mpr ⟨zPF_14, List.forall_mem_cons.mpr ⟨zPF_15, List.forall_mem_cons.mpr ⟨zPF_16, List.forall_mem_cons.mpr ⟨zPF_17, List.forall_mem_cons.mpr ⟨zPF_18, List.forall_mem_cons.mpr ⟨zPF_19, List.forall_mem_cons.mpr ⟨zPF_20, List.forall_mem_cons.mpr ⟨zPF_21, List.forall_mem_cons.mpr ⟨zPF_22, List.forall_mem_cons.mpr ⟨zPF_23, List.forall_mem_cons.mpr ⟨zPF_24, List.forall_mem_cons.mpr ⟨zPF_25, List.forall_mem_cons.mpr ⟨zPF_26, List.forall_mem_cons.mpr ⟨zPF_27, List.forall_mem_cons.mpr ⟨zPF_28, List.forall_mem_cons.mpr ⟨zPF_29, List.forall_mem_cons.mpr ⟨zPF_30, List.forall_mem_cons.mpr ⟨zPF_31, List.forall_mem_cons.mpr ⟨zPF_32, List.forall_mem_cons.mpr ⟨zPF_33, List.forall_mem_cons.mpr ⟨zPF_34, List.forall_mem_cons.mpr ⟨zPF_35, List.forall_mem_cons.mpr ⟨zPF_36, List.forall_mem_cons.mpr ⟨zPF_37, List.forall_mem_cons.mpr ⟨zPF_38, List.forall_mem_cons.mpr ⟨zPF_39, List.forall_mem_cons.mpr ⟨zPF_40, List.forall_mem_cons.mpr ⟨zPF_41, List.forall_mem_cons.mpr ⟨zPF_42, List.forall_mem_cons.mpr ⟨zPF_43, List.forall_mem_cons.mpr ⟨zPF_44, List.forall_mem_cons.mpr ⟨zPF_45, List.forall_mem_cons.mpr ⟨zPF_46, List.forall_mem_cons.mpr ⟨zPF_47, List.forall_mem_cons.mpr ⟨zPF_48, List.forall_mem_cons.mpr ⟨zPF_49, List.forall_mem_cons.mpr ⟨zPF_50, List.forall_mem_cons.mpr ⟨zPF_51, List.forall_mem_cons.mpr ⟨zPF_52, List.forall_mem_cons.mpr ⟨zPF_53, List.forall_mem_cons.mpr ⟨zPF_54, List.forall_mem_cons.mpr ⟨zPF_55, List.forall_mem_cons.mpr ⟨zPF_56, List.forall_mem_cons.mpr ⟨zPF_57, List.forall_mem_cons.mpr ⟨zPF_58, List.forall_mem_cons.mpr ⟨zPF_59, List.forall_mem_cons.mpr ⟨zPF_60, List.forall_mem_cons.mpr ⟨zPF_61, List.forall_mem_cons.mpr ⟨zPF_62, List.forall_mem_cons.mpr ⟨zPF_63, List.forall_mem_cons.mpr ⟨zPF_64, List.forall_mem_cons.mpr ⟨zPF_65, List.forall_mem_cons.mpr ⟨zPF_66, List.forall_mem_cons.mpr ⟨zPF_67, List.forall_mem_cons.mpr ⟨zPF_68, List.forall_mem_cons.mpr ⟨zPF_69, List.forall_mem_cons.mpr ⟨zPF_70, List.forall_mem_cons.mpr ⟨zPF_71, List.forall_mem_cons.mpr ⟨zPF_72, List.forall_mem_cons.mpr ⟨zPF_73, List.forall_mem_cons.mpr ⟨zPF_74, List.forall_mem_cons.mpr ⟨zPF_75, List.forall_mem_cons.mpr ⟨zPF_76, fun _ h => absurd h List.not_mem_nil⟩⟩⟩⟩⟩⟩⟩⟩⟩⟩⟩⟩⟩⟩⟩⟩⟩⟩⟩⟩⟩⟩⟩⟩⟩⟩⟩⟩⟩⟩⟩⟩⟩⟩⟩⟩⟩⟩⟩⟩⟩⟩⟩⟩⟩⟩⟩⟩⟩⟩⟩⟩⟩⟩⟩⟩⟩⟩⟩⟩⟩⟩⟩⟩⟩⟩⟩⟩⟩⟩⟩⟩⟩⟩⟩⟩⟩
theorem zV_0 : zi_gV zi_M 0 47 9 2 := zi_mkV zm_9 (Or.inl (zi_t2 (j := 184) rfl rfl)) (zi_t2 (j := 186) rfl rfl) (zi_s1 (j := 2) rfl) (Or.inl ⟨_, rfl, rfl⟩)
theorem zV_1 : zi_gV zi_M 0 51 10 3 := zi_mkV zm_10 (Or.inl (zi_t2 (j := 200) rfl rfl)) (zi_t2 (j := 202) rfl rfl) (zi_s1 (j := 3) rfl) (Or.inl ⟨_, rfl, rfl⟩)
theorem zV_2 : zi_gV zi_M 0 55 11 3 := zi_mkV zm_11 (Or.inl (zi_t2 (j := 213) rfl rfl)) (zi_t2 (j := 215) rfl rfl) (zi_s1 (j := 5) rfl) (Or.inl ⟨_, rfl, rfl⟩)
theorem zV_3 : zi_gV zi_M 0 58 1610 2 := zi_mkV zm_1610 (Or.inl (zi_t2 (j := 188) rfl rfl)) (zi_t2 (j := 189) rfl rfl) (zi_t2 (j := 190) rfl rfl) (Or.inl ⟨_, rfl, rfl⟩)
theorem zV_4 : zi_gV zi_M 0 64 12 1 := zi_mkV zm_12 (Or.inl (zi_t2 (j := 204) rfl rfl)) (zi_t2 (j := 206) rfl rfl) (zi_s1 (j := 4) rfl) (Or.inl ⟨_, rfl, rfl⟩)
theorem zV_5 : zi_gV zi_M 0 68 1611 1 := zi_mkV zm_1611 (Or.inl (zi_t2 (j := 208) rfl rfl)) (zi_t2 (j := 209) rfl rfl) (zi_t2 (j := 210) rfl rfl) (Or.inl ⟨_, rfl, rfl⟩)
theorem zV_6 : zi_gV zi_M 1 31 19 2 := zi_mkV zm_19 (Or.inl (zi_t3 (j := 224) rfl rfl)) (zi_t3 (j := 225) rfl rfl) (zi_t3 (j := 226) rfl rfl) (Or.inl ⟨_, rfl, rfl⟩)
theorem zV_7 : zi_gV zi_M 1 40 203 2 := zi_mkV zm_203 (Or.inl (zi_t3 (j := 236) rfl rfl)) (zi_t3 (j := 237) rfl rfl) (zi_t3 (j := 238) rfl rfl) (Or.inl ⟨_, rfl, rfl⟩)
theorem zV_8 : zi_gV zi_M 1 44 205 3 := zi_mkV zm_205 (Or.inl (zi_t4 (j := 0) rfl rfl)) (zi_t4 (j := 2) rfl rfl) (zi_s2 (j := 0) rfl) (Or.inl ⟨_, rfl, rfl⟩)
theorem zV_9 : zi_gV zi_M 2 23 201 3 := zi_mkV zm_201 (Or.inl (zi_t4 (j := 156) rfl rfl)) (zi_t3 (j := 212) rfl rfl) (zi_t3 (j := 213) rfl rfl) (Or.inl ⟨_, rfl, rfl⟩)
theorem zV_10 : zi_gV zi_M 2 29 203 2 := zi_mkV zm_203 (Or.inl (zi_t4 (j := 157) rfl rfl)) (zi_t3 (j := 237) rfl rfl) (zi_t3 (j := 238) rfl rfl) (Or.inl ⟨_, rfl, rfl⟩)
theorem zV_11 : zi_gV zi_M 2 33 404 2 := zi_mkV zm_404 (Or.inl (zi_t4 (j := 162) rfl rfl)) (zi_t4 (j := 164) rfl rfl) (zi_s2 (j := 9) rfl) (Or.inl ⟨_, rfl, rfl⟩)
theorem zV_12 : zi_gV zi_M 2 36 18 1 := zi_mkV zm_18 (Or.inl (zi_t4 (j := 166) rfl rfl)) (zi_t4 (j := 167) rfl rfl) (zi_t4 (j := 168) rfl rfl) (Or.inl ⟨_, rfl, rfl⟩)
theorem zV_13 : zi_gV zi_M 4 40 804 2 := zi_mkV zm_804 (Or.inl (zi_t5 (j := 67) rfl rfl)) (zi_t5 (j := 69) rfl rfl) (zi_s3 (j := 2) rfl) (Or.inl ⟨_, rfl, rfl⟩)
theorem zV_14 : zi_gV zi_M 4 50 805 0 := zi_mkV zm_805 (Or.inl (zi_t5 (j := 80) rfl rfl)) (zi_t5 (j := 56) rfl rfl) (zi_t5 (j := 57) rfl rfl) (Or.inl ⟨_, rfl, rfl⟩)
theorem zV_15 : zi_gV zi_M 4 54 808 1 := zi_mkV zm_808 (Or.inl (zi_t5 (j := 81) rfl rfl)) (zi_t5 (j := 83) rfl rfl) (zi_s3 (j := 3) rfl) (Or.inl ⟨_, rfl, rfl⟩)
theorem zV_16 : zi_gV zi_M 4 58 809 0 := zi_mkV zm_809 (Or.inl (zi_t5 (j := 89) rfl rfl)) (zi_t5 (j := 91) rfl rfl) (zi_s3 (j := 5) rfl) (Or.inl ⟨_, rfl, rfl⟩)
theorem zV_17 : zi_gV zi_M 4 62 811 3 := zi_mkV zm_811 (Or.inl (zi_t5 (j := 93) rfl rfl)) (zi_t5 (j := 95) rfl rfl) (zi_s3 (j := 6) rfl) (Or.inl ⟨_, rfl, rfl⟩)
theorem zV_18 : zi_gV zi_M 4 69 810 3 := zi_mkV zm_810 (Or.inl (zi_t5 (j := 85) rfl rfl)) (zi_t5 (j := 87) rfl rfl) (zi_s3 (j := 4) rfl) (Or.inl ⟨_, rfl, rfl⟩)
theorem zV_19 : zi_gV zi_M 5 17 1003 0 := zi_mkV zm_1003 (Or.inl (zi_t4 (j := 121) rfl rfl)) (zi_t4 (j := 47) rfl rfl) (zi_t4 (j := 48) rfl rfl) (Or.inl ⟨_, rfl, rfl⟩)
theorem zV_20 : zi_gV zi_M 5 20 1004 1 := zi_mkV zm_1004 (Or.inl (zi_t4 (j := 122) rfl rfl)) (zi_t4 (j := 51) rfl rfl) (zi_t4 (j := 52) rfl rfl) (Or.inl ⟨_, rfl, rfl⟩)
theorem zV_21 : zi_gV zi_M 6 23 601 1 := zi_mkV zm_601 (Or.inl (zi_t3 (j := 177) rfl rfl)) (zi_t3 (j := 153) rfl rfl) (zi_t3 (j := 154) rfl rfl) (Or.inl ⟨_, rfl, rfl⟩)
theorem zV_22 : zi_gV zi_M 7 24 1605 1 := zi_mkV zm_1605 (Or.inl (zi_t3 (j := 10) rfl rfl)) (zi_t2 (j := 158) rfl rfl) (zi_t2 (j := 159) rfl rfl) (Or.inl ⟨_, rfl, rfl⟩)
theorem zV_23 : zi_gV zi_M 7 34 1608 0 := zi_mkV zm_1608 (Or.inl (zi_t3 (j := 11) rfl rfl)) (zi_t2 (j := 165) rfl rfl) (zi_t2 (j := 166) rfl rfl) (Or.inl ⟨_, rfl, rfl⟩)
theorem zV_24 : zi_gV zi_M 7 38 1404 2 := zi_mkV zm_1404 (Or.inl (zi_t3 (j := 12) rfl rfl)) (zi_t3 (j := 14) rfl rfl) (zi_s1 (j := 6) rfl) (Or.inl ⟨_, rfl, rfl⟩)
theorem zV_25 : zi_gV zi_M 7 42 1609 0 := zi_mkV zm_1609 (Or.inl (zi_t3 (j := 125) rfl rfl)) (zi_t2 (j := 218) rfl rfl) (zi_t2 (j := 219) rfl rfl) (Or.inl ⟨_, rfl, rfl⟩)
theorem zV_26 : zi_gV zi_M 7 55 1410 0 := zi_mkV zm_1410 (Or.inl (zi_t4 (j := 28) rfl rfl)) (zi_t4 (j := 30) rfl rfl) (zi_s2 (j := 2) rfl) (Or.inl ⟨_, rfl, rfl⟩)
theorem zV_27 : zi_gV zi_M 7 67 1405 2 := zi_mkV zm_1405 (Or.inl (zi_t3 (j := 16) rfl rfl)) (zi_t3 (j := 18) rfl rfl) (zi_s1 (j := 7) rfl) (Or.inl ⟨_, rfl, rfl⟩)
theorem zV_28 : zi_gV zi_M 7 70 1610 2 := zi_mkV zm_1610 (Or.inl (zi_t3 (j := 28) rfl rfl)) (zi_t2 (j := 189) rfl rfl) (zi_t2 (j := 190) rfl rfl) (Or.inl ⟨_, rfl, rfl⟩)
theorem zV_29 : zi_gV zi_M 7 73 1409 1 := zi_mkV zm_1409 (Or.inl (zi_t3 (j := 34) rfl rfl)) (zi_t3 (j := 36) rfl rfl) (zi_s1 (j := 11) rfl) (Or.inl ⟨_, rfl, rfl⟩)
theorem zV_30 : zi_gV zi_M 7 77 1406 2 := zi_mkV zm_1406 (Or.inl (zi_t3 (j := 20) rfl rfl)) (zi_t3 (j := 22) rfl rfl) (zi_s1 (j := 8) rfl) (Or.inl ⟨_, rfl, rfl⟩)
theorem zV_31 : zi_gV zi_M 7 80 1606 0 := zi_mkV zm_1606 (Or.inl (zi_t3 (j := 38) rfl rfl)) (zi_t2 (j := 193) rfl rfl) (zi_t2 (j := 194) rfl rfl) (Or.inl ⟨_, rfl, rfl⟩)
theorem zV_32 : zi_gV zi_M 7 83 1607 0 := zi_mkV zm_1607 (Or.inl (zi_t3 (j := 39) rfl rfl)) (zi_t2 (j := 197) rfl rfl) (zi_t2 (j := 198) rfl rfl) (Or.inl ⟨_, rfl, rfl⟩)
theorem zV_33 : zi_gV zi_M 7 86 1407 2 := zi_mkV zm_1407 (Or.inl (zi_t3 (j := 24) rfl rfl)) (zi_t3 (j := 26) rfl rfl) (zi_s1 (j := 9) rfl) (Or.inl ⟨_, rfl, rfl⟩)
theorem zV_34 : zi_gV zi_M 7 89 1408 2 := zi_mkV zm_1408 (Or.inl (zi_t3 (j := 29) rfl rfl)) (zi_t3 (j := 31) rfl rfl) (zi_s1 (j := 10) rfl) (Or.inl ⟨_, rfl, rfl⟩)
theorem zV_35 : zi_gV zi_M 7 92 1611 1 := zi_mkV zm_1611 (Or.inl (zi_t3 (j := 33) rfl rfl)) (zi_t2 (j := 209) rfl rfl) (zi_t2 (j := 210) rfl rfl) (Or.inl ⟨_, rfl, rfl⟩)
theorem zV_36 : zi_gV zi_M 7 98 3002 1 := zi_mkV zm_3002 (Or.inl (zi_t3 (j := 41) rfl rfl)) (zi_t3 (j := 42) rfl rfl) (zi_t3 (j := 43) rfl rfl) (Or.inr rfl)
theorem zV_37 : zi_gV zi_M 8 29 1606 0 := zi_mkV zm_1606 (Or.inl (zi_t2 (j := 192) rfl rfl)) (zi_t2 (j := 193) rfl rfl) (zi_t2 (j := 194) rfl rfl) (Or.inl ⟨_, rfl, rfl⟩)
theorem zV_38 : zi_gV zi_M 8 33 1607 0 := zi_mkV zm_1607 (Or.inl (zi_t2 (j := 196) rfl rfl)) (zi_t2 (j := 197) rfl rfl) (zi_t2 (j := 198) rfl rfl) (Or.inl ⟨_, rfl, rfl⟩)
theorem zV_39 : zi_gV zi_M 8 36 1610 2 := zi_mkV zm_1610 (Or.inl (zi_t2 (j := 212) rfl rfl)) (zi_t2 (j := 189) rfl rfl) (zi_t2 (j := 190) rfl rfl) (Or.inl ⟨_, rfl, rfl⟩)
theorem zV_40 : zi_gV zi_M 9 31 1 1 := zi_mkV zm_1 (Or.inl (zi_t3 (j := 207) rfl rfl)) (zi_t3 (j := 208) rfl rfl) (zi_t3 (j := 209) rfl rfl) (Or.inl ⟨_, rfl, rfl⟩)
theorem zV_41 : zi_gV zi_M 9 37 4 1 := zi_mkV zm_4 (Or.inl (zi_t3 (j := 202) rfl rfl)) (zi_t3 (j := 162) rfl rfl) (zi_t3 (j := 163) rfl rfl) (Or.inl ⟨_, rfl, rfl⟩)
theorem zV_42 : zi_gV zi_M 9 40 1802 3 := zi_mkV zm_1802 (Or.inl (zi_t3 (j := 203) rfl rfl)) (zi_t3 (j := 204) rfl rfl) (zi_t3 (j := 205) rfl rfl) (Or.inl ⟨_, rfl, rfl⟩)
theorem zV_43 : zi_gV zi_M 9 44 201 3 := zi_mkV zm_201 (Or.inl (zi_t3 (j := 211) rfl rfl)) (zi_t3 (j := 212) rfl rfl) (zi_t3 (j := 213) rfl rfl) (Or.inl ⟨_, rfl, rfl⟩)
theorem zV_44 : zi_gV zi_M 9 50 15 2 := zi_mkV zm_15 (Or.inl (zi_t3 (j := 228) rfl rfl)) (zi_t3 (j := 229) rfl rfl) (zi_t3 (j := 230) rfl rfl) (Or.inl ⟨_, rfl, rfl⟩)
theorem zV_45 : zi_gV zi_M 9 54 204 1 := zi_mkV zm_204 (Or.inl (zi_t3 (j := 232) rfl rfl)) (zi_t3 (j := 233) rfl rfl) (zi_t3 (j := 234) rfl rfl) (Or.inl ⟨_, rfl, rfl⟩)
theorem zV_46 : zi_gV zi_M 9 64 602 1 := zi_mkV zm_602 (Or.inl (zi_t4 (j := 7) rfl rfl)) (zi_t4 (j := 8) rfl rfl) (zi_t4 (j := 9) rfl rfl) (Or.inl ⟨_, rfl, rfl⟩)
theorem zV_47 : zi_gV zi_M 9 68 1803 3 := zi_mkV zm_1803 (Or.inl (zi_t3 (j := 198) rfl rfl)) (zi_t3 (j := 200) rfl rfl) (zi_s1 (j := 15) rfl) (Or.inl ⟨_, rfl, rfl⟩)
theorem zV_48 : zi_gV zi_M 9 71 1806 4 := zi_mkV zm_1806 (Or.inl (zi_t4 (j := 11) rfl rfl)) (zi_t4 (j := 13) rfl rfl) (zi_s2 (j := 1) rfl) (Or.inl ⟨_, rfl, rfl⟩)
theorem zV_49 : zi_gV zi_M 9 75 603 2 := zi_mkV zm_603 (Or.inl (zi_t4 (j := 37) rfl rfl)) (zi_t4 (j := 38) rfl rfl) (zi_t4 (j := 39) rfl rfl) (Or.inl ⟨_, rfl, rfl⟩)
theorem zV_50 : zi_gV zi_M 9 101 1402 2 := zi_mkV zm_1402 (Or.inl (zi_t4 (j := 15) rfl rfl)) (zi_t4 (j := 16) rfl rfl) (zi_t4 (j := 17) rfl rfl) (Or.inl ⟨_, rfl, rfl⟩)
theorem zV_51 : zi_gV zi_M 9 106 17 2 := zi_mkV zm_17 (Or.inl (zi_t4 (j := 19) rfl rfl)) (zi_t4 (j := 20) rfl rfl) (zi_t4 (j := 21) rfl rfl) (Or.inl ⟨_, rfl, rfl⟩)
theorem zV_52 : zi_gV zi_M 9 117 1403 0 := zi_mkV zm_1403 (Or.inl (zi_t4 (j := 24) rfl rfl)) (zi_t4 (j := 25) rfl rfl) (zi_t4 (j := 26) rfl rfl) (Or.inl ⟨_, rfl, rfl⟩)
theorem zV_53 : zi_gV zi_M 9 124 1801 3 := zi_mkV zm_1801 (Or.inl (zi_t4 (j := 188) rfl rfl)) (zi_t4 (j := 189) rfl rfl) (zi_t4 (j := 190) rfl rfl) (Or.inl ⟨_, rfl, rfl⟩)
theorem zV_54 : zi_gV zi_M 9 127 1805 3 := zi_mkV zm_1805 (Or.inl (zi_t4 (j := 192) rfl rfl)) (zi_t3 (j := 195) rfl rfl) (zi_t3 (j := 196) rfl rfl) (Or.inl ⟨_, rfl, rfl⟩)
theorem zV_55 : zi_gV zi_M 9 133 1809 3 := zi_mkV zm_1809 (Or.inl (zi_t5 (j := 19) rfl rfl)) (zi_t5 (j := 21) rfl rfl) (zi_s3 (j := 1) rfl) (Or.inl ⟨_, rfl, rfl⟩)
theorem zV_56 : zi_gV zi_M 9 136 20 1 := zi_mkV zm_20 (Or.inl (zi_t5 (j := 23) rfl rfl)) (zi_t5 (j := 24) rfl rfl) (zi_t5 (j := 25) rfl rfl) (Or.inl ⟨_, rfl, rfl⟩)
theorem zV_57 : zi_gV zi_M 10 19 1605 1 := zi_mkV zm_1605 (Or.inl (zi_t4 (j := 212) rfl rfl)) (zi_t2 (j := 158) rfl rfl) (zi_t2 (j := 159) rfl rfl) (Or.inl ⟨_, rfl, rfl⟩)
theorem zV_58 : zi_gV zi_M 10 32 1610 2 := zi_mkV zm_1610 (Or.inl (zi_t4 (j := 213) rfl rfl)) (zi_t2 (j := 189) rfl rfl) (zi_t2 (j := 190) rfl rfl) (Or.inl ⟨_, rfl, rfl⟩)
theorem zV_59 : zi_gV zi_M 10 36 1608 0 := zi_mkV zm_1608 (Or.inl (zi_t4 (j := 214) rfl rfl)) (zi_t2 (j := 165) rfl rfl) (zi_t2 (j := 166) rfl rfl) (Or.inl ⟨_, rfl, rfl⟩)
theorem zV_60 : zi_gV zi_M 10 40 1609 0 := zi_mkV zm_1609 (Or.inl (zi_t4 (j := 215) rfl rfl)) (zi_t2 (j := 218) rfl rfl) (zi_t2 (j := 219) rfl rfl) (Or.inl ⟨_, rfl, rfl⟩)
theorem zV_61 : zi_gV zi_M 10 44 2004 0 := zi_mkV zm_2004 (Or.inl (zi_t4 (j := 221) rfl rfl)) (zi_t4 (j := 223) rfl rfl) (zi_s2 (j := 11) rfl) (Or.inl ⟨_, rfl, rfl⟩)
theorem zV_62 : zi_gV zi_M 10 47 2008 3 := zi_mkV zm_2008 (Or.inl (zi_t4 (j := 236) rfl rfl)) (zi_t4 (j := 238) rfl rfl) (zi_s2 (j := 14) rfl) (Or.inl ⟨_, rfl, rfl⟩)
theorem zV_63 : zi_gV zi_M 10 51 1005 1 := zi_mkV zm_1005 (Or.inl (zi_t5 (j := 5) rfl rfl)) (zi_t4 (j := 118) rfl rfl) (zi_t4 (j := 119) rfl rfl) (Or.inl ⟨_, rfl, rfl⟩)
theorem zV_64 : zi_gV zi_M 10 57 2003 3 := zi_mkV zm_2003 (Or.inl (zi_t5 (j := 6) rfl rfl)) (zi_t5 (j := 8) rfl rfl) (zi_s3 (j := 0) rfl) (Or.inl ⟨_, rfl, rfl⟩)
theorem zV_65 : zi_gV zi_M 10 61 1004 1 := zi_mkV zm_1004 (Or.inl (zi_t5 (j := 10) rfl rfl)) (zi_t4 (j := 51) rfl rfl) (zi_t4 (j := 52) rfl rfl) (Or.inl ⟨_, rfl, rfl⟩)
theorem zV_66 : zi_gV zi_M 10 64 2006 3 := zi_mkV zm_2006 (Or.inl (zi_t5 (j := 0) rfl rfl)) (zi_t5 (j := 2) rfl rfl) (zi_s2 (j := 15) rfl) (Or.inl ⟨_, rfl, rfl⟩)
theorem zV_67 : zi_gV zi_M 10 67 2007 3 := zi_mkV zm_2007 (Or.inl (zi_t4 (j := 232) rfl rfl)) (zi_t4 (j := 234) rfl rfl) (zi_s2 (j := 13) rfl) (Or.inl ⟨_, rfl, rfl⟩)
theorem zV_68 : zi_gV zi_M 10 73 2005 3 := zi_mkV zm_2005 (Or.inl (zi_t4 (j := 228) rfl rfl)) (zi_t4 (j := 230) rfl rfl) (zi_s2 (j := 12) rfl) (Or.inl ⟨_, rfl, rfl⟩)
theorem zV_69 : zi_gV zi_M 11 97 1602 1 := zi_mkV zm_1602 (Or.inl (zi_t2 (j := 133) rfl rfl)) (zi_t2 (j := 134) rfl rfl) (zi_t2 (j := 135) rfl rfl) (Or.inl ⟨_, rfl, rfl⟩)
theorem zV_70 : zi_gV zi_M 11 101 1601 0 := zi_mkV zm_1601 (Or.inl (zi_t2 (j := 137) rfl rfl)) (zi_t2 (j := 138) rfl rfl) (zi_t2 (j := 139) rfl rfl) (Or.inl ⟨_, rfl, rfl⟩)
theorem zV_71 : zi_gV zi_M 11 105 1603 1 := zi_mkV zm_1603 (Or.inl (zi_t2 (j := 145) rfl rfl)) (zi_t2 (j := 146) rfl rfl) (zi_t2 (j := 147) rfl rfl) (Or.inl ⟨_, rfl, rfl⟩)
theorem zV_72 : zi_gV zi_M 11 108 2212 2 := zi_mkV zm_2212 (Or.inl (zi_t2 (j := 153) rfl rfl)) (zi_t2 (j := 155) rfl rfl) (zi_s1 (j := 0) rfl) (Or.inl ⟨_, rfl, rfl⟩)
theorem zV_73 : zi_gV zi_M 11 116 1401 1 := zi_mkV zm_1401 (Or.inl (zi_t3 (j := 6) rfl rfl)) (zi_t3 (j := 7) rfl rfl) (zi_t3 (j := 8) rfl rfl) (Or.inl ⟨_, rfl, rfl⟩)
theorem zV_74 : zi_gV zi_M 11 122 1604 0 := zi_mkV zm_1604 (Or.inl (zi_t2 (j := 222) rfl rfl)) (zi_t2 (j := 223) rfl rfl) (zi_t2 (j := 224) rfl rfl) (Or.inl ⟨_, rfl, rfl⟩)
theorem zV_75 : zi_gV zi_M 11 125 1 1 := zi_mkV zm_1 (Or.inl (zi_t4 (j := 105) rfl rfl)) (zi_t3 (j := 208) rfl rfl) (zi_t3 (j := 209) rfl rfl) (Or.inl ⟨_, rfl, rfl⟩)
theorem zV_76 : zi_gV zi_M 11 137 602 1 := zi_mkV zm_602 (Or.inl (zi_t4 (j := 216) rfl rfl)) (zi_t4 (j := 8) rfl rfl) (zi_t4 (j := 9) rfl rfl) (Or.inl ⟨_, rfl, rfl⟩)
theorem zV_77 : zi_gV zi_M 11 141 3 1 := zi_mkV zm_3 (Or.inl (zi_t3 (j := 165) rfl rfl)) (zi_t3 (j := 166) rfl rfl) (zi_t3 (j := 167) rfl rfl) (Or.inl ⟨_, rfl, rfl⟩)
theorem zV_78 : zi_gV zi_M 11 156 604 1 := zi_mkV zm_604 (Or.inl (zi_t3 (j := 186) rfl rfl)) (zi_t3 (j := 187) rfl rfl) (zi_t3 (j := 188) rfl rfl) (Or.inl ⟨_, rfl, rfl⟩)
theorem zV_79 : zi_gV zi_M 11 162 4 1 := zi_mkV zm_4 (Or.inl (zi_t3 (j := 161) rfl rfl)) (zi_t3 (j := 162) rfl rfl) (zi_t3 (j := 163) rfl rfl) (Or.inl ⟨_, rfl, rfl⟩)
theorem zV_80 : zi_gV zi_M 11 174 15 2 := zi_mkV zm_15 (Or.inl (zi_t4 (j := 107) rfl rfl)) (zi_t3 (j := 229) rfl rfl) (zi_t3 (j := 230) rfl rfl) (Or.inl ⟨_, rfl, rfl⟩)
theorem zV_81 : zi_gV zi_M 11 186 13 4 := zi_mkV zm_13 (Or.inl (zi_t3 (j := 139) rfl rfl)) (zi_t3 (j := 140) rfl rfl) (zi_t3 (j := 141) rfl rfl) (Or.inl ⟨_, rfl, rfl⟩)
theorem zV_82 : zi_gV zi_M 11 190 1605 1 := zi_mkV zm_1605 (Or.inl (zi_t2 (j := 157) rfl rfl)) (zi_t2 (j := 158) rfl rfl) (zi_t2 (j := 159) rfl rfl) (Or.inl ⟨_, rfl, rfl⟩)
theorem zV_83 : zi_gV zi_M 11 194 1608 0 := zi_mkV zm_1608 (Or.inl (zi_t2 (j := 164) rfl rfl)) (zi_t2 (j := 165) rfl rfl) (zi_t2 (j := 166) rfl rfl) (Or.inl ⟨_, rfl, rfl⟩)
theorem zV_84 : zi_gV zi_M 11 198 2213 1 := zi_mkV zm_2213 (Or.inl (zi_t2 (j := 168) rfl rfl)) (zi_t2 (j := 170) rfl rfl) (zi_s1 (j := 1) rfl) (Or.inl ⟨_, rfl, rfl⟩)
theorem zV_85 : zi_gV zi_M 11 201 7 2 := zi_mkV zm_7 (Or.inl (zi_t2 (j := 226) rfl rfl)) (zi_t2 (j := 227) rfl rfl) (zi_t2 (j := 228) rfl rfl) (Or.inl ⟨_, rfl, rfl⟩)
theorem zV_86 : zi_gV zi_M 11 205 1202 0 := zi_mkV zm_1202 (Or.inl (zi_t2 (j := 230) rfl rfl)) (zi_t2 (j := 231) rfl rfl) (zi_t2 (j := 232) rfl rfl) (Or.inl ⟨_, rfl, rfl⟩)
theorem zV_87 : zi_gV zi_M 11 209 5 1 := zi_mkV zm_5 (Or.inl (zi_t2 (j := 172) rfl rfl)) (zi_t2 (j := 173) rfl rfl) (zi_t2 (j := 174) rfl rfl) (Or.inl ⟨_, rfl, rfl⟩)
theorem zV_88 : zi_gV zi_M 11 212 6 1 := zi_mkV zm_6 (Or.inl (zi_t2 (j := 176) rfl rfl)) (zi_t2 (j := 177) rfl rfl) (zi_t2 (j := 178) rfl rfl) (Or.inl ⟨_, rfl, rfl⟩)
theorem zV_89 : zi_gV zi_M 11 215 8 4 := zi_mkV zm_8 (Or.inl (zi_t2 (j := 180) rfl rfl)) (zi_t2 (j := 181) rfl rfl) (zi_t2 (j := 182) rfl rfl) (Or.inl ⟨_, rfl, rfl⟩)
theorem zV_90 : zi_gV zi_M 11 219 1609 0 := zi_mkV zm_1609 (Or.inl (zi_t2 (j := 217) rfl rfl)) (zi_t2 (j := 218) rfl rfl) (zi_t2 (j := 219) rfl rfl) (Or.inl ⟨_, rfl, rfl⟩)
theorem zV_91 : zi_gV zi_M 11 222 1610 2 := zi_mkV zm_1610 (Or.inl (zi_t2 (j := 221) rfl rfl)) (zi_t2 (j := 189) rfl rfl) (zi_t2 (j := 190) rfl rfl) (Or.inl ⟨_, rfl, rfl⟩)
theorem zV_92 : zi_gV zi_M 11 225 601 1 := zi_mkV zm_601 (Or.inl (zi_t3 (j := 152) rfl rfl)) (zi_t3 (j := 153) rfl rfl) (zi_t3 (j := 154) rfl rfl) (Or.inl ⟨_, rfl, rfl⟩)
theorem zV_93 : zi_gV zi_M 11 229 2221 2 := zi_mkV zm_2221 (Or.inl (zi_t3 (j := 157) rfl rfl)) (zi_t3 (j := 159) rfl rfl) (zi_s1 (j := 12) rfl) (Or.inl ⟨_, rfl, rfl⟩)
theorem zV_94 : zi_gV zi_M 11 232 2220 1 := zi_mkV zm_2220 (Or.inl (zi_t3 (j := 169) rfl rfl)) (zi_t3 (j := 171) rfl rfl) (zi_s1 (j := 13) rfl) (Or.inl ⟨_, rfl, rfl⟩)
theorem zV_95 : zi_gV zi_M 11 235 2222 1 := zi_mkV zm_2222 (Or.inl (zi_t3 (j := 182) rfl rfl)) (zi_t3 (j := 184) rfl rfl) (zi_s1 (j := 14) rfl) (Or.inl ⟨_, rfl, rfl⟩)
theorem zV_96 : zi_gV zi_M 11 238 1805 3 := zi_mkV zm_1805 (Or.inl (zi_t3 (j := 194) rfl rfl)) (zi_t3 (j := 195) rfl rfl) (zi_t3 (j := 196) rfl rfl) (Or.inl ⟨_, rfl, rfl⟩)
theorem zV_97 : zi_gV zi_M 11 242 2234 0 := zi_mkV zm_2234 (Or.inl (zi_t4 (j := 42) rfl rfl)) (zi_t4 (j := 44) rfl rfl) (zi_s2 (j := 3) rfl) (Or.inl ⟨_, rfl, rfl⟩)
theorem zV_98 : zi_gV zi_M 11 245 2223 1 := zi_mkV zm_2223 (Or.inl (zi_t4 (j := 58) rfl rfl)) (zi_t4 (j := 60) rfl rfl) (zi_s2 (j := 4) rfl) (Or.inl ⟨_, rfl, rfl⟩)
theorem zV_99 : zi_gV zi_M 11 248 2224 0 := zi_mkV zm_2224 (Or.inl (zi_t4 (j := 71) rfl rfl)) (zi_t4 (j := 73) rfl rfl) (zi_s2 (j := 5) rfl) (Or.inl ⟨_, rfl, rfl⟩)
theorem zV_100 : zi_gV zi_M 11 251 2227 1 := zi_mkV zm_2227 (Or.inl (zi_t4 (j := 82) rfl rfl)) (zi_t4 (j := 84) rfl rfl) (zi_s2 (j := 7) rfl) (Or.inl ⟨_, rfl, rfl⟩)
theorem zV_101 : zi_gV zi_M 11 257 1203 1 := zi_mkV zm_1203 (Or.inl (zi_t3 (j := 173) rfl rfl)) (zi_t3 (j := 174) rfl rfl) (zi_t3 (j := 175) rfl rfl) (Or.inl ⟨_, rfl, rfl⟩)
theorem zV_102 : zi_gV zi_M 11 260 1003 0 := zi_mkV zm_1003 (Or.inl (zi_t4 (j := 46) rfl rfl)) (zi_t4 (j := 47) rfl rfl) (zi_t4 (j := 48) rfl rfl) (Or.inl ⟨_, rfl, rfl⟩)
theorem zV_103 : zi_gV zi_M 11 261 1004 1 := zi_mkV zm_1004 (Or.inl (zi_t4 (j := 50) rfl rfl)) (zi_t4 (j := 51) rfl rfl) (zi_t4 (j := 52) rfl rfl) (Or.inl ⟨_, rfl, rfl⟩)
theorem zV_104 : zi_gV zi_M 11 264 1204 1 := zi_mkV zm_1204 (Or.inl (zi_t4 (j := 93) rfl rfl)) (zi_t4 (j := 94) rfl rfl) (zi_t4 (j := 95) rfl rfl) (Or.inl ⟨_, rfl, rfl⟩)
theorem zV_105 : zi_gV zi_M 11 268 1201 0 := zi_mkV zm_1201 (Or.inl (zi_t4 (j := 97) rfl rfl)) (zi_t4 (j := 98) rfl rfl) (zi_t4 (j := 99) rfl rfl) (Or.inl ⟨_, rfl, rfl⟩)
theorem zV_106 : zi_gV zi_M 11 274 605 1 := zi_mkV zm_605 (Or.inl (zi_t4 (j := 62) rfl rfl)) (zi_t4 (j := 63) rfl rfl) (zi_t4 (j := 64) rfl rfl) (Or.inl ⟨_, rfl, rfl⟩)
theorem zV_107 : zi_gV zi_M 11 280 2225 0 := zi_mkV zm_2225 (Or.inl (zi_t4 (j := 75) rfl rfl)) (zi_t4 (j := 77) rfl rfl) (zi_s2 (j := 6) rfl) (Or.inl ⟨_, rfl, rfl⟩)
theorem zV_108 : zi_gV zi_M 11 283 1606 0 := zi_mkV zm_1606 (Or.inl (zi_t4 (j := 79) rfl rfl)) (zi_t2 (j := 193) rfl rfl) (zi_t2 (j := 194) rfl rfl) (Or.inl ⟨_, rfl, rfl⟩)
theorem zV_109 : zi_gV zi_M 11 286 1607 0 := zi_mkV zm_1607 (Or.inl (zi_t4 (j := 80) rfl rfl)) (zi_t2 (j := 197) rfl rfl) (zi_t2 (j := 198) rfl rfl) (Or.inl ⟨_, rfl, rfl⟩)
theorem zV_110 : zi_gV zi_M 11 289 1611 1 := zi_mkV zm_1611 (Or.inl (zi_t4 (j := 81) rfl rfl)) (zi_t2 (j := 209) rfl rfl) (zi_t2 (j := 210) rfl rfl) (Or.inl ⟨_, rfl, rfl⟩)
theorem zV_111 : zi_gV zi_M 11 292 201 3 := zi_mkV zm_201 (Or.inl (zi_t4 (j := 106) rfl rfl)) (zi_t3 (j := 212) rfl rfl) (zi_t3 (j := 213) rfl rfl) (Or.inl ⟨_, rfl, rfl⟩)
theorem zV_112 : zi_gV zi_M 11 296 204 1 := zi_mkV zm_204 (Or.inl (zi_t4 (j := 108) rfl rfl)) (zi_t3 (j := 233) rfl rfl) (zi_t3 (j := 234) rfl rfl) (Or.inl ⟨_, rfl, rfl⟩)
theorem zV_113 : zi_gV zi_M 11 299 206 1 := zi_mkV zm_206 (Or.inl (zi_t4 (j := 113) rfl rfl)) (zi_t4 (j := 114) rfl rfl) (zi_t4 (j := 115) rfl rfl) (Or.inl ⟨_, rfl, rfl⟩)
theorem zV_114 : zi_gV zi_M 11 302 1005 1 := zi_mkV zm_1005 (Or.inl (zi_t4 (j := 117) rfl rfl)) (zi_t4 (j := 118) rfl rfl) (zi_t4 (j := 119) rfl rfl) (Or.inl ⟨_, rfl, rfl⟩)
theorem zV_115 : zi_gV zi_M 11 310 207 1 := zi_mkV zm_207 (Or.inl (zi_t4 (j := 128) rfl rfl)) (zi_t4 (j := 129) rfl rfl) (zi_t4 (j := 130) rfl rfl) (Or.inl ⟨_, rfl, rfl⟩)
theorem zV_116 : zi_gV zi_M 11 313 2233 3 := zi_mkV zm_2233 (Or.inl (zi_t4 (j := 136) rfl rfl)) (zi_t4 (j := 138) rfl rfl) (zi_s2 (j := 8) rfl) (Or.inl ⟨_, rfl, rfl⟩)
theorem zV_117 : zi_gV zi_M 11 317 16 2 := zi_mkV zm_16 (Or.inl (zi_t4 (j := 144) rfl rfl)) (zi_t4 (j := 145) rfl rfl) (zi_t4 (j := 146) rfl rfl) (Or.inl ⟨_, rfl, rfl⟩)
theorem zV_118 : zi_gV zi_M 11 320 401 0 := zi_mkV zm_401 (Or.inl (zi_t4 (j := 148) rfl rfl)) (zi_t4 (j := 149) rfl rfl) (zi_t4 (j := 150) rfl rfl) (Or.inl ⟨_, rfl, rfl⟩)
theorem zV_119 : zi_gV zi_M 11 323 402 4 := zi_mkV zm_402 (Or.inl (zi_t4 (j := 152) rfl rfl)) (zi_t4 (j := 153) rfl rfl) (zi_t4 (j := 154) rfl rfl) (Or.inl ⟨_, rfl, rfl⟩)
theorem zV_120 : zi_gV zi_M 11 327 403 1 := zi_mkV zm_403 (Or.inl (zi_t4 (j := 158) rfl rfl)) (zi_t4 (j := 159) rfl rfl) (zi_t4 (j := 160) rfl rfl) (Or.inl ⟨_, rfl, rfl⟩)
theorem zV_121 : zi_gV zi_M 11 330 2235 1 := zi_mkV zm_2235 (Or.inl (zi_t4 (j := 171) rfl rfl)) (zi_t4 (j := 173) rfl rfl) (zi_s2 (j := 10) rfl) (Or.inl ⟨_, rfl, rfl⟩)
theorem zV_122 : zi_gV zi_M 11 336 18 1 := zi_mkV zm_18 (Or.inl (zi_t4 (j := 175) rfl rfl)) (zi_t4 (j := 167) rfl rfl) (zi_t4 (j := 168) rfl rfl) (Or.inl ⟨_, rfl, rfl⟩)
theorem zV_123 : zi_gV zi_M 11 339 2 1 := zi_mkV zm_2 (Or.inl (zi_t4 (j := 180) rfl rfl)) (zi_t4 (j := 181) rfl rfl) (zi_t4 (j := 182) rfl rfl) (Or.inl ⟨_, rfl, rfl⟩)
theorem zV_124 : zi_gV zi_M 11 342 1807 3 := zi_mkV zm_1807 (Or.inl (zi_t4 (j := 184) rfl rfl)) (zi_t4 (j := 185) rfl rfl) (zi_t4 (j := 186) rfl rfl) (Or.inl ⟨_, rfl, rfl⟩)
theorem zV_125 : zi_gV zi_M 11 348 1801 3 := zi_mkV zm_1801 (Or.inl (zi_t4 (j := 193) rfl rfl)) (zi_t4 (j := 189) rfl rfl) (zi_t4 (j := 190) rfl rfl) (Or.inl ⟨_, rfl, rfl⟩)
theorem zV_126 : zi_gV zi_M 11 351 1802 3 := zi_mkV zm_1802 (Or.inl (zi_t4 (j := 194) rfl rfl)) (zi_t3 (j := 204) rfl rfl) (zi_t3 (j := 205) rfl rfl) (Or.inl ⟨_, rfl, rfl⟩)
theorem zV_127 : zi_gV zi_M 11 354 17 2 := zi_mkV zm_17 (Or.inl (zi_t4 (j := 195) rfl rfl)) (zi_t4 (j := 20) rfl rfl) (zi_t4 (j := 21) rfl rfl) (Or.inl ⟨_, rfl, rfl⟩)
theorem zV_128 : zi_gV zi_M 11 357 2001 1 := zi_mkV zm_2001 (Or.inl (zi_t4 (j := 208) rfl rfl)) (zi_t4 (j := 209) rfl rfl) (zi_t4 (j := 210) rfl rfl) (Or.inl ⟨_, rfl, rfl⟩)
theorem zV_129 : zi_gV zi_M 11 358 2002 2 := zi_mkV zm_2002 (Or.inl (zi_t4 (j := 217) rfl rfl)) (zi_t4 (j := 218) rfl rfl) (zi_t4 (j := 219) rfl rfl) (Or.inl ⟨_, rfl, rfl⟩)
theorem zV_130 : zi_gV zi_M 11 362 1808 1 := zi_mkV zm_1808 (Or.inl (zi_t5 (j := 15) rfl rfl)) (zi_t5 (j := 16) rfl rfl) (zi_t5 (j := 17) rfl rfl) (Or.inl ⟨_, rfl, rfl⟩)
theorem zV_131 : zi_gV zi_M 11 365 1810 1 := zi_mkV zm_1810 (Or.inl (zi_t5 (j := 27) rfl rfl)) (zi_t5 (j := 28) rfl rfl) (zi_t5 (j := 29) rfl rfl) (Or.inl ⟨_, rfl, rfl⟩)
theorem zV_132 : zi_gV zi_M 11 368 803 2 := zi_mkV zm_803 (Or.inl (zi_t5 (j := 35) rfl rfl)) (zi_t5 (j := 36) rfl rfl) (zi_t5 (j := 37) rfl rfl) (Or.inl ⟨_, rfl, rfl⟩)
theorem zV_133 : zi_gV zi_M 11 372 801 0 := zi_mkV zm_801 (Or.inl (zi_t5 (j := 39) rfl rfl)) (zi_t5 (j := 40) rfl rfl) (zi_t5 (j := 41) rfl rfl) (Or.inl ⟨_, rfl, rfl⟩)
theorem zV_134 : zi_gV zi_M 11 373 802 0 := zi_mkV zm_802 (Or.inl (zi_t5 (j := 47) rfl rfl)) (zi_t5 (j := 48) rfl rfl) (zi_t5 (j := 49) rfl rfl) (Or.inl ⟨_, rfl, rfl⟩)
theorem zV_135 : zi_gV zi_M 11 374 805 0 := zi_mkV zm_805 (Or.inl (zi_t5 (j := 55) rfl rfl)) (zi_t5 (j := 56) rfl rfl) (zi_t5 (j := 57) rfl rfl) (Or.inl ⟨_, rfl, rfl⟩)
theorem zV_136 : zi_gV zi_M 11 377 806 2 := zi_mkV zm_806 (Or.inl (zi_t5 (j := 63) rfl rfl)) (zi_t5 (j := 64) rfl rfl) (zi_t5 (j := 65) rfl rfl) (Or.inl ⟨_, rfl, rfl⟩)
theorem zV_137 : zi_gV zi_M 11 380 807 0 := zi_mkV zm_807 (Or.inl (zi_t5 (j := 76) rfl rfl)) (zi_t5 (j := 77) rfl rfl) (zi_t5 (j := 78) rfl rfl) (Or.inl ⟨_, rfl, rfl⟩)
theorem zV_138 : zi_gV zi_M 11 402 2250 3 := zi_mkV zm_2250 (Or.inl (zi_t5 (j := 126) rfl rfl)) (zi_t5 (j := 128) rfl rfl) (zi_s3 (j := 7) rfl) (Or.inl ⟨_, rfl, rfl⟩)
theorem zV_139 : zi_gV zi_M 11 428 1001 0 := zi_mkV zm_1001 (Or.inl (zi_t5 (j := 155) rfl rfl)) (zi_t5 (j := 156) rfl rfl) (zi_t5 (j := 157) rfl rfl) (Or.inl ⟨_, rfl, rfl⟩)
theorem zV_140 : zi_gV zi_M 11 429 1002 1 := zi_mkV zm_1002 (Or.inl (zi_t6 (j := 9) rfl rfl)) (zi_t6 (j := 10) rfl rfl) (zi_t6 (j := 11) rfl rfl) (Or.inl ⟨_, rfl, rfl⟩)
theorem zV_141 : zi_gV zi_M 12 156 3000 0 := zi_mkV zm_3000 (Or.inl (zi_t7 (j := 41) rfl rfl)) (zi_t3 (j := 56) rfl rfl) (zi_t3 (j := 57) rfl rfl) (Or.inr rfl)
theorem zV_142 : zi_gV zi_M 12 162 3001 1 := zi_mkV zm_3001 (Or.inl (zi_t7 (j := 42) rfl rfl)) (zi_t7 (j := 43) rfl rfl) (zi_t7 (j := 44) rfl rfl) (Or.inr rfl)
theorem zV_143 : zi_gV zi_M 12 166 2422 1 := zi_mkV zm_2422 (Or.inl (zi_t7 (j := 37) rfl rfl)) (zi_t7 (j := 39) rfl rfl) (zi_s4 (j := 8) rfl) (Or.inl ⟨_, rfl, rfl⟩)
theorem zV_144 : zi_gV zi_M 12 170 2421 0 := zi_mkV zm_2421 (Or.inl (zi_t6 (j := 230) rfl rfl)) (zi_t6 (j := 232) rfl rfl) (zi_s4 (j := 0) rfl) (Or.inl ⟨_, rfl, rfl⟩)
theorem zV_145 : zi_gV zi_M 12 177 2425 3 := zi_mkV zm_2425 (Or.inl (zi_t6 (j := 211) rfl rfl)) (zi_t6 (j := 213) rfl rfl) (zi_s3 (j := 12) rfl) (Or.inl ⟨_, rfl, rfl⟩)
theorem zV_146 : zi_gV zi_M 12 181 2420 1 := zi_mkV zm_2420 (Or.inl (zi_t6 (j := 219) rfl rfl)) (zi_t6 (j := 221) rfl rfl) (zi_s3 (j := 14) rfl) (Or.inl ⟨_, rfl, rfl⟩)
theorem zV_147 : zi_gV zi_M 12 185 2424 1 := zi_mkV zm_2424 (Or.inl (zi_t6 (j := 226) rfl rfl)) (zi_t6 (j := 228) rfl rfl) (zi_s3 (j := 15) rfl) (Or.inl ⟨_, rfl, rfl⟩)
theorem zV_148 : zi_gV zi_M 12 189 2419 1 := zi_mkV zm_2419 (Or.inl (zi_t6 (j := 202) rfl rfl)) (zi_t6 (j := 204) rfl rfl) (zi_s3 (j := 10) rfl) (Or.inl ⟨_, rfl, rfl⟩)
theorem zV_149 : zi_gV zi_M 12 192 2427 0 := zi_mkV zm_2427 (Or.inl (zi_t6 (j := 207) rfl rfl)) (zi_t6 (j := 209) rfl rfl) (zi_s3 (j := 11) rfl) (Or.inl ⟨_, rfl, rfl⟩)
theorem zV_150 : zi_gV zi_M 12 195 2428 0 := zi_mkV zm_2428 (Or.inl (zi_t6 (j := 215) rfl rfl)) (zi_t6 (j := 217) rfl rfl) (zi_s3 (j := 13) rfl) (Or.inl ⟨_, rfl, rfl⟩)
theorem zV_151 : zi_gV zi_M 12 198 2429 0 := zi_mkV zm_2429 (Or.inl (zi_t6 (j := 236) rfl rfl)) (zi_t6 (j := 238) rfl rfl) (zi_s4 (j := 1) rfl) (Or.inl ⟨_, rfl, rfl⟩)
theorem zV_152 : zi_gV zi_M 12 201 2426 3 := zi_mkV zm_2426 (Or.inl (zi_t7 (j := 0) rfl rfl)) (zi_t7 (j := 2) rfl rfl) (zi_s4 (j := 2) rfl) (Or.inl ⟨_, rfl, rfl⟩)
theorem zV_153 : zi_gV zi_M 12 211 2430 2 := zi_mkV zm_2430 (Or.inl (zi_t6 (j := 198) rfl rfl)) (zi_t6 (j := 200) rfl rfl) (zi_s3 (j := 9) rfl) (Or.inl ⟨_, rfl, rfl⟩)
theorem zV_154 : zi_gV zi_M 12 214 2431 0 := zi_mkV zm_2431 (Or.inl (zi_t7 (j := 4) rfl rfl)) (zi_t7 (j := 6) rfl rfl) (zi_s4 (j := 3) rfl) (Or.inl ⟨_, rfl, rfl⟩)
theorem zV_155 : zi_gV zi_M 12 220 2436 0 := zi_mkV zm_2436 (Or.inl (zi_t7 (j := 24) rfl rfl)) (zi_t7 (j := 26) rfl rfl) (zi_s4 (j := 5) rfl) (Or.inl ⟨_, rfl, rfl⟩)
theorem zV_156 : zi_gV zi_M 12 223 2435 1 := zi_mkV zm_2435 (Or.inl (zi_t7 (j := 28) rfl rfl)) (zi_t7 (j := 30) rfl rfl) (zi_s4 (j := 6) rfl) (Or.inl ⟨_, rfl, rfl⟩)
theorem zV_157 : zi_gV zi_M 12 229 2423 1 := zi_mkV zm_2423 (Or.inl (zi_t7 (j := 33) rfl rfl)) (zi_t7 (j := 35) rfl rfl) (zi_s4 (j := 7) rfl) (Or.inl ⟨_, rfl, rfl⟩)
theorem zV_158 : zi_gV zi_M 12 232 2437 1 := zi_mkV zm_2437 (Or.inl (zi_t7 (j := 20) rfl rfl)) (zi_t7 (j := 22) rfl rfl) (zi_s4 (j := 4) rfl) (Or.inl ⟨_, rfl, rfl⟩)
theorem zV_159 : zi_gV zi_M 12 257 2415 2 := zi_mkV zm_2415 (Or.inl (zi_t7 (j := 108) rfl rfl)) (zi_t7 (j := 110) rfl rfl) (zi_s4 (j := 14) rfl) (Or.inl ⟨_, rfl, rfl⟩)
theorem zV_160 : zi_gV zi_M 12 260 2441 2 := zi_mkV zm_2441 (Or.inl (zi_t7 (j := 193) rfl rfl)) (zi_t7 (j := 195) rfl rfl) (zi_s5 (j := 11) rfl) (Or.inl ⟨_, rfl, rfl⟩)
theorem zV_161 : zi_gV zi_M 12 268 2440 0 := zi_mkV zm_2440 (Or.inl (zi_t7 (j := 198) rfl rfl)) (zi_t7 (j := 200) rfl rfl) (zi_s5 (j := 12) rfl) (Or.inl ⟨_, rfl, rfl⟩)
theorem zV_162 : zi_gV zi_M 12 274 2445 4 := zi_mkV zm_2445 (Or.inl (zi_t7 (j := 175) rfl rfl)) (zi_t7 (j := 177) rfl rfl) (zi_s5 (j := 8) rfl) (Or.inl ⟨_, rfl, rfl⟩)
theorem zV_163 : zi_gV zi_M 12 278 2444 3 := zi_mkV zm_2444 (Or.inl (zi_t7 (j := 182) rfl rfl)) (zi_t7 (j := 184) rfl rfl) (zi_s5 (j := 9) rfl) (Or.inl ⟨_, rfl, rfl⟩)
theorem zV_164 : zi_gV zi_M 12 282 2443 2 := zi_mkV zm_2443 (Or.inl (zi_t7 (j := 171) rfl rfl)) (zi_t7 (j := 173) rfl rfl) (zi_s5 (j := 7) rfl) (Or.inl ⟨_, rfl, rfl⟩)
theorem zV_165 : zi_gV zi_M 12 286 2407 1 := zi_mkV zm_2407 (Or.inl (zi_t7 (j := 209) rfl rfl)) (zi_t7 (j := 211) rfl rfl) (zi_s5 (j := 14) rfl) (Or.inl ⟨_, rfl, rfl⟩)
theorem zV_166 : zi_gV zi_M 12 290 2408 1 := zi_mkV zm_2408 (Or.inl (zi_t7 (j := 69) rfl rfl)) (zi_t7 (j := 71) rfl rfl) (zi_s4 (j := 9) rfl) (Or.inl ⟨_, rfl, rfl⟩)
theorem zV_167 : zi_gV zi_M 12 295 2402 0 := zi_mkV zm_2402 (Or.inl (zi_t7 (j := 74) rfl rfl)) (zi_t7 (j := 76) rfl rfl) (zi_s4 (j := 10) rfl) (Or.inl ⟨_, rfl, rfl⟩)
theorem zV_168 : zi_gV zi_M 12 298 2409 1 := zi_mkV zm_2409 (Or.inl (zi_t7 (j := 82) rfl rfl)) (zi_t7 (j := 84) rfl rfl) (zi_s4 (j := 11) rfl) (Or.inl ⟨_, rfl, rfl⟩)
theorem zV_169 : zi_gV zi_M 12 301 2416 1 := zi_mkV zm_2416 (Or.inl (zi_t7 (j := 89) rfl rfl)) (zi_t7 (j := 91) rfl rfl) (zi_s4 (j := 12) rfl) (Or.inl ⟨_, rfl, rfl⟩)
theorem zV_170 : zi_gV zi_M 12 304 2410 1 := zi_mkV zm_2410 (Or.inl (zi_t7 (j := 103) rfl rfl)) (zi_t7 (j := 105) rfl rfl) (zi_s4 (j := 13) rfl) (Or.inl ⟨_, rfl, rfl⟩)
theorem zV_171 : zi_gV zi_M 12 313 2454 1 := zi_mkV zm_2454 (Or.inl (zi_t7 (j := 143) rfl rfl)) (zi_t7 (j := 145) rfl rfl) (zi_s5 (j := 2) rfl) (Or.inl ⟨_, rfl, rfl⟩)
theorem zV_172 : zi_gV zi_M 12 316 2446 3 := zi_mkV zm_2446 (Or.inl (zi_t7 (j := 167) rfl rfl)) (zi_t7 (j := 169) rfl rfl) (zi_s5 (j := 6) rfl) (Or.inl ⟨_, rfl, rfl⟩)
theorem zV_173 : zi_gV zi_M 12 322 2460 3 := zi_mkV zm_2460 (Or.inl (zi_t7 (j := 163) rfl rfl)) (zi_t7 (j := 165) rfl rfl) (zi_s5 (j := 5) rfl) (Or.inl ⟨_, rfl, rfl⟩)
theorem zV_174 : zi_gV zi_M 12 326 2442 4 := zi_mkV zm_2442 (Or.inl (zi_t7 (j := 189) rfl rfl)) (zi_t7 (j := 191) rfl rfl) (zi_s5 (j := 10) rfl) (Or.inl ⟨_, rfl, rfl⟩)
theorem zV_175 : zi_gV zi_M 12 330 2453 0 := zi_mkV zm_2453 (Or.inl (zi_t7 (j := 131) rfl rfl)) (zi_t7 (j := 133) rfl rfl) (zi_s4 (j := 15) rfl) (Or.inl ⟨_, rfl, rfl⟩)
theorem zV_176 : zi_gV zi_M 12 333 2457 3 := zi_mkV zm_2457 (Or.inl (zi_t7 (j := 135) rfl rfl)) (zi_t7 (j := 137) rfl rfl) (zi_s5 (j := 0) rfl) (Or.inl ⟨_, rfl, rfl⟩)
theorem zV_177 : zi_gV zi_M 12 336 2455 1 := zi_mkV zm_2455 (Or.inl (zi_t7 (j := 139) rfl rfl)) (zi_t7 (j := 141) rfl rfl) (zi_s5 (j := 1) rfl) (Or.inl ⟨_, rfl, rfl⟩)
theorem zV_178 : zi_gV zi_M 12 339 2458 2 := zi_mkV zm_2458 (Or.inl (zi_t7 (j := 151) rfl rfl)) (zi_t7 (j := 153) rfl rfl) (zi_s5 (j := 3) rfl) (Or.inl ⟨_, rfl, rfl⟩)
theorem zV_179 : zi_gV zi_M 12 342 2461 3 := zi_mkV zm_2461 (Or.inl (zi_t7 (j := 159) rfl rfl)) (zi_t7 (j := 161) rfl rfl) (zi_s5 (j := 4) rfl) (Or.inl ⟨_, rfl, rfl⟩)
theorem zV_180 : zi_gV zi_M 12 345 2447 0 := zi_mkV zm_2447 (Or.inl (zi_t7 (j := 205) rfl rfl)) (zi_t7 (j := 207) rfl rfl) (zi_s5 (j := 13) rfl) (Or.inl ⟨_, rfl, rfl⟩)
theorem zV_181 : zi_gV zi_M 12 350 2462 2 := zi_mkV zm_2462 (Or.inl (zi_t7 (j := 218) rfl rfl)) (zi_t7 (j := 220) rfl rfl) (zi_s5 (j := 15) rfl) (Or.inl ⟨_, rfl, rfl⟩)
theorem zV_182 : zi_gV zi_M 12 362 2467 0 := zi_mkV zm_2467 (Or.inl (zi_t7 (j := 226) rfl rfl)) (zi_t7 (j := 228) rfl rfl) (zi_s6 (j := 0) rfl) (Or.inl ⟨_, rfl, rfl⟩)
theorem zV_183 : zi_gV zi_M 12 365 2468 1 := zi_mkV zm_2468 (Or.inl (zi_t7 (j := 231) rfl rfl)) (zi_t7 (j := 233) rfl rfl) (zi_s6 (j := 1) rfl) (Or.inl ⟨_, rfl, rfl⟩)
theorem zV_184 : zi_gV zi_M 12 368 2470 2 := zi_mkV zm_2470 (Or.inl (zi_t7 (j := 239) rfl rfl)) (zi_t8 (j := 1) rfl rfl) (zi_s6 (j := 2) rfl) (Or.inl ⟨_, rfl, rfl⟩)
theorem zV_185 : zi_gV zi_M 12 373 2474 3 := zi_mkV zm_2474 (Or.inl (zi_t8 (j := 15) rfl rfl)) (zi_t8 (j := 17) rfl rfl) (zi_s6 (j := 3) rfl) (Or.inl ⟨_, rfl, rfl⟩)
theorem zV_186 : zi_gV zi_M 12 377 2476 1 := zi_mkV zm_2476 (Or.inl (zi_t8 (j := 36) rfl rfl)) (zi_t8 (j := 38) rfl rfl) (zi_s6 (j := 7) rfl) (Or.inl ⟨_, rfl, rfl⟩)
theorem zV_187 : zi_gV zi_M 12 380 2477 2 := zi_mkV zm_2477 (Or.inl (zi_t8 (j := 32) rfl rfl)) (zi_t8 (j := 34) rfl rfl) (zi_s6 (j := 6) rfl) (Or.inl ⟨_, rfl, rfl⟩)
theorem zV_188 : zi_gV zi_M 12 383 2479 1 := zi_mkV zm_2479 (Or.inl (zi_t8 (j := 24) rfl rfl)) (zi_t8 (j := 26) rfl rfl) (zi_s6 (j := 4) rfl) (Or.inl ⟨_, rfl, rfl⟩)
theorem zV_189 : zi_gV zi_M 12 386 2478 3 := zi_mkV zm_2478 (Or.inl (zi_t8 (j := 28) rfl rfl)) (zi_t8 (j := 30) rfl rfl) (zi_s6 (j := 5) rfl) (Or.inl ⟨_, rfl, rfl⟩)
theorem zV_190 : zi_gV zi_M 12 395 2411 1 := zi_mkV zm_2411 (Or.inl (zi_t8 (j := 44) rfl rfl)) (zi_t8 (j := 46) rfl rfl) (zi_s6 (j := 8) rfl) (Or.inl ⟨_, rfl, rfl⟩)
theorem zV_191 : zi_gV zi_M 12 398 2481 0 := zi_mkV zm_2481 (Or.inl (zi_t8 (j := 48) rfl rfl)) (zi_t8 (j := 50) rfl rfl) (zi_s6 (j := 9) rfl) (Or.inl ⟨_, rfl, rfl⟩)
theorem zV_192 : zi_gV zi_M 12 401 2482 2 := zi_mkV zm_2482 (Or.inl (zi_t8 (j := 52) rfl rfl)) (zi_t8 (j := 54) rfl rfl) (zi_s6 (j := 10) rfl) (Or.inl ⟨_, rfl, rfl⟩)
theorem zV_193 : zi_gV zi_M 12 404 2484 3 := zi_mkV zm_2484 (Or.inl (zi_t8 (j := 60) rfl rfl)) (zi_t8 (j := 62) rfl rfl) (zi_s6 (j := 11) rfl) (Or.inl ⟨_, rfl, rfl⟩)
theorem zV_194 : zi_gV zi_M 12 420 2489 4 := zi_mkV zm_2489 (Or.inl (zi_t8 (j := 77) rfl rfl)) (zi_t8 (j := 79) rfl rfl) (zi_s6 (j := 13) rfl) (Or.inl ⟨_, rfl, rfl⟩)
theorem zV_195 : zi_gV zi_M 12 426 2490 0 := zi_mkV zm_2490 (Or.inl (zi_t8 (j := 73) rfl rfl)) (zi_t8 (j := 75) rfl rfl) (zi_s6 (j := 12) rfl) (Or.inl ⟨_, rfl, rfl⟩)
theorem zV_196 : zi_gV zi_M 12 429 2492 0 := zi_mkV zm_2492 (Or.inl (zi_t8 (j := 92) rfl rfl)) (zi_t8 (j := 94) rfl rfl) (zi_s6 (j := 14) rfl) (Or.inl ⟨_, rfl, rfl⟩)
theorem zV_197 : zi_gV zi_M 12 435 2496 1 := zi_mkV zm_2496 (Or.inl (zi_t8 (j := 112) rfl rfl)) (zi_t8 (j := 114) rfl rfl) (zi_s7 (j := 0) rfl) (Or.inl ⟨_, rfl, rfl⟩)
theorem zV_198 : zi_gV zi_M 12 438 2497 0 := zi_mkV zm_2497 (Or.inl (zi_t8 (j := 108) rfl rfl)) (zi_t8 (j := 110) rfl rfl) (zi_s6 (j := 15) rfl) (Or.inl ⟨_, rfl, rfl⟩)
theorem zV_199 : zi_gV zi_M 12 441 2500 2 := zi_mkV zm_2500 (Or.inl (zi_t8 (j := 128) rfl rfl)) (zi_t8 (j := 130) rfl rfl) (zi_s7 (j := 2) rfl) (Or.inl ⟨_, rfl, rfl⟩)
theorem zV_200 : zi_gV zi_M 12 444 2501 4 := zi_mkV zm_2501 (Or.inl (zi_t8 (j := 124) rfl rfl)) (zi_t8 (j := 126) rfl rfl) (zi_s7 (j := 1) rfl) (Or.inl ⟨_, rfl, rfl⟩)
theorem zV_201 : zi_gV zi_M 12 460 2503 2 := zi_mkV zm_2503 (Or.inl (zi_t8 (j := 138) rfl rfl)) (zi_t8 (j := 140) rfl rfl) (zi_s7 (j := 3) rfl) (Or.inl ⟨_, rfl, rfl⟩)
theorem zV_202 : zi_gV zi_M 12 478 2513 0 := zi_mkV zm_2513 (Or.inl (zi_t8 (j := 185) rfl rfl)) (zi_t8 (j := 187) rfl rfl) (zi_s7 (j := 4) rfl) (Or.inl ⟨_, rfl, rfl⟩)
theorem zV_203 : zi_gV zi_M 13 7 2207 2 := zi_mkV zm_2207 (Or.inl (zi_t5 (j := 163) rfl rfl)) (zi_t5 (j := 164) rfl rfl) (zi_t5 (j := 165) rfl rfl) (Or.inl ⟨_, rfl, rfl⟩)
theorem zV_204 : zi_gV zi_M 13 15 2208 2 := zi_mkV zm_2208 (Or.inl (zi_t5 (j := 231) rfl rfl)) (zi_t5 (j := 232) rfl rfl) (zi_t5 (j := 233) rfl rfl) (Or.inl ⟨_, rfl, rfl⟩)
theorem zV_205 : zi_gV zi_M 13 18 2209 2 := zi_mkV zm_2209 (Or.inl (zi_t5 (j := 238) rfl rfl)) (zi_t5 (j := 239) rfl rfl) (zi_t6 (j := 0) rfl rfl) (Or.inl ⟨_, rfl, rfl⟩)
theorem zV_206 : zi_gV zi_M 13 21 2261 1 := zi_mkV zm_2261 (Or.inl (zi_t6 (j := 5) rfl rfl)) (zi_t6 (j := 6) rfl rfl) (zi_t6 (j := 7) rfl rfl) (Or.inl ⟨_, rfl, rfl⟩)
theorem zV_207 : zi_gV zi_M 13 29 2201 1 := zi_mkV zm_2201 (Or.inl (zi_t2 (j := 129) rfl rfl)) (zi_t2 (j := 130) rfl rfl) (zi_t2 (j := 131) rfl rfl) (Or.inl ⟨_, rfl, rfl⟩)
theorem zV_208 : zi_gV zi_M 13 33 2417 1 := zi_mkV zm_2417 (Or.inl (zi_t6 (j := 183) rfl rfl)) (zi_t6 (j := 184) rfl rfl) (zi_t6 (j := 185) rfl rfl) (Or.inl ⟨_, rfl, rfl⟩)
theorem zV_209 : zi_gV zi_M 13 34 2202 1 := zi_mkV zm_2202 (Or.inl (zi_t2 (j := 141) rfl rfl)) (zi_t2 (j := 142) rfl rfl) (zi_t2 (j := 143) rfl rfl) (Or.inl ⟨_, rfl, rfl⟩)
theorem zV_210 : zi_gV zi_M 13 38 2418 1 := zi_mkV zm_2418 (Or.inl (zi_t6 (j := 187) rfl rfl)) (zi_t6 (j := 188) rfl rfl) (zi_t6 (j := 189) rfl rfl) (Or.inl ⟨_, rfl, rfl⟩)
theorem zV_211 : zi_gV zi_M 13 39 2203 0 := zi_mkV zm_2203 (Or.inl (zi_t2 (j := 149) rfl rfl)) (zi_t2 (j := 150) rfl rfl) (zi_t2 (j := 151) rfl rfl) (Or.inl ⟨_, rfl, rfl⟩)
theorem zV_212 : zi_gV zi_M 13 43 2432 0 := zi_mkV zm_2432 (Or.inl (zi_t6 (j := 194) rfl rfl)) (zi_t6 (j := 195) rfl rfl) (zi_t6 (j := 196) rfl rfl) (Or.inl ⟨_, rfl, rfl⟩)
theorem zV_213 : zi_gV zi_M 13 44 2204 0 := zi_mkV zm_2204 (Or.inl (zi_t2 (j := 234) rfl rfl)) (zi_t2 (j := 235) rfl rfl) (zi_t2 (j := 236) rfl rfl) (Or.inl ⟨_, rfl, rfl⟩)
theorem zV_214 : zi_gV zi_M 13 47 2433 0 := zi_mkV zm_2433 (Or.inl (zi_t7 (j := 8) rfl rfl)) (zi_t7 (j := 9) rfl rfl) (zi_t7 (j := 10) rfl rfl) (Or.inl ⟨_, rfl, rfl⟩)
theorem zV_215 : zi_gV zi_M 13 48 2205 0 := zi_mkV zm_2205 (Or.inl (zi_t2 (j := 238) rfl rfl)) (zi_t2 (j := 239) rfl rfl) (zi_t3 (j := 0) rfl rfl) (Or.inl ⟨_, rfl, rfl⟩)
theorem zV_216 : zi_gV zi_M 13 51 2434 0 := zi_mkV zm_2434 (Or.inl (zi_t7 (j := 12) rfl rfl)) (zi_t7 (j := 13) rfl rfl) (zi_t7 (j := 14) rfl rfl) (Or.inl ⟨_, rfl, rfl⟩)
theorem zV_217 : zi_gV zi_M 13 52 2206 0 := zi_mkV zm_2206 (Or.inl (zi_t3 (j := 2) rfl rfl)) (zi_t3 (j := 3) rfl rfl) (zi_t3 (j := 4) rfl rfl) (Or.inl ⟨_, rfl, rfl⟩)
theorem zV_218 : zi_gV zi_M 13 55 2438 0 := zi_mkV zm_2438 (Or.inl (zi_t7 (j := 16) rfl rfl)) (zi_t7 (j := 17) rfl rfl) (zi_t7 (j := 18) rfl rfl) (Or.inl ⟨_, rfl, rfl⟩)
theorem zV_219 : zi_gV zi_M 13 61 2448 2 := zi_mkV zm_2448 (Or.inl (zi_t7 (j := 65) rfl rfl)) (zi_t7 (j := 66) rfl rfl) (zi_t7 (j := 67) rfl rfl) (Or.inl ⟨_, rfl, rfl⟩)
theorem zV_220 : zi_gV zi_M 13 62 2401 0 := zi_mkV zm_2401 (Or.inl (zi_t6 (j := 179) rfl rfl)) (zi_t6 (j := 180) rfl rfl) (zi_t6 (j := 181) rfl rfl) (Or.inl ⟨_, rfl, rfl⟩)
theorem zV_221 : zi_gV zi_M 13 67 2449 2 := zi_mkV zm_2449 (Or.inl (zi_t7 (j := 78) rfl rfl)) (zi_t7 (j := 79) rfl rfl) (zi_t7 (j := 80) rfl rfl) (Or.inl ⟨_, rfl, rfl⟩)
theorem zV_222 : zi_gV zi_M 13 70 2450 2 := zi_mkV zm_2450 (Or.inl (zi_t7 (j := 99) rfl rfl)) (zi_t7 (j := 100) rfl rfl) (zi_t7 (j := 101) rfl rfl) (Or.inl ⟨_, rfl, rfl⟩)
theorem zV_223 : zi_gV zi_M 13 71 2210 2 := zi_mkV zm_2210 (Or.inl (zi_t3 (j := 130) rfl rfl)) (zi_t3 (j := 131) rfl rfl) (zi_t3 (j := 132) rfl rfl) (Or.inl ⟨_, rfl, rfl⟩)
theorem zV_224 : zi_gV zi_M 13 74 2451 2 := zi_mkV zm_2451 (Or.inl (zi_t7 (j := 112) rfl rfl)) (zi_t7 (j := 113) rfl rfl) (zi_t7 (j := 114) rfl rfl) (Or.inl ⟨_, rfl, rfl⟩)
theorem zV_225 : zi_gV zi_M 13 75 2211 4 := zi_mkV zm_2211 (Or.inl (zi_t3 (j := 135) rfl rfl)) (zi_t3 (j := 136) rfl rfl) (zi_t3 (j := 137) rfl rfl) (Or.inl ⟨_, rfl, rfl⟩)
theorem zV_226 : zi_gV zi_M 13 79 2452 4 := zi_mkV zm_2452 (Or.inl (zi_t7 (j := 118) rfl rfl)) (zi_t7 (j := 119) rfl rfl) (zi_t7 (j := 120) rfl rfl) (Or.inl ⟨_, rfl, rfl⟩)
theorem zV_227 : zi_gV zi_M 13 80 2214 2 := zi_mkV zm_2214 (Or.inl (zi_t3 (j := 148) rfl rfl)) (zi_t3 (j := 149) rfl rfl) (zi_t3 (j := 150) rfl rfl) (Or.inl ⟨_, rfl, rfl⟩)
theorem zV_228 : zi_gV zi_M 13 83 2463 2 := zi_mkV zm_2463 (Or.inl (zi_t7 (j := 127) rfl rfl)) (zi_t7 (j := 128) rfl rfl) (zi_t7 (j := 129) rfl rfl) (Or.inl ⟨_, rfl, rfl⟩)
theorem zV_229 : zi_gV zi_M 13 84 2215 1 := zi_mkV zm_2215 (Or.inl (zi_t3 (j := 178) rfl rfl)) (zi_t3 (j := 179) rfl rfl) (zi_t3 (j := 180) rfl rfl) (Or.inl ⟨_, rfl, rfl⟩)
theorem zV_230 : zi_gV zi_M 13 87 2464 1 := zi_mkV zm_2464 (Or.inl (zi_t7 (j := 147) rfl rfl)) (zi_t7 (j := 148) rfl rfl) (zi_t7 (j := 149) rfl rfl) (Or.inl ⟨_, rfl, rfl⟩)
theorem zV_231 : zi_gV zi_M 13 88 2216 2 := zi_mkV zm_2216 (Or.inl (zi_t3 (j := 190) rfl rfl)) (zi_t3 (j := 191) rfl rfl) (zi_t3 (j := 192) rfl rfl) (Or.inl ⟨_, rfl, rfl⟩)
theorem zV_232 : zi_gV zi_M 13 91 2465 2 := zi_mkV zm_2465 (Or.inl (zi_t7 (j := 155) rfl rfl)) (zi_t7 (j := 156) rfl rfl) (zi_t7 (j := 157) rfl rfl) (Or.inl ⟨_, rfl, rfl⟩)
theorem zV_233 : zi_gV zi_M 13 92 2217 1 := zi_mkV zm_2217 (Or.inl (zi_t4 (j := 54) rfl rfl)) (zi_t4 (j := 55) rfl rfl) (zi_t4 (j := 56) rfl rfl) (Or.inl ⟨_, rfl, rfl⟩)
theorem zV_234 : zi_gV zi_M 13 95 2466 1 := zi_mkV zm_2466 (Or.inl (zi_t7 (j := 213) rfl rfl)) (zi_t7 (j := 214) rfl rfl) (zi_t7 (j := 215) rfl rfl) (Or.inl ⟨_, rfl, rfl⟩)
theorem zV_235 : zi_gV zi_M 13 96 2218 0 := zi_mkV zm_2218 (Or.inl (zi_t4 (j := 67) rfl rfl)) (zi_t4 (j := 68) rfl rfl) (zi_t4 (j := 69) rfl rfl) (Or.inl ⟨_, rfl, rfl⟩)
theorem zV_236 : zi_gV zi_M 13 99 2469 0 := zi_mkV zm_2469 (Or.inl (zi_t7 (j := 222) rfl rfl)) (zi_t7 (j := 223) rfl rfl) (zi_t7 (j := 224) rfl rfl) (Or.inl ⟨_, rfl, rfl⟩)
theorem zV_237 : zi_gV zi_M 13 100 2219 0 := zi_mkV zm_2219 (Or.inl (zi_t4 (j := 89) rfl rfl)) (zi_t4 (j := 90) rfl rfl) (zi_t4 (j := 91) rfl rfl) (Or.inl ⟨_, rfl, rfl⟩)
theorem zV_238 : zi_gV zi_M 13 103 2456 0 := zi_mkV zm_2456 (Or.inl (zi_t7 (j := 123) rfl rfl)) (zi_t7 (j := 124) rfl rfl) (zi_t7 (j := 125) rfl rfl) (Or.inl ⟨_, rfl, rfl⟩)
theorem zV_239 : zi_gV zi_M 13 104 2228 2 := zi_mkV zm_2228 (Or.inl (zi_t4 (j := 101) rfl rfl)) (zi_t4 (j := 102) rfl rfl) (zi_t4 (j := 103) rfl rfl) (Or.inl ⟨_, rfl, rfl⟩)
theorem zV_240 : zi_gV zi_M 13 107 2471 2 := zi_mkV zm_2471 (Or.inl (zi_t7 (j := 235) rfl rfl)) (zi_t7 (j := 236) rfl rfl) (zi_t7 (j := 237) rfl rfl) (Or.inl ⟨_, rfl, rfl⟩)
theorem zV_241 : zi_gV zi_M 13 108 2229 2 := zi_mkV zm_2229 (Or.inl (zi_t4 (j := 109) rfl rfl)) (zi_t4 (j := 110) rfl rfl) (zi_t4 (j := 111) rfl rfl) (Or.inl ⟨_, rfl, rfl⟩)
theorem zV_242 : zi_gV zi_M 13 111 2472 2 := zi_mkV zm_2472 (Or.inl (zi_t8 (j := 3) rfl rfl)) (zi_t8 (j := 4) rfl rfl) (zi_t8 (j := 5) rfl rfl) (Or.inl ⟨_, rfl, rfl⟩)
theorem zV_243 : zi_gV zi_M 13 112 2230 2 := zi_mkV zm_2230 (Or.inl (zi_t4 (j := 124) rfl rfl)) (zi_t4 (j := 125) rfl rfl) (zi_t4 (j := 126) rfl rfl) (Or.inl ⟨_, rfl, rfl⟩)
theorem zV_244 : zi_gV zi_M 13 115 2473 2 := zi_mkV zm_2473 (Or.inl (zi_t8 (j := 7) rfl rfl)) (zi_t8 (j := 8) rfl rfl) (zi_t8 (j := 9) rfl rfl) (Or.inl ⟨_, rfl, rfl⟩)
theorem zV_245 : zi_gV zi_M 13 116 2231 2 := zi_mkV zm_2231 (Or.inl (zi_t4 (j := 132) rfl rfl)) (zi_t4 (j := 133) rfl rfl) (zi_t4 (j := 134) rfl rfl) (Or.inl ⟨_, rfl, rfl⟩)
theorem zV_246 : zi_gV zi_M 13 119 2475 2 := zi_mkV zm_2475 (Or.inl (zi_t8 (j := 11) rfl rfl)) (zi_t8 (j := 12) rfl rfl) (zi_t8 (j := 13) rfl rfl) (Or.inl ⟨_, rfl, rfl⟩)
theorem zV_247 : zi_gV zi_M 13 120 2232 2 := zi_mkV zm_2232 (Or.inl (zi_t4 (j := 140) rfl rfl)) (zi_t4 (j := 141) rfl rfl) (zi_t4 (j := 142) rfl rfl) (Or.inl ⟨_, rfl, rfl⟩)
theorem zV_248 : zi_gV zi_M 13 123 2480 2 := zi_mkV zm_2480 (Or.inl (zi_t8 (j := 20) rfl rfl)) (zi_t8 (j := 21) rfl rfl) (zi_t8 (j := 22) rfl rfl) (Or.inl ⟨_, rfl, rfl⟩)
theorem zV_249 : zi_gV zi_M 13 124 2236 2 := zi_mkV zm_2236 (Or.inl (zi_t4 (j := 176) rfl rfl)) (zi_t4 (j := 177) rfl rfl) (zi_t4 (j := 178) rfl rfl) (Or.inl ⟨_, rfl, rfl⟩)
theorem zV_250 : zi_gV zi_M 13 127 2483 2 := zi_mkV zm_2483 (Or.inl (zi_t8 (j := 40) rfl rfl)) (zi_t8 (j := 41) rfl rfl) (zi_t8 (j := 42) rfl rfl) (Or.inl ⟨_, rfl, rfl⟩)
theorem zV_251 : zi_gV zi_M 13 128 2237 2 := zi_mkV zm_2237 (Or.inl (zi_t4 (j := 196) rfl rfl)) (zi_t4 (j := 197) rfl rfl) (zi_t4 (j := 198) rfl rfl) (Or.inl ⟨_, rfl, rfl⟩)
theorem zV_252 : zi_gV zi_M 13 131 2485 2 := zi_mkV zm_2485 (Or.inl (zi_t8 (j := 56) rfl rfl)) (zi_t8 (j := 57) rfl rfl) (zi_t8 (j := 58) rfl rfl) (Or.inl ⟨_, rfl, rfl⟩)
theorem zV_253 : zi_gV zi_M 13 132 2238 2 := zi_mkV zm_2238 (Or.inl (zi_t4 (j := 200) rfl rfl)) (zi_t4 (j := 201) rfl rfl) (zi_t4 (j := 202) rfl rfl) (Or.inl ⟨_, rfl, rfl⟩)
theorem zV_254 : zi_gV zi_M 13 135 2486 2 := zi_mkV zm_2486 (Or.inl (zi_t8 (j := 64) rfl rfl)) (zi_t8 (j := 65) rfl rfl) (zi_t8 (j := 66) rfl rfl) (Or.inl ⟨_, rfl, rfl⟩)
theorem zV_255 : zi_gV zi_M 13 136 2239 1 := zi_mkV zm_2239 (Or.inl (zi_t4 (j := 204) rfl rfl)) (zi_t4 (j := 205) rfl rfl) (zi_t4 (j := 206) rfl rfl) (Or.inl ⟨_, rfl, rfl⟩)
theorem zV_256 : zi_gV zi_M 13 139 2491 1 := zi_mkV zm_2491 (Or.inl (zi_t8 (j := 68) rfl rfl)) (zi_t8 (j := 69) rfl rfl) (zi_t8 (j := 70) rfl rfl) (Or.inl ⟨_, rfl, rfl⟩)
theorem zV_257 : zi_gV zi_M 13 140 2240 0 := zi_mkV zm_2240 (Or.inl (zi_t5 (j := 11) rfl rfl)) (zi_t5 (j := 12) rfl rfl) (zi_t5 (j := 13) rfl rfl) (Or.inl ⟨_, rfl, rfl⟩)
theorem zV_258 : zi_gV zi_M 13 143 2493 0 := zi_mkV zm_2493 (Or.inl (zi_t8 (j := 88) rfl rfl)) (zi_t8 (j := 89) rfl rfl) (zi_t8 (j := 90) rfl rfl) (Or.inl ⟨_, rfl, rfl⟩)
theorem zV_259 : zi_gV zi_M 13 144 2241 2 := zi_mkV zm_2241 (Or.inl (zi_t5 (j := 31) rfl rfl)) (zi_t5 (j := 32) rfl rfl) (zi_t5 (j := 33) rfl rfl) (Or.inl ⟨_, rfl, rfl⟩)
theorem zV_260 : zi_gV zi_M 13 147 2494 2 := zi_mkV zm_2494 (Or.inl (zi_t8 (j := 96) rfl rfl)) (zi_t8 (j := 97) rfl rfl) (zi_t8 (j := 98) rfl rfl) (Or.inl ⟨_, rfl, rfl⟩)
theorem zV_261 : zi_gV zi_M 13 148 2242 0 := zi_mkV zm_2242 (Or.inl (zi_t5 (j := 43) rfl rfl)) (zi_t5 (j := 44) rfl rfl) (zi_t5 (j := 45) rfl rfl) (Or.inl ⟨_, rfl, rfl⟩)
theorem zV_262 : zi_gV zi_M 13 151 2495 0 := zi_mkV zm_2495 (Or.inl (zi_t8 (j := 100) rfl rfl)) (zi_t8 (j := 101) rfl rfl) (zi_t8 (j := 102) rfl rfl) (Or.inl ⟨_, rfl, rfl⟩)
theorem zV_263 : zi_gV zi_M 13 152 2243 0 := zi_mkV zm_2243 (Or.inl (zi_t5 (j := 51) rfl rfl)) (zi_t5 (j := 52) rfl rfl) (zi_t5 (j := 53) rfl rfl) (Or.inl ⟨_, rfl, rfl⟩)
theorem zV_264 : zi_gV zi_M 13 155 2498 0 := zi_mkV zm_2498 (Or.inl (zi_t8 (j := 104) rfl rfl)) (zi_t8 (j := 105) rfl rfl) (zi_t8 (j := 106) rfl rfl) (Or.inl ⟨_, rfl, rfl⟩)
theorem zV_265 : zi_gV zi_M 13 156 2244 0 := zi_mkV zm_2244 (Or.inl (zi_t5 (j := 59) rfl rfl)) (zi_t5 (j := 60) rfl rfl) (zi_t5 (j := 61) rfl rfl) (Or.inl ⟨_, rfl, rfl⟩)
theorem zV_266 : zi_gV zi_M 13 159 2499 0 := zi_mkV zm_2499 (Or.inl (zi_t8 (j := 116) rfl rfl)) (zi_t8 (j := 117) rfl rfl) (zi_t8 (j := 118) rfl rfl) (Or.inl ⟨_, rfl, rfl⟩)
theorem zV_267 : zi_gV zi_M 13 160 2245 0 := zi_mkV zm_2245 (Or.inl (zi_t5 (j := 72) rfl rfl)) (zi_t5 (j := 73) rfl rfl) (zi_t5 (j := 74) rfl rfl) (Or.inl ⟨_, rfl, rfl⟩)
theorem zV_268 : zi_gV zi_M 13 163 2502 0 := zi_mkV zm_2502 (Or.inl (zi_t8 (j := 120) rfl rfl)) (zi_t8 (j := 121) rfl rfl) (zi_t8 (j := 122) rfl rfl) (Or.inl ⟨_, rfl, rfl⟩)
theorem zV_269 : zi_gV zi_M 13 164 2246 2 := zi_mkV zm_2246 (Or.inl (zi_t5 (j := 97) rfl rfl)) (zi_t5 (j := 98) rfl rfl) (zi_t5 (j := 99) rfl rfl) (Or.inl ⟨_, rfl, rfl⟩)
theorem zV_270 : zi_gV zi_M 13 167 2504 2 := zi_mkV zm_2504 (Or.inl (zi_t8 (j := 132) rfl rfl)) (zi_t8 (j := 133) rfl rfl) (zi_t8 (j := 134) rfl rfl) (Or.inl ⟨_, rfl, rfl⟩)
theorem zV_271 : zi_gV zi_M 13 168 2247 2 := zi_mkV zm_2247 (Or.inl (zi_t5 (j := 111) rfl rfl)) (zi_t5 (j := 112) rfl rfl) (zi_t5 (j := 113) rfl rfl) (Or.inl ⟨_, rfl, rfl⟩)
theorem zV_272 : zi_gV zi_M 13 171 2505 2 := zi_mkV zm_2505 (Or.inl (zi_t8 (j := 146) rfl rfl)) (zi_t8 (j := 147) rfl rfl) (zi_t8 (j := 148) rfl rfl) (Or.inl ⟨_, rfl, rfl⟩)
theorem zV_273 : zi_gV zi_M 13 172 2248 1 := zi_mkV zm_2248 (Or.inl (zi_t5 (j := 116) rfl rfl)) (zi_t5 (j := 117) rfl rfl) (zi_t5 (j := 118) rfl rfl) (Or.inl ⟨_, rfl, rfl⟩)
theorem zV_274 : zi_gV zi_M 13 175 2508 1 := zi_mkV zm_2508 (Or.inl (zi_t8 (j := 151) rfl rfl)) (zi_t8 (j := 152) rfl rfl) (zi_t8 (j := 153) rfl rfl) (Or.inl ⟨_, rfl, rfl⟩)
theorem zV_275 : zi_gV zi_M 13 176 2249 2 := zi_mkV zm_2249 (Or.inl (zi_t5 (j := 130) rfl rfl)) (zi_t5 (j := 131) rfl rfl) (zi_t5 (j := 132) rfl rfl) (Or.inl ⟨_, rfl, rfl⟩)
theorem zV_276 : zi_gV zi_M 13 179 2509 2 := zi_mkV zm_2509 (Or.inl (zi_t8 (j := 162) rfl rfl)) (zi_t8 (j := 163) rfl rfl) (zi_t8 (j := 164) rfl rfl) (Or.inl ⟨_, rfl, rfl⟩)
theorem zV_277 : zi_gV zi_M 13 180 2256 2 := zi_mkV zm_2256 (Or.inl (zi_t5 (j := 135) rfl rfl)) (zi_t5 (j := 136) rfl rfl) (zi_t5 (j := 137) rfl rfl) (Or.inl ⟨_, rfl, rfl⟩)
theorem zV_278 : zi_gV zi_M 13 183 2510 2 := zi_mkV zm_2510 (Or.inl (zi_t8 (j := 166) rfl rfl)) (zi_t8 (j := 167) rfl rfl) (zi_t8 (j := 168) rfl rfl) (Or.inl ⟨_, rfl, rfl⟩)
theorem zV_279 : zi_gV zi_M 13 184 2258 1 := zi_mkV zm_2258 (Or.inl (zi_t5 (j := 143) rfl rfl)) (zi_t5 (j := 144) rfl rfl) (zi_t5 (j := 145) rfl rfl) (Or.inl ⟨_, rfl, rfl⟩)
theorem zV_280 : zi_gV zi_M 13 187 2511 1 := zi_mkV zm_2511 (Or.inl (zi_t8 (j := 172) rfl rfl)) (zi_t8 (j := 173) rfl rfl) (zi_t8 (j := 174) rfl rfl) (Or.inl ⟨_, rfl, rfl⟩)
theorem zV_281 : zi_gV zi_M 13 188 2259 1 := zi_mkV zm_2259 (Or.inl (zi_t5 (j := 147) rfl rfl)) (zi_t5 (j := 148) rfl rfl) (zi_t5 (j := 149) rfl rfl) (Or.inl ⟨_, rfl, rfl⟩)
theorem zV_282 : zi_gV zi_M 13 191 2512 1 := zi_mkV zm_2512 (Or.inl (zi_t8 (j := 177) rfl rfl)) (zi_t8 (j := 178) rfl rfl) (zi_t8 (j := 179) rfl rfl) (Or.inl ⟨_, rfl, rfl⟩)
theorem zV_283 : zi_gV zi_M 13 192 2260 1 := zi_mkV zm_2260 (Or.inl (zi_t5 (j := 151) rfl rfl)) (zi_t5 (j := 152) rfl rfl) (zi_t5 (j := 153) rfl rfl) (Or.inl ⟨_, rfl, rfl⟩)
theorem zV_284 : zi_gV zi_M 13 195 2514 1 := zi_mkV zm_2514 (Or.inl (zi_t8 (j := 181) rfl rfl)) (zi_t8 (j := 182) rfl rfl) (zi_t8 (j := 183) rfl rfl) (Or.inl ⟨_, rfl, rfl⟩)
theorem zV_285 : zi_gV zi_M 13 199 2515 1 := zi_mkV zm_2515 (Or.inl (zi_t8 (j := 189) rfl rfl)) (zi_t8 (j := 190) rfl rfl) (zi_t8 (j := 191) rfl rfl) (Or.inl ⟨_, rfl, rfl⟩)
theorem zV_286 : zi_gV zi_M 15 335 3004 0 := zi_mkV zm_3004 (Or.inl (zi_t3 (j := 59) rfl rfl)) (zi_t3 (j := 60) rfl rfl) (zi_t3 (j := 61) rfl rfl) (Or.inr rfl)
theorem zV_287 : zi_gV zi_M 15 492 3005 0 := zi_mkV zm_3005 (Or.inl (zi_t3 (j := 49) rfl rfl)) (zi_t3 (j := 50) rfl rfl) (zi_t3 (j := 51) rfl rfl) (Or.inr rfl)
theorem zV_288 : zi_gV zi_M 15 505 3000 0 := zi_mkV zm_3000 (Or.inl (zi_t3 (j := 55) rfl rfl)) (zi_t3 (j := 56) rfl rfl) (zi_t3 (j := 57) rfl rfl) (Or.inr rfl)
theorem zV_289 : zi_gV zi_M 15 633 3003 2 := zi_mkV zm_3003 (Or.inl (zi_t3 (j := 45) rfl rfl)) (zi_t3 (j := 46) rfl rfl) (zi_t3 (j := 47) rfl rfl) (Or.inr rfl)
set_option maxRecDepth 100000 in
theorem zi_VT_ok : ∀ q ∈ zi_VT, zi_gV zi_M q.1 q.2.1 q.2.2.1 q.2.2.2 := List.forall_mem_cons.mpr ⟨zV_0, List.forall_mem_cons.mpr ⟨zV_1, List.forall_mem_cons.mpr ⟨zV_2, List.forall_mem_cons.mpr ⟨zV_3, List.forall_mem_cons.mpr ⟨zV_4, List.forall_mem_cons.mpr ⟨zV_5, List.forall_mem_cons.mpr ⟨zV_6, List.forall_mem_cons.mpr ⟨zV_7, List.forall_mem_cons.mpr ⟨zV_8, List.forall_mem_cons.mpr ⟨zV_9, List.forall_mem_cons.mpr ⟨zV_10, List.forall_mem_cons.mpr ⟨zV_11, List.forall_mem_cons.mpr ⟨zV_12, List.forall_mem_cons.mpr ⟨zV_13, List.forall_mem_cons.mpr ⟨zV_14, List.forall_mem_cons.mpr ⟨zV_15, List.forall_mem_cons.mpr ⟨zV_16, List.forall_mem_cons.mpr ⟨zV_17, List.forall_mem_cons.mpr ⟨zV_18, List.forall_mem_cons.mpr ⟨zV_19, List.forall_mem_cons.mpr ⟨zV_20, List.forall_mem_cons.mpr ⟨zV_21, List.forall_mem_cons.mpr ⟨zV_22, List.forall_mem_cons.mpr ⟨zV_23, List.forall_mem_cons.mpr ⟨zV_24, List.forall_mem_cons.mpr ⟨zV_25, List.forall_mem_cons.mpr ⟨zV_26, List.forall_mem_cons.mpr ⟨zV_27, List.forall_mem_cons.mpr ⟨zV_28, List.forall_mem_cons.mpr ⟨zV_29, List.forall_mem_cons.mpr ⟨zV_30, List.forall_mem_cons.mpr ⟨zV_31, List.forall_mem_cons.mpr ⟨zV_32, List.forall_mem_cons.mpr ⟨zV_33, List.forall_mem_cons.mpr ⟨zV_34, List.forall_mem_cons.mpr ⟨zV_35, List.forall_mem_cons.mpr ⟨zV_36, List.forall_mem_cons.mpr ⟨zV_37, List.forall_mem_cons.mpr ⟨zV_38, List.forall_mem_cons.mpr ⟨zV_39, List.forall_mem_cons.mpr ⟨zV_40, List.forall_mem_cons.mpr ⟨zV_41, List.forall_mem_cons.mpr ⟨zV_42, List.forall_mem_cons.mpr ⟨zV_43, List.forall_mem_cons.mpr ⟨zV_44, List.forall_mem_cons.mpr ⟨zV_45, List.forall_mem_cons.mpr ⟨zV_46, List.forall_mem_cons.mpr ⟨zV_47, List.forall_mem_cons.mpr ⟨zV_48, List.forall_mem_cons.mpr ⟨zV_49, List.forall_mem_cons.mpr ⟨zV_50, List.forall_mem_cons.mpr ⟨zV_51, List.forall_mem_cons.mpr ⟨zV_52, List.forall_mem_cons.mpr ⟨zV_53, List.forall_mem_cons.mpr ⟨zV_54, List.forall_mem_cons.mpr ⟨zV_55, List.forall_mem_cons.mpr ⟨zV_56, List.forall_mem_cons.mpr ⟨zV_57, List.forall_mem_cons.mpr ⟨zV_58, List.forall_mem_cons.mpr ⟨zV_59, List.forall_mem_cons.mpr ⟨zV_60, List.forall_mem_cons.mpr ⟨zV_61, List.forall_mem_cons.mpr ⟨zV_62, List.forall_mem_cons.mpr ⟨zV_63, List.forall_mem_cons.mpr ⟨zV_64, List.forall_mem_cons.mpr ⟨zV_65, List.forall_mem_cons.mpr ⟨zV_66, List.forall_mem_cons.mpr ⟨zV_67, List.forall_mem_cons.mpr ⟨zV_68, List.forall_mem_cons.mpr ⟨zV_69, List.forall_mem_cons.mpr ⟨zV_70, List.forall_mem_cons.mpr ⟨zV_71, List.forall_mem_cons.mpr ⟨zV_72, List.forall_mem_cons.mpr ⟨zV_73, List.forall_mem_cons.mpr ⟨zV_74, List.forall_mem_cons.mpr ⟨zV_75, List.forall_mem_cons.mpr ⟨zV_76, List.forall_mem_cons.mpr ⟨zV_77, List.forall_mem_cons.mpr ⟨zV_78, List.forall_mem_cons.mpr ⟨zV_79, List.forall_mem_cons.mpr ⟨zV_80, List.forall_mem_cons.mpr ⟨zV_81, List.forall_mem_cons.mpr ⟨zV_82, List.forall_mem_cons.mpr ⟨zV_83, List.forall_mem_cons.mpr ⟨zV_84, List.forall_mem_cons.mpr ⟨zV_85, List.forall_mem_cons.mpr ⟨zV_86, List.forall_mem_cons.mpr ⟨zV_87, List.forall_mem_cons.mpr ⟨zV_88, List.forall_mem_cons.mpr ⟨zV_89, List.forall_mem_cons.mpr ⟨zV_90, List.forall_mem_cons.mpr ⟨zV_91, List.forall_mem_cons.mpr ⟨zV_92, List.forall_mem_cons.mpr ⟨zV_93, List.forall_mem_cons.mpr ⟨zV_94, List.forall_mem_cons.mpr ⟨zV_95, List.forall_mem_cons.mpr ⟨zV_96, List.forall_mem_cons.mpr ⟨zV_97, List.forall_mem_cons.mpr ⟨zV_98, List.forall_mem_cons.mpr ⟨zV_99, List.forall_mem_cons.mpr ⟨zV_100, List.forall_mem_cons.mpr ⟨zV_101, List.forall_mem_cons.mpr ⟨zV_102, List.forall_mem_cons.mpr ⟨zV_103, List.forall_mem_cons.mpr ⟨zV_104, List.forall_mem_cons.mpr ⟨zV_105, List.forall_mem_cons.mpr ⟨zV_106, List.forall_mem_cons.mpr ⟨zV_107, List.forall_mem_cons.mpr ⟨zV_108, List.forall_mem_cons.mpr ⟨zV_109, List.forall_mem_cons.mpr ⟨zV_110, List.forall_mem_cons.mpr ⟨zV_111, List.forall_mem_cons.mpr ⟨zV_112, List.forall_mem_cons.mpr ⟨zV_113, List.forall_mem_cons.mpr ⟨zV_114, List.forall_mem_cons.mpr ⟨zV_115, List.forall_mem_cons.mpr ⟨zV_116, List.forall_mem_cons.mpr ⟨zV_117, List.forall_mem_cons.mpr ⟨zV_118, List.forall_mem_cons.mpr ⟨zV_119, List.forall_mem_cons.mpr ⟨zV_120, List.forall_mem_cons.mpr ⟨zV_121, List.forall_mem_cons.mpr ⟨zV_122, List.forall_mem_cons.mpr ⟨zV_123, List.forall_mem_cons.mpr ⟨zV_124, List.forall_mem_cons.mpr ⟨zV_125, List.forall_mem_cons.mpr ⟨zV_126, List.forall_mem_cons.mpr ⟨zV_127, List.forall_mem_cons.mpr ⟨zV_128, List.forall_mem_cons.mpr ⟨zV_129, List.forall_mem_cons.mpr ⟨zV_130, List.forall_mem_cons.mpr ⟨zV_131, List.forall_mem_cons.mpr ⟨zV_132, List.forall_mem_cons.mpr ⟨zV_133, List.forall_mem_cons.mpr ⟨zV_134, List.forall_mem_cons.mpr ⟨zV_135, List.forall_mem_cons.mpr ⟨zV_136, List.forall_mem_cons.mpr ⟨zV_137, List.forall_mem_cons.mpr ⟨zV_138, List.forall_mem_cons.mpr ⟨zV_139, List.forall_mem_cons.mpr ⟨zV_140, List.forall_mem_cons.mpr ⟨zV_141, List.forall_mem_cons.mpr ⟨zV_142, List.forall_mem_cons.mpr ⟨zV_143, List.forall_mem_cons.mpr ⟨zV_144, List.forall_mem_cons.mpr ⟨zV_145, List.forall_mem_cons.mpr ⟨zV_146, List.forall_mem_cons.mpr ⟨zV_147, List.forall_mem_cons.mpr ⟨zV_148, List.forall_mem_cons.mpr ⟨zV_149, List.forall_mem_cons.mpr ⟨zV_150, List.forall_mem_cons.mpr ⟨zV_151, List.forall_mem_cons.mpr ⟨zV_152, List.forall_mem_cons.mpr ⟨zV_153, List.forall_mem_cons.mpr ⟨zV_154, List.forall_mem_cons.mpr ⟨zV_155, List.forall_mem_cons.mpr ⟨zV_156, List.forall_mem_cons.mpr ⟨zV_157, List.forall_mem_cons.mpr ⟨zV_158, List.forall_mem_cons.mpr ⟨zV_159, List.forall_mem_cons.mpr ⟨zV_160, List.forall_mem_cons.mpr ⟨zV_161, List.forall_mem_cons.mpr ⟨zV_162, List.forall_mem_cons.mpr ⟨zV_163, List.forall_mem_cons.mpr ⟨zV_164, List.forall_mem_cons.mpr ⟨zV_165, List.forall_mem_cons.mpr ⟨zV_166, List.forall_mem_cons.mpr ⟨zV_167, List.forall_mem_cons.mpr ⟨zV_168, List.forall_mem_cons.mpr ⟨zV_169, List.forall_mem_cons.mpr ⟨zV_170, List.forall_mem_cons.mpr ⟨zV_171, List.forall_mem_cons.mpr ⟨zV_172, List.forall_mem_cons.mpr ⟨zV_173, List.forall_mem_cons.mpr ⟨zV_174, List.forall_mem_cons.mpr ⟨zV_175, List.forall_mem_cons.mpr ⟨zV_176, List.forall_mem_cons.mpr ⟨zV_177, List.forall_mem_cons.mpr ⟨zV_178, List.forall_mem_cons.mpr ⟨zV_179, List.forall_mem_cons.mpr ⟨zV_180, List.forall_mem_cons.mpr ⟨zV_181, List.forall_mem_cons.mpr ⟨zV_182, List.forall_mem_cons.mpr ⟨zV_183, List.forall_mem_cons.mpr ⟨zV_184, List.forall_mem_cons.mpr ⟨zV_185, List.forall_mem_cons.mpr ⟨zV_186, List.forall_mem_cons.mpr ⟨zV_187, List.forall_mem_cons.mpr ⟨zV_188, List.forall_mem_cons.mpr ⟨zV_189, List.forall_mem_cons.mpr ⟨zV_190, List.forall_mem_cons.mpr ⟨zV_191, List.forall_mem_cons.mpr ⟨zV_192, List.forall_mem_cons.mpr ⟨zV_193, List.forall_mem_cons.mpr ⟨zV_194, List.forall_mem_cons.mpr ⟨zV_195, List.forall_mem_cons.mpr ⟨zV_196, List.forall_mem_cons.mpr ⟨zV_197, List.forall_mem_cons.mpr ⟨zV_198, List.forall_mem_cons.mpr ⟨zV_199, List.forall_mem_cons.mpr ⟨zV_200, List.forall_mem_cons.mpr ⟨zV_201, List.forall_mem_cons.mpr ⟨zV_202, List.forall_mem_cons.mpr ⟨zV_203, List.forall_mem_cons.mpr ⟨zV_204, List.forall_mem_cons.mpr ⟨zV_205, List.forall_mem_cons.mpr ⟨zV_206, List.forall_mem_cons.mpr ⟨zV_207, List.forall_mem_cons.mpr ⟨zV_208, List.forall_mem_cons.mpr ⟨zV_209, List.forall_mem_cons.mpr ⟨zV_210, List.forall_mem_cons.mpr ⟨zV_211, List.forall_mem_cons.mpr ⟨zV_212, List.forall_mem_cons.mpr ⟨zV_213, List.forall_mem_cons.mpr ⟨zV_214, List.forall_mem_cons.mpr ⟨zV_215, List.forall_mem_cons.mpr ⟨zV_216, List.forall_mem_cons.mpr ⟨zV_217, List.forall_mem_cons.mpr ⟨zV_218, List.forall_mem_cons.mpr ⟨zV_219, List.forall_mem_cons.mpr ⟨zV_220, List.forall_mem_cons.mpr ⟨zV_221, List.forall_mem_cons.mpr ⟨zV_222, List.forall_mem_cons.mpr ⟨zV_223, List.forall_mem_cons.mpr ⟨zV_224, List.forall_mem_cons.mpr ⟨zV_225, List.forall_mem_cons.mpr ⟨zV_226, List.forall_mem_cons.mpr ⟨zV_227, List.forall_mem_cons.mpr ⟨zV_228, List.forall_mem_cons.mpr ⟨zV_229, List.forall_mem_cons.mpr ⟨zV_230, List.forall_mem_cons.mpr ⟨zV_231, List.forall_mem_cons.mpr ⟨zV_232, List.forall_mem_cons.mpr ⟨zV_233, List.forall_mem_cons.mpr ⟨zV_234, List.forall_mem_cons.mpr ⟨zV_235, List.forall_mem_cons.mpr ⟨zV_236, List.forall_mem_cons.mpr ⟨zV_237, List.forall_mem_cons.mpr ⟨zV_238, List.forall_mem_cons.mpr ⟨zV_239, List.forall_mem_cons.mpr ⟨zV_240, List.forall_mem_cons.mpr ⟨zV_241, List.forall_mem_cons.mpr ⟨zV_242, List.forall_mem_cons.mpr ⟨zV_243, List.forall_mem_cons.mpr ⟨zV_244, List.forall_mem_cons.mpr ⟨zV_245, List.forall_mem_cons.mpr ⟨zV_246, List.forall_mem_cons.mpr ⟨zV_247, List.forall_mem_cons.mpr ⟨zV_248, List.forall_mem_cons.mpr ⟨zV_249, List.forall_mem_cons.mpr ⟨zV_250, List.forall_mem_cons.mpr ⟨zV_251, List.forall_mem_cons.mpr ⟨zV_252, List.forall_mem_cons.mpr ⟨zV_253, List.forall_mem_cons.mpr ⟨zV_254, List.forall_mem_cons.mpr ⟨zV_255, List.forall_mem_cons.mpr ⟨zV_256, List.forall_mem_cons.mpr ⟨zV_257, List.forall_mem_cons.mpr ⟨zV_258, List.forall_mem_cons.mpr ⟨zV_259, List.forall_mem_cons.mpr ⟨zV_260, List.forall_mem_cons.mpr ⟨zV_261, List.forall_mem_cons.mpr ⟨zV_262, List.forall_mem_cons.mpr ⟨zV_263, List.forall_mem_cons.mpr ⟨zV_264, List.forall_mem_cons.mpr ⟨zV_265, List.forall_mem_cons.mpr ⟨zV_266, List.forall_mem_cons.mpr ⟨zV_267, List.forall_mem_cons.mpr ⟨zV_268, List.forall_mem_cons.mpr ⟨zV_269, List.forall_mem_cons.mpr ⟨zV_270, List.forall_mem_cons.mpr ⟨zV_271, List.forall_mem_cons.mpr ⟨zV_272, List.forall_mem_cons.mpr ⟨zV_273, List.forall_mem_cons.mpr ⟨zV_274, List.forall_mem_cons.mpr ⟨zV_275, List.forall_mem_cons.mpr ⟨zV_276, List.forall_mem_cons.mpr ⟨zV_277, List.forall_mem_cons.mpr ⟨zV_278, List.forall_mem_cons.mpr ⟨zV_279, List.forall_mem_cons.mpr ⟨zV_280, List.forall_mem_cons.mpr ⟨zV_281, List.forall_mem_cons.mpr ⟨zV_282, List.forall_mem_cons.mpr ⟨zV_283, List.forall_mem_cons.mpr ⟨zV_284, List.forall_mem_cons.mpr ⟨zV_285, List.forall_mem_cons.mpr ⟨zV_286, List.forall_mem_cons.mpr ⟨zV_287, List.forall_mem_cons.mpr ⟨zV_288, List.forall_mem_cons.mpr ⟨zV_289, fun _ h => absurd h List.not_mem_nil⟩⟩⟩⟩⟩⟩⟩⟩⟩⟩⟩⟩⟩⟩⟩⟩⟩⟩⟩⟩⟩⟩⟩⟩⟩⟩⟩⟩⟩⟩⟩⟩⟩⟩⟩⟩⟩⟩⟩⟩⟩⟩⟩⟩⟩⟩⟩⟩⟩⟩⟩⟩⟩⟩⟩⟩⟩⟩⟩⟩⟩⟩⟩⟩⟩⟩⟩⟩⟩⟩⟩⟩⟩⟩⟩⟩⟩⟩⟩⟩⟩⟩⟩⟩⟩⟩⟩⟩⟩⟩⟩⟩⟩⟩⟩⟩⟩⟩⟩⟩⟩⟩⟩⟩⟩⟩⟩⟩⟩⟩⟩⟩⟩⟩⟩⟩⟩⟩⟩⟩⟩⟩⟩⟩⟩⟩⟩⟩⟩⟩⟩⟩⟩⟩⟩⟩⟩⟩⟩⟩⟩⟩⟩⟩⟩⟩⟩⟩⟩⟩⟩⟩⟩⟩⟩⟩⟩⟩⟩⟩⟩⟩⟩⟩⟩⟩⟩⟩⟩⟩⟩⟩⟩⟩⟩⟩⟩⟩⟩⟩⟩⟩⟩⟩⟩⟩⟩⟩⟩⟩⟩⟩⟩⟩⟩⟩⟩⟩⟩⟩⟩⟩⟩⟩⟩⟩⟩⟩⟩⟩⟩⟩⟩⟩⟩⟩⟩⟩⟩⟩⟩⟩⟩⟩⟩⟩⟩⟩⟩⟩⟩⟩⟩⟩⟩⟩⟩⟩⟩⟩⟩⟩⟩⟩⟩⟩⟩⟩⟩⟩⟩⟩⟩⟩⟩⟩⟩⟩⟩⟩⟩⟩⟩⟩⟩⟩⟩⟩⟩⟩⟩⟩⟩⟩⟩⟩⟩⟩⟩⟩⟩⟩⟩⟩⟩⟩⟩⟩⟩⟩
theorem zI_0 : zi_gI zi_M 0 11 1400 0 := zi_mkI zm_1400 (Or.inr ⟨_, (zi_n1 (j := 76) rfl rfl)⟩) (zi_t1 (j := 77) rfl rfl) ⟨rfl, rfl⟩
theorem zI_1 : zi_gI zi_M 6 15 600 0 := zi_mkI zm_600 (Or.inr ⟨_, (zi_n2 (j := 72) rfl rfl)⟩) (zi_t1 (j := 154) rfl rfl) ⟨rfl, rfl⟩
theorem zI_2 : zi_gI zi_M 11 9 1600 0 := zi_mkI zm_1600 (Or.inr ⟨_, (zi_n1 (j := 36) rfl rfl)⟩) (zi_t1 (j := 37) rfl rfl) ⟨rfl, rfl⟩
theorem zI_3 : zi_gI zi_M 11 18 1000 0 := zi_mkI zm_1000 (Or.inr ⟨_, (zi_n1 (j := 56) rfl rfl)⟩) (zi_t1 (j := 57) rfl rfl) ⟨rfl, rfl⟩
theorem zI_4 : zi_gI zi_M 11 25 0 0 := zi_mkI zm_0 (Or.inr ⟨_, (zi_n1 (j := 70) rfl rfl)⟩) (zi_t1 (j := 71) rfl rfl) ⟨rfl, rfl⟩
theorem zI_5 : zi_gI zi_M 11 32 600 0 := zi_mkI zm_600 (Or.inr ⟨_, (zi_n1 (j := 153) rfl rfl)⟩) (zi_t1 (j := 154) rfl rfl) ⟨rfl, rfl⟩
theorem zI_6 : zi_gI zi_M 11 45 200 1 := zi_mkI zm_200 (Or.inl (zi_t1 (j := 201) rfl rfl)) (zi_t1 (j := 202) rfl rfl) ⟨rfl, rfl⟩
theorem zI_7 : zi_gI zi_M 11 54 1800 2 := zi_mkI zm_1800 (Or.inl (zi_t1 (j := 219) rfl rfl)) (zi_t1 (j := 220) rfl rfl) ⟨rfl, rfl⟩
theorem zI_8 : zi_gI zi_M 11 63 400 2 := zi_mkI zm_400 (Or.inl (zi_t2 (j := 2) rfl rfl)) (zi_t2 (j := 3) rfl rfl) ⟨rfl, rfl⟩
theorem zI_9 : zi_gI zi_M 11 70 800 1 := zi_mkI zm_800 (Or.inl (zi_t2 (j := 19) rfl rfl)) (zi_t2 (j := 20) rfl rfl) ⟨rfl, rfl⟩
theorem zI_10 : zi_gI zi_M 11 77 2000 0 := zi_mkI zm_2000 (Or.inr ⟨_, (zi_n2 (j := 44) rfl rfl)⟩) (zi_t2 (j := 45) rfl rfl) ⟨rfl, rfl⟩
theorem zI_11 : zi_gI zi_M 11 84 1200 0 := zi_mkI zm_1200 (Or.inl (zi_t2 (j := 66) rfl rfl)) (zi_t2 (j := 67) rfl rfl) ⟨rfl, rfl⟩
theorem zI_12 : zi_gI zi_M 13 25 2200 0 := zi_mkI zm_2200 (Or.inl (zi_t1 (j := 28) rfl rfl)) (zi_t1 (j := 29) rfl rfl) ⟨rfl, rfl⟩
theorem zI_13 : zi_gI zi_M 13 28 2400 0 := zi_mkI zm_2400 (Or.inl (zi_t6 (j := 15) rfl rfl)) (zi_t6 (j := 16) rfl rfl) ⟨rfl, rfl⟩
set_option maxRecDepth 100000 in
theorem zi_IT_ok : ∀ q ∈ zi_IT, zi_gI zi_M q.1 q.2.1 q.2.2.1 q.2.2.2 := List.forall_mem_cons.mpr ⟨zI_0, List.forall_mem_cons.mpr ⟨zI_1, List.forall_mem_cons.mpr ⟨zI_2, List.forall_mem_cons.mpr ⟨zI_3, List.forall_mem_cons.mpr ⟨zI_4, List.forall_mem_cons.mpr ⟨zI_5, List.forall_mem_cons.mpr ⟨zI_6, List.forall_mem_cons.mpr ⟨zI_7, List.forall_mem_cons.mpr ⟨zI_8, List.forall_mem_cons.mpr ⟨zI_9, List.forall_mem_cons.mpr ⟨zI_10, List.forall_mem_cons.mpr ⟨zI_11, List.forall_mem_cons.mpr ⟨zI_12, List.forall_mem_cons.mpr ⟨zI_13, fun _ h => absurd h List.not_mem_nil⟩⟩⟩⟩⟩⟩⟩⟩⟩⟩⟩⟩⟩⟩
theorem zS_0 : zi_gS zi_M 0 89 14 2 := zi_mkS zm_14 (Or.inl (zi_t3 (j := 143) rfl rfl)) (zi_t3 (j := 144) rfl rfl)
theorem zS_1 : zi_gS zi_M 1 27 202 1 := zi_mkS zm_202 (Or.inl (zi_t3 (j := 215) rfl rfl)) (zi_t3 (j := 216) rfl rfl)
theorem zS_2 : zi_gS zi_M 1 35 2800 1 := zi_mkS zm_2800 (Or.inl (zi_t3 (j := 218) rfl rfl)) (zi_t3 (j := 219) rfl rfl)
theorem zS_3 : zi_gS zi_M 2 42 2800 1 := zi_mkS zm_2800 (Or.inl (zi_t4 (j := 170) rfl rfl)) (zi_t3 (j := 219) rfl rfl)
theorem zS_4 : zi_gS zi_M 7 103 1411 3 := zi_mkS zm_1411 (Or.inl (zi_t4 (j := 32) rfl rfl)) (zi_t4 (j := 33) rfl rfl)
theorem zS_5 : zi_gS zi_M 9 61 1804 3 := zi_mkS zm_1804 (Or.inl (zi_t4 (j := 4) rfl rfl)) (zi_t4 (j := 5) rfl rfl)
theorem zS_6 : zi_gS zi_M 9 112 2800 1 := zi_mkS zm_2800 (Or.inl (zi_t4 (j := 23) rfl rfl)) (zi_t3 (j := 219) rfl rfl)
theorem zS_7 : zi_gS zi_M 10 70 2009 3 := zi_mkS zm_2009 (Or.inl (zi_t4 (j := 225) rfl rfl)) (zi_t4 (j := 226) rfl rfl)
theorem zS_8 : zi_gS zi_M 11 254 2226 1 := zi_mkS zm_2226 (Or.inl (zi_t4 (j := 86) rfl rfl)) (zi_t4 (j := 87) rfl rfl)
theorem zS_9 : zi_gS zi_M 11 305 2800 1 := zi_mkS zm_2800 (Or.inl (zi_t4 (j := 123) rfl rfl)) (zi_t3 (j := 219) rfl rfl)
theorem zS_10 : zi_gS zi_M 11 383 2251 2 := zi_mkS zm_2251 (Or.inl (zi_t5 (j := 101) rfl rfl)) (zi_t5 (j := 102) rfl rfl)
theorem zS_11 : zi_gS zi_M 11 389 2252 2 := zi_mkS zm_2252 (Or.inl (zi_t5 (j := 104) rfl rfl)) (zi_t5 (j := 105) rfl rfl)
theorem zS_12 : zi_gS zi_M 11 393 2253 2 := zi_mkS zm_2253 (Or.inl (zi_t5 (j := 108) rfl rfl)) (zi_t5 (j := 109) rfl rfl)
theorem zS_13 : zi_gS zi_M 11 399 2254 3 := zi_mkS zm_2254 (Or.inl (zi_t5 (j := 120) rfl rfl)) (zi_t5 (j := 121) rfl rfl)
theorem zS_14 : zi_gS zi_M 11 414 2255 3 := zi_mkS zm_2255 (Or.inl (zi_t5 (j := 123) rfl rfl)) (zi_t5 (j := 124) rfl rfl)
theorem zS_15 : zi_gS zi_M 11 421 2257 1 := zi_mkS zm_2257 (Or.inl (zi_t5 (j := 139) rfl rfl)) (zi_t5 (j := 140) rfl rfl)
theorem zS_16 : zi_gS zi_M 12 103 2406 2 := zi_mkS zm_2406 (Or.inl (zi_t8 (j := 143) rfl rfl)) (zi_t8 (j := 144) rfl rfl)
theorem zS_17 : zi_gS zi_M 12 113 2403 3 := zi_mkS zm_2403 (Or.inl (zi_t6 (j := 191) rfl rfl)) (zi_t6 (j := 192) rfl rfl)
theorem zS_18 : zi_gS zi_M 12 123 2413 2 := zi_mkS zm_2413 (Or.inl (zi_t7 (j := 93) rfl rfl)) (zi_t7 (j := 94) rfl rfl)
theorem zS_19 : zi_gS zi_M 12 127 2412 2 := zi_mkS zm_2412 (Or.inl (zi_t7 (j := 96) rfl rfl)) (zi_t7 (j := 97) rfl rfl)
theorem zS_20 : zi_gS zi_M 12 148 2405 1 := zi_mkS zm_2405 (Or.inl (zi_t6 (j := 223) rfl rfl)) (zi_t6 (j := 224) rfl rfl)
theorem zS_21 : zi_gS zi_M 12 244 2439 3 := zi_mkS zm_2439 (Or.inl (zi_t7 (j := 202) rfl rfl)) (zi_t7 (j := 203) rfl rfl)
theorem zS_22 : zi_gS zi_M 12 250 2404 2 := zi_mkS zm_2404 (Or.inl (zi_t7 (j := 179) rfl rfl)) (zi_t7 (j := 180) rfl rfl)
theorem zS_23 : zi_gS zi_M 12 254 2414 2 := zi_mkS zm_2414 (Or.inl (zi_t7 (j := 86) rfl rfl)) (zi_t7 (j := 87) rfl rfl)
theorem zS_24 : zi_gS zi_M 12 263 2800 1 := zi_mkS zm_2800 (Or.inl (zi_t7 (j := 197) rfl rfl)) (zi_t3 (j := 219) rfl rfl)
theorem zS_25 : zi_gS zi_M 12 319 2459 2 := zi_mkS zm_2459 (Or.inl (zi_t7 (j := 186) rfl rfl)) (zi_t7 (j := 187) rfl rfl)
theorem zS_26 : zi_gS zi_M 12 414 2488 2 := zi_mkS zm_2488 (Or.inl (zi_t8 (j := 82) rfl rfl)) (zi_t8 (j := 83) rfl rfl)
theorem zS_27 : zi_gS zi_M 12 417 2487 3 := zi_mkS zm_2487 (Or.inl (zi_t8 (j := 85) rfl rfl)) (zi_t8 (j := 86) rfl rfl)
theorem zS_28 : zi_gS zi_M 12 465 2506 3 := zi_mkS zm_2506 (Or.inl (zi_t8 (j := 159) rfl rfl)) (zi_t8 (j := 160) rfl rfl)
theorem zS_29 : zi_gS zi_M 12 470 2507 3 := zi_mkS zm_2507 (Or.inl (zi_t8 (j := 156) rfl rfl)) (zi_t8 (j := 157) rfl rfl)
theorem zS_30 : zi_gS zi_M 15 495 3200 2 := zi_mkS zm_3200 (Or.inl (zi_t7 (j := 46) rfl rfl)) (zi_t7 (j := 47) rfl rfl)
theorem zS_31 : zi_gS zi_M 15 637 3202 4 := zi_mkS zm_3202 (Or.inl (zi_t3 (j := 63) rfl rfl)) (zi_t3 (j := 64) rfl rfl)
theorem zS_32 : zi_gS zi_M 16 9 3099 2 := zi_mkS zm_3099 (Or.inl (zi_t7 (j := 49) rfl rfl)) (zi_t7 (j := 50) rfl rfl)
theorem zS_33 : zi_gS zi_M 16 88 3201 1 := zi_mkS zm_3201 (Or.inl (zi_t3 (j := 66) rfl rfl)) (zi_t3 (j := 67) rfl rfl)
theorem zS_34 : zi_gS zi_M 16 95 3203 4 := zi_mkS zm_3203 (Or.inl (zi_t3 (j := 73) rfl rfl)) (zi_t3 (j := 74) rfl rfl)
set_option maxRecDepth 100000 in
theorem zi_ST_ok : ∀ q ∈ zi_ST, zi_gS zi_M q.1 q.2.1 q.2.2.1 q.2.2.2 := List.forall_mem_cons.mpr ⟨zS_0, List.forall_mem_cons.mpr ⟨zS_1, List.forall_mem_cons.mpr ⟨zS_2, List.forall_mem_cons.mpr ⟨zS_3, List.forall_mem_cons.mpr ⟨zS_4, List.forall_mem_cons.mpr ⟨zS_5, List.forall_mem_cons.mpr ⟨zS_6, List.forall_mem_cons.mpr ⟨zS_7, List.forall_mem_cons.mpr ⟨zS_8, List.forall_mem_cons.mpr ⟨zS_9, List.forall_mem_cons.mpr ⟨zS_10, List.forall_mem_cons.mpr ⟨zS_11, List.forall_mem_cons.mpr ⟨zS_12, List.forall_mem_cons.mpr ⟨zS_13, List.forall_mem_cons.mpr ⟨zS_14, List.forall_mem_cons.mpr ⟨zS_15, List.forall_mem_cons.mpr ⟨zS_16, List.forall_mem_cons.mpr ⟨zS_17, List.forall_mem_cons.mpr ⟨zS_18, List.forall_mem_cons.mpr ⟨zS_19, List.forall_mem_cons.mpr ⟨zS_20, List.forall_mem_cons.mpr ⟨zS_21, List.forall_mem_cons.mpr ⟨zS_22, List.forall_mem_cons.mpr ⟨zS_23, List.forall_mem_cons.mpr ⟨zS_24, List.forall_mem_cons.mpr ⟨zS_25, List.forall_mem_cons.mpr ⟨zS_26, List.forall_mem_cons.mpr ⟨zS_27, List.forall_mem_cons.mpr ⟨zS_28, List.forall_mem_cons.mpr ⟨zS_29, List.forall_mem_cons.mpr ⟨zS_30, List.forall_mem_cons.mpr ⟨zS_31, List.forall_mem_cons.mpr ⟨zS_32, List.forall_mem_cons.mpr ⟨zS_33, List.forall_mem_cons.mpr ⟨zS_34, fun _ h => absurd h List.not_mem_nil⟩⟩⟩⟩⟩⟩⟩⟩⟩⟩⟩⟩⟩⟩⟩⟩⟩⟩⟩⟩⟩⟩⟩⟩⟩⟩⟩⟩⟩⟩⟩⟩⟩⟩⟩
theorem zK_0 : Cond.constant (zi_cn 11) 182 (Int32.ofNat 67108864) ∈ zi_tb := (zi_t3 (j := 134) rfl rfl)
theorem zK_1 : Cond.constant (zi_cn 11) 424 (Int32.ofNat 1103515245) ∈ zi_tb := (zi_t5 (j := 142) rfl rfl)
theorem zK_2 : Cond.constant (zi_cn 12) 413 (Int32.ofNat 1000000) ∈ zi_tb := (zi_t8 (j := 81) rfl rfl)
theorem zK_3 : Cond.constant (zi_cn 12) 475 (Int32.ofNat 1103515245) ∈ zi_tb := (zi_t8 (j := 171) rfl rfl)
theorem zK_4 : Cond.constant (zi_cn 14) 265 (Int32.ofNat 1431655765) ∈ zi_tb := (zi_t3 (j := 221) rfl rfl)
theorem zK_5 : Cond.constant (zi_cn 14) 266 (Int32.ofNat 858993459) ∈ zi_tb := (zi_t3 (j := 222) rfl rfl)
theorem zK_6 : Cond.constant (zi_cn 14) 267 (Int32.ofNat 252645135) ∈ zi_tb := (zi_t3 (j := 223) rfl rfl)
set_option maxRecDepth 100000 in
theorem zi_KT_ok : ∀ q ∈ zi_KT, Cond.constant (zi_cn q.1) q.2.1 (Int32.ofNat q.2.2) ∈ zi_tb := List.forall_mem_cons.mpr ⟨zK_0, List.forall_mem_cons.mpr ⟨zK_1, List.forall_mem_cons.mpr ⟨zK_2, List.forall_mem_cons.mpr ⟨zK_3, List.forall_mem_cons.mpr ⟨zK_4, List.forall_mem_cons.mpr ⟨zK_5, List.forall_mem_cons.mpr ⟨zK_6, fun _ h => absurd h List.not_mem_nil⟩⟩⟩⟩⟩⟩⟩
theorem zL_0 : Cond.constantLong (zi_cn 11) 387 (Int64.ofNat 10000) ∈ zi_tb := (zi_t5 (j := 107) rfl rfl)
theorem zL_1 : Cond.constantLong (zi_cn 11) 397 (Int64.ofNat 100) ∈ zi_tb := (zi_t5 (j := 115) rfl rfl)
theorem zL_2 : Cond.constantLong (zi_cn 12) 152 (Int64.ofNat 48) ∈ zi_tb := (zi_t6 (j := 234) rfl rfl)
theorem zL_3 : Cond.constantLong (zi_cn 12) 154 (Int64.ofNat 57) ∈ zi_tb := (zi_t6 (j := 235) rfl rfl)
theorem zL_4 : Cond.constantLong (zi_cn 12) 293 (Int64.ofNat 5) ∈ zi_tb := (zi_t7 (j := 73) rfl rfl)
theorem zL_5 : Cond.constantLong (zi_cn 12) 307 (Int64.ofNat 3) ∈ zi_tb := (zi_t7 (j := 107) rfl rfl)
theorem zL_6 : Cond.constantLong (zi_cn 12) 309 (Int64.ofNat 999) ∈ zi_tb := (zi_t7 (j := 116) rfl rfl)
theorem zL_7 : Cond.constantLong (zi_cn 12) 311 (Int64.ofNat 67108863) ∈ zi_tb := (zi_t7 (j := 117) rfl rfl)
theorem zL_8 : Cond.constantLong (zi_cn 12) 348 (Int64.ofNat 600) ∈ zi_tb := (zi_t7 (j := 217) rfl rfl)
theorem zL_9 : Cond.constantLong (zi_cn 12) 371 (Int64.ofNat 25) ∈ zi_tb := (zi_t8 (j := 19) rfl rfl)
theorem zL_10 : Cond.constantLong (zi_cn 12) 451 (Int64.ofNat 10000) ∈ zi_tb := (zi_t8 (j := 142) rfl rfl)
theorem zL_11 : Cond.constantLong (zi_cn 12) 456 (Int64.ofNat 4) ∈ zi_tb := (zi_t8 (j := 136) rfl rfl)
theorem zL_12 : Cond.constantLong (zi_cn 12) 458 (Int64.ofNat 10) ∈ zi_tb := (zi_t8 (j := 137) rfl rfl)
theorem zL_13 : Cond.constantLong (zi_cn 12) 463 (Int64.ofNat 100) ∈ zi_tb := (zi_t8 (j := 150) rfl rfl)
theorem zL_14 : Cond.constantLong (zi_cn 12) 468 (Int64.ofNat 9) ∈ zi_tb := (zi_t8 (j := 155) rfl rfl)
theorem zL_15 : Cond.constantLong (zi_cn 12) 473 (Int64.ofNat 60) ∈ zi_tb := (zi_t8 (j := 170) rfl rfl)
theorem zL_16 : Cond.constantLong (zi_cn 12) 476 (Int64.ofNat 2) ∈ zi_tb := (zi_t8 (j := 176) rfl rfl)
set_option maxRecDepth 100000 in
theorem zi_LT_ok : ∀ q ∈ zi_LT, Cond.constantLong (zi_cn q.1) q.2.1 (Int64.ofNat q.2.2) ∈ zi_tb := List.forall_mem_cons.mpr ⟨zL_0, List.forall_mem_cons.mpr ⟨zL_1, List.forall_mem_cons.mpr ⟨zL_2, List.forall_mem_cons.mpr ⟨zL_3, List.forall_mem_cons.mpr ⟨zL_4, List.forall_mem_cons.mpr ⟨zL_5, List.forall_mem_cons.mpr ⟨zL_6, List.forall_mem_cons.mpr ⟨zL_7, List.forall_mem_cons.mpr ⟨zL_8, List.forall_mem_cons.mpr ⟨zL_9, List.forall_mem_cons.mpr ⟨zL_10, List.forall_mem_cons.mpr ⟨zL_11, List.forall_mem_cons.mpr ⟨zL_12, List.forall_mem_cons.mpr ⟨zL_13, List.forall_mem_cons.mpr ⟨zL_14, List.forall_mem_cons.mpr ⟨zL_15, List.forall_mem_cons.mpr ⟨zL_16, fun _ h => absurd h List.not_mem_nil⟩⟩⟩⟩⟩⟩⟩⟩⟩⟩⟩⟩⟩⟩⟩⟩⟩
theorem zN_0 : ∃ r : vw_C, vwCl[7]? = some r ∧ r.2.2 = zi_fn 7 ∧ Cond.classLink (zi_cn 0) 9 r.1 ∈ zi_tb ∧ Cond.instantiable r.1 r.2.2 ∈ zi_tb ∧ Cond.initialized r.1 ∈ zi_tb := ⟨_, rfl, rfl, (zi_t1 (j := 74) rfl rfl), (zi_t1 (j := 75) rfl rfl), (zi_t1 (j := 5) rfl rfl)⟩
theorem zN_1 : ∃ r : vw_C, vwCl[3]? = some r ∧ r.2.2 = zi_fn 3 ∧ Cond.classLink (zi_cn 6) 9 r.1 ∈ zi_tb ∧ Cond.instantiable r.1 r.2.2 ∈ zi_tb ∧ Cond.initialized r.1 ∈ zi_tb := ⟨_, rfl, rfl, (zi_t2 (j := 70) rfl rfl), (zi_t1 (j := 152) rfl rfl), (zi_t1 (j := 6) rfl rfl)⟩
theorem zN_2 : ∃ r : vw_C, vwCl[8]? = some r ∧ r.2.2 = zi_fn 8 ∧ Cond.classLink (zi_cn 11) 7 r.1 ∈ zi_tb ∧ Cond.instantiable r.1 r.2.2 ∈ zi_tb ∧ Cond.initialized r.1 ∈ zi_tb := ⟨_, rfl, rfl, (zi_t1 (j := 34) rfl rfl), (zi_t1 (j := 35) rfl rfl), (zi_t1 (j := 2) rfl rfl)⟩
theorem zN_3 : ∃ r : vw_C, vwCl[5]? = some r ∧ r.2.2 = zi_fn 5 ∧ Cond.classLink (zi_cn 11) 16 r.1 ∈ zi_tb ∧ Cond.instantiable r.1 r.2.2 ∈ zi_tb ∧ Cond.initialized r.1 ∈ zi_tb := ⟨_, rfl, rfl, (zi_t1 (j := 54) rfl rfl), (zi_t1 (j := 55) rfl rfl), (zi_t1 (j := 3) rfl rfl)⟩
theorem zN_4 : ∃ r : vw_C, vwCl[0]? = some r ∧ r.2.2 = zi_fn 0 ∧ Cond.classLink (zi_cn 11) 23 r.1 ∈ zi_tb ∧ Cond.instantiable r.1 r.2.2 ∈ zi_tb ∧ Cond.initialized r.1 ∈ zi_tb := ⟨_, rfl, rfl, (zi_t1 (j := 68) rfl rfl), (zi_t1 (j := 69) rfl rfl), (zi_t1 (j := 4) rfl rfl)⟩
theorem zN_5 : ∃ r : vw_C, vwCl[3]? = some r ∧ r.2.2 = zi_fn 3 ∧ Cond.classLink (zi_cn 11) 30 r.1 ∈ zi_tb ∧ Cond.instantiable r.1 r.2.2 ∈ zi_tb ∧ Cond.initialized r.1 ∈ zi_tb := ⟨_, rfl, rfl, (zi_t1 (j := 151) rfl rfl), (zi_t1 (j := 152) rfl rfl), (zi_t1 (j := 6) rfl rfl)⟩
theorem zN_6 : ∃ r : vw_C, vwCl[1]? = some r ∧ r.2.2 = zi_fn 1 ∧ Cond.classLink (zi_cn 11) 43 r.1 ∈ zi_tb ∧ Cond.instantiable r.1 r.2.2 ∈ zi_tb ∧ Cond.initialized r.1 ∈ zi_tb := ⟨_, rfl, rfl, (zi_t1 (j := 199) rfl rfl), (zi_t1 (j := 200) rfl rfl), (zi_t1 (j := 7) rfl rfl)⟩
theorem zN_7 : ∃ r : vw_C, vwCl[9]? = some r ∧ r.2.2 = zi_fn 9 ∧ Cond.classLink (zi_cn 11) 52 r.1 ∈ zi_tb ∧ Cond.instantiable r.1 r.2.2 ∈ zi_tb ∧ Cond.initialized r.1 ∈ zi_tb := ⟨_, rfl, rfl, (zi_t1 (j := 217) rfl rfl), (zi_t1 (j := 218) rfl rfl), (zi_t1 (j := 8) rfl rfl)⟩
theorem zN_8 : ∃ r : vw_C, vwCl[2]? = some r ∧ r.2.2 = zi_fn 2 ∧ Cond.classLink (zi_cn 11) 61 r.1 ∈ zi_tb ∧ Cond.instantiable r.1 r.2.2 ∈ zi_tb ∧ Cond.initialized r.1 ∈ zi_tb := ⟨_, rfl, rfl, (zi_t2 (j := 0) rfl rfl), (zi_t2 (j := 1) rfl rfl), (zi_t1 (j := 9) rfl rfl)⟩
theorem zN_9 : ∃ r : vw_C, vwCl[4]? = some r ∧ r.2.2 = zi_fn 4 ∧ Cond.classLink (zi_cn 11) 68 r.1 ∈ zi_tb ∧ Cond.instantiable r.1 r.2.2 ∈ zi_tb ∧ Cond.initialized r.1 ∈ zi_tb := ⟨_, rfl, rfl, (zi_t2 (j := 17) rfl rfl), (zi_t2 (j := 18) rfl rfl), (zi_t1 (j := 10) rfl rfl)⟩
theorem zN_10 : ∃ r : vw_C, vwCl[10]? = some r ∧ r.2.2 = zi_fn 10 ∧ Cond.classLink (zi_cn 11) 75 r.1 ∈ zi_tb ∧ Cond.instantiable r.1 r.2.2 ∈ zi_tb ∧ Cond.initialized r.1 ∈ zi_tb := ⟨_, rfl, rfl, (zi_t2 (j := 42) rfl rfl), (zi_t2 (j := 43) rfl rfl), (zi_t1 (j := 11) rfl rfl)⟩
theorem zN_11 : ∃ r : vw_C, vwCl[6]? = some r ∧ r.2.2 = zi_fn 6 ∧ Cond.classLink (zi_cn 11) 82 r.1 ∈ zi_tb ∧ Cond.instantiable r.1 r.2.2 ∈ zi_tb ∧ Cond.initialized r.1 ∈ zi_tb := ⟨_, rfl, rfl, (zi_t2 (j := 64) rfl rfl), (zi_t2 (j := 65) rfl rfl), (zi_t1 (j := 12) rfl rfl)⟩
theorem zN_12 : ∃ r : vw_C, vwCl[11]? = some r ∧ r.2.2 = zi_fn 11 ∧ Cond.classLink (zi_cn 13) 8 r.1 ∈ zi_tb ∧ Cond.instantiable r.1 r.2.2 ∈ zi_tb ∧ Cond.initialized r.1 ∈ zi_tb := ⟨_, rfl, rfl, (zi_t1 (j := 26) rfl rfl), (zi_t1 (j := 27) rfl rfl), (zi_t1 (j := 1) rfl rfl)⟩
theorem zN_13 : ∃ r : vw_C, vwCl[12]? = some r ∧ r.2.2 = zi_fn 12 ∧ Cond.classLink (zi_cn 13) 26 r.1 ∈ zi_tb ∧ Cond.instantiable r.1 r.2.2 ∈ zi_tb ∧ Cond.initialized r.1 ∈ zi_tb := ⟨_, rfl, rfl, (zi_t6 (j := 13) rfl rfl), (zi_t6 (j := 14) rfl rfl), (zi_t1 (j := 13) rfl rfl)⟩
set_option maxRecDepth 100000 in
theorem zi_NT_ok : ∀ q ∈ zi_NT, ∃ r : vw_C, vwCl[q.2.2]? = some r ∧ r.2.2 = zi_fn q.2.2 ∧ Cond.classLink (zi_cn q.1) q.2.1 r.1 ∈ zi_tb ∧ Cond.instantiable r.1 r.2.2 ∈ zi_tb ∧ Cond.initialized r.1 ∈ zi_tb := List.forall_mem_cons.mpr ⟨zN_0, List.forall_mem_cons.mpr ⟨zN_1, List.forall_mem_cons.mpr ⟨zN_2, List.forall_mem_cons.mpr ⟨zN_3, List.forall_mem_cons.mpr ⟨zN_4, List.forall_mem_cons.mpr ⟨zN_5, List.forall_mem_cons.mpr ⟨zN_6, List.forall_mem_cons.mpr ⟨zN_7, List.forall_mem_cons.mpr ⟨zN_8, List.forall_mem_cons.mpr ⟨zN_9, List.forall_mem_cons.mpr ⟨zN_10, List.forall_mem_cons.mpr ⟨zN_11, List.forall_mem_cons.mpr ⟨zN_12, List.forall_mem_cons.mpr ⟨zN_13, fun _ h => absurd h List.not_mem_nil⟩⟩⟩⟩⟩⟩⟩⟩⟩⟩⟩⟩⟩⟩
theorem zA_0 : Cond.classLink (zi_cn 6) 9 RX3 ∈ zi_tb ∧ Cond.arrayOver (.object RX3) ∈ zi_nw := ⟨(zi_t2 (j := 70) rfl rfl), (zi_n2 (j := 71) rfl rfl)⟩
theorem zA_1 : Cond.classLink (zi_cn 11) 30 RX3 ∈ zi_tb ∧ Cond.arrayOver (.object RX3) ∈ zi_nw := ⟨(zi_t1 (j := 151) rfl rfl), (zi_n2 (j := 71) rfl rfl)⟩
set_option maxRecDepth 100000 in
theorem zi_AT_ok : ∀ q ∈ zi_AT, Cond.classLink (zi_cn q.1) q.2 RX3 ∈ zi_tb ∧ Cond.arrayOver (.object RX3) ∈ zi_nw := List.forall_mem_cons.mpr ⟨zA_0, List.forall_mem_cons.mpr ⟨zA_1, fun _ h => absurd h List.not_mem_nil⟩⟩
theorem zO_0 : Cond.methodLink (zi_cn 0) 3 Lib.objectInit ∈ zi_tb ∧ Cond.instanceMethod Lib.objectInit ∈ zi_tb ∧ Cond.code Lib.objectInit ⟨#[0xb1]⟩ 1 none ∈ zi_tb := ⟨(zi_t1 (j := 73) rfl rfl), (zi_t1 (j := 32) rfl rfl), (zi_t1 (j := 33) rfl rfl)⟩
theorem zO_1 : Cond.methodLink (zi_cn 1) 3 Lib.objectInit ∈ zi_tb ∧ Cond.instanceMethod Lib.objectInit ∈ zi_tb ∧ Cond.code Lib.objectInit ⟨#[0xb1]⟩ 1 none ∈ zi_tb := ⟨(zi_t1 (j := 204) rfl rfl), (zi_t1 (j := 32) rfl rfl), (zi_t1 (j := 33) rfl rfl)⟩
theorem zO_2 : Cond.methodLink (zi_cn 2) 3 Lib.objectInit ∈ zi_tb ∧ Cond.instanceMethod Lib.objectInit ∈ zi_tb ∧ Cond.code Lib.objectInit ⟨#[0xb1]⟩ 1 none ∈ zi_tb := ⟨(zi_t2 (j := 5) rfl rfl), (zi_t1 (j := 32) rfl rfl), (zi_t1 (j := 33) rfl rfl)⟩
theorem zO_3 : Cond.methodLink (zi_cn 3) 3 Lib.objectInit ∈ zi_tb ∧ Cond.instanceMethod Lib.objectInit ∈ zi_tb ∧ Cond.code Lib.objectInit ⟨#[0xb1]⟩ 1 none ∈ zi_tb := ⟨(zi_t1 (j := 156) rfl rfl), (zi_t1 (j := 32) rfl rfl), (zi_t1 (j := 33) rfl rfl)⟩
theorem zO_4 : Cond.methodLink (zi_cn 4) 3 Lib.objectInit ∈ zi_tb ∧ Cond.instanceMethod Lib.objectInit ∈ zi_tb ∧ Cond.code Lib.objectInit ⟨#[0xb1]⟩ 1 none ∈ zi_tb := ⟨(zi_t2 (j := 22) rfl rfl), (zi_t1 (j := 32) rfl rfl), (zi_t1 (j := 33) rfl rfl)⟩
theorem zO_5 : Cond.methodLink (zi_cn 5) 1 Lib.objectInit ∈ zi_tb ∧ Cond.instanceMethod Lib.objectInit ∈ zi_tb ∧ Cond.code Lib.objectInit ⟨#[0xb1]⟩ 1 none ∈ zi_tb := ⟨(zi_t1 (j := 59) rfl rfl), (zi_t1 (j := 32) rfl rfl), (zi_t1 (j := 33) rfl rfl)⟩
theorem zO_6 : Cond.methodLink (zi_cn 6) 1 Lib.objectInit ∈ zi_tb ∧ Cond.instanceMethod Lib.objectInit ∈ zi_tb ∧ Cond.code Lib.objectInit ⟨#[0xb1]⟩ 1 none ∈ zi_tb := ⟨(zi_t2 (j := 69) rfl rfl), (zi_t1 (j := 32) rfl rfl), (zi_t1 (j := 33) rfl rfl)⟩
theorem zO_7 : Cond.methodLink (zi_cn 7) 3 Lib.objectInit ∈ zi_tb ∧ Cond.instanceMethod Lib.objectInit ∈ zi_tb ∧ Cond.code Lib.objectInit ⟨#[0xb1]⟩ 1 none ∈ zi_tb := ⟨(zi_t1 (j := 79) rfl rfl), (zi_t1 (j := 32) rfl rfl), (zi_t1 (j := 33) rfl rfl)⟩
theorem zO_8 : Cond.methodLink (zi_cn 8) 1 Lib.objectInit ∈ zi_tb ∧ Cond.instanceMethod Lib.objectInit ∈ zi_tb ∧ Cond.code Lib.objectInit ⟨#[0xb1]⟩ 1 none ∈ zi_tb := ⟨(zi_t1 (j := 39) rfl rfl), (zi_t1 (j := 32) rfl rfl), (zi_t1 (j := 33) rfl rfl)⟩
theorem zO_9 : Cond.methodLink (zi_cn 9) 3 Lib.objectInit ∈ zi_tb ∧ Cond.instanceMethod Lib.objectInit ∈ zi_tb ∧ Cond.code Lib.objectInit ⟨#[0xb1]⟩ 1 none ∈ zi_tb := ⟨(zi_t1 (j := 222) rfl rfl), (zi_t1 (j := 32) rfl rfl), (zi_t1 (j := 33) rfl rfl)⟩
theorem zO_10 : Cond.methodLink (zi_cn 10) 1 Lib.objectInit ∈ zi_tb ∧ Cond.instanceMethod Lib.objectInit ∈ zi_tb ∧ Cond.code Lib.objectInit ⟨#[0xb1]⟩ 1 none ∈ zi_tb := ⟨(zi_t2 (j := 47) rfl rfl), (zi_t1 (j := 32) rfl rfl), (zi_t1 (j := 33) rfl rfl)⟩
theorem zO_11 : Cond.methodLink (zi_cn 11) 1 Lib.objectInit ∈ zi_tb ∧ Cond.instanceMethod Lib.objectInit ∈ zi_tb ∧ Cond.code Lib.objectInit ⟨#[0xb1]⟩ 1 none ∈ zi_tb := ⟨(zi_t1 (j := 31) rfl rfl), (zi_t1 (j := 32) rfl rfl), (zi_t1 (j := 33) rfl rfl)⟩
theorem zO_12 : Cond.methodLink (zi_cn 12) 3 Lib.objectInit ∈ zi_tb ∧ Cond.instanceMethod Lib.objectInit ∈ zi_tb ∧ Cond.code Lib.objectInit ⟨#[0xb1]⟩ 1 none ∈ zi_tb := ⟨(zi_t6 (j := 18) rfl rfl), (zi_t1 (j := 32) rfl rfl), (zi_t1 (j := 33) rfl rfl)⟩
set_option maxRecDepth 100000 in
theorem zi_OT_ok : ∀ q ∈ zi_OT, Cond.methodLink (zi_cn q.1) q.2 Lib.objectInit ∈ zi_tb ∧ Cond.instanceMethod Lib.objectInit ∈ zi_tb ∧ Cond.code Lib.objectInit ⟨#[0xb1]⟩ 1 none ∈ zi_tb := List.forall_mem_cons.mpr ⟨zO_0, List.forall_mem_cons.mpr ⟨zO_1, List.forall_mem_cons.mpr ⟨zO_2, List.forall_mem_cons.mpr ⟨zO_3, List.forall_mem_cons.mpr ⟨zO_4, List.forall_mem_cons.mpr ⟨zO_5, List.forall_mem_cons.mpr ⟨zO_6, List.forall_mem_cons.mpr ⟨zO_7, List.forall_mem_cons.mpr ⟨zO_8, List.forall_mem_cons.mpr ⟨zO_9, List.forall_mem_cons.mpr ⟨zO_10, List.forall_mem_cons.mpr ⟨zO_11, List.forall_mem_cons.mpr ⟨zO_12, fun _ h => absurd h List.not_mem_nil⟩⟩⟩⟩⟩⟩⟩⟩⟩⟩⟩⟩⟩
theorem zT1_0 : Cond.methodLink (zi_cn 0) 97 Lib.Math.max.name ∈ zi_tb ∧ Cond.static Lib.Math.max.name ∈ zi_tb ∧ Cond.initialized "java/lang/Math" ∈ zi_tb ∧ Cond.code Lib.Math.max.name Lib.Math.max.code 2 (some .int) ∈ zi_tb := ⟨(zi_t3 (j := 147) rfl rfl), (zi_t3 (j := 70) rfl rfl), (zi_t1 (j := 14) rfl rfl), (zi_t3 (j := 71) rfl rfl)⟩
theorem zT1_1 : Cond.methodLink (zi_cn 3) 43 Lib.Math.max.name ∈ zi_tb ∧ Cond.static Lib.Math.max.name ∈ zi_tb ∧ Cond.initialized "java/lang/Math" ∈ zi_tb ∧ Cond.code Lib.Math.max.name Lib.Math.max.code 2 (some .int) ∈ zi_tb := ⟨(zi_t4 (j := 66) rfl rfl), (zi_t3 (j := 70) rfl rfl), (zi_t1 (j := 14) rfl rfl), (zi_t3 (j := 71) rfl rfl)⟩
theorem zT1_2 : Cond.methodLink (zi_cn 4) 44 Lib.Math.max.name ∈ zi_tb ∧ Cond.static Lib.Math.max.name ∈ zi_tb ∧ Cond.initialized "java/lang/Math" ∈ zi_tb ∧ Cond.code Lib.Math.max.name Lib.Math.max.code 2 (some .int) ∈ zi_tb := ⟨(zi_t5 (j := 71) rfl rfl), (zi_t3 (j := 70) rfl rfl), (zi_t1 (j := 14) rfl rfl), (zi_t3 (j := 71) rfl rfl)⟩
theorem zT1_3 : Cond.methodLink (zi_cn 7) 64 Lib.Math.max.name ∈ zi_tb ∧ Cond.static Lib.Math.max.name ∈ zi_tb ∧ Cond.initialized "java/lang/Math" ∈ zi_tb ∧ Cond.code Lib.Math.max.name Lib.Math.max.code 2 (some .int) ∈ zi_tb := ⟨(zi_t4 (j := 36) rfl rfl), (zi_t3 (j := 70) rfl rfl), (zi_t1 (j := 14) rfl rfl), (zi_t3 (j := 71) rfl rfl)⟩
theorem zT1_4 : Cond.methodLink (zi_cn 11) 409 Lib.Math.max.name ∈ zi_tb ∧ Cond.static Lib.Math.max.name ∈ zi_tb ∧ Cond.initialized "java/lang/Math" ∈ zi_tb ∧ Cond.code Lib.Math.max.name Lib.Math.max.code 2 (some .int) ∈ zi_tb := ⟨(zi_t5 (j := 134) rfl rfl), (zi_t3 (j := 70) rfl rfl), (zi_t1 (j := 14) rfl rfl), (zi_t3 (j := 71) rfl rfl)⟩
theorem zT1_5 : Cond.methodLink (zi_cn 12) 247 Lib.Math.max.name ∈ zi_tb ∧ Cond.static Lib.Math.max.name ∈ zi_tb ∧ Cond.initialized "java/lang/Math" ∈ zi_tb ∧ Cond.code Lib.Math.max.name Lib.Math.max.code 2 (some .int) ∈ zi_tb := ⟨(zi_t7 (j := 122) rfl rfl), (zi_t3 (j := 70) rfl rfl), (zi_t1 (j := 14) rfl rfl), (zi_t3 (j := 71) rfl rfl)⟩
theorem zT1_6 : Cond.methodLink (zi_cn 16) 92 Lib.Math.max.name ∈ zi_tb ∧ Cond.static Lib.Math.max.name ∈ zi_tb ∧ Cond.initialized "java/lang/Math" ∈ zi_tb ∧ Cond.code Lib.Math.max.name Lib.Math.max.code 2 (some .int) ∈ zi_tb := ⟨(zi_t3 (j := 69) rfl rfl), (zi_t3 (j := 70) rfl rfl), (zi_t1 (j := 14) rfl rfl), (zi_t3 (j := 71) rfl rfl)⟩
set_option maxRecDepth 100000 in
theorem zi_T1_ok : ∀ q ∈ zi_T1, Cond.methodLink (zi_cn q.1) q.2 Lib.Math.max.name ∈ zi_tb ∧ Cond.static Lib.Math.max.name ∈ zi_tb ∧ Cond.initialized "java/lang/Math" ∈ zi_tb ∧ Cond.code Lib.Math.max.name Lib.Math.max.code 2 (some .int) ∈ zi_tb := List.forall_mem_cons.mpr ⟨zT1_0, List.forall_mem_cons.mpr ⟨zT1_1, List.forall_mem_cons.mpr ⟨zT1_2, List.forall_mem_cons.mpr ⟨zT1_3, List.forall_mem_cons.mpr ⟨zT1_4, List.forall_mem_cons.mpr ⟨zT1_5, List.forall_mem_cons.mpr ⟨zT1_6, fun _ h => absurd h List.not_mem_nil⟩⟩⟩⟩⟩⟩⟩
theorem zT2_0 : Cond.methodLink (zi_cn 0) 92 Lib.Math.min.name ∈ zi_tb ∧ Cond.static Lib.Math.min.name ∈ zi_tb ∧ Cond.initialized "java/lang/Math" ∈ zi_tb ∧ Cond.code Lib.Math.min.name Lib.Math.min.code 2 (some .int) ∈ zi_tb := ⟨(zi_t3 (j := 146) rfl rfl), (zi_t2 (j := 162) rfl rfl), (zi_t1 (j := 14) rfl rfl), (zi_t2 (j := 163) rfl rfl)⟩
theorem zT2_1 : Cond.methodLink (zi_cn 7) 58 Lib.Math.min.name ∈ zi_tb ∧ Cond.static Lib.Math.min.name ∈ zi_tb ∧ Cond.initialized "java/lang/Math" ∈ zi_tb ∧ Cond.code Lib.Math.min.name Lib.Math.min.code 2 (some .int) ∈ zi_tb := ⟨(zi_t4 (j := 35) rfl rfl), (zi_t2 (j := 162) rfl rfl), (zi_t1 (j := 14) rfl rfl), (zi_t2 (j := 163) rfl rfl)⟩
theorem zT2_2 : Cond.methodLink (zi_cn 8) 20 Lib.Math.min.name ∈ zi_tb ∧ Cond.static Lib.Math.min.name ∈ zi_tb ∧ Cond.initialized "java/lang/Math" ∈ zi_tb ∧ Cond.code Lib.Math.min.name Lib.Math.min.code 2 (some .int) ∈ zi_tb := ⟨(zi_t2 (j := 161) rfl rfl), (zi_t2 (j := 162) rfl rfl), (zi_t1 (j := 14) rfl rfl), (zi_t2 (j := 163) rfl rfl)⟩
theorem zT2_3 : Cond.methodLink (zi_cn 9) 88 Lib.Math.min.name ∈ zi_tb ∧ Cond.static Lib.Math.min.name ∈ zi_tb ∧ Cond.initialized "java/lang/Math" ∈ zi_tb ∧ Cond.code Lib.Math.min.name Lib.Math.min.code 2 (some .int) ∈ zi_tb := ⟨(zi_t4 (j := 41) rfl rfl), (zi_t2 (j := 162) rfl rfl), (zi_t1 (j := 14) rfl rfl), (zi_t2 (j := 163) rfl rfl)⟩
theorem zT2_4 : Cond.methodLink (zi_cn 10) 76 Lib.Math.min.name ∈ zi_tb ∧ Cond.static Lib.Math.min.name ∈ zi_tb ∧ Cond.initialized "java/lang/Math" ∈ zi_tb ∧ Cond.code Lib.Math.min.name Lib.Math.min.code 2 (some .int) ∈ zi_tb := ⟨(zi_t5 (j := 4) rfl rfl), (zi_t2 (j := 162) rfl rfl), (zi_t1 (j := 14) rfl rfl), (zi_t2 (j := 163) rfl rfl)⟩
theorem zT2_5 : Cond.methodLink (zi_cn 12) 139 Lib.Math.min.name ∈ zi_tb ∧ Cond.static Lib.Math.min.name ∈ zi_tb ∧ Cond.initialized "java/lang/Math" ∈ zi_tb ∧ Cond.code Lib.Math.min.name Lib.Math.min.code 2 (some .int) ∈ zi_tb := ⟨(zi_t6 (j := 206) rfl rfl), (zi_t2 (j := 162) rfl rfl), (zi_t1 (j := 14) rfl rfl), (zi_t2 (j := 163) rfl rfl)⟩
theorem zT2_6 : Cond.methodLink (zi_cn 16) 38 Lib.Math.min.name ∈ zi_tb ∧ Cond.static Lib.Math.min.name ∈ zi_tb ∧ Cond.initialized "java/lang/Math" ∈ zi_tb ∧ Cond.code Lib.Math.min.name Lib.Math.min.code 2 (some .int) ∈ zi_tb := ⟨(zi_t3 (j := 72) rfl rfl), (zi_t2 (j := 162) rfl rfl), (zi_t1 (j := 14) rfl rfl), (zi_t2 (j := 163) rfl rfl)⟩
set_option maxRecDepth 100000 in
theorem zi_T2_ok : ∀ q ∈ zi_T2, Cond.methodLink (zi_cn q.1) q.2 Lib.Math.min.name ∈ zi_tb ∧ Cond.static Lib.Math.min.name ∈ zi_tb ∧ Cond.initialized "java/lang/Math" ∈ zi_tb ∧ Cond.code Lib.Math.min.name Lib.Math.min.code 2 (some .int) ∈ zi_tb := List.forall_mem_cons.mpr ⟨zT2_0, List.forall_mem_cons.mpr ⟨zT2_1, List.forall_mem_cons.mpr ⟨zT2_2, List.forall_mem_cons.mpr ⟨zT2_3, List.forall_mem_cons.mpr ⟨zT2_4, List.forall_mem_cons.mpr ⟨zT2_5, List.forall_mem_cons.mpr ⟨zT2_6, fun _ h => absurd h List.not_mem_nil⟩⟩⟩⟩⟩⟩⟩
theorem zT3_0 : Cond.methodLink (zi_cn 3) 37 arraycopyName ∈ zi_tb ∧ Cond.native arraycopyName ∈ zi_tb ∧ Cond.static arraycopyName ∈ zi_tb ∧ Cond.initialized "java/lang/System" ∈ zi_tb := ⟨(zi_t3 (j := 156) rfl rfl), (zi_t3 (j := 128) rfl rfl), (zi_t3 (j := 127) rfl rfl), (zi_t1 (j := 20) rfl rfl)⟩
theorem zT3_1 : Cond.methodLink (zi_cn 7) 46 arraycopyName ∈ zi_tb ∧ Cond.native arraycopyName ∈ zi_tb ∧ Cond.static arraycopyName ∈ zi_tb ∧ Cond.initialized "java/lang/System" ∈ zi_tb := ⟨(zi_t3 (j := 126) rfl rfl), (zi_t3 (j := 128) rfl rfl), (zi_t3 (j := 127) rfl rfl), (zi_t1 (j := 20) rfl rfl)⟩
set_option maxRecDepth 100000 in
theorem zi_T3_ok : ∀ q ∈ zi_T3, Cond.methodLink (zi_cn q.1) q.2 arraycopyName ∈ zi_tb ∧ Cond.native arraycopyName ∈ zi_tb ∧ Cond.static arraycopyName ∈ zi_tb ∧ Cond.initialized "java/lang/System" ∈ zi_tb := List.forall_mem_cons.mpr ⟨zT3_0, List.forall_mem_cons.mpr ⟨zT3_1, fun _ h => absurd h List.not_mem_nil⟩⟩
theorem zi_AR_int : Cond.arrayClass .int ∈ zi_tb := (zi_t1 (j := 53) rfl rfl)
theorem zi_AR_long : Cond.arrayClass .long ∈ zi_tb := (zi_t1 (j := 67) rfl rfl)
theorem zi_AR_boolean : Cond.arrayClass .boolean ∈ zi_tb := (zi_t2 (j := 16) rfl rfl)
