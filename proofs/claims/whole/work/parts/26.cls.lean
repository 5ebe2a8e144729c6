/-! ===== printed: what the tables say of the classes ===== -/
theorem zl_0_0 : u_lay RX0 TX0 0 ∈ zi_tb := (zi_t1 (j := 128) rfl rfl)
theorem zl_0_1 : u_lay RX0 TX0 1 ∈ zi_tb := (zi_t1 (j := 130) rfl rfl)
theorem zl_0_2 : u_lay RX0 TX0 2 ∈ zi_tb := (zi_t1 (j := 132) rfl rfl)
theorem zl_0_3 : u_lay RX0 TX0 3 ∈ zi_tb := (zi_t1 (j := 134) rfl rfl)
theorem zl_0_4 : u_lay RX0 TX0 4 ∈ zi_tb := (zi_t1 (j := 136) rfl rfl)
theorem zl_0_5 : u_lay RX0 TX0 5 ∈ zi_tb := (zi_t1 (j := 138) rfl rfl)
theorem zl_0_6 : u_lay RX0 TX0 6 ∈ zi_tb := (zi_t1 (j := 140) rfl rfl)
theorem zl_0_7 : u_lay RX0 TX0 7 ∈ zi_tb := (zi_t1 (j := 142) rfl rfl)
theorem zl_0_8 : u_lay RX0 TX0 8 ∈ zi_tb := (zi_t1 (j := 144) rfl rfl)
theorem zl_0_9 : u_lay RX0 TX0 9 ∈ zi_tb := (zi_t1 (j := 146) rfl rfl)
theorem zl_0_10 : u_lay RX0 TX0 10 ∈ zi_tb := (zi_t1 (j := 148) rfl rfl)
set_option maxRecDepth 100000 in
theorem zl_0 : ∀ w ∈ u_ws RX0 TX0 11, w ∈ zi_tb := (show ∀ w ∈ [u_lay RX0 TX0 0, u_lay RX0 TX0 1, u_lay RX0 TX0 2, u_lay RX0 TX0 3, u_lay RX0 TX0 4, u_lay RX0 TX0 5, u_lay RX0 TX0 6, u_lay RX0 TX0 7, u_lay RX0 TX0 8, u_lay RX0 TX0 9, u_lay RX0 TX0 10], w ∈ zi_tb from List.forall_mem_cons.mpr ⟨zl_0_0, List.forall_mem_cons.mpr ⟨zl_0_1, List.forall_mem_cons.mpr ⟨zl_0_2, List.forall_mem_cons.mpr ⟨zl_0_3, List.forall_mem_cons.mpr ⟨zl_0_4, List.forall_mem_cons.mpr ⟨zl_0_5, List.forall_mem_cons.mpr ⟨zl_0_6, List.forall_mem_cons.mpr ⟨zl_0_7, List.forall_mem_cons.mpr ⟨zl_0_8, List.forall_mem_cons.mpr ⟨zl_0_9, List.forall_mem_cons.mpr ⟨zl_0_10, fun _ h => absurd h List.not_mem_nil⟩⟩⟩⟩⟩⟩⟩⟩⟩⟩⟩)
theorem zl_1_0 : u_lay RX1 TX1 0 ∈ zi_tb := (zi_t1 (j := 210) rfl rfl)
theorem zl_1_1 : u_lay RX1 TX1 1 ∈ zi_tb := (zi_t1 (j := 212) rfl rfl)
theorem zl_1_2 : u_lay RX1 TX1 2 ∈ zi_tb := (zi_t1 (j := 214) rfl rfl)
set_option maxRecDepth 100000 in
theorem zl_1 : ∀ w ∈ u_ws RX1 TX1 3, w ∈ zi_tb := (show ∀ w ∈ [u_lay RX1 TX1 0, u_lay RX1 TX1 1, u_lay RX1 TX1 2], w ∈ zi_tb from List.forall_mem_cons.mpr ⟨zl_1_0, List.forall_mem_cons.mpr ⟨zl_1_1, List.forall_mem_cons.mpr ⟨zl_1_2, fun _ h => absurd h List.not_mem_nil⟩⟩⟩)
theorem zl_2_0 : u_lay RX2 TX2 0 ∈ zi_tb := (zi_t2 (j := 9) rfl rfl)
theorem zl_2_1 : u_lay RX2 TX2 1 ∈ zi_tb := (zi_t2 (j := 11) rfl rfl)
theorem zl_2_2 : u_lay RX2 TX2 2 ∈ zi_tb := (zi_t2 (j := 13) rfl rfl)
set_option maxRecDepth 100000 in
theorem zl_2 : ∀ w ∈ u_ws RX2 TX2 3, w ∈ zi_tb := (show ∀ w ∈ [u_lay RX2 TX2 0, u_lay RX2 TX2 1, u_lay RX2 TX2 2], w ∈ zi_tb from List.forall_mem_cons.mpr ⟨zl_2_0, List.forall_mem_cons.mpr ⟨zl_2_1, List.forall_mem_cons.mpr ⟨zl_2_2, fun _ h => absurd h List.not_mem_nil⟩⟩⟩)
theorem zl_3_0 : u_lay RX3 TX3 0 ∈ zi_tb := (zi_t1 (j := 182) rfl rfl)
theorem zl_3_1 : u_lay RX3 TX3 1 ∈ zi_tb := (zi_t1 (j := 184) rfl rfl)
theorem zl_3_2 : u_lay RX3 TX3 2 ∈ zi_tb := (zi_t1 (j := 186) rfl rfl)
theorem zl_3_3 : u_lay RX3 TX3 3 ∈ zi_tb := (zi_t1 (j := 188) rfl rfl)
theorem zl_3_4 : u_lay RX3 TX3 4 ∈ zi_tb := (zi_t1 (j := 190) rfl rfl)
theorem zl_3_5 : u_lay RX3 TX3 5 ∈ zi_tb := (zi_t1 (j := 192) rfl rfl)
theorem zl_3_6 : u_lay RX3 TX3 6 ∈ zi_tb := (zi_t1 (j := 194) rfl rfl)
theorem zl_3_7 : u_lay RX3 TX3 7 ∈ zi_tb := (zi_t1 (j := 196) rfl rfl)
set_option maxRecDepth 100000 in
theorem zl_3 : ∀ w ∈ u_ws RX3 TX3 8, w ∈ zi_tb := (show ∀ w ∈ [u_lay RX3 TX3 0, u_lay RX3 TX3 1, u_lay RX3 TX3 2, u_lay RX3 TX3 3, u_lay RX3 TX3 4, u_lay RX3 TX3 5, u_lay RX3 TX3 6, u_lay RX3 TX3 7], w ∈ zi_tb from List.forall_mem_cons.mpr ⟨zl_3_0, List.forall_mem_cons.mpr ⟨zl_3_1, List.forall_mem_cons.mpr ⟨zl_3_2, List.forall_mem_cons.mpr ⟨zl_3_3, List.forall_mem_cons.mpr ⟨zl_3_4, List.forall_mem_cons.mpr ⟨zl_3_5, List.forall_mem_cons.mpr ⟨zl_3_6, List.forall_mem_cons.mpr ⟨zl_3_7, fun _ h => absurd h List.not_mem_nil⟩⟩⟩⟩⟩⟩⟩⟩)
theorem zl_4_0 : u_lay RX4 TX4 0 ∈ zi_tb := (zi_t2 (j := 29) rfl rfl)
theorem zl_4_1 : u_lay RX4 TX4 1 ∈ zi_tb := (zi_t2 (j := 31) rfl rfl)
theorem zl_4_2 : u_lay RX4 TX4 2 ∈ zi_tb := (zi_t2 (j := 33) rfl rfl)
theorem zl_4_3 : u_lay RX4 TX4 3 ∈ zi_tb := (zi_t2 (j := 35) rfl rfl)
theorem zl_4_4 : u_lay RX4 TX4 4 ∈ zi_tb := (zi_t2 (j := 37) rfl rfl)
theorem zl_4_5 : u_lay RX4 TX4 5 ∈ zi_tb := (zi_t2 (j := 39) rfl rfl)
set_option maxRecDepth 100000 in
theorem zl_4 : ∀ w ∈ u_ws RX4 TX4 6, w ∈ zi_tb := (show ∀ w ∈ [u_lay RX4 TX4 0, u_lay RX4 TX4 1, u_lay RX4 TX4 2, u_lay RX4 TX4 3, u_lay RX4 TX4 4, u_lay RX4 TX4 5], w ∈ zi_tb from List.forall_mem_cons.mpr ⟨zl_4_0, List.forall_mem_cons.mpr ⟨zl_4_1, List.forall_mem_cons.mpr ⟨zl_4_2, List.forall_mem_cons.mpr ⟨zl_4_3, List.forall_mem_cons.mpr ⟨zl_4_4, List.forall_mem_cons.mpr ⟨zl_4_5, fun _ h => absurd h List.not_mem_nil⟩⟩⟩⟩⟩⟩)
theorem zl_5_0 : u_lay RX5 TX5 0 ∈ zi_tb := (zi_t1 (j := 62) rfl rfl)
theorem zl_5_1 : u_lay RX5 TX5 1 ∈ zi_tb := (zi_t1 (j := 64) rfl rfl)
set_option maxRecDepth 100000 in
theorem zl_5 : ∀ w ∈ u_ws RX5 TX5 2, w ∈ zi_tb := (show ∀ w ∈ [u_lay RX5 TX5 0, u_lay RX5 TX5 1], w ∈ zi_tb from List.forall_mem_cons.mpr ⟨zl_5_0, List.forall_mem_cons.mpr ⟨zl_5_1, fun _ h => absurd h List.not_mem_nil⟩⟩)
theorem zl_6_0 : u_lay RX6 TX6 0 ∈ zi_tb := (zi_t2 (j := 76) rfl rfl)
theorem zl_6_1 : u_lay RX6 TX6 1 ∈ zi_tb := (zi_t2 (j := 78) rfl rfl)
theorem zl_6_2 : u_lay RX6 TX6 2 ∈ zi_tb := (zi_t2 (j := 80) rfl rfl)
set_option maxRecDepth 100000 in
theorem zl_6 : ∀ w ∈ u_ws RX6 TX6 3, w ∈ zi_tb := (show ∀ w ∈ [u_lay RX6 TX6 0, u_lay RX6 TX6 1, u_lay RX6 TX6 2], w ∈ zi_tb from List.forall_mem_cons.mpr ⟨zl_6_0, List.forall_mem_cons.mpr ⟨zl_6_1, List.forall_mem_cons.mpr ⟨zl_6_2, fun _ h => absurd h List.not_mem_nil⟩⟩⟩)
theorem zl_7_0 : u_lay RX7 TX7 0 ∈ zi_tb := (zi_t1 (j := 86) rfl rfl)
theorem zl_7_1 : u_lay RX7 TX7 1 ∈ zi_tb := (zi_t1 (j := 88) rfl rfl)
theorem zl_7_2 : u_lay RX7 TX7 2 ∈ zi_tb := (zi_t1 (j := 90) rfl rfl)
theorem zl_7_3 : u_lay RX7 TX7 3 ∈ zi_tb := (zi_t1 (j := 92) rfl rfl)
theorem zl_7_4 : u_lay RX7 TX7 4 ∈ zi_tb := (zi_t1 (j := 94) rfl rfl)
theorem zl_7_5 : u_lay RX7 TX7 5 ∈ zi_tb := (zi_t1 (j := 96) rfl rfl)
set_option maxRecDepth 100000 in
theorem zl_7 : ∀ w ∈ u_ws RX7 TX7 6, w ∈ zi_tb := (show ∀ w ∈ [u_lay RX7 TX7 0, u_lay RX7 TX7 1, u_lay RX7 TX7 2, u_lay RX7 TX7 3, u_lay RX7 TX7 4, u_lay RX7 TX7 5], w ∈ zi_tb from List.forall_mem_cons.mpr ⟨zl_7_0, List.forall_mem_cons.mpr ⟨zl_7_1, List.forall_mem_cons.mpr ⟨zl_7_2, List.forall_mem_cons.mpr ⟨zl_7_3, List.forall_mem_cons.mpr ⟨zl_7_4, List.forall_mem_cons.mpr ⟨zl_7_5, fun _ h => absurd h List.not_mem_nil⟩⟩⟩⟩⟩⟩)
theorem zl_8_0 : u_lay RX8 TX8 0 ∈ zi_tb := (zi_t1 (j := 44) rfl rfl)
theorem zl_8_1 : u_lay RX8 TX8 1 ∈ zi_tb := (zi_t1 (j := 46) rfl rfl)
theorem zl_8_2 : u_lay RX8 TX8 2 ∈ zi_tb := (zi_t1 (j := 48) rfl rfl)
theorem zl_8_3 : u_lay RX8 TX8 3 ∈ zi_tb := (zi_t1 (j := 50) rfl rfl)
set_option maxRecDepth 100000 in
theorem zl_8 : ∀ w ∈ u_ws RX8 TX8 4, w ∈ zi_tb := (show ∀ w ∈ [u_lay RX8 TX8 0, u_lay RX8 TX8 1, u_lay RX8 TX8 2, u_lay RX8 TX8 3], w ∈ zi_tb from List.forall_mem_cons.mpr ⟨zl_8_0, List.forall_mem_cons.mpr ⟨zl_8_1, List.forall_mem_cons.mpr ⟨zl_8_2, List.forall_mem_cons.mpr ⟨zl_8_3, fun _ h => absurd h List.not_mem_nil⟩⟩⟩⟩)
theorem zl_9_0 : u_lay RX9 TX9 0 ∈ zi_tb := (zi_t1 (j := 229) rfl rfl)
theorem zl_9_1 : u_lay RX9 TX9 1 ∈ zi_tb := (zi_t1 (j := 231) rfl rfl)
theorem zl_9_2 : u_lay RX9 TX9 2 ∈ zi_tb := (zi_t1 (j := 233) rfl rfl)
theorem zl_9_3 : u_lay RX9 TX9 3 ∈ zi_tb := (zi_t1 (j := 235) rfl rfl)
theorem zl_9_4 : u_lay RX9 TX9 4 ∈ zi_tb := (zi_t1 (j := 237) rfl rfl)
set_option maxRecDepth 100000 in
theorem zl_9 : ∀ w ∈ u_ws RX9 TX9 5, w ∈ zi_tb := (show ∀ w ∈ [u_lay RX9 TX9 0, u_lay RX9 TX9 1, u_lay RX9 TX9 2, u_lay RX9 TX9 3, u_lay RX9 TX9 4], w ∈ zi_tb from List.forall_mem_cons.mpr ⟨zl_9_0, List.forall_mem_cons.mpr ⟨zl_9_1, List.forall_mem_cons.mpr ⟨zl_9_2, List.forall_mem_cons.mpr ⟨zl_9_3, List.forall_mem_cons.mpr ⟨zl_9_4, fun _ h => absurd h List.not_mem_nil⟩⟩⟩⟩⟩)
theorem zl_10_0 : u_lay RX10 TX10 0 ∈ zi_tb := (zi_t2 (j := 53) rfl rfl)
theorem zl_10_1 : u_lay RX10 TX10 1 ∈ zi_tb := (zi_t2 (j := 55) rfl rfl)
theorem zl_10_2 : u_lay RX10 TX10 2 ∈ zi_tb := (zi_t2 (j := 57) rfl rfl)
theorem zl_10_3 : u_lay RX10 TX10 3 ∈ zi_tb := (zi_t2 (j := 59) rfl rfl)
theorem zl_10_4 : u_lay RX10 TX10 4 ∈ zi_tb := (zi_t2 (j := 61) rfl rfl)
set_option maxRecDepth 100000 in
theorem zl_10 : ∀ w ∈ u_ws RX10 TX10 5, w ∈ zi_tb := (show ∀ w ∈ [u_lay RX10 TX10 0, u_lay RX10 TX10 1, u_lay RX10 TX10 2, u_lay RX10 TX10 3, u_lay RX10 TX10 4], w ∈ zi_tb from List.forall_mem_cons.mpr ⟨zl_10_0, List.forall_mem_cons.mpr ⟨zl_10_1, List.forall_mem_cons.mpr ⟨zl_10_2, List.forall_mem_cons.mpr ⟨zl_10_3, List.forall_mem_cons.mpr ⟨zl_10_4, fun _ h => absurd h List.not_mem_nil⟩⟩⟩⟩⟩)
theorem zl_11_0 : u_lay RX11 TX11 0 ∈ zi_tb := (zi_t2 (j := 98) rfl rfl)
theorem zl_11_1 : u_lay RX11 TX11 1 ∈ zi_tb := (zi_t2 (j := 100) rfl rfl)
theorem zl_11_2 : u_lay RX11 TX11 2 ∈ zi_tb := (zi_t2 (j := 102) rfl rfl)
theorem zl_11_3 : u_lay RX11 TX11 3 ∈ zi_tb := (zi_t2 (j := 104) rfl rfl)
theorem zl_11_4 : u_lay RX11 TX11 4 ∈ zi_tb := (zi_t2 (j := 106) rfl rfl)
theorem zl_11_5 : u_lay RX11 TX11 5 ∈ zi_tb := (zi_t2 (j := 108) rfl rfl)
theorem zl_11_6 : u_lay RX11 TX11 6 ∈ zi_tb := (zi_t2 (j := 110) rfl rfl)
theorem zl_11_7 : u_lay RX11 TX11 7 ∈ zi_tb := (zi_t2 (j := 112) rfl rfl)
theorem zl_11_8 : u_lay RX11 TX11 8 ∈ zi_tb := (zi_t2 (j := 114) rfl rfl)
theorem zl_11_9 : u_lay RX11 TX11 9 ∈ zi_tb := (zi_t2 (j := 116) rfl rfl)
theorem zl_11_10 : u_lay RX11 TX11 10 ∈ zi_tb := (zi_t2 (j := 118) rfl rfl)
theorem zl_11_11 : u_lay RX11 TX11 11 ∈ zi_tb := (zi_t2 (j := 120) rfl rfl)
theorem zl_11_12 : u_lay RX11 TX11 12 ∈ zi_tb := (zi_t2 (j := 122) rfl rfl)
theorem zl_11_13 : u_lay RX11 TX11 13 ∈ zi_tb := (zi_t2 (j := 124) rfl rfl)
theorem zl_11_14 : u_lay RX11 TX11 14 ∈ zi_tb := (zi_t2 (j := 126) rfl rfl)
set_option maxRecDepth 100000 in
theorem zl_11 : ∀ w ∈ u_ws RX11 TX11 15, w ∈ zi_tb := (show ∀ w ∈ [u_lay RX11 TX11 0, u_lay RX11 TX11 1, u_lay RX11 TX11 2, u_lay RX11 TX11 3, u_lay RX11 TX11 4, u_lay RX11 TX11 5, u_lay RX11 TX11 6, u_lay RX11 TX11 7, u_lay RX11 TX11 8, u_lay RX11 TX11 9, u_lay RX11 TX11 10, u_lay RX11 TX11 11, u_lay RX11 TX11 12, u_lay RX11 TX11 13, u_lay RX11 TX11 14], w ∈ zi_tb from List.forall_mem_cons.mpr ⟨zl_11_0, List.forall_mem_cons.mpr ⟨zl_11_1, List.forall_mem_cons.mpr ⟨zl_11_2, List.forall_mem_cons.mpr ⟨zl_11_3, List.forall_mem_cons.mpr ⟨zl_11_4, List.forall_mem_cons.mpr ⟨zl_11_5, List.forall_mem_cons.mpr ⟨zl_11_6, List.forall_mem_cons.mpr ⟨zl_11_7, List.forall_mem_cons.mpr ⟨zl_11_8, List.forall_mem_cons.mpr ⟨zl_11_9, List.forall_mem_cons.mpr ⟨zl_11_10, List.forall_mem_cons.mpr ⟨zl_11_11, List.forall_mem_cons.mpr ⟨zl_11_12, List.forall_mem_cons.mpr ⟨zl_11_13, List.forall_mem_cons.mpr ⟨zl_11_14, fun _ h => absurd h List.not_mem_nil⟩⟩⟩⟩⟩⟩⟩⟩⟩⟩⟩⟩⟩⟩⟩)
theorem zl_12_0 : u_lay RX12 TX12 0 ∈ zi_tb := (zi_t6 (j := 72) rfl rfl)
theorem zl_12_1 : u_lay RX12 TX12 1 ∈ zi_tb := (zi_t6 (j := 74) rfl rfl)
theorem zl_12_2 : u_lay RX12 TX12 2 ∈ zi_tb := (zi_t6 (j := 76) rfl rfl)
theorem zl_12_3 : u_lay RX12 TX12 3 ∈ zi_tb := (zi_t6 (j := 78) rfl rfl)
theorem zl_12_4 : u_lay RX12 TX12 4 ∈ zi_tb := (zi_t6 (j := 80) rfl rfl)
theorem zl_12_5 : u_lay RX12 TX12 5 ∈ zi_tb := (zi_t6 (j := 82) rfl rfl)
theorem zl_12_6 : u_lay RX12 TX12 6 ∈ zi_tb := (zi_t6 (j := 84) rfl rfl)
theorem zl_12_7 : u_lay RX12 TX12 7 ∈ zi_tb := (zi_t6 (j := 86) rfl rfl)
theorem zl_12_8 : u_lay RX12 TX12 8 ∈ zi_tb := (zi_t6 (j := 88) rfl rfl)
theorem zl_12_9 : u_lay RX12 TX12 9 ∈ zi_tb := (zi_t6 (j := 90) rfl rfl)
theorem zl_12_10 : u_lay RX12 TX12 10 ∈ zi_tb := (zi_t6 (j := 92) rfl rfl)
theorem zl_12_11 : u_lay RX12 TX12 11 ∈ zi_tb := (zi_t6 (j := 94) rfl rfl)
theorem zl_12_12 : u_lay RX12 TX12 12 ∈ zi_tb := (zi_t6 (j := 96) rfl rfl)
theorem zl_12_13 : u_lay RX12 TX12 13 ∈ zi_tb := (zi_t6 (j := 98) rfl rfl)
theorem zl_12_14 : u_lay RX12 TX12 14 ∈ zi_tb := (zi_t6 (j := 100) rfl rfl)
theorem zl_12_15 : u_lay RX12 TX12 15 ∈ zi_tb := (zi_t6 (j := 102) rfl rfl)
theorem zl_12_16 : u_lay RX12 TX12 16 ∈ zi_tb := (zi_t6 (j := 104) rfl rfl)
theorem zl_12_17 : u_lay RX12 TX12 17 ∈ zi_tb := (zi_t6 (j := 106) rfl rfl)
theorem zl_12_18 : u_lay RX12 TX12 18 ∈ zi_tb := (zi_t6 (j := 108) rfl rfl)
theorem zl_12_19 : u_lay RX12 TX12 19 ∈ zi_tb := (zi_t6 (j := 110) rfl rfl)
theorem zl_12_20 : u_lay RX12 TX12 20 ∈ zi_tb := (zi_t6 (j := 112) rfl rfl)
theorem zl_12_21 : u_lay RX12 TX12 21 ∈ zi_tb := (zi_t6 (j := 114) rfl rfl)
theorem zl_12_22 : u_lay RX12 TX12 22 ∈ zi_tb := (zi_t6 (j := 116) rfl rfl)
theorem zl_12_23 : u_lay RX12 TX12 23 ∈ zi_tb := (zi_t6 (j := 118) rfl rfl)
theorem zl_12_24 : u_lay RX12 TX12 24 ∈ zi_tb := (zi_t6 (j := 120) rfl rfl)
theorem zl_12_25 : u_lay RX12 TX12 25 ∈ zi_tb := (zi_t6 (j := 122) rfl rfl)
theorem zl_12_26 : u_lay RX12 TX12 26 ∈ zi_tb := (zi_t6 (j := 124) rfl rfl)
theorem zl_12_27 : u_lay RX12 TX12 27 ∈ zi_tb := (zi_t6 (j := 126) rfl rfl)
theorem zl_12_28 : u_lay RX12 TX12 28 ∈ zi_tb := (zi_t6 (j := 128) rfl rfl)
theorem zl_12_29 : u_lay RX12 TX12 29 ∈ zi_tb := (zi_t6 (j := 130) rfl rfl)
theorem zl_12_30 : u_lay RX12 TX12 30 ∈ zi_tb := (zi_t6 (j := 132) rfl rfl)
theorem zl_12_31 : u_lay RX12 TX12 31 ∈ zi_tb := (zi_t6 (j := 134) rfl rfl)
theorem zl_12_32 : u_lay RX12 TX12 32 ∈ zi_tb := (zi_t6 (j := 136) rfl rfl)
theorem zl_12_33 : u_lay RX12 TX12 33 ∈ zi_tb := (zi_t6 (j := 138) rfl rfl)
theorem zl_12_34 : u_lay RX12 TX12 34 ∈ zi_tb := (zi_t6 (j := 140) rfl rfl)
theorem zl_12_35 : u_lay RX12 TX12 35 ∈ zi_tb := (zi_t6 (j := 142) rfl rfl)
theorem zl_12_36 : u_lay RX12 TX12 36 ∈ zi_tb := (zi_t6 (j := 144) rfl rfl)
theorem zl_12_37 : u_lay RX12 TX12 37 ∈ zi_tb := (zi_t6 (j := 146) rfl rfl)
theorem zl_12_38 : u_lay RX12 TX12 38 ∈ zi_tb := (zi_t6 (j := 148) rfl rfl)
theorem zl_12_39 : u_lay RX12 TX12 39 ∈ zi_tb := (zi_t6 (j := 150) rfl rfl)
theorem zl_12_40 : u_lay RX12 TX12 40 ∈ zi_tb := (zi_t6 (j := 152) rfl rfl)
theorem zl_12_41 : u_lay RX12 TX12 41 ∈ zi_tb := (zi_t6 (j := 154) rfl rfl)
theorem zl_12_42 : u_lay RX12 TX12 42 ∈ zi_tb := (zi_t6 (j := 156) rfl rfl)
theorem zl_12_43 : u_lay RX12 TX12 43 ∈ zi_tb := (zi_t6 (j := 158) rfl rfl)
theorem zl_12_44 : u_lay RX12 TX12 44 ∈ zi_tb := (zi_t6 (j := 160) rfl rfl)
theorem zl_12_45 : u_lay RX12 TX12 45 ∈ zi_tb := (zi_t6 (j := 162) rfl rfl)
theorem zl_12_46 : u_lay RX12 TX12 46 ∈ zi_tb := (zi_t6 (j := 164) rfl rfl)
theorem zl_12_47 : u_lay RX12 TX12 47 ∈ zi_tb := (zi_t6 (j := 166) rfl rfl)
theorem zl_12_48 : u_lay RX12 TX12 48 ∈ zi_tb := (zi_t6 (j := 168) rfl rfl)
theorem zl_12_49 : u_lay RX12 TX12 49 ∈ zi_tb := (zi_t6 (j := 170) rfl rfl)
theorem zl_12_50 : u_lay RX12 TX12 50 ∈ zi_tb := (zi_t6 (j := 172) rfl rfl)
theorem zl_12_51 : u_lay RX12 TX12 51 ∈ zi_tb := (zi_t6 (j := 174) rfl rfl)
theorem zl_12_52 : u_lay RX12 TX12 52 ∈ zi_tb := (zi_t6 (j := 176) rfl rfl)
set_option maxRecDepth 100000 in
theorem zl_12 : ∀ w ∈ u_ws RX12 TX12 53, w ∈ zi_tb := (show ∀ w ∈ [u_lay RX12 TX12 0, u_lay RX12 TX12 1, u_lay RX12 TX12 2, u_lay RX12 TX12 3, u_lay RX12 TX12 4, u_lay RX12 TX12 5, u_lay RX12 TX12 6, u_lay RX12 TX12 7, u_lay RX12 TX12 8, u_lay RX12 TX12 9, u_lay RX12 TX12 10, u_lay RX12 TX12 11, u_lay RX12 TX12 12, u_lay RX12 TX12 13, u_lay RX12 TX12 14, u_lay RX12 TX12 15, u_lay RX12 TX12 16, u_lay RX12 TX12 17, u_lay RX12 TX12 18, u_lay RX12 TX12 19, u_lay RX12 TX12 20, u_lay RX12 TX12 21, u_lay RX12 TX12 22, u_lay RX12 TX12 23, u_lay RX12 TX12 24, u_lay RX12 TX12 25, u_lay RX12 TX12 26, u_lay RX12 TX12 27, u_lay RX12 TX12 28, u_lay RX12 TX12 29, u_lay RX12 TX12 30, u_lay RX12 TX12 31, u_lay RX12 TX12 32, u_lay RX12 TX12 33, u_lay RX12 TX12 34, u_lay RX12 TX12 35, u_lay RX12 TX12 36, u_lay RX12 TX12 37, u_lay RX12 TX12 38, u_lay RX12 TX12 39, u_lay RX12 TX12 40, u_lay RX12 TX12 41, u_lay RX12 TX12 42, u_lay RX12 TX12 43, u_lay RX12 TX12 44, u_lay RX12 TX12 45, u_lay RX12 TX12 46, u_lay RX12 TX12 47, u_lay RX12 TX12 48, u_lay RX12 TX12 49, u_lay RX12 TX12 50, u_lay RX12 TX12 51, u_lay RX12 TX12 52], w ∈ zi_tb from List.forall_mem_cons.mpr ⟨zl_12_0, List.forall_mem_cons.mpr ⟨zl_12_1, List.forall_mem_cons.mpr ⟨zl_12_2, List.forall_mem_cons.mpr ⟨zl_12_3, List.forall_mem_cons.mpr ⟨zl_12_4, List.forall_mem_cons.mpr ⟨zl_12_5, List.forall_mem_cons.mpr ⟨zl_12_6, List.forall_mem_cons.mpr ⟨zl_12_7, List.forall_mem_cons.mpr ⟨zl_12_8, List.forall_mem_cons.mpr ⟨zl_12_9, List.forall_mem_cons.mpr ⟨zl_12_10, List.forall_mem_cons.mpr ⟨zl_12_11, List.forall_mem_cons.mpr ⟨zl_12_12, List.forall_mem_cons.mpr ⟨zl_12_13, List.forall_mem_cons.mpr ⟨zl_12_14, List.forall_mem_cons.mpr ⟨zl_12_15, List.forall_mem_cons.mpr ⟨zl_12_16, List.forall_mem_cons.mpr ⟨zl_12_17, List.forall_mem_cons.mpr ⟨zl_12_18, List.forall_mem_cons.mpr ⟨zl_12_19, List.forall_mem_cons.mpr ⟨zl_12_20, List.forall_mem_cons.mpr ⟨zl_12_21, List.forall_mem_cons.mpr ⟨zl_12_22, List.forall_mem_cons.mpr ⟨zl_12_23, List.forall_mem_cons.mpr ⟨zl_12_24, List.forall_mem_cons.mpr ⟨zl_12_25, List.forall_mem_cons.mpr ⟨zl_12_26, List.forall_mem_cons.mpr ⟨zl_12_27, List.forall_mem_cons.mpr ⟨zl_12_28, List.forall_mem_cons.mpr ⟨zl_12_29, List.forall_mem_cons.mpr ⟨zl_12_30, List.forall_mem_cons.mpr ⟨zl_12_31, List.forall_mem_cons.mpr ⟨zl_12_32, List.forall_mem_cons.mpr ⟨zl_12_33, List.forall_mem_cons.mpr ⟨zl_12_34, List.forall_mem_cons.mpr ⟨zl_12_35, List.forall_mem_cons.mpr ⟨zl_12_36, List.forall_mem_cons.mpr ⟨zl_12_37, List.forall_mem_cons.mpr ⟨zl_12_38, List.forall_mem_cons.mpr ⟨zl_12_39, List.forall_mem_cons.mpr ⟨zl_12_40, List.forall_mem_cons.mpr ⟨zl_12_41, List.forall_mem_cons.mpr ⟨zl_12_42, List.forall_mem_cons.mpr ⟨zl_12_43, List.forall_mem_cons.mpr ⟨zl_12_44, List.forall_mem_cons.mpr ⟨zl_12_45, List.forall_mem_cons.mpr ⟨zl_12_46, List.forall_mem_cons.mpr ⟨zl_12_47, List.forall_mem_cons.mpr ⟨zl_12_48, List.forall_mem_cons.mpr ⟨zl_12_49, List.forall_mem_cons.mpr ⟨zl_12_50, List.forall_mem_cons.mpr ⟨zl_12_51, List.forall_mem_cons.mpr ⟨zl_12_52, fun _ h => absurd h List.not_mem_nil⟩⟩⟩⟩⟩⟩⟩⟩⟩⟩⟩⟩⟩⟩⟩⟩⟩⟩⟩⟩⟩⟩⟩⟩⟩⟩⟩⟩⟩⟩⟩⟩⟩⟩⟩⟩⟩⟩⟩⟩⟩⟩⟩⟩⟩⟩⟩⟩⟩⟩⟩⟩⟩)
theorem zi_clsok : zi_cls := by
  intro ci r h
  match ci, h with
  | 0, h =>
    cases h
    exact ⟨zl_0, tyX0_ok, nmX0⟩
  | 1, h =>
    cases h
    exact ⟨zl_1, tyX1_ok, nmX1⟩
  | 2, h =>
    cases h
    exact ⟨zl_2, tyX2_ok, nmX2⟩
  | 3, h =>
    cases h
    exact ⟨zl_3, tyX3_ok, nmX3⟩
  | 4, h =>
    cases h
    exact ⟨zl_4, tyX4_ok, nmX4⟩
  | 5, h =>
    cases h
    exact ⟨zl_5, tyX5_ok, nmX5⟩
  | 6, h =>
    cases h
    exact ⟨zl_6, tyX6_ok, nmX6⟩
  | 7, h =>
    cases h
    exact ⟨zl_7, tyX7_ok, nmX7⟩
  | 8, h =>
    cases h
    exact ⟨zl_8, tyX8_ok, nmX8⟩
  | 9, h =>
    cases h
    exact ⟨zl_9, tyX9_ok, nmX9⟩
  | 10, h =>
    cases h
    exact ⟨zl_10, tyX10_ok, nmX10⟩
  | 11, h =>
    cases h
    exact ⟨zl_11, tyX11_ok, nmX11⟩
  | 12, h =>
    cases h
    exact ⟨zl_12, tyX12_ok, nmX12⟩
  | n + 13, h => simp [vwCl] at h
