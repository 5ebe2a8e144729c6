/-! ===== the code of the law is what its bytes decode to ===== -/
set_option maxRecDepth 100000 in
theorem zkL_0 : zi_chk cL_law false 13 0 ((kL_law.drop 0).take 64) = true := by decide +kernel
set_option maxRecDepth 100000 in
theorem zkL_1 : zi_chk cL_law false 13 64 ((kL_law.drop 64).take 64) = true := by decide +kernel
set_option maxRecDepth 100000 in
theorem zkL_2 : zi_chk cL_law false 13 128 ((kL_law.drop 128).take 64) = true := by decide +kernel
set_option maxRecDepth 100000 in
theorem zkL_3 : zi_chk cL_law false 13 192 ((kL_law.drop 192).take 64) = true := by decide +kernel
set_option maxRecDepth 100000 in
theorem zkL_4 : zi_chk cL_law false 13 256 ((kL_law.drop 256).take 64) = true := by decide +kernel
set_option maxRecDepth 100000 in
theorem zkL_5 : zi_chk cL_law false 13 320 ((kL_law.drop 320).take 64) = true := by decide +kernel
set_option maxRecDepth 100000 in
theorem zkL_6 : zi_chk cL_law false 13 384 ((kL_law.drop 384).take 64) = true := by decide +kernel
set_option maxRecDepth 100000 in
theorem zkL_7 : zi_chk cL_law false 13 448 ((kL_law.drop 448).take 64) = true := by decide +kernel
set_option maxRecDepth 100000 in
theorem zkL_8 : zi_chk cL_law false 13 512 ((kL_law.drop 512).take 64) = true := by decide +kernel
set_option maxRecDepth 100000 in
theorem zkL_9 : zi_chk cL_law false 13 576 ((kL_law.drop 576).take 64) = true := by decide +kernel
set_option maxRecDepth 100000 in
theorem zkL_10 : zi_chk cL_law false 13 640 ((kL_law.drop 640).take 64) = true := by decide +kernel
set_option maxRecDepth 100000 in
theorem zkL_11 : zi_chk cL_law false 13 704 ((kL_law.drop 704).take 64) = true := by decide +kernel
set_option maxRecDepth 100000 in
theorem zkL_12 : zi_chk cL_law false 13 768 ((kL_law.drop 768).take 64) = true := by decide +kernel
set_option maxRecDepth 100000 in
theorem zkL_13 : zi_chk cL_law false 13 832 ((kL_law.drop 832).take 64) = true := by decide +kernel
set_option maxRecDepth 100000 in
theorem zkL_14 : zi_chk cL_law false 13 896 ((kL_law.drop 896).take 64) = true := by decide +kernel
set_option maxRecDepth 100000 in
theorem zkL_15 : zi_chk cL_law false 13 960 ((kL_law.drop 960).take 64) = true := by decide +kernel
set_option maxRecDepth 100000 in
theorem zkL_16 : zi_chk cL_law false 13 1024 ((kL_law.drop 1024).take 64) = true := by decide +kernel
set_option maxRecDepth 100000 in
theorem zkL_17 : zi_chk cL_law false 13 1088 ((kL_law.drop 1088).take 64) = true := by decide +kernel
set_option maxRecDepth 100000 in
theorem zkL_18 : zi_chk cL_law false 13 1152 ((kL_law.drop 1152).take 64) = true := by decide +kernel
set_option maxRecDepth 100000 in
theorem zkL_19 : zi_chk cL_law false 13 1216 ((kL_law.drop 1216).take 64) = true := by decide +kernel
set_option maxRecDepth 100000 in
theorem zkL_20 : zi_chk cL_law false 13 1280 ((kL_law.drop 1280).take 64) = true := by decide +kernel
set_option maxRecDepth 100000 in
theorem zkL_21 : zi_chk cL_law false 13 1344 ((kL_law.drop 1344).take 64) = true := by decide +kernel
set_option maxRecDepth 100000 in
theorem zkL_22 : zi_chk cL_law false 13 1408 ((kL_law.drop 1408).take 64) = true := by decide +kernel
set_option maxRecDepth 100000 in
theorem zkL_23 : zi_chk cL_law false 13 1472 ((kL_law.drop 1472).take 64) = true := by decide +kernel
theorem zkL_seg {l : List (Option zi_I)} {i k : Nat} {q : Option zi_I} (h : l[64 * i + k]? = some q) (hk : k < 64) : ((l.drop (64 * i)).take 64)[k]? = some q := by
  rw [List.getElem?_take_of_lt hk, List.getElem?_drop]
  exact h
set_option maxRecDepth 100000 in
theorem kL_len : kL_law.length = 1504 := rfl
theorem zkL_all : ∀ pc q, kL_law[pc]? = some (some q) → decode cL_law pc = .ok (q.1, q.2.1) ∧ q.2.1 = zi_ln q.1 q.2.1 ∧ zi_good zi_M "law" 13 pc q := by
  intro pc q h
  have hlt : pc < 1504 := by
    have := (List.getElem?_eq_some_iff.mp h).1
    rwa [kL_len] at this
  have e : pc = 64 * (pc / 64) + pc % 64 := (Nat.div_add_mod pc 64).symm
  have hm : pc % 64 < 64 := Nat.mod_lt _ (by decide)
  have hi : pc / 64 < 24 := by omega
  generalize pc / 64 = i at e hi
  generalize pc % 64 = k at e hm
  subst e
  rcases (by omega : i = 0 ∨ i = 1 ∨ i = 2 ∨ i = 3 ∨ i = 4 ∨ i = 5 ∨ i = 6 ∨ i = 7 ∨ i = 8 ∨ i = 9 ∨ i = 10 ∨ i = 11 ∨ i = 12 ∨ i = 13 ∨ i = 14 ∨ i = 15 ∨ i = 16 ∨ i = 17 ∨ i = 18 ∨ i = 19 ∨ i = 20 ∨ i = 21 ∨ i = 22 ∨ i = 23) with rfl | rfl | rfl | rfl | rfl | rfl | rfl | rfl | rfl | rfl | rfl | rfl | rfl | rfl | rfl | rfl | rfl | rfl | rfl | rfl | rfl | rfl | rfl | rfl
  · exact zi_chk_ok (ini := false) (nm := "law") (fun h => by cases h) zkL_0 k q (zkL_seg (i := 0) h hm)
  · exact zi_chk_ok (ini := false) (nm := "law") (fun h => by cases h) zkL_1 k q (zkL_seg (i := 1) h hm)
  · exact zi_chk_ok (ini := false) (nm := "law") (fun h => by cases h) zkL_2 k q (zkL_seg (i := 2) h hm)
  · exact zi_chk_ok (ini := false) (nm := "law") (fun h => by cases h) zkL_3 k q (zkL_seg (i := 3) h hm)
  · exact zi_chk_ok (ini := false) (nm := "law") (fun h => by cases h) zkL_4 k q (zkL_seg (i := 4) h hm)
  · exact zi_chk_ok (ini := false) (nm := "law") (fun h => by cases h) zkL_5 k q (zkL_seg (i := 5) h hm)
  · exact zi_chk_ok (ini := false) (nm := "law") (fun h => by cases h) zkL_6 k q (zkL_seg (i := 6) h hm)
  · exact zi_chk_ok (ini := false) (nm := "law") (fun h => by cases h) zkL_7 k q (zkL_seg (i := 7) h hm)
  · exact zi_chk_ok (ini := false) (nm := "law") (fun h => by cases h) zkL_8 k q (zkL_seg (i := 8) h hm)
  · exact zi_chk_ok (ini := false) (nm := "law") (fun h => by cases h) zkL_9 k q (zkL_seg (i := 9) h hm)
  · exact zi_chk_ok (ini := false) (nm := "law") (fun h => by cases h) zkL_10 k q (zkL_seg (i := 10) h hm)
  · exact zi_chk_ok (ini := false) (nm := "law") (fun h => by cases h) zkL_11 k q (zkL_seg (i := 11) h hm)
  · exact zi_chk_ok (ini := false) (nm := "law") (fun h => by cases h) zkL_12 k q (zkL_seg (i := 12) h hm)
  · exact zi_chk_ok (ini := false) (nm := "law") (fun h => by cases h) zkL_13 k q (zkL_seg (i := 13) h hm)
  · exact zi_chk_ok (ini := false) (nm := "law") (fun h => by cases h) zkL_14 k q (zkL_seg (i := 14) h hm)
  · exact zi_chk_ok (ini := false) (nm := "law") (fun h => by cases h) zkL_15 k q (zkL_seg (i := 15) h hm)
  · exact zi_chk_ok (ini := false) (nm := "law") (fun h => by cases h) zkL_16 k q (zkL_seg (i := 16) h hm)
  · exact zi_chk_ok (ini := false) (nm := "law") (fun h => by cases h) zkL_17 k q (zkL_seg (i := 17) h hm)
  · exact zi_chk_ok (ini := false) (nm := "law") (fun h => by cases h) zkL_18 k q (zkL_seg (i := 18) h hm)
  · exact zi_chk_ok (ini := false) (nm := "law") (fun h => by cases h) zkL_19 k q (zkL_seg (i := 19) h hm)
  · exact zi_chk_ok (ini := false) (nm := "law") (fun h => by cases h) zkL_20 k q (zkL_seg (i := 20) h hm)
  · exact zi_chk_ok (ini := false) (nm := "law") (fun h => by cases h) zkL_21 k q (zkL_seg (i := 21) h hm)
  · exact zi_chk_ok (ini := false) (nm := "law") (fun h => by cases h) zkL_22 k q (zkL_seg (i := 22) h hm)
  · exact zi_chk_ok (ini := false) (nm := "law") (fun h => by cases h) zkL_23 k q (zkL_seg (i := 23) h hm)
