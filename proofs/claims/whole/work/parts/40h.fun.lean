/-! ===== printed by wip/gen/dec.py: the methods as functions, each with its run ===== -/
def fX12_levels_B4 (n : Nat) (s : zs) (w4 : Int32 × Int32) : Option ((Int32 × Int32) ⊕ (Int32)) := if (s.1 161 3) ≤ w4.2 then some (Sum.inr w4.1) else cond (zi_in w4.2 42) (some (Sum.inl ((w4.1 ||| ((s.1 169 w4.2.toNatClampNeg) <<< (w4.2 &&& 31))), (w4.2 + (1 : Int32))))) none
theorem tX12_levels_B4 {n : Nat} {c : Nat × Nat} {s : zs} {w4 : Int32 × Int32} {o : _} {v : Option Value} {S' : zi_S} (h : fX12_levels_B4 n s w4 = some o) (hn : ∀ w4, o = Sum.inl w4 → zr kX12_levels 1 0 4 [some (.ref 161), some (.int w4.1), some (.int w4.2)] [] (zS c s) v S') (hx : ∀ z, o = Sum.inr z → (fun z => zr kX12_levels 1 0 29 [none, some (.int z), none] [] (zS c s) v S') z) : zr kX12_levels 1 0 4 [some (.ref 161), some (.int w4.1), some (.int w4.2)] [] (zS c s) v S' := by
  unfold fX12_levels_B4 at h
  refine zr_many 2 (pc' := 6) (L' := [some (.ref 161), some (.int w4.1), some (.int w4.2)]) (st' := [.ref 161, .int w4.2]) (S1 := zS c s) rfl ?_
  refine zq_get rfl (zh_161 _) rfl rfl rfl ?_
  refine zq_if2 (b := (s.1 161 3) ≤ w4.2) rfl Iff.rfl rfl (fun g1 => ?_) (fun g1 => ?_)
  · rw [if_pos g1] at h
    obtain rfl := Option.some.inj h
    exact zr_wk [none, some (.int w4.1), none] ⟨rfl, trivial⟩ (hx w4.1 rfl)
  · rw [if_neg g1] at h
    refine zr_many 2 (pc' := 14) (L' := [some (.ref 161), some (.int w4.1), some (.int w4.2)]) (st' := [.ref 161, .int w4.1]) (S1 := zS c s) rfl ?_
    refine zq_get rfl (zh_161 _) rfl rfl rfl ?_
    refine zr_many 1 (pc' := 18) (L' := [some (.ref 161), some (.int w4.1), some (.int w4.2)]) (st' := [.int w4.2, .ref 169, .int w4.1]) (S1 := zS c s) rfl ?_
    obtain ⟨g2, h⟩ := zi_cond_inv h
    refine zq_ild rfl (zh_169 _) rfl g2 rfl ?_
    refine zr_many 6 (pc' := 4) (L' := [some (.ref 161), some (.int (w4.1 ||| ((s.1 169 w4.2.toNatClampNeg) <<< (w4.2 &&& 31)))), some (.int (w4.2 + (1 : Int32)))]) (st' := []) (S1 := zS c s) rfl ?_
    obtain rfl := Option.some.inj h
    exact zr_wk [some (.ref 161), some (.int (w4.1 ||| ((s.1 169 w4.2.toNatClampNeg) <<< (w4.2 &&& 31)))), some (.int (w4.2 + (1 : Int32)))] ⟨rfl, rfl, rfl, trivial⟩ (hn ((w4.1 ||| ((s.1 169 w4.2.toNatClampNeg) <<< (w4.2 &&& 31))), (w4.2 + (1 : Int32))) rfl)
def fX12_levels (n : Nat) (s : zs) : Option Int32 := zp (zl (fX12_levels_B4 n s) n ((0 : Int32), (0 : Int32))) (fun w3 => some w3)
theorem tX12_levels {n : Nat} {c : Nat × Nat} {s : zs} {r : Int32} (h : fX12_levels n s = some r) : zc 1 2513 [.ref 161] (zS c s) (some (.int r)) (zS c s) := by
  refine zc_of (k := kX12_levels) (rt := 1) (L := [some (.ref 161), none, none]) zm_2513.1 rfl rfl (by decide) rfl rfl ?_
  unfold fX12_levels at h
  refine zr_many 4 (pc' := 4) (L' := [some (.ref 161), some (.int (0 : Int32)), some (.int (0 : Int32))]) (st' := []) (S1 := zS c s) rfl ?_
  obtain ⟨w3, g4, h⟩ := zp_inv h
  refine zr_wk [some (.ref 161), some (.int (0 : Int32)), some (.int (0 : Int32))] ⟨rfl, rfl, rfl, trivial⟩ (zl_cert (Z := fun w4 => zr kX12_levels 1 0 4 [some (.ref 161), some (.int w4.1), some (.int w4.2)] [] (zS c s) _ _) (Y := (fun z => zr kX12_levels 1 0 29 [none, some (.int z), none] [] (zS c s) _ _)) (fun w o h1 h2 h3 => tX12_levels_B4 h1 h2 h3) n _ _ g4 ?_)
  show zr kX12_levels 1 0 29 [none, some (.int w3), none] [] (zS c s) _ _
  refine zr_many 1 (pc' := 30) (L' := [none, some (.int w3), none]) (st' := [.int w3]) (S1 := zS c s) rfl ?_
  obtain rfl := Option.some.inj h
  exact zq_iret rfl
def fX12_count (n : Nat) (s : zs) (x1 : Int32) : Option (Int32 × zs) := if x1 = (0 : Int32) then some (((zsi s 161 0 (0 : Int32)).1 161 3), (zsi s 161 0 (0 : Int32))) else if x1 = (1 : Int32) then some (((zsi s 161 0 (0 : Int32)).1 161 4), (zsi s 161 0 (0 : Int32))) else if x1 = (2 : Int32) then some (((zsi s 161 0 (0 : Int32)).1 161 5), (zsi s 161 0 (0 : Int32))) else if x1 = (3 : Int32) then some (((zsi s 161 0 (0 : Int32)).1 169 9), (zsi s 161 0 (0 : Int32))) else if x1 = (4 : Int32) then some (((zsi s 161 0 (0 : Int32)).1 169 8), (zsi s 161 0 (0 : Int32))) else if x1 = (5 : Int32) then some (((zsi s 161 0 (0 : Int32)).1 161 6), (zsi s 161 0 (0 : Int32))) else if x1 = (6 : Int32) then zp (fX12_levels n (zsi s 161 0 (0 : Int32))) (fun r10 => some (r10, (zsi s 161 0 (0 : Int32)))) else if x1 = (7 : Int32) then zp (fX12_crew n (zsi s 161 0 (0 : Int32)) 169 (-1 : Int32)) (fun r14 => some (r14, (zsi s 161 0 (0 : Int32)))) else if x1 = (8 : Int32) then zp (fX12_tiredAll n (zsi s 161 0 (0 : Int32)) 169 (((1 : Int32) <<< (((zsi s 161 0 (0 : Int32)).1 161 4) &&& 31)) - (1 : Int32))) (fun r18 => some (r18, (zsi s 161 0 (0 : Int32)))) else if x1 = (9 : Int32) then some (((zsi s 161 0 (0 : Int32)).1 161 45), (zsi s 161 0 (0 : Int32))) else if x1 = (10 : Int32) then some (((zsi s 161 0 (0 : Int32)).1 161 31), (zsi s 161 0 (0 : Int32))) else if x1 = (11 : Int32) then some (((zsi s 161 0 (0 : Int32)).1 161 1), (zsi s 161 0 (0 : Int32))) else if x1 = (12 : Int32) then some (((zsi s 161 0 (0 : Int32)).1 161 17), (zsi s 161 0 (0 : Int32))) else some ((-100 : Int32), (zsi s 161 0 (0 : Int32)))
theorem tX12_count {n : Nat} {c : Nat × Nat} {s : zs} {x1 : Int32} {r : Int32} {s' : zs} (h : fX12_count n s x1 = some (r, s')) : zc 3 2514 [.ref 161, .int x1] (zS c s) (some (.int r)) (zS c s') := by
  refine zc_of (k := kX12_count) (rt := 1) (L := [some (.ref 161), some (.int x1)]) zm_2514.1 rfl rfl (by decide) rfl rfl ?_
  unfold fX12_count at h
  refine zr_many 2 (pc' := 2) (L' := [some (.ref 161), some (.int x1)]) (st' := [.int (0 : Int32), .ref 161]) (S1 := zS c s) rfl ?_
  refine zq_put (s' := (zsi s 161 0 (0 : Int32))) rfl (zh_161 _) rfl rfl rfl rfl zsi_ne rfl ?_
  refine zr_many 1 (pc' := 6) (L' := [some (.ref 161), some (.int x1)]) (st' := [.int x1]) (S1 := zS c (zsi s 161 0 (0 : Int32))) rfl ?_
  refine zq_sw (Or.inl ⟨_, _, _, _, rfl⟩) ?_
  by_cases g1 : x1 = (0 : Int32)
  · rw [if_pos g1] at h
    rw [zi_sw_pos g1]
    refine zr_many 1 (pc' := 73) (L' := [some (.ref 161), some (.int x1)]) (st' := [.ref 161]) (S1 := zS c (zsi s 161 0 (0 : Int32))) rfl ?_
    refine zq_get rfl (zh_161 _) rfl rfl rfl ?_
    obtain ⟨rfl, rfl⟩ := Prod.mk.inj (Option.some.inj h)
    exact zq_iret rfl
  rw [if_neg g1] at h
  rw [zi_sw_neg g1]
  by_cases g2 : x1 = (1 : Int32)
  · rw [if_pos g2] at h
    rw [zi_sw_pos g2]
    refine zr_many 1 (pc' := 78) (L' := [some (.ref 161), some (.int x1)]) (st' := [.ref 161]) (S1 := zS c (zsi s 161 0 (0 : Int32))) rfl ?_
    refine zq_get rfl (zh_161 _) rfl rfl rfl ?_
    obtain ⟨rfl, rfl⟩ := Prod.mk.inj (Option.some.inj h)
    exact zq_iret rfl
  rw [if_neg g2] at h
  rw [zi_sw_neg g2]
  by_cases g3 : x1 = (2 : Int32)
  · rw [if_pos g3] at h
    rw [zi_sw_pos g3]
    refine zr_many 1 (pc' := 83) (L' := [some (.ref 161), some (.int x1)]) (st' := [.ref 161]) (S1 := zS c (zsi s 161 0 (0 : Int32))) rfl ?_
    refine zq_get rfl (zh_161 _) rfl rfl rfl ?_
    obtain ⟨rfl, rfl⟩ := Prod.mk.inj (Option.some.inj h)
    exact zq_iret rfl
  rw [if_neg g3] at h
  rw [zi_sw_neg g3]
  by_cases g4 : x1 = (3 : Int32)
  · rw [if_pos g4] at h
    rw [zi_sw_pos g4]
    refine zr_many 1 (pc' := 88) (L' := [some (.ref 161), some (.int x1)]) (st' := [.ref 161]) (S1 := zS c (zsi s 161 0 (0 : Int32))) rfl ?_
    refine zq_get rfl (zh_161 _) rfl rfl rfl ?_
    refine zr_many 1 (pc' := 93) (L' := [some (.ref 161), some (.int x1)]) (st' := [.int (9 : Int32), .ref 169]) (S1 := zS c (zsi s 161 0 (0 : Int32))) rfl ?_
    refine zq_ild rfl (zh_169 _) rfl (by decide) rfl ?_
    obtain ⟨rfl, rfl⟩ := Prod.mk.inj (Option.some.inj h)
    exact zq_iret rfl
  rw [if_neg g4] at h
  rw [zi_sw_neg g4]
  by_cases g6 : x1 = (4 : Int32)
  · rw [if_pos g6] at h
    rw [zi_sw_pos g6]
    refine zr_many 1 (pc' := 96) (L' := [some (.ref 161), some (.int x1)]) (st' := [.ref 161]) (S1 := zS c (zsi s 161 0 (0 : Int32))) rfl ?_
    refine zq_get rfl (zh_161 _) rfl rfl rfl ?_
    refine zr_many 1 (pc' := 101) (L' := [some (.ref 161), some (.int x1)]) (st' := [.int (8 : Int32), .ref 169]) (S1 := zS c (zsi s 161 0 (0 : Int32))) rfl ?_
    refine zq_ild rfl (zh_169 _) rfl (by decide) rfl ?_
    obtain ⟨rfl, rfl⟩ := Prod.mk.inj (Option.some.inj h)
    exact zq_iret rfl
  rw [if_neg g6] at h
  rw [zi_sw_neg g6]
  by_cases g8 : x1 = (5 : Int32)
  · rw [if_pos g8] at h
    rw [zi_sw_pos g8]
    refine zr_many 1 (pc' := 104) (L' := [some (.ref 161), some (.int x1)]) (st' := [.ref 161]) (S1 := zS c (zsi s 161 0 (0 : Int32))) rfl ?_
    refine zq_get rfl (zh_161 _) rfl rfl rfl ?_
    obtain ⟨rfl, rfl⟩ := Prod.mk.inj (Option.some.inj h)
    exact zq_iret rfl
  rw [if_neg g8] at h
  rw [zi_sw_neg g8]
  by_cases g9 : x1 = (6 : Int32)
  · rw [if_pos g9] at h
    rw [zi_sw_pos g9]
    refine zr_many 1 (pc' := 109) (L' := [some (.ref 161), some (.int x1)]) (st' := [.ref 161]) (S1 := zS c (zsi s 161 0 (0 : Int32))) rfl ?_
    obtain ⟨r10, g12, h⟩ := zp_inv h
    refine zq_call1 rfl rfl (zh_161 _) rfl rfl rfl ((tX12_levels g12).up (by decide)) rfl ?_
    obtain ⟨rfl, rfl⟩ := Prod.mk.inj (Option.some.inj h)
    exact zq_iret rfl
  rw [if_neg g9] at h
  rw [zi_sw_neg g9]
  by_cases g13 : x1 = (7 : Int32)
  · rw [if_pos g13] at h
    rw [zi_sw_pos g13]
    refine zr_many 2 (pc' := 115) (L' := [some (.ref 161), some (.int x1)]) (st' := [.ref 161, .ref 161]) (S1 := zS c (zsi s 161 0 (0 : Int32))) rfl ?_
    refine zq_get rfl (zh_161 _) rfl rfl rfl ?_
    refine zr_many 1 (pc' := 119) (L' := [some (.ref 161), some (.int x1)]) (st' := [.int (-1 : Int32), .ref 169, .ref 161]) (S1 := zS c (zsi s 161 0 (0 : Int32))) rfl ?_
    obtain ⟨r14, g16, h⟩ := zp_inv h
    refine zq_call1 rfl rfl (zh_161 _) rfl rfl rfl (tX12_crew zR_n g16) rfl ?_
    obtain ⟨rfl, rfl⟩ := Prod.mk.inj (Option.some.inj h)
    exact zq_iret rfl
  rw [if_neg g13] at h
  rw [zi_sw_neg g13]
  by_cases g17 : x1 = (8 : Int32)
  · rw [if_pos g17] at h
    rw [zi_sw_pos g17]
    refine zr_many 2 (pc' := 125) (L' := [some (.ref 161), some (.int x1)]) (st' := [.ref 161, .ref 161]) (S1 := zS c (zsi s 161 0 (0 : Int32))) rfl ?_
    refine zq_get rfl (zh_161 _) rfl rfl rfl ?_
    refine zr_many 2 (pc' := 130) (L' := [some (.ref 161), some (.int x1)]) (st' := [.ref 161, .int (1 : Int32), .ref 169, .ref 161]) (S1 := zS c (zsi s 161 0 (0 : Int32))) rfl ?_
    refine zq_get rfl (zh_161 _) rfl rfl rfl ?_
    refine zr_many 3 (pc' := 136) (L' := [some (.ref 161), some (.int x1)]) (st' := [.int (((1 : Int32) <<< (((zsi s 161 0 (0 : Int32)).1 161 4) &&& 31)) - (1 : Int32)), .ref 169, .ref 161]) (S1 := zS c (zsi s 161 0 (0 : Int32))) rfl ?_
    obtain ⟨r18, g20, h⟩ := zp_inv h
    refine zq_call1 rfl rfl (zh_161 _) rfl rfl rfl (tX12_tiredAll zR_n g20) rfl ?_
    obtain ⟨rfl, rfl⟩ := Prod.mk.inj (Option.some.inj h)
    exact zq_iret rfl
  rw [if_neg g17] at h
  rw [zi_sw_neg g17]
  by_cases g21 : x1 = (9 : Int32)
  · rw [if_pos g21] at h
    rw [zi_sw_pos g21]
    refine zr_many 1 (pc' := 141) (L' := [some (.ref 161), some (.int x1)]) (st' := [.ref 161]) (S1 := zS c (zsi s 161 0 (0 : Int32))) rfl ?_
    refine zq_get rfl (zh_161 _) rfl rfl rfl ?_
    obtain ⟨rfl, rfl⟩ := Prod.mk.inj (Option.some.inj h)
    exact zq_iret rfl
  rw [if_neg g21] at h
  rw [zi_sw_neg g21]
  by_cases g22 : x1 = (10 : Int32)
  · rw [if_pos g22] at h
    rw [zi_sw_pos g22]
    refine zr_many 1 (pc' := 146) (L' := [some (.ref 161), some (.int x1)]) (st' := [.ref 161]) (S1 := zS c (zsi s 161 0 (0 : Int32))) rfl ?_
    refine zq_get rfl (zh_161 _) rfl rfl rfl ?_
    obtain ⟨rfl, rfl⟩ := Prod.mk.inj (Option.some.inj h)
    exact zq_iret rfl
  rw [if_neg g22] at h
  rw [zi_sw_neg g22]
  by_cases g23 : x1 = (11 : Int32)
  · rw [if_pos g23] at h
    rw [zi_sw_pos g23]
    refine zr_many 1 (pc' := 151) (L' := [some (.ref 161), some (.int x1)]) (st' := [.ref 161]) (S1 := zS c (zsi s 161 0 (0 : Int32))) rfl ?_
    refine zq_get rfl (zh_161 _) rfl rfl rfl ?_
    obtain ⟨rfl, rfl⟩ := Prod.mk.inj (Option.some.inj h)
    exact zq_iret rfl
  rw [if_neg g23] at h
  rw [zi_sw_neg g23]
  by_cases g24 : x1 = (12 : Int32)
  · rw [if_pos g24] at h
    rw [zi_sw_pos g24]
    refine zr_many 1 (pc' := 156) (L' := [some (.ref 161), some (.int x1)]) (st' := [.ref 161]) (S1 := zS c (zsi s 161 0 (0 : Int32))) rfl ?_
    refine zq_get rfl (zh_161 _) rfl rfl rfl ?_
    obtain ⟨rfl, rfl⟩ := Prod.mk.inj (Option.some.inj h)
    exact zq_iret rfl
  rw [if_neg g24] at h
  rw [zi_sw_neg g24]
  simp only [zi_sw]
  refine zr_many 1 (pc' := 162) (L' := [some (.ref 161), some (.int x1)]) (st' := [.int (-100 : Int32)]) (S1 := zS c (zsi s 161 0 (0 : Int32))) rfl ?_
  obtain ⟨rfl, rfl⟩ := Prod.mk.inj (Option.some.inj h)
  exact zq_iret rfl
def fX12_row (n : Nat) (s : zs) (x1 : Int32) : Option (Int64 × zs) := zp (fX12_in n (zsi s 161 0 (0 : Int32)) x1.toInt64 (0 : Int64) ((((zsi s 161 0 (0 : Int32)).1 161 1) - (1 : Int32)).toInt64)) (fun r1 => if ¬ r1 = 0 then cond (zi_in x1 24) (some (((zsi s 161 0 (0 : Int32)).2 162 x1.toNatClampNeg), (zsi s 161 0 (0 : Int32)))) none else zt (zsi s 161 0 (0 : Int32)) (fun s6 => some ((0 : Int64), (zsi s6 161 0 (1 : Int32)))))
theorem tX12_row {n : Nat} {c : Nat × Nat} {s : zs} {x1 : Int32} {r : Int64} {s' : zs} (h : fX12_row n s x1 = some (r, s')) : zc 2 2515 [.ref 161, .int x1] (zS c s) (some (.long r)) (zS c s') := by
  refine zc_of (k := kX12_row) (rt := 3) (L := [some (.ref 161), some (.int x1)]) zm_2515.1 rfl rfl (by decide) rfl rfl ?_
  unfold fX12_row at h
  refine zr_many 2 (pc' := 2) (L' := [some (.ref 161), some (.int x1)]) (st' := [.int (0 : Int32), .ref 161]) (S1 := zS c s) rfl ?_
  refine zq_put (s' := (zsi s 161 0 (0 : Int32))) rfl (zh_161 _) rfl rfl rfl rfl zsi_ne rfl ?_
  refine zr_many 4 (pc' := 9) (L' := [some (.ref 161), some (.int x1)]) (st' := [.ref 161, .long (0 : Int64), .long x1.toInt64]) (S1 := zS c (zsi s 161 0 (0 : Int32))) rfl ?_
  refine zq_get rfl (zh_161 _) rfl rfl rfl ?_
  refine zr_many 3 (pc' := 15) (L' := [some (.ref 161), some (.int x1)]) (st' := [.long (((zsi s 161 0 (0 : Int32)).1 161 1) - (1 : Int32)).toInt64, .long (0 : Int64), .long x1.toInt64]) (S1 := zS c (zsi s 161 0 (0 : Int32))) rfl ?_
  obtain ⟨r1, g3, h⟩ := zp_inv h
  refine zq_scall1 rfl (by decide) rfl rfl (tX12_in g3) rfl ?_
  refine zq_if1 (b := ¬ r1 = 0) rfl Iff.rfl rfl (fun g4 => ?_) (fun g4 => ?_)
  · rw [if_pos g4] at h
    refine zr_many 1 (pc' := 29) (L' := [some (.ref 161), some (.int x1)]) (st' := [.ref 161]) (S1 := zS c (zsi s 161 0 (0 : Int32))) rfl ?_
    refine zq_get rfl (zh_161 _) rfl rfl rfl ?_
    refine zr_many 1 (pc' := 33) (L' := [some (.ref 161), some (.int x1)]) (st' := [.int x1, .ref 162]) (S1 := zS c (zsi s 161 0 (0 : Int32))) rfl ?_
    obtain ⟨g5, h⟩ := zi_cond_inv h
    refine zq_lld rfl (zh_162 _) rfl g5 rfl ?_
    obtain ⟨rfl, rfl⟩ := Prod.mk.inj (Option.some.inj h)
    exact zq_lret rfl
  · rw [if_neg g4] at h
    refine zr_many 2 (pc' := 23) (L' := [some (.ref 161), some (.int x1)]) (st' := [.int (1 : Int32), .ref 161]) (S1 := zS c (zsi s 161 0 (0 : Int32))) rfl ?_
    obtain ⟨s6, e7, h⟩ := zt_in h
    rw [← e7]
    refine zq_put (s' := (zsi s6 161 0 (1 : Int32))) rfl (zh_161 _) rfl rfl rfl rfl zsi_ne rfl ?_
    refine zr_many 1 (pc' := 27) (L' := [some (.ref 161), some (.int x1)]) (st' := [.long (0 : Int64)]) (S1 := zS c (zsi s6 161 0 (1 : Int32))) rfl ?_
    obtain ⟨rfl, rfl⟩ := Prod.mk.inj (Option.some.inj h)
    exact zq_lret rfl
