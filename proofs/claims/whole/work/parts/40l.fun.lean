/-! ===== printed by wip/gen/dec.py: the methods as functions, each with its run ===== -/
def fX12_row (n : Nat) (s : zs) (x1 : Int32) : Option (Int64 × zs) := zp (fX12_in n (zsi s 161 0 (0 : Int32)) x1.toInt64 (0 : Int64) ((((zsi s 161 0 (0 : Int32)).1 161 1) - (1 : Int32)).toInt64)) (fun r1 => if ¬ r1 = 0 then cond (zi_in x1 24) (some (((zsi s 161 0 (0 : Int32)).2 162 x1.toNatClampNeg), (zsi s 161 0 (0 : Int32)))) none else zt (zsi s 161 0 (0 : Int32)) (fun s6 => some ((0 : Int64), (zsi s6 161 0 (1 : Int32)))))
theorem tX12_row {n : Nat} {c : Nat × Nat} {s : zs} {x1 : Int32} {r : Int64} {s' : zs} (h : fX12_row n s x1 = some (r, s')) : zc 2 2515 [.ref 161, .int x1] (zS c s) (some (.long r)) (zS c s') := by
  refine zc_of (k := kX12_row) (rt := 3) (L := [some (.ref 161), some (.int x1)]) zm_2515.1 rfl rfl (by decide) rfl rfl ?_
  unfold fX12_row at h
  refine zr_many 2 (pc' := 2) (L' := [some (.ref 161), some (.int x1)]) (st' := [.int (0 : Int32), .ref 161]) (S1 := zS c s) rfl ?_
  refine zq_put (s' := (zsi s 161 0 (0 : Int32))) rfl (zh_161 _) rfl rfl rfl rfl zsi_ne rfl ?_
  refine zr_many 4 (pc' := 9) (L' := [some (.ref 161), some (.int x1)]) (st' := [.ref 161, .long (0 : Int64), .long x1.toInt64]) (S1 := zS c (zsi s 161 0 (0 : Int32))) rfl ?_
  refine zq_get rfl (zh_161 _) rfl rfl rfl ?_
  refine zr_many 3 (pc' := 15) (L' := [some (.ref 161), some (.int x1)]) (st' := [.long (((zsi s 161 0 (0 : Int32)).1 161 1) - (1 : Int32)).toInt64, .long (0 : Int64), .long x1.toInt64]) (S1 := zS c (zsi s 161 0 (0 : Int32))) rfl ?_
  obtain ⟨r1, g3, h⟩ := zp_inv h
  refine zq_scall1 rfl (by decide) rfl rfl (tX12_in g3) rfl ?_
  refine zq_if1 (b := ¬ r1 = 0) rfl Iff.rfl rfl (fun g4 => ?_) (fun g4 => ?_)
  · rw [if_pos g4] at h
    refine zr_many 1 (pc' := 29) (L' := [some (.ref 161), some (.int x1)]) (st' := [.ref 161]) (S1 := zS c (zsi s 161 0 (0 : Int32))) rfl ?_
    refine zq_get rfl (zh_161 _) rfl rfl rfl ?_
    refine zr_many 1 (pc' := 33) (L' := [some (.ref 161), some (.int x1)]) (st' := [.int x1, .ref 162]) (S1 := zS c (zsi s 161 0 (0 : Int32))) rfl ?_
    obtain ⟨g5, h⟩ := zi_cond_inv h
    refine zq_lld rfl (zh_162 _) rfl g5 rfl ?_
    obtain ⟨rfl, rfl⟩ := Prod.mk.inj (Option.some.inj h)
    exact zq_lret rfl
  · rw [if_neg g4] at h
    refine zr_many 2 (pc' := 23) (L' := [some (.ref 161), some (.int x1)]) (st' := [.int (1 : Int32), .ref 161]) (S1 := zS c (zsi s 161 0 (0 : Int32))) rfl ?_
    obtain ⟨s6, e7, h⟩ := zt_in h
    rw [← e7]
    refine zq_put (s' := (zsi s6 161 0 (1 : Int32))) rfl (zh_161 _) rfl rfl rfl rfl zsi_ne rfl ?_
    refine zr_many 1 (pc' := 27) (L' := [some (.ref 161), some (.int x1)]) (st' := [.long (0 : Int64)]) (S1 := zS c (zsi s6 161 0 (1 : Int32))) rfl ?_
    obtain ⟨rfl, rfl⟩ := Prod.mk.inj (Option.some.inj h)
    exact zq_lret rfl
