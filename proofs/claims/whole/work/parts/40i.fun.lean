/-! ===== printed by wip/gen/dec.py: the methods as functions, each with its run ===== -/
def fX12_hire (n : Nat) (s : zs) (x1 : Int32) (x2 : Int32) : Option (Int32 × zs) := zp (fX12_putsBy n (zsi s 161 0 (0 : Int32))) (fun s2 => zb (fX12_hiresTo n s2 169 x1 x2) (fun r4 s5 => zb (fX12_counts n s5 r4) (fun r7 s8 => some (r7, s8))))
theorem tX12_hire {n : Nat} {c : Nat × Nat} {s : zs} {x1 : Int32} {x2 : Int32} {r : Int32} {s' : zs} (h : fX12_hire n s x1 x2 = some (r, s')) : zc 4 2463 [.ref 161, .int x1, .int x2] (zS c s) (some (.int r)) (zS c s') := by
  refine zc_of (k := kX12_hire) (rt := 1) (L := [some (.ref 161), some (.int x1), some (.int x2)]) zm_2463.1 rfl rfl (by decide) rfl rfl ?_
  unfold fX12_hire at h
  refine zr_many 2 (pc' := 2) (L' := [some (.ref 161), some (.int x1), some (.int x2)]) (st' := [.int (0 : Int32), .ref 161]) (S1 := zS c s) rfl ?_
  refine zq_put (s' := (zsi s 161 0 (0 : Int32))) rfl (zh_161 _) rfl rfl rfl rfl zsi_ne rfl ?_
  refine zr_many 1 (pc' := 6) (L' := [some (.ref 161), some (.int x1), some (.int x2)]) (st' := [.ref 161]) (S1 := zS c (zsi s 161 0 (0 : Int32))) rfl ?_
  obtain ⟨s2, g3, h⟩ := zp_inv h
  refine zq_call0 rfl rfl (zh_161 _) rfl rfl rfl ((tX12_putsBy g3).up (by decide)) rfl ?_
  refine zr_many 3 (pc' := 12) (L' := [some (.ref 161), some (.int x1), some (.int x2)]) (st' := [.ref 161, .ref 161, .ref 161]) (S1 := zS c s2) rfl ?_
  refine zq_get rfl (zh_161 _) rfl rfl rfl ?_
  refine zr_many 2 (pc' := 17) (L' := [some (.ref 161), some (.int x1), some (.int x2)]) (st' := [.int x2, .int x1, .ref 169, .ref 161, .ref 161]) (S1 := zS c s2) rfl ?_
  obtain ⟨r4, s5, g6, h⟩ := zb_inv h
  refine zq_call1 rfl rfl (zh_161 _) rfl rfl rfl (tX12_hiresTo zR_n g6) rfl ?_
  obtain ⟨r7, s8, g9, h⟩ := zb_inv h
  refine zq_call1 rfl rfl (zh_161 _) rfl rfl rfl ((tX12_counts g9).up (by decide)) rfl ?_
  obtain ⟨rfl, rfl⟩ := Prod.mk.inj (Option.some.inj h)
  exact zq_iret rfl
def fX12_leave (n : Nat) (s : zs) (x1 : Int32) : Option (Int32 × zs) := zp (fX12_putsBy n (zsi s 161 0 (0 : Int32))) (fun s2 => zb (fX12_leaves n s2 169 x1) (fun r4 s5 => zb (fX12_counts n s5 r4) (fun r7 s8 => some (r7, s8))))
theorem tX12_leave {n : Nat} {c : Nat × Nat} {s : zs} {x1 : Int32} {r : Int32} {s' : zs} (h : fX12_leave n s x1 = some (r, s')) : zc 4 2464 [.ref 161, .int x1] (zS c s) (some (.int r)) (zS c s') := by
  refine zc_of (k := kX12_leave) (rt := 1) (L := [some (.ref 161), some (.int x1)]) zm_2464.1 rfl rfl (by decide) rfl rfl ?_
  unfold fX12_leave at h
  refine zr_many 2 (pc' := 2) (L' := [some (.ref 161), some (.int x1)]) (st' := [.int (0 : Int32), .ref 161]) (S1 := zS c s) rfl ?_
  refine zq_put (s' := (zsi s 161 0 (0 : Int32))) rfl (zh_161 _) rfl rfl rfl rfl zsi_ne rfl ?_
  refine zr_many 1 (pc' := 6) (L' := [some (.ref 161), some (.int x1)]) (st' := [.ref 161]) (S1 := zS c (zsi s 161 0 (0 : Int32))) rfl ?_
  obtain ⟨s2, g3, h⟩ := zp_inv h
  refine zq_call0 rfl rfl (zh_161 _) rfl rfl rfl ((tX12_putsBy g3).up (by decide)) rfl ?_
  refine zr_many 3 (pc' := 12) (L' := [some (.ref 161), some (.int x1)]) (st' := [.ref 161, .ref 161, .ref 161]) (S1 := zS c s2) rfl ?_
  refine zq_get rfl (zh_161 _) rfl rfl rfl ?_
  refine zr_many 1 (pc' := 16) (L' := [some (.ref 161), some (.int x1)]) (st' := [.int x1, .ref 169, .ref 161, .ref 161]) (S1 := zS c s2) rfl ?_
  obtain ⟨r4, s5, g6, h⟩ := zb_inv h
  refine zq_call1 rfl rfl (zh_161 _) rfl rfl rfl (tX12_leaves zR_n g6) rfl ?_
  obtain ⟨r7, s8, g9, h⟩ := zb_inv h
  refine zq_call1 rfl rfl (zh_161 _) rfl rfl rfl ((tX12_counts g9).up (by decide)) rfl ?_
  obtain ⟨rfl, rfl⟩ := Prod.mk.inj (Option.some.inj h)
  exact zq_iret rfl
def fX12_pass_J28 (n : Nat) (s : zs) (x3 : Int32) : Option (Int32 × zs) := zb (fX12_counts n s x3) (fun r8 s9 => some (r8, s9))
theorem tX12_pass_J28 {n : Nat} {c : Nat × Nat} {s : zs} {x3 : Int32} {r : Int32} {s' : zs} (h : fX12_pass_J28 n s x3 = some (r, s')) : zr kX12_pass 1 11 28 [some (.ref 161), none, none, some (.int x3)] [] (zS c s) (some (.int r)) (zS c s') := by
  unfold fX12_pass_J28 at h
  refine zr_many 2 (pc' := 30) (L' := [some (.ref 161), none, none, some (.int x3)]) (st' := [.int x3, .ref 161]) (S1 := zS c s) rfl ?_
  obtain ⟨r8, s9, g10, h⟩ := zb_inv h
  refine zq_call1 rfl rfl (zh_161 _) rfl rfl rfl ((tX12_counts g10).up (by decide)) rfl ?_
  obtain ⟨rfl, rfl⟩ := Prod.mk.inj (Option.some.inj h)
  exact zq_iret rfl
def fX12_pass (n : Nat) (s : zs) (x1 : Int32) (x2 : Int32) : Option (Int32 × zs) := zp (fX12_putsBy n (zsi s 161 0 (0 : Int32))) (fun s2 => zb (fX12_passes n s2 169 x1 x2) (fun r4 s5 => if r4 < 0 then fX12_pass_J28 n s5 r4 else zp (fX12_tellsSung n s5) (fun s12 => fX12_pass_J28 n s12 r4)))
theorem tX12_pass {n : Nat} {c : Nat × Nat} {s : zs} {x1 : Int32} {x2 : Int32} {r : Int32} {s' : zs} (h : fX12_pass n s x1 x2 = some (r, s')) : zc 12 2465 [.ref 161, .int x1, .int x2] (zS c s) (some (.int r)) (zS c s') := by
  refine zc_of (k := kX12_pass) (rt := 1) (L := [some (.ref 161), some (.int x1), some (.int x2), none]) zm_2465.1 rfl rfl (by decide) rfl rfl ?_
  unfold fX12_pass at h
  refine zr_many 2 (pc' := 2) (L' := [some (.ref 161), some (.int x1), some (.int x2), none]) (st' := [.int (0 : Int32), .ref 161]) (S1 := zS c s) rfl ?_
  refine zq_put (s' := (zsi s 161 0 (0 : Int32))) rfl (zh_161 _) rfl rfl rfl rfl zsi_ne rfl ?_
  refine zr_many 1 (pc' := 6) (L' := [some (.ref 161), some (.int x1), some (.int x2), none]) (st' := [.ref 161]) (S1 := zS c (zsi s 161 0 (0 : Int32))) rfl ?_
  obtain ⟨s2, g3, h⟩ := zp_inv h
  refine zq_call0 rfl rfl (zh_161 _) rfl rfl rfl ((tX12_putsBy g3).up (by decide)) rfl ?_
  refine zr_many 2 (pc' := 11) (L' := [some (.ref 161), some (.int x1), some (.int x2), none]) (st' := [.ref 161, .ref 161]) (S1 := zS c s2) rfl ?_
  refine zq_get rfl (zh_161 _) rfl rfl rfl ?_
  refine zr_many 2 (pc' := 16) (L' := [some (.ref 161), some (.int x1), some (.int x2), none]) (st' := [.int x2, .int x1, .ref 169, .ref 161]) (S1 := zS c s2) rfl ?_
  obtain ⟨r4, s5, g6, h⟩ := zb_inv h
  refine zq_call1 rfl rfl (zh_161 _) rfl rfl rfl (tX12_passes zR_n g6) rfl ?_
  refine zr_many 2 (pc' := 21) (L' := [some (.ref 161), some (.int x1), some (.int x2), some (.int r4)]) (st' := [.int r4]) (S1 := zS c s5) rfl ?_
  refine zq_if1 (b := r4 < 0) rfl Iff.rfl rfl (fun g7 => ?_) (fun g7 => ?_)
  · rw [if_pos g7] at h
    exact zr_wk [some (.ref 161), none, none, some (.int r4)] ⟨rfl, rfl, trivial⟩ (tX12_pass_J28 h)
  · rw [if_neg g7] at h
    refine zr_many 1 (pc' := 25) (L' := [some (.ref 161), some (.int x1), some (.int x2), some (.int r4)]) (st' := [.ref 161]) (S1 := zS c s5) rfl ?_
    obtain ⟨s12, g13, h⟩ := zp_inv h
    refine zq_call0 rfl rfl (zh_161 _) rfl rfl rfl ((tX12_tellsSung g13).up (by decide)) rfl ?_
    exact zr_wk [some (.ref 161), none, none, some (.int r4)] ⟨rfl, rfl, trivial⟩ (tX12_pass_J28 h)
def fX12_rest (n : Nat) (s : zs) (x1 : Int32) : Option (Int32 × zs) := zp (fX12_in n (zsi s 161 0 (0 : Int32)) x1.toInt64 (0 : Int64) (600 : Int64)) (fun r1 => if ¬ r1 = 0 then zp (fX12_putsBy n (zsi s 161 0 (0 : Int32))) (fun s6 => zp (fX12_restsFor n s6 169 x1) (fun s9 => zb (fX12_adds n s9 (s9.1 169 9)) (fun r12 s13 => some (r12, s13)))) else some ((-1 : Int32), (zsi s 161 0 (0 : Int32))))
theorem tX12_rest {n : Nat} {c : Nat × Nat} {s : zs} {x1 : Int32} {r : Int32} {s' : zs} (h : fX12_rest n s x1 = some (r, s')) : zc 3 2466 [.ref 161, .int x1] (zS c s) (some (.int r)) (zS c s') := by
  refine zc_of (k := kX12_rest) (rt := 1) (L := [some (.ref 161), some (.int x1)]) zm_2466.1 rfl rfl (by decide) rfl rfl ?_
  unfold fX12_rest at h
  refine zr_many 2 (pc' := 2) (L' := [some (.ref 161), some (.int x1)]) (st' := [.int (0 : Int32), .ref 161]) (S1 := zS c s) rfl ?_
  refine zq_put (s' := (zsi s 161 0 (0 : Int32))) rfl (zh_161 _) rfl rfl rfl rfl zsi_ne rfl ?_
  refine zr_many 4 (pc' := 11) (L' := [some (.ref 161), some (.int x1)]) (st' := [.long (600 : Int64), .long (0 : Int64), .long x1.toInt64]) (S1 := zS c (zsi s 161 0 (0 : Int32))) rfl ?_
  obtain ⟨r1, g3, h⟩ := zp_inv h
  refine zq_scall1 rfl (by decide) rfl rfl ((tX12_in g3).up (by decide)) rfl ?_
  refine zq_if1 (b := ¬ r1 = 0) rfl Iff.rfl rfl (fun g4 => ?_) (fun g4 => ?_)
  · rw [if_pos g4] at h
    refine zr_many 1 (pc' := 20) (L' := [some (.ref 161), some (.int x1)]) (st' := [.ref 161]) (S1 := zS c (zsi s 161 0 (0 : Int32))) rfl ?_
    obtain ⟨s6, g7, h⟩ := zp_inv h
    refine zq_call0 rfl rfl (zh_161 _) rfl rfl rfl ((tX12_putsBy g7).up (by decide)) rfl ?_
    refine zr_many 2 (pc' := 25) (L' := [some (.ref 161), some (.int x1)]) (st' := [.ref 161, .ref 161]) (S1 := zS c s6) rfl ?_
    refine zq_get rfl (zh_161 _) rfl rfl rfl ?_
    refine zr_many 1 (pc' := 29) (L' := [some (.ref 161), some (.int x1)]) (st' := [.int x1, .ref 169, .ref 161]) (S1 := zS c s6) rfl ?_
    obtain ⟨s9, g10, h⟩ := zp_inv h
    refine zq_call0 rfl rfl (zh_161 _) rfl rfl rfl (tX12_restsFor zR_n g10) rfl ?_
    refine zr_many 2 (pc' := 34) (L' := [some (.ref 161), some (.int x1)]) (st' := [.ref 161, .ref 161]) (S1 := zS c s9) rfl ?_
    refine zq_get rfl (zh_161 _) rfl rfl rfl ?_
    refine zr_many 1 (pc' := 39) (L' := [some (.ref 161), some (.int x1)]) (st' := [.int (9 : Int32), .ref 169, .ref 161]) (S1 := zS c s9) rfl ?_
    refine zq_ild rfl (zh_169 _) rfl (by decide) rfl ?_
    obtain ⟨r12, s13, g14, h⟩ := zb_inv h
    refine zq_call1 rfl rfl (zh_161 _) rfl rfl rfl ((tX12_adds g14).up (by decide)) rfl ?_
    obtain ⟨rfl, rfl⟩ := Prod.mk.inj (Option.some.inj h)
    exact zq_iret rfl
  · rw [if_neg g4] at h
    refine zr_many 1 (pc' := 18) (L' := [some (.ref 161), some (.int x1)]) (st' := [.int (-1 : Int32)]) (S1 := zS c (zsi s 161 0 (0 : Int32))) rfl ?_
    obtain ⟨rfl, rfl⟩ := Prod.mk.inj (Option.some.inj h)
    exact zq_iret rfl
def fX12_readsAct_J96 (n : Nat) (s : zs) (y0 : Int32) : Option (Int32 × zs) := if y0 = 0 ∨ y0 = 1 then some (y0, s) else none
theorem tX12_readsAct_J96 {n : Nat} {c : Nat × Nat} {s : zs} {y0 : Int32} {r : Int32} {s' : zs} (h : fX12_readsAct_J96 n s y0 = some (r, s')) : zr kX12_readsAct 2 5 96 [none, none] [.int y0] (zS c s) (some (.int r)) (zS c s') := by
  unfold fX12_readsAct_J96 at h
  obtain ⟨gz, h⟩ := zt_inv h
  obtain ⟨rfl, rfl⟩ := Prod.mk.inj (Option.some.inj h)
  exact zq_zret rfl gz
def fX12_readsAct_J82 (n : Nat) (s : zs) (x1 : Int32) : Option (Int32 × zs) := cond (zi_in x1 60) (if (s.1 181 x1.toNatClampNeg) < 0 then fX12_readsAct_J96 n s (0 : Int32) else fX12_readsAct_J96 n s (1 : Int32)) none
theorem tX12_readsAct_J82 {n : Nat} {c : Nat × Nat} {s : zs} {x1 : Int32} {r : Int32} {s' : zs} (h : fX12_readsAct_J82 n s x1 = some (r, s')) : zr kX12_readsAct 2 5 82 [some (.ref 161), some (.int x1)] [] (zS c s) (some (.int r)) (zS c s') := by
  unfold fX12_readsAct_J82 at h
  refine zr_many 1 (pc' := 83) (L' := [some (.ref 161), some (.int x1)]) (st' := [.ref 161]) (S1 := zS c s) rfl ?_
  refine zq_get rfl (zh_161 _) rfl rfl rfl ?_
  refine zr_many 1 (pc' := 87) (L' := [some (.ref 161), some (.int x1)]) (st' := [.int x1, .ref 181]) (S1 := zS c s) rfl ?_
  obtain ⟨g15, h⟩ := zi_cond_inv h
  refine zq_ild rfl (zh_181 _) rfl g15 rfl ?_
  refine zq_if1 (b := (s.1 181 x1.toNatClampNeg) < 0) rfl Iff.rfl rfl (fun g16 => ?_) (fun g16 => ?_)
  · rw [if_pos g16] at h
    refine zr_many 1 (pc' := 96) (L' := [some (.ref 161), some (.int x1)]) (st' := [.int (0 : Int32)]) (S1 := zS c s) rfl ?_
    exact zr_wk [none, none] trivial (tX12_readsAct_J96 h)
  · rw [if_neg g16] at h
    refine zr_many 2 (pc' := 96) (L' := [some (.ref 161), some (.int x1)]) (st' := [.int (1 : Int32)]) (S1 := zS c s) rfl ?_
    exact zr_wk [none, none] trivial (tX12_readsAct_J96 h)
def fX12_readsAct_J122 (n : Nat) (s : zs) (y0 : Int32) : Option (Int32 × zs) := if y0 = 0 ∨ y0 = 1 then some (y0, s) else none
theorem tX12_readsAct_J122 {n : Nat} {c : Nat × Nat} {s : zs} {y0 : Int32} {r : Int32} {s' : zs} (h : fX12_readsAct_J122 n s y0 = some (r, s')) : zr kX12_readsAct 2 5 122 [none, none] [.int y0] (zS c s) (some (.int r)) (zS c s') := by
  unfold fX12_readsAct_J122 at h
  obtain ⟨gz, h⟩ := zt_inv h
  obtain ⟨rfl, rfl⟩ := Prod.mk.inj (Option.some.inj h)
  exact zq_zret rfl gz
def fX12_readsAct_J60 (n : Nat) (s : zs) (x1 : Int32) (y1 : Int32) (y3 : Int32) : Option (Int32 × zs) := zb (fX12_number n s y3) (fun r10 s11 => cond (zi_in y1 60) (cond (zi_in x1 60) (if ((zsi s11 181 y1.toNatClampNeg r10).1 181 x1.toNatClampNeg) < 0 then fX12_readsAct_J82 n (zsi s11 181 y1.toNatClampNeg r10) x1 else cond (zi_in x1 60) (if ((zsi s11 181 y1.toNatClampNeg r10).1 180 x1.toNatClampNeg) ≤ 0 then zb (fX12_number n (zsi s11 181 y1.toNatClampNeg r10) (1 : Int32)) (fun r19 s20 => cond (zi_in x1 60) (cond (zi_in x1 60) (if ((zsi s20 182 x1.toNatClampNeg r19).1 182 x1.toNatClampNeg) < 0 then fX12_readsAct_J122 n (zsi s20 182 x1.toNatClampNeg r19) (0 : Int32) else fX12_readsAct_J122 n (zsi s20 182 x1.toNatClampNeg r19) (1 : Int32)) none) none) else fX12_readsAct_J82 n (zsi s11 181 y1.toNatClampNeg r10) x1) none) none) none)
theorem tX12_readsAct_J60 {n : Nat} {c : Nat × Nat} {s : zs} {x1 : Int32} {y1 : Int32} {y3 : Int32} {r : Int32} {s' : zs} (h : fX12_readsAct_J60 n s x1 y1 y3 = some (r, s')) : zr kX12_readsAct 2 5 60 [some (.ref 161), some (.int x1)] [.int y3, .ref 161, .int y1, .ref 181] (zS c s) (some (.int r)) (zS c s') := by
  unfold fX12_readsAct_J60 at h
  obtain ⟨r10, s11, g12, h⟩ := zb_inv h
  refine zq_call1 rfl rfl (zh_161 _) rfl rfl rfl ((tX12_number g12).up (by decide)) rfl ?_
  obtain ⟨g24, h⟩ := zi_cond_inv h
  refine zq_ist rfl zh_181 rfl g24 rfl ?_
  refine zr_many 1 (pc' := 65) (L' := [some (.ref 161), some (.int x1)]) (st' := [.ref 161]) (S1 := zS c (zsi s11 181 y1.toNatClampNeg r10)) rfl ?_
  refine zq_get rfl (zh_161 _) rfl rfl rfl ?_
  refine zr_many 1 (pc' := 69) (L' := [some (.ref 161), some (.int x1)]) (st' := [.int x1, .ref 181]) (S1 := zS c (zsi s11 181 y1.toNatClampNeg r10)) rfl ?_
  obtain ⟨g13, h⟩ := zi_cond_inv h
  refine zq_ild rfl (zh_181 _) rfl g13 rfl ?_
  refine zq_if1 (b := ((zsi s11 181 y1.toNatClampNeg r10).1 181 x1.toNatClampNeg) < 0) rfl Iff.rfl rfl (fun g14 => ?_) (fun g14 => ?_)
  · rw [if_pos g14] at h
    exact zr_wk [some (.ref 161), some (.int x1)] ⟨rfl, rfl, trivial⟩ (tX12_readsAct_J82 h)
  · rw [if_neg g14] at h
    refine zr_many 1 (pc' := 74) (L' := [some (.ref 161), some (.int x1)]) (st' := [.ref 161]) (S1 := zS c (zsi s11 181 y1.toNatClampNeg r10)) rfl ?_
    refine zq_get rfl (zh_161 _) rfl rfl rfl ?_
    refine zr_many 1 (pc' := 78) (L' := [some (.ref 161), some (.int x1)]) (st' := [.int x1, .ref 180]) (S1 := zS c (zsi s11 181 y1.toNatClampNeg r10)) rfl ?_
    obtain ⟨g17, h⟩ := zi_cond_inv h
    refine zq_ild rfl (zh_180 _) rfl g17 rfl ?_
    refine zq_if1 (b := ((zsi s11 181 y1.toNatClampNeg r10).1 180 x1.toNatClampNeg) ≤ 0) rfl Iff.rfl rfl (fun g18 => ?_) (fun g18 => ?_)
    · rw [if_pos g18] at h
      refine zr_many 1 (pc' := 98) (L' := [some (.ref 161), some (.int x1)]) (st' := [.ref 161]) (S1 := zS c (zsi s11 181 y1.toNatClampNeg r10)) rfl ?_
      refine zq_get rfl (zh_161 _) rfl rfl rfl ?_
      refine zr_many 3 (pc' := 104) (L' := [some (.ref 161), some (.int x1)]) (st' := [.int (1 : Int32), .ref 161, .int x1, .ref 182]) (S1 := zS c (zsi s11 181 y1.toNatClampNeg r10)) rfl ?_
      obtain ⟨r19, s20, g21, h⟩ := zb_inv h
      refine zq_call1 rfl rfl (zh_161 _) rfl rfl rfl ((tX12_number g21).up (by decide)) rfl ?_
      obtain ⟨g25, h⟩ := zi_cond_inv h
      refine zq_ist rfl zh_182 rfl g25 rfl ?_
      refine zr_many 1 (pc' := 109) (L' := [some (.ref 161), some (.int x1)]) (st' := [.ref 161]) (S1 := zS c (zsi s20 182 x1.toNatClampNeg r19)) rfl ?_
      refine zq_get rfl (zh_161 _) rfl rfl rfl ?_
      refine zr_many 1 (pc' := 113) (L' := [some (.ref 161), some (.int x1)]) (st' := [.int x1, .ref 182]) (S1 := zS c (zsi s20 182 x1.toNatClampNeg r19)) rfl ?_
      obtain ⟨g22, h⟩ := zi_cond_inv h
      refine zq_ild rfl (zh_182 _) rfl g22 rfl ?_
      refine zq_if1 (b := ((zsi s20 182 x1.toNatClampNeg r19).1 182 x1.toNatClampNeg) < 0) rfl Iff.rfl rfl (fun g23 => ?_) (fun g23 => ?_)
      · rw [if_pos g23] at h
        refine zr_many 1 (pc' := 122) (L' := [some (.ref 161), some (.int x1)]) (st' := [.int (0 : Int32)]) (S1 := zS c (zsi s20 182 x1.toNatClampNeg r19)) rfl ?_
        exact zr_wk [none, none] trivial (tX12_readsAct_J122 h)
      · rw [if_neg g23] at h
        refine zr_many 2 (pc' := 122) (L' := [some (.ref 161), some (.int x1)]) (st' := [.int (1 : Int32)]) (S1 := zS c (zsi s20 182 x1.toNatClampNeg r19)) rfl ?_
        exact zr_wk [none, none] trivial (tX12_readsAct_J122 h)
    · rw [if_neg g18] at h
      exact zr_wk [some (.ref 161), some (.int x1)] ⟨rfl, rfl, trivial⟩ (tX12_readsAct_J82 h)
def fX12_readsAct (n : Nat) (s : zs) : Option (Int32 × zs) := zb (fX12_takesOf n s (1000000 + 8)) (fun r1 s2 => cond (zi_in (s.1 161 36) 60) (zt (zsi s2 180 (s.1 161 36).toNatClampNeg r1) (fun s4 => cond (zi_in (s.1 161 36) 60) (if 0 ≤ ((zsi s4 161 36 ((s4.1 161 36) + (1 : Int32))).1 180 (s.1 161 36).toNatClampNeg) then cond (zi_in (s.1 161 36) 60) (if ¬ ((zsi s4 161 36 ((s4.1 161 36) + (1 : Int32))).1 180 (s.1 161 36).toNatClampNeg) = (4 : Int32) then fX12_readsAct_J60 n (zsi s4 161 36 ((s4.1 161 36) + (1 : Int32))) (s.1 161 36) (s.1 161 36) (1 : Int32) else fX12_readsAct_J60 n (zsi s4 161 36 ((s4.1 161 36) + (1 : Int32))) (s.1 161 36) (s.1 161 36) (3 : Int32)) none else some ((0 : Int32), (zsi s4 161 36 ((s4.1 161 36) + (1 : Int32))))) none)) none)
theorem tX12_readsAct {n : Nat} {c : Nat × Nat} {s : zs} {r : Int32} {s' : zs} (h : fX12_readsAct n s = some (r, s')) : zc 6 2467 [.ref 161] (zS c s) (some (.int r)) (zS c s') := by
  refine zc_of (k := kX12_readsAct) (rt := 2) (L := [some (.ref 161), none]) zm_2467.1 rfl rfl (by decide) rfl rfl ?_
  unfold fX12_readsAct at h
  refine zr_many 1 (pc' := 1) (L' := [some (.ref 161), none]) (st' := [.ref 161]) (S1 := zS c s) rfl ?_
  refine zq_get rfl (zh_161 _) rfl rfl rfl ?_
  refine zr_many 2 (pc' := 6) (L' := [some (.ref 161), some (.int (s.1 161 36))]) (st' := [.ref 161]) (S1 := zS c s) rfl ?_
  refine zq_get rfl (zh_161 _) rfl rfl rfl ?_
  refine zr_many 3 (pc' := 14) (L' := [some (.ref 161), some (.int (s.1 161 36))]) (st' := [.ref (1000000 + 8), .ref 161, .int (s.1 161 36), .ref 180]) (S1 := zS c s) rfl ?_
  obtain ⟨r1, s2, g3, h⟩ := zb_inv h
  refine zq_call1 rfl rfl (zh_161 _) rfl rfl rfl (tX12_takesOf zT_8 g3) rfl ?_
  obtain ⟨g26, h⟩ := zi_cond_inv h
  refine zq_ist rfl zh_180 rfl g26 rfl ?_
  refine zr_many 2 (pc' := 20) (L' := [some (.ref 161), some (.int (s.1 161 36))]) (st' := [.ref 161, .ref 161]) (S1 := zS c (zsi s2 180 (s.1 161 36).toNatClampNeg r1)) rfl ?_
  refine zq_get rfl (zh_161 _) rfl rfl rfl ?_
  refine zr_many 2 (pc' := 25) (L' := [some (.ref 161), some (.int (s.1 161 36))]) (st' := [.int (((zsi s2 180 (s.1 161 36).toNatClampNeg r1).1 161 36) + (1 : Int32)), .ref 161]) (S1 := zS c (zsi s2 180 (s.1 161 36).toNatClampNeg r1)) rfl ?_
  obtain ⟨s4, e5, h⟩ := zt_in h
  rw [← e5]
  refine zq_put (s' := (zsi s4 161 36 ((s4.1 161 36) + (1 : Int32)))) rfl (zh_161 _) rfl rfl rfl rfl zsi_ne rfl ?_
  refine zr_many 1 (pc' := 29) (L' := [some (.ref 161), some (.int (s.1 161 36))]) (st' := [.ref 161]) (S1 := zS c (zsi s4 161 36 ((s4.1 161 36) + (1 : Int32)))) rfl ?_
  refine zq_get rfl (zh_161 _) rfl rfl rfl ?_
  refine zr_many 1 (pc' := 33) (L' := [some (.ref 161), some (.int (s.1 161 36))]) (st' := [.int (s.1 161 36), .ref 180]) (S1 := zS c (zsi s4 161 36 ((s4.1 161 36) + (1 : Int32)))) rfl ?_
  obtain ⟨g6, h⟩ := zi_cond_inv h
  refine zq_ild rfl (zh_180 _) rfl g6 rfl ?_
  refine zq_if1 (b := 0 ≤ ((zsi s4 161 36 ((s4.1 161 36) + (1 : Int32))).1 180 (s.1 161 36).toNatClampNeg)) rfl Iff.rfl rfl (fun g7 => ?_) (fun g7 => ?_)
  · rw [if_pos g7] at h
    refine zr_many 1 (pc' := 40) (L' := [some (.ref 161), some (.int (s.1 161 36))]) (st' := [.ref 161]) (S1 := zS c (zsi s4 161 36 ((s4.1 161 36) + (1 : Int32)))) rfl ?_
    refine zq_get rfl (zh_161 _) rfl rfl rfl ?_
    refine zr_many 3 (pc' := 46) (L' := [some (.ref 161), some (.int (s.1 161 36))]) (st' := [.ref 161, .ref 161, .int (s.1 161 36), .ref 181]) (S1 := zS c (zsi s4 161 36 ((s4.1 161 36) + (1 : Int32)))) rfl ?_
    refine zq_get rfl (zh_161 _) rfl rfl rfl ?_
    refine zr_many 1 (pc' := 50) (L' := [some (.ref 161), some (.int (s.1 161 36))]) (st' := [.int (s.1 161 36), .ref 180, .ref 161, .int (s.1 161 36), .ref 181]) (S1 := zS c (zsi s4 161 36 ((s4.1 161 36) + (1 : Int32)))) rfl ?_
    obtain ⟨g8, h⟩ := zi_cond_inv h
    refine zq_ild rfl (zh_180 _) rfl g8 rfl ?_
    refine zr_many 1 (pc' := 52) (L' := [some (.ref 161), some (.int (s.1 161 36))]) (st' := [.int (4 : Int32), .int ((zsi s4 161 36 ((s4.1 161 36) + (1 : Int32))).1 180 (s.1 161 36).toNatClampNeg), .ref 161, .int (s.1 161 36), .ref 181]) (S1 := zS c (zsi s4 161 36 ((s4.1 161 36) + (1 : Int32)))) rfl ?_
    refine zq_if2 (b := ¬ ((zsi s4 161 36 ((s4.1 161 36) + (1 : Int32))).1 180 (s.1 161 36).toNatClampNeg) = (4 : Int32)) rfl Iff.rfl rfl (fun g9 => ?_) (fun g9 => ?_)
    · rw [if_pos g9] at h
      refine zr_many 1 (pc' := 60) (L' := [some (.ref 161), some (.int (s.1 161 36))]) (st' := [.int (1 : Int32), .ref 161, .int (s.1 161 36), .ref 181]) (S1 := zS c (zsi s4 161 36 ((s4.1 161 36) + (1 : Int32)))) rfl ?_
      exact zr_wk [some (.ref 161), some (.int (s.1 161 36))] ⟨rfl, rfl, trivial⟩ (tX12_readsAct_J60 h)
    · rw [if_neg g9] at h
      refine zr_many 2 (pc' := 60) (L' := [some (.ref 161), some (.int (s.1 161 36))]) (st' := [.int (3 : Int32), .ref 161, .int (s.1 161 36), .ref 181]) (S1 := zS c (zsi s4 161 36 ((s4.1 161 36) + (1 : Int32)))) rfl ?_
      exact zr_wk [some (.ref 161), some (.int (s.1 161 36))] ⟨rfl, rfl, trivial⟩ (tX12_readsAct_J60 h)
  · rw [if_neg g7] at h
    refine zr_many 1 (pc' := 38) (L' := [some (.ref 161), some (.int (s.1 161 36))]) (st' := [.int (0 : Int32)]) (S1 := zS c (zsi s4 161 36 ((s4.1 161 36) + (1 : Int32)))) rfl ?_
    obtain ⟨rfl, rfl⟩ := Prod.mk.inj (Option.some.inj h)
    exact zq_zret rfl (by decide)
def fX12_does_J67 (n : Nat) (s : zs) (y0 : Int32) : Option (Int32 × zs) := if y0 = 0 ∨ y0 = 1 then some (y0, s) else none
theorem tX12_does_J67 {n : Nat} {c : Nat × Nat} {s : zs} {y0 : Int32} {r : Int32} {s' : zs} (h : fX12_does_J67 n s y0 = some (r, s')) : zr kX12_does 2 11 67 [none, none, none, none] [.int y0] (zS c s) (some (.int r)) (zS c s') := by
  unfold fX12_does_J67 at h
  obtain ⟨gz, h⟩ := zt_inv h
  obtain ⟨rfl, rfl⟩ := Prod.mk.inj (Option.some.inj h)
  exact zq_zret rfl gz
def fX12_does_J85 (n : Nat) (s : zs) (y0 : Int32) : Option (Int32 × zs) := if y0 = 0 ∨ y0 = 1 then some (y0, s) else none
theorem tX12_does_J85 {n : Nat} {c : Nat × Nat} {s : zs} {y0 : Int32} {r : Int32} {s' : zs} (h : fX12_does_J85 n s y0 = some (r, s')) : zr kX12_does 2 11 85 [none, none, none, none] [.int y0] (zS c s) (some (.int r)) (zS c s') := by
  unfold fX12_does_J85 at h
  obtain ⟨gz, h⟩ := zt_inv h
  obtain ⟨rfl, rfl⟩ := Prod.mk.inj (Option.some.inj h)
  exact zq_zret rfl gz
def fX12_does_J111 (n : Nat) (s : zs) (y0 : Int32) : Option (Int32 × zs) := zp (fX12_flag n s y0) (fun r20 => if y0 = 0 ∨ y0 = 1 then some (y0, (zsi s 161 37 ((s.1 161 37) + r20))) else none)
theorem tX12_does_J111 {n : Nat} {c : Nat × Nat} {s : zs} {y0 : Int32} {r : Int32} {s' : zs} (h : fX12_does_J111 n s y0 = some (r, s')) : zr kX12_does 2 11 111 [some (.ref 161), none, none, none] [.int y0] (zS c s) (some (.int r)) (zS c s') := by
  unfold fX12_does_J111 at h
  refine zr_many 3 (pc' := 114) (L' := [some (.ref 161), none, none, some (.int y0)]) (st' := [.ref 161, .ref 161]) (S1 := zS c s) rfl ?_
  refine zq_get rfl (zh_161 _) rfl rfl rfl ?_
  refine zr_many 1 (pc' := 118) (L' := [some (.ref 161), none, none, some (.int y0)]) (st' := [.int y0, .int (s.1 161 37), .ref 161]) (S1 := zS c s) rfl ?_
  obtain ⟨r20, g22, h⟩ := zp_inv h
  refine zq_scall1 rfl (by decide) rfl rfl ((tX12_flag g22).up (by decide)) rfl ?_
  refine zr_many 1 (pc' := 122) (L' := [some (.ref 161), none, none, some (.int y0)]) (st' := [.int ((s.1 161 37) + r20), .ref 161]) (S1 := zS c s) rfl ?_
  refine zq_put (s' := (zsi s 161 37 ((s.1 161 37) + r20))) rfl (zh_161 _) rfl rfl rfl rfl zsi_ne rfl ?_
  refine zr_many 1 (pc' := 126) (L' := [some (.ref 161), none, none, some (.int y0)]) (st' := [.int y0]) (S1 := zS c (zsi s 161 37 ((s.1 161 37) + r20))) rfl ?_
  obtain ⟨gz, h⟩ := zt_inv h
  obtain ⟨rfl, rfl⟩ := Prod.mk.inj (Option.some.inj h)
  exact zq_zret rfl gz
def fX12_does_J86 (n : Nat) (s : zs) (x1 : Int32) (x2 : Int32) : Option (Int32 × zs) := cond (zi_in x1 60) (zb (fX12_passes n s 169 x2 ((3 : Int32) - (s.1 180 x1.toNatClampNeg))) (fun r16 s17 => if r16 < 0 then fX12_does_J111 n s17 (0 : Int32) else fX12_does_J111 n s17 (1 : Int32))) none
theorem tX12_does_J86 {n : Nat} {c : Nat × Nat} {s : zs} {x1 : Int32} {x2 : Int32} {r : Int32} {s' : zs} (h : fX12_does_J86 n s x1 x2 = some (r, s')) : zr kX12_does 2 11 86 [some (.ref 161), some (.int x1), some (.int x2), none] [] (zS c s) (some (.int r)) (zS c s') := by
  unfold fX12_does_J86 at h
  refine zr_many 2 (pc' := 88) (L' := [some (.ref 161), some (.int x1), some (.int x2), none]) (st' := [.ref 161, .ref 161]) (S1 := zS c s) rfl ?_
  refine zq_get rfl (zh_161 _) rfl rfl rfl ?_
  refine zr_many 3 (pc' := 94) (L' := [some (.ref 161), some (.int x1), some (.int x2), none]) (st' := [.ref 161, .int (3 : Int32), .int x2, .ref 169, .ref 161]) (S1 := zS c s) rfl ?_
  refine zq_get rfl (zh_161 _) rfl rfl rfl ?_
  refine zr_many 1 (pc' := 98) (L' := [some (.ref 161), some (.int x1), some (.int x2), none]) (st' := [.int x1, .ref 180, .int (3 : Int32), .int x2, .ref 169, .ref 161]) (S1 := zS c s) rfl ?_
  obtain ⟨g15, h⟩ := zi_cond_inv h
  refine zq_ild rfl (zh_180 _) rfl g15 rfl ?_
  refine zr_many 1 (pc' := 100) (L' := [some (.ref 161), some (.int x1), some (.int x2), none]) (st' := [.int ((3 : Int32) - (s.1 180 x1.toNatClampNeg)), .int x2, .ref 169, .ref 161]) (S1 := zS c s) rfl ?_
  obtain ⟨r16, s17, g18, h⟩ := zb_inv h
  refine zq_call1 rfl rfl (zh_161 _) rfl rfl rfl (tX12_passes zR_n g18) rfl ?_
  refine zq_if1 (b := r16 < 0) rfl Iff.rfl rfl (fun g19 => ?_) (fun g19 => ?_)
  · rw [if_pos g19] at h
    refine zr_many 1 (pc' := 111) (L' := [some (.ref 161), some (.int x1), some (.int x2), none]) (st' := [.int (0 : Int32)]) (S1 := zS c s17) rfl ?_
    exact zr_wk [some (.ref 161), none, none, none] ⟨rfl, trivial⟩ (tX12_does_J111 h)
  · rw [if_neg g19] at h
    refine zr_many 2 (pc' := 111) (L' := [some (.ref 161), some (.int x1), some (.int x2), none]) (st' := [.int (1 : Int32)]) (S1 := zS c s17) rfl ?_
    exact zr_wk [some (.ref 161), none, none, none] ⟨rfl, trivial⟩ (tX12_does_J111 h)
def fX12_does (n : Nat) (s : zs) (x1 : Int32) : Option (Int32 × zs) := cond (zi_in x1 60) (cond (zi_in x1 60) (if (s.1 180 x1.toNatClampNeg) = (0 : Int32) then cond (zi_in x1 60) (zb (fX12_hiresTo n s 169 (s.1 181 x1.toNatClampNeg) (s.1 182 x1.toNatClampNeg)) (fun r5 s6 => if r5 < 0 then fX12_does_J67 n s6 (0 : Int32) else fX12_does_J67 n s6 (1 : Int32))) none else if (s.1 180 x1.toNatClampNeg) = (1 : Int32) then zb (fX12_leaves n s 169 (s.1 181 x1.toNatClampNeg)) (fun r10 s11 => if r10 < 0 then fX12_does_J85 n s11 (0 : Int32) else fX12_does_J85 n s11 (1 : Int32)) else if (s.1 180 x1.toNatClampNeg) = (2 : Int32) then fX12_does_J86 n s x1 (s.1 181 x1.toNatClampNeg) else if (s.1 180 x1.toNatClampNeg) = (3 : Int32) then fX12_does_J86 n s x1 (s.1 181 x1.toNatClampNeg) else if (s.1 181 x1.toNatClampNeg) ≤ (600 : Int32) then zp (fX12_restsFor n s 169 (s.1 181 x1.toNatClampNeg)) (fun s26 => some ((1 : Int32), s26)) else some ((0 : Int32), s)) none) none
theorem tX12_does {n : Nat} {c : Nat × Nat} {s : zs} {x1 : Int32} {r : Int32} {s' : zs} (h : fX12_does n s x1 = some (r, s')) : zc 12 2468 [.ref 161, .int x1] (zS c s) (some (.int r)) (zS c s') := by
  refine zc_of (k := kX12_does) (rt := 2) (L := [some (.ref 161), some (.int x1), none, none]) zm_2468.1 rfl rfl (by decide) rfl rfl ?_
  unfold fX12_does at h
  refine zr_many 1 (pc' := 1) (L' := [some (.ref 161), some (.int x1), none, none]) (st' := [.ref 161]) (S1 := zS c s) rfl ?_
  refine zq_get rfl (zh_161 _) rfl rfl rfl ?_
  refine zr_many 1 (pc' := 5) (L' := [some (.ref 161), some (.int x1), none, none]) (st' := [.int x1, .ref 181]) (S1 := zS c s) rfl ?_
  obtain ⟨g1, h⟩ := zi_cond_inv h
  refine zq_ild rfl (zh_181 _) rfl g1 rfl ?_
  refine zr_many 2 (pc' := 8) (L' := [some (.ref 161), some (.int x1), some (.int (s.1 181 x1.toNatClampNeg)), none]) (st' := [.ref 161]) (S1 := zS c s) rfl ?_
  refine zq_get rfl (zh_161 _) rfl rfl rfl ?_
  refine zr_many 1 (pc' := 12) (L' := [some (.ref 161), some (.int x1), some (.int (s.1 181 x1.toNatClampNeg)), none]) (st' := [.int x1, .ref 180]) (S1 := zS c s) rfl ?_
  obtain ⟨g2, h⟩ := zi_cond_inv h
  refine zq_ild rfl (zh_180 _) rfl g2 rfl ?_
  refine zq_sw (Or.inl ⟨_, _, _, _, rfl⟩) ?_
  by_cases g3 : (s.1 180 x1.toNatClampNeg) = (0 : Int32)
  · rw [if_pos g3] at h
    rw [zi_sw_pos g3]
    refine zr_many 2 (pc' := 46) (L' := [some (.ref 161), some (.int x1), some (.int (s.1 181 x1.toNatClampNeg)), none]) (st' := [.ref 161, .ref 161]) (S1 := zS c s) rfl ?_
    refine zq_get rfl (zh_161 _) rfl rfl rfl ?_
    refine zr_many 2 (pc' := 51) (L' := [some (.ref 161), some (.int x1), some (.int (s.1 181 x1.toNatClampNeg)), none]) (st' := [.ref 161, .int (s.1 181 x1.toNatClampNeg), .ref 169, .ref 161]) (S1 := zS c s) rfl ?_
    refine zq_get rfl (zh_161 _) rfl rfl rfl ?_
    refine zr_many 1 (pc' := 55) (L' := [some (.ref 161), some (.int x1), some (.int (s.1 181 x1.toNatClampNeg)), none]) (st' := [.int x1, .ref 182, .int (s.1 181 x1.toNatClampNeg), .ref 169, .ref 161]) (S1 := zS c s) rfl ?_
    obtain ⟨g4, h⟩ := zi_cond_inv h
    refine zq_ild rfl (zh_182 _) rfl g4 rfl ?_
    obtain ⟨r5, s6, g7, h⟩ := zb_inv h
    refine zq_call1 rfl rfl (zh_161 _) rfl rfl rfl ((tX12_hiresTo zR_n g7).up (by decide)) rfl ?_
    refine zq_if1 (b := r5 < 0) rfl Iff.rfl rfl (fun g8 => ?_) (fun g8 => ?_)
    · rw [if_pos g8] at h
      refine zr_many 1 (pc' := 67) (L' := [some (.ref 161), some (.int x1), some (.int (s.1 181 x1.toNatClampNeg)), none]) (st' := [.int (0 : Int32)]) (S1 := zS c s6) rfl ?_
      exact zr_wk [none, none, none, none] trivial (tX12_does_J67 h)
    · rw [if_neg g8] at h
      refine zr_many 2 (pc' := 67) (L' := [some (.ref 161), some (.int x1), some (.int (s.1 181 x1.toNatClampNeg)), none]) (st' := [.int (1 : Int32)]) (S1 := zS c s6) rfl ?_
      exact zr_wk [none, none, none, none] trivial (tX12_does_J67 h)
  rw [if_neg g3] at h
  rw [zi_sw_neg g3]
  by_cases g9 : (s.1 180 x1.toNatClampNeg) = (1 : Int32)
  · rw [if_pos g9] at h
    rw [zi_sw_pos g9]
    refine zr_many 2 (pc' := 70) (L' := [some (.ref 161), some (.int x1), some (.int (s.1 181 x1.toNatClampNeg)), none]) (st' := [.ref 161, .ref 161]) (S1 := zS c s) rfl ?_
    refine zq_get rfl (zh_161 _) rfl rfl rfl ?_
    refine zr_many 1 (pc' := 74) (L' := [some (.ref 161), some (.int x1), some (.int (s.1 181 x1.toNatClampNeg)), none]) (st' := [.int (s.1 181 x1.toNatClampNeg), .ref 169, .ref 161]) (S1 := zS c s) rfl ?_
    obtain ⟨r10, s11, g12, h⟩ := zb_inv h
    refine zq_call1 rfl rfl (zh_161 _) rfl rfl rfl ((tX12_leaves zR_n g12).up (by decide)) rfl ?_
    refine zq_if1 (b := r10 < 0) rfl Iff.rfl rfl (fun g13 => ?_) (fun g13 => ?_)
    · rw [if_pos g13] at h
      refine zr_many 1 (pc' := 85) (L' := [some (.ref 161), some (.int x1), some (.int (s.1 181 x1.toNatClampNeg)), none]) (st' := [.int (0 : Int32)]) (S1 := zS c s11) rfl ?_
      exact zr_wk [none, none, none, none] trivial (tX12_does_J85 h)
    · rw [if_neg g13] at h
      refine zr_many 2 (pc' := 85) (L' := [some (.ref 161), some (.int x1), some (.int (s.1 181 x1.toNatClampNeg)), none]) (st' := [.int (1 : Int32)]) (S1 := zS c s11) rfl ?_
      exact zr_wk [none, none, none, none] trivial (tX12_does_J85 h)
  rw [if_neg g9] at h
  rw [zi_sw_neg g9]
  by_cases g14 : (s.1 180 x1.toNatClampNeg) = (2 : Int32)
  · rw [if_pos g14] at h
    rw [zi_sw_pos g14]
    exact zr_wk [some (.ref 161), some (.int x1), some (.int (s.1 181 x1.toNatClampNeg)), none] ⟨rfl, rfl, rfl, trivial⟩ (tX12_does_J86 h)
  rw [if_neg g14] at h
  rw [zi_sw_neg g14]
  by_cases g23 : (s.1 180 x1.toNatClampNeg) = (3 : Int32)
  · rw [if_pos g23] at h
    rw [zi_sw_pos g23]
    exact zr_wk [some (.ref 161), some (.int x1), some (.int (s.1 181 x1.toNatClampNeg)), none] ⟨rfl, rfl, rfl, trivial⟩ (tX12_does_J86 h)
  rw [if_neg g23] at h
  rw [zi_sw_neg g23]
  simp only [zi_sw]
  refine zr_many 2 (pc' := 131) (L' := [some (.ref 161), some (.int x1), some (.int (s.1 181 x1.toNatClampNeg)), none]) (st' := [.int (600 : Int32), .int (s.1 181 x1.toNatClampNeg)]) (S1 := zS c s) rfl ?_
  refine zq_if2 (b := (s.1 181 x1.toNatClampNeg) ≤ (600 : Int32)) rfl Iff.rfl rfl (fun g24 => ?_) (fun g24 => ?_)
  · rw [if_pos g24] at h
    refine zr_many 2 (pc' := 138) (L' := [some (.ref 161), some (.int x1), some (.int (s.1 181 x1.toNatClampNeg)), none]) (st' := [.ref 161, .ref 161]) (S1 := zS c s) rfl ?_
    refine zq_get rfl (zh_161 _) rfl rfl rfl ?_
    refine zr_many 1 (pc' := 142) (L' := [some (.ref 161), some (.int x1), some (.int (s.1 181 x1.toNatClampNeg)), none]) (st' := [.int (s.1 181 x1.toNatClampNeg), .ref 169, .ref 161]) (S1 := zS c s) rfl ?_
    obtain ⟨s26, g27, h⟩ := zp_inv h
    refine zq_call0 rfl rfl (zh_161 _) rfl rfl rfl ((tX12_restsFor zR_n g27).up (by decide)) rfl ?_
    refine zr_many 1 (pc' := 146) (L' := [some (.ref 161), some (.int x1), some (.int (s.1 181 x1.toNatClampNeg)), none]) (st' := [.int (1 : Int32)]) (S1 := zS c s26) rfl ?_
    obtain ⟨rfl, rfl⟩ := Prod.mk.inj (Option.some.inj h)
    exact zq_zret rfl (by decide)
  · rw [if_neg g24] at h
    refine zr_many 1 (pc' := 135) (L' := [some (.ref 161), some (.int x1), some (.int (s.1 181 x1.toNatClampNeg)), none]) (st' := [.int (0 : Int32)]) (S1 := zS c s) rfl ?_
    obtain ⟨rfl, rfl⟩ := Prod.mk.inj (Option.some.inj h)
    exact zq_zret rfl (by decide)
def fX12_day_J56 (n : Nat) (s : zs) (x1 : Int32) (x2 : Int32) (y0 : Int32) : Option ((Int32 × Int32 × zs) ⊕ (Int32 × zs)) := some (Sum.inl (x2, y0, s))
theorem tX12_day_J56 {n : Nat} {c : Nat × Nat} {s : zs} {x1 : Int32} {x2 : Int32} {y0 : Int32} {o : _} {v : Option Value} {S' : zi_S} (h : fX12_day_J56 n s x1 x2 y0 = some o) (hn : ∀ w29, o = Sum.inl w29 → zr kX12_day 1 12 29 [some (.ref 161), some (.int x1), some (.int w29.1), some (.int w29.2.1), none, none] [] (zS c w29.2.2) v S') (hx : ∀ z, o = Sum.inr z → (fun z => zr kX12_day 1 12 60 [some (.ref 161), some (.int x1), some (.int z.1), none, none, none] [] (zS c z.2) v S') z) : zr kX12_day 1 12 56 [some (.ref 161), some (.int x1), some (.int x2), none, none, none] [.int y0] (zS c s) v S' := by
  unfold fX12_day_J56 at h
  refine zr_many 2 (pc' := 29) (L' := [some (.ref 161), some (.int x1), some (.int x2), some (.int y0), none, none]) (st' := []) (S1 := zS c s) rfl ?_
  obtain rfl := Option.some.inj h
  exact zr_wk [some (.ref 161), some (.int x1), some (.int x2), some (.int y0), none, none] ⟨rfl, rfl, rfl, rfl, trivial⟩ (hn (x2, y0, s) rfl)
def fX12_day_J55 (n : Nat) (s : zs) (x1 : Int32) (x2 : Int32) : Option ((Int32 × Int32 × zs) ⊕ (Int32 × zs)) := fX12_day_J56 n s x1 x2 (0 : Int32)
theorem tX12_day_J55 {n : Nat} {c : Nat × Nat} {s : zs} {x1 : Int32} {x2 : Int32} {o : _} {v : Option Value} {S' : zi_S} (h : fX12_day_J55 n s x1 x2 = some o) (hn : ∀ w29, o = Sum.inl w29 → zr kX12_day 1 12 29 [some (.ref 161), some (.int x1), some (.int w29.1), some (.int w29.2.1), none, none] [] (zS c w29.2.2) v S') (hx : ∀ z, o = Sum.inr z → (fun z => zr kX12_day 1 12 60 [some (.ref 161), some (.int x1), some (.int z.1), none, none, none] [] (zS c z.2) v S') z) : zr kX12_day 1 12 55 [some (.ref 161), some (.int x1), some (.int x2), none, none, none] [] (zS c s) v S' := by
  unfold fX12_day_J55 at h
  refine zr_many 1 (pc' := 56) (L' := [some (.ref 161), some (.int x1), some (.int x2), none, none, none]) (st' := [.int (0 : Int32)]) (S1 := zS c s) rfl ?_
  exact zr_wk [some (.ref 161), some (.int x1), some (.int x2), none, none, none] ⟨rfl, rfl, rfl, trivial⟩ (tX12_day_J56 h hn hx)
def fX12_day_B29 (n : Nat) (x1 : Int32) (w29 : Int32 × Int32 × zs) : Option ((Int32 × Int32 × zs) ⊕ (Int32 × zs)) := if w29.2.1 = 0 then some (Sum.inr (w29.1, w29.2.2)) else zb (fX12_readsAct n w29.2.2) (fun r6 s7 => if r6 = 0 then fX12_day_J55 n s7 x1 r6 else zb (fX12_takes n s7 (59 : Int32)) (fun r10 s11 => if r10 = 0 then fX12_day_J55 n s11 x1 r6 else fX12_day_J56 n s11 x1 r6 (1 : Int32)))
theorem tX12_day_B29 {n : Nat} {c : Nat × Nat} {x1 : Int32} {w29 : Int32 × Int32 × zs} {o : _} {v : Option Value} {S' : zi_S} (h : fX12_day_B29 n x1 w29 = some o) (hn : ∀ w29, o = Sum.inl w29 → zr kX12_day 1 12 29 [some (.ref 161), some (.int x1), some (.int w29.1), some (.int w29.2.1), none, none] [] (zS c w29.2.2) v S') (hx : ∀ z, o = Sum.inr z → (fun z => zr kX12_day 1 12 60 [some (.ref 161), some (.int x1), some (.int z.1), none, none, none] [] (zS c z.2) v S') z) : zr kX12_day 1 12 29 [some (.ref 161), some (.int x1), some (.int w29.1), some (.int w29.2.1), none, none] [] (zS c w29.2.2) v S' := by
  unfold fX12_day_B29 at h
  refine zr_many 1 (pc' := 30) (L' := [some (.ref 161), some (.int x1), some (.int w29.1), some (.int w29.2.1), none, none]) (st' := [.int w29.2.1]) (S1 := zS c w29.2.2) rfl ?_
  refine zq_if1 (b := w29.2.1 = 0) rfl Iff.rfl rfl (fun g5 => ?_) (fun g5 => ?_)
  · rw [if_pos g5] at h
    obtain rfl := Option.some.inj h
    exact zr_wk [some (.ref 161), some (.int x1), some (.int w29.1), none, none, none] ⟨rfl, rfl, rfl, trivial⟩ (hx (w29.1, w29.2.2) rfl)
  · rw [if_neg g5] at h
    refine zr_many 1 (pc' := 34) (L' := [some (.ref 161), some (.int x1), some (.int w29.1), some (.int w29.2.1), none, none]) (st' := [.ref 161]) (S1 := zS c w29.2.2) rfl ?_
    obtain ⟨r6, s7, g8, h⟩ := zb_inv h
    refine zq_call1 rfl rfl (zh_161 _) rfl rfl rfl ((tX12_readsAct g8).up (by decide)) rfl ?_
    refine zr_many 2 (pc' := 39) (L' := [some (.ref 161), some (.int x1), some (.int r6), some (.int w29.2.1), none, none]) (st' := [.int r6]) (S1 := zS c s7) rfl ?_
    refine zq_if1 (b := r6 = 0) rfl Iff.rfl rfl (fun g9 => ?_) (fun g9 => ?_)
    · rw [if_pos g9] at h
      exact zr_wk [some (.ref 161), some (.int x1), some (.int r6), none, none, none] ⟨rfl, rfl, rfl, trivial⟩ (tX12_day_J55 h hn hx)
    · rw [if_neg g9] at h
      refine zr_many 2 (pc' := 45) (L' := [some (.ref 161), some (.int x1), some (.int r6), some (.int w29.2.1), none, none]) (st' := [.int (59 : Int32), .ref 161]) (S1 := zS c s7) rfl ?_
      obtain ⟨r10, s11, g12, h⟩ := zb_inv h
      refine zq_call1 rfl rfl (zh_161 _) rfl rfl rfl ((tX12_takes g12).up (by decide)) rfl ?_
      refine zq_if1 (b := r10 = 0) rfl Iff.rfl rfl (fun g13 => ?_) (fun g13 => ?_)
      · rw [if_pos g13] at h
        exact zr_wk [some (.ref 161), some (.int x1), some (.int r6), none, none, none] ⟨rfl, rfl, rfl, trivial⟩ (tX12_day_J55 h hn hx)
      · rw [if_neg g13] at h
        refine zr_many 2 (pc' := 56) (L' := [some (.ref 161), some (.int x1), some (.int r6), some (.int w29.2.1), none, none]) (st' := [.int (1 : Int32)]) (S1 := zS c s11) rfl ?_
        exact zr_wk [some (.ref 161), some (.int x1), some (.int r6), none, none, none] ⟨rfl, rfl, rfl, trivial⟩ (tX12_day_J56 h hn hx)
def fX12_day_B90 (n : Nat) (w90 : Int32 × zs) : Option ((Int32 × zs) ⊕ (Int32 × zs)) := if (w90.2.1 161 36) ≤ w90.1 then some (Sum.inr (w90.1, w90.2)) else zb (fX12_does n w90.2 w90.1) (fun r23 s24 => if r23 = 0 then some (Sum.inr (w90.1, s24)) else some (Sum.inl ((w90.1 + (1 : Int32)), s24)))
theorem tX12_day_B90 {n : Nat} {c : Nat × Nat} {w90 : Int32 × zs} {o : _} {v : Option Value} {S' : zi_S} (h : fX12_day_B90 n w90 = some o) (hn : ∀ w90, o = Sum.inl w90 → zr kX12_day 1 12 90 [some (.ref 161), none, none, none, none, some (.int w90.1)] [] (zS c w90.2) v S') (hx : ∀ z, o = Sum.inr z → (fun z => zr kX12_day 1 12 114 [some (.ref 161), none, none, none, none, some (.int z.1)] [] (zS c z.2) v S') z) : zr kX12_day 1 12 90 [some (.ref 161), none, none, none, none, some (.int w90.1)] [] (zS c w90.2) v S' := by
  unfold fX12_day_B90 at h
  refine zr_many 2 (pc' := 93) (L' := [some (.ref 161), none, none, none, none, some (.int w90.1)]) (st' := [.ref 161, .int w90.1]) (S1 := zS c w90.2) rfl ?_
  refine zq_get rfl (zh_161 _) rfl rfl rfl ?_
  refine zq_if2 (b := (w90.2.1 161 36) ≤ w90.1) rfl Iff.rfl rfl (fun g22 => ?_) (fun g22 => ?_)
  · rw [if_pos g22] at h
    obtain rfl := Option.some.inj h
    exact zr_wk [some (.ref 161), none, none, none, none, some (.int w90.1)] ⟨rfl, rfl, trivial⟩ (hx (w90.1, w90.2) rfl)
  · rw [if_neg g22] at h
    refine zr_many 2 (pc' := 102) (L' := [some (.ref 161), none, none, none, none, some (.int w90.1)]) (st' := [.int w90.1, .ref 161]) (S1 := zS c w90.2) rfl ?_
    obtain ⟨r23, s24, g25, h⟩ := zb_inv h
    refine zq_call1 rfl rfl (zh_161 _) rfl rfl rfl (tX12_does g25) rfl ?_
    refine zq_if1 (b := r23 = 0) rfl Iff.rfl rfl (fun g26 => ?_) (fun g26 => ?_)
    · rw [if_pos g26] at h
      obtain rfl := Option.some.inj h
      exact zr_wk [some (.ref 161), none, none, none, none, some (.int w90.1)] ⟨rfl, rfl, trivial⟩ (hx (w90.1, s24) rfl)
    · rw [if_neg g26] at h
      refine zr_many 2 (pc' := 90) (L' := [some (.ref 161), none, none, none, none, some (.int (w90.1 + (1 : Int32)))]) (st' := []) (S1 := zS c s24) rfl ?_
      obtain rfl := Option.some.inj h
      exact zr_wk [some (.ref 161), none, none, none, none, some (.int (w90.1 + (1 : Int32)))] ⟨rfl, rfl, trivial⟩ (hn ((w90.1 + (1 : Int32)), s24) rfl)
def fX12_day_J165 (n : Nat) (s : zs) (y0 : Int32) : Option (Int32 × zs) := some (y0, s)
theorem tX12_day_J165 {n : Nat} {c : Nat × Nat} {s : zs} {y0 : Int32} {r : Int32} {s' : zs} (h : fX12_day_J165 n s y0 = some (r, s')) : zr kX12_day 1 12 165 [none, none, none, none, none, none] [.int y0] (zS c s) (some (.int r)) (zS c s') := by
  unfold fX12_day_J165 at h
  obtain ⟨rfl, rfl⟩ := Prod.mk.inj (Option.some.inj h)
  exact zq_iret rfl
def fX12_day_J134 (n : Nat) (s : zs) (x5 : Int32) (y1 : Int32) : Option (Int32 × zs) := zp (fX12_flag n s y1) (fun r29 => zp (fX12_enters n s r29.toInt64) (fun s33 => zp (fX12_enters n s33 ((s33.1 161 37).toInt64)) (fun s36 => if x5 ≤ 0 then fX12_day_J165 n s36 (0 : Int32) else zb (fX12_adds n s36 x5) (fun r39 s40 => fX12_day_J165 n s40 r39))))
theorem tX12_day_J134 {n : Nat} {c : Nat × Nat} {s : zs} {x5 : Int32} {y1 : Int32} {r : Int32} {s' : zs} (h : fX12_day_J134 n s x5 y1 = some (r, s')) : zr kX12_day 1 12 134 [some (.ref 161), none, none, none, none, some (.int x5)] [.int y1, .ref 161] (zS c s) (some (.int r)) (zS c s') := by
  unfold fX12_day_J134 at h
  obtain ⟨r29, g31, h⟩ := zp_inv h
  refine zq_scall1 rfl (by decide) rfl rfl ((tX12_flag g31).up (by decide)) rfl ?_
  refine zr_many 1 (pc' := 138) (L' := [some (.ref 161), none, none, none, none, some (.int x5)]) (st' := [.long r29.toInt64, .ref 161]) (S1 := zS c s) rfl ?_
  obtain ⟨s33, g34, h⟩ := zp_inv h
  refine zq_call0 rfl rfl (zh_161 _) rfl rfl rfl ((tX12_enters g34).up (by decide)) rfl ?_
  refine zr_many 2 (pc' := 143) (L' := [some (.ref 161), none, none, none, none, some (.int x5)]) (st' := [.ref 161, .ref 161]) (S1 := zS c s33) rfl ?_
  refine zq_get rfl (zh_161 _) rfl rfl rfl ?_
  refine zr_many 1 (pc' := 147) (L' := [some (.ref 161), none, none, none, none, some (.int x5)]) (st' := [.long (s33.1 161 37).toInt64, .ref 161]) (S1 := zS c s33) rfl ?_
  obtain ⟨s36, g37, h⟩ := zp_inv h
  refine zq_call0 rfl rfl (zh_161 _) rfl rfl rfl ((tX12_enters g37).up (by decide)) rfl ?_
  refine zr_many 1 (pc' := 152) (L' := [some (.ref 161), none, none, none, none, some (.int x5)]) (st' := [.int x5]) (S1 := zS c s36) rfl ?_
  refine zq_if1 (b := x5 ≤ 0) rfl Iff.rfl rfl (fun g38 => ?_) (fun g38 => ?_)
  · rw [if_pos g38] at h
    refine zr_many 1 (pc' := 165) (L' := [some (.ref 161), none, none, none, none, some (.int x5)]) (st' := [.int (0 : Int32)]) (S1 := zS c s36) rfl ?_
    exact zr_wk [none, none, none, none, none, none] trivial (tX12_day_J165 h)
  · rw [if_neg g38] at h
    refine zr_many 2 (pc' := 158) (L' := [some (.ref 161), none, none, none, none, some (.int x5)]) (st' := [.int x5, .ref 161]) (S1 := zS c s36) rfl ?_
    obtain ⟨r39, s40, g41, h⟩ := zb_inv h
    refine zq_call1 rfl rfl (zh_161 _) rfl rfl rfl ((tX12_adds g41).up (by decide)) rfl ?_
    refine zr_many 1 (pc' := 165) (L' := [some (.ref 161), none, none, none, none, some (.int x5)]) (st' := [.int r39]) (S1 := zS c s40) rfl ?_
    exact zr_wk [none, none, none, none, none, none] trivial (tX12_day_J165 h)
def fX12_day_J114 (n : Nat) (s : zs) (x5 : Int32) : Option (Int32 × zs) := if ((zsi s 161 1 (0 : Int32)).1 161 36) ≤ x5 then fX12_day_J134 n (zsi s 161 1 (0 : Int32)) x5 (0 : Int32) else fX12_day_J134 n (zsi s 161 1 (0 : Int32)) x5 (1 : Int32)
theorem tX12_day_J114 {n : Nat} {c : Nat × Nat} {s : zs} {x5 : Int32} {r : Int32} {s' : zs} (h : fX12_day_J114 n s x5 = some (r, s')) : zr kX12_day 1 12 114 [some (.ref 161), none, none, none, none, some (.int x5)] [] (zS c s) (some (.int r)) (zS c s') := by
  unfold fX12_day_J114 at h
  refine zr_many 2 (pc' := 116) (L' := [some (.ref 161), none, none, none, none, some (.int x5)]) (st' := [.int (0 : Int32), .ref 161]) (S1 := zS c s) rfl ?_
  refine zq_put (s' := (zsi s 161 1 (0 : Int32))) rfl (zh_161 _) rfl rfl rfl rfl zsi_ne rfl ?_
  refine zr_many 3 (pc' := 123) (L' := [some (.ref 161), none, none, none, none, some (.int x5)]) (st' := [.ref 161, .int x5, .ref 161]) (S1 := zS c (zsi s 161 1 (0 : Int32))) rfl ?_
  refine zq_get rfl (zh_161 _) rfl rfl rfl ?_
  refine zq_if2 (b := ((zsi s 161 1 (0 : Int32)).1 161 36) ≤ x5) rfl Iff.rfl rfl (fun g28 => ?_) (fun g28 => ?_)
  · rw [if_pos g28] at h
    refine zr_many 1 (pc' := 134) (L' := [some (.ref 161), none, none, none, none, some (.int x5)]) (st' := [.int (0 : Int32), .ref 161]) (S1 := zS c (zsi s 161 1 (0 : Int32))) rfl ?_
    exact zr_wk [some (.ref 161), none, none, none, none, some (.int x5)] ⟨rfl, rfl, trivial⟩ (tX12_day_J134 h)
  · rw [if_neg g28] at h
    refine zr_many 2 (pc' := 134) (L' := [some (.ref 161), none, none, none, none, some (.int x5)]) (st' := [.int (1 : Int32), .ref 161]) (S1 := zS c (zsi s 161 1 (0 : Int32))) rfl ?_
    exact zr_wk [some (.ref 161), none, none, none, none, some (.int x5)] ⟨rfl, rfl, trivial⟩ (tX12_day_J134 h)
def fX12_day_J28 (n : Nat) (s : zs) (x1 : Int32) (x2 : Int32) (y0 : Int32) : Option (Int32 × zs) := zp (zl (fX12_day_B29 n x1) n (x2, y0, s)) (fun w14 => zp (fX12_faultOf n w14.2 x1 (60 : Int32) w14.1) (fun r15 => if 0 ≤ r15 then zp (fX12_putsBy n w14.2) (fun s20 => zp (zl (fX12_day_B90 n) n ((0 : Int32), (zsi s20 161 37 (0 : Int32)))) (fun w27 => fX12_day_J114 n w27.2 w27.1)) else some (r15, w14.2)))
theorem tX12_day_J28 {n : Nat} {c : Nat × Nat} {s : zs} {x1 : Int32} {x2 : Int32} {y0 : Int32} {r : Int32} {s' : zs} (h : fX12_day_J28 n s x1 x2 y0 = some (r, s')) : zr kX12_day 1 12 28 [some (.ref 161), some (.int x1), some (.int x2), none, none, none] [.int y0] (zS c s) (some (.int r)) (zS c s') := by
  unfold fX12_day_J28 at h
  refine zr_many 1 (pc' := 29) (L' := [some (.ref 161), some (.int x1), some (.int x2), some (.int y0), none, none]) (st' := []) (S1 := zS c s) rfl ?_
  obtain ⟨w14, g43, h⟩ := zp_inv h
  refine zr_wk [some (.ref 161), some (.int x1), some (.int x2), some (.int y0), none, none] ⟨rfl, rfl, rfl, rfl, trivial⟩ (zl_cert (Z := fun w29 => zr kX12_day 1 12 29 [some (.ref 161), some (.int x1), some (.int w29.1), some (.int w29.2.1), none, none] [] (zS c w29.2.2) _ _) (Y := (fun z => zr kX12_day 1 12 60 [some (.ref 161), some (.int x1), some (.int z.1), none, none, none] [] (zS c z.2) _ _)) (fun w o h1 h2 h3 => tX12_day_B29 h1 h2 h3) n _ _ g43 ?_)
  show zr kX12_day 1 12 60 [some (.ref 161), some (.int x1), some (.int w14.1), none, none, none] [] (zS c w14.2) _ _
  refine zr_many 4 (pc' := 65) (L' := [some (.ref 161), some (.int x1), some (.int w14.1), none, none, none]) (st' := [.int w14.1, .int (60 : Int32), .int x1, .ref 161]) (S1 := zS c w14.2) rfl ?_
  obtain ⟨r15, g17, h⟩ := zp_inv h
  refine zq_call1 rfl rfl (zh_161 _) rfl rfl rfl ((tX12_faultOf g17).up (by decide)) rfl ?_
  refine zr_many 2 (pc' := 72) (L' := [some (.ref 161), some (.int x1), some (.int w14.1), none, some (.int r15), none]) (st' := [.int r15]) (S1 := zS c w14.2) rfl ?_
  refine zq_if1 (b := 0 ≤ r15) rfl Iff.rfl rfl (fun g18 => ?_) (fun g18 => ?_)
  · rw [if_pos g18] at h
    refine zr_many 1 (pc' := 79) (L' := [some (.ref 161), some (.int x1), some (.int w14.1), none, some (.int r15), none]) (st' := [.ref 161]) (S1 := zS c w14.2) rfl ?_
    obtain ⟨s20, g21, h⟩ := zp_inv h
    refine zq_call0 rfl rfl (zh_161 _) rfl rfl rfl ((tX12_putsBy g21).up (by decide)) rfl ?_
    refine zr_many 2 (pc' := 84) (L' := [some (.ref 161), some (.int x1), some (.int w14.1), none, some (.int r15), none]) (st' := [.int (0 : Int32), .ref 161]) (S1 := zS c s20) rfl ?_
    refine zq_put (s' := (zsi s20 161 37 (0 : Int32))) rfl (zh_161 _) rfl rfl rfl rfl zsi_ne rfl ?_
    refine zr_many 2 (pc' := 90) (L' := [some (.ref 161), some (.int x1), some (.int w14.1), none, some (.int r15), some (.int (0 : Int32))]) (st' := []) (S1 := zS c (zsi s20 161 37 (0 : Int32))) rfl ?_
    obtain ⟨w27, g42, h⟩ := zp_inv h
    refine zr_wk [some (.ref 161), none, none, none, none, some (.int (0 : Int32))] ⟨rfl, rfl, trivial⟩ (zl_cert (Z := fun w90 => zr kX12_day 1 12 90 [some (.ref 161), none, none, none, none, some (.int w90.1)] [] (zS c w90.2) _ _) (Y := (fun z => zr kX12_day 1 12 114 [some (.ref 161), none, none, none, none, some (.int z.1)] [] (zS c z.2) _ _)) (fun w o h1 h2 h3 => tX12_day_B90 h1 h2 h3) n _ _ g42 ?_)
    show zr kX12_day 1 12 114 [some (.ref 161), none, none, none, none, some (.int w27.1)] [] (zS c w27.2) _ _
    exact zr_wk [some (.ref 161), none, none, none, none, some (.int w27.1)] ⟨rfl, rfl, trivial⟩ (tX12_day_J114 h)
  · rw [if_neg g18] at h
    refine zr_many 1 (pc' := 77) (L' := [some (.ref 161), some (.int x1), some (.int w14.1), none, some (.int r15), none]) (st' := [.int r15]) (S1 := zS c w14.2) rfl ?_
    obtain ⟨rfl, rfl⟩ := Prod.mk.inj (Option.some.inj h)
    exact zq_iret rfl
def fX12_day (n : Nat) (s : zs) : Option (Int32 × zs) := zb (fX12_begins n (zsi s 161 0 (0 : Int32)) (60 : Int32)) (fun r1 s2 => if r1 ≤ 0 then fX12_day_J28 n (zsi s2 161 36 (0 : Int32)) r1 (1 : Int32) (0 : Int32) else fX12_day_J28 n (zsi s2 161 36 (0 : Int32)) r1 (1 : Int32) (1 : Int32))
theorem tX12_day {n : Nat} {c : Nat × Nat} {s : zs} {r : Int32} {s' : zs} (h : fX12_day n s = some (r, s')) : zc 13 2469 [.ref 161] (zS c s) (some (.int r)) (zS c s') := by
  refine zc_of (k := kX12_day) (rt := 1) (L := [some (.ref 161), none, none, none, none, none]) zm_2469.1 rfl rfl (by decide) rfl rfl ?_
  unfold fX12_day at h
  refine zr_many 2 (pc' := 2) (L' := [some (.ref 161), none, none, none, none, none]) (st' := [.int (0 : Int32), .ref 161]) (S1 := zS c s) rfl ?_
  refine zq_put (s' := (zsi s 161 0 (0 : Int32))) rfl (zh_161 _) rfl rfl rfl rfl zsi_ne rfl ?_
  refine zr_many 2 (pc' := 8) (L' := [some (.ref 161), none, none, none, none, none]) (st' := [.int (60 : Int32), .ref 161]) (S1 := zS c (zsi s 161 0 (0 : Int32))) rfl ?_
  obtain ⟨r1, s2, g3, h⟩ := zb_inv h
  refine zq_call1 rfl rfl (zh_161 _) rfl rfl rfl ((tX12_begins g3).up (by decide)) rfl ?_
  refine zr_many 3 (pc' := 14) (L' := [some (.ref 161), some (.int r1), none, none, none, none]) (st' := [.int (0 : Int32), .ref 161]) (S1 := zS c s2) rfl ?_
  refine zq_put (s' := (zsi s2 161 36 (0 : Int32))) rfl (zh_161 _) rfl rfl rfl rfl zsi_ne rfl ?_
  refine zr_many 3 (pc' := 20) (L' := [some (.ref 161), some (.int r1), some (.int (1 : Int32)), none, none, none]) (st' := [.int r1]) (S1 := zS c (zsi s2 161 36 (0 : Int32))) rfl ?_
  refine zq_if1 (b := r1 ≤ 0) rfl Iff.rfl rfl (fun g4 => ?_) (fun g4 => ?_)
  · rw [if_pos g4] at h
    refine zr_many 1 (pc' := 28) (L' := [some (.ref 161), some (.int r1), some (.int (1 : Int32)), none, none, none]) (st' := [.int (0 : Int32)]) (S1 := zS c (zsi s2 161 36 (0 : Int32))) rfl ?_
    exact zr_wk [some (.ref 161), some (.int r1), some (.int (1 : Int32)), none, none, none] ⟨rfl, rfl, rfl, trivial⟩ (tX12_day_J28 h)
  · rw [if_neg g4] at h
    refine zr_many 2 (pc' := 28) (L' := [some (.ref 161), some (.int r1), some (.int (1 : Int32)), none, none, none]) (st' := [.int (1 : Int32)]) (S1 := zS c (zsi s2 161 36 (0 : Int32))) rfl ?_
    exact zr_wk [some (.ref 161), some (.int r1), some (.int (1 : Int32)), none, none, none] ⟨rfl, rfl, rfl, trivial⟩ (tX12_day_J28 h)
def fX12_isPair_J21 (n : Nat) (s : zs) (y0 : Int32) : Option Int32 := if y0 = 0 ∨ y0 = 1 then some y0 else none
theorem tX12_isPair_J21 {n : Nat} {c : Nat × Nat} {s : zs} {y0 : Int32} {r : Int32} (h : fX12_isPair_J21 n s y0 = some r) : zr kX12_isPair 2 2 21 [none, none, none] [.int y0] (zS c s) (some (.int r)) (zS c s) := by
  unfold fX12_isPair_J21 at h
  obtain ⟨gz, h⟩ := zt_inv h
  obtain rfl := Option.some.inj h
  exact zq_zret rfl gz
def fX12_isPair_J20 (n : Nat) (s : zs) : Option Int32 := fX12_isPair_J21 n s (0 : Int32)
theorem tX12_isPair_J20 {n : Nat} {c : Nat × Nat} {s : zs} {r : Int32} (h : fX12_isPair_J20 n s = some r) : zr kX12_isPair 2 2 20 [none, none, none] [] (zS c s) (some (.int r)) (zS c s) := by
  unfold fX12_isPair_J20 at h
  refine zr_many 1 (pc' := 21) (L' := [none, none, none]) (st' := [.int (0 : Int32)]) (S1 := zS c s) rfl ?_
  exact zr_wk [none, none, none] trivial (tX12_isPair_J21 h)
def fX12_isPair (n : Nat) (s : zs) (x1 : Int32) (x2 : Int32) : Option Int32 := zp (fX12_isBarge n s x1) (fun r1 => if r1 = 0 then fX12_isPair_J20 n s else zp (fX12_isLock n s x2) (fun r5 => if r5 = 0 then fX12_isPair_J20 n s else fX12_isPair_J21 n s (1 : Int32)))
theorem tX12_isPair {n : Nat} {c : Nat × Nat} {s : zs} {x1 : Int32} {x2 : Int32} {r : Int32} (h : fX12_isPair n s x1 x2 = some r) : zc 3 2470 [.ref 161, .int x1, .int x2] (zS c s) (some (.int r)) (zS c s) := by
  refine zc_of (k := kX12_isPair) (rt := 2) (L := [some (.ref 161), some (.int x1), some (.int x2)]) zm_2470.1 rfl rfl (by decide) rfl rfl ?_
  unfold fX12_isPair at h
  refine zr_many 2 (pc' := 2) (L' := [some (.ref 161), some (.int x1), some (.int x2)]) (st' := [.int x1, .ref 161]) (S1 := zS c s) rfl ?_
  obtain ⟨r1, g3, h⟩ := zp_inv h
  refine zq_call1 rfl rfl (zh_161 _) rfl rfl rfl (tX12_isBarge g3) rfl ?_
  refine zq_if1 (b := r1 = 0) rfl Iff.rfl rfl (fun g4 => ?_) (fun g4 => ?_)
  · rw [if_pos g4] at h
    exact zr_wk [none, none, none] trivial (tX12_isPair_J20 h)
  · rw [if_neg g4] at h
    refine zr_many 2 (pc' := 10) (L' := [some (.ref 161), some (.int x1), some (.int x2)]) (st' := [.int x2, .ref 161]) (S1 := zS c s) rfl ?_
    obtain ⟨r5, g7, h⟩ := zp_inv h
    refine zq_call1 rfl rfl (zh_161 _) rfl rfl rfl (tX12_isLock g7) rfl ?_
    refine zq_if1 (b := r5 = 0) rfl Iff.rfl rfl (fun g8 => ?_) (fun g8 => ?_)
    · rw [if_pos g8] at h
      exact zr_wk [none, none, none] trivial (tX12_isPair_J20 h)
    · rw [if_neg g8] at h
      refine zr_many 2 (pc' := 21) (L' := [some (.ref 161), some (.int x1), some (.int x2)]) (st' := [.int (1 : Int32)]) (S1 := zS c s) rfl ?_
      exact zr_wk [none, none, none] trivial (tX12_isPair_J21 h)
def fX12_sings_J51 (n : Nat) (s : zs) (x3 : Int32) : Option (Int32 × zs) := zp (fX12_flag n s x3) (fun r12 => some (r12, s))
theorem tX12_sings_J51 {n : Nat} {c : Nat × Nat} {s : zs} {x3 : Int32} {r : Int32} {s' : zs} (h : fX12_sings_J51 n s x3 = some (r, s')) : zr kX12_sings 1 9 51 [none, none, none, some (.int x3)] [] (zS c s) (some (.int r)) (zS c s') := by
  unfold fX12_sings_J51 at h
  refine zr_many 1 (pc' := 52) (L' := [none, none, none, some (.int x3)]) (st' := [.int x3]) (S1 := zS c s) rfl ?_
  obtain ⟨r12, g14, h⟩ := zp_inv h
  refine zq_scall1 rfl (by decide) rfl rfl ((tX12_flag g14).up (by decide)) rfl ?_
  obtain ⟨rfl, rfl⟩ := Prod.mk.inj (Option.some.inj h)
  exact zq_iret rfl
def fX12_sings (n : Nat) (s : zs) (x1 : Int32) (x2 : Int32) : Option (Int32 × zs) := zp (fX12_isPair n (zsi s 161 0 (0 : Int32)) x1 x2) (fun r1 => if ¬ r1 = 0 then zp (fX12_crew n (zsi s 161 0 (0 : Int32)) 169 x1) (fun r5 => zb (fX12_singsChord n (zsi s 161 0 (0 : Int32)) 169 r5 x2) (fun r8 s9 => if r8 = 0 then fX12_sings_J51 n (zsi s9 161 1 (0 : Int32)) r8 else zp (fX12_tellsSung n s9) (fun s16 => fX12_sings_J51 n s16 r8))) else some ((-1 : Int32), (zsi s 161 0 (0 : Int32))))
theorem tX12_sings {n : Nat} {c : Nat × Nat} {s : zs} {x1 : Int32} {x2 : Int32} {r : Int32} {s' : zs} (h : fX12_sings n s x1 x2 = some (r, s')) : zc 10 2471 [.ref 161, .int x1, .int x2] (zS c s) (some (.int r)) (zS c s') := by
  refine zc_of (k := kX12_sings) (rt := 1) (L := [some (.ref 161), some (.int x1), some (.int x2), none]) zm_2471.1 rfl rfl (by decide) rfl rfl ?_
  unfold fX12_sings at h
  refine zr_many 2 (pc' := 2) (L' := [some (.ref 161), some (.int x1), some (.int x2), none]) (st' := [.int (0 : Int32), .ref 161]) (S1 := zS c s) rfl ?_
  refine zq_put (s' := (zsi s 161 0 (0 : Int32))) rfl (zh_161 _) rfl rfl rfl rfl zsi_ne rfl ?_
  refine zr_many 3 (pc' := 8) (L' := [some (.ref 161), some (.int x1), some (.int x2), none]) (st' := [.int x2, .int x1, .ref 161]) (S1 := zS c (zsi s 161 0 (0 : Int32))) rfl ?_
  obtain ⟨r1, g3, h⟩ := zp_inv h
  refine zq_call1 rfl rfl (zh_161 _) rfl rfl rfl ((tX12_isPair g3).up (by decide)) rfl ?_
  refine zq_if1 (b := ¬ r1 = 0) rfl Iff.rfl rfl (fun g4 => ?_) (fun g4 => ?_)
  · rw [if_pos g4] at h
    refine zr_many 2 (pc' := 18) (L' := [some (.ref 161), some (.int x1), some (.int x2), none]) (st' := [.ref 161, .ref 161]) (S1 := zS c (zsi s 161 0 (0 : Int32))) rfl ?_
    refine zq_get rfl (zh_161 _) rfl rfl rfl ?_
    refine zr_many 2 (pc' := 23) (L' := [some (.ref 161), some (.int x1), some (.int x2), none]) (st' := [.ref 161, .ref 161, .ref 169, .ref 161]) (S1 := zS c (zsi s 161 0 (0 : Int32))) rfl ?_
    refine zq_get rfl (zh_161 _) rfl rfl rfl ?_
    refine zr_many 1 (pc' := 27) (L' := [some (.ref 161), some (.int x1), some (.int x2), none]) (st' := [.int x1, .ref 169, .ref 161, .ref 169, .ref 161]) (S1 := zS c (zsi s 161 0 (0 : Int32))) rfl ?_
    obtain ⟨r5, g7, h⟩ := zp_inv h
    refine zq_call1 rfl rfl (zh_161 _) rfl rfl rfl ((tX12_crew zR_n g7).up (by decide)) rfl ?_
    refine zr_many 1 (pc' := 31) (L' := [some (.ref 161), some (.int x1), some (.int x2), none]) (st' := [.int x2, .int r5, .ref 169, .ref 161]) (S1 := zS c (zsi s 161 0 (0 : Int32))) rfl ?_
    obtain ⟨r8, s9, g10, h⟩ := zb_inv h
    refine zq_call1 rfl rfl (zh_161 _) rfl rfl rfl (tX12_singsChord zR_n g10) rfl ?_
    refine zr_many 2 (pc' := 36) (L' := [some (.ref 161), some (.int x1), some (.int x2), some (.int r8)]) (st' := [.int r8]) (S1 := zS c s9) rfl ?_
    refine zq_if1 (b := r8 = 0) rfl Iff.rfl rfl (fun g11 => ?_) (fun g11 => ?_)
    · rw [if_pos g11] at h
      refine zr_many 2 (pc' := 48) (L' := [some (.ref 161), some (.int x1), some (.int x2), some (.int r8)]) (st' := [.int (0 : Int32), .ref 161]) (S1 := zS c s9) rfl ?_
      refine zq_put (s' := (zsi s9 161 1 (0 : Int32))) rfl (zh_161 _) rfl rfl rfl rfl zsi_ne rfl ?_
      exact zr_wk [none, none, none, some (.int r8)] ⟨rfl, trivial⟩ (tX12_sings_J51 h)
    · rw [if_neg g11] at h
      refine zr_many 1 (pc' := 40) (L' := [some (.ref 161), some (.int x1), some (.int x2), some (.int r8)]) (st' := [.ref 161]) (S1 := zS c s9) rfl ?_
      obtain ⟨s16, g17, h⟩ := zp_inv h
      refine zq_call0 rfl rfl (zh_161 _) rfl rfl rfl ((tX12_tellsSung g17).up (by decide)) rfl ?_
      refine zr_many 1 (pc' := 51) (L' := [some (.ref 161), some (.int x1), some (.int x2), some (.int r8)]) (st' := []) (S1 := zS c s16) rfl ?_
      exact zr_wk [none, none, none, some (.int r8)] ⟨rfl, trivial⟩ (tX12_sings_J51 h)
  · rw [if_neg g4] at h
    refine zr_many 1 (pc' := 15) (L' := [some (.ref 161), some (.int x1), some (.int x2), none]) (st' := [.int (-1 : Int32)]) (S1 := zS c (zsi s 161 0 (0 : Int32))) rfl ?_
    obtain ⟨rfl, rfl⟩ := Prod.mk.inj (Option.some.inj h)
    exact zq_iret rfl
def fX12_lacks_J87 (n : Nat) (s : zs) (x1 : Int32) (x4 : Int32) (y0 : Int32) : Option ((Int32 × Int32 × zs) ⊕ (Int32 × zs)) := some (Sum.inl (y0, (x4 + (1 : Int32)), s))
theorem tX12_lacks_J87 {n : Nat} {c : Nat × Nat} {s : zs} {x1 : Int32} {x4 : Int32} {y0 : Int32} {o : _} {v : Option Value} {S' : zi_S} (h : fX12_lacks_J87 n s x1 x4 y0 = some o) (hn : ∀ w27, o = Sum.inl w27 → zr kX12_lacks 1 8 27 [some (.ref 161), some (.int x1), none, some (.int w27.1), some (.int w27.2.1), none] [] (zS c w27.2.2) v S') (hx : ∀ z, o = Sum.inr z → (fun z => zr kX12_lacks 1 8 94 [some (.ref 161), none, none, some (.int z.1), none, none] [] (zS c z.2) v S') z) : zr kX12_lacks 1 8 87 [some (.ref 161), some (.int x1), none, none, some (.int x4), none] [.int y0] (zS c s) v S' := by
  unfold fX12_lacks_J87 at h
  refine zr_many 3 (pc' := 27) (L' := [some (.ref 161), some (.int x1), none, some (.int y0), some (.int (x4 + (1 : Int32))), none]) (st' := []) (S1 := zS c s) rfl ?_
  obtain rfl := Option.some.inj h
  exact zr_wk [some (.ref 161), some (.int x1), none, some (.int y0), some (.int (x4 + (1 : Int32))), none] ⟨rfl, rfl, rfl, rfl, trivial⟩ (hn (y0, (x4 + (1 : Int32)), s) rfl)
def fX12_lacks_J86 (n : Nat) (s : zs) (x1 : Int32) (x3 : Int32) (x4 : Int32) : Option ((Int32 × Int32 × zs) ⊕ (Int32 × zs)) := fX12_lacks_J87 n s x1 x4 x3
theorem tX12_lacks_J86 {n : Nat} {c : Nat × Nat} {s : zs} {x1 : Int32} {x3 : Int32} {x4 : Int32} {o : _} {v : Option Value} {S' : zi_S} (h : fX12_lacks_J86 n s x1 x3 x4 = some o) (hn : ∀ w27, o = Sum.inl w27 → zr kX12_lacks 1 8 27 [some (.ref 161), some (.int x1), none, some (.int w27.1), some (.int w27.2.1), none] [] (zS c w27.2.2) v S') (hx : ∀ z, o = Sum.inr z → (fun z => zr kX12_lacks 1 8 94 [some (.ref 161), none, none, some (.int z.1), none, none] [] (zS c z.2) v S') z) : zr kX12_lacks 1 8 86 [some (.ref 161), some (.int x1), none, some (.int x3), some (.int x4), none] [] (zS c s) v S' := by
  unfold fX12_lacks_J86 at h
  refine zr_many 1 (pc' := 87) (L' := [some (.ref 161), some (.int x1), none, some (.int x3), some (.int x4), none]) (st' := [.int x3]) (S1 := zS c s) rfl ?_
  exact zr_wk [some (.ref 161), some (.int x1), none, none, some (.int x4), none] ⟨rfl, rfl, rfl, trivial⟩ (tX12_lacks_J87 h hn hx)
def fX12_lacks_J51 (n : Nat) (s : zs) (x1 : Int32) (x3 : Int32) (x4 : Int32) (y0 : Int32) : Option ((Int32 × Int32 × zs) ⊕ (Int32 × zs)) := if y0 = 0 then fX12_lacks_J86 n s x1 x3 x4 else zp (fX12_crew n s 169 x1) (fun r17 => zb (fX12_singsFrom n 6 s 169 r17 x4 (0 : Int32)) (fun r20 s21 => if r20 = 0 then fX12_lacks_J86 n s21 x1 x3 x4 else fX12_lacks_J87 n s21 x1 x4 x4))
theorem tX12_lacks_J51 {n : Nat} {c : Nat × Nat} {s : zs} {x1 : Int32} {x3 : Int32} {x4 : Int32} {y0 : Int32} {o : _} {v : Option Value} {S' : zi_S} (h : fX12_lacks_J51 n s x1 x3 x4 y0 = some o) (hn : ∀ w27, o = Sum.inl w27 → zr kX12_lacks 1 8 27 [some (.ref 161), some (.int x1), none, some (.int w27.1), some (.int w27.2.1), none] [] (zS c w27.2.2) v S') (hx : ∀ z, o = Sum.inr z → (fun z => zr kX12_lacks 1 8 94 [some (.ref 161), none, none, some (.int z.1), none, none] [] (zS c z.2) v S') z) : zr kX12_lacks 1 8 51 [some (.ref 161), some (.int x1), none, some (.int x3), some (.int x4), none] [.int y0] (zS c s) v S' := by
  unfold fX12_lacks_J51 at h
  refine zr_many 2 (pc' := 55) (L' := [some (.ref 161), some (.int x1), none, some (.int x3), some (.int x4), some (.int y0)]) (st' := [.int y0]) (S1 := zS c s) rfl ?_
  refine zq_if1 (b := y0 = 0) rfl Iff.rfl rfl (fun g16 => ?_) (fun g16 => ?_)
  · rw [if_pos g16] at h
    exact zr_wk [some (.ref 161), some (.int x1), none, some (.int x3), some (.int x4), none] ⟨rfl, rfl, rfl, rfl, trivial⟩ (tX12_lacks_J86 h hn hx)
  · rw [if_neg g16] at h
    refine zr_many 2 (pc' := 60) (L' := [some (.ref 161), some (.int x1), none, some (.int x3), some (.int x4), some (.int y0)]) (st' := [.ref 161, .ref 161]) (S1 := zS c s) rfl ?_
    refine zq_get rfl (zh_161 _) rfl rfl rfl ?_
    refine zr_many 2 (pc' := 65) (L' := [some (.ref 161), some (.int x1), none, some (.int x3), some (.int x4), some (.int y0)]) (st' := [.ref 161, .ref 161, .ref 169, .ref 161]) (S1 := zS c s) rfl ?_
    refine zq_get rfl (zh_161 _) rfl rfl rfl ?_
    refine zr_many 1 (pc' := 69) (L' := [some (.ref 161), some (.int x1), none, some (.int x3), some (.int x4), some (.int y0)]) (st' := [.int x1, .ref 169, .ref 161, .ref 169, .ref 161]) (S1 := zS c s) rfl ?_
    obtain ⟨r17, g19, h⟩ := zp_inv h
    refine zq_call1 rfl rfl (zh_161 _) rfl rfl rfl ((tX12_crew zR_n g19).up (by decide)) rfl ?_
    refine zr_many 2 (pc' := 75) (L' := [some (.ref 161), some (.int x1), none, some (.int x3), some (.int x4), some (.int y0)]) (st' := [.int (0 : Int32), .int x4, .int r17, .ref 169, .ref 161]) (S1 := zS c s) rfl ?_
    obtain ⟨r20, s21, g22, h⟩ := zb_inv h
    refine zq_call1 rfl rfl (zh_161 _) rfl rfl rfl (tX12_singsFrom zR_n g22) rfl ?_
    refine zq_if1 (b := r20 = 0) rfl Iff.rfl rfl (fun g23 => ?_) (fun g23 => ?_)
    · rw [if_pos g23] at h
      exact zr_wk [some (.ref 161), some (.int x1), none, some (.int x3), some (.int x4), none] ⟨rfl, rfl, rfl, rfl, trivial⟩ (tX12_lacks_J86 h hn hx)
    · rw [if_neg g23] at h
      refine zr_many 2 (pc' := 87) (L' := [some (.ref 161), some (.int x1), none, some (.int x3), some (.int x4), some (.int y0)]) (st' := [.int x4]) (S1 := zS c s21) rfl ?_
      exact zr_wk [some (.ref 161), some (.int x1), none, none, some (.int x4), none] ⟨rfl, rfl, rfl, trivial⟩ (tX12_lacks_J87 h hn hx)
def fX12_lacks_B27 (n : Nat) (x1 : Int32) (w27 : Int32 × Int32 × zs) : Option ((Int32 × Int32 × zs) ⊕ (Int32 × zs)) := if (16 : Int32) ≤ w27.2.1 then some (Sum.inr (w27.1, w27.2.2)) else zp (fJ6_bitCount_0f7a4 n w27.2.2 w27.2.1) (fun r9 => zp (fJ6_bitCount_0f7a4 n w27.2.2 w27.1) (fun r12 => if r9 ≤ r12 then fX12_lacks_J51 n w27.2.2 x1 w27.1 w27.2.1 (0 : Int32) else fX12_lacks_J51 n w27.2.2 x1 w27.1 w27.2.1 (1 : Int32)))
theorem tX12_lacks_B27 {n : Nat} {c : Nat × Nat} {x1 : Int32} {w27 : Int32 × Int32 × zs} {o : _} {v : Option Value} {S' : zi_S} (h : fX12_lacks_B27 n x1 w27 = some o) (hn : ∀ w27, o = Sum.inl w27 → zr kX12_lacks 1 8 27 [some (.ref 161), some (.int x1), none, some (.int w27.1), some (.int w27.2.1), none] [] (zS c w27.2.2) v S') (hx : ∀ z, o = Sum.inr z → (fun z => zr kX12_lacks 1 8 94 [some (.ref 161), none, none, some (.int z.1), none, none] [] (zS c z.2) v S') z) : zr kX12_lacks 1 8 27 [some (.ref 161), some (.int x1), none, some (.int w27.1), some (.int w27.2.1), none] [] (zS c w27.2.2) v S' := by
  unfold fX12_lacks_B27 at h
  refine zr_many 2 (pc' := 31) (L' := [some (.ref 161), some (.int x1), none, some (.int w27.1), some (.int w27.2.1), none]) (st' := [.int (16 : Int32), .int w27.2.1]) (S1 := zS c w27.2.2) rfl ?_
  refine zq_if2 (b := (16 : Int32) ≤ w27.2.1) rfl Iff.rfl rfl (fun g8 => ?_) (fun g8 => ?_)
  · rw [if_pos g8] at h
    obtain rfl := Option.some.inj h
    exact zr_wk [some (.ref 161), none, none, some (.int w27.1), none, none] ⟨rfl, rfl, trivial⟩ (hx (w27.1, w27.2.2) rfl)
  · rw [if_neg g8] at h
    refine zr_many 1 (pc' := 36) (L' := [some (.ref 161), some (.int x1), none, some (.int w27.1), some (.int w27.2.1), none]) (st' := [.int w27.2.1]) (S1 := zS c w27.2.2) rfl ?_
    obtain ⟨r9, g11, h⟩ := zp_inv h
    refine zq_scall1 rfl (by decide) rfl rfl ((tJ6_bitCount_0f7a4 g11).up (by decide)) rfl ?_
    refine zr_many 1 (pc' := 40) (L' := [some (.ref 161), some (.int x1), none, some (.int w27.1), some (.int w27.2.1), none]) (st' := [.int w27.1, .int r9]) (S1 := zS c w27.2.2) rfl ?_
    obtain ⟨r12, g14, h⟩ := zp_inv h
    refine zq_scall1 rfl (by decide) rfl rfl ((tJ6_bitCount_0f7a4 g14).up (by decide)) rfl ?_
    refine zq_if2 (b := r9 ≤ r12) rfl Iff.rfl rfl (fun g15 => ?_) (fun g15 => ?_)
    · rw [if_pos g15] at h
      refine zr_many 1 (pc' := 51) (L' := [some (.ref 161), some (.int x1), none, some (.int w27.1), some (.int w27.2.1), none]) (st' := [.int (0 : Int32)]) (S1 := zS c w27.2.2) rfl ?_
      exact zr_wk [some (.ref 161), some (.int x1), none, some (.int w27.1), some (.int w27.2.1), none] ⟨rfl, rfl, rfl, rfl, trivial⟩ (tX12_lacks_J51 h hn hx)
    · rw [if_neg g15] at h
      refine zr_many 2 (pc' := 51) (L' := [some (.ref 161), some (.int x1), none, some (.int w27.1), some (.int w27.2.1), none]) (st' := [.int (1 : Int32)]) (S1 := zS c w27.2.2) rfl ?_
      exact zr_wk [some (.ref 161), some (.int x1), none, some (.int w27.1), some (.int w27.2.1), none] ⟨rfl, rfl, rfl, rfl, trivial⟩ (tX12_lacks_J51 h hn hx)
def fX12_lacks (n : Nat) (s : zs) (x1 : Int32) (x2 : Int32) : Option (Int32 × zs) := zp (fX12_isPair n (zsi s 161 0 (0 : Int32)) x1 x2) (fun r1 => if ¬ r1 = 0 then zp (fX12_laysNotes n (zsi s 161 0 (0 : Int32)) x2 (0 : Int32)) (fun s6 => zp (zl (fX12_lacks_B27 n x1) n ((0 : Int32), (1 : Int32), s6)) (fun w24 => zp (fX12_enters n (zsi w24.2 161 1 (0 : Int32)) w24.1.toInt64) (fun s26 => zp (fJ6_bitCount_0f7a4 n s26 w24.1) (fun r28 => some (r28, s26))))) else some ((-1 : Int32), (zsi s 161 0 (0 : Int32))))
theorem tX12_lacks {n : Nat} {c : Nat × Nat} {s : zs} {x1 : Int32} {x2 : Int32} {r : Int32} {s' : zs} (h : fX12_lacks n s x1 x2 = some (r, s')) : zc 9 2472 [.ref 161, .int x1, .int x2] (zS c s) (some (.int r)) (zS c s') := by
  refine zc_of (k := kX12_lacks) (rt := 1) (L := [some (.ref 161), some (.int x1), some (.int x2), none, none, none]) zm_2472.1 rfl rfl (by decide) rfl rfl ?_
  unfold fX12_lacks at h
  refine zr_many 2 (pc' := 2) (L' := [some (.ref 161), some (.int x1), some (.int x2), none, none, none]) (st' := [.int (0 : Int32), .ref 161]) (S1 := zS c s) rfl ?_
  refine zq_put (s' := (zsi s 161 0 (0 : Int32))) rfl (zh_161 _) rfl rfl rfl rfl zsi_ne rfl ?_
  refine zr_many 3 (pc' := 8) (L' := [some (.ref 161), some (.int x1), some (.int x2), none, none, none]) (st' := [.int x2, .int x1, .ref 161]) (S1 := zS c (zsi s 161 0 (0 : Int32))) rfl ?_
  obtain ⟨r1, g3, h⟩ := zp_inv h
  refine zq_call1 rfl rfl (zh_161 _) rfl rfl rfl ((tX12_isPair g3).up (by decide)) rfl ?_
  refine zq_if1 (b := ¬ r1 = 0) rfl Iff.rfl rfl (fun g4 => ?_) (fun g4 => ?_)
  · rw [if_pos g4] at h
    refine zr_many 3 (pc' := 19) (L' := [some (.ref 161), some (.int x1), some (.int x2), none, none, none]) (st' := [.int (0 : Int32), .int x2, .ref 161]) (S1 := zS c (zsi s 161 0 (0 : Int32))) rfl ?_
    obtain ⟨s6, g7, h⟩ := zp_inv h
    refine zq_call0 rfl rfl (zh_161 _) rfl rfl rfl ((tX12_laysNotes g7).up (by decide)) rfl ?_
    refine zr_many 4 (pc' := 27) (L' := [some (.ref 161), some (.int x1), some (.int x2), some (.int (0 : Int32)), some (.int (1 : Int32)), none]) (st' := []) (S1 := zS c s6) rfl ?_
    obtain ⟨w24, g31, h⟩ := zp_inv h
    refine zr_wk [some (.ref 161), some (.int x1), none, some (.int (0 : Int32)), some (.int (1 : Int32)), none] ⟨rfl, rfl, rfl, rfl, trivial⟩ (zl_cert (Z := fun w27 => zr kX12_lacks 1 8 27 [some (.ref 161), some (.int x1), none, some (.int w27.1), some (.int w27.2.1), none] [] (zS c w27.2.2) _ _) (Y := (fun z => zr kX12_lacks 1 8 94 [some (.ref 161), none, none, some (.int z.1), none, none] [] (zS c z.2) _ _)) (fun w o h1 h2 h3 => tX12_lacks_B27 h1 h2 h3) n _ _ g31 ?_)
    show zr kX12_lacks 1 8 94 [some (.ref 161), none, none, some (.int w24.1), none, none] [] (zS c w24.2) _ _
    refine zr_many 2 (pc' := 96) (L' := [some (.ref 161), none, none, some (.int w24.1), none, none]) (st' := [.int (0 : Int32), .ref 161]) (S1 := zS c w24.2) rfl ?_
    refine zq_put (s' := (zsi w24.2 161 1 (0 : Int32))) rfl (zh_161 _) rfl rfl rfl rfl zsi_ne rfl ?_
    refine zr_many 3 (pc' := 102) (L' := [some (.ref 161), none, none, some (.int w24.1), none, none]) (st' := [.long w24.1.toInt64, .ref 161]) (S1 := zS c (zsi w24.2 161 1 (0 : Int32))) rfl ?_
    obtain ⟨s26, g27, h⟩ := zp_inv h
    refine zq_call0 rfl rfl (zh_161 _) rfl rfl rfl ((tX12_enters g27).up (by decide)) rfl ?_
    refine zr_many 1 (pc' := 106) (L' := [some (.ref 161), none, none, some (.int w24.1), none, none]) (st' := [.int w24.1]) (S1 := zS c s26) rfl ?_
    obtain ⟨r28, g30, h⟩ := zp_inv h
    refine zq_scall1 rfl (by decide) rfl rfl ((tJ6_bitCount_0f7a4 g30).up (by decide)) rfl ?_
    obtain ⟨rfl, rfl⟩ := Prod.mk.inj (Option.some.inj h)
    exact zq_iret rfl
  · rw [if_neg g4] at h
    refine zr_many 1 (pc' := 15) (L' := [some (.ref 161), some (.int x1), some (.int x2), none, none, none]) (st' := [.int (-1 : Int32)]) (S1 := zS c (zsi s 161 0 (0 : Int32))) rfl ?_
    obtain ⟨rfl, rfl⟩ := Prod.mk.inj (Option.some.inj h)
    exact zq_iret rfl
def fX12_spoils_J102 (n : Nat) (s : zs) (x2 : Int32) (x3 : Int32) (x5 : Int32) (y0 : Int32) : Option ((Int32 × Int32 × zs) ⊕ (Int32 × zs)) := some (Sum.inl (y0, (x5 + (1 : Int32)), s))
theorem tX12_spoils_J102 {n : Nat} {c : Nat × Nat} {s : zs} {x2 : Int32} {x3 : Int32} {x5 : Int32} {y0 : Int32} {o : _} {v : Option Value} {S' : zi_S} (h : fX12_spoils_J102 n s x2 x3 x5 y0 = some o) (hn : ∀ w32, o = Sum.inl w32 → zr kX12_spoils 1 9 32 [some (.ref 161), none, some (.int x2), some (.int x3), some (.int w32.1), some (.int w32.2.1), none] [] (zS c w32.2.2) v S') (hx : ∀ z, o = Sum.inr z → (fun z => zr kX12_spoils 1 9 110 [some (.ref 161), none, none, none, some (.int z.1), none, none] [] (zS c z.2) v S') z) : zr kX12_spoils 1 9 102 [some (.ref 161), none, some (.int x2), some (.int x3), none, some (.int x5), none] [.int y0] (zS c s) v S' := by
  unfold fX12_spoils_J102 at h
  refine zr_many 3 (pc' := 32) (L' := [some (.ref 161), none, some (.int x2), some (.int x3), some (.int y0), some (.int (x5 + (1 : Int32))), none]) (st' := []) (S1 := zS c s) rfl ?_
  obtain rfl := Option.some.inj h
  exact zr_wk [some (.ref 161), none, some (.int x2), some (.int x3), some (.int y0), some (.int (x5 + (1 : Int32))), none] ⟨rfl, rfl, rfl, rfl, rfl, trivial⟩ (hn (y0, (x5 + (1 : Int32)), s) rfl)
def fX12_spoils_J100 (n : Nat) (s : zs) (x2 : Int32) (x3 : Int32) (x4 : Int32) (x5 : Int32) : Option ((Int32 × Int32 × zs) ⊕ (Int32 × zs)) := fX12_spoils_J102 n s x2 x3 x5 x4
theorem tX12_spoils_J100 {n : Nat} {c : Nat × Nat} {s : zs} {x2 : Int32} {x3 : Int32} {x4 : Int32} {x5 : Int32} {o : _} {v : Option Value} {S' : zi_S} (h : fX12_spoils_J100 n s x2 x3 x4 x5 = some o) (hn : ∀ w32, o = Sum.inl w32 → zr kX12_spoils 1 9 32 [some (.ref 161), none, some (.int x2), some (.int x3), some (.int w32.1), some (.int w32.2.1), none] [] (zS c w32.2.2) v S') (hx : ∀ z, o = Sum.inr z → (fun z => zr kX12_spoils 1 9 110 [some (.ref 161), none, none, none, some (.int z.1), none, none] [] (zS c z.2) v S') z) : zr kX12_spoils 1 9 100 [some (.ref 161), none, some (.int x2), some (.int x3), some (.int x4), some (.int x5), none] [] (zS c s) v S' := by
  unfold fX12_spoils_J100 at h
  refine zr_many 1 (pc' := 102) (L' := [some (.ref 161), none, some (.int x2), some (.int x3), some (.int x4), some (.int x5), none]) (st' := [.int x4]) (S1 := zS c s) rfl ?_
  exact zr_wk [some (.ref 161), none, some (.int x2), some (.int x3), none, some (.int x5), none] ⟨rfl, rfl, rfl, rfl, trivial⟩ (tX12_spoils_J102 h hn hx)
def fX12_spoils_J61 (n : Nat) (s : zs) (x2 : Int32) (x3 : Int32) (x4 : Int32) (x5 : Int32) (y0 : Int32) : Option ((Int32 × Int32 × zs) ⊕ (Int32 × zs)) := if y0 = 0 then fX12_spoils_J100 n s x2 x3 x4 x5 else if ¬ (x5 &&& (x3 ^^^ (-1 : Int32))) = 0 then fX12_spoils_J100 n s x2 x3 x4 x5 else zb (fX12_singsChord n s 169 (x3 &&& (x5 ^^^ (-1 : Int32))) x2) (fun r12 s13 => if ¬ r12 = 0 then fX12_spoils_J100 n s13 x2 x3 x4 x5 else fX12_spoils_J102 n s13 x2 x3 x5 x5)
theorem tX12_spoils_J61 {n : Nat} {c : Nat × Nat} {s : zs} {x2 : Int32} {x3 : Int32} {x4 : Int32} {x5 : Int32} {y0 : Int32} {o : _} {v : Option Value} {S' : zi_S} (h : fX12_spoils_J61 n s x2 x3 x4 x5 y0 = some o) (hn : ∀ w32, o = Sum.inl w32 → zr kX12_spoils 1 9 32 [some (.ref 161), none, some (.int x2), some (.int x3), some (.int w32.1), some (.int w32.2.1), none] [] (zS c w32.2.2) v S') (hx : ∀ z, o = Sum.inr z → (fun z => zr kX12_spoils 1 9 110 [some (.ref 161), none, none, none, some (.int z.1), none, none] [] (zS c z.2) v S') z) : zr kX12_spoils 1 9 61 [some (.ref 161), none, some (.int x2), some (.int x3), some (.int x4), some (.int x5), none] [.int y0] (zS c s) v S' := by
  unfold fX12_spoils_J61 at h
  refine zr_many 2 (pc' := 65) (L' := [some (.ref 161), none, some (.int x2), some (.int x3), some (.int x4), some (.int x5), some (.int y0)]) (st' := [.int y0]) (S1 := zS c s) rfl ?_
  refine zq_if1 (b := y0 = 0) rfl Iff.rfl rfl (fun g10 => ?_) (fun g10 => ?_)
  · rw [if_pos g10] at h
    exact zr_wk [some (.ref 161), none, some (.int x2), some (.int x3), some (.int x4), some (.int x5), none] ⟨rfl, rfl, rfl, rfl, rfl, trivial⟩ (tX12_spoils_J100 h hn hx)
  · rw [if_neg g10] at h
    refine zr_many 5 (pc' := 74) (L' := [some (.ref 161), none, some (.int x2), some (.int x3), some (.int x4), some (.int x5), some (.int y0)]) (st' := [.int (x5 &&& (x3 ^^^ (-1 : Int32)))]) (S1 := zS c s) rfl ?_
    refine zq_if1 (b := ¬ (x5 &&& (x3 ^^^ (-1 : Int32))) = 0) rfl Iff.rfl rfl (fun g11 => ?_) (fun g11 => ?_)
    · rw [if_pos g11] at h
      exact zr_wk [some (.ref 161), none, some (.int x2), some (.int x3), some (.int x4), some (.int x5), none] ⟨rfl, rfl, rfl, rfl, rfl, trivial⟩ (tX12_spoils_J100 h hn hx)
    · rw [if_neg g11] at h
      refine zr_many 2 (pc' := 79) (L' := [some (.ref 161), none, some (.int x2), some (.int x3), some (.int x4), some (.int x5), some (.int y0)]) (st' := [.ref 161, .ref 161]) (S1 := zS c s) rfl ?_
      refine zq_get rfl (zh_161 _) rfl rfl rfl ?_
      refine zr_many 6 (pc' := 89) (L' := [some (.ref 161), none, some (.int x2), some (.int x3), some (.int x4), some (.int x5), some (.int y0)]) (st' := [.int x2, .int (x3 &&& (x5 ^^^ (-1 : Int32))), .ref 169, .ref 161]) (S1 := zS c s) rfl ?_
      obtain ⟨r12, s13, g14, h⟩ := zb_inv h
      refine zq_call1 rfl rfl (zh_161 _) rfl rfl rfl (tX12_singsChord zR_n g14) rfl ?_
      refine zq_if1 (b := ¬ r12 = 0) rfl Iff.rfl rfl (fun g15 => ?_) (fun g15 => ?_)
      · rw [if_pos g15] at h
        exact zr_wk [some (.ref 161), none, some (.int x2), some (.int x3), some (.int x4), some (.int x5), none] ⟨rfl, rfl, rfl, rfl, rfl, trivial⟩ (tX12_spoils_J100 h hn hx)
      · rw [if_neg g15] at h
        refine zr_many 2 (pc' := 102) (L' := [some (.ref 161), none, some (.int x2), some (.int x3), some (.int x4), some (.int x5), some (.int y0)]) (st' := [.int x5]) (S1 := zS c s13) rfl ?_
        exact zr_wk [some (.ref 161), none, some (.int x2), some (.int x3), none, some (.int x5), none] ⟨rfl, rfl, rfl, rfl, trivial⟩ (tX12_spoils_J102 h hn hx)
def fX12_spoils_J56 (n : Nat) (s : zs) (x2 : Int32) (x3 : Int32) (x4 : Int32) (x5 : Int32) : Option ((Int32 × Int32 × zs) ⊕ (Int32 × zs)) := fX12_spoils_J61 n s x2 x3 x4 x5 (1 : Int32)
theorem tX12_spoils_J56 {n : Nat} {c : Nat × Nat} {s : zs} {x2 : Int32} {x3 : Int32} {x4 : Int32} {x5 : Int32} {o : _} {v : Option Value} {S' : zi_S} (h : fX12_spoils_J56 n s x2 x3 x4 x5 = some o) (hn : ∀ w32, o = Sum.inl w32 → zr kX12_spoils 1 9 32 [some (.ref 161), none, some (.int x2), some (.int x3), some (.int w32.1), some (.int w32.2.1), none] [] (zS c w32.2.2) v S') (hx : ∀ z, o = Sum.inr z → (fun z => zr kX12_spoils 1 9 110 [some (.ref 161), none, none, none, some (.int z.1), none, none] [] (zS c z.2) v S') z) : zr kX12_spoils 1 9 56 [some (.ref 161), none, some (.int x2), some (.int x3), some (.int x4), some (.int x5), none] [] (zS c s) v S' := by
  unfold fX12_spoils_J56 at h
  refine zr_many 2 (pc' := 61) (L' := [some (.ref 161), none, some (.int x2), some (.int x3), some (.int x4), some (.int x5), none]) (st' := [.int (1 : Int32)]) (S1 := zS c s) rfl ?_
  exact zr_wk [some (.ref 161), none, some (.int x2), some (.int x3), some (.int x4), some (.int x5), none] ⟨rfl, rfl, rfl, rfl, rfl, trivial⟩ (tX12_spoils_J61 h hn hx)
def fX12_spoils_B32 (n : Nat) (x2 : Int32) (x3 : Int32) (w32 : Int32 × Int32 × zs) : Option ((Int32 × Int32 × zs) ⊕ (Int32 × zs)) := if x3 < w32.2.1 then some (Sum.inr (w32.1, w32.2.2)) else if w32.1 < 0 then fX12_spoils_J56 n w32.2.2 x2 x3 w32.1 w32.2.1 else zp (fJ6_bitCount_0f7a4 n w32.2.2 w32.2.1) (fun r16 => zp (fJ6_bitCount_0f7a4 n w32.2.2 w32.1) (fun r19 => if r19 ≤ r16 then fX12_spoils_J61 n w32.2.2 x2 x3 w32.1 w32.2.1 (0 : Int32) else fX12_spoils_J56 n w32.2.2 x2 x3 w32.1 w32.2.1))
theorem tX12_spoils_B32 {n : Nat} {c : Nat × Nat} {x2 : Int32} {x3 : Int32} {w32 : Int32 × Int32 × zs} {o : _} {v : Option Value} {S' : zi_S} (h : fX12_spoils_B32 n x2 x3 w32 = some o) (hn : ∀ w32, o = Sum.inl w32 → zr kX12_spoils 1 9 32 [some (.ref 161), none, some (.int x2), some (.int x3), some (.int w32.1), some (.int w32.2.1), none] [] (zS c w32.2.2) v S') (hx : ∀ z, o = Sum.inr z → (fun z => zr kX12_spoils 1 9 110 [some (.ref 161), none, none, none, some (.int z.1), none, none] [] (zS c z.2) v S') z) : zr kX12_spoils 1 9 32 [some (.ref 161), none, some (.int x2), some (.int x3), some (.int w32.1), some (.int w32.2.1), none] [] (zS c w32.2.2) v S' := by
  unfold fX12_spoils_B32 at h
  refine zr_many 2 (pc' := 35) (L' := [some (.ref 161), none, some (.int x2), some (.int x3), some (.int w32.1), some (.int w32.2.1), none]) (st' := [.int x3, .int w32.2.1]) (S1 := zS c w32.2.2) rfl ?_
  refine zq_if2 (b := x3 < w32.2.1) rfl Iff.rfl rfl (fun g8 => ?_) (fun g8 => ?_)
  · rw [if_pos g8] at h
    obtain rfl := Option.some.inj h
    exact zr_wk [some (.ref 161), none, none, none, some (.int w32.1), none, none] ⟨rfl, rfl, trivial⟩ (hx (w32.1, w32.2.2) rfl)
  · rw [if_neg g8] at h
    refine zr_many 1 (pc' := 40) (L' := [some (.ref 161), none, some (.int x2), some (.int x3), some (.int w32.1), some (.int w32.2.1), none]) (st' := [.int w32.1]) (S1 := zS c w32.2.2) rfl ?_
    refine zq_if1 (b := w32.1 < 0) rfl Iff.rfl rfl (fun g9 => ?_) (fun g9 => ?_)
    · rw [if_pos g9] at h
      exact zr_wk [some (.ref 161), none, some (.int x2), some (.int x3), some (.int w32.1), some (.int w32.2.1), none] ⟨rfl, rfl, rfl, rfl, rfl, trivial⟩ (tX12_spoils_J56 h hn hx)
    · rw [if_neg g9] at h
      refine zr_many 1 (pc' := 45) (L' := [some (.ref 161), none, some (.int x2), some (.int x3), some (.int w32.1), some (.int w32.2.1), none]) (st' := [.int w32.2.1]) (S1 := zS c w32.2.2) rfl ?_
      obtain ⟨r16, g18, h⟩ := zp_inv h
      refine zq_scall1 rfl (by decide) rfl rfl ((tJ6_bitCount_0f7a4 g18).up (by decide)) rfl ?_
      refine zr_many 1 (pc' := 50) (L' := [some (.ref 161), none, some (.int x2), some (.int x3), some (.int w32.1), some (.int w32.2.1), none]) (st' := [.int w32.1, .int r16]) (S1 := zS c w32.2.2) rfl ?_
      obtain ⟨r19, g21, h⟩ := zp_inv h
      refine zq_scall1 rfl (by decide) rfl rfl ((tJ6_bitCount_0f7a4 g21).up (by decide)) rfl ?_
      refine zq_if2 (b := r19 ≤ r16) rfl Iff.rfl rfl (fun g22 => ?_) (fun g22 => ?_)
      · rw [if_pos g22] at h
        refine zr_many 1 (pc' := 61) (L' := [some (.ref 161), none, some (.int x2), some (.int x3), some (.int w32.1), some (.int w32.2.1), none]) (st' := [.int (0 : Int32)]) (S1 := zS c w32.2.2) rfl ?_
        exact zr_wk [some (.ref 161), none, some (.int x2), some (.int x3), some (.int w32.1), some (.int w32.2.1), none] ⟨rfl, rfl, rfl, rfl, rfl, trivial⟩ (tX12_spoils_J61 h hn hx)
      · rw [if_neg g22] at h
        exact zr_wk [some (.ref 161), none, some (.int x2), some (.int x3), some (.int w32.1), some (.int w32.2.1), none] ⟨rfl, rfl, rfl, rfl, rfl, trivial⟩ (tX12_spoils_J56 h hn hx)
def fX12_spoils (n : Nat) (s : zs) (x1 : Int32) (x2 : Int32) : Option (Int32 × zs) := zp (fX12_isPair n (zsi s 161 0 (0 : Int32)) x1 x2) (fun r1 => if ¬ r1 = 0 then zp (fX12_crew n (zsi s 161 0 (0 : Int32)) 169 x1) (fun r5 => zp (zl (fX12_spoils_B32 n x2 r5) n ((-1 : Int32), (0 : Int32), (zsi s 161 0 (0 : Int32)))) (fun w23 => zp (fX12_enters n (zsi w23.2 161 1 (0 : Int32)) w23.1.toInt64) (fun s25 => zp (fJ6_bitCount_0f7a4 n s25 w23.1) (fun r27 => some (r27, s25))))) else some ((-1 : Int32), (zsi s 161 0 (0 : Int32))))
theorem tX12_spoils {n : Nat} {c : Nat × Nat} {s : zs} {x1 : Int32} {x2 : Int32} {r : Int32} {s' : zs} (h : fX12_spoils n s x1 x2 = some (r, s')) : zc 10 2473 [.ref 161, .int x1, .int x2] (zS c s) (some (.int r)) (zS c s') := by
  refine zc_of (k := kX12_spoils) (rt := 1) (L := [some (.ref 161), some (.int x1), some (.int x2), none, none, none, none]) zm_2473.1 rfl rfl (by decide) rfl rfl ?_
  unfold fX12_spoils at h
  refine zr_many 2 (pc' := 2) (L' := [some (.ref 161), some (.int x1), some (.int x2), none, none, none, none]) (st' := [.int (0 : Int32), .ref 161]) (S1 := zS c s) rfl ?_
  refine zq_put (s' := (zsi s 161 0 (0 : Int32))) rfl (zh_161 _) rfl rfl rfl rfl zsi_ne rfl ?_
  refine zr_many 3 (pc' := 8) (L' := [some (.ref 161), some (.int x1), some (.int x2), none, none, none, none]) (st' := [.int x2, .int x1, .ref 161]) (S1 := zS c (zsi s 161 0 (0 : Int32))) rfl ?_
  obtain ⟨r1, g3, h⟩ := zp_inv h
  refine zq_call1 rfl rfl (zh_161 _) rfl rfl rfl ((tX12_isPair g3).up (by decide)) rfl ?_
  refine zq_if1 (b := ¬ r1 = 0) rfl Iff.rfl rfl (fun g4 => ?_) (fun g4 => ?_)
  · rw [if_pos g4] at h
    refine zr_many 2 (pc' := 18) (L' := [some (.ref 161), some (.int x1), some (.int x2), none, none, none, none]) (st' := [.ref 161, .ref 161]) (S1 := zS c (zsi s 161 0 (0 : Int32))) rfl ?_
    refine zq_get rfl (zh_161 _) rfl rfl rfl ?_
    refine zr_many 1 (pc' := 22) (L' := [some (.ref 161), some (.int x1), some (.int x2), none, none, none, none]) (st' := [.int x1, .ref 169, .ref 161]) (S1 := zS c (zsi s 161 0 (0 : Int32))) rfl ?_
    obtain ⟨r5, g7, h⟩ := zp_inv h
    refine zq_call1 rfl rfl (zh_161 _) rfl rfl rfl ((tX12_crew zR_n g7).up (by decide)) rfl ?_
    refine zr_many 5 (pc' := 32) (L' := [some (.ref 161), some (.int x1), some (.int x2), some (.int r5), some (.int (-1 : Int32)), some (.int (0 : Int32)), none]) (st' := []) (S1 := zS c (zsi s 161 0 (0 : Int32))) rfl ?_
    obtain ⟨w23, g30, h⟩ := zp_inv h
    refine zr_wk [some (.ref 161), none, some (.int x2), some (.int r5), some (.int (-1 : Int32)), some (.int (0 : Int32)), none] ⟨rfl, rfl, rfl, rfl, rfl, trivial⟩ (zl_cert (Z := fun w32 => zr kX12_spoils 1 9 32 [some (.ref 161), none, some (.int x2), some (.int r5), some (.int w32.1), some (.int w32.2.1), none] [] (zS c w32.2.2) _ _) (Y := (fun z => zr kX12_spoils 1 9 110 [some (.ref 161), none, none, none, some (.int z.1), none, none] [] (zS c z.2) _ _)) (fun w o h1 h2 h3 => tX12_spoils_B32 h1 h2 h3) n _ _ g30 ?_)
    show zr kX12_spoils 1 9 110 [some (.ref 161), none, none, none, some (.int w23.1), none, none] [] (zS c w23.2) _ _
    refine zr_many 2 (pc' := 112) (L' := [some (.ref 161), none, none, none, some (.int w23.1), none, none]) (st' := [.int (0 : Int32), .ref 161]) (S1 := zS c w23.2) rfl ?_
    refine zq_put (s' := (zsi w23.2 161 1 (0 : Int32))) rfl (zh_161 _) rfl rfl rfl rfl zsi_ne rfl ?_
    refine zr_many 3 (pc' := 119) (L' := [some (.ref 161), none, none, none, some (.int w23.1), none, none]) (st' := [.long w23.1.toInt64, .ref 161]) (S1 := zS c (zsi w23.2 161 1 (0 : Int32))) rfl ?_
    obtain ⟨s25, g26, h⟩ := zp_inv h
    refine zq_call0 rfl rfl (zh_161 _) rfl rfl rfl ((tX12_enters g26).up (by decide)) rfl ?_
    refine zr_many 1 (pc' := 124) (L' := [some (.ref 161), none, none, none, some (.int w23.1), none, none]) (st' := [.int w23.1]) (S1 := zS c s25) rfl ?_
    obtain ⟨r27, g29, h⟩ := zp_inv h
    refine zq_scall1 rfl (by decide) rfl rfl ((tJ6_bitCount_0f7a4 g29).up (by decide)) rfl ?_
    obtain ⟨rfl, rfl⟩ := Prod.mk.inj (Option.some.inj h)
    exact zq_iret rfl
  · rw [if_neg g4] at h
    refine zr_many 1 (pc' := 15) (L' := [some (.ref 161), some (.int x1), some (.int x2), none, none, none, none]) (st' := [.int (-1 : Int32)]) (S1 := zS c (zsi s 161 0 (0 : Int32))) rfl ?_
    obtain ⟨rfl, rfl⟩ := Prod.mk.inj (Option.some.inj h)
    exact zq_iret rfl
def fX12_isShift_J46 (n : Nat) (s : zs) (x1 : Int32) (x5 : Int32) (y0 : Int32) : Option ((Int32 × Int32) ⊕ (Int32)) := some (Sum.inl (y0, (x5 + (1 : Int32))))
theorem tX12_isShift_J46 {n : Nat} {c : Nat × Nat} {s : zs} {x1 : Int32} {x5 : Int32} {y0 : Int32} {o : _} {v : Option Value} {S' : zi_S} (h : fX12_isShift_J46 n s x1 x5 y0 = some o) (hn : ∀ w12, o = Sum.inl w12 → zr kX12_isShift 2 8 12 [some (.ref 161), some (.int x1), none, none, some (.int w12.1), some (.int w12.2)] [] (zS c s) v S') (hx : ∀ z, o = Sum.inr z → (fun z => zr kX12_isShift 2 8 54 [some (.ref 161), some (.int x1), none, none, some (.int z), none] [] (zS c s) v S') z) : zr kX12_isShift 2 8 46 [some (.ref 161), some (.int x1), none, none, none, some (.int x5)] [.int y0] (zS c s) v S' := by
  unfold fX12_isShift_J46 at h
  refine zr_many 3 (pc' := 12) (L' := [some (.ref 161), some (.int x1), none, none, some (.int y0), some (.int (x5 + (1 : Int32)))]) (st' := []) (S1 := zS c s) rfl ?_
  obtain rfl := Option.some.inj h
  exact zr_wk [some (.ref 161), some (.int x1), none, none, some (.int y0), some (.int (x5 + (1 : Int32)))] ⟨rfl, rfl, rfl, rfl, trivial⟩ (hn (y0, (x5 + (1 : Int32))) rfl)
def fX12_isShift_J45 (n : Nat) (s : zs) (x1 : Int32) (x5 : Int32) : Option ((Int32 × Int32) ⊕ (Int32)) := fX12_isShift_J46 n s x1 x5 (0 : Int32)
theorem tX12_isShift_J45 {n : Nat} {c : Nat × Nat} {s : zs} {x1 : Int32} {x5 : Int32} {o : _} {v : Option Value} {S' : zi_S} (h : fX12_isShift_J45 n s x1 x5 = some o) (hn : ∀ w12, o = Sum.inl w12 → zr kX12_isShift 2 8 12 [some (.ref 161), some (.int x1), none, none, some (.int w12.1), some (.int w12.2)] [] (zS c s) v S') (hx : ∀ z, o = Sum.inr z → (fun z => zr kX12_isShift 2 8 54 [some (.ref 161), some (.int x1), none, none, some (.int z), none] [] (zS c s) v S') z) : zr kX12_isShift 2 8 45 [some (.ref 161), some (.int x1), none, none, none, some (.int x5)] [] (zS c s) v S' := by
  unfold fX12_isShift_J45 at h
  refine zr_many 1 (pc' := 46) (L' := [some (.ref 161), some (.int x1), none, none, none, some (.int x5)]) (st' := [.int (0 : Int32)]) (S1 := zS c s) rfl ?_
  exact zr_wk [some (.ref 161), some (.int x1), none, none, none, some (.int x5)] ⟨rfl, rfl, rfl, trivial⟩ (tX12_isShift_J46 h hn hx)
def fX12_isShift_B12 (n : Nat) (s : zs) (x1 : Int32) (w12 : Int32 × Int32) : Option ((Int32 × Int32) ⊕ (Int32)) := if (4 : Int32) ≤ w12.2 then some (Sum.inr w12.1) else if w12.1 = 0 then fX12_isShift_J45 n s x1 w12.2 else cond (zi_in w12.2 4) (zp (fX12_in n s ((s.1 177 w12.2.toNatClampNeg).toInt64) (0 : Int64) (25 : Int64)) (fun r7 => if r7 = 0 then fX12_isShift_J45 n s x1 w12.2 else fX12_isShift_J46 n s x1 w12.2 (1 : Int32))) none
theorem tX12_isShift_B12 {n : Nat} {c : Nat × Nat} {s : zs} {x1 : Int32} {w12 : Int32 × Int32} {o : _} {v : Option Value} {S' : zi_S} (h : fX12_isShift_B12 n s x1 w12 = some o) (hn : ∀ w12, o = Sum.inl w12 → zr kX12_isShift 2 8 12 [some (.ref 161), some (.int x1), none, none, some (.int w12.1), some (.int w12.2)] [] (zS c s) v S') (hx : ∀ z, o = Sum.inr z → (fun z => zr kX12_isShift 2 8 54 [some (.ref 161), some (.int x1), none, none, some (.int z), none] [] (zS c s) v S') z) : zr kX12_isShift 2 8 12 [some (.ref 161), some (.int x1), none, none, some (.int w12.1), some (.int w12.2)] [] (zS c s) v S' := by
  unfold fX12_isShift_B12 at h
  refine zr_many 2 (pc' := 15) (L' := [some (.ref 161), some (.int x1), none, none, some (.int w12.1), some (.int w12.2)]) (st' := [.int (4 : Int32), .int w12.2]) (S1 := zS c s) rfl ?_
  refine zq_if2 (b := (4 : Int32) ≤ w12.2) rfl Iff.rfl rfl (fun g4 => ?_) (fun g4 => ?_)
  · rw [if_pos g4] at h
    obtain rfl := Option.some.inj h
    exact zr_wk [some (.ref 161), some (.int x1), none, none, some (.int w12.1), none] ⟨rfl, rfl, rfl, trivial⟩ (hx w12.1 rfl)
  · rw [if_neg g4] at h
    refine zr_many 1 (pc' := 20) (L' := [some (.ref 161), some (.int x1), none, none, some (.int w12.1), some (.int w12.2)]) (st' := [.int w12.1]) (S1 := zS c s) rfl ?_
    refine zq_if1 (b := w12.1 = 0) rfl Iff.rfl rfl (fun g5 => ?_) (fun g5 => ?_)
    · rw [if_pos g5] at h
      exact zr_wk [some (.ref 161), some (.int x1), none, none, none, some (.int w12.2)] ⟨rfl, rfl, rfl, trivial⟩ (tX12_isShift_J45 h hn hx)
    · rw [if_neg g5] at h
      refine zr_many 1 (pc' := 24) (L' := [some (.ref 161), some (.int x1), none, none, some (.int w12.1), some (.int w12.2)]) (st' := [.ref 161]) (S1 := zS c s) rfl ?_
      refine zq_get rfl (zh_161 _) rfl rfl rfl ?_
      refine zr_many 1 (pc' := 29) (L' := [some (.ref 161), some (.int x1), none, none, some (.int w12.1), some (.int w12.2)]) (st' := [.int w12.2, .ref 177]) (S1 := zS c s) rfl ?_
      obtain ⟨g6, h⟩ := zi_cond_inv h
      refine zq_ild rfl (zh_177 _) rfl g6 rfl ?_
      refine zr_many 3 (pc' := 35) (L' := [some (.ref 161), some (.int x1), none, none, some (.int w12.1), some (.int w12.2)]) (st' := [.long (25 : Int64), .long (0 : Int64), .long (s.1 177 w12.2.toNatClampNeg).toInt64]) (S1 := zS c s) rfl ?_
      obtain ⟨r7, g9, h⟩ := zp_inv h
      refine zq_scall1 rfl (by decide) rfl rfl ((tX12_in g9).up (by decide)) rfl ?_
      refine zq_if1 (b := r7 = 0) rfl Iff.rfl rfl (fun g10 => ?_) (fun g10 => ?_)
      · rw [if_pos g10] at h
        exact zr_wk [some (.ref 161), some (.int x1), none, none, none, some (.int w12.2)] ⟨rfl, rfl, rfl, trivial⟩ (tX12_isShift_J45 h hn hx)
      · rw [if_neg g10] at h
        refine zr_many 2 (pc' := 46) (L' := [some (.ref 161), some (.int x1), none, none, some (.int w12.1), some (.int w12.2)]) (st' := [.int (1 : Int32)]) (S1 := zS c s) rfl ?_
        exact zr_wk [some (.ref 161), some (.int x1), none, none, none, some (.int w12.2)] ⟨rfl, rfl, rfl, trivial⟩ (tX12_isShift_J46 h hn hx)
def fX12_isShift_J87 (n : Nat) (s : zs) (y0 : Int32) : Option (Int32 × zs) := if y0 = 0 ∨ y0 = 1 then some (y0, s) else none
theorem tX12_isShift_J87 {n : Nat} {c : Nat × Nat} {s : zs} {y0 : Int32} {r : Int32} {s' : zs} (h : fX12_isShift_J87 n s y0 = some (r, s')) : zr kX12_isShift 2 8 87 [none, none, none, none, none, none] [.int y0] (zS c s) (some (.int r)) (zS c s') := by
  unfold fX12_isShift_J87 at h
  obtain ⟨gz, h⟩ := zt_inv h
  obtain ⟨rfl, rfl⟩ := Prod.mk.inj (Option.some.inj h)
  exact zq_zret rfl gz
def fX12_isShift_J86 (n : Nat) (s : zs) : Option (Int32 × zs) := fX12_isShift_J87 n s (0 : Int32)
theorem tX12_isShift_J86 {n : Nat} {c : Nat × Nat} {s : zs} {r : Int32} {s' : zs} (h : fX12_isShift_J86 n s = some (r, s')) : zr kX12_isShift 2 8 86 [none, none, none, none, none, none] [] (zS c s) (some (.int r)) (zS c s') := by
  unfold fX12_isShift_J86 at h
  refine zr_many 1 (pc' := 87) (L' := [none, none, none, none, none, none]) (st' := [.int (0 : Int32)]) (S1 := zS c s) rfl ?_
  exact zr_wk [none, none, none, none, none, none] trivial (tX12_isShift_J87 h)
def fX12_isShift (n : Nat) (s : zs) (x1 : Int32) (x2 : Int32) (x3 : Int32) : Option (Int32 × zs) := zp (fX12_laysNotes n s x2 x3) (fun s2 => zp (zl (fX12_isShift_B12 n s2 x1) n ((1 : Int32), (0 : Int32))) (fun w11 => if w11 = 0 then fX12_isShift_J86 n s2 else zp (fX12_crew n s2 169 x1) (fun r13 => zb (fX12_singsFrom n 6 s2 169 r13 (15 : Int32) (0 : Int32)) (fun r16 s17 => if r16 = 0 then fX12_isShift_J86 n s17 else fX12_isShift_J87 n s17 (1 : Int32)))))
theorem tX12_isShift {n : Nat} {c : Nat × Nat} {s : zs} {x1 : Int32} {x2 : Int32} {x3 : Int32} {r : Int32} {s' : zs} (h : fX12_isShift n s x1 x2 x3 = some (r, s')) : zc 9 2474 [.ref 161, .int x1, .int x2, .int x3] (zS c s) (some (.int r)) (zS c s') := by
  refine zc_of (k := kX12_isShift) (rt := 2) (L := [some (.ref 161), some (.int x1), some (.int x2), some (.int x3), none, none]) zm_2474.1 rfl rfl (by decide) rfl rfl ?_
  unfold fX12_isShift at h
  refine zr_many 3 (pc' := 3) (L' := [some (.ref 161), some (.int x1), some (.int x2), some (.int x3), none, none]) (st' := [.int x3, .int x2, .ref 161]) (S1 := zS c s) rfl ?_
  obtain ⟨s2, g3, h⟩ := zp_inv h
  refine zq_call0 rfl rfl (zh_161 _) rfl rfl rfl ((tX12_laysNotes g3).up (by decide)) rfl ?_
  refine zr_many 4 (pc' := 12) (L' := [some (.ref 161), some (.int x1), some (.int x2), some (.int x3), some (.int (1 : Int32)), some (.int (0 : Int32))]) (st' := []) (S1 := zS c s2) rfl ?_
  obtain ⟨w11, g20, h⟩ := zp_inv h
  refine zr_wk [some (.ref 161), some (.int x1), none, none, some (.int (1 : Int32)), some (.int (0 : Int32))] ⟨rfl, rfl, rfl, rfl, trivial⟩ (zl_cert (Z := fun w12 => zr kX12_isShift 2 8 12 [some (.ref 161), some (.int x1), none, none, some (.int w12.1), some (.int w12.2)] [] (zS c s2) _ _) (Y := (fun z => zr kX12_isShift 2 8 54 [some (.ref 161), some (.int x1), none, none, some (.int z), none] [] (zS c s2) _ _)) (fun w o h1 h2 h3 => tX12_isShift_B12 h1 h2 h3) n _ _ g20 ?_)
  show zr kX12_isShift 2 8 54 [some (.ref 161), some (.int x1), none, none, some (.int w11), none] [] (zS c s2) _ _
  refine zr_many 1 (pc' := 56) (L' := [some (.ref 161), some (.int x1), none, none, some (.int w11), none]) (st' := [.int w11]) (S1 := zS c s2) rfl ?_
  refine zq_if1 (b := w11 = 0) rfl Iff.rfl rfl (fun g12 => ?_) (fun g12 => ?_)
  · rw [if_pos g12] at h
    exact zr_wk [none, none, none, none, none, none] trivial (tX12_isShift_J86 h)
  · rw [if_neg g12] at h
    refine zr_many 2 (pc' := 61) (L' := [some (.ref 161), some (.int x1), none, none, some (.int w11), none]) (st' := [.ref 161, .ref 161]) (S1 := zS c s2) rfl ?_
    refine zq_get rfl (zh_161 _) rfl rfl rfl ?_
    refine zr_many 2 (pc' := 66) (L' := [some (.ref 161), some (.int x1), none, none, some (.int w11), none]) (st' := [.ref 161, .ref 161, .ref 169, .ref 161]) (S1 := zS c s2) rfl ?_
    refine zq_get rfl (zh_161 _) rfl rfl rfl ?_
    refine zr_many 1 (pc' := 70) (L' := [some (.ref 161), some (.int x1), none, none, some (.int w11), none]) (st' := [.int x1, .ref 169, .ref 161, .ref 169, .ref 161]) (S1 := zS c s2) rfl ?_
    obtain ⟨r13, g15, h⟩ := zp_inv h
    refine zq_call1 rfl rfl (zh_161 _) rfl rfl rfl ((tX12_crew zR_n g15).up (by decide)) rfl ?_
    refine zr_many 2 (pc' := 76) (L' := [some (.ref 161), some (.int x1), none, none, some (.int w11), none]) (st' := [.int (0 : Int32), .int (15 : Int32), .int r13, .ref 169, .ref 161]) (S1 := zS c s2) rfl ?_
    obtain ⟨r16, s17, g18, h⟩ := zb_inv h
    refine zq_call1 rfl rfl (zh_161 _) rfl rfl rfl (tX12_singsFrom zR_n g18) rfl ?_
    refine zq_if1 (b := r16 = 0) rfl Iff.rfl rfl (fun g19 => ?_) (fun g19 => ?_)
    · rw [if_pos g19] at h
      exact zr_wk [none, none, none, none, none, none] trivial (tX12_isShift_J86 h)
    · rw [if_neg g19] at h
      refine zr_many 2 (pc' := 87) (L' := [some (.ref 161), some (.int x1), none, none, some (.int w11), none]) (st' := [.int (1 : Int32)]) (S1 := zS c s17) rfl ?_
      exact zr_wk [none, none, none, none, none, none] trivial (tX12_isShift_J87 h)
def fX12_shift_B28 (n : Nat) (x1 : Int32) (x2 : Int32) (x3 : Int32) (w28 : Int32 × zs) : Option ((Int32 × zs) ⊕ ((Int32 × zs) ⊕ (zs))) := if x3 < w28.1 then some (Sum.inr (Sum.inr w28.2)) else zb (fX12_isShift n w28.2 x1 x2 w28.1) (fun r7 s8 => if r7 = 0 then some (Sum.inl ((w28.1 + (if (1 : Int32) < ((2 : Int32) * x3) then ((2 : Int32) * x3) else (1 : Int32))), s8)) else some (Sum.inr (Sum.inl (w28.1, s8))))
theorem tX12_shift_B28 {n : Nat} {c : Nat × Nat} {x1 : Int32} {x2 : Int32} {x3 : Int32} {w28 : Int32 × zs} {o : _} {v : Option Value} {S' : zi_S} (h : fX12_shift_B28 n x1 x2 x3 w28 = some o) (hn : ∀ w28, o = Sum.inl w28 → zr kX12_shift 1 9 28 [some (.ref 161), some (.int x1), some (.int x2), some (.int x3), some (.int w28.1)] [] (zS c w28.2) v S') (hx : ∀ z, o = Sum.inr z → (Sum.elim (fun z => zr kX12_shift 1 9 45 [some (.ref 161), none, none, none, some (.int z.1)] [] (zS c z.2) v S') (fun z => zr kX12_shift 1 9 70 [some (.ref 161), some (.int x1), some (.int x2), some (.int x3), none] [] (zS c z) v S')) z) : zr kX12_shift 1 9 28 [some (.ref 161), some (.int x1), some (.int x2), some (.int x3), some (.int w28.1)] [] (zS c w28.2) v S' := by
  unfold fX12_shift_B28 at h
  refine zr_many 2 (pc' := 31) (L' := [some (.ref 161), some (.int x1), some (.int x2), some (.int x3), some (.int w28.1)]) (st' := [.int x3, .int w28.1]) (S1 := zS c w28.2) rfl ?_
  refine zq_if2 (b := x3 < w28.1) rfl Iff.rfl rfl (fun g6 => ?_) (fun g6 => ?_)
  · rw [if_pos g6] at h
    obtain rfl := Option.some.inj h
    exact zr_wk [some (.ref 161), some (.int x1), some (.int x2), some (.int x3), none] ⟨rfl, rfl, rfl, rfl, trivial⟩ (hx (Sum.inr w28.2) rfl)
  · rw [if_neg g6] at h
    refine zr_many 4 (pc' := 39) (L' := [some (.ref 161), some (.int x1), some (.int x2), some (.int x3), some (.int w28.1)]) (st' := [.int w28.1, .int x2, .int x1, .ref 161]) (S1 := zS c w28.2) rfl ?_
    obtain ⟨r7, s8, g9, h⟩ := zb_inv h
    refine zq_call1 rfl rfl (zh_161 _) rfl rfl rfl (tX12_isShift g9) rfl ?_
    refine zq_if1 (b := r7 = 0) rfl Iff.rfl rfl (fun g10 => ?_) (fun g10 => ?_)
    · rw [if_pos g10] at h
      refine zr_many 9 (pc' := 28) (L' := [some (.ref 161), some (.int x1), some (.int x2), some (.int x3), some (.int (w28.1 + (if (1 : Int32) < ((2 : Int32) * x3) then ((2 : Int32) * x3) else (1 : Int32))))]) (st' := []) (S1 := zS c s8) rfl ?_
      obtain rfl := Option.some.inj h
      exact zr_wk [some (.ref 161), some (.int x1), some (.int x2), some (.int x3), some (.int (w28.1 + (if (1 : Int32) < ((2 : Int32) * x3) then ((2 : Int32) * x3) else (1 : Int32))))] ⟨rfl, rfl, rfl, rfl, rfl, trivial⟩ (hn ((w28.1 + (if (1 : Int32) < ((2 : Int32) * x3) then ((2 : Int32) * x3) else (1 : Int32))), s8) rfl)
    · rw [if_neg g10] at h
      obtain rfl := Option.some.inj h
      exact zr_wk [some (.ref 161), none, none, none, some (.int w28.1)] ⟨rfl, rfl, trivial⟩ (hx (Sum.inl (w28.1, s8)) rfl)
def fX12_shift_B18 (n : Nat) (x1 : Int32) (x2 : Int32) (w18 : Int32 × zs) : Option ((Int32 × zs) ⊕ ((Int32 × zs) ⊕ (zs))) := if (26 : Int32) ≤ w18.1 then some (Sum.inr (Sum.inr w18.2)) else zp (zl (fX12_shift_B28 n x1 x2 w18.1) n ((-w18.1), w18.2)) (Sum.elim (fun w11 => some (Sum.inr (Sum.inl (w11.1, w11.2)))) (fun w12 => some (Sum.inl ((w18.1 + (1 : Int32)), w12))))
theorem tX12_shift_B18 {n : Nat} {c : Nat × Nat} {x1 : Int32} {x2 : Int32} {w18 : Int32 × zs} {o : _} {v : Option Value} {S' : zi_S} (h : fX12_shift_B18 n x1 x2 w18 = some o) (hn : ∀ w18, o = Sum.inl w18 → zr kX12_shift 1 9 18 [some (.ref 161), some (.int x1), some (.int x2), some (.int w18.1), none] [] (zS c w18.2) v S') (hx : ∀ z, o = Sum.inr z → (Sum.elim (fun z => zr kX12_shift 1 9 45 [some (.ref 161), none, none, none, some (.int z.1)] [] (zS c z.2) v S') (fun z => zr kX12_shift 1 9 76 [none, none, none, none, none] [] (zS c z) v S')) z) : zr kX12_shift 1 9 18 [some (.ref 161), some (.int x1), some (.int x2), some (.int w18.1), none] [] (zS c w18.2) v S' := by
  unfold fX12_shift_B18 at h
  refine zr_many 2 (pc' := 21) (L' := [some (.ref 161), some (.int x1), some (.int x2), some (.int w18.1), none]) (st' := [.int (26 : Int32), .int w18.1]) (S1 := zS c w18.2) rfl ?_
  refine zq_if2 (b := (26 : Int32) ≤ w18.1) rfl Iff.rfl rfl (fun g5 => ?_) (fun g5 => ?_)
  · rw [if_pos g5] at h
    obtain rfl := Option.some.inj h
    exact zr_wk [none, none, none, none, none] trivial (hx (Sum.inr w18.2) rfl)
  · rw [if_neg g5] at h
    refine zr_many 3 (pc' := 28) (L' := [some (.ref 161), some (.int x1), some (.int x2), some (.int w18.1), some (.int (-w18.1))]) (st' := []) (S1 := zS c w18.2) rfl ?_
    obtain ⟨w14, g13, h⟩ := zp_inv h
    rcases w14 with w11 | w12
    · simp only [Sum.elim_inl, Sum.elim_inr] at h
      refine zr_wk [some (.ref 161), some (.int x1), some (.int x2), some (.int w18.1), some (.int (-w18.1))] ⟨rfl, rfl, rfl, rfl, rfl, trivial⟩ (zl_cert (Z := fun w28 => zr kX12_shift 1 9 28 [some (.ref 161), some (.int x1), some (.int x2), some (.int w18.1), some (.int w28.1)] [] (zS c w28.2) _ _) (Y := (Sum.elim (fun z => zr kX12_shift 1 9 45 [some (.ref 161), none, none, none, some (.int z.1)] [] (zS c z.2) _ _) (fun z => zr kX12_shift 1 9 70 [some (.ref 161), some (.int x1), some (.int x2), some (.int w18.1), none] [] (zS c z) _ _))) (fun w o h1 h2 h3 => tX12_shift_B28 h1 h2 h3) n _ _ g13 ?_)
      show zr kX12_shift 1 9 45 [some (.ref 161), none, none, none, some (.int w11.1)] [] (zS c w11.2) _ _
      obtain rfl := Option.some.inj h
      exact zr_wk [some (.ref 161), none, none, none, some (.int w11.1)] ⟨rfl, rfl, trivial⟩ (hx (Sum.inl (w11.1, w11.2)) rfl)
    · simp only [Sum.elim_inl, Sum.elim_inr] at h
      refine zr_wk [some (.ref 161), some (.int x1), some (.int x2), some (.int w18.1), some (.int (-w18.1))] ⟨rfl, rfl, rfl, rfl, rfl, trivial⟩ (zl_cert (Z := fun w28 => zr kX12_shift 1 9 28 [some (.ref 161), some (.int x1), some (.int x2), some (.int w18.1), some (.int w28.1)] [] (zS c w28.2) _ _) (Y := (Sum.elim (fun z => zr kX12_shift 1 9 45 [some (.ref 161), none, none, none, some (.int z.1)] [] (zS c z.2) _ _) (fun z => zr kX12_shift 1 9 70 [some (.ref 161), some (.int x1), some (.int x2), some (.int w18.1), none] [] (zS c z) _ _))) (fun w o h1 h2 h3 => tX12_shift_B28 h1 h2 h3) n _ _ g13 ?_)
      show zr kX12_shift 1 9 70 [some (.ref 161), some (.int x1), some (.int x2), some (.int w18.1), none] [] (zS c w12) _ _
      refine zr_many 2 (pc' := 18) (L' := [some (.ref 161), some (.int x1), some (.int x2), some (.int (w18.1 + (1 : Int32))), none]) (st' := []) (S1 := zS c w12) rfl ?_
      obtain rfl := Option.some.inj h
      exact zr_wk [some (.ref 161), some (.int x1), some (.int x2), some (.int (w18.1 + (1 : Int32))), none] ⟨rfl, rfl, rfl, rfl, trivial⟩ (hn ((w18.1 + (1 : Int32)), w12) rfl)
def fX12_shift (n : Nat) (s : zs) (x1 : Int32) (x2 : Int32) : Option (Int32 × zs) := zp (fX12_isPair n (zsi s 161 0 (0 : Int32)) x1 x2) (fun r1 => if ¬ r1 = 0 then zp (zl (fX12_shift_B18 n x1 x2) n ((0 : Int32), (zsi s 161 0 (0 : Int32)))) (Sum.elim (fun w15 => zp (fX12_tellsSung n w15.2) (fun s17 => some ((w15.1 + (100 : Int32)), s17))) (fun w19 => some ((-2 : Int32), w19))) else some ((-1 : Int32), (zsi s 161 0 (0 : Int32))))
theorem tX12_shift {n : Nat} {c : Nat × Nat} {s : zs} {x1 : Int32} {x2 : Int32} {r : Int32} {s' : zs} (h : fX12_shift n s x1 x2 = some (r, s')) : zc 10 2475 [.ref 161, .int x1, .int x2] (zS c s) (some (.int r)) (zS c s') := by
  refine zc_of (k := kX12_shift) (rt := 1) (L := [some (.ref 161), some (.int x1), some (.int x2), none, none]) zm_2475.1 rfl rfl (by decide) rfl rfl ?_
  unfold fX12_shift at h
  refine zr_many 2 (pc' := 2) (L' := [some (.ref 161), some (.int x1), some (.int x2), none, none]) (st' := [.int (0 : Int32), .ref 161]) (S1 := zS c s) rfl ?_
  refine zq_put (s' := (zsi s 161 0 (0 : Int32))) rfl (zh_161 _) rfl rfl rfl rfl zsi_ne rfl ?_
  refine zr_many 3 (pc' := 8) (L' := [some (.ref 161), some (.int x1), some (.int x2), none, none]) (st' := [.int x2, .int x1, .ref 161]) (S1 := zS c (zsi s 161 0 (0 : Int32))) rfl ?_
  obtain ⟨r1, g3, h⟩ := zp_inv h
  refine zq_call1 rfl rfl (zh_161 _) rfl rfl rfl ((tX12_isPair g3).up (by decide)) rfl ?_
  refine zq_if1 (b := ¬ r1 = 0) rfl Iff.rfl rfl (fun g4 => ?_) (fun g4 => ?_)
  · rw [if_pos g4] at h
    refine zr_many 2 (pc' := 18) (L' := [some (.ref 161), some (.int x1), some (.int x2), some (.int (0 : Int32)), none]) (st' := []) (S1 := zS c (zsi s 161 0 (0 : Int32))) rfl ?_
    obtain ⟨w21, g20, h⟩ := zp_inv h
    rcases w21 with w15 | w19
    · simp only [Sum.elim_inl, Sum.elim_inr] at h
      refine zr_wk [some (.ref 161), some (.int x1), some (.int x2), some (.int (0 : Int32)), none] ⟨rfl, rfl, rfl, rfl, trivial⟩ (zl_cert (Z := fun w18 => zr kX12_shift 1 9 18 [some (.ref 161), some (.int x1), some (.int x2), some (.int w18.1), none] [] (zS c w18.2) _ _) (Y := (Sum.elim (fun z => zr kX12_shift 1 9 45 [some (.ref 161), none, none, none, some (.int z.1)] [] (zS c z.2) _ _) (fun z => zr kX12_shift 1 9 76 [none, none, none, none, none] [] (zS c z) _ _))) (fun w o h1 h2 h3 => tX12_shift_B18 h1 h2 h3) n _ _ g20 ?_)
      show zr kX12_shift 1 9 45 [some (.ref 161), none, none, none, some (.int w15.1)] [] (zS c w15.2) _ _
      refine zr_many 1 (pc' := 46) (L' := [some (.ref 161), none, none, none, some (.int w15.1)]) (st' := [.ref 161]) (S1 := zS c w15.2) rfl ?_
      obtain ⟨s17, g18, h⟩ := zp_inv h
      refine zq_call0 rfl rfl (zh_161 _) rfl rfl rfl ((tX12_tellsSung g18).up (by decide)) rfl ?_
      refine zr_many 3 (pc' := 54) (L' := [some (.ref 161), none, none, none, some (.int w15.1)]) (st' := [.int (w15.1 + (100 : Int32))]) (S1 := zS c s17) rfl ?_
      obtain ⟨rfl, rfl⟩ := Prod.mk.inj (Option.some.inj h)
      exact zq_iret rfl
    · simp only [Sum.elim_inl, Sum.elim_inr] at h
      refine zr_wk [some (.ref 161), some (.int x1), some (.int x2), some (.int (0 : Int32)), none] ⟨rfl, rfl, rfl, rfl, trivial⟩ (zl_cert (Z := fun w18 => zr kX12_shift 1 9 18 [some (.ref 161), some (.int x1), some (.int x2), some (.int w18.1), none] [] (zS c w18.2) _ _) (Y := (Sum.elim (fun z => zr kX12_shift 1 9 45 [some (.ref 161), none, none, none, some (.int z.1)] [] (zS c z.2) _ _) (fun z => zr kX12_shift 1 9 76 [none, none, none, none, none] [] (zS c z) _ _))) (fun w o h1 h2 h3 => tX12_shift_B18 h1 h2 h3) n _ _ g20 ?_)
      show zr kX12_shift 1 9 76 [none, none, none, none, none] [] (zS c w19) _ _
      refine zr_many 1 (pc' := 78) (L' := [none, none, none, none, none]) (st' := [.int (-2 : Int32)]) (S1 := zS c w19) rfl ?_
      obtain ⟨rfl, rfl⟩ := Prod.mk.inj (Option.some.inj h)
      exact zq_iret rfl
  · rw [if_neg g4] at h
    refine zr_many 1 (pc' := 15) (L' := [some (.ref 161), some (.int x1), some (.int x2), none, none]) (st' := [.int (-1 : Int32)]) (S1 := zS c (zsi s 161 0 (0 : Int32))) rfl ?_
    obtain ⟨rfl, rfl⟩ := Prod.mk.inj (Option.some.inj h)
    exact zq_iret rfl
def fX12_fees_J31 (n : Nat) (s : zs) (x1 : Int32) (x3 : Int32) (y0 : Int32) (y1 : Int32) : Option ((Int32 × Int32) ⊕ (Int32)) := some (Sum.inl ((y0 + y1), (x3 + (1 : Int32))))
theorem tX12_fees_J31 {n : Nat} {c : Nat × Nat} {s : zs} {x1 : Int32} {x3 : Int32} {y0 : Int32} {y1 : Int32} {o : _} {v : Option Value} {S' : zi_S} (h : fX12_fees_J31 n s x1 x3 y0 y1 = some o) (hn : ∀ w4, o = Sum.inl w4 → zr kX12_fees 1 1 4 [some (.ref 161), some (.int x1), some (.int w4.1), some (.int w4.2)] [] (zS c s) v S') (hx : ∀ z, o = Sum.inr z → (fun z => zr kX12_fees 1 1 39 [none, none, some (.int z), none] [] (zS c s) v S') z) : zr kX12_fees 1 1 31 [some (.ref 161), some (.int x1), none, some (.int x3)] [.int y1, .int y0] (zS c s) v S' := by
  unfold fX12_fees_J31 at h
  refine zr_many 4 (pc' := 4) (L' := [some (.ref 161), some (.int x1), some (.int (y0 + y1)), some (.int (x3 + (1 : Int32)))]) (st' := []) (S1 := zS c s) rfl ?_
  obtain rfl := Option.some.inj h
  exact zr_wk [some (.ref 161), some (.int x1), some (.int (y0 + y1)), some (.int (x3 + (1 : Int32)))] ⟨rfl, rfl, rfl, rfl, trivial⟩ (hn ((y0 + y1), (x3 + (1 : Int32))) rfl)
def fX12_fees_B4 (n : Nat) (s : zs) (x1 : Int32) (w4 : Int32 × Int32) : Option ((Int32 × Int32) ⊕ (Int32)) := if (s.1 161 4) ≤ w4.2 then some (Sum.inr w4.1) else zp (fX12_has n s x1 w4.2) (fun r2 => if r2 = 0 then fX12_fees_J31 n s x1 w4.2 w4.1 (0 : Int32) else cond (zi_in w4.2 8) (fX12_fees_J31 n s x1 w4.2 w4.1 (s.1 167 w4.2.toNatClampNeg)) none)
theorem tX12_fees_B4 {n : Nat} {c : Nat × Nat} {s : zs} {x1 : Int32} {w4 : Int32 × Int32} {o : _} {v : Option Value} {S' : zi_S} (h : fX12_fees_B4 n s x1 w4 = some o) (hn : ∀ w4, o = Sum.inl w4 → zr kX12_fees 1 1 4 [some (.ref 161), some (.int x1), some (.int w4.1), some (.int w4.2)] [] (zS c s) v S') (hx : ∀ z, o = Sum.inr z → (fun z => zr kX12_fees 1 1 39 [none, none, some (.int z), none] [] (zS c s) v S') z) : zr kX12_fees 1 1 4 [some (.ref 161), some (.int x1), some (.int w4.1), some (.int w4.2)] [] (zS c s) v S' := by
  unfold fX12_fees_B4 at h
  refine zr_many 2 (pc' := 6) (L' := [some (.ref 161), some (.int x1), some (.int w4.1), some (.int w4.2)]) (st' := [.ref 161, .int w4.2]) (S1 := zS c s) rfl ?_
  refine zq_get rfl (zh_161 _) rfl rfl rfl ?_
  refine zq_if2 (b := (s.1 161 4) ≤ w4.2) rfl Iff.rfl rfl (fun g1 => ?_) (fun g1 => ?_)
  · rw [if_pos g1] at h
    obtain rfl := Option.some.inj h
    exact zr_wk [none, none, some (.int w4.1), none] ⟨rfl, trivial⟩ (hx w4.1 rfl)
  · rw [if_neg g1] at h
    refine zr_many 3 (pc' := 15) (L' := [some (.ref 161), some (.int x1), some (.int w4.1), some (.int w4.2)]) (st' := [.int w4.2, .int x1, .int w4.1]) (S1 := zS c s) rfl ?_
    obtain ⟨r2, g4, h⟩ := zp_inv h
    refine zq_scall1 rfl (by decide) rfl rfl (tX12_has g4) rfl ?_
    refine zq_if1 (b := r2 = 0) rfl Iff.rfl rfl (fun g5 => ?_) (fun g5 => ?_)
    · rw [if_pos g5] at h
      refine zr_many 1 (pc' := 31) (L' := [some (.ref 161), some (.int x1), some (.int w4.1), some (.int w4.2)]) (st' := [.int (0 : Int32), .int w4.1]) (S1 := zS c s) rfl ?_
      exact zr_wk [some (.ref 161), some (.int x1), none, some (.int w4.2)] ⟨rfl, rfl, rfl, trivial⟩ (tX12_fees_J31 h hn hx)
    · rw [if_neg g5] at h
      refine zr_many 1 (pc' := 22) (L' := [some (.ref 161), some (.int x1), some (.int w4.1), some (.int w4.2)]) (st' := [.ref 161, .int w4.1]) (S1 := zS c s) rfl ?_
      refine zq_get rfl (zh_161 _) rfl rfl rfl ?_
      refine zr_many 1 (pc' := 26) (L' := [some (.ref 161), some (.int x1), some (.int w4.1), some (.int w4.2)]) (st' := [.int w4.2, .ref 167, .int w4.1]) (S1 := zS c s) rfl ?_
      obtain ⟨g6, h⟩ := zi_cond_inv h
      refine zq_ild rfl (zh_167 _) rfl g6 rfl ?_
      refine zr_many 1 (pc' := 31) (L' := [some (.ref 161), some (.int x1), some (.int w4.1), some (.int w4.2)]) (st' := [.int (s.1 167 w4.2.toNatClampNeg), .int w4.1]) (S1 := zS c s) rfl ?_
      exact zr_wk [some (.ref 161), some (.int x1), none, some (.int w4.2)] ⟨rfl, rfl, rfl, trivial⟩ (tX12_fees_J31 h hn hx)
def fX12_fees (n : Nat) (s : zs) (x1 : Int32) : Option Int32 := zp (zl (fX12_fees_B4 n s x1) n ((0 : Int32), (0 : Int32))) (fun w7 => some w7)
theorem tX12_fees {n : Nat} {c : Nat × Nat} {s : zs} {x1 : Int32} {r : Int32} (h : fX12_fees n s x1 = some r) : zc 2 2476 [.ref 161, .int x1] (zS c s) (some (.int r)) (zS c s) := by
  refine zc_of (k := kX12_fees) (rt := 1) (L := [some (.ref 161), some (.int x1), none, none]) zm_2476.1 rfl rfl (by decide) rfl rfl ?_
  unfold fX12_fees at h
  refine zr_many 4 (pc' := 4) (L' := [some (.ref 161), some (.int x1), some (.int (0 : Int32)), some (.int (0 : Int32))]) (st' := []) (S1 := zS c s) rfl ?_
  obtain ⟨w7, g8, h⟩ := zp_inv h
  refine zr_wk [some (.ref 161), some (.int x1), some (.int (0 : Int32)), some (.int (0 : Int32))] ⟨rfl, rfl, rfl, rfl, trivial⟩ (zl_cert (Z := fun w4 => zr kX12_fees 1 1 4 [some (.ref 161), some (.int x1), some (.int w4.1), some (.int w4.2)] [] (zS c s) _ _) (Y := (fun z => zr kX12_fees 1 1 39 [none, none, some (.int z), none] [] (zS c s) _ _)) (fun w o h1 h2 h3 => tX12_fees_B4 h1 h2 h3) n _ _ g8 ?_)
  show zr kX12_fees 1 1 39 [none, none, some (.int w7), none] [] (zS c s) _ _
  refine zr_many 1 (pc' := 40) (L' := [none, none, some (.int w7), none]) (st' := [.int w7]) (S1 := zS c s) rfl ?_
  obtain rfl := Option.some.inj h
  exact zq_iret rfl
def fX12_isCheaper_J39 (n : Nat) (s : zs) (y0 : Int32) : Option Int32 := if y0 = 0 ∨ y0 = 1 then some y0 else none
theorem tX12_isCheaper_J39 {n : Nat} {c : Nat × Nat} {s : zs} {y0 : Int32} {r : Int32} (h : fX12_isCheaper_J39 n s y0 = some r) : zr kX12_isCheaper 2 2 39 [none, none, none] [.int y0] (zS c s) (some (.int r)) (zS c s) := by
  unfold fX12_isCheaper_J39 at h
  obtain ⟨gz, h⟩ := zt_inv h
  obtain rfl := Option.some.inj h
  exact zq_zret rfl gz
def fX12_isCheaper_J34 (n : Nat) (s : zs) : Option Int32 := fX12_isCheaper_J39 n s (1 : Int32)
theorem tX12_isCheaper_J34 {n : Nat} {c : Nat × Nat} {s : zs} {r : Int32} (h : fX12_isCheaper_J34 n s = some r) : zr kX12_isCheaper 2 2 34 [none, none, none] [] (zS c s) (some (.int r)) (zS c s) := by
  unfold fX12_isCheaper_J34 at h
  refine zr_many 2 (pc' := 39) (L' := [none, none, none]) (st' := [.int (1 : Int32)]) (S1 := zS c s) rfl ?_
  exact zr_wk [none, none, none] trivial (tX12_isCheaper_J39 h)
def fX12_isCheaper_J17 (n : Nat) (s : zs) (x1 : Int32) (x2 : Int32) : Option Int32 := if x2 < 0 then fX12_isCheaper_J34 n s else zp (fX12_fees n s x1) (fun r3 => zp (fX12_fees n s x2) (fun r6 => if r6 ≤ r3 then fX12_isCheaper_J39 n s (0 : Int32) else fX12_isCheaper_J34 n s))
theorem tX12_isCheaper_J17 {n : Nat} {c : Nat × Nat} {s : zs} {x1 : Int32} {x2 : Int32} {r : Int32} (h : fX12_isCheaper_J17 n s x1 x2 = some r) : zr kX12_isCheaper 2 2 17 [some (.ref 161), some (.int x1), some (.int x2)] [] (zS c s) (some (.int r)) (zS c s) := by
  unfold fX12_isCheaper_J17 at h
  refine zr_many 1 (pc' := 18) (L' := [some (.ref 161), some (.int x1), some (.int x2)]) (st' := [.int x2]) (S1 := zS c s) rfl ?_
  refine zq_if1 (b := x2 < 0) rfl Iff.rfl rfl (fun g2 => ?_) (fun g2 => ?_)
  · rw [if_pos g2] at h
    exact zr_wk [none, none, none] trivial (tX12_isCheaper_J34 h)
  · rw [if_neg g2] at h
    refine zr_many 2 (pc' := 23) (L' := [some (.ref 161), some (.int x1), some (.int x2)]) (st' := [.int x1, .ref 161]) (S1 := zS c s) rfl ?_
    obtain ⟨r3, g5, h⟩ := zp_inv h
    refine zq_call1 rfl rfl (zh_161 _) rfl rfl rfl (tX12_fees g5) rfl ?_
    refine zr_many 2 (pc' := 28) (L' := [some (.ref 161), some (.int x1), some (.int x2)]) (st' := [.int x2, .ref 161, .int r3]) (S1 := zS c s) rfl ?_
    obtain ⟨r6, g8, h⟩ := zp_inv h
    refine zq_call1 rfl rfl (zh_161 _) rfl rfl rfl (tX12_fees g8) rfl ?_
    refine zq_if2 (b := r6 ≤ r3) rfl Iff.rfl rfl (fun g9 => ?_) (fun g9 => ?_)
    · rw [if_pos g9] at h
      refine zr_many 1 (pc' := 39) (L' := [some (.ref 161), some (.int x1), some (.int x2)]) (st' := [.int (0 : Int32)]) (S1 := zS c s) rfl ?_
      exact zr_wk [none, none, none] trivial (tX12_isCheaper_J39 h)
    · rw [if_neg g9] at h
      exact zr_wk [none, none, none] trivial (tX12_isCheaper_J34 h)
def fX12_isCheaper_J56 (n : Nat) (s : zs) (y0 : Int32) : Option Int32 := if y0 = 0 ∨ y0 = 1 then some y0 else none
theorem tX12_isCheaper_J56 {n : Nat} {c : Nat × Nat} {s : zs} {y0 : Int32} {r : Int32} (h : fX12_isCheaper_J56 n s y0 = some r) : zr kX12_isCheaper 2 2 56 [none, none, none] [.int y0] (zS c s) (some (.int r)) (zS c s) := by
  unfold fX12_isCheaper_J56 at h
  obtain ⟨gz, h⟩ := zt_inv h
  obtain rfl := Option.some.inj h
  exact zq_zret rfl gz
def fX12_isCheaper (n : Nat) (s : zs) (x1 : Int32) (x2 : Int32) : Option Int32 := if x2 < 0 then fX12_isCheaper_J17 n s x1 x2 else zp (fX12_fees n s x1) (fun r10 => zp (fX12_fees n s x2) (fun r13 => if r10 = r13 then zp (fJ6_bitCount_0f7a4 n s x1) (fun r17 => zp (fJ6_bitCount_0f7a4 n s x2) (fun r20 => if r20 ≤ r17 then fX12_isCheaper_J56 n s (0 : Int32) else fX12_isCheaper_J56 n s (1 : Int32))) else fX12_isCheaper_J17 n s x1 x2))
theorem tX12_isCheaper {n : Nat} {c : Nat × Nat} {s : zs} {x1 : Int32} {x2 : Int32} {r : Int32} (h : fX12_isCheaper n s x1 x2 = some r) : zc 3 2477 [.ref 161, .int x1, .int x2] (zS c s) (some (.int r)) (zS c s) := by
  refine zc_of (k := kX12_isCheaper) (rt := 2) (L := [some (.ref 161), some (.int x1), some (.int x2)]) zm_2477.1 rfl rfl (by decide) rfl rfl ?_
  unfold fX12_isCheaper at h
  refine zr_many 1 (pc' := 1) (L' := [some (.ref 161), some (.int x1), some (.int x2)]) (st' := [.int x2]) (S1 := zS c s) rfl ?_
  refine zq_if1 (b := x2 < 0) rfl Iff.rfl rfl (fun g1 => ?_) (fun g1 => ?_)
  · rw [if_pos g1] at h
    exact zr_wk [some (.ref 161), some (.int x1), some (.int x2)] ⟨rfl, rfl, rfl, trivial⟩ (tX12_isCheaper_J17 h)
  · rw [if_neg g1] at h
    refine zr_many 2 (pc' := 6) (L' := [some (.ref 161), some (.int x1), some (.int x2)]) (st' := [.int x1, .ref 161]) (S1 := zS c s) rfl ?_
    obtain ⟨r10, g12, h⟩ := zp_inv h
    refine zq_call1 rfl rfl (zh_161 _) rfl rfl rfl (tX12_fees g12) rfl ?_
    refine zr_many 2 (pc' := 11) (L' := [some (.ref 161), some (.int x1), some (.int x2)]) (st' := [.int x2, .ref 161, .int r10]) (S1 := zS c s) rfl ?_
    obtain ⟨r13, g15, h⟩ := zp_inv h
    refine zq_call1 rfl rfl (zh_161 _) rfl rfl rfl (tX12_fees g15) rfl ?_
    refine zq_if2 (b := r10 = r13) rfl Iff.rfl rfl (fun g16 => ?_) (fun g16 => ?_)
    · rw [if_pos g16] at h
      refine zr_many 1 (pc' := 41) (L' := [some (.ref 161), some (.int x1), some (.int x2)]) (st' := [.int x1]) (S1 := zS c s) rfl ?_
      obtain ⟨r17, g19, h⟩ := zp_inv h
      refine zq_scall1 rfl (by decide) rfl rfl ((tJ6_bitCount_0f7a4 g19).up (by decide)) rfl ?_
      refine zr_many 1 (pc' := 45) (L' := [some (.ref 161), some (.int x1), some (.int x2)]) (st' := [.int x2, .int r17]) (S1 := zS c s) rfl ?_
      obtain ⟨r20, g22, h⟩ := zp_inv h
      refine zq_scall1 rfl (by decide) rfl rfl ((tJ6_bitCount_0f7a4 g22).up (by decide)) rfl ?_
      refine zq_if2 (b := r20 ≤ r17) rfl Iff.rfl rfl (fun g23 => ?_) (fun g23 => ?_)
      · rw [if_pos g23] at h
        refine zr_many 1 (pc' := 56) (L' := [some (.ref 161), some (.int x1), some (.int x2)]) (st' := [.int (0 : Int32)]) (S1 := zS c s) rfl ?_
        exact zr_wk [none, none, none] trivial (tX12_isCheaper_J56 h)
      · rw [if_neg g23] at h
        refine zr_many 2 (pc' := 56) (L' := [some (.ref 161), some (.int x1), some (.int x2)]) (st' := [.int (1 : Int32)]) (S1 := zS c s) rfl ?_
        exact zr_wk [none, none, none] trivial (tX12_isCheaper_J56 h)
    · rw [if_neg g16] at h
      exact zr_wk [some (.ref 161), some (.int x1), some (.int x2)] ⟨rfl, rfl, rfl, trivial⟩ (tX12_isCheaper_J17 h)
def fX12_voicesOf_J68 (n : Nat) (s : zs) (x2 : Int32) (x3 : Int32) (x4 : Int32) (x6 : Int32) (y0 : Int32) : Option ((Int32 × Int32 × zs) ⊕ (Int32 × zs)) := some (Sum.inl (y0, (x6 + (1 : Int32)), s))
theorem tX12_voicesOf_J68 {n : Nat} {c : Nat × Nat} {s : zs} {x2 : Int32} {x3 : Int32} {x4 : Int32} {x6 : Int32} {y0 : Int32} {o : _} {v : Option Value} {S' : zi_S} (h : fX12_voicesOf_J68 n s x2 x3 x4 x6 y0 = some o) (hn : ∀ w18, o = Sum.inl w18 → zr kX12_voicesOf 1 9 18 [some (.ref 161), none, some (.int x2), some (.int x3), some (.int x4), some (.int w18.1), some (.int w18.2.1)] [] (zS c w18.2.2) v S') (hx : ∀ z, o = Sum.inr z → (fun z => zr kX12_voicesOf 1 9 76 [none, none, none, none, none, some (.int z.1), none] [] (zS c z.2) v S') z) : zr kX12_voicesOf 1 9 68 [some (.ref 161), none, some (.int x2), some (.int x3), some (.int x4), none, some (.int x6)] [.int y0] (zS c s) v S' := by
  unfold fX12_voicesOf_J68 at h
  refine zr_many 3 (pc' := 18) (L' := [some (.ref 161), none, some (.int x2), some (.int x3), some (.int x4), some (.int y0), some (.int (x6 + (1 : Int32)))]) (st' := []) (S1 := zS c s) rfl ?_
  obtain rfl := Option.some.inj h
  exact zr_wk [some (.ref 161), none, some (.int x2), some (.int x3), some (.int x4), some (.int y0), some (.int (x6 + (1 : Int32)))] ⟨rfl, rfl, rfl, rfl, rfl, rfl, trivial⟩ (hn (y0, (x6 + (1 : Int32)), s) rfl)
def fX12_voicesOf_J66 (n : Nat) (s : zs) (x2 : Int32) (x3 : Int32) (x4 : Int32) (x5 : Int32) (x6 : Int32) : Option ((Int32 × Int32 × zs) ⊕ (Int32 × zs)) := fX12_voicesOf_J68 n s x2 x3 x4 x6 x5
theorem tX12_voicesOf_J66 {n : Nat} {c : Nat × Nat} {s : zs} {x2 : Int32} {x3 : Int32} {x4 : Int32} {x5 : Int32} {x6 : Int32} {o : _} {v : Option Value} {S' : zi_S} (h : fX12_voicesOf_J66 n s x2 x3 x4 x5 x6 = some o) (hn : ∀ w18, o = Sum.inl w18 → zr kX12_voicesOf 1 9 18 [some (.ref 161), none, some (.int x2), some (.int x3), some (.int x4), some (.int w18.1), some (.int w18.2.1)] [] (zS c w18.2.2) v S') (hx : ∀ z, o = Sum.inr z → (fun z => zr kX12_voicesOf 1 9 76 [none, none, none, none, none, some (.int z.1), none] [] (zS c z.2) v S') z) : zr kX12_voicesOf 1 9 66 [some (.ref 161), none, some (.int x2), some (.int x3), some (.int x4), some (.int x5), some (.int x6)] [] (zS c s) v S' := by
  unfold fX12_voicesOf_J66 at h
  refine zr_many 1 (pc' := 68) (L' := [some (.ref 161), none, some (.int x2), some (.int x3), some (.int x4), some (.int x5), some (.int x6)]) (st' := [.int x5]) (S1 := zS c s) rfl ?_
  exact zr_wk [some (.ref 161), none, some (.int x2), some (.int x3), some (.int x4), none, some (.int x6)] ⟨rfl, rfl, rfl, rfl, rfl, trivial⟩ (tX12_voicesOf_J68 h hn hx)
def fX12_voicesOf_B18 (n : Nat) (x2 : Int32) (x3 : Int32) (x4 : Int32) (w18 : Int32 × Int32 × zs) : Option ((Int32 × Int32 × zs) ⊕ (Int32 × zs)) := if x3 < w18.2.1 then some (Sum.inr (w18.1, w18.2.2)) else if ¬ (w18.2.1 &&& (x3 ^^^ (-1 : Int32))) = 0 then fX12_voicesOf_J66 n w18.2.2 x2 x3 x4 w18.1 w18.2.1 else zp (fX12_isCheaper n w18.2.2 w18.2.1 w18.1) (fun r6 => if r6 = 0 then fX12_voicesOf_J66 n w18.2.2 x2 x3 x4 w18.1 w18.2.1 else zb (fX12_singsChord n w18.2.2 169 (x4 ||| w18.2.1) x2) (fun r10 s11 => if r10 = 0 then fX12_voicesOf_J66 n s11 x2 x3 x4 w18.1 w18.2.1 else fX12_voicesOf_J68 n s11 x2 x3 x4 w18.2.1 w18.2.1))
theorem tX12_voicesOf_B18 {n : Nat} {c : Nat × Nat} {x2 : Int32} {x3 : Int32} {x4 : Int32} {w18 : Int32 × Int32 × zs} {o : _} {v : Option Value} {S' : zi_S} (h : fX12_voicesOf_B18 n x2 x3 x4 w18 = some o) (hn : ∀ w18, o = Sum.inl w18 → zr kX12_voicesOf 1 9 18 [some (.ref 161), none, some (.int x2), some (.int x3), some (.int x4), some (.int w18.1), some (.int w18.2.1)] [] (zS c w18.2.2) v S') (hx : ∀ z, o = Sum.inr z → (fun z => zr kX12_voicesOf 1 9 76 [none, none, none, none, none, some (.int z.1), none] [] (zS c z.2) v S') z) : zr kX12_voicesOf 1 9 18 [some (.ref 161), none, some (.int x2), some (.int x3), some (.int x4), some (.int w18.1), some (.int w18.2.1)] [] (zS c w18.2.2) v S' := by
  unfold fX12_voicesOf_B18 at h
  refine zr_many 2 (pc' := 21) (L' := [some (.ref 161), none, some (.int x2), some (.int x3), some (.int x4), some (.int w18.1), some (.int w18.2.1)]) (st' := [.int x3, .int w18.2.1]) (S1 := zS c w18.2.2) rfl ?_
  refine zq_if2 (b := x3 < w18.2.1) rfl Iff.rfl rfl (fun g4 => ?_) (fun g4 => ?_)
  · rw [if_pos g4] at h
    obtain rfl := Option.some.inj h
    exact zr_wk [none, none, none, none, none, some (.int w18.1), none] ⟨rfl, trivial⟩ (hx (w18.1, w18.2.2) rfl)
  · rw [if_neg g4] at h
    refine zr_many 5 (pc' := 30) (L' := [some (.ref 161), none, some (.int x2), some (.int x3), some (.int x4), some (.int w18.1), some (.int w18.2.1)]) (st' := [.int (w18.2.1 &&& (x3 ^^^ (-1 : Int32)))]) (S1 := zS c w18.2.2) rfl ?_
    refine zq_if1 (b := ¬ (w18.2.1 &&& (x3 ^^^ (-1 : Int32))) = 0) rfl Iff.rfl rfl (fun g5 => ?_) (fun g5 => ?_)
    · rw [if_pos g5] at h
      exact zr_wk [some (.ref 161), none, some (.int x2), some (.int x3), some (.int x4), some (.int w18.1), some (.int w18.2.1)] ⟨rfl, rfl, rfl, rfl, rfl, rfl, trivial⟩ (tX12_voicesOf_J66 h hn hx)
    · rw [if_neg g5] at h
      refine zr_many 3 (pc' := 38) (L' := [some (.ref 161), none, some (.int x2), some (.int x3), some (.int x4), some (.int w18.1), some (.int w18.2.1)]) (st' := [.int w18.1, .int w18.2.1, .ref 161]) (S1 := zS c w18.2.2) rfl ?_
      obtain ⟨r6, g8, h⟩ := zp_inv h
      refine zq_call1 rfl rfl (zh_161 _) rfl rfl rfl ((tX12_isCheaper g8).up (by decide)) rfl ?_
      refine zq_if1 (b := r6 = 0) rfl Iff.rfl rfl (fun g9 => ?_) (fun g9 => ?_)
      · rw [if_pos g9] at h
        exact zr_wk [some (.ref 161), none, some (.int x2), some (.int x3), some (.int x4), some (.int w18.1), some (.int w18.2.1)] ⟨rfl, rfl, rfl, rfl, rfl, rfl, trivial⟩ (tX12_voicesOf_J66 h hn hx)
      · rw [if_neg g9] at h
        refine zr_many 2 (pc' := 46) (L' := [some (.ref 161), none, some (.int x2), some (.int x3), some (.int x4), some (.int w18.1), some (.int w18.2.1)]) (st' := [.ref 161, .ref 161]) (S1 := zS c w18.2.2) rfl ?_
        refine zq_get rfl (zh_161 _) rfl rfl rfl ?_
        refine zr_many 4 (pc' := 55) (L' := [some (.ref 161), none, some (.int x2), some (.int x3), some (.int x4), some (.int w18.1), some (.int w18.2.1)]) (st' := [.int x2, .int (x4 ||| w18.2.1), .ref 169, .ref 161]) (S1 := zS c w18.2.2) rfl ?_
        obtain ⟨r10, s11, g12, h⟩ := zb_inv h
        refine zq_call1 rfl rfl (zh_161 _) rfl rfl rfl (tX12_singsChord zR_n g12) rfl ?_
        refine zq_if1 (b := r10 = 0) rfl Iff.rfl rfl (fun g13 => ?_) (fun g13 => ?_)
        · rw [if_pos g13] at h
          exact zr_wk [some (.ref 161), none, some (.int x2), some (.int x3), some (.int x4), some (.int w18.1), some (.int w18.2.1)] ⟨rfl, rfl, rfl, rfl, rfl, rfl, trivial⟩ (tX12_voicesOf_J66 h hn hx)
        · rw [if_neg g13] at h
          refine zr_many 2 (pc' := 68) (L' := [some (.ref 161), none, some (.int x2), some (.int x3), some (.int x4), some (.int w18.1), some (.int w18.2.1)]) (st' := [.int w18.2.1]) (S1 := zS c s11) rfl ?_
          exact zr_wk [some (.ref 161), none, some (.int x2), some (.int x3), some (.int x4), none, some (.int w18.2.1)] ⟨rfl, rfl, rfl, rfl, rfl, trivial⟩ (tX12_voicesOf_J68 h hn hx)
def fX12_voicesOf (n : Nat) (s : zs) (x1 : Int32) (x2 : Int32) (x3 : Int32) : Option (Int32 × zs) := zp (fX12_crew n s 169 x1) (fun r1 => zp (zl (fX12_voicesOf_B18 n x2 x3 r1) n ((-2 : Int32), (0 : Int32), s)) (fun w14 => some (w14.1, w14.2)))
theorem tX12_voicesOf {n : Nat} {c : Nat × Nat} {s : zs} {x1 : Int32} {x2 : Int32} {x3 : Int32} {r : Int32} {s' : zs} (h : fX12_voicesOf n s x1 x2 x3 = some (r, s')) : zc 10 2478 [.ref 161, .int x1, .int x2, .int x3] (zS c s) (some (.int r)) (zS c s') := by
  refine zc_of (k := kX12_voicesOf) (rt := 1) (L := [some (.ref 161), some (.int x1), some (.int x2), some (.int x3), none, none, none]) zm_2478.1 rfl rfl (by decide) rfl rfl ?_
  unfold fX12_voicesOf at h
  refine zr_many 2 (pc' := 2) (L' := [some (.ref 161), some (.int x1), some (.int x2), some (.int x3), none, none, none]) (st' := [.ref 161, .ref 161]) (S1 := zS c s) rfl ?_
  refine zq_get rfl (zh_161 _) rfl rfl rfl ?_
  refine zr_many 1 (pc' := 6) (L' := [some (.ref 161), some (.int x1), some (.int x2), some (.int x3), none, none, none]) (st' := [.int x1, .ref 169, .ref 161]) (S1 := zS c s) rfl ?_
  obtain ⟨r1, g3, h⟩ := zp_inv h
  refine zq_call1 rfl rfl (zh_161 _) rfl rfl rfl ((tX12_crew zR_n g3).up (by decide)) rfl ?_
  refine zr_many 5 (pc' := 18) (L' := [some (.ref 161), some (.int x1), some (.int x2), some (.int x3), some (.int r1), some (.int (-2 : Int32)), some (.int (0 : Int32))]) (st' := []) (S1 := zS c s) rfl ?_
  obtain ⟨w14, g15, h⟩ := zp_inv h
  refine zr_wk [some (.ref 161), none, some (.int x2), some (.int x3), some (.int r1), some (.int (-2 : Int32)), some (.int (0 : Int32))] ⟨rfl, rfl, rfl, rfl, rfl, rfl, trivial⟩ (zl_cert (Z := fun w18 => zr kX12_voicesOf 1 9 18 [some (.ref 161), none, some (.int x2), some (.int x3), some (.int r1), some (.int w18.1), some (.int w18.2.1)] [] (zS c w18.2.2) _ _) (Y := (fun z => zr kX12_voicesOf 1 9 76 [none, none, none, none, none, some (.int z.1), none] [] (zS c z.2) _ _)) (fun w o h1 h2 h3 => tX12_voicesOf_B18 h1 h2 h3) n _ _ g15 ?_)
  show zr kX12_voicesOf 1 9 76 [none, none, none, none, none, some (.int w14.1), none] [] (zS c w14.2) _ _
  refine zr_many 1 (pc' := 78) (L' := [none, none, none, none, none, some (.int w14.1), none]) (st' := [.int w14.1]) (S1 := zS c w14.2) rfl ?_
  obtain ⟨rfl, rfl⟩ := Prod.mk.inj (Option.some.inj h)
  exact zq_iret rfl
def fX12_freeAt_J40 (n : Nat) (s : zs) (x1 : Int32) (x3 : Int32) (y0 : Int32) (y1 : Int32) : Option ((Int32 × Int32) ⊕ (Int32)) := some (Sum.inl ((y0 ||| y1), (x3 + (1 : Int32))))
theorem tX12_freeAt_J40 {n : Nat} {c : Nat × Nat} {s : zs} {x1 : Int32} {x3 : Int32} {y0 : Int32} {y1 : Int32} {o : _} {v : Option Value} {S' : zi_S} (h : fX12_freeAt_J40 n s x1 x3 y0 y1 = some o) (hn : ∀ w4, o = Sum.inl w4 → zr kX12_freeAt 1 2 4 [some (.ref 161), some (.int x1), some (.int w4.1), some (.int w4.2)] [] (zS c s) v S') (hx : ∀ z, o = Sum.inr z → (fun z => zr kX12_freeAt 1 2 48 [none, none, some (.int z), none] [] (zS c s) v S') z) : zr kX12_freeAt 1 2 40 [some (.ref 161), some (.int x1), none, some (.int x3)] [.int y1, .int y0] (zS c s) v S' := by
  unfold fX12_freeAt_J40 at h
  refine zr_many 4 (pc' := 4) (L' := [some (.ref 161), some (.int x1), some (.int (y0 ||| y1)), some (.int (x3 + (1 : Int32)))]) (st' := []) (S1 := zS c s) rfl ?_
  obtain rfl := Option.some.inj h
  exact zr_wk [some (.ref 161), some (.int x1), some (.int (y0 ||| y1)), some (.int (x3 + (1 : Int32)))] ⟨rfl, rfl, rfl, rfl, trivial⟩ (hn ((y0 ||| y1), (x3 + (1 : Int32))) rfl)
def fX12_freeAt_J39 (n : Nat) (s : zs) (x1 : Int32) (x3 : Int32) (y0 : Int32) : Option ((Int32 × Int32) ⊕ (Int32)) := fX12_freeAt_J40 n s x1 x3 y0 (0 : Int32)
theorem tX12_freeAt_J39 {n : Nat} {c : Nat × Nat} {s : zs} {x1 : Int32} {x3 : Int32} {y0 : Int32} {o : _} {v : Option Value} {S' : zi_S} (h : fX12_freeAt_J39 n s x1 x3 y0 = some o) (hn : ∀ w4, o = Sum.inl w4 → zr kX12_freeAt 1 2 4 [some (.ref 161), some (.int x1), some (.int w4.1), some (.int w4.2)] [] (zS c s) v S') (hx : ∀ z, o = Sum.inr z → (fun z => zr kX12_freeAt 1 2 48 [none, none, some (.int z), none] [] (zS c s) v S') z) : zr kX12_freeAt 1 2 39 [some (.ref 161), some (.int x1), none, some (.int x3)] [.int y0] (zS c s) v S' := by
  unfold fX12_freeAt_J39 at h
  refine zr_many 1 (pc' := 40) (L' := [some (.ref 161), some (.int x1), none, some (.int x3)]) (st' := [.int (0 : Int32), .int y0]) (S1 := zS c s) rfl ?_
  exact zr_wk [some (.ref 161), some (.int x1), none, some (.int x3)] ⟨rfl, rfl, rfl, trivial⟩ (tX12_freeAt_J40 h hn hx)
def fX12_freeAt_B4 (n : Nat) (s : zs) (x1 : Int32) (w4 : Int32 × Int32) : Option ((Int32 × Int32) ⊕ (Int32)) := if (s.1 161 4) ≤ w4.2 then some (Sum.inr w4.1) else zp (fX12_crewOf n s 169 w4.2) (fun r2 => if 0 ≤ r2 then fX12_freeAt_J39 n s x1 w4.2 w4.1 else zp (fX12_whereIs n s w4.2) (fun r6 => if ¬ r6 = x1 then fX12_freeAt_J39 n s x1 w4.2 w4.1 else fX12_freeAt_J40 n s x1 w4.2 w4.1 ((1 : Int32) <<< (w4.2 &&& 31))))
theorem tX12_freeAt_B4 {n : Nat} {c : Nat × Nat} {s : zs} {x1 : Int32} {w4 : Int32 × Int32} {o : _} {v : Option Value} {S' : zi_S} (h : fX12_freeAt_B4 n s x1 w4 = some o) (hn : ∀ w4, o = Sum.inl w4 → zr kX12_freeAt 1 2 4 [some (.ref 161), some (.int x1), some (.int w4.1), some (.int w4.2)] [] (zS c s) v S') (hx : ∀ z, o = Sum.inr z → (fun z => zr kX12_freeAt 1 2 48 [none, none, some (.int z), none] [] (zS c s) v S') z) : zr kX12_freeAt 1 2 4 [some (.ref 161), some (.int x1), some (.int w4.1), some (.int w4.2)] [] (zS c s) v S' := by
  unfold fX12_freeAt_B4 at h
  refine zr_many 2 (pc' := 6) (L' := [some (.ref 161), some (.int x1), some (.int w4.1), some (.int w4.2)]) (st' := [.ref 161, .int w4.2]) (S1 := zS c s) rfl ?_
  refine zq_get rfl (zh_161 _) rfl rfl rfl ?_
  refine zq_if2 (b := (s.1 161 4) ≤ w4.2) rfl Iff.rfl rfl (fun g1 => ?_) (fun g1 => ?_)
  · rw [if_pos g1] at h
    obtain rfl := Option.some.inj h
    exact zr_wk [none, none, some (.int w4.1), none] ⟨rfl, trivial⟩ (hx w4.1 rfl)
  · rw [if_neg g1] at h
    refine zr_many 2 (pc' := 14) (L' := [some (.ref 161), some (.int x1), some (.int w4.1), some (.int w4.2)]) (st' := [.ref 161, .int w4.1]) (S1 := zS c s) rfl ?_
    refine zq_get rfl (zh_161 _) rfl rfl rfl ?_
    refine zr_many 1 (pc' := 18) (L' := [some (.ref 161), some (.int x1), some (.int w4.1), some (.int w4.2)]) (st' := [.int w4.2, .ref 169, .int w4.1]) (S1 := zS c s) rfl ?_
    obtain ⟨r2, g4, h⟩ := zp_inv h
    refine zq_scall1 rfl (by decide) rfl rfl ((tX12_crewOf zR_n g4).up (by decide)) rfl ?_
    refine zq_if1 (b := 0 ≤ r2) rfl Iff.rfl rfl (fun g5 => ?_) (fun g5 => ?_)
    · rw [if_pos g5] at h
      exact zr_wk [some (.ref 161), some (.int x1), none, some (.int w4.2)] ⟨rfl, rfl, rfl, trivial⟩ (tX12_freeAt_J39 h hn hx)
    · rw [if_neg g5] at h
      refine zr_many 2 (pc' := 26) (L' := [some (.ref 161), some (.int x1), some (.int w4.1), some (.int w4.2)]) (st' := [.int w4.2, .ref 161, .int w4.1]) (S1 := zS c s) rfl ?_
      obtain ⟨r6, g8, h⟩ := zp_inv h
      refine zq_call1 rfl rfl (zh_161 _) rfl rfl rfl (tX12_whereIs g8) rfl ?_
      refine zr_many 1 (pc' := 30) (L' := [some (.ref 161), some (.int x1), some (.int w4.1), some (.int w4.2)]) (st' := [.int x1, .int r6, .int w4.1]) (S1 := zS c s) rfl ?_
      refine zq_if2 (b := ¬ r6 = x1) rfl Iff.rfl rfl (fun g9 => ?_) (fun g9 => ?_)
      · rw [if_pos g9] at h
        exact zr_wk [some (.ref 161), some (.int x1), none, some (.int w4.2)] ⟨rfl, rfl, rfl, trivial⟩ (tX12_freeAt_J39 h hn hx)
      · rw [if_neg g9] at h
        refine zr_many 4 (pc' := 40) (L' := [some (.ref 161), some (.int x1), some (.int w4.1), some (.int w4.2)]) (st' := [.int ((1 : Int32) <<< (w4.2 &&& 31)), .int w4.1]) (S1 := zS c s) rfl ?_
        exact zr_wk [some (.ref 161), some (.int x1), none, some (.int w4.2)] ⟨rfl, rfl, rfl, trivial⟩ (tX12_freeAt_J40 h hn hx)
def fX12_freeAt (n : Nat) (s : zs) (x1 : Int32) : Option Int32 := zp (zl (fX12_freeAt_B4 n s x1) n ((0 : Int32), (0 : Int32))) (fun w10 => some w10)
theorem tX12_freeAt {n : Nat} {c : Nat × Nat} {s : zs} {x1 : Int32} {r : Int32} (h : fX12_freeAt n s x1 = some r) : zc 3 2479 [.ref 161, .int x1] (zS c s) (some (.int r)) (zS c s) := by
  refine zc_of (k := kX12_freeAt) (rt := 1) (L := [some (.ref 161), some (.int x1), none, none]) zm_2479.1 rfl rfl (by decide) rfl rfl ?_
  unfold fX12_freeAt at h
  refine zr_many 4 (pc' := 4) (L' := [some (.ref 161), some (.int x1), some (.int (0 : Int32)), some (.int (0 : Int32))]) (st' := []) (S1 := zS c s) rfl ?_
  obtain ⟨w10, g11, h⟩ := zp_inv h
  refine zr_wk [some (.ref 161), some (.int x1), some (.int (0 : Int32)), some (.int (0 : Int32))] ⟨rfl, rfl, rfl, rfl, trivial⟩ (zl_cert (Z := fun w4 => zr kX12_freeAt 1 2 4 [some (.ref 161), some (.int x1), some (.int w4.1), some (.int w4.2)] [] (zS c s) _ _) (Y := (fun z => zr kX12_freeAt 1 2 48 [none, none, some (.int z), none] [] (zS c s) _ _)) (fun w o h1 h2 h3 => tX12_freeAt_B4 h1 h2 h3) n _ _ g11 ?_)
  show zr kX12_freeAt 1 2 48 [none, none, some (.int w10), none] [] (zS c s) _ _
  refine zr_many 1 (pc' := 49) (L' := [none, none, some (.int w10), none]) (st' := [.int w10]) (S1 := zS c s) rfl ?_
  obtain rfl := Option.some.inj h
  exact zq_iret rfl
def fX12_voices_J54 (n : Nat) (s : zs) (x3 : Int32) : Option (Int32 × zs) := some (x3, s)
theorem tX12_voices_J54 {n : Nat} {c : Nat × Nat} {s : zs} {x3 : Int32} {r : Int32} {s' : zs} (h : fX12_voices_J54 n s x3 = some (r, s')) : zr kX12_voices 1 10 54 [none, none, none, some (.int x3)] [] (zS c s) (some (.int r)) (zS c s') := by
  unfold fX12_voices_J54 at h
  refine zr_many 1 (pc' := 55) (L' := [none, none, none, some (.int x3)]) (st' := [.int x3]) (S1 := zS c s) rfl ?_
  obtain ⟨rfl, rfl⟩ := Prod.mk.inj (Option.some.inj h)
  exact zq_iret rfl
def fX12_voices (n : Nat) (s : zs) (x1 : Int32) (x2 : Int32) : Option (Int32 × zs) := zp (fX12_isPair n (zsi s 161 0 (0 : Int32)) x1 x2) (fun r1 => if ¬ r1 = 0 then zp (fX12_placeOf n (zsi s 161 0 (0 : Int32)) 169 x1) (fun r5 => zp (fX12_freeAt n (zsi s 161 0 (0 : Int32)) r5) (fun r8 => zb (fX12_voicesOf n (zsi s 161 0 (0 : Int32)) x1 x2 r8) (fun r11 s12 => if r11 < 0 then fX12_voices_J54 n s12 r11 else zp (fX12_fees n (zsi s12 161 1 (0 : Int32)) r11) (fun r15 => zp (fX12_enters n (zsi s12 161 1 (0 : Int32)) r15.toInt64) (fun s19 => fX12_voices_J54 n s19 r11))))) else some ((-1 : Int32), (zsi s 161 0 (0 : Int32))))
theorem tX12_voices {n : Nat} {c : Nat × Nat} {s : zs} {x1 : Int32} {x2 : Int32} {r : Int32} {s' : zs} (h : fX12_voices n s x1 x2 = some (r, s')) : zc 11 2480 [.ref 161, .int x1, .int x2] (zS c s) (some (.int r)) (zS c s') := by
  refine zc_of (k := kX12_voices) (rt := 1) (L := [some (.ref 161), some (.int x1), some (.int x2), none]) zm_2480.1 rfl rfl (by decide) rfl rfl ?_
  unfold fX12_voices at h
  refine zr_many 2 (pc' := 2) (L' := [some (.ref 161), some (.int x1), some (.int x2), none]) (st' := [.int (0 : Int32), .ref 161]) (S1 := zS c s) rfl ?_
  refine zq_put (s' := (zsi s 161 0 (0 : Int32))) rfl (zh_161 _) rfl rfl rfl rfl zsi_ne rfl ?_
  refine zr_many 3 (pc' := 8) (L' := [some (.ref 161), some (.int x1), some (.int x2), none]) (st' := [.int x2, .int x1, .ref 161]) (S1 := zS c (zsi s 161 0 (0 : Int32))) rfl ?_
  obtain ⟨r1, g3, h⟩ := zp_inv h
  refine zq_call1 rfl rfl (zh_161 _) rfl rfl rfl ((tX12_isPair g3).up (by decide)) rfl ?_
  refine zq_if1 (b := ¬ r1 = 0) rfl Iff.rfl rfl (fun g4 => ?_) (fun g4 => ?_)
  · rw [if_pos g4] at h
    refine zr_many 5 (pc' := 21) (L' := [some (.ref 161), some (.int x1), some (.int x2), none]) (st' := [.ref 161, .ref 161, .int x2, .int x1, .ref 161]) (S1 := zS c (zsi s 161 0 (0 : Int32))) rfl ?_
    refine zq_get rfl (zh_161 _) rfl rfl rfl ?_
    refine zr_many 1 (pc' := 25) (L' := [some (.ref 161), some (.int x1), some (.int x2), none]) (st' := [.int x1, .ref 169, .ref 161, .int x2, .int x1, .ref 161]) (S1 := zS c (zsi s 161 0 (0 : Int32))) rfl ?_
    obtain ⟨r5, g7, h⟩ := zp_inv h
    refine zq_scall1 rfl (by decide) rfl rfl ((tX12_placeOf zR_n g7).up (by decide)) rfl ?_
    obtain ⟨r8, g10, h⟩ := zp_inv h
    refine zq_call1 rfl rfl (zh_161 _) rfl rfl rfl ((tX12_freeAt g10).up (by decide)) rfl ?_
    obtain ⟨r11, s12, g13, h⟩ := zb_inv h
    refine zq_call1 rfl rfl (zh_161 _) rfl rfl rfl (tX12_voicesOf g13) rfl ?_
    refine zr_many 2 (pc' := 36) (L' := [some (.ref 161), some (.int x1), some (.int x2), some (.int r11)]) (st' := [.int r11]) (S1 := zS c s12) rfl ?_
    refine zq_if1 (b := r11 < 0) rfl Iff.rfl rfl (fun g14 => ?_) (fun g14 => ?_)
    · rw [if_pos g14] at h
      exact zr_wk [none, none, none, some (.int r11)] ⟨rfl, trivial⟩ (tX12_voices_J54 h)
    · rw [if_neg g14] at h
      refine zr_many 2 (pc' := 41) (L' := [some (.ref 161), some (.int x1), some (.int x2), some (.int r11)]) (st' := [.int (0 : Int32), .ref 161]) (S1 := zS c s12) rfl ?_
      refine zq_put (s' := (zsi s12 161 1 (0 : Int32))) rfl (zh_161 _) rfl rfl rfl rfl zsi_ne rfl ?_
      refine zr_many 3 (pc' := 47) (L' := [some (.ref 161), some (.int x1), some (.int x2), some (.int r11)]) (st' := [.int r11, .ref 161, .ref 161]) (S1 := zS c (zsi s12 161 1 (0 : Int32))) rfl ?_
      obtain ⟨r15, g17, h⟩ := zp_inv h
      refine zq_call1 rfl rfl (zh_161 _) rfl rfl rfl ((tX12_fees g17).up (by decide)) rfl ?_
      refine zr_many 1 (pc' := 51) (L' := [some (.ref 161), some (.int x1), some (.int x2), some (.int r11)]) (st' := [.long r15.toInt64, .ref 161]) (S1 := zS c (zsi s12 161 1 (0 : Int32))) rfl ?_
      obtain ⟨s19, g20, h⟩ := zp_inv h
      refine zq_call0 rfl rfl (zh_161 _) rfl rfl rfl ((tX12_enters g20).up (by decide)) rfl ?_
      exact zr_wk [none, none, none, some (.int r11)] ⟨rfl, trivial⟩ (tX12_voices_J54 h)
  · rw [if_neg g4] at h
    refine zr_many 1 (pc' := 15) (L' := [some (.ref 161), some (.int x1), some (.int x2), none]) (st' := [.int (-1 : Int32)]) (S1 := zS c (zsi s 161 0 (0 : Int32))) rfl ?_
    obtain ⟨rfl, rfl⟩ := Prod.mk.inj (Option.some.inj h)
    exact zq_iret rfl
def fX12_puts_B2 (n : Nat) (w2 : Int32 × zs) : Option ((Int32 × zs) ⊕ (zs)) := if (42 : Int32) ≤ w2.1 then some (Sum.inr w2.2) else cond (zi_in w2.1 42) (cond (zi_in w2.1 42) (some (Sum.inl ((w2.1 + (1 : Int32)), (zsi w2.2 170 w2.1.toNatClampNeg (w2.2.1 169 w2.1.toNatClampNeg))))) none) none
theorem tX12_puts_B2 {n : Nat} {c : Nat × Nat} {w2 : Int32 × zs} {o : _} {v : Option Value} {S' : zi_S} (h : fX12_puts_B2 n w2 = some o) (hn : ∀ w2, o = Sum.inl w2 → zr kX12_puts 0 0 2 [some (.ref 161), some (.int w2.1)] [] (zS c w2.2) v S') (hx : ∀ z, o = Sum.inr z → (fun z => zr kX12_puts 0 0 26 [none, none] [] (zS c z) v S') z) : zr kX12_puts 0 0 2 [some (.ref 161), some (.int w2.1)] [] (zS c w2.2) v S' := by
  unfold fX12_puts_B2 at h
  refine zr_many 2 (pc' := 5) (L' := [some (.ref 161), some (.int w2.1)]) (st' := [.int (42 : Int32), .int w2.1]) (S1 := zS c w2.2) rfl ?_
  refine zq_if2 (b := (42 : Int32) ≤ w2.1) rfl Iff.rfl rfl (fun g1 => ?_) (fun g1 => ?_)
  · rw [if_pos g1] at h
    obtain rfl := Option.some.inj h
    exact zr_wk [none, none] trivial (hx w2.2 rfl)
  · rw [if_neg g1] at h
    refine zr_many 1 (pc' := 9) (L' := [some (.ref 161), some (.int w2.1)]) (st' := [.ref 161]) (S1 := zS c w2.2) rfl ?_
    refine zq_get rfl (zh_161 _) rfl rfl rfl ?_
    refine zr_many 2 (pc' := 14) (L' := [some (.ref 161), some (.int w2.1)]) (st' := [.ref 161, .int w2.1, .ref 170]) (S1 := zS c w2.2) rfl ?_
    refine zq_get rfl (zh_161 _) rfl rfl rfl ?_
    refine zr_many 1 (pc' := 18) (L' := [some (.ref 161), some (.int w2.1)]) (st' := [.int w2.1, .ref 169, .int w2.1, .ref 170]) (S1 := zS c w2.2) rfl ?_
    obtain ⟨g2, h⟩ := zi_cond_inv h
    refine zq_ild rfl (zh_169 _) rfl g2 rfl ?_
    obtain ⟨g3, h⟩ := zi_cond_inv h
    refine zq_ist rfl zh_170 rfl g3 rfl ?_
    refine zr_many 2 (pc' := 2) (L' := [some (.ref 161), some (.int (w2.1 + (1 : Int32)))]) (st' := []) (S1 := zS c (zsi w2.2 170 w2.1.toNatClampNeg (w2.2.1 169 w2.1.toNatClampNeg))) rfl ?_
    obtain rfl := Option.some.inj h
    exact zr_wk [some (.ref 161), some (.int (w2.1 + (1 : Int32)))] ⟨rfl, rfl, trivial⟩ (hn ((w2.1 + (1 : Int32)), (zsi w2.2 170 w2.1.toNatClampNeg (w2.2.1 169 w2.1.toNatClampNeg))) rfl)
def fX12_puts (n : Nat) (s : zs) : Option zs := zp (zl (fX12_puts_B2 n) n ((0 : Int32), s)) (fun w4 => some w4)
theorem tX12_puts {n : Nat} {c : Nat × Nat} {s : zs} {s' : zs} (h : fX12_puts n s = some s') : zc 1 2481 [.ref 161] (zS c s) none (zS c s') := by
  refine zc_of (k := kX12_puts) (rt := 0) (L := [some (.ref 161), none]) zm_2481.1 rfl rfl (by decide) rfl rfl ?_
  unfold fX12_puts at h
  refine zr_many 2 (pc' := 2) (L' := [some (.ref 161), some (.int (0 : Int32))]) (st' := []) (S1 := zS c s) rfl ?_
  obtain ⟨w4, g5, h⟩ := zp_inv h
  refine zr_wk [some (.ref 161), some (.int (0 : Int32))] ⟨rfl, rfl, trivial⟩ (zl_cert (Z := fun w2 => zr kX12_puts 0 0 2 [some (.ref 161), some (.int w2.1)] [] (zS c w2.2) _ _) (Y := (fun z => zr kX12_puts 0 0 26 [none, none] [] (zS c z) _ _)) (fun w o h1 h2 h3 => tX12_puts_B2 h1 h2 h3) n _ _ g5 ?_)
  show zr kX12_puts 0 0 26 [none, none] [] (zS c w4) _ _
  obtain rfl := Option.some.inj h
  exact zq_vret rfl
def fX12_goesTo_J49 (n : Nat) (s : zs) (x1 : Int32) (x2 : Int32) (x3 : Int32) (y3 : Int32) (y4 : Int32) : Option ((zs) ⊕ ((zs) ⊕ (zs))) := zp (fX12_flag n s y4) (fun r10 => zb (fX12_passes n s 170 y3 r10) (fun r13 s14 => if 0 ≤ ((zsi s14 161 39 r13).1 161 39) then zt (zsi s14 161 39 r13) (fun s17 => some (Sum.inl (zsi s17 161 38 ((s17.1 161 38) + (1 : Int32))))) else some (Sum.inr (Sum.inl (zsi s14 161 39 r13)))))
theorem tX12_goesTo_J49 {n : Nat} {c : Nat × Nat} {s : zs} {x1 : Int32} {x2 : Int32} {x3 : Int32} {y3 : Int32} {y4 : Int32} {o : _} {v : Option Value} {S' : zi_S} (h : fX12_goesTo_J49 n s x1 x2 x3 y3 y4 = some o) (hn : ∀ w13, o = Sum.inl w13 → zr kX12_goesTo 1 11 13 [some (.ref 161), some (.int x1), some (.int x2), some (.int x3)] [] (zS c w13) v S') (hx : ∀ z, o = Sum.inr z → (Sum.elim (fun z => zr kX12_goesTo 1 11 65 [some (.ref 161), none, none, none] [] (zS c z) v S') (fun z => zr kX12_goesTo 1 11 83 [some (.ref 161), none, none, some (.int x3)] [] (zS c z) v S')) z) : zr kX12_goesTo 1 11 49 [some (.ref 161), some (.int x1), some (.int x2), some (.int x3)] [.int y4, .int y3, .ref 170, .ref 161, .ref 161] (zS c s) v S' := by
  unfold fX12_goesTo_J49 at h
  obtain ⟨r10, g12, h⟩ := zp_inv h
  refine zq_scall1 rfl (by decide) rfl rfl ((tX12_flag g12).up (by decide)) rfl ?_
  obtain ⟨r13, s14, g15, h⟩ := zb_inv h
  refine zq_call1 rfl rfl (zh_161 _) rfl rfl rfl (tX12_passes zR_t g15) rfl ?_
  refine zq_put (s' := (zsi s14 161 39 r13)) rfl (zh_161 _) rfl rfl rfl rfl zsi_ne rfl ?_
  refine zr_many 1 (pc' := 59) (L' := [some (.ref 161), some (.int x1), some (.int x2), some (.int x3)]) (st' := [.ref 161]) (S1 := zS c (zsi s14 161 39 r13)) rfl ?_
  refine zq_get rfl (zh_161 _) rfl rfl rfl ?_
  refine zq_if1 (b := 0 ≤ ((zsi s14 161 39 r13).1 161 39)) rfl Iff.rfl rfl (fun g16 => ?_) (fun g16 => ?_)
  · rw [if_pos g16] at h
    refine zr_many 2 (pc' := 72) (L' := [some (.ref 161), some (.int x1), some (.int x2), some (.int x3)]) (st' := [.ref 161, .ref 161]) (S1 := zS c (zsi s14 161 39 r13)) rfl ?_
    refine zq_get rfl (zh_161 _) rfl rfl rfl ?_
    refine zr_many 2 (pc' := 77) (L' := [some (.ref 161), some (.int x1), some (.int x2), some (.int x3)]) (st' := [.int (((zsi s14 161 39 r13).1 161 38) + (1 : Int32)), .ref 161]) (S1 := zS c (zsi s14 161 39 r13)) rfl ?_
    obtain ⟨s17, e18, h⟩ := zt_in h
    rw [← e18]
    refine zq_put (s' := (zsi s17 161 38 ((s17.1 161 38) + (1 : Int32)))) rfl (zh_161 _) rfl rfl rfl rfl zsi_ne rfl ?_
    refine zr_many 1 (pc' := 13) (L' := [some (.ref 161), some (.int x1), some (.int x2), some (.int x3)]) (st' := []) (S1 := zS c (zsi s17 161 38 ((s17.1 161 38) + (1 : Int32)))) rfl ?_
    obtain rfl := Option.some.inj h
    exact zr_wk [some (.ref 161), some (.int x1), some (.int x2), some (.int x3)] ⟨rfl, rfl, rfl, rfl, trivial⟩ (hn (zsi s17 161 38 ((s17.1 161 38) + (1 : Int32))) rfl)
  · rw [if_neg g16] at h
    obtain rfl := Option.some.inj h
    exact zr_wk [some (.ref 161), none, none, none] ⟨rfl, trivial⟩ (hx (Sum.inl (zsi s14 161 39 r13)) rfl)
def fX12_goesTo_B13 (n : Nat) (x1 : Int32) (x2 : Int32) (x3 : Int32) (w13 : zs) : Option ((zs) ⊕ ((zs) ⊕ (zs))) := zp (fX12_placeOf n w13 170 x1) (fun r2 => if r2 = x2 then some (Sum.inr (Sum.inr w13)) else zp (fX12_placeOf n w13 170 x1) (fun r6 => if x2 ≤ r6 then fX12_goesTo_J49 n w13 x1 x2 x3 x1 (0 : Int32) else fX12_goesTo_J49 n w13 x1 x2 x3 x1 (1 : Int32)))
theorem tX12_goesTo_B13 {n : Nat} {c : Nat × Nat} {x1 : Int32} {x2 : Int32} {x3 : Int32} {w13 : zs} {o : _} {v : Option Value} {S' : zi_S} (h : fX12_goesTo_B13 n x1 x2 x3 w13 = some o) (hn : ∀ w13, o = Sum.inl w13 → zr kX12_goesTo 1 11 13 [some (.ref 161), some (.int x1), some (.int x2), some (.int x3)] [] (zS c w13) v S') (hx : ∀ z, o = Sum.inr z → (Sum.elim (fun z => zr kX12_goesTo 1 11 65 [some (.ref 161), none, none, none] [] (zS c z) v S') (fun z => zr kX12_goesTo 1 11 83 [some (.ref 161), none, none, some (.int x3)] [] (zS c z) v S')) z) : zr kX12_goesTo 1 11 13 [some (.ref 161), some (.int x1), some (.int x2), some (.int x3)] [] (zS c w13) v S' := by
  unfold fX12_goesTo_B13 at h
  refine zr_many 1 (pc' := 14) (L' := [some (.ref 161), some (.int x1), some (.int x2), some (.int x3)]) (st' := [.ref 161]) (S1 := zS c w13) rfl ?_
  refine zq_get rfl (zh_161 _) rfl rfl rfl ?_
  refine zr_many 1 (pc' := 18) (L' := [some (.ref 161), some (.int x1), some (.int x2), some (.int x3)]) (st' := [.int x1, .ref 170]) (S1 := zS c w13) rfl ?_
  obtain ⟨r2, g4, h⟩ := zp_inv h
  refine zq_scall1 rfl (by decide) rfl rfl ((tX12_placeOf zR_t g4).up (by decide)) rfl ?_
  refine zr_many 1 (pc' := 22) (L' := [some (.ref 161), some (.int x1), some (.int x2), some (.int x3)]) (st' := [.int x2, .int r2]) (S1 := zS c w13) rfl ?_
  refine zq_if2 (b := r2 = x2) rfl Iff.rfl rfl (fun g5 => ?_) (fun g5 => ?_)
  · rw [if_pos g5] at h
    obtain rfl := Option.some.inj h
    exact zr_wk [some (.ref 161), none, none, some (.int x3)] ⟨rfl, rfl, trivial⟩ (hx (Sum.inr w13) rfl)
  · rw [if_neg g5] at h
    refine zr_many 3 (pc' := 28) (L' := [some (.ref 161), some (.int x1), some (.int x2), some (.int x3)]) (st' := [.ref 161, .ref 161, .ref 161]) (S1 := zS c w13) rfl ?_
    refine zq_get rfl (zh_161 _) rfl rfl rfl ?_
    refine zr_many 3 (pc' := 34) (L' := [some (.ref 161), some (.int x1), some (.int x2), some (.int x3)]) (st' := [.ref 161, .int x2, .int x1, .ref 170, .ref 161, .ref 161]) (S1 := zS c w13) rfl ?_
    refine zq_get rfl (zh_161 _) rfl rfl rfl ?_
    refine zr_many 1 (pc' := 38) (L' := [some (.ref 161), some (.int x1), some (.int x2), some (.int x3)]) (st' := [.int x1, .ref 170, .int x2, .int x1, .ref 170, .ref 161, .ref 161]) (S1 := zS c w13) rfl ?_
    obtain ⟨r6, g8, h⟩ := zp_inv h
    refine zq_scall1 rfl (by decide) rfl rfl ((tX12_placeOf zR_t g8).up (by decide)) rfl ?_
    refine zq_if2 (b := x2 ≤ r6) rfl Iff.rfl rfl (fun g9 => ?_) (fun g9 => ?_)
    · rw [if_pos g9] at h
      refine zr_many 1 (pc' := 49) (L' := [some (.ref 161), some (.int x1), some (.int x2), some (.int x3)]) (st' := [.int (0 : Int32), .int x1, .ref 170, .ref 161, .ref 161]) (S1 := zS c w13) rfl ?_
      exact zr_wk [some (.ref 161), some (.int x1), some (.int x2), some (.int x3)] ⟨rfl, rfl, rfl, rfl, trivial⟩ (tX12_goesTo_J49 h hn hx)
    · rw [if_neg g9] at h
      refine zr_many 2 (pc' := 49) (L' := [some (.ref 161), some (.int x1), some (.int x2), some (.int x3)]) (st' := [.int (1 : Int32), .int x1, .ref 170, .ref 161, .ref 161]) (S1 := zS c w13) rfl ?_
      exact zr_wk [some (.ref 161), some (.int x1), some (.int x2), some (.int x3)] ⟨rfl, rfl, rfl, rfl, trivial⟩ (tX12_goesTo_J49 h hn hx)
def fX12_goesTo (n : Nat) (s : zs) (x1 : Int32) (x2 : Int32) : Option (Int32 × zs) := zp (zl (fX12_goesTo_B13 n x1 x2 (s.1 170 9)) n (zsi s 161 38 (0 : Int32))) (Sum.elim (fun w19 => some ((w19.1 161 39), w19)) (fun w20 => some (((w20.1 170 9) - (s.1 170 9)), w20)))
theorem tX12_goesTo {n : Nat} {c : Nat × Nat} {s : zs} {x1 : Int32} {x2 : Int32} {r : Int32} {s' : zs} (h : fX12_goesTo n s x1 x2 = some (r, s')) : zc 12 2482 [.ref 161, .int x1, .int x2] (zS c s) (some (.int r)) (zS c s') := by
  refine zc_of (k := kX12_goesTo) (rt := 1) (L := [some (.ref 161), some (.int x1), some (.int x2), none]) zm_2482.1 rfl rfl (by decide) rfl rfl ?_
  unfold fX12_goesTo at h
  refine zr_many 1 (pc' := 1) (L' := [some (.ref 161), some (.int x1), some (.int x2), none]) (st' := [.ref 161]) (S1 := zS c s) rfl ?_
  refine zq_get rfl (zh_161 _) rfl rfl rfl ?_
  refine zr_many 1 (pc' := 6) (L' := [some (.ref 161), some (.int x1), some (.int x2), none]) (st' := [.int (9 : Int32), .ref 170]) (S1 := zS c s) rfl ?_
  refine zq_ild rfl (zh_170 _) rfl (by decide) rfl ?_
  refine zr_many 3 (pc' := 10) (L' := [some (.ref 161), some (.int x1), some (.int x2), some (.int (s.1 170 9))]) (st' := [.int (0 : Int32), .ref 161]) (S1 := zS c s) rfl ?_
  refine zq_put (s' := (zsi s 161 38 (0 : Int32))) rfl (zh_161 _) rfl rfl rfl rfl zsi_ne rfl ?_
  obtain ⟨w23, g22, h⟩ := zp_inv h
  rcases w23 with w19 | w20
  · simp only [Sum.elim_inl, Sum.elim_inr] at h
    refine zr_wk [some (.ref 161), some (.int x1), some (.int x2), some (.int (s.1 170 9))] ⟨rfl, rfl, rfl, rfl, trivial⟩ (zl_cert (Z := fun w13 => zr kX12_goesTo 1 11 13 [some (.ref 161), some (.int x1), some (.int x2), some (.int (s.1 170 9))] [] (zS c w13) _ _) (Y := (Sum.elim (fun z => zr kX12_goesTo 1 11 65 [some (.ref 161), none, none, none] [] (zS c z) _ _) (fun z => zr kX12_goesTo 1 11 83 [some (.ref 161), none, none, some (.int (s.1 170 9))] [] (zS c z) _ _))) (fun w o h1 h2 h3 => tX12_goesTo_B13 h1 h2 h3) n _ _ g22 ?_)
    show zr kX12_goesTo 1 11 65 [some (.ref 161), none, none, none] [] (zS c w19) _ _
    refine zr_many 1 (pc' := 66) (L' := [some (.ref 161), none, none, none]) (st' := [.ref 161]) (S1 := zS c w19) rfl ?_
    refine zq_get rfl (zh_161 _) rfl rfl rfl ?_
    obtain ⟨rfl, rfl⟩ := Prod.mk.inj (Option.some.inj h)
    exact zq_iret rfl
  · simp only [Sum.elim_inl, Sum.elim_inr] at h
    refine zr_wk [some (.ref 161), some (.int x1), some (.int x2), some (.int (s.1 170 9))] ⟨rfl, rfl, rfl, rfl, trivial⟩ (zl_cert (Z := fun w13 => zr kX12_goesTo 1 11 13 [some (.ref 161), some (.int x1), some (.int x2), some (.int (s.1 170 9))] [] (zS c w13) _ _) (Y := (Sum.elim (fun z => zr kX12_goesTo 1 11 65 [some (.ref 161), none, none, none] [] (zS c z) _ _) (fun z => zr kX12_goesTo 1 11 83 [some (.ref 161), none, none, some (.int (s.1 170 9))] [] (zS c z) _ _))) (fun w o h1 h2 h3 => tX12_goesTo_B13 h1 h2 h3) n _ _ g22 ?_)
    show zr kX12_goesTo 1 11 83 [some (.ref 161), none, none, some (.int (s.1 170 9))] [] (zS c w20) _ _
    refine zr_many 1 (pc' := 84) (L' := [some (.ref 161), none, none, some (.int (s.1 170 9))]) (st' := [.ref 161]) (S1 := zS c w20) rfl ?_
    refine zq_get rfl (zh_161 _) rfl rfl rfl ?_
    refine zr_many 1 (pc' := 89) (L' := [some (.ref 161), none, none, some (.int (s.1 170 9))]) (st' := [.int (9 : Int32), .ref 170]) (S1 := zS c w20) rfl ?_
    refine zq_ild rfl (zh_170 _) rfl (by decide) rfl ?_
    refine zr_many 2 (pc' := 92) (L' := [some (.ref 161), none, none, some (.int (s.1 170 9))]) (st' := [.int ((w20.1 170 9) - (s.1 170 9))]) (S1 := zS c w20) rfl ?_
    obtain ⟨rfl, rfl⟩ := Prod.mk.inj (Option.some.inj h)
    exact zq_iret rfl
