/-! ===== printed by wip/gen/dec.py: the methods as functions, each with its run ===== -/
def fX0_hasLock_J17 (n : Nat) (s : zs) (y0 : Int32) : Option Int32 := if y0 = 0 ∨ y0 = 1 then some y0 else none
theorem tX0_hasLock_J17 {n : Nat} {c : Nat × Nat} {s : zs} {y0 : Int32} {r : Int32} (h : fX0_hasLock_J17 n s y0 = some r) : zr kX0_hasLock 2 0 17 [none, none] [.int y0] (zS c s) (some (.int r)) (zS c s) := by
  unfold fX0_hasLock_J17 at h
  obtain ⟨gz, h⟩ := zt_inv h
  obtain rfl := Option.some.inj h
  exact zq_zret rfl gz
def fX0_hasLock_J16 (n : Nat) (s : zs) : Option Int32 := fX0_hasLock_J17 n s (0 : Int32)
theorem tX0_hasLock_J16 {n : Nat} {c : Nat × Nat} {s : zs} {r : Int32} (h : fX0_hasLock_J16 n s = some r) : zr kX0_hasLock 2 0 16 [none, none] [] (zS c s) (some (.int r)) (zS c s) := by
  unfold fX0_hasLock_J16 at h
  refine zr_many 1 (pc' := 17) (L' := [none, none]) (st' := [.int (0 : Int32)]) (S1 := zS c s) rfl ?_
  exact zr_wk [none, none] trivial (tX0_hasLock_J17 h)
def fX0_hasLock (n : Nat) (s : zs) (x1 : Int32) : Option Int32 := if x1 < 0 then fX0_hasLock_J16 n s else if (s.1 5 7) ≤ x1 then fX0_hasLock_J16 n s else fX0_hasLock_J17 n s (1 : Int32)
theorem tX0_hasLock {n : Nat} {c : Nat × Nat} {s : zs} {x1 : Int32} {r : Int32} (h : fX0_hasLock n s x1 = some r) : zc 1 1 [.ref 5, .int x1] (zS c s) (some (.int r)) (zS c s) := by
  refine zc_of (k := kX0_hasLock) (rt := 2) (L := [some (.ref 5), some (.int x1)]) zm_1.1 rfl rfl (by decide) rfl rfl ?_
  unfold fX0_hasLock at h
  refine zr_many 1 (pc' := 1) (L' := [some (.ref 5), some (.int x1)]) (st' := [.int x1]) (S1 := zS c s) rfl ?_
  refine zq_if1 (b := x1 < 0) rfl Iff.rfl rfl (fun g1 => ?_) (fun g1 => ?_)
  · rw [if_pos g1] at h
    exact zr_wk [none, none] trivial (tX0_hasLock_J16 h)
  · rw [if_neg g1] at h
    refine zr_many 2 (pc' := 6) (L' := [some (.ref 5), some (.int x1)]) (st' := [.ref 5, .int x1]) (S1 := zS c s) rfl ?_
    refine zq_get rfl (zh_5 _) rfl rfl rfl ?_
    refine zq_if2 (b := (s.1 5 7) ≤ x1) rfl Iff.rfl rfl (fun g2 => ?_) (fun g2 => ?_)
    · rw [if_pos g2] at h
      exact zr_wk [none, none] trivial (tX0_hasLock_J16 h)
    · rw [if_neg g2] at h
      refine zr_many 2 (pc' := 17) (L' := [some (.ref 5), some (.int x1)]) (st' := [.int (1 : Int32)]) (S1 := zS c s) rfl ?_
      exact zr_wk [none, none] trivial (tX0_hasLock_J17 h)
def fX0_hasPlace_J17 (n : Nat) (s : zs) (y0 : Int32) : Option Int32 := if y0 = 0 ∨ y0 = 1 then some y0 else none
theorem tX0_hasPlace_J17 {n : Nat} {c : Nat × Nat} {s : zs} {y0 : Int32} {r : Int32} (h : fX0_hasPlace_J17 n s y0 = some r) : zr kX0_hasPlace 2 0 17 [none, none] [.int y0] (zS c s) (some (.int r)) (zS c s) := by
  unfold fX0_hasPlace_J17 at h
  obtain ⟨gz, h⟩ := zt_inv h
  obtain rfl := Option.some.inj h
  exact zq_zret rfl gz
def fX0_hasPlace_J16 (n : Nat) (s : zs) : Option Int32 := fX0_hasPlace_J17 n s (0 : Int32)
theorem tX0_hasPlace_J16 {n : Nat} {c : Nat × Nat} {s : zs} {r : Int32} (h : fX0_hasPlace_J16 n s = some r) : zr kX0_hasPlace 2 0 16 [none, none] [] (zS c s) (some (.int r)) (zS c s) := by
  unfold fX0_hasPlace_J16 at h
  refine zr_many 1 (pc' := 17) (L' := [none, none]) (st' := [.int (0 : Int32)]) (S1 := zS c s) rfl ?_
  exact zr_wk [none, none] trivial (tX0_hasPlace_J17 h)
def fX0_hasPlace (n : Nat) (s : zs) (x1 : Int32) : Option Int32 := if x1 < 0 then fX0_hasPlace_J16 n s else if (s.1 5 7) < x1 then fX0_hasPlace_J16 n s else fX0_hasPlace_J17 n s (1 : Int32)
theorem tX0_hasPlace {n : Nat} {c : Nat × Nat} {s : zs} {x1 : Int32} {r : Int32} (h : fX0_hasPlace n s x1 = some r) : zc 1 2 [.ref 5, .int x1] (zS c s) (some (.int r)) (zS c s) := by
  refine zc_of (k := kX0_hasPlace) (rt := 2) (L := [some (.ref 5), some (.int x1)]) zm_2.1 rfl rfl (by decide) rfl rfl ?_
  unfold fX0_hasPlace at h
  refine zr_many 1 (pc' := 1) (L' := [some (.ref 5), some (.int x1)]) (st' := [.int x1]) (S1 := zS c s) rfl ?_
  refine zq_if1 (b := x1 < 0) rfl Iff.rfl rfl (fun g1 => ?_) (fun g1 => ?_)
  · rw [if_pos g1] at h
    exact zr_wk [none, none] trivial (tX0_hasPlace_J16 h)
  · rw [if_neg g1] at h
    refine zr_many 2 (pc' := 6) (L' := [some (.ref 5), some (.int x1)]) (st' := [.ref 5, .int x1]) (S1 := zS c s) rfl ?_
    refine zq_get rfl (zh_5 _) rfl rfl rfl ?_
    refine zq_if2 (b := (s.1 5 7) < x1) rfl Iff.rfl rfl (fun g2 => ?_) (fun g2 => ?_)
    · rw [if_pos g2] at h
      exact zr_wk [none, none] trivial (tX0_hasPlace_J16 h)
    · rw [if_neg g2] at h
      refine zr_many 2 (pc' := 17) (L' := [some (.ref 5), some (.int x1)]) (st' := [.int (1 : Int32)]) (S1 := zS c s) rfl ?_
      exact zr_wk [none, none] trivial (tX0_hasPlace_J17 h)
def fX0_hasSinger_J17 (n : Nat) (s : zs) (y0 : Int32) : Option Int32 := if y0 = 0 ∨ y0 = 1 then some y0 else none
theorem tX0_hasSinger_J17 {n : Nat} {c : Nat × Nat} {s : zs} {y0 : Int32} {r : Int32} (h : fX0_hasSinger_J17 n s y0 = some r) : zr kX0_hasSinger 2 0 17 [none, none] [.int y0] (zS c s) (some (.int r)) (zS c s) := by
  unfold fX0_hasSinger_J17 at h
  obtain ⟨gz, h⟩ := zt_inv h
  obtain rfl := Option.some.inj h
  exact zq_zret rfl gz
def fX0_hasSinger_J16 (n : Nat) (s : zs) : Option Int32 := fX0_hasSinger_J17 n s (0 : Int32)
theorem tX0_hasSinger_J16 {n : Nat} {c : Nat × Nat} {s : zs} {r : Int32} (h : fX0_hasSinger_J16 n s = some r) : zr kX0_hasSinger 2 0 16 [none, none] [] (zS c s) (some (.int r)) (zS c s) := by
  unfold fX0_hasSinger_J16 at h
  refine zr_many 1 (pc' := 17) (L' := [none, none]) (st' := [.int (0 : Int32)]) (S1 := zS c s) rfl ?_
  exact zr_wk [none, none] trivial (tX0_hasSinger_J17 h)
def fX0_hasSinger (n : Nat) (s : zs) (x1 : Int32) : Option Int32 := if x1 < 0 then fX0_hasSinger_J16 n s else if (s.1 5 8) ≤ x1 then fX0_hasSinger_J16 n s else fX0_hasSinger_J17 n s (1 : Int32)
theorem tX0_hasSinger {n : Nat} {c : Nat × Nat} {s : zs} {x1 : Int32} {r : Int32} (h : fX0_hasSinger n s x1 = some r) : zc 1 3 [.ref 5, .int x1] (zS c s) (some (.int r)) (zS c s) := by
  refine zc_of (k := kX0_hasSinger) (rt := 2) (L := [some (.ref 5), some (.int x1)]) zm_3.1 rfl rfl (by decide) rfl rfl ?_
  unfold fX0_hasSinger at h
  refine zr_many 1 (pc' := 1) (L' := [some (.ref 5), some (.int x1)]) (st' := [.int x1]) (S1 := zS c s) rfl ?_
  refine zq_if1 (b := x1 < 0) rfl Iff.rfl rfl (fun g1 => ?_) (fun g1 => ?_)
  · rw [if_pos g1] at h
    exact zr_wk [none, none] trivial (tX0_hasSinger_J16 h)
  · rw [if_neg g1] at h
    refine zr_many 2 (pc' := 6) (L' := [some (.ref 5), some (.int x1)]) (st' := [.ref 5, .int x1]) (S1 := zS c s) rfl ?_
    refine zq_get rfl (zh_5 _) rfl rfl rfl ?_
    refine zq_if2 (b := (s.1 5 8) ≤ x1) rfl Iff.rfl rfl (fun g2 => ?_) (fun g2 => ?_)
    · rw [if_pos g2] at h
      exact zr_wk [none, none] trivial (tX0_hasSinger_J16 h)
    · rw [if_neg g2] at h
      refine zr_many 2 (pc' := 17) (L' := [some (.ref 5), some (.int x1)]) (st' := [.int (1 : Int32)]) (S1 := zS c s) rfl ?_
      exact zr_wk [none, none] trivial (tX0_hasSinger_J17 h)
def fX0_hasBarge_J17 (n : Nat) (s : zs) (y0 : Int32) : Option Int32 := if y0 = 0 ∨ y0 = 1 then some y0 else none
theorem tX0_hasBarge_J17 {n : Nat} {c : Nat × Nat} {s : zs} {y0 : Int32} {r : Int32} (h : fX0_hasBarge_J17 n s y0 = some r) : zr kX0_hasBarge 2 0 17 [none, none] [.int y0] (zS c s) (some (.int r)) (zS c s) := by
  unfold fX0_hasBarge_J17 at h
  obtain ⟨gz, h⟩ := zt_inv h
  obtain rfl := Option.some.inj h
  exact zq_zret rfl gz
def fX0_hasBarge_J16 (n : Nat) (s : zs) : Option Int32 := fX0_hasBarge_J17 n s (0 : Int32)
theorem tX0_hasBarge_J16 {n : Nat} {c : Nat × Nat} {s : zs} {r : Int32} (h : fX0_hasBarge_J16 n s = some r) : zr kX0_hasBarge 2 0 16 [none, none] [] (zS c s) (some (.int r)) (zS c s) := by
  unfold fX0_hasBarge_J16 at h
  refine zr_many 1 (pc' := 17) (L' := [none, none]) (st' := [.int (0 : Int32)]) (S1 := zS c s) rfl ?_
  exact zr_wk [none, none] trivial (tX0_hasBarge_J17 h)
def fX0_hasBarge (n : Nat) (s : zs) (x1 : Int32) : Option Int32 := if x1 < 0 then fX0_hasBarge_J16 n s else if (s.1 5 9) ≤ x1 then fX0_hasBarge_J16 n s else fX0_hasBarge_J17 n s (1 : Int32)
theorem tX0_hasBarge {n : Nat} {c : Nat × Nat} {s : zs} {x1 : Int32} {r : Int32} (h : fX0_hasBarge n s x1 = some r) : zc 1 4 [.ref 5, .int x1] (zS c s) (some (.int r)) (zS c s) := by
  refine zc_of (k := kX0_hasBarge) (rt := 2) (L := [some (.ref 5), some (.int x1)]) zm_4.1 rfl rfl (by decide) rfl rfl ?_
  unfold fX0_hasBarge at h
  refine zr_many 1 (pc' := 1) (L' := [some (.ref 5), some (.int x1)]) (st' := [.int x1]) (S1 := zS c s) rfl ?_
  refine zq_if1 (b := x1 < 0) rfl Iff.rfl rfl (fun g1 => ?_) (fun g1 => ?_)
  · rw [if_pos g1] at h
    exact zr_wk [none, none] trivial (tX0_hasBarge_J16 h)
  · rw [if_neg g1] at h
    refine zr_many 2 (pc' := 6) (L' := [some (.ref 5), some (.int x1)]) (st' := [.ref 5, .int x1]) (S1 := zS c s) rfl ?_
    refine zq_get rfl (zh_5 _) rfl rfl rfl ?_
    refine zq_if2 (b := (s.1 5 9) ≤ x1) rfl Iff.rfl rfl (fun g2 => ?_) (fun g2 => ?_)
    · rw [if_pos g2] at h
      exact zr_wk [none, none] trivial (tX0_hasBarge_J16 h)
    · rw [if_neg g2] at h
      refine zr_many 2 (pc' := 17) (L' := [some (.ref 5), some (.int x1)]) (st' := [.int (1 : Int32)]) (S1 := zS c s) rfl ?_
      exact zr_wk [none, none] trivial (tX0_hasBarge_J17 h)
def fX0_many_J25 (n : Nat) (s : zs) (y0 : Int32) : Option Int32 := some y0
theorem tX0_many_J25 {n : Nat} {c : Nat × Nat} {s : zs} {y0 : Int32} {r : Int32} (h : fX0_many_J25 n s y0 = some r) : zr kX0_many 1 0 25 [none, none] [.int y0] (zS c s) (some (.int r)) (zS c s) := by
  unfold fX0_many_J25 at h
  obtain rfl := Option.some.inj h
  exact zq_iret rfl
def fX0_many (n : Nat) (s : zs) (x1 : Int32) : Option Int32 := if ¬ x1 = 0 then if ¬ x1 = (1 : Int32) then fX0_many_J25 n s (s.1 5 9) else fX0_many_J25 n s (s.1 5 8) else some (s.1 5 7)
theorem tX0_many {n : Nat} {c : Nat × Nat} {s : zs} {x1 : Int32} {r : Int32} (h : fX0_many n s x1 = some r) : zc 1 5 [.ref 5, .int x1] (zS c s) (some (.int r)) (zS c s) := by
  refine zc_of (k := kX0_many) (rt := 1) (L := [some (.ref 5), some (.int x1)]) zm_5.1 rfl rfl (by decide) rfl rfl ?_
  unfold fX0_many at h
  refine zr_many 1 (pc' := 1) (L' := [some (.ref 5), some (.int x1)]) (st' := [.int x1]) (S1 := zS c s) rfl ?_
  refine zq_if1 (b := ¬ x1 = 0) rfl Iff.rfl rfl (fun g1 => ?_) (fun g1 => ?_)
  · rw [if_pos g1] at h
    refine zr_many 2 (pc' := 11) (L' := [some (.ref 5), some (.int x1)]) (st' := [.int (1 : Int32), .int x1]) (S1 := zS c s) rfl ?_
    refine zq_if2 (b := ¬ x1 = (1 : Int32)) rfl Iff.rfl rfl (fun g2 => ?_) (fun g2 => ?_)
    · rw [if_pos g2] at h
      refine zr_many 1 (pc' := 22) (L' := [some (.ref 5), some (.int x1)]) (st' := [.ref 5]) (S1 := zS c s) rfl ?_
      refine zq_get rfl (zh_5 _) rfl rfl rfl ?_
      exact zr_wk [none, none] trivial (tX0_many_J25 h)
    · rw [if_neg g2] at h
      refine zr_many 1 (pc' := 15) (L' := [some (.ref 5), some (.int x1)]) (st' := [.ref 5]) (S1 := zS c s) rfl ?_
      refine zq_get rfl (zh_5 _) rfl rfl rfl ?_
      refine zr_many 1 (pc' := 25) (L' := [some (.ref 5), some (.int x1)]) (st' := [.int (s.1 5 8)]) (S1 := zS c s) rfl ?_
      exact zr_wk [none, none] trivial (tX0_many_J25 h)
  · rw [if_neg g1] at h
    refine zr_many 1 (pc' := 5) (L' := [some (.ref 5), some (.int x1)]) (st' := [.ref 5]) (S1 := zS c s) rfl ?_
    refine zq_get rfl (zh_5 _) rfl rfl rfl ?_
    obtain rfl := Option.some.inj h
    exact zq_iret rfl
def fX0_room_J18 (n : Nat) (s : zs) (y0 : Int32) : Option Int32 := some y0
theorem tX0_room_J18 {n : Nat} {c : Nat × Nat} {s : zs} {y0 : Int32} {r : Int32} (h : fX0_room_J18 n s y0 = some r) : zr kX0_room 1 0 18 [none, none] [.int y0] (zS c s) (some (.int r)) (zS c s) := by
  unfold fX0_room_J18 at h
  obtain rfl := Option.some.inj h
  exact zq_iret rfl
def fX0_room (n : Nat) (s : zs) (x1 : Int32) : Option Int32 := if ¬ x1 = 0 then if ¬ x1 = (1 : Int32) then fX0_room_J18 n s (4 : Int32) else fX0_room_J18 n s (8 : Int32) else some (8 : Int32)
theorem tX0_room {n : Nat} {c : Nat × Nat} {s : zs} {x1 : Int32} {r : Int32} (h : fX0_room n s x1 = some r) : zc 1 6 [.ref 5, .int x1] (zS c s) (some (.int r)) (zS c s) := by
  refine zc_of (k := kX0_room) (rt := 1) (L := [some (.ref 5), some (.int x1)]) zm_6.1 rfl rfl (by decide) rfl rfl ?_
  unfold fX0_room at h
  refine zr_many 1 (pc' := 1) (L' := [some (.ref 5), some (.int x1)]) (st' := [.int x1]) (S1 := zS c s) rfl ?_
  refine zq_if1 (b := ¬ x1 = 0) rfl Iff.rfl rfl (fun g1 => ?_) (fun g1 => ?_)
  · rw [if_pos g1] at h
    refine zr_many 2 (pc' := 9) (L' := [some (.ref 5), some (.int x1)]) (st' := [.int (1 : Int32), .int x1]) (S1 := zS c s) rfl ?_
    refine zq_if2 (b := ¬ x1 = (1 : Int32)) rfl Iff.rfl rfl (fun g2 => ?_) (fun g2 => ?_)
    · rw [if_pos g2] at h
      refine zr_many 1 (pc' := 18) (L' := [some (.ref 5), some (.int x1)]) (st' := [.int (4 : Int32)]) (S1 := zS c s) rfl ?_
      exact zr_wk [none, none] trivial (tX0_room_J18 h)
    · rw [if_neg g2] at h
      refine zr_many 2 (pc' := 18) (L' := [some (.ref 5), some (.int x1)]) (st' := [.int (8 : Int32)]) (S1 := zS c s) rfl ?_
      exact zr_wk [none, none] trivial (tX0_room_J18 h)
  · rw [if_neg g1] at h
    refine zr_many 1 (pc' := 6) (L' := [some (.ref 5), some (.int x1)]) (st' := [.int (8 : Int32)]) (S1 := zS c s) rfl ?_
    obtain rfl := Option.some.inj h
    exact zq_iret rfl
def fX0_grow_J45 (n : Nat) (s : zs) : Option zs := some s
theorem tX0_grow_J45 {n : Nat} {c : Nat × Nat} {s : zs} {s' : zs} (h : fX0_grow_J45 n s = some s') : zr kX0_grow 0 0 45 [none, none, none] [] (zS c s) none (zS c s') := by
  unfold fX0_grow_J45 at h
  obtain rfl := Option.some.inj h
  exact zq_vret rfl
def fX0_grow (n : Nat) (s : zs) (x1 : Int32) (x2 : Int32) : Option zs := if ¬ x1 = 0 then if ¬ x1 = (1 : Int32) then fX0_grow_J45 n (zsi s 5 9 ((s.1 5 9) + x2)) else fX0_grow_J45 n (zsi s 5 8 ((s.1 5 8) + x2)) else fX0_grow_J45 n (zsi s 5 7 ((s.1 5 7) + x2))
theorem tX0_grow {n : Nat} {c : Nat × Nat} {s : zs} {x1 : Int32} {x2 : Int32} {s' : zs} (h : fX0_grow n s x1 x2 = some s') : zc 1 7 [.ref 5, .int x1, .int x2] (zS c s) none (zS c s') := by
  refine zc_of (k := kX0_grow) (rt := 0) (L := [some (.ref 5), some (.int x1), some (.int x2)]) zm_7.1 rfl rfl (by decide) rfl rfl ?_
  unfold fX0_grow at h
  refine zr_many 1 (pc' := 1) (L' := [some (.ref 5), some (.int x1), some (.int x2)]) (st' := [.int x1]) (S1 := zS c s) rfl ?_
  refine zq_if1 (b := ¬ x1 = 0) rfl Iff.rfl rfl (fun g1 => ?_) (fun g1 => ?_)
  · rw [if_pos g1] at h
    refine zr_many 2 (pc' := 19) (L' := [some (.ref 5), some (.int x1), some (.int x2)]) (st' := [.int (1 : Int32), .int x1]) (S1 := zS c s) rfl ?_
    refine zq_if2 (b := ¬ x1 = (1 : Int32)) rfl Iff.rfl rfl (fun g2 => ?_) (fun g2 => ?_)
    · rw [if_pos g2] at h
      refine zr_many 2 (pc' := 37) (L' := [some (.ref 5), some (.int x1), some (.int x2)]) (st' := [.ref 5, .ref 5]) (S1 := zS c s) rfl ?_
      refine zq_get rfl (zh_5 _) rfl rfl rfl ?_
      refine zr_many 2 (pc' := 42) (L' := [some (.ref 5), some (.int x1), some (.int x2)]) (st' := [.int ((s.1 5 9) + x2), .ref 5]) (S1 := zS c s) rfl ?_
      refine zq_put (s' := (zsi s 5 9 ((s.1 5 9) + x2))) rfl (zh_5 _) rfl rfl rfl rfl zsi_ne rfl ?_
      exact zr_wk [none, none, none] trivial (tX0_grow_J45 h)
    · rw [if_neg g2] at h
      refine zr_many 2 (pc' := 24) (L' := [some (.ref 5), some (.int x1), some (.int x2)]) (st' := [.ref 5, .ref 5]) (S1 := zS c s) rfl ?_
      refine zq_get rfl (zh_5 _) rfl rfl rfl ?_
      refine zr_many 2 (pc' := 29) (L' := [some (.ref 5), some (.int x1), some (.int x2)]) (st' := [.int ((s.1 5 8) + x2), .ref 5]) (S1 := zS c s) rfl ?_
      refine zq_put (s' := (zsi s 5 8 ((s.1 5 8) + x2))) rfl (zh_5 _) rfl rfl rfl rfl zsi_ne rfl ?_
      refine zr_many 1 (pc' := 45) (L' := [some (.ref 5), some (.int x1), some (.int x2)]) (st' := []) (S1 := zS c (zsi s 5 8 ((s.1 5 8) + x2))) rfl ?_
      exact zr_wk [none, none, none] trivial (tX0_grow_J45 h)
  · rw [if_neg g1] at h
    refine zr_many 2 (pc' := 6) (L' := [some (.ref 5), some (.int x1), some (.int x2)]) (st' := [.ref 5, .ref 5]) (S1 := zS c s) rfl ?_
    refine zq_get rfl (zh_5 _) rfl rfl rfl ?_
    refine zr_many 2 (pc' := 11) (L' := [some (.ref 5), some (.int x1), some (.int x2)]) (st' := [.int ((s.1 5 7) + x2), .ref 5]) (S1 := zS c s) rfl ?_
    refine zq_put (s' := (zsi s 5 7 ((s.1 5 7) + x2))) rfl (zh_5 _) rfl rfl rfl rfl zsi_ne rfl ?_
    refine zr_many 1 (pc' := 45) (L' := [some (.ref 5), some (.int x1), some (.int x2)]) (st' := []) (S1 := zS c (zsi s 5 7 ((s.1 5 7) + x2))) rfl ?_
    exact zr_wk [none, none, none] trivial (tX0_grow_J45 h)
def fX8_look_J31 (n : Nat) (s : zs) (y0 : Int32) : Option Int32 := some y0
theorem tX8_look_J31 {n : Nat} {c : Nat × Nat} {s : zs} {y0 : Int32} {r : Int32} (h : fX8_look_J31 n s y0 = some r) : zr kX8_look 1 0 31 [none] [.int y0] (zS c s) (some (.int r)) (zS c s) := by
  unfold fX8_look_J31 at h
  obtain rfl := Option.some.inj h
  exact zq_iret rfl
def fX8_look_J30 (n : Nat) (s : zs) : Option Int32 := fX8_look_J31 n s (-1 : Int32)
theorem tX8_look_J30 {n : Nat} {c : Nat × Nat} {s : zs} {r : Int32} (h : fX8_look_J30 n s = some r) : zr kX8_look 1 0 30 [none] [] (zS c s) (some (.int r)) (zS c s) := by
  unfold fX8_look_J30 at h
  refine zr_many 1 (pc' := 31) (L' := [none]) (st' := [.int (-1 : Int32)]) (S1 := zS c s) rfl ?_
  exact zr_wk [none] trivial (tX8_look_J31 h)
def fX8_look (n : Nat) (s : zs) : Option Int32 := if (s.1 1 2) < 0 then fX8_look_J30 n s else if (s.1 1 3) ≤ (s.1 1 2) then fX8_look_J30 n s else cond (zi_in (s.1 1 2) 80) (fX8_look_J31 n s (s.1 2 (s.1 1 2).toNatClampNeg)) none
theorem tX8_look {n : Nat} {c : Nat × Nat} {s : zs} {r : Int32} (h : fX8_look n s = some r) : zc 1 1606 [.ref 1] (zS c s) (some (.int r)) (zS c s) := by
  refine zc_of (k := kX8_look) (rt := 1) (L := [some (.ref 1)]) zm_1606.1 rfl rfl (by decide) rfl rfl ?_
  unfold fX8_look at h
  refine zr_many 1 (pc' := 1) (L' := [some (.ref 1)]) (st' := [.ref 1]) (S1 := zS c s) rfl ?_
  refine zq_get rfl (zh_1 _) rfl rfl rfl ?_
  refine zq_if1 (b := (s.1 1 2) < 0) rfl Iff.rfl rfl (fun g1 => ?_) (fun g1 => ?_)
  · rw [if_pos g1] at h
    exact zr_wk [none] trivial (tX8_look_J30 h)
  · rw [if_neg g1] at h
    refine zr_many 1 (pc' := 8) (L' := [some (.ref 1)]) (st' := [.ref 1]) (S1 := zS c s) rfl ?_
    refine zq_get rfl (zh_1 _) rfl rfl rfl ?_
    refine zr_many 1 (pc' := 12) (L' := [some (.ref 1)]) (st' := [.ref 1, .int (s.1 1 2)]) (S1 := zS c s) rfl ?_
    refine zq_get rfl (zh_1 _) rfl rfl rfl ?_
    refine zq_if2 (b := (s.1 1 3) ≤ (s.1 1 2)) rfl Iff.rfl rfl (fun g2 => ?_) (fun g2 => ?_)
    · rw [if_pos g2] at h
      exact zr_wk [none] trivial (tX8_look_J30 h)
    · rw [if_neg g2] at h
      refine zr_many 1 (pc' := 19) (L' := [some (.ref 1)]) (st' := [.ref 1]) (S1 := zS c s) rfl ?_
      refine zq_get rfl (zh_1 _) rfl rfl rfl ?_
      refine zr_many 1 (pc' := 23) (L' := [some (.ref 1)]) (st' := [.ref 1, .ref 2]) (S1 := zS c s) rfl ?_
      refine zq_get rfl (zh_1 _) rfl rfl rfl ?_
      obtain ⟨g3, h⟩ := zi_cond_inv h
      refine zq_ild rfl (zh_2 _) rfl g3 rfl ?_
      refine zr_many 1 (pc' := 31) (L' := [some (.ref 1)]) (st' := [.int (s.1 2 (s.1 1 2).toNatClampNeg)]) (S1 := zS c s) rfl ?_
      exact zr_wk [none] trivial (tX8_look_J31 h)
def fX8_step (n : Nat) (s : zs) : Option zs := some (zsi s 1 2 ((s.1 1 2) + (1 : Int32)))
theorem tX8_step {n : Nat} {c : Nat × Nat} {s : zs} {s' : zs} (h : fX8_step n s = some s') : zc 1 1607 [.ref 1] (zS c s) none (zS c s') := by
  refine zc_of (k := kX8_step) (rt := 0) (L := [some (.ref 1)]) zm_1607.1 rfl rfl (by decide) rfl rfl ?_
  unfold fX8_step at h
  refine zr_many 2 (pc' := 2) (L' := [some (.ref 1)]) (st' := [.ref 1, .ref 1]) (S1 := zS c s) rfl ?_
  refine zq_get rfl (zh_1 _) rfl rfl rfl ?_
  refine zr_many 2 (pc' := 7) (L' := [some (.ref 1)]) (st' := [.int ((s.1 1 2) + (1 : Int32)), .ref 1]) (S1 := zS c s) rfl ?_
  refine zq_put (s' := (zsi s 1 2 ((s.1 1 2) + (1 : Int32)))) rfl (zh_1 _) rfl rfl rfl rfl zsi_ne rfl ?_
  obtain rfl := Option.some.inj h
  exact zq_vret rfl
def fX8_take_J15 (n : Nat) (s : zs) : Option (Int32 × zs) := some ((-1 : Int32), s)
theorem tX8_take_J15 {n : Nat} {c : Nat × Nat} {s : zs} {r : Int32} {s' : zs} (h : fX8_take_J15 n s = some (r, s')) : zr kX8_take 1 1 15 [none, none, none, none] [] (zS c s) (some (.int r)) (zS c s') := by
  unfold fX8_take_J15 at h
  refine zr_many 1 (pc' := 16) (L' := [none, none, none, none]) (st' := [.int (-1 : Int32)]) (S1 := zS c s) rfl ?_
  obtain ⟨rfl, rfl⟩ := Prod.mk.inj (Option.some.inj h)
  exact zq_iret rfl
def fX8_take (n : Nat) (s : zs) (x1 : Int32) (x2 : Int32) : Option (Int32 × zs) := zp (fX8_look n s) (fun r1 => if r1 < x1 then fX8_take_J15 n s else if r1 ≤ x2 then zp (fX8_step n s) (fun s7 => some (r1, s7)) else fX8_take_J15 n s)
theorem tX8_take {n : Nat} {c : Nat × Nat} {s : zs} {x1 : Int32} {x2 : Int32} {r : Int32} {s' : zs} (h : fX8_take n s x1 x2 = some (r, s')) : zc 2 1610 [.ref 1, .int x1, .int x2] (zS c s) (some (.int r)) (zS c s') := by
  refine zc_of (k := kX8_take) (rt := 1) (L := [some (.ref 1), some (.int x1), some (.int x2), none]) zm_1610.1 rfl rfl (by decide) rfl rfl ?_
  unfold fX8_take at h
  refine zr_many 1 (pc' := 1) (L' := [some (.ref 1), some (.int x1), some (.int x2), none]) (st' := [.ref 1]) (S1 := zS c s) rfl ?_
  obtain ⟨r1, g3, h⟩ := zp_inv h
  refine zq_call1 rfl rfl (zh_1 _) rfl rfl rfl (tX8_look g3) rfl ?_
  refine zr_many 3 (pc' := 7) (L' := [some (.ref 1), some (.int x1), some (.int x2), some (.int r1)]) (st' := [.int x1, .int r1]) (S1 := zS c s) rfl ?_
  refine zq_if2 (b := r1 < x1) rfl Iff.rfl rfl (fun g4 => ?_) (fun g4 => ?_)
  · rw [if_pos g4] at h
    exact zr_wk [none, none, none, none] trivial (tX8_take_J15 h)
  · rw [if_neg g4] at h
    refine zr_many 2 (pc' := 12) (L' := [some (.ref 1), some (.int x1), some (.int x2), some (.int r1)]) (st' := [.int x2, .int r1]) (S1 := zS c s) rfl ?_
    refine zq_if2 (b := r1 ≤ x2) rfl Iff.rfl rfl (fun g5 => ?_) (fun g5 => ?_)
    · rw [if_pos g5] at h
      refine zr_many 1 (pc' := 18) (L' := [some (.ref 1), some (.int x1), some (.int x2), some (.int r1)]) (st' := [.ref 1]) (S1 := zS c s) rfl ?_
      obtain ⟨s7, g8, h⟩ := zp_inv h
      refine zq_call0 rfl rfl (zh_1 _) rfl rfl rfl (tX8_step g8) rfl ?_
      refine zr_many 1 (pc' := 22) (L' := [some (.ref 1), some (.int x1), some (.int x2), some (.int r1)]) (st' := [.int r1]) (S1 := zS c s7) rfl ?_
      obtain ⟨rfl, rfl⟩ := Prod.mk.inj (Option.some.inj h)
      exact zq_iret rfl
    · rw [if_neg g5] at h
      exact zr_wk [none, none, none, none] trivial (tX8_take_J15 h)
def fX0_readLock_B6 (n : Nat) (x1 : Int32) (w6 : Int32 × Int32 × zs) : Option ((Int32 × Int32 × zs) ⊕ ((zs) ⊕ (zs))) := if (4 : Int32) ≤ w6.2.1 then some (Sum.inr (Sum.inr w6.2.2)) else zb (fX8_take n w6.2.2 w6.1 (122 : Int32)) (fun r2 s3 => if 0 ≤ r2 then cond (zi_in ((x1 * (4 : Int32)) + w6.2.1) 32) (some (Sum.inl (r2, (w6.2.1 + (1 : Int32)), (zsi s3 11 ((x1 * (4 : Int32)) + w6.2.1).toNatClampNeg (r2 - (97 : Int32)))))) none else some (Sum.inr (Sum.inl s3)))
theorem tX0_readLock_B6 {n : Nat} {c : Nat × Nat} {x1 : Int32} {w6 : Int32 × Int32 × zs} {o : _} {v : Option Value} {S' : zi_S} (h : fX0_readLock_B6 n x1 w6 = some o) (hn : ∀ w6, o = Sum.inl w6 → zr kX0_readLock 2 2 6 [some (.ref 5), some (.int x1), some (.ref 1), some (.int w6.1), some (.int w6.2.1)] [] (zS c w6.2.2) v S') (hx : ∀ z, o = Sum.inr z → (Sum.elim (fun z => zr kX0_readLock 2 2 24 [none, none, none, none, none] [] (zS c z) v S') (fun z => zr kX0_readLock 2 2 47 [some (.ref 5), some (.int x1), some (.ref 1), none, none] [] (zS c z) v S')) z) : zr kX0_readLock 2 2 6 [some (.ref 5), some (.int x1), some (.ref 1), some (.int w6.1), some (.int w6.2.1)] [] (zS c w6.2.2) v S' := by
  unfold fX0_readLock_B6 at h
  refine zr_many 2 (pc' := 9) (L' := [some (.ref 5), some (.int x1), some (.ref 1), some (.int w6.1), some (.int w6.2.1)]) (st' := [.int (4 : Int32), .int w6.2.1]) (S1 := zS c w6.2.2) rfl ?_
  refine zq_if2 (b := (4 : Int32) ≤ w6.2.1) rfl Iff.rfl rfl (fun g1 => ?_) (fun g1 => ?_)
  · rw [if_pos g1] at h
    obtain rfl := Option.some.inj h
    exact zr_wk [some (.ref 5), some (.int x1), some (.ref 1), none, none] ⟨rfl, rfl, rfl, trivial⟩ (hx (Sum.inr w6.2.2) rfl)
  · rw [if_neg g1] at h
    refine zr_many 3 (pc' := 16) (L' := [some (.ref 5), some (.int x1), some (.ref 1), some (.int w6.1), some (.int w6.2.1)]) (st' := [.int (122 : Int32), .int w6.1, .ref 1]) (S1 := zS c w6.2.2) rfl ?_
    obtain ⟨r2, s3, g4, h⟩ := zb_inv h
    refine zq_call1 rfl rfl (zh_1 _) rfl rfl rfl (tX8_take g4) rfl ?_
    refine zr_many 2 (pc' := 21) (L' := [some (.ref 5), some (.int x1), some (.ref 1), some (.int r2), some (.int w6.2.1)]) (st' := [.int r2]) (S1 := zS c s3) rfl ?_
    refine zq_if1 (b := 0 ≤ r2) rfl Iff.rfl rfl (fun g5 => ?_) (fun g5 => ?_)
    · rw [if_pos g5] at h
      refine zr_many 1 (pc' := 27) (L' := [some (.ref 5), some (.int x1), some (.ref 1), some (.int r2), some (.int w6.2.1)]) (st' := [.ref 5]) (S1 := zS c s3) rfl ?_
      refine zq_get rfl (zh_5 _) rfl rfl rfl ?_
      refine zr_many 8 (pc' := 40) (L' := [some (.ref 5), some (.int x1), some (.ref 1), some (.int r2), some (.int w6.2.1)]) (st' := [.int (r2 - (97 : Int32)), .int ((x1 * (4 : Int32)) + w6.2.1), .ref 11]) (S1 := zS c s3) rfl ?_
      obtain ⟨g6, h⟩ := zi_cond_inv h
      refine zq_ist rfl zh_11 rfl g6 rfl ?_
      refine zr_many 2 (pc' := 6) (L' := [some (.ref 5), some (.int x1), some (.ref 1), some (.int r2), some (.int (w6.2.1 + (1 : Int32)))]) (st' := []) (S1 := zS c (zsi s3 11 ((x1 * (4 : Int32)) + w6.2.1).toNatClampNeg (r2 - (97 : Int32)))) rfl ?_
      obtain rfl := Option.some.inj h
      exact zr_wk [some (.ref 5), some (.int x1), some (.ref 1), some (.int r2), some (.int (w6.2.1 + (1 : Int32)))] ⟨rfl, rfl, rfl, rfl, rfl, trivial⟩ (hn (r2, (w6.2.1 + (1 : Int32)), (zsi s3 11 ((x1 * (4 : Int32)) + w6.2.1).toNatClampNeg (r2 - (97 : Int32)))) rfl)
    · rw [if_neg g5] at h
      obtain rfl := Option.some.inj h
      exact zr_wk [none, none, none, none, none] trivial (hx (Sum.inl s3) rfl)
def fX0_readLock_J78 (n : Nat) (s : zs) (y0 : Int32) : Option (Int32 × zs) := if y0 = 0 ∨ y0 = 1 then some (y0, s) else none
theorem tX0_readLock_J78 {n : Nat} {c : Nat × Nat} {s : zs} {y0 : Int32} {r : Int32} {s' : zs} (h : fX0_readLock_J78 n s y0 = some (r, s')) : zr kX0_readLock 2 2 78 [none, none, none, none, none] [.int y0] (zS c s) (some (.int r)) (zS c s') := by
  unfold fX0_readLock_J78 at h
  obtain ⟨gz, h⟩ := zt_inv h
  obtain ⟨rfl, rfl⟩ := Prod.mk.inj (Option.some.inj h)
  exact zq_zret rfl gz
def fX0_readLock (n : Nat) (s : zs) (x1 : Int32) : Option (Int32 × zs) := zp (zl (fX0_readLock_B6 n x1) n ((97 : Int32), (0 : Int32), s)) (Sum.elim (fun w7 => some ((0 : Int32), w7)) (fun w8 => zb (fX8_take n w8 (49 : Int32) (57 : Int32)) (fun r9 s10 => cond (zi_in x1 8) (if r9 < 0 then fX0_readLock_J78 n (zsi s10 12 x1.toNatClampNeg (r9 - (48 : Int32))) (0 : Int32) else fX0_readLock_J78 n (zsi s10 12 x1.toNatClampNeg (r9 - (48 : Int32))) (1 : Int32)) none)))
theorem tX0_readLock {n : Nat} {c : Nat × Nat} {s : zs} {x1 : Int32} {r : Int32} {s' : zs} (h : fX0_readLock n s x1 = some (r, s')) : zc 3 9 [.ref 5, .int x1, .ref 1] (zS c s) (some (.int r)) (zS c s') := by
  refine zc_of (k := kX0_readLock) (rt := 2) (L := [some (.ref 5), some (.int x1), some (.ref 1), none, none]) zm_9.1 rfl rfl (by decide) rfl rfl ?_
  unfold fX0_readLock at h
  refine zr_many 4 (pc' := 6) (L' := [some (.ref 5), some (.int x1), some (.ref 1), some (.int (97 : Int32)), some (.int (0 : Int32))]) (st' := []) (S1 := zS c s) rfl ?_
  obtain ⟨w14, g13, h⟩ := zp_inv h
  rcases w14 with w7 | w8
  · simp only [Sum.elim_inl, Sum.elim_inr] at h
    refine zr_wk [some (.ref 5), some (.int x1), some (.ref 1), some (.int (97 : Int32)), some (.int (0 : Int32))] ⟨rfl, rfl, rfl, rfl, rfl, trivial⟩ (zl_cert (Z := fun w6 => zr kX0_readLock 2 2 6 [some (.ref 5), some (.int x1), some (.ref 1), some (.int w6.1), some (.int w6.2.1)] [] (zS c w6.2.2) _ _) (Y := (Sum.elim (fun z => zr kX0_readLock 2 2 24 [none, none, none, none, none] [] (zS c z) _ _) (fun z => zr kX0_readLock 2 2 47 [some (.ref 5), some (.int x1), some (.ref 1), none, none] [] (zS c z) _ _))) (fun w o h1 h2 h3 => tX0_readLock_B6 h1 h2 h3) n _ _ g13 ?_)
    show zr kX0_readLock 2 2 24 [none, none, none, none, none] [] (zS c w7) _ _
    refine zr_many 1 (pc' := 25) (L' := [none, none, none, none, none]) (st' := [.int (0 : Int32)]) (S1 := zS c w7) rfl ?_
    obtain ⟨rfl, rfl⟩ := Prod.mk.inj (Option.some.inj h)
    exact zq_zret rfl (by decide)
  · simp only [Sum.elim_inl, Sum.elim_inr] at h
    refine zr_wk [some (.ref 5), some (.int x1), some (.ref 1), some (.int (97 : Int32)), some (.int (0 : Int32))] ⟨rfl, rfl, rfl, rfl, rfl, trivial⟩ (zl_cert (Z := fun w6 => zr kX0_readLock 2 2 6 [some (.ref 5), some (.int x1), some (.ref 1), some (.int w6.1), some (.int w6.2.1)] [] (zS c w6.2.2) _ _) (Y := (Sum.elim (fun z => zr kX0_readLock 2 2 24 [none, none, none, none, none] [] (zS c z) _ _) (fun z => zr kX0_readLock 2 2 47 [some (.ref 5), some (.int x1), some (.ref 1), none, none] [] (zS c z) _ _))) (fun w o h1 h2 h3 => tX0_readLock_B6 h1 h2 h3) n _ _ g13 ?_)
    show zr kX0_readLock 2 2 47 [some (.ref 5), some (.int x1), some (.ref 1), none, none] [] (zS c w8) _ _
    refine zr_many 3 (pc' := 52) (L' := [some (.ref 5), some (.int x1), some (.ref 1), none, none]) (st' := [.int (57 : Int32), .int (49 : Int32), .ref 1]) (S1 := zS c w8) rfl ?_
    obtain ⟨r9, s10, g11, h⟩ := zb_inv h
    refine zq_call1 rfl rfl (zh_1 _) rfl rfl rfl (tX8_take g11) rfl ?_
    refine zr_many 2 (pc' := 58) (L' := [some (.ref 5), some (.int x1), some (.ref 1), none, some (.int r9)]) (st' := [.ref 5]) (S1 := zS c s10) rfl ?_
    refine zq_get rfl (zh_5 _) rfl rfl rfl ?_
    refine zr_many 4 (pc' := 67) (L' := [some (.ref 5), some (.int x1), some (.ref 1), none, some (.int r9)]) (st' := [.int (r9 - (48 : Int32)), .int x1, .ref 12]) (S1 := zS c s10) rfl ?_
    obtain ⟨g15, h⟩ := zi_cond_inv h
    refine zq_ist rfl zh_12 rfl g15 rfl ?_
    refine zr_many 1 (pc' := 70) (L' := [some (.ref 5), some (.int x1), some (.ref 1), none, some (.int r9)]) (st' := [.int r9]) (S1 := zS c (zsi s10 12 x1.toNatClampNeg (r9 - (48 : Int32)))) rfl ?_
    refine zq_if1 (b := r9 < 0) rfl Iff.rfl rfl (fun g12 => ?_) (fun g12 => ?_)
    · rw [if_pos g12] at h
      refine zr_many 1 (pc' := 78) (L' := [some (.ref 5), some (.int x1), some (.ref 1), none, some (.int r9)]) (st' := [.int (0 : Int32)]) (S1 := zS c (zsi s10 12 x1.toNatClampNeg (r9 - (48 : Int32)))) rfl ?_
      exact zr_wk [none, none, none, none, none] trivial (tX0_readLock_J78 h)
    · rw [if_neg g12] at h
      refine zr_many 2 (pc' := 78) (L' := [some (.ref 5), some (.int x1), some (.ref 1), none, some (.int r9)]) (st' := [.int (1 : Int32)]) (S1 := zS c (zsi s10 12 x1.toNatClampNeg (r9 - (48 : Int32)))) rfl ?_
      exact zr_wk [none, none, none, none, none] trivial (tX0_readLock_J78 h)
def fX0_readPlace_J26 (n : Nat) (s : zs) (y0 : Int32) : Option (Int32 × zs) := some (y0, s)
theorem tX0_readPlace_J26 {n : Nat} {c : Nat × Nat} {s : zs} {y0 : Int32} {r : Int32} {s' : zs} (h : fX0_readPlace_J26 n s y0 = some (r, s')) : zr kX0_readPlace 1 2 26 [none, none, none] [.int y0] (zS c s) (some (.int r)) (zS c s') := by
  unfold fX0_readPlace_J26 at h
  obtain ⟨rfl, rfl⟩ := Prod.mk.inj (Option.some.inj h)
  exact zq_iret rfl
def fX0_readPlace (n : Nat) (s : zs) : Option (Int32 × zs) := zb (fX8_take n s (48 : Int32) ((48 : Int32) + (s.1 5 7))) (fun r1 s2 => if 0 ≤ r1 then fX0_readPlace_J26 n s2 (r1 - (48 : Int32)) else fX0_readPlace_J26 n s2 (-1 : Int32))
theorem tX0_readPlace {n : Nat} {c : Nat × Nat} {s : zs} {r : Int32} {s' : zs} (h : fX0_readPlace n s = some (r, s')) : zc 3 12 [.ref 5, .ref 1] (zS c s) (some (.int r)) (zS c s') := by
  refine zc_of (k := kX0_readPlace) (rt := 1) (L := [some (.ref 5), some (.ref 1), none]) zm_12.1 rfl rfl (by decide) rfl rfl ?_
  unfold fX0_readPlace at h
  refine zr_many 4 (pc' := 6) (L' := [some (.ref 5), some (.ref 1), none]) (st' := [.ref 5, .int (48 : Int32), .int (48 : Int32), .ref 1]) (S1 := zS c s) rfl ?_
  refine zq_get rfl (zh_5 _) rfl rfl rfl ?_
  refine zr_many 1 (pc' := 10) (L' := [some (.ref 5), some (.ref 1), none]) (st' := [.int ((48 : Int32) + (s.1 5 7)), .int (48 : Int32), .ref 1]) (S1 := zS c s) rfl ?_
  obtain ⟨r1, s2, g3, h⟩ := zb_inv h
  refine zq_call1 rfl rfl (zh_1 _) rfl rfl rfl (tX8_take g3) rfl ?_
  refine zr_many 2 (pc' := 15) (L' := [some (.ref 5), some (.ref 1), some (.int r1)]) (st' := [.int r1]) (S1 := zS c s2) rfl ?_
  refine zq_if1 (b := 0 ≤ r1) rfl Iff.rfl rfl (fun g4 => ?_) (fun g4 => ?_)
  · rw [if_pos g4] at h
    refine zr_many 3 (pc' := 26) (L' := [some (.ref 5), some (.ref 1), some (.int r1)]) (st' := [.int (r1 - (48 : Int32))]) (S1 := zS c s2) rfl ?_
    exact zr_wk [none, none, none] trivial (tX0_readPlace_J26 h)
  · rw [if_neg g4] at h
    refine zr_many 2 (pc' := 26) (L' := [some (.ref 5), some (.ref 1), some (.int r1)]) (st' := [.int (-1 : Int32)]) (S1 := zS c s2) rfl ?_
    exact zr_wk [none, none, none] trivial (tX0_readPlace_J26 h)
def fX8_takeNumber_J38 (n : Nat) (s : zs) (x1 : Int32) (x3 : Int32) (x4 : Int32) (y0 : Int32) : Option ((Int32 × Int32 × zs) ⊕ ((Int32 × zs) ⊕ (Int32 × zs))) := some (Sum.inl (((y0 + x4) - (48 : Int32)), (x3 + (1 : Int32)), s))
theorem tX8_takeNumber_J38 {n : Nat} {c : Nat × Nat} {s : zs} {x1 : Int32} {x3 : Int32} {x4 : Int32} {y0 : Int32} {o : _} {v : Option Value} {S' : zi_S} (h : fX8_takeNumber_J38 n s x1 x3 x4 y0 = some o) (hn : ∀ w4, o = Sum.inl w4 → zr kX8_takeNumber 1 2 4 [some (.ref 1), some (.int x1), some (.int w4.1), some (.int w4.2.1), none] [] (zS c w4.2.2) v S') (hx : ∀ z, o = Sum.inr z → (Sum.elim (fun z => zr kX8_takeNumber 1 2 24 [none, none, some (.int z.1), none, none] [] (zS c z.2) v S') (fun z => zr kX8_takeNumber 1 2 51 [none, none, some (.int z.1), none, none] [] (zS c z.2) v S')) z) : zr kX8_takeNumber 1 2 38 [some (.ref 1), some (.int x1), none, some (.int x3), some (.int x4)] [.int y0] (zS c s) v S' := by
  unfold fX8_takeNumber_J38 at h
  refine zr_many 7 (pc' := 4) (L' := [some (.ref 1), some (.int x1), some (.int ((y0 + x4) - (48 : Int32))), some (.int (x3 + (1 : Int32))), some (.int x4)]) (st' := []) (S1 := zS c s) rfl ?_
  obtain rfl := Option.some.inj h
  exact zr_wk [some (.ref 1), some (.int x1), some (.int ((y0 + x4) - (48 : Int32))), some (.int (x3 + (1 : Int32))), none] ⟨rfl, rfl, rfl, rfl, trivial⟩ (hn (((y0 + x4) - (48 : Int32)), (x3 + (1 : Int32)), s) rfl)
def fX8_takeNumber_B4 (n : Nat) (x1 : Int32) (w4 : Int32 × Int32 × zs) : Option ((Int32 × Int32 × zs) ⊕ ((Int32 × zs) ⊕ (Int32 × zs))) := if x1 ≤ w4.2.1 then some (Sum.inr (Sum.inr (w4.1, w4.2.2))) else zb (fX8_take n w4.2.2 (48 : Int32) (57 : Int32)) (fun r2 s3 => if 0 ≤ r2 then if ¬ w4.2.1 = 0 then fX8_takeNumber_J38 n s3 x1 w4.2.1 r2 (w4.1 * (10 : Int32)) else fX8_takeNumber_J38 n s3 x1 w4.2.1 r2 (0 : Int32) else some (Sum.inr (Sum.inl (w4.1, s3))))
theorem tX8_takeNumber_B4 {n : Nat} {c : Nat × Nat} {x1 : Int32} {w4 : Int32 × Int32 × zs} {o : _} {v : Option Value} {S' : zi_S} (h : fX8_takeNumber_B4 n x1 w4 = some o) (hn : ∀ w4, o = Sum.inl w4 → zr kX8_takeNumber 1 2 4 [some (.ref 1), some (.int x1), some (.int w4.1), some (.int w4.2.1), none] [] (zS c w4.2.2) v S') (hx : ∀ z, o = Sum.inr z → (Sum.elim (fun z => zr kX8_takeNumber 1 2 24 [none, none, some (.int z.1), none, none] [] (zS c z.2) v S') (fun z => zr kX8_takeNumber 1 2 51 [none, none, some (.int z.1), none, none] [] (zS c z.2) v S')) z) : zr kX8_takeNumber 1 2 4 [some (.ref 1), some (.int x1), some (.int w4.1), some (.int w4.2.1), none] [] (zS c w4.2.2) v S' := by
  unfold fX8_takeNumber_B4 at h
  refine zr_many 2 (pc' := 6) (L' := [some (.ref 1), some (.int x1), some (.int w4.1), some (.int w4.2.1), none]) (st' := [.int x1, .int w4.2.1]) (S1 := zS c w4.2.2) rfl ?_
  refine zq_if2 (b := x1 ≤ w4.2.1) rfl Iff.rfl rfl (fun g1 => ?_) (fun g1 => ?_)
  · rw [if_pos g1] at h
    obtain rfl := Option.some.inj h
    exact zr_wk [none, none, some (.int w4.1), none, none] ⟨rfl, trivial⟩ (hx (Sum.inr (w4.1, w4.2.2)) rfl)
  · rw [if_neg g1] at h
    refine zr_many 3 (pc' := 14) (L' := [some (.ref 1), some (.int x1), some (.int w4.1), some (.int w4.2.1), none]) (st' := [.int (57 : Int32), .int (48 : Int32), .ref 1]) (S1 := zS c w4.2.2) rfl ?_
    obtain ⟨r2, s3, g4, h⟩ := zb_inv h
    refine zq_call1 rfl rfl (zh_1 _) rfl rfl rfl (tX8_take g4) rfl ?_
    refine zr_many 2 (pc' := 21) (L' := [some (.ref 1), some (.int x1), some (.int w4.1), some (.int w4.2.1), some (.int r2)]) (st' := [.int r2]) (S1 := zS c s3) rfl ?_
    refine zq_if1 (b := 0 ≤ r2) rfl Iff.rfl rfl (fun g5 => ?_) (fun g5 => ?_)
    · rw [if_pos g5] at h
      refine zr_many 1 (pc' := 27) (L' := [some (.ref 1), some (.int x1), some (.int w4.1), some (.int w4.2.1), some (.int r2)]) (st' := [.int w4.2.1]) (S1 := zS c s3) rfl ?_
      refine zq_if1 (b := ¬ w4.2.1 = 0) rfl Iff.rfl rfl (fun g6 => ?_) (fun g6 => ?_)
      · rw [if_pos g6] at h
        refine zr_many 3 (pc' := 38) (L' := [some (.ref 1), some (.int x1), some (.int w4.1), some (.int w4.2.1), some (.int r2)]) (st' := [.int (w4.1 * (10 : Int32))]) (S1 := zS c s3) rfl ?_
        exact zr_wk [some (.ref 1), some (.int x1), none, some (.int w4.2.1), some (.int r2)] ⟨rfl, rfl, rfl, rfl, trivial⟩ (tX8_takeNumber_J38 h hn hx)
      · rw [if_neg g6] at h
        refine zr_many 2 (pc' := 38) (L' := [some (.ref 1), some (.int x1), some (.int w4.1), some (.int w4.2.1), some (.int r2)]) (st' := [.int (0 : Int32)]) (S1 := zS c s3) rfl ?_
        exact zr_wk [some (.ref 1), some (.int x1), none, some (.int w4.2.1), some (.int r2)] ⟨rfl, rfl, rfl, rfl, trivial⟩ (tX8_takeNumber_J38 h hn hx)
    · rw [if_neg g5] at h
      obtain rfl := Option.some.inj h
      exact zr_wk [none, none, some (.int w4.1), none, none] ⟨rfl, trivial⟩ (hx (Sum.inl (w4.1, s3)) rfl)
def fX8_takeNumber (n : Nat) (s : zs) (x1 : Int32) : Option (Int32 × zs) := zp (zl (fX8_takeNumber_B4 n x1) n ((-1 : Int32), (0 : Int32), s)) (Sum.elim (fun w7 => some (w7.1, w7.2)) (fun w8 => some (w8.1, w8.2)))
theorem tX8_takeNumber {n : Nat} {c : Nat × Nat} {s : zs} {x1 : Int32} {r : Int32} {s' : zs} (h : fX8_takeNumber n s x1 = some (r, s')) : zc 3 1611 [.ref 1, .int x1] (zS c s) (some (.int r)) (zS c s') := by
  refine zc_of (k := kX8_takeNumber) (rt := 1) (L := [some (.ref 1), some (.int x1), none, none, none]) zm_1611.1 rfl rfl (by decide) rfl rfl ?_
  unfold fX8_takeNumber at h
  refine zr_many 4 (pc' := 4) (L' := [some (.ref 1), some (.int x1), some (.int (-1 : Int32)), some (.int (0 : Int32)), none]) (st' := []) (S1 := zS c s) rfl ?_
  obtain ⟨w10, g9, h⟩ := zp_inv h
  rcases w10 with w7 | w8
  · simp only [Sum.elim_inl, Sum.elim_inr] at h
    refine zr_wk [some (.ref 1), some (.int x1), some (.int (-1 : Int32)), some (.int (0 : Int32)), none] ⟨rfl, rfl, rfl, rfl, trivial⟩ (zl_cert (Z := fun w4 => zr kX8_takeNumber 1 2 4 [some (.ref 1), some (.int x1), some (.int w4.1), some (.int w4.2.1), none] [] (zS c w4.2.2) _ _) (Y := (Sum.elim (fun z => zr kX8_takeNumber 1 2 24 [none, none, some (.int z.1), none, none] [] (zS c z.2) _ _) (fun z => zr kX8_takeNumber 1 2 51 [none, none, some (.int z.1), none, none] [] (zS c z.2) _ _))) (fun w o h1 h2 h3 => tX8_takeNumber_B4 h1 h2 h3) n _ _ g9 ?_)
    show zr kX8_takeNumber 1 2 24 [none, none, some (.int w7.1), none, none] [] (zS c w7.2) _ _
    refine zr_many 1 (pc' := 25) (L' := [none, none, some (.int w7.1), none, none]) (st' := [.int w7.1]) (S1 := zS c w7.2) rfl ?_
    obtain ⟨rfl, rfl⟩ := Prod.mk.inj (Option.some.inj h)
    exact zq_iret rfl
  · simp only [Sum.elim_inl, Sum.elim_inr] at h
    refine zr_wk [some (.ref 1), some (.int x1), some (.int (-1 : Int32)), some (.int (0 : Int32)), none] ⟨rfl, rfl, rfl, rfl, trivial⟩ (zl_cert (Z := fun w4 => zr kX8_takeNumber 1 2 4 [some (.ref 1), some (.int x1), some (.int w4.1), some (.int w4.2.1), none] [] (zS c w4.2.2) _ _) (Y := (Sum.elim (fun z => zr kX8_takeNumber 1 2 24 [none, none, some (.int z.1), none, none] [] (zS c z.2) _ _) (fun z => zr kX8_takeNumber 1 2 51 [none, none, some (.int z.1), none, none] [] (zS c z.2) _ _))) (fun w o h1 h2 h3 => tX8_takeNumber_B4 h1 h2 h3) n _ _ g9 ?_)
    show zr kX8_takeNumber 1 2 51 [none, none, some (.int w8.1), none, none] [] (zS c w8.2) _ _
    refine zr_many 1 (pc' := 52) (L' := [none, none, some (.int w8.1), none, none]) (st' := [.int w8.1]) (S1 := zS c w8.2) rfl ?_
    obtain ⟨rfl, rfl⟩ := Prod.mk.inj (Option.some.inj h)
    exact zq_iret rfl
def fX0_readSinger_J57 (n : Nat) (s : zs) : Option (Int32 × zs) := some ((0 : Int32), s)
theorem tX0_readSinger_J57 {n : Nat} {c : Nat × Nat} {s : zs} {r : Int32} {s' : zs} (h : fX0_readSinger_J57 n s = some (r, s')) : zr kX0_readSinger 2 3 57 [none, none, none, none, none, none, none] [] (zS c s) (some (.int r)) (zS c s') := by
  unfold fX0_readSinger_J57 at h
  refine zr_many 1 (pc' := 58) (L' := [none, none, none, none, none, none, none]) (st' := [.int (0 : Int32)]) (S1 := zS c s) rfl ?_
  obtain ⟨rfl, rfl⟩ := Prod.mk.inj (Option.some.inj h)
  exact zq_zret rfl (by decide)
def fX0_readSinger_J128 (n : Nat) (s : zs) (y0 : Int32) : Option (Int32 × zs) := if y0 = 0 ∨ y0 = 1 then some (y0, s) else none
theorem tX0_readSinger_J128 {n : Nat} {c : Nat × Nat} {s : zs} {y0 : Int32} {r : Int32} {s' : zs} (h : fX0_readSinger_J128 n s y0 = some (r, s')) : zr kX0_readSinger 2 3 128 [none, none, none, none, none, none, none] [.int y0] (zS c s) (some (.int r)) (zS c s') := by
  unfold fX0_readSinger_J128 at h
  obtain ⟨gz, h⟩ := zt_inv h
  obtain ⟨rfl, rfl⟩ := Prod.mk.inj (Option.some.inj h)
  exact zq_zret rfl gz
def fX0_readSinger (n : Nat) (s : zs) (x1 : Int32) (m3 : Nat) : Option (Int32 × zs) := zb (fX8_take n s (97 : Int32) (122 : Int32)) (fun r1 s2 => if 0 ≤ r1 then zb (fX8_take n s2 r1 (122 : Int32)) (fun r5 s6 => if 0 ≤ r5 then zb (fX0_readPlace n s6) (fun r9 s10 => if r9 < 0 then fX0_readSinger_J57 n s10 else zb (fX8_take n s10 (58 : Int32) (58 : Int32)) (fun r13 s14 => if 0 ≤ r13 then cond (zi_in x1 8) (zt (zsi s14 13 x1.toNatClampNeg (r1 - (97 : Int32))) (fun s17 => cond (zi_in x1 8) (zb (fX8_takeNumber n (zsi s17 14 x1.toNatClampNeg (r5 - (97 : Int32))) (2 : Int32)) (fun r19 s20 => cond (zi_in x1 8) (zt (zsi s20 15 x1.toNatClampNeg r19) (fun s22 => cond (zi_in x1 8) (zt (zsi s22 (m3 + 1) x1.toNatClampNeg r9) (fun s24 => cond (zi_in x1 8) (zt (zsi s24 (m3 + 2) x1.toNatClampNeg (-1 : Int32)) (fun s26 => cond (zi_in x1 8) (cond (zi_in x1 8) (if ((zsi s26 (m3 + 3) x1.toNatClampNeg (0 : Int32)).1 15 x1.toNatClampNeg) < 0 then fX0_readSinger_J128 n (zsi s26 (m3 + 3) x1.toNatClampNeg (0 : Int32)) (0 : Int32) else fX0_readSinger_J128 n (zsi s26 (m3 + 3) x1.toNatClampNeg (0 : Int32)) (1 : Int32)) none) none)) none)) none)) none)) none)) none else fX0_readSinger_J57 n s14)) else some ((0 : Int32), s6)) else some ((0 : Int32), s2))
theorem tX0_readSinger {n : Nat} {c : Nat × Nat} {s : zs} {x1 : Int32} {m3 : Nat} {r : Int32} {s' : zs} (hm3 : zM m3) (h : fX0_readSinger n s x1 m3 = some (r, s')) : zc 4 10 [.ref 5, .int x1, .ref 1, .ref m3] (zS c s) (some (.int r)) (zS c s') := by
  refine zc_of (k := kX0_readSinger) (rt := 2) (L := [some (.ref 5), some (.int x1), some (.ref 1), some (.ref m3), none, none, none]) zm_10.1 rfl rfl (by decide) rfl rfl ?_
  unfold fX0_readSinger at h
  refine zr_many 3 (pc' := 5) (L' := [some (.ref 5), some (.int x1), some (.ref 1), some (.ref m3), none, none, none]) (st' := [.int (122 : Int32), .int (97 : Int32), .ref 1]) (S1 := zS c s) rfl ?_
  obtain ⟨r1, s2, g3, h⟩ := zb_inv h
  refine zq_call1 rfl rfl (zh_1 _) rfl rfl rfl ((tX8_take g3).up (by decide)) rfl ?_
  refine zr_many 2 (pc' := 12) (L' := [some (.ref 5), some (.int x1), some (.ref 1), some (.ref m3), some (.int r1), none, none]) (st' := [.int r1]) (S1 := zS c s2) rfl ?_
  refine zq_if1 (b := 0 ≤ r1) rfl Iff.rfl rfl (fun g4 => ?_) (fun g4 => ?_)
  · rw [if_pos g4] at h
    refine zr_many 3 (pc' := 22) (L' := [some (.ref 5), some (.int x1), some (.ref 1), some (.ref m3), some (.int r1), none, none]) (st' := [.int (122 : Int32), .int r1, .ref 1]) (S1 := zS c s2) rfl ?_
    obtain ⟨r5, s6, g7, h⟩ := zb_inv h
    refine zq_call1 rfl rfl (zh_1 _) rfl rfl rfl ((tX8_take g7).up (by decide)) rfl ?_
    refine zr_many 2 (pc' := 29) (L' := [some (.ref 5), some (.int x1), some (.ref 1), some (.ref m3), some (.int r1), some (.int r5), none]) (st' := [.int r5]) (S1 := zS c s6) rfl ?_
    refine zq_if1 (b := 0 ≤ r5) rfl Iff.rfl rfl (fun g8 => ?_) (fun g8 => ?_)
    · rw [if_pos g8] at h
      refine zr_many 2 (pc' := 36) (L' := [some (.ref 5), some (.int x1), some (.ref 1), some (.ref m3), some (.int r1), some (.int r5), none]) (st' := [.ref 1, .ref 5]) (S1 := zS c s6) rfl ?_
      obtain ⟨r9, s10, g11, h⟩ := zb_inv h
      refine zq_call1 rfl rfl (zh_5 _) rfl rfl rfl (tX0_readPlace g11) rfl ?_
      refine zr_many 2 (pc' := 43) (L' := [some (.ref 5), some (.int x1), some (.ref 1), some (.ref m3), some (.int r1), some (.int r5), some (.int r9)]) (st' := [.int r9]) (S1 := zS c s10) rfl ?_
      refine zq_if1 (b := r9 < 0) rfl Iff.rfl rfl (fun g12 => ?_) (fun g12 => ?_)
      · rw [if_pos g12] at h
        exact zr_wk [none, none, none, none, none, none, none] trivial (tX0_readSinger_J57 h)
      · rw [if_neg g12] at h
        refine zr_many 3 (pc' := 51) (L' := [some (.ref 5), some (.int x1), some (.ref 1), some (.ref m3), some (.int r1), some (.int r5), some (.int r9)]) (st' := [.int (58 : Int32), .int (58 : Int32), .ref 1]) (S1 := zS c s10) rfl ?_
        obtain ⟨r13, s14, g15, h⟩ := zb_inv h
        refine zq_call1 rfl rfl (zh_1 _) rfl rfl rfl ((tX8_take g15).up (by decide)) rfl ?_
        refine zq_if1 (b := 0 ≤ r13) rfl Iff.rfl rfl (fun g16 => ?_) (fun g16 => ?_)
        · rw [if_pos g16] at h
          refine zr_many 1 (pc' := 60) (L' := [some (.ref 5), some (.int x1), some (.ref 1), some (.ref m3), some (.int r1), some (.int r5), some (.int r9)]) (st' := [.ref 5]) (S1 := zS c s14) rfl ?_
          refine zq_get rfl (zh_5 _) rfl rfl rfl ?_
          refine zr_many 4 (pc' := 69) (L' := [some (.ref 5), some (.int x1), some (.ref 1), some (.ref m3), some (.int r1), some (.int r5), some (.int r9)]) (st' := [.int (r1 - (97 : Int32)), .int x1, .ref 13]) (S1 := zS c s14) rfl ?_
          obtain ⟨g30, h⟩ := zi_cond_inv h
          refine zq_ist rfl zh_13 rfl g30 rfl ?_
          refine zr_many 1 (pc' := 71) (L' := [some (.ref 5), some (.int x1), some (.ref 1), some (.ref m3), some (.int r1), some (.int r5), some (.int r9)]) (st' := [.ref 5]) (S1 := zS c (zsi s14 13 x1.toNatClampNeg (r1 - (97 : Int32)))) rfl ?_
          refine zq_get rfl (zh_5 _) rfl rfl rfl ?_
          refine zr_many 4 (pc' := 80) (L' := [some (.ref 5), some (.int x1), some (.ref 1), some (.ref m3), some (.int r1), some (.int r5), some (.int r9)]) (st' := [.int (r5 - (97 : Int32)), .int x1, .ref 14]) (S1 := zS c (zsi s14 13 x1.toNatClampNeg (r1 - (97 : Int32)))) rfl ?_
          obtain ⟨s17, e18, h⟩ := zt_in h
          rw [← e18]
          obtain ⟨g31, h⟩ := zi_cond_inv h
          refine zq_ist rfl zh_14 rfl g31 rfl ?_
          refine zr_many 1 (pc' := 82) (L' := [some (.ref 5), some (.int x1), some (.ref 1), some (.ref m3), some (.int r1), some (.int r5), some (.int r9)]) (st' := [.ref 5]) (S1 := zS c (zsi s17 14 x1.toNatClampNeg (r5 - (97 : Int32)))) rfl ?_
          refine zq_get rfl (zh_5 _) rfl rfl rfl ?_
          refine zr_many 3 (pc' := 88) (L' := [some (.ref 5), some (.int x1), some (.ref 1), some (.ref m3), some (.int r1), some (.int r5), some (.int r9)]) (st' := [.int (2 : Int32), .ref 1, .int x1, .ref 15]) (S1 := zS c (zsi s17 14 x1.toNatClampNeg (r5 - (97 : Int32)))) rfl ?_
          obtain ⟨r19, s20, g21, h⟩ := zb_inv h
          refine zq_call1 rfl rfl (zh_1 _) rfl rfl rfl (tX8_takeNumber g21) rfl ?_
          obtain ⟨g32, h⟩ := zi_cond_inv h
          refine zq_ist rfl zh_15 rfl g32 rfl ?_
          refine zr_many 1 (pc' := 93) (L' := [some (.ref 5), some (.int x1), some (.ref 1), some (.ref m3), some (.int r1), some (.int r5), some (.int r9)]) (st' := [.ref m3]) (S1 := zS c (zsi s20 15 x1.toNatClampNeg r19)) rfl ?_
          refine zq_get rfl (zhM_0 hm3 _) (zM_lt (j := 0) hm3 (by decide)) rfl rfl ?_
          refine zr_many 2 (pc' := 99) (L' := [some (.ref 5), some (.int x1), some (.ref 1), some (.ref m3), some (.int r1), some (.int r5), some (.int r9)]) (st' := [.int r9, .int x1, .ref (m3 + 1)]) (S1 := zS c (zsi s20 15 x1.toNatClampNeg r19)) rfl ?_
          obtain ⟨s22, e23, h⟩ := zt_in h
          rw [← e23]
          obtain ⟨g33, h⟩ := zi_cond_inv h
          refine zq_ist rfl (zhM_1 hm3) (zM_lt (j := 1) hm3 (by decide)) g33 rfl ?_
          refine zr_many 1 (pc' := 101) (L' := [some (.ref 5), some (.int x1), some (.ref 1), some (.ref m3), some (.int r1), some (.int r5), some (.int r9)]) (st' := [.ref m3]) (S1 := zS c (zsi s22 (m3 + 1) x1.toNatClampNeg r9)) rfl ?_
          refine zq_get rfl (zhM_0 hm3 _) (zM_lt (j := 0) hm3 (by decide)) rfl rfl ?_
          refine zr_many 2 (pc' := 106) (L' := [some (.ref 5), some (.int x1), some (.ref 1), some (.ref m3), some (.int r1), some (.int r5), some (.int r9)]) (st' := [.int (-1 : Int32), .int x1, .ref (m3 + 2)]) (S1 := zS c (zsi s22 (m3 + 1) x1.toNatClampNeg r9)) rfl ?_
          obtain ⟨s24, e25, h⟩ := zt_in h
          rw [← e25]
          obtain ⟨g34, h⟩ := zi_cond_inv h
          refine zq_ist rfl (zhM_2 hm3) (zM_lt (j := 2) hm3 (by decide)) g34 rfl ?_
          refine zr_many 1 (pc' := 108) (L' := [some (.ref 5), some (.int x1), some (.ref 1), some (.ref m3), some (.int r1), some (.int r5), some (.int r9)]) (st' := [.ref m3]) (S1 := zS c (zsi s24 (m3 + 2) x1.toNatClampNeg (-1 : Int32))) rfl ?_
          refine zq_get rfl (zhM_0 hm3 _) (zM_lt (j := 0) hm3 (by decide)) rfl rfl ?_
          refine zr_many 2 (pc' := 113) (L' := [some (.ref 5), some (.int x1), some (.ref 1), some (.ref m3), some (.int r1), some (.int r5), some (.int r9)]) (st' := [.int (0 : Int32), .int x1, .ref (m3 + 3)]) (S1 := zS c (zsi s24 (m3 + 2) x1.toNatClampNeg (-1 : Int32))) rfl ?_
          obtain ⟨s26, e27, h⟩ := zt_in h
          rw [← e27]
          obtain ⟨g35, h⟩ := zi_cond_inv h
          refine zq_ist rfl (zhM_3 hm3) (zM_lt (j := 3) hm3 (by decide)) g35 rfl ?_
          refine zr_many 1 (pc' := 115) (L' := [some (.ref 5), some (.int x1), some (.ref 1), some (.ref m3), some (.int r1), some (.int r5), some (.int r9)]) (st' := [.ref 5]) (S1 := zS c (zsi s26 (m3 + 3) x1.toNatClampNeg (0 : Int32))) rfl ?_
          refine zq_get rfl (zh_5 _) rfl rfl rfl ?_
          refine zr_many 1 (pc' := 119) (L' := [some (.ref 5), some (.int x1), some (.ref 1), some (.ref m3), some (.int r1), some (.int r5), some (.int r9)]) (st' := [.int x1, .ref 15]) (S1 := zS c (zsi s26 (m3 + 3) x1.toNatClampNeg (0 : Int32))) rfl ?_
          obtain ⟨g28, h⟩ := zi_cond_inv h
          refine zq_ild rfl (zh_15 _) rfl g28 rfl ?_
          refine zq_if1 (b := ((zsi s26 (m3 + 3) x1.toNatClampNeg (0 : Int32)).1 15 x1.toNatClampNeg) < 0) rfl Iff.rfl rfl (fun g29 => ?_) (fun g29 => ?_)
          · rw [if_pos g29] at h
            refine zr_many 1 (pc' := 128) (L' := [some (.ref 5), some (.int x1), some (.ref 1), some (.ref m3), some (.int r1), some (.int r5), some (.int r9)]) (st' := [.int (0 : Int32)]) (S1 := zS c (zsi s26 (m3 + 3) x1.toNatClampNeg (0 : Int32))) rfl ?_
            exact zr_wk [none, none, none, none, none, none, none] trivial (tX0_readSinger_J128 h)
          · rw [if_neg g29] at h
            refine zr_many 2 (pc' := 128) (L' := [some (.ref 5), some (.int x1), some (.ref 1), some (.ref m3), some (.int r1), some (.int r5), some (.int r9)]) (st' := [.int (1 : Int32)]) (S1 := zS c (zsi s26 (m3 + 3) x1.toNatClampNeg (0 : Int32))) rfl ?_
            exact zr_wk [none, none, none, none, none, none, none] trivial (tX0_readSinger_J128 h)
        · rw [if_neg g16] at h
          exact zr_wk [none, none, none, none, none, none, none] trivial (tX0_readSinger_J57 h)
    · rw [if_neg g8] at h
      refine zr_many 1 (pc' := 33) (L' := [some (.ref 5), some (.int x1), some (.ref 1), some (.ref m3), some (.int r1), some (.int r5), none]) (st' := [.int (0 : Int32)]) (S1 := zS c s6) rfl ?_
      obtain ⟨rfl, rfl⟩ := Prod.mk.inj (Option.some.inj h)
      exact zq_zret rfl (by decide)
  · rw [if_neg g4] at h
    refine zr_many 1 (pc' := 16) (L' := [some (.ref 5), some (.int x1), some (.ref 1), some (.ref m3), some (.int r1), none, none]) (st' := [.int (0 : Int32)]) (S1 := zS c s2) rfl ?_
    obtain ⟨rfl, rfl⟩ := Prod.mk.inj (Option.some.inj h)
    exact zq_zret rfl (by decide)
def fX0_readBarge_J55 (n : Nat) (s : zs) (y0 : Int32) : Option (Int32 × zs) := if y0 = 0 ∨ y0 = 1 then some (y0, s) else none
theorem tX0_readBarge_J55 {n : Nat} {c : Nat × Nat} {s : zs} {y0 : Int32} {r : Int32} {s' : zs} (h : fX0_readBarge_J55 n s y0 = some (r, s')) : zr kX0_readBarge 2 3 55 [none, none, none, none, none] [.int y0] (zS c s) (some (.int r)) (zS c s') := by
  unfold fX0_readBarge_J55 at h
  obtain ⟨gz, h⟩ := zt_inv h
  obtain ⟨rfl, rfl⟩ := Prod.mk.inj (Option.some.inj h)
  exact zq_zret rfl gz
def fX0_readBarge (n : Nat) (s : zs) (x1 : Int32) (m3 : Nat) : Option (Int32 × zs) := zb (fX0_readPlace n s) (fun r1 s2 => if 0 ≤ r1 then zb (fX8_takeNumber n s2 (1 : Int32)) (fun r5 s6 => cond (zi_in x1 4) (zt (zsi s6 16 x1.toNatClampNeg r5) (fun s8 => cond (zi_in x1 4) (zt (zsi s8 (m3 + 4) x1.toNatClampNeg r1) (fun s10 => cond (zi_in x1 4) (cond (zi_in x1 4) (if ((zsi s10 (m3 + 5) x1.toNatClampNeg (100 : Int32)).1 16 x1.toNatClampNeg) < 0 then fX0_readBarge_J55 n (zsi s10 (m3 + 5) x1.toNatClampNeg (100 : Int32)) (0 : Int32) else fX0_readBarge_J55 n (zsi s10 (m3 + 5) x1.toNatClampNeg (100 : Int32)) (1 : Int32)) none) none)) none)) none) else some ((0 : Int32), s2))
theorem tX0_readBarge {n : Nat} {c : Nat × Nat} {s : zs} {x1 : Int32} {m3 : Nat} {r : Int32} {s' : zs} (hm3 : zM m3) (h : fX0_readBarge n s x1 m3 = some (r, s')) : zc 4 11 [.ref 5, .int x1, .ref 1, .ref m3] (zS c s) (some (.int r)) (zS c s') := by
  refine zc_of (k := kX0_readBarge) (rt := 2) (L := [some (.ref 5), some (.int x1), some (.ref 1), some (.ref m3), none]) zm_11.1 rfl rfl (by decide) rfl rfl ?_
  unfold fX0_readBarge at h
  refine zr_many 2 (pc' := 2) (L' := [some (.ref 5), some (.int x1), some (.ref 1), some (.ref m3), none]) (st' := [.ref 1, .ref 5]) (S1 := zS c s) rfl ?_
  obtain ⟨r1, s2, g3, h⟩ := zb_inv h
  refine zq_call1 rfl rfl (zh_5 _) rfl rfl rfl (tX0_readPlace g3) rfl ?_
  refine zr_many 2 (pc' := 9) (L' := [some (.ref 5), some (.int x1), some (.ref 1), some (.ref m3), some (.int r1)]) (st' := [.int r1]) (S1 := zS c s2) rfl ?_
  refine zq_if1 (b := 0 ≤ r1) rfl Iff.rfl rfl (fun g4 => ?_) (fun g4 => ?_)
  · rw [if_pos g4] at h
    refine zr_many 1 (pc' := 15) (L' := [some (.ref 5), some (.int x1), some (.ref 1), some (.ref m3), some (.int r1)]) (st' := [.ref 5]) (S1 := zS c s2) rfl ?_
    refine zq_get rfl (zh_5 _) rfl rfl rfl ?_
    refine zr_many 3 (pc' := 21) (L' := [some (.ref 5), some (.int x1), some (.ref 1), some (.ref m3), some (.int r1)]) (st' := [.int (1 : Int32), .ref 1, .int x1, .ref 16]) (S1 := zS c s2) rfl ?_
    obtain ⟨r5, s6, g7, h⟩ := zb_inv h
    refine zq_call1 rfl rfl (zh_1 _) rfl rfl rfl (tX8_takeNumber g7) rfl ?_
    obtain ⟨g14, h⟩ := zi_cond_inv h
    refine zq_ist rfl zh_16 rfl g14 rfl ?_
    refine zr_many 1 (pc' := 26) (L' := [some (.ref 5), some (.int x1), some (.ref 1), some (.ref m3), some (.int r1)]) (st' := [.ref m3]) (S1 := zS c (zsi s6 16 x1.toNatClampNeg r5)) rfl ?_
    refine zq_get rfl (zhM_0 hm3 _) (zM_lt (j := 0) hm3 (by decide)) rfl rfl ?_
    refine zr_many 2 (pc' := 32) (L' := [some (.ref 5), some (.int x1), some (.ref 1), some (.ref m3), some (.int r1)]) (st' := [.int r1, .int x1, .ref (m3 + 4)]) (S1 := zS c (zsi s6 16 x1.toNatClampNeg r5)) rfl ?_
    obtain ⟨s8, e9, h⟩ := zt_in h
    rw [← e9]
    obtain ⟨g15, h⟩ := zi_cond_inv h
    refine zq_ist rfl (zhM_4 hm3) (zM_lt (j := 4) hm3 (by decide)) g15 rfl ?_
    refine zr_many 1 (pc' := 34) (L' := [some (.ref 5), some (.int x1), some (.ref 1), some (.ref m3), some (.int r1)]) (st' := [.ref m3]) (S1 := zS c (zsi s8 (m3 + 4) x1.toNatClampNeg r1)) rfl ?_
    refine zq_get rfl (zhM_0 hm3 _) (zM_lt (j := 0) hm3 (by decide)) rfl rfl ?_
    refine zr_many 2 (pc' := 40) (L' := [some (.ref 5), some (.int x1), some (.ref 1), some (.ref m3), some (.int r1)]) (st' := [.int (100 : Int32), .int x1, .ref (m3 + 5)]) (S1 := zS c (zsi s8 (m3 + 4) x1.toNatClampNeg r1)) rfl ?_
    obtain ⟨s10, e11, h⟩ := zt_in h
    rw [← e11]
    obtain ⟨g16, h⟩ := zi_cond_inv h
    refine zq_ist rfl (zhM_5 hm3) (zM_lt (j := 5) hm3 (by decide)) g16 rfl ?_
    refine zr_many 1 (pc' := 42) (L' := [some (.ref 5), some (.int x1), some (.ref 1), some (.ref m3), some (.int r1)]) (st' := [.ref 5]) (S1 := zS c (zsi s10 (m3 + 5) x1.toNatClampNeg (100 : Int32))) rfl ?_
    refine zq_get rfl (zh_5 _) rfl rfl rfl ?_
    refine zr_many 1 (pc' := 46) (L' := [some (.ref 5), some (.int x1), some (.ref 1), some (.ref m3), some (.int r1)]) (st' := [.int x1, .ref 16]) (S1 := zS c (zsi s10 (m3 + 5) x1.toNatClampNeg (100 : Int32))) rfl ?_
    obtain ⟨g12, h⟩ := zi_cond_inv h
    refine zq_ild rfl (zh_16 _) rfl g12 rfl ?_
    refine zq_if1 (b := ((zsi s10 (m3 + 5) x1.toNatClampNeg (100 : Int32)).1 16 x1.toNatClampNeg) < 0) rfl Iff.rfl rfl (fun g13 => ?_) (fun g13 => ?_)
    · rw [if_pos g13] at h
      refine zr_many 1 (pc' := 55) (L' := [some (.ref 5), some (.int x1), some (.ref 1), some (.ref m3), some (.int r1)]) (st' := [.int (0 : Int32)]) (S1 := zS c (zsi s10 (m3 + 5) x1.toNatClampNeg (100 : Int32))) rfl ?_
      exact zr_wk [none, none, none, none, none] trivial (tX0_readBarge_J55 h)
    · rw [if_neg g13] at h
      refine zr_many 2 (pc' := 55) (L' := [some (.ref 5), some (.int x1), some (.ref 1), some (.ref m3), some (.int r1)]) (st' := [.int (1 : Int32)]) (S1 := zS c (zsi s10 (m3 + 5) x1.toNatClampNeg (100 : Int32))) rfl ?_
      exact zr_wk [none, none, none, none, none] trivial (tX0_readBarge_J55 h)
  · rw [if_neg g4] at h
    refine zr_many 1 (pc' := 13) (L' := [some (.ref 5), some (.int x1), some (.ref 1), some (.ref m3), some (.int r1)]) (st' := [.int (0 : Int32)]) (S1 := zS c s2) rfl ?_
    obtain ⟨rfl, rfl⟩ := Prod.mk.inj (Option.some.inj h)
    exact zq_zret rfl (by decide)
def fX0_readLine_J35 (n : Nat) (s : zs) (y0 : Int32) : Option (Int32 × zs) := if y0 = 0 ∨ y0 = 1 then some (y0, s) else none
theorem tX0_readLine_J35 {n : Nat} {c : Nat × Nat} {s : zs} {y0 : Int32} {r : Int32} {s' : zs} (h : fX0_readLine_J35 n s y0 = some (r, s')) : zr kX0_readLine 2 4 35 [none, none, none, none, none] [.int y0] (zS c s) (some (.int r)) (zS c s') := by
  unfold fX0_readLine_J35 at h
  obtain ⟨gz, h⟩ := zt_inv h
  obtain ⟨rfl, rfl⟩ := Prod.mk.inj (Option.some.inj h)
  exact zq_zret rfl gz
def fX0_readLine (n : Nat) (s : zs) (x1 : Int32) (x2 : Int32) (m4 : Nat) : Option (Int32 × zs) := if ¬ x1 = 0 then if ¬ x1 = (1 : Int32) then zb (fX0_readBarge n s x2 m4) (fun r3 s4 => fX0_readLine_J35 n s4 r3) else zb (fX0_readSinger n s x2 m4) (fun r6 s7 => fX0_readLine_J35 n s7 r6) else zb (fX0_readLock n s x2) (fun r9 s10 => if r9 = 0 ∨ r9 = 1 then some (r9, s10) else none)
theorem tX0_readLine {n : Nat} {c : Nat × Nat} {s : zs} {x1 : Int32} {x2 : Int32} {m4 : Nat} {r : Int32} {s' : zs} (hm4 : zM m4) (h : fX0_readLine n s x1 x2 m4 = some (r, s')) : zc 5 8 [.ref 5, .int x1, .int x2, .ref 1, .ref m4] (zS c s) (some (.int r)) (zS c s') := by
  refine zc_of (k := kX0_readLine) (rt := 2) (L := [some (.ref 5), some (.int x1), some (.int x2), some (.ref 1), some (.ref m4)]) zm_8.1 rfl rfl (by decide) rfl rfl ?_
  unfold fX0_readLine at h
  refine zr_many 1 (pc' := 1) (L' := [some (.ref 5), some (.int x1), some (.int x2), some (.ref 1), some (.ref m4)]) (st' := [.int x1]) (S1 := zS c s) rfl ?_
  refine zq_if1 (b := ¬ x1 = 0) rfl Iff.rfl rfl (fun g1 => ?_) (fun g1 => ?_)
  · rw [if_pos g1] at h
    refine zr_many 2 (pc' := 13) (L' := [some (.ref 5), some (.int x1), some (.int x2), some (.ref 1), some (.ref m4)]) (st' := [.int (1 : Int32), .int x1]) (S1 := zS c s) rfl ?_
    refine zq_if2 (b := ¬ x1 = (1 : Int32)) rfl Iff.rfl rfl (fun g2 => ?_) (fun g2 => ?_)
    · rw [if_pos g2] at h
      refine zr_many 4 (pc' := 32) (L' := [some (.ref 5), some (.int x1), some (.int x2), some (.ref 1), some (.ref m4)]) (st' := [.ref m4, .ref 1, .int x2, .ref 5]) (S1 := zS c s) rfl ?_
      obtain ⟨r3, s4, g5, h⟩ := zb_inv h
      refine zq_call1 rfl rfl (zh_5 _) rfl rfl rfl (tX0_readBarge hm4 g5) rfl ?_
      exact zr_wk [none, none, none, none, none] trivial (tX0_readLine_J35 h)
    · rw [if_neg g2] at h
      refine zr_many 4 (pc' := 21) (L' := [some (.ref 5), some (.int x1), some (.int x2), some (.ref 1), some (.ref m4)]) (st' := [.ref m4, .ref 1, .int x2, .ref 5]) (S1 := zS c s) rfl ?_
      obtain ⟨r6, s7, g8, h⟩ := zb_inv h
      refine zq_call1 rfl rfl (zh_5 _) rfl rfl rfl (tX0_readSinger hm4 g8) rfl ?_
      refine zr_many 1 (pc' := 35) (L' := [some (.ref 5), some (.int x1), some (.int x2), some (.ref 1), some (.ref m4)]) (st' := [.int r6]) (S1 := zS c s7) rfl ?_
      exact zr_wk [none, none, none, none, none] trivial (tX0_readLine_J35 h)
  · rw [if_neg g1] at h
    refine zr_many 3 (pc' := 7) (L' := [some (.ref 5), some (.int x1), some (.int x2), some (.ref 1), some (.ref m4)]) (st' := [.ref 1, .int x2, .ref 5]) (S1 := zS c s) rfl ?_
    obtain ⟨r9, s10, g11, h⟩ := zb_inv h
    refine zq_call1 rfl rfl (zh_5 _) rfl rfl rfl ((tX0_readLock g11).up (by decide)) rfl ?_
    obtain ⟨gz, h⟩ := zt_inv h
    obtain ⟨rfl, rfl⟩ := Prod.mk.inj (Option.some.inj h)
    exact zq_zret rfl gz
def fX0_narrowed_J18 (n : Nat) (s : zs) (y0 : Int32) : Option Int32 := some y0
theorem tX0_narrowed_J18 {n : Nat} {c : Nat × Nat} {s : zs} {y0 : Int32} {r : Int32} (h : fX0_narrowed_J18 n s y0 = some r) : zr kX0_narrowed 1 0 18 [none, none] [.int y0] (zS c s) (some (.int r)) (zS c s) := by
  unfold fX0_narrowed_J18 at h
  obtain rfl := Option.some.inj h
  exact zq_iret rfl
def fX0_narrowed (n : Nat) (s : zs) (x0 : Int32) (x1 : Int32) : Option Int32 := if ¬ x0 = 0 then if ¬ x0 = (1 : Int32) then fX0_narrowed_J18 n s x1 else fX0_narrowed_J18 n s x1.toInt16.toInt32 else some x1.toInt8.toInt32
theorem tX0_narrowed {n : Nat} {c : Nat × Nat} {s : zs} {x0 : Int32} {x1 : Int32} {r : Int32} (h : fX0_narrowed n s x0 x1 = some r) : zc 1 14 [.int x0, .int x1] (zS c s) (some (.int r)) (zS c s) := by
  refine zc_of (k := kX0_narrowed) (rt := 1) (L := [some (.int x0), some (.int x1)]) zm_14.1 rfl rfl (by decide) rfl rfl ?_
  unfold fX0_narrowed at h
  refine zr_many 1 (pc' := 1) (L' := [some (.int x0), some (.int x1)]) (st' := [.int x0]) (S1 := zS c s) rfl ?_
  refine zq_if1 (b := ¬ x0 = 0) rfl Iff.rfl rfl (fun g1 => ?_) (fun g1 => ?_)
  · rw [if_pos g1] at h
    refine zr_many 2 (pc' := 9) (L' := [some (.int x0), some (.int x1)]) (st' := [.int (1 : Int32), .int x0]) (S1 := zS c s) rfl ?_
    refine zq_if2 (b := ¬ x0 = (1 : Int32)) rfl Iff.rfl rfl (fun g2 => ?_) (fun g2 => ?_)
    · rw [if_pos g2] at h
      refine zr_many 1 (pc' := 18) (L' := [some (.int x0), some (.int x1)]) (st' := [.int x1]) (S1 := zS c s) rfl ?_
      exact zr_wk [none, none] trivial (tX0_narrowed_J18 h)
    · rw [if_neg g2] at h
      refine zr_many 3 (pc' := 18) (L' := [some (.int x0), some (.int x1)]) (st' := [.int x1.toInt16.toInt32]) (S1 := zS c s) rfl ?_
      exact zr_wk [none, none] trivial (tX0_narrowed_J18 h)
  · rw [if_neg g1] at h
    refine zr_many 2 (pc' := 6) (L' := [some (.int x0), some (.int x1)]) (st' := [.int x1.toInt8.toInt32]) (S1 := zS c s) rfl ?_
    obtain rfl := Option.some.inj h
    exact zq_iret rfl
def fX0_takeFees_J49 (n : Nat) (s : zs) (x1 : Int32) (x2 : Int32) (x4 : Int32) (x5 : Int32) (x6 : Int32) (x7 : Int32) (y1 : Int32) (y2 : Int32) : Option ((Int32 × Int32 × Int32 × zs) ⊕ (Int32 × zs)) := cond (zi_in y1 8) (cond (zi_in x7 8) (some (Sum.inl ((x5 + ((zsi s 15 y1.toNatClampNeg y2).1 15 x7.toNatClampNeg)), (x6 + x4), (x7 + (1 : Int32)), (zsi s 15 y1.toNatClampNeg y2)))) none) none
theorem tX0_takeFees_J49 {n : Nat} {c : Nat × Nat} {s : zs} {x1 : Int32} {x2 : Int32} {x4 : Int32} {x5 : Int32} {x6 : Int32} {x7 : Int32} {y1 : Int32} {y2 : Int32} {o : _} {v : Option Value} {S' : zi_S} (h : fX0_takeFees_J49 n s x1 x2 x4 x5 x6 x7 y1 y2 = some o) (hn : ∀ w9, o = Sum.inl w9 → zr kX0_takeFees 1 1 9 [some (.ref 5), some (.int x1), some (.int x2), none, some (.int x4), some (.int w9.1), some (.int w9.2.1), some (.int w9.2.2.1)] [] (zS c w9.2.2.2) v S') (hx : ∀ z, o = Sum.inr z → (fun z => zr kX0_takeFees 1 1 75 [none, none, none, none, none, some (.int z.1), none, none] [] (zS c z.2) v S') z) : zr kX0_takeFees 1 1 49 [some (.ref 5), some (.int x1), some (.int x2), none, some (.int x4), some (.int x5), some (.int x6), some (.int x7)] [.int y2, .int y1, .ref 15] (zS c s) v S' := by
  unfold fX0_takeFees_J49 at h
  obtain ⟨g4, h⟩ := zi_cond_inv h
  refine zq_ist rfl zh_15 rfl g4 rfl ?_
  refine zr_many 2 (pc' := 53) (L' := [some (.ref 5), some (.int x1), some (.int x2), none, some (.int x4), some (.int x5), some (.int x6), some (.int x7)]) (st' := [.ref 5, .int x5]) (S1 := zS c (zsi s 15 y1.toNatClampNeg y2)) rfl ?_
  refine zq_get rfl (zh_5 _) rfl rfl rfl ?_
  refine zr_many 1 (pc' := 58) (L' := [some (.ref 5), some (.int x1), some (.int x2), none, some (.int x4), some (.int x5), some (.int x6), some (.int x7)]) (st' := [.int x7, .ref 15, .int x5]) (S1 := zS c (zsi s 15 y1.toNatClampNeg y2)) rfl ?_
  obtain ⟨g3, h⟩ := zi_cond_inv h
  refine zq_ild rfl (zh_15 _) rfl g3 rfl ?_
  refine zr_many 8 (pc' := 9) (L' := [some (.ref 5), some (.int x1), some (.int x2), none, some (.int x4), some (.int (x5 + ((zsi s 15 y1.toNatClampNeg y2).1 15 x7.toNatClampNeg))), some (.int (x6 + x4)), some (.int (x7 + (1 : Int32)))]) (st' := []) (S1 := zS c (zsi s 15 y1.toNatClampNeg y2)) rfl ?_
  obtain rfl := Option.some.inj h
  exact zr_wk [some (.ref 5), some (.int x1), some (.int x2), none, some (.int x4), some (.int (x5 + ((zsi s 15 y1.toNatClampNeg y2).1 15 x7.toNatClampNeg))), some (.int (x6 + x4)), some (.int (x7 + (1 : Int32)))] ⟨rfl, rfl, rfl, rfl, rfl, rfl, rfl, trivial⟩ (hn ((x5 + ((zsi s 15 y1.toNatClampNeg y2).1 15 x7.toNatClampNeg)), (x6 + x4), (x7 + (1 : Int32)), (zsi s 15 y1.toNatClampNeg y2)) rfl)
def fX0_takeFees_B9 (n : Nat) (x1 : Int32) (x2 : Int32) (x4 : Int32) (w9 : Int32 × Int32 × Int32 × zs) : Option ((Int32 × Int32 × Int32 × zs) ⊕ (Int32 × zs)) := if (w9.2.2.2.1 5 8) ≤ w9.2.2.1 then some (Sum.inr (w9.1, w9.2.2.2)) else if x2 ≤ w9.2.2.1 then fX0_takeFees_J49 n w9.2.2.2 x1 x2 x4 w9.1 w9.2.1 w9.2.2.1 w9.2.2.1 (0 : Int32) else zp (fX0_narrowed n w9.2.2.2 x1 w9.2.1) (fun r5 => fX0_takeFees_J49 n w9.2.2.2 x1 x2 x4 w9.1 w9.2.1 w9.2.2.1 w9.2.2.1 (if (0 : Int32) < (if r5 < (99 : Int32) then r5 else (99 : Int32)) then (if r5 < (99 : Int32) then r5 else (99 : Int32)) else (0 : Int32)))
theorem tX0_takeFees_B9 {n : Nat} {c : Nat × Nat} {x1 : Int32} {x2 : Int32} {x4 : Int32} {w9 : Int32 × Int32 × Int32 × zs} {o : _} {v : Option Value} {S' : zi_S} (h : fX0_takeFees_B9 n x1 x2 x4 w9 = some o) (hn : ∀ w9, o = Sum.inl w9 → zr kX0_takeFees 1 1 9 [some (.ref 5), some (.int x1), some (.int x2), none, some (.int x4), some (.int w9.1), some (.int w9.2.1), some (.int w9.2.2.1)] [] (zS c w9.2.2.2) v S') (hx : ∀ z, o = Sum.inr z → (fun z => zr kX0_takeFees 1 1 75 [none, none, none, none, none, some (.int z.1), none, none] [] (zS c z.2) v S') z) : zr kX0_takeFees 1 1 9 [some (.ref 5), some (.int x1), some (.int x2), none, some (.int x4), some (.int w9.1), some (.int w9.2.1), some (.int w9.2.2.1)] [] (zS c w9.2.2.2) v S' := by
  unfold fX0_takeFees_B9 at h
  refine zr_many 2 (pc' := 12) (L' := [some (.ref 5), some (.int x1), some (.int x2), none, some (.int x4), some (.int w9.1), some (.int w9.2.1), some (.int w9.2.2.1)]) (st' := [.ref 5, .int w9.2.2.1]) (S1 := zS c w9.2.2.2) rfl ?_
  refine zq_get rfl (zh_5 _) rfl rfl rfl ?_
  refine zq_if2 (b := (w9.2.2.2.1 5 8) ≤ w9.2.2.1) rfl Iff.rfl rfl (fun g1 => ?_) (fun g1 => ?_)
  · rw [if_pos g1] at h
    obtain rfl := Option.some.inj h
    exact zr_wk [none, none, none, none, none, some (.int w9.1), none, none] ⟨rfl, trivial⟩ (hx (w9.1, w9.2.2.2) rfl)
  · rw [if_neg g1] at h
    refine zr_many 1 (pc' := 19) (L' := [some (.ref 5), some (.int x1), some (.int x2), none, some (.int x4), some (.int w9.1), some (.int w9.2.1), some (.int w9.2.2.1)]) (st' := [.ref 5]) (S1 := zS c w9.2.2.2) rfl ?_
    refine zq_get rfl (zh_5 _) rfl rfl rfl ?_
    refine zr_many 3 (pc' := 27) (L' := [some (.ref 5), some (.int x1), some (.int x2), none, some (.int x4), some (.int w9.1), some (.int w9.2.1), some (.int w9.2.2.1)]) (st' := [.int x2, .int w9.2.2.1, .int w9.2.2.1, .ref 15]) (S1 := zS c w9.2.2.2) rfl ?_
    refine zq_if2 (b := x2 ≤ w9.2.2.1) rfl Iff.rfl rfl (fun g2 => ?_) (fun g2 => ?_)
    · rw [if_pos g2] at h
      refine zr_many 1 (pc' := 49) (L' := [some (.ref 5), some (.int x1), some (.int x2), none, some (.int x4), some (.int w9.1), some (.int w9.2.1), some (.int w9.2.2.1)]) (st' := [.int (0 : Int32), .int w9.2.2.1, .ref 15]) (S1 := zS c w9.2.2.2) rfl ?_
      exact zr_wk [some (.ref 5), some (.int x1), some (.int x2), none, some (.int x4), some (.int w9.1), some (.int w9.2.1), some (.int w9.2.2.1)] ⟨rfl, rfl, rfl, rfl, rfl, rfl, rfl, trivial⟩ (tX0_takeFees_J49 h hn hx)
    · rw [if_neg g2] at h
      refine zr_many 4 (pc' := 36) (L' := [some (.ref 5), some (.int x1), some (.int x2), none, some (.int x4), some (.int w9.1), some (.int w9.2.1), some (.int w9.2.2.1)]) (st' := [.int w9.2.1, .int x1, .int (99 : Int32), .int (0 : Int32), .int w9.2.2.1, .ref 15]) (S1 := zS c w9.2.2.2) rfl ?_
      obtain ⟨r5, g7, h⟩ := zp_inv h
      refine zq_scall1 rfl (by decide) rfl rfl (tX0_narrowed g7) rfl ?_
      refine zr_many 3 (pc' := 49) (L' := [some (.ref 5), some (.int x1), some (.int x2), none, some (.int x4), some (.int w9.1), some (.int w9.2.1), some (.int w9.2.2.1)]) (st' := [.int (if (0 : Int32) < (if r5 < (99 : Int32) then r5 else (99 : Int32)) then (if r5 < (99 : Int32) then r5 else (99 : Int32)) else (0 : Int32)), .int w9.2.2.1, .ref 15]) (S1 := zS c w9.2.2.2) rfl ?_
      exact zr_wk [some (.ref 5), some (.int x1), some (.int x2), none, some (.int x4), some (.int w9.1), some (.int w9.2.1), some (.int w9.2.2.1)] ⟨rfl, rfl, rfl, rfl, rfl, rfl, rfl, trivial⟩ (tX0_takeFees_J49 h hn hx)
def fX0_takeFees (n : Nat) (s : zs) (x1 : Int32) (x2 : Int32) (x3 : Int32) (x4 : Int32) : Option (Int32 × zs) := zp (zl (fX0_takeFees_B9 n x1 x2 x4) n ((0 : Int32), x3, (0 : Int32), s)) (fun w8 => some (w8.1, w8.2))
theorem tX0_takeFees {n : Nat} {c : Nat × Nat} {s : zs} {x1 : Int32} {x2 : Int32} {x3 : Int32} {x4 : Int32} {r : Int32} {s' : zs} (h : fX0_takeFees n s x1 x2 x3 x4 = some (r, s')) : zc 2 13 [.ref 5, .int x1, .int x2, .int x3, .int x4] (zS c s) (some (.int r)) (zS c s') := by
  refine zc_of (k := kX0_takeFees) (rt := 1) (L := [some (.ref 5), some (.int x1), some (.int x2), some (.int x3), some (.int x4), none, none, none]) zm_13.1 rfl rfl (by decide) rfl rfl ?_
  unfold fX0_takeFees at h
  refine zr_many 6 (pc' := 9) (L' := [some (.ref 5), some (.int x1), some (.int x2), some (.int x3), some (.int x4), some (.int (0 : Int32)), some (.int x3), some (.int (0 : Int32))]) (st' := []) (S1 := zS c s) rfl ?_
  obtain ⟨w8, g9, h⟩ := zp_inv h
  refine zr_wk [some (.ref 5), some (.int x1), some (.int x2), none, some (.int x4), some (.int (0 : Int32)), some (.int x3), some (.int (0 : Int32))] ⟨rfl, rfl, rfl, rfl, rfl, rfl, rfl, trivial⟩ (zl_cert (Z := fun w9 => zr kX0_takeFees 1 1 9 [some (.ref 5), some (.int x1), some (.int x2), none, some (.int x4), some (.int w9.1), some (.int w9.2.1), some (.int w9.2.2.1)] [] (zS c w9.2.2.2) _ _) (Y := (fun z => zr kX0_takeFees 1 1 75 [none, none, none, none, none, some (.int z.1), none, none] [] (zS c z.2) _ _)) (fun w o h1 h2 h3 => tX0_takeFees_B9 h1 h2 h3) n _ _ g9 ?_)
  show zr kX0_takeFees 1 1 75 [none, none, none, none, none, some (.int w8.1), none, none] [] (zS c w8.2) _ _
  refine zr_many 1 (pc' := 77) (L' := [none, none, none, none, none, some (.int w8.1), none, none]) (st' := [.int w8.1]) (S1 := zS c w8.2) rfl ?_
  obtain ⟨rfl, rfl⟩ := Prod.mk.inj (Option.some.inj h)
  exact zq_iret rfl
def fX0_crewOf_J34 (n : Nat) (s : zs) (m1 : Nat) (x2 : Int32) (x4 : Int32) (y0 : Int32) (y1 : Int32) : Option ((Int32 × Int32) ⊕ (Int32)) := some (Sum.inl ((y0 ||| y1), (x4 + (1 : Int32))))
theorem tX0_crewOf_J34 {n : Nat} {c : Nat × Nat} {s : zs} {m1 : Nat} {x2 : Int32} {x4 : Int32} {y0 : Int32} {y1 : Int32} {o : _} {v : Option Value} {S' : zi_S} (hm1 : zM m1) (h : fX0_crewOf_J34 n s m1 x2 x4 y0 y1 = some o) (hn : ∀ w5, o = Sum.inl w5 → zr kX0_crewOf 1 0 5 [some (.ref 5), some (.ref m1), some (.int x2), some (.int w5.1), some (.int w5.2)] [] (zS c s) v S') (hx : ∀ z, o = Sum.inr z → (fun z => zr kX0_crewOf 1 0 42 [none, none, none, some (.int z), none] [] (zS c s) v S') z) : zr kX0_crewOf 1 0 34 [some (.ref 5), some (.ref m1), some (.int x2), none, some (.int x4)] [.int y1, .int y0] (zS c s) v S' := by
  unfold fX0_crewOf_J34 at h
  refine zr_many 4 (pc' := 5) (L' := [some (.ref 5), some (.ref m1), some (.int x2), some (.int (y0 ||| y1)), some (.int (x4 + (1 : Int32)))]) (st' := []) (S1 := zS c s) rfl ?_
  obtain rfl := Option.some.inj h
  exact zr_wk [some (.ref 5), some (.ref m1), some (.int x2), some (.int (y0 ||| y1)), some (.int (x4 + (1 : Int32)))] ⟨rfl, rfl, rfl, rfl, rfl, trivial⟩ (hn ((y0 ||| y1), (x4 + (1 : Int32))) rfl)
def fX0_crewOf_B5 (n : Nat) (s : zs) (m1 : Nat) (x2 : Int32) (w5 : Int32 × Int32) : Option ((Int32 × Int32) ⊕ (Int32)) := if (s.1 5 8) ≤ w5.2 then some (Sum.inr w5.1) else cond (zi_in w5.2 8) (if ¬ (s.1 (m1 + 2) w5.2.toNatClampNeg) = x2 then fX0_crewOf_J34 n s m1 x2 w5.2 w5.1 (0 : Int32) else fX0_crewOf_J34 n s m1 x2 w5.2 w5.1 ((1 : Int32) <<< (w5.2 &&& 31))) none
theorem tX0_crewOf_B5 {n : Nat} {c : Nat × Nat} {s : zs} {m1 : Nat} {x2 : Int32} {w5 : Int32 × Int32} {o : _} {v : Option Value} {S' : zi_S} (hm1 : zM m1) (h : fX0_crewOf_B5 n s m1 x2 w5 = some o) (hn : ∀ w5, o = Sum.inl w5 → zr kX0_crewOf 1 0 5 [some (.ref 5), some (.ref m1), some (.int x2), some (.int w5.1), some (.int w5.2)] [] (zS c s) v S') (hx : ∀ z, o = Sum.inr z → (fun z => zr kX0_crewOf 1 0 42 [none, none, none, some (.int z), none] [] (zS c s) v S') z) : zr kX0_crewOf 1 0 5 [some (.ref 5), some (.ref m1), some (.int x2), some (.int w5.1), some (.int w5.2)] [] (zS c s) v S' := by
  unfold fX0_crewOf_B5 at h
  refine zr_many 2 (pc' := 8) (L' := [some (.ref 5), some (.ref m1), some (.int x2), some (.int w5.1), some (.int w5.2)]) (st' := [.ref 5, .int w5.2]) (S1 := zS c s) rfl ?_
  refine zq_get rfl (zh_5 _) rfl rfl rfl ?_
  refine zq_if2 (b := (s.1 5 8) ≤ w5.2) rfl Iff.rfl rfl (fun g1 => ?_) (fun g1 => ?_)
  · rw [if_pos g1] at h
    obtain rfl := Option.some.inj h
    exact zr_wk [none, none, none, some (.int w5.1), none] ⟨rfl, trivial⟩ (hx w5.1 rfl)
  · rw [if_neg g1] at h
    refine zr_many 2 (pc' := 16) (L' := [some (.ref 5), some (.ref m1), some (.int x2), some (.int w5.1), some (.int w5.2)]) (st' := [.ref m1, .int w5.1]) (S1 := zS c s) rfl ?_
    refine zq_get rfl (zhM_0 hm1 _) (zM_lt (j := 0) hm1 (by decide)) rfl rfl ?_
    refine zr_many 1 (pc' := 21) (L' := [some (.ref 5), some (.ref m1), some (.int x2), some (.int w5.1), some (.int w5.2)]) (st' := [.int w5.2, .ref (m1 + 2), .int w5.1]) (S1 := zS c s) rfl ?_
    obtain ⟨g2, h⟩ := zi_cond_inv h
    refine zq_ild rfl (zhM_2 hm1 _) (zM_lt (j := 2) hm1 (by decide)) g2 rfl ?_
    refine zr_many 1 (pc' := 23) (L' := [some (.ref 5), some (.ref m1), some (.int x2), some (.int w5.1), some (.int w5.2)]) (st' := [.int x2, .int (s.1 (m1 + 2) w5.2.toNatClampNeg), .int w5.1]) (S1 := zS c s) rfl ?_
    refine zq_if2 (b := ¬ (s.1 (m1 + 2) w5.2.toNatClampNeg) = x2) rfl Iff.rfl rfl (fun g3 => ?_) (fun g3 => ?_)
    · rw [if_pos g3] at h
      refine zr_many 1 (pc' := 34) (L' := [some (.ref 5), some (.ref m1), some (.int x2), some (.int w5.1), some (.int w5.2)]) (st' := [.int (0 : Int32), .int w5.1]) (S1 := zS c s) rfl ?_
      exact zr_wk [some (.ref 5), some (.ref m1), some (.int x2), none, some (.int w5.2)] ⟨rfl, rfl, rfl, rfl, trivial⟩ (tX0_crewOf_J34 hm1 h hn hx)
    · rw [if_neg g3] at h
      refine zr_many 4 (pc' := 34) (L' := [some (.ref 5), some (.ref m1), some (.int x2), some (.int w5.1), some (.int w5.2)]) (st' := [.int ((1 : Int32) <<< (w5.2 &&& 31)), .int w5.1]) (S1 := zS c s) rfl ?_
      exact zr_wk [some (.ref 5), some (.ref m1), some (.int x2), none, some (.int w5.2)] ⟨rfl, rfl, rfl, rfl, trivial⟩ (tX0_crewOf_J34 hm1 h hn hx)
def fX0_crewOf (n : Nat) (s : zs) (m1 : Nat) (x2 : Int32) : Option Int32 := zp (zl (fX0_crewOf_B5 n s m1 x2) n ((0 : Int32), (0 : Int32))) (fun w4 => some w4)
theorem tX0_crewOf {n : Nat} {c : Nat × Nat} {s : zs} {m1 : Nat} {x2 : Int32} {r : Int32} (hm1 : zM m1) (h : fX0_crewOf n s m1 x2 = some r) : zc 1 15 [.ref 5, .ref m1, .int x2] (zS c s) (some (.int r)) (zS c s) := by
  refine zc_of (k := kX0_crewOf) (rt := 1) (L := [some (.ref 5), some (.ref m1), some (.int x2), none, none]) zm_15.1 rfl rfl (by decide) rfl rfl ?_
  unfold fX0_crewOf at h
  refine zr_many 4 (pc' := 5) (L' := [some (.ref 5), some (.ref m1), some (.int x2), some (.int (0 : Int32)), some (.int (0 : Int32))]) (st' := []) (S1 := zS c s) rfl ?_
  obtain ⟨w4, g5, h⟩ := zp_inv h
  refine zr_wk [some (.ref 5), some (.ref m1), some (.int x2), some (.int (0 : Int32)), some (.int (0 : Int32))] ⟨rfl, rfl, rfl, rfl, rfl, trivial⟩ (zl_cert (Z := fun w5 => zr kX0_crewOf 1 0 5 [some (.ref 5), some (.ref m1), some (.int x2), some (.int w5.1), some (.int w5.2)] [] (zS c s) _ _) (Y := (fun z => zr kX0_crewOf 1 0 42 [none, none, none, some (.int z), none] [] (zS c s) _ _)) (fun w o h1 h2 h3 => tX0_crewOf_B5 hm1 h1 h2 h3) n _ _ g5 ?_)
  show zr kX0_crewOf 1 0 42 [none, none, none, some (.int w4), none] [] (zS c s) _ _
  refine zr_many 1 (pc' := 43) (L' := [none, none, none, some (.int w4), none]) (st' := [.int w4]) (S1 := zS c s) rfl ?_
  obtain rfl := Option.some.inj h
  exact zq_iret rfl
def fX0_freeAt_J45 (n : Nat) (s : zs) (m1 : Nat) (x2 : Int32) (x4 : Int32) (y0 : Int32) (y1 : Int32) : Option ((Int32 × Int32) ⊕ (Int32)) := some (Sum.inl ((y0 ||| y1), (x4 + (1 : Int32))))
theorem tX0_freeAt_J45 {n : Nat} {c : Nat × Nat} {s : zs} {m1 : Nat} {x2 : Int32} {x4 : Int32} {y0 : Int32} {y1 : Int32} {o : _} {v : Option Value} {S' : zi_S} (hm1 : zM m1) (h : fX0_freeAt_J45 n s m1 x2 x4 y0 y1 = some o) (hn : ∀ w5, o = Sum.inl w5 → zr kX0_freeAt 1 0 5 [some (.ref 5), some (.ref m1), some (.int x2), some (.int w5.1), some (.int w5.2)] [] (zS c s) v S') (hx : ∀ z, o = Sum.inr z → (fun z => zr kX0_freeAt 1 0 53 [none, none, none, some (.int z), none] [] (zS c s) v S') z) : zr kX0_freeAt 1 0 45 [some (.ref 5), some (.ref m1), some (.int x2), none, some (.int x4)] [.int y1, .int y0] (zS c s) v S' := by
  unfold fX0_freeAt_J45 at h
  refine zr_many 4 (pc' := 5) (L' := [some (.ref 5), some (.ref m1), some (.int x2), some (.int (y0 ||| y1)), some (.int (x4 + (1 : Int32)))]) (st' := []) (S1 := zS c s) rfl ?_
  obtain rfl := Option.some.inj h
  exact zr_wk [some (.ref 5), some (.ref m1), some (.int x2), some (.int (y0 ||| y1)), some (.int (x4 + (1 : Int32)))] ⟨rfl, rfl, rfl, rfl, rfl, trivial⟩ (hn ((y0 ||| y1), (x4 + (1 : Int32))) rfl)
def fX0_freeAt_J44 (n : Nat) (s : zs) (m1 : Nat) (x2 : Int32) (x4 : Int32) (y0 : Int32) : Option ((Int32 × Int32) ⊕ (Int32)) := fX0_freeAt_J45 n s m1 x2 x4 y0 (0 : Int32)
theorem tX0_freeAt_J44 {n : Nat} {c : Nat × Nat} {s : zs} {m1 : Nat} {x2 : Int32} {x4 : Int32} {y0 : Int32} {o : _} {v : Option Value} {S' : zi_S} (hm1 : zM m1) (h : fX0_freeAt_J44 n s m1 x2 x4 y0 = some o) (hn : ∀ w5, o = Sum.inl w5 → zr kX0_freeAt 1 0 5 [some (.ref 5), some (.ref m1), some (.int x2), some (.int w5.1), some (.int w5.2)] [] (zS c s) v S') (hx : ∀ z, o = Sum.inr z → (fun z => zr kX0_freeAt 1 0 53 [none, none, none, some (.int z), none] [] (zS c s) v S') z) : zr kX0_freeAt 1 0 44 [some (.ref 5), some (.ref m1), some (.int x2), none, some (.int x4)] [.int y0] (zS c s) v S' := by
  unfold fX0_freeAt_J44 at h
  refine zr_many 1 (pc' := 45) (L' := [some (.ref 5), some (.ref m1), some (.int x2), none, some (.int x4)]) (st' := [.int (0 : Int32), .int y0]) (S1 := zS c s) rfl ?_
  exact zr_wk [some (.ref 5), some (.ref m1), some (.int x2), none, some (.int x4)] ⟨rfl, rfl, rfl, rfl, trivial⟩ (tX0_freeAt_J45 hm1 h hn hx)
def fX0_freeAt_B5 (n : Nat) (s : zs) (m1 : Nat) (x2 : Int32) (w5 : Int32 × Int32) : Option ((Int32 × Int32) ⊕ (Int32)) := if (s.1 5 8) ≤ w5.2 then some (Sum.inr w5.1) else cond (zi_in w5.2 8) (if ¬ (s.1 (m1 + 2) w5.2.toNatClampNeg) = (-1 : Int32) then fX0_freeAt_J44 n s m1 x2 w5.2 w5.1 else cond (zi_in w5.2 8) (if ¬ (s.1 (m1 + 1) w5.2.toNatClampNeg) = x2 then fX0_freeAt_J44 n s m1 x2 w5.2 w5.1 else fX0_freeAt_J45 n s m1 x2 w5.2 w5.1 ((1 : Int32) <<< (w5.2 &&& 31))) none) none
theorem tX0_freeAt_B5 {n : Nat} {c : Nat × Nat} {s : zs} {m1 : Nat} {x2 : Int32} {w5 : Int32 × Int32} {o : _} {v : Option Value} {S' : zi_S} (hm1 : zM m1) (h : fX0_freeAt_B5 n s m1 x2 w5 = some o) (hn : ∀ w5, o = Sum.inl w5 → zr kX0_freeAt 1 0 5 [some (.ref 5), some (.ref m1), some (.int x2), some (.int w5.1), some (.int w5.2)] [] (zS c s) v S') (hx : ∀ z, o = Sum.inr z → (fun z => zr kX0_freeAt 1 0 53 [none, none, none, some (.int z), none] [] (zS c s) v S') z) : zr kX0_freeAt 1 0 5 [some (.ref 5), some (.ref m1), some (.int x2), some (.int w5.1), some (.int w5.2)] [] (zS c s) v S' := by
  unfold fX0_freeAt_B5 at h
  refine zr_many 2 (pc' := 8) (L' := [some (.ref 5), some (.ref m1), some (.int x2), some (.int w5.1), some (.int w5.2)]) (st' := [.ref 5, .int w5.2]) (S1 := zS c s) rfl ?_
  refine zq_get rfl (zh_5 _) rfl rfl rfl ?_
  refine zq_if2 (b := (s.1 5 8) ≤ w5.2) rfl Iff.rfl rfl (fun g1 => ?_) (fun g1 => ?_)
  · rw [if_pos g1] at h
    obtain rfl := Option.some.inj h
    exact zr_wk [none, none, none, some (.int w5.1), none] ⟨rfl, trivial⟩ (hx w5.1 rfl)
  · rw [if_neg g1] at h
    refine zr_many 2 (pc' := 16) (L' := [some (.ref 5), some (.ref m1), some (.int x2), some (.int w5.1), some (.int w5.2)]) (st' := [.ref m1, .int w5.1]) (S1 := zS c s) rfl ?_
    refine zq_get rfl (zhM_0 hm1 _) (zM_lt (j := 0) hm1 (by decide)) rfl rfl ?_
    refine zr_many 1 (pc' := 21) (L' := [some (.ref 5), some (.ref m1), some (.int x2), some (.int w5.1), some (.int w5.2)]) (st' := [.int w5.2, .ref (m1 + 2), .int w5.1]) (S1 := zS c s) rfl ?_
    obtain ⟨g2, h⟩ := zi_cond_inv h
    refine zq_ild rfl (zhM_2 hm1 _) (zM_lt (j := 2) hm1 (by decide)) g2 rfl ?_
    refine zr_many 1 (pc' := 23) (L' := [some (.ref 5), some (.ref m1), some (.int x2), some (.int w5.1), some (.int w5.2)]) (st' := [.int (-1 : Int32), .int (s.1 (m1 + 2) w5.2.toNatClampNeg), .int w5.1]) (S1 := zS c s) rfl ?_
    refine zq_if2 (b := ¬ (s.1 (m1 + 2) w5.2.toNatClampNeg) = (-1 : Int32)) rfl Iff.rfl rfl (fun g3 => ?_) (fun g3 => ?_)
    · rw [if_pos g3] at h
      exact zr_wk [some (.ref 5), some (.ref m1), some (.int x2), none, some (.int w5.2)] ⟨rfl, rfl, rfl, rfl, trivial⟩ (tX0_freeAt_J44 hm1 h hn hx)
    · rw [if_neg g3] at h
      refine zr_many 1 (pc' := 27) (L' := [some (.ref 5), some (.ref m1), some (.int x2), some (.int w5.1), some (.int w5.2)]) (st' := [.ref m1, .int w5.1]) (S1 := zS c s) rfl ?_
      refine zq_get rfl (zhM_0 hm1 _) (zM_lt (j := 0) hm1 (by decide)) rfl rfl ?_
      refine zr_many 1 (pc' := 32) (L' := [some (.ref 5), some (.ref m1), some (.int x2), some (.int w5.1), some (.int w5.2)]) (st' := [.int w5.2, .ref (m1 + 1), .int w5.1]) (S1 := zS c s) rfl ?_
      obtain ⟨g4, h⟩ := zi_cond_inv h
      refine zq_ild rfl (zhM_1 hm1 _) (zM_lt (j := 1) hm1 (by decide)) g4 rfl ?_
      refine zr_many 1 (pc' := 34) (L' := [some (.ref 5), some (.ref m1), some (.int x2), some (.int w5.1), some (.int w5.2)]) (st' := [.int x2, .int (s.1 (m1 + 1) w5.2.toNatClampNeg), .int w5.1]) (S1 := zS c s) rfl ?_
      refine zq_if2 (b := ¬ (s.1 (m1 + 1) w5.2.toNatClampNeg) = x2) rfl Iff.rfl rfl (fun g5 => ?_) (fun g5 => ?_)
      · rw [if_pos g5] at h
        exact zr_wk [some (.ref 5), some (.ref m1), some (.int x2), none, some (.int w5.2)] ⟨rfl, rfl, rfl, rfl, trivial⟩ (tX0_freeAt_J44 hm1 h hn hx)
      · rw [if_neg g5] at h
        refine zr_many 4 (pc' := 45) (L' := [some (.ref 5), some (.ref m1), some (.int x2), some (.int w5.1), some (.int w5.2)]) (st' := [.int ((1 : Int32) <<< (w5.2 &&& 31)), .int w5.1]) (S1 := zS c s) rfl ?_
        exact zr_wk [some (.ref 5), some (.ref m1), some (.int x2), none, some (.int w5.2)] ⟨rfl, rfl, rfl, rfl, trivial⟩ (tX0_freeAt_J45 hm1 h hn hx)
def fX0_freeAt (n : Nat) (s : zs) (m1 : Nat) (x2 : Int32) : Option Int32 := zp (zl (fX0_freeAt_B5 n s m1 x2) n ((0 : Int32), (0 : Int32))) (fun w6 => some w6)
theorem tX0_freeAt {n : Nat} {c : Nat × Nat} {s : zs} {m1 : Nat} {x2 : Int32} {r : Int32} (hm1 : zM m1) (h : fX0_freeAt n s m1 x2 = some r) : zc 1 16 [.ref 5, .ref m1, .int x2] (zS c s) (some (.int r)) (zS c s) := by
  refine zc_of (k := kX0_freeAt) (rt := 1) (L := [some (.ref 5), some (.ref m1), some (.int x2), none, none]) zm_16.1 rfl rfl (by decide) rfl rfl ?_
  unfold fX0_freeAt at h
  refine zr_many 4 (pc' := 5) (L' := [some (.ref 5), some (.ref m1), some (.int x2), some (.int (0 : Int32)), some (.int (0 : Int32))]) (st' := []) (S1 := zS c s) rfl ?_
  obtain ⟨w6, g7, h⟩ := zp_inv h
  refine zr_wk [some (.ref 5), some (.ref m1), some (.int x2), some (.int (0 : Int32)), some (.int (0 : Int32))] ⟨rfl, rfl, rfl, rfl, rfl, trivial⟩ (zl_cert (Z := fun w5 => zr kX0_freeAt 1 0 5 [some (.ref 5), some (.ref m1), some (.int x2), some (.int w5.1), some (.int w5.2)] [] (zS c s) _ _) (Y := (fun z => zr kX0_freeAt 1 0 53 [none, none, none, some (.int z), none] [] (zS c s) _ _)) (fun w o h1 h2 h3 => tX0_freeAt_B5 hm1 h1 h2 h3) n _ _ g7 ?_)
  show zr kX0_freeAt 1 0 53 [none, none, none, some (.int w6), none] [] (zS c s) _ _
  refine zr_many 1 (pc' := 54) (L' := [none, none, none, some (.int w6), none]) (st' := [.int w6]) (S1 := zS c s) rfl ?_
  obtain rfl := Option.some.inj h
  exact zq_iret rfl
def fX0_tiredOf_J36 (n : Nat) (s : zs) (m1 : Nat) (x2 : Int32) (x4 : Int32) (y0 : Int32) (y1 : Int32) : Option ((Int32 × Int32) ⊕ (Int32)) := some (Sum.inl ((y0 + y1), (x4 + (1 : Int32))))
theorem tX0_tiredOf_J36 {n : Nat} {c : Nat × Nat} {s : zs} {m1 : Nat} {x2 : Int32} {x4 : Int32} {y0 : Int32} {y1 : Int32} {o : _} {v : Option Value} {S' : zi_S} (hm1 : zM m1) (h : fX0_tiredOf_J36 n s m1 x2 x4 y0 y1 = some o) (hn : ∀ w5, o = Sum.inl w5 → zr kX0_tiredOf 1 0 5 [some (.ref 5), some (.ref m1), some (.int x2), some (.int w5.1), some (.int w5.2)] [] (zS c s) v S') (hx : ∀ z, o = Sum.inr z → (fun z => zr kX0_tiredOf 1 0 44 [none, none, none, some (.int z), none] [] (zS c s) v S') z) : zr kX0_tiredOf 1 0 36 [some (.ref 5), some (.ref m1), some (.int x2), none, some (.int x4)] [.int y1, .int y0] (zS c s) v S' := by
  unfold fX0_tiredOf_J36 at h
  refine zr_many 4 (pc' := 5) (L' := [some (.ref 5), some (.ref m1), some (.int x2), some (.int (y0 + y1)), some (.int (x4 + (1 : Int32)))]) (st' := []) (S1 := zS c s) rfl ?_
  obtain rfl := Option.some.inj h
  exact zr_wk [some (.ref 5), some (.ref m1), some (.int x2), some (.int (y0 + y1)), some (.int (x4 + (1 : Int32)))] ⟨rfl, rfl, rfl, rfl, rfl, trivial⟩ (hn ((y0 + y1), (x4 + (1 : Int32))) rfl)
def fX0_tiredOf_B5 (n : Nat) (s : zs) (m1 : Nat) (x2 : Int32) (w5 : Int32 × Int32) : Option ((Int32 × Int32) ⊕ (Int32)) := if (s.1 5 8) ≤ w5.2 then some (Sum.inr w5.1) else if ¬ ((x2 >>> (w5.2 &&& 31)) &&& (1 : Int32)) = (1 : Int32) then fX0_tiredOf_J36 n s m1 x2 w5.2 w5.1 (0 : Int32) else cond (zi_in w5.2 8) (fX0_tiredOf_J36 n s m1 x2 w5.2 w5.1 (s.1 (m1 + 3) w5.2.toNatClampNeg)) none
theorem tX0_tiredOf_B5 {n : Nat} {c : Nat × Nat} {s : zs} {m1 : Nat} {x2 : Int32} {w5 : Int32 × Int32} {o : _} {v : Option Value} {S' : zi_S} (hm1 : zM m1) (h : fX0_tiredOf_B5 n s m1 x2 w5 = some o) (hn : ∀ w5, o = Sum.inl w5 → zr kX0_tiredOf 1 0 5 [some (.ref 5), some (.ref m1), some (.int x2), some (.int w5.1), some (.int w5.2)] [] (zS c s) v S') (hx : ∀ z, o = Sum.inr z → (fun z => zr kX0_tiredOf 1 0 44 [none, none, none, some (.int z), none] [] (zS c s) v S') z) : zr kX0_tiredOf 1 0 5 [some (.ref 5), some (.ref m1), some (.int x2), some (.int w5.1), some (.int w5.2)] [] (zS c s) v S' := by
  unfold fX0_tiredOf_B5 at h
  refine zr_many 2 (pc' := 8) (L' := [some (.ref 5), some (.ref m1), some (.int x2), some (.int w5.1), some (.int w5.2)]) (st' := [.ref 5, .int w5.2]) (S1 := zS c s) rfl ?_
  refine zq_get rfl (zh_5 _) rfl rfl rfl ?_
  refine zq_if2 (b := (s.1 5 8) ≤ w5.2) rfl Iff.rfl rfl (fun g1 => ?_) (fun g1 => ?_)
  · rw [if_pos g1] at h
    obtain rfl := Option.some.inj h
    exact zr_wk [none, none, none, some (.int w5.1), none] ⟨rfl, trivial⟩ (hx w5.1 rfl)
  · rw [if_neg g1] at h
    refine zr_many 7 (pc' := 22) (L' := [some (.ref 5), some (.ref m1), some (.int x2), some (.int w5.1), some (.int w5.2)]) (st' := [.int (1 : Int32), .int ((x2 >>> (w5.2 &&& 31)) &&& (1 : Int32)), .int w5.1]) (S1 := zS c s) rfl ?_
    refine zq_if2 (b := ¬ ((x2 >>> (w5.2 &&& 31)) &&& (1 : Int32)) = (1 : Int32)) rfl Iff.rfl rfl (fun g2 => ?_) (fun g2 => ?_)
    · rw [if_pos g2] at h
      refine zr_many 1 (pc' := 36) (L' := [some (.ref 5), some (.ref m1), some (.int x2), some (.int w5.1), some (.int w5.2)]) (st' := [.int (0 : Int32), .int w5.1]) (S1 := zS c s) rfl ?_
      exact zr_wk [some (.ref 5), some (.ref m1), some (.int x2), none, some (.int w5.2)] ⟨rfl, rfl, rfl, rfl, trivial⟩ (tX0_tiredOf_J36 hm1 h hn hx)
    · rw [if_neg g2] at h
      refine zr_many 1 (pc' := 26) (L' := [some (.ref 5), some (.ref m1), some (.int x2), some (.int w5.1), some (.int w5.2)]) (st' := [.ref m1, .int w5.1]) (S1 := zS c s) rfl ?_
      refine zq_get rfl (zhM_0 hm1 _) (zM_lt (j := 0) hm1 (by decide)) rfl rfl ?_
      refine zr_many 1 (pc' := 31) (L' := [some (.ref 5), some (.ref m1), some (.int x2), some (.int w5.1), some (.int w5.2)]) (st' := [.int w5.2, .ref (m1 + 3), .int w5.1]) (S1 := zS c s) rfl ?_
      obtain ⟨g3, h⟩ := zi_cond_inv h
      refine zq_ild rfl (zhM_3 hm1 _) (zM_lt (j := 3) hm1 (by decide)) g3 rfl ?_
      refine zr_many 1 (pc' := 36) (L' := [some (.ref 5), some (.ref m1), some (.int x2), some (.int w5.1), some (.int w5.2)]) (st' := [.int (s.1 (m1 + 3) w5.2.toNatClampNeg), .int w5.1]) (S1 := zS c s) rfl ?_
      exact zr_wk [some (.ref 5), some (.ref m1), some (.int x2), none, some (.int w5.2)] ⟨rfl, rfl, rfl, rfl, trivial⟩ (tX0_tiredOf_J36 hm1 h hn hx)
def fX0_tiredOf (n : Nat) (s : zs) (m1 : Nat) (x2 : Int32) : Option Int32 := zp (zl (fX0_tiredOf_B5 n s m1 x2) n ((0 : Int32), (0 : Int32))) (fun w4 => some w4)
theorem tX0_tiredOf {n : Nat} {c : Nat × Nat} {s : zs} {m1 : Nat} {x2 : Int32} {r : Int32} (hm1 : zM m1) (h : fX0_tiredOf n s m1 x2 = some r) : zc 1 17 [.ref 5, .ref m1, .int x2] (zS c s) (some (.int r)) (zS c s) := by
  refine zc_of (k := kX0_tiredOf) (rt := 1) (L := [some (.ref 5), some (.ref m1), some (.int x2), none, none]) zm_17.1 rfl rfl (by decide) rfl rfl ?_
  unfold fX0_tiredOf at h
  refine zr_many 4 (pc' := 5) (L' := [some (.ref 5), some (.ref m1), some (.int x2), some (.int (0 : Int32)), some (.int (0 : Int32))]) (st' := []) (S1 := zS c s) rfl ?_
  obtain ⟨w4, g5, h⟩ := zp_inv h
  refine zr_wk [some (.ref 5), some (.ref m1), some (.int x2), some (.int (0 : Int32)), some (.int (0 : Int32))] ⟨rfl, rfl, rfl, rfl, rfl, trivial⟩ (zl_cert (Z := fun w5 => zr kX0_tiredOf 1 0 5 [some (.ref 5), some (.ref m1), some (.int x2), some (.int w5.1), some (.int w5.2)] [] (zS c s) _ _) (Y := (fun z => zr kX0_tiredOf 1 0 44 [none, none, none, some (.int z), none] [] (zS c s) _ _)) (fun w o h1 h2 h3 => tX0_tiredOf_B5 hm1 h1 h2 h3) n _ _ g5 ?_)
  show zr kX0_tiredOf 1 0 44 [none, none, none, some (.int w4), none] [] (zS c s) _ _
  refine zr_many 1 (pc' := 45) (L' := [none, none, none, some (.int w4), none]) (st' := [.int w4]) (S1 := zS c s) rfl ?_
  obtain rfl := Option.some.inj h
  exact zq_iret rfl
def fX0_feesOf_J32 (n : Nat) (s : zs) (x1 : Int32) (x3 : Int32) (y0 : Int32) (y1 : Int32) : Option ((Int32 × Int32) ⊕ (Int32)) := some (Sum.inl ((y0 + y1), (x3 + (1 : Int32))))
theorem tX0_feesOf_J32 {n : Nat} {c : Nat × Nat} {s : zs} {x1 : Int32} {x3 : Int32} {y0 : Int32} {y1 : Int32} {o : _} {v : Option Value} {S' : zi_S} (h : fX0_feesOf_J32 n s x1 x3 y0 y1 = some o) (hn : ∀ w4, o = Sum.inl w4 → zr kX0_feesOf 1 0 4 [some (.ref 5), some (.int x1), some (.int w4.1), some (.int w4.2)] [] (zS c s) v S') (hx : ∀ z, o = Sum.inr z → (fun z => zr kX0_feesOf 1 0 40 [none, none, some (.int z), none] [] (zS c s) v S') z) : zr kX0_feesOf 1 0 32 [some (.ref 5), some (.int x1), none, some (.int x3)] [.int y1, .int y0] (zS c s) v S' := by
  unfold fX0_feesOf_J32 at h
  refine zr_many 4 (pc' := 4) (L' := [some (.ref 5), some (.int x1), some (.int (y0 + y1)), some (.int (x3 + (1 : Int32)))]) (st' := []) (S1 := zS c s) rfl ?_
  obtain rfl := Option.some.inj h
  exact zr_wk [some (.ref 5), some (.int x1), some (.int (y0 + y1)), some (.int (x3 + (1 : Int32)))] ⟨rfl, rfl, rfl, rfl, trivial⟩ (hn ((y0 + y1), (x3 + (1 : Int32))) rfl)
def fX0_feesOf_B4 (n : Nat) (s : zs) (x1 : Int32) (w4 : Int32 × Int32) : Option ((Int32 × Int32) ⊕ (Int32)) := if (s.1 5 8) ≤ w4.2 then some (Sum.inr w4.1) else if ¬ ((x1 >>> (w4.2 &&& 31)) &&& (1 : Int32)) = (1 : Int32) then fX0_feesOf_J32 n s x1 w4.2 w4.1 (0 : Int32) else cond (zi_in w4.2 8) (fX0_feesOf_J32 n s x1 w4.2 w4.1 (s.1 15 w4.2.toNatClampNeg)) none
theorem tX0_feesOf_B4 {n : Nat} {c : Nat × Nat} {s : zs} {x1 : Int32} {w4 : Int32 × Int32} {o : _} {v : Option Value} {S' : zi_S} (h : fX0_feesOf_B4 n s x1 w4 = some o) (hn : ∀ w4, o = Sum.inl w4 → zr kX0_feesOf 1 0 4 [some (.ref 5), some (.int x1), some (.int w4.1), some (.int w4.2)] [] (zS c s) v S') (hx : ∀ z, o = Sum.inr z → (fun z => zr kX0_feesOf 1 0 40 [none, none, some (.int z), none] [] (zS c s) v S') z) : zr kX0_feesOf 1 0 4 [some (.ref 5), some (.int x1), some (.int w4.1), some (.int w4.2)] [] (zS c s) v S' := by
  unfold fX0_feesOf_B4 at h
  refine zr_many 2 (pc' := 6) (L' := [some (.ref 5), some (.int x1), some (.int w4.1), some (.int w4.2)]) (st' := [.ref 5, .int w4.2]) (S1 := zS c s) rfl ?_
  refine zq_get rfl (zh_5 _) rfl rfl rfl ?_
  refine zq_if2 (b := (s.1 5 8) ≤ w4.2) rfl Iff.rfl rfl (fun g1 => ?_) (fun g1 => ?_)
  · rw [if_pos g1] at h
    obtain rfl := Option.some.inj h
    exact zr_wk [none, none, some (.int w4.1), none] ⟨rfl, trivial⟩ (hx w4.1 rfl)
  · rw [if_neg g1] at h
    refine zr_many 7 (pc' := 19) (L' := [some (.ref 5), some (.int x1), some (.int w4.1), some (.int w4.2)]) (st' := [.int (1 : Int32), .int ((x1 >>> (w4.2 &&& 31)) &&& (1 : Int32)), .int w4.1]) (S1 := zS c s) rfl ?_
    refine zq_if2 (b := ¬ ((x1 >>> (w4.2 &&& 31)) &&& (1 : Int32)) = (1 : Int32)) rfl Iff.rfl rfl (fun g2 => ?_) (fun g2 => ?_)
    · rw [if_pos g2] at h
      refine zr_many 1 (pc' := 32) (L' := [some (.ref 5), some (.int x1), some (.int w4.1), some (.int w4.2)]) (st' := [.int (0 : Int32), .int w4.1]) (S1 := zS c s) rfl ?_
      exact zr_wk [some (.ref 5), some (.int x1), none, some (.int w4.2)] ⟨rfl, rfl, rfl, trivial⟩ (tX0_feesOf_J32 h hn hx)
    · rw [if_neg g2] at h
      refine zr_many 1 (pc' := 23) (L' := [some (.ref 5), some (.int x1), some (.int w4.1), some (.int w4.2)]) (st' := [.ref 5, .int w4.1]) (S1 := zS c s) rfl ?_
      refine zq_get rfl (zh_5 _) rfl rfl rfl ?_
      refine zr_many 1 (pc' := 27) (L' := [some (.ref 5), some (.int x1), some (.int w4.1), some (.int w4.2)]) (st' := [.int w4.2, .ref 15, .int w4.1]) (S1 := zS c s) rfl ?_
      obtain ⟨g3, h⟩ := zi_cond_inv h
      refine zq_ild rfl (zh_15 _) rfl g3 rfl ?_
      refine zr_many 1 (pc' := 32) (L' := [some (.ref 5), some (.int x1), some (.int w4.1), some (.int w4.2)]) (st' := [.int (s.1 15 w4.2.toNatClampNeg), .int w4.1]) (S1 := zS c s) rfl ?_
      exact zr_wk [some (.ref 5), some (.int x1), none, some (.int w4.2)] ⟨rfl, rfl, rfl, trivial⟩ (tX0_feesOf_J32 h hn hx)
def fX0_feesOf (n : Nat) (s : zs) (x1 : Int32) : Option Int32 := zp (zl (fX0_feesOf_B4 n s x1) n ((0 : Int32), (0 : Int32))) (fun w4 => some w4)
theorem tX0_feesOf {n : Nat} {c : Nat × Nat} {s : zs} {x1 : Int32} {r : Int32} (h : fX0_feesOf n s x1 = some r) : zc 1 18 [.ref 5, .int x1] (zS c s) (some (.int r)) (zS c s) := by
  refine zc_of (k := kX0_feesOf) (rt := 1) (L := [some (.ref 5), some (.int x1), none, none]) zm_18.1 rfl rfl (by decide) rfl rfl ?_
  unfold fX0_feesOf at h
  refine zr_many 4 (pc' := 4) (L' := [some (.ref 5), some (.int x1), some (.int (0 : Int32)), some (.int (0 : Int32))]) (st' := []) (S1 := zS c s) rfl ?_
  obtain ⟨w4, g5, h⟩ := zp_inv h
  refine zr_wk [some (.ref 5), some (.int x1), some (.int (0 : Int32)), some (.int (0 : Int32))] ⟨rfl, rfl, rfl, rfl, trivial⟩ (zl_cert (Z := fun w4 => zr kX0_feesOf 1 0 4 [some (.ref 5), some (.int x1), some (.int w4.1), some (.int w4.2)] [] (zS c s) _ _) (Y := (fun z => zr kX0_feesOf 1 0 40 [none, none, some (.int z), none] [] (zS c s) _ _)) (fun w o h1 h2 h3 => tX0_feesOf_B4 h1 h2 h3) n _ _ g5 ?_)
  show zr kX0_feesOf 1 0 40 [none, none, some (.int w4), none] [] (zS c s) _ _
  refine zr_many 1 (pc' := 41) (L' := [none, none, some (.int w4), none]) (st' := [.int w4]) (S1 := zS c s) rfl ?_
  obtain rfl := Option.some.inj h
  exact zq_iret rfl
def fX0_ableToSing_J24 (n : Nat) (s : zs) (x3 : Int32) : Option Int32 := some x3
theorem tX0_ableToSing_J24 {n : Nat} {c : Nat × Nat} {s : zs} {x3 : Int32} {r : Int32} (h : fX0_ableToSing_J24 n s x3 = some r) : zr kX0_ableToSing 1 0 24 [none, none, none, some (.int x3), none] [] (zS c s) (some (.int r)) (zS c s) := by
  unfold fX0_ableToSing_J24 at h
  refine zr_many 1 (pc' := 25) (L' := [none, none, none, some (.int x3), none]) (st' := [.int x3]) (S1 := zS c s) rfl ?_
  obtain rfl := Option.some.inj h
  exact zq_iret rfl
def fX0_ableToSing_J77 (n : Nat) (s : zs) (m1 : Nat) (x2 : Int32) (x4 : Int32) (y0 : Int32) (y1 : Int32) : Option ((Int32 × Int32) ⊕ (Int32)) := some (Sum.inl ((y0 ||| y1), (x4 + (1 : Int32))))
theorem tX0_ableToSing_J77 {n : Nat} {c : Nat × Nat} {s : zs} {m1 : Nat} {x2 : Int32} {x4 : Int32} {y0 : Int32} {y1 : Int32} {o : _} {v : Option Value} {S' : zi_S} (hm1 : zM m1) (h : fX0_ableToSing_J77 n s m1 x2 x4 y0 y1 = some o) (hn : ∀ w29, o = Sum.inl w29 → zr kX0_ableToSing 1 0 29 [some (.ref 5), some (.ref m1), some (.int x2), some (.int w29.1), some (.int w29.2)] [] (zS c s) v S') (hx : ∀ z, o = Sum.inr z → (fun z => zr kX0_ableToSing 1 0 85 [none, none, none, some (.int z), none] [] (zS c s) v S') z) : zr kX0_ableToSing 1 0 77 [some (.ref 5), some (.ref m1), some (.int x2), none, some (.int x4)] [.int y1, .int y0] (zS c s) v S' := by
  unfold fX0_ableToSing_J77 at h
  refine zr_many 4 (pc' := 29) (L' := [some (.ref 5), some (.ref m1), some (.int x2), some (.int (y0 ||| y1)), some (.int (x4 + (1 : Int32)))]) (st' := []) (S1 := zS c s) rfl ?_
  obtain rfl := Option.some.inj h
  exact zr_wk [some (.ref 5), some (.ref m1), some (.int x2), some (.int (y0 ||| y1)), some (.int (x4 + (1 : Int32)))] ⟨rfl, rfl, rfl, rfl, rfl, trivial⟩ (hn ((y0 ||| y1), (x4 + (1 : Int32))) rfl)
def fX0_ableToSing_J76 (n : Nat) (s : zs) (m1 : Nat) (x2 : Int32) (x4 : Int32) (y0 : Int32) : Option ((Int32 × Int32) ⊕ (Int32)) := fX0_ableToSing_J77 n s m1 x2 x4 y0 (0 : Int32)
theorem tX0_ableToSing_J76 {n : Nat} {c : Nat × Nat} {s : zs} {m1 : Nat} {x2 : Int32} {x4 : Int32} {y0 : Int32} {o : _} {v : Option Value} {S' : zi_S} (hm1 : zM m1) (h : fX0_ableToSing_J76 n s m1 x2 x4 y0 = some o) (hn : ∀ w29, o = Sum.inl w29 → zr kX0_ableToSing 1 0 29 [some (.ref 5), some (.ref m1), some (.int x2), some (.int w29.1), some (.int w29.2)] [] (zS c s) v S') (hx : ∀ z, o = Sum.inr z → (fun z => zr kX0_ableToSing 1 0 85 [none, none, none, some (.int z), none] [] (zS c s) v S') z) : zr kX0_ableToSing 1 0 76 [some (.ref 5), some (.ref m1), some (.int x2), none, some (.int x4)] [.int y0] (zS c s) v S' := by
  unfold fX0_ableToSing_J76 at h
  refine zr_many 1 (pc' := 77) (L' := [some (.ref 5), some (.ref m1), some (.int x2), none, some (.int x4)]) (st' := [.int (0 : Int32), .int y0]) (S1 := zS c s) rfl ?_
  exact zr_wk [some (.ref 5), some (.ref m1), some (.int x2), none, some (.int x4)] ⟨rfl, rfl, rfl, rfl, trivial⟩ (tX0_ableToSing_J77 hm1 h hn hx)
def fX0_ableToSing_B29 (n : Nat) (s : zs) (m1 : Nat) (x2 : Int32) (w29 : Int32 × Int32) : Option ((Int32 × Int32) ⊕ (Int32)) := if (s.1 5 8) ≤ w29.2 then some (Sum.inr w29.1) else cond (zi_in w29.2 8) (if x2 < (s.1 13 w29.2.toNatClampNeg) then fX0_ableToSing_J76 n s m1 x2 w29.2 w29.1 else cond (zi_in w29.2 8) (cond (zi_in w29.2 8) (if ((s.1 14 w29.2.toNatClampNeg) - (s.1 (m1 + 3) w29.2.toNatClampNeg)) < x2 then fX0_ableToSing_J76 n s m1 x2 w29.2 w29.1 else fX0_ableToSing_J77 n s m1 x2 w29.2 w29.1 ((1 : Int32) <<< (w29.2 &&& 31))) none) none) none
theorem tX0_ableToSing_B29 {n : Nat} {c : Nat × Nat} {s : zs} {m1 : Nat} {x2 : Int32} {w29 : Int32 × Int32} {o : _} {v : Option Value} {S' : zi_S} (hm1 : zM m1) (h : fX0_ableToSing_B29 n s m1 x2 w29 = some o) (hn : ∀ w29, o = Sum.inl w29 → zr kX0_ableToSing 1 0 29 [some (.ref 5), some (.ref m1), some (.int x2), some (.int w29.1), some (.int w29.2)] [] (zS c s) v S') (hx : ∀ z, o = Sum.inr z → (fun z => zr kX0_ableToSing 1 0 85 [none, none, none, some (.int z), none] [] (zS c s) v S') z) : zr kX0_ableToSing 1 0 29 [some (.ref 5), some (.ref m1), some (.int x2), some (.int w29.1), some (.int w29.2)] [] (zS c s) v S' := by
  unfold fX0_ableToSing_B29 at h
  refine zr_many 2 (pc' := 32) (L' := [some (.ref 5), some (.ref m1), some (.int x2), some (.int w29.1), some (.int w29.2)]) (st' := [.ref 5, .int w29.2]) (S1 := zS c s) rfl ?_
  refine zq_get rfl (zh_5 _) rfl rfl rfl ?_
  refine zq_if2 (b := (s.1 5 8) ≤ w29.2) rfl Iff.rfl rfl (fun g4 => ?_) (fun g4 => ?_)
  · rw [if_pos g4] at h
    obtain rfl := Option.some.inj h
    exact zr_wk [none, none, none, some (.int w29.1), none] ⟨rfl, trivial⟩ (hx w29.1 rfl)
  · rw [if_neg g4] at h
    refine zr_many 2 (pc' := 40) (L' := [some (.ref 5), some (.ref m1), some (.int x2), some (.int w29.1), some (.int w29.2)]) (st' := [.ref 5, .int w29.1]) (S1 := zS c s) rfl ?_
    refine zq_get rfl (zh_5 _) rfl rfl rfl ?_
    refine zr_many 1 (pc' := 45) (L' := [some (.ref 5), some (.ref m1), some (.int x2), some (.int w29.1), some (.int w29.2)]) (st' := [.int w29.2, .ref 13, .int w29.1]) (S1 := zS c s) rfl ?_
    obtain ⟨g5, h⟩ := zi_cond_inv h
    refine zq_ild rfl (zh_13 _) rfl g5 rfl ?_
    refine zr_many 1 (pc' := 47) (L' := [some (.ref 5), some (.ref m1), some (.int x2), some (.int w29.1), some (.int w29.2)]) (st' := [.int x2, .int (s.1 13 w29.2.toNatClampNeg), .int w29.1]) (S1 := zS c s) rfl ?_
    refine zq_if2 (b := x2 < (s.1 13 w29.2.toNatClampNeg)) rfl Iff.rfl rfl (fun g6 => ?_) (fun g6 => ?_)
    · rw [if_pos g6] at h
      exact zr_wk [some (.ref 5), some (.ref m1), some (.int x2), none, some (.int w29.2)] ⟨rfl, rfl, rfl, rfl, trivial⟩ (tX0_ableToSing_J76 hm1 h hn hx)
    · rw [if_neg g6] at h
      refine zr_many 2 (pc' := 52) (L' := [some (.ref 5), some (.ref m1), some (.int x2), some (.int w29.1), some (.int w29.2)]) (st' := [.ref 5, .int x2, .int w29.1]) (S1 := zS c s) rfl ?_
      refine zq_get rfl (zh_5 _) rfl rfl rfl ?_
      refine zr_many 1 (pc' := 57) (L' := [some (.ref 5), some (.ref m1), some (.int x2), some (.int w29.1), some (.int w29.2)]) (st' := [.int w29.2, .ref 14, .int x2, .int w29.1]) (S1 := zS c s) rfl ?_
      obtain ⟨g7, h⟩ := zi_cond_inv h
      refine zq_ild rfl (zh_14 _) rfl g7 rfl ?_
      refine zr_many 1 (pc' := 59) (L' := [some (.ref 5), some (.ref m1), some (.int x2), some (.int w29.1), some (.int w29.2)]) (st' := [.ref m1, .int (s.1 14 w29.2.toNatClampNeg), .int x2, .int w29.1]) (S1 := zS c s) rfl ?_
      refine zq_get rfl (zhM_0 hm1 _) (zM_lt (j := 0) hm1 (by decide)) rfl rfl ?_
      refine zr_many 1 (pc' := 64) (L' := [some (.ref 5), some (.ref m1), some (.int x2), some (.int w29.1), some (.int w29.2)]) (st' := [.int w29.2, .ref (m1 + 3), .int (s.1 14 w29.2.toNatClampNeg), .int x2, .int w29.1]) (S1 := zS c s) rfl ?_
      obtain ⟨g8, h⟩ := zi_cond_inv h
      refine zq_ild rfl (zhM_3 hm1 _) (zM_lt (j := 3) hm1 (by decide)) g8 rfl ?_
      refine zr_many 1 (pc' := 66) (L' := [some (.ref 5), some (.ref m1), some (.int x2), some (.int w29.1), some (.int w29.2)]) (st' := [.int ((s.1 14 w29.2.toNatClampNeg) - (s.1 (m1 + 3) w29.2.toNatClampNeg)), .int x2, .int w29.1]) (S1 := zS c s) rfl ?_
      refine zq_if2 (b := ((s.1 14 w29.2.toNatClampNeg) - (s.1 (m1 + 3) w29.2.toNatClampNeg)) < x2) rfl Iff.rfl rfl (fun g9 => ?_) (fun g9 => ?_)
      · rw [if_pos g9] at h
        exact zr_wk [some (.ref 5), some (.ref m1), some (.int x2), none, some (.int w29.2)] ⟨rfl, rfl, rfl, rfl, trivial⟩ (tX0_ableToSing_J76 hm1 h hn hx)
      · rw [if_neg g9] at h
        refine zr_many 4 (pc' := 77) (L' := [some (.ref 5), some (.ref m1), some (.int x2), some (.int w29.1), some (.int w29.2)]) (st' := [.int ((1 : Int32) <<< (w29.2 &&& 31)), .int w29.1]) (S1 := zS c s) rfl ?_
        exact zr_wk [some (.ref 5), some (.ref m1), some (.int x2), none, some (.int w29.2)] ⟨rfl, rfl, rfl, rfl, trivial⟩ (tX0_ableToSing_J77 hm1 h hn hx)
def fX0_ableToSing (n : Nat) (s : zs) (m1 : Nat) (x2 : Int32) : Option Int32 := if x2 < 0 then fX0_ableToSing_J24 n s (0 : Int32) else if (26 : Int32) ≤ x2 then fX0_ableToSing_J24 n s (0 : Int32) else if ¬ (((s.1 5 10) >>> (x2 &&& 31)) &&& (1 : Int32)) = (1 : Int32) then zp (zl (fX0_ableToSing_B29 n s m1 x2) n ((0 : Int32), (0 : Int32))) (fun w10 => some w10) else fX0_ableToSing_J24 n s (0 : Int32)
theorem tX0_ableToSing {n : Nat} {c : Nat × Nat} {s : zs} {m1 : Nat} {x2 : Int32} {r : Int32} (hm1 : zM m1) (h : fX0_ableToSing n s m1 x2 = some r) : zc 1 19 [.ref 5, .ref m1, .int x2] (zS c s) (some (.int r)) (zS c s) := by
  refine zc_of (k := kX0_ableToSing) (rt := 1) (L := [some (.ref 5), some (.ref m1), some (.int x2), none, none]) zm_19.1 rfl rfl (by decide) rfl rfl ?_
  unfold fX0_ableToSing at h
  refine zr_many 3 (pc' := 3) (L' := [some (.ref 5), some (.ref m1), some (.int x2), some (.int (0 : Int32)), none]) (st' := [.int x2]) (S1 := zS c s) rfl ?_
  refine zq_if1 (b := x2 < 0) rfl Iff.rfl rfl (fun g1 => ?_) (fun g1 => ?_)
  · rw [if_pos g1] at h
    exact zr_wk [none, none, none, some (.int (0 : Int32)), none] ⟨rfl, trivial⟩ (tX0_ableToSing_J24 h)
  · rw [if_neg g1] at h
    refine zr_many 2 (pc' := 9) (L' := [some (.ref 5), some (.ref m1), some (.int x2), some (.int (0 : Int32)), none]) (st' := [.int (26 : Int32), .int x2]) (S1 := zS c s) rfl ?_
    refine zq_if2 (b := (26 : Int32) ≤ x2) rfl Iff.rfl rfl (fun g2 => ?_) (fun g2 => ?_)
    · rw [if_pos g2] at h
      exact zr_wk [none, none, none, some (.int (0 : Int32)), none] ⟨rfl, trivial⟩ (tX0_ableToSing_J24 h)
    · rw [if_neg g2] at h
      refine zr_many 1 (pc' := 13) (L' := [some (.ref 5), some (.ref m1), some (.int x2), some (.int (0 : Int32)), none]) (st' := [.ref 5]) (S1 := zS c s) rfl ?_
      refine zq_get rfl (zh_5 _) rfl rfl rfl ?_
      refine zr_many 5 (pc' := 21) (L' := [some (.ref 5), some (.ref m1), some (.int x2), some (.int (0 : Int32)), none]) (st' := [.int (1 : Int32), .int (((s.1 5 10) >>> (x2 &&& 31)) &&& (1 : Int32))]) (S1 := zS c s) rfl ?_
      refine zq_if2 (b := ¬ (((s.1 5 10) >>> (x2 &&& 31)) &&& (1 : Int32)) = (1 : Int32)) rfl Iff.rfl rfl (fun g3 => ?_) (fun g3 => ?_)
      · rw [if_pos g3] at h
        refine zr_many 2 (pc' := 29) (L' := [some (.ref 5), some (.ref m1), some (.int x2), some (.int (0 : Int32)), some (.int (0 : Int32))]) (st' := []) (S1 := zS c s) rfl ?_
        obtain ⟨w10, g11, h⟩ := zp_inv h
        refine zr_wk [some (.ref 5), some (.ref m1), some (.int x2), some (.int (0 : Int32)), some (.int (0 : Int32))] ⟨rfl, rfl, rfl, rfl, rfl, trivial⟩ (zl_cert (Z := fun w29 => zr kX0_ableToSing 1 0 29 [some (.ref 5), some (.ref m1), some (.int x2), some (.int w29.1), some (.int w29.2)] [] (zS c s) _ _) (Y := (fun z => zr kX0_ableToSing 1 0 85 [none, none, none, some (.int z), none] [] (zS c s) _ _)) (fun w o h1 h2 h3 => tX0_ableToSing_B29 hm1 h1 h2 h3) n _ _ g11 ?_)
        show zr kX0_ableToSing 1 0 85 [none, none, none, some (.int w10), none] [] (zS c s) _ _
        refine zr_many 1 (pc' := 86) (L' := [none, none, none, some (.int w10), none]) (st' := [.int w10]) (S1 := zS c s) rfl ?_
        obtain rfl := Option.some.inj h
        exact zq_iret rfl
      · rw [if_neg g3] at h
        exact zr_wk [none, none, none, some (.int (0 : Int32)), none] ⟨rfl, trivial⟩ (tX0_ableToSing_J24 h)
def fX0_chordBits_B4 (n : Nat) (s : zs) (x1 : Int32) (w4 : Int32 × Int32) : Option ((Int32 × Int32) ⊕ (Int32)) := if (4 : Int32) ≤ w4.2 then some (Sum.inr w4.1) else cond (zi_in ((x1 * (4 : Int32)) + w4.2) 32) (some (Sum.inl ((w4.1 ||| ((1 : Int32) <<< ((s.1 11 ((x1 * (4 : Int32)) + w4.2).toNatClampNeg) &&& 31))), (w4.2 + (1 : Int32))))) none
theorem tX0_chordBits_B4 {n : Nat} {c : Nat × Nat} {s : zs} {x1 : Int32} {w4 : Int32 × Int32} {o : _} {v : Option Value} {S' : zi_S} (h : fX0_chordBits_B4 n s x1 w4 = some o) (hn : ∀ w4, o = Sum.inl w4 → zr kX0_chordBits 1 0 4 [some (.ref 5), some (.int x1), some (.int w4.1), some (.int w4.2)] [] (zS c s) v S') (hx : ∀ z, o = Sum.inr z → (fun z => zr kX0_chordBits 1 0 30 [none, none, some (.int z), none] [] (zS c s) v S') z) : zr kX0_chordBits 1 0 4 [some (.ref 5), some (.int x1), some (.int w4.1), some (.int w4.2)] [] (zS c s) v S' := by
  unfold fX0_chordBits_B4 at h
  refine zr_many 2 (pc' := 6) (L' := [some (.ref 5), some (.int x1), some (.int w4.1), some (.int w4.2)]) (st' := [.int (4 : Int32), .int w4.2]) (S1 := zS c s) rfl ?_
  refine zq_if2 (b := (4 : Int32) ≤ w4.2) rfl Iff.rfl rfl (fun g1 => ?_) (fun g1 => ?_)
  · rw [if_pos g1] at h
    obtain rfl := Option.some.inj h
    exact zr_wk [none, none, some (.int w4.1), none] ⟨rfl, trivial⟩ (hx w4.1 rfl)
  · rw [if_neg g1] at h
    refine zr_many 3 (pc' := 12) (L' := [some (.ref 5), some (.int x1), some (.int w4.1), some (.int w4.2)]) (st' := [.ref 5, .int (1 : Int32), .int w4.1]) (S1 := zS c s) rfl ?_
    refine zq_get rfl (zh_5 _) rfl rfl rfl ?_
    refine zr_many 5 (pc' := 20) (L' := [some (.ref 5), some (.int x1), some (.int w4.1), some (.int w4.2)]) (st' := [.int ((x1 * (4 : Int32)) + w4.2), .ref 11, .int (1 : Int32), .int w4.1]) (S1 := zS c s) rfl ?_
    obtain ⟨g2, h⟩ := zi_cond_inv h
    refine zq_ild rfl (zh_11 _) rfl g2 rfl ?_
    refine zr_many 5 (pc' := 4) (L' := [some (.ref 5), some (.int x1), some (.int (w4.1 ||| ((1 : Int32) <<< ((s.1 11 ((x1 * (4 : Int32)) + w4.2).toNatClampNeg) &&& 31)))), some (.int (w4.2 + (1 : Int32)))]) (st' := []) (S1 := zS c s) rfl ?_
    obtain rfl := Option.some.inj h
    exact zr_wk [some (.ref 5), some (.int x1), some (.int (w4.1 ||| ((1 : Int32) <<< ((s.1 11 ((x1 * (4 : Int32)) + w4.2).toNatClampNeg) &&& 31)))), some (.int (w4.2 + (1 : Int32)))] ⟨rfl, rfl, rfl, rfl, trivial⟩ (hn ((w4.1 ||| ((1 : Int32) <<< ((s.1 11 ((x1 * (4 : Int32)) + w4.2).toNatClampNeg) &&& 31))), (w4.2 + (1 : Int32))) rfl)
def fX0_chordBits (n : Nat) (s : zs) (x1 : Int32) : Option Int32 := zp (zl (fX0_chordBits_B4 n s x1) n ((0 : Int32), (0 : Int32))) (fun w3 => some w3)
theorem tX0_chordBits {n : Nat} {c : Nat × Nat} {s : zs} {x1 : Int32} {r : Int32} (h : fX0_chordBits n s x1 = some r) : zc 1 20 [.ref 5, .int x1] (zS c s) (some (.int r)) (zS c s) := by
  refine zc_of (k := kX0_chordBits) (rt := 1) (L := [some (.ref 5), some (.int x1), none, none]) zm_20.1 rfl rfl (by decide) rfl rfl ?_
  unfold fX0_chordBits at h
  refine zr_many 4 (pc' := 4) (L' := [some (.ref 5), some (.int x1), some (.int (0 : Int32)), some (.int (0 : Int32))]) (st' := []) (S1 := zS c s) rfl ?_
  obtain ⟨w3, g4, h⟩ := zp_inv h
  refine zr_wk [some (.ref 5), some (.int x1), some (.int (0 : Int32)), some (.int (0 : Int32))] ⟨rfl, rfl, rfl, rfl, trivial⟩ (zl_cert (Z := fun w4 => zr kX0_chordBits 1 0 4 [some (.ref 5), some (.int x1), some (.int w4.1), some (.int w4.2)] [] (zS c s) _ _) (Y := (fun z => zr kX0_chordBits 1 0 30 [none, none, some (.int z), none] [] (zS c s) _ _)) (fun w o h1 h2 h3 => tX0_chordBits_B4 h1 h2 h3) n _ _ g4 ?_)
  show zr kX0_chordBits 1 0 30 [none, none, some (.int w3), none] [] (zS c s) _ _
  refine zr_many 1 (pc' := 31) (L' := [none, none, some (.int w3), none]) (st' := [.int w3]) (S1 := zS c s) rfl ?_
  obtain rfl := Option.some.inj h
  exact zq_iret rfl
def fJ6_bitCount_0f7a4 (n : Nat) (s : zs) (x0 : Int32) : Option Int32 := some ((((((((x0 - ((x0.toUInt32 >>> ((1 : Int32).toUInt32 &&& Int32.toUInt32 31)).toInt32 &&& (1431655765 : Int32))) &&& (858993459 : Int32)) + (((x0 - ((x0.toUInt32 >>> ((1 : Int32).toUInt32 &&& Int32.toUInt32 31)).toInt32 &&& (1431655765 : Int32))).toUInt32 >>> ((2 : Int32).toUInt32 &&& Int32.toUInt32 31)).toInt32 &&& (858993459 : Int32))) + ((((x0 - ((x0.toUInt32 >>> ((1 : Int32).toUInt32 &&& Int32.toUInt32 31)).toInt32 &&& (1431655765 : Int32))) &&& (858993459 : Int32)) + (((x0 - ((x0.toUInt32 >>> ((1 : Int32).toUInt32 &&& Int32.toUInt32 31)).toInt32 &&& (1431655765 : Int32))).toUInt32 >>> ((2 : Int32).toUInt32 &&& Int32.toUInt32 31)).toInt32 &&& (858993459 : Int32))).toUInt32 >>> ((4 : Int32).toUInt32 &&& Int32.toUInt32 31)).toInt32) &&& (252645135 : Int32)) + ((((((x0 - ((x0.toUInt32 >>> ((1 : Int32).toUInt32 &&& Int32.toUInt32 31)).toInt32 &&& (1431655765 : Int32))) &&& (858993459 : Int32)) + (((x0 - ((x0.toUInt32 >>> ((1 : Int32).toUInt32 &&& Int32.toUInt32 31)).toInt32 &&& (1431655765 : Int32))).toUInt32 >>> ((2 : Int32).toUInt32 &&& Int32.toUInt32 31)).toInt32 &&& (858993459 : Int32))) + ((((x0 - ((x0.toUInt32 >>> ((1 : Int32).toUInt32 &&& Int32.toUInt32 31)).toInt32 &&& (1431655765 : Int32))) &&& (858993459 : Int32)) + (((x0 - ((x0.toUInt32 >>> ((1 : Int32).toUInt32 &&& Int32.toUInt32 31)).toInt32 &&& (1431655765 : Int32))).toUInt32 >>> ((2 : Int32).toUInt32 &&& Int32.toUInt32 31)).toInt32 &&& (858993459 : Int32))).toUInt32 >>> ((4 : Int32).toUInt32 &&& Int32.toUInt32 31)).toInt32) &&& (252645135 : Int32)).toUInt32 >>> ((8 : Int32).toUInt32 &&& Int32.toUInt32 31)).toInt32) + (((((((x0 - ((x0.toUInt32 >>> ((1 : Int32).toUInt32 &&& Int32.toUInt32 31)).toInt32 &&& (1431655765 : Int32))) &&& (858993459 : Int32)) + (((x0 - ((x0.toUInt32 >>> ((1 : Int32).toUInt32 &&& Int32.toUInt32 31)).toInt32 &&& (1431655765 : Int32))).toUInt32 >>> ((2 : Int32).toUInt32 &&& Int32.toUInt32 31)).toInt32 &&& (858993459 : Int32))) + ((((x0 - ((x0.toUInt32 >>> ((1 : Int32).toUInt32 &&& Int32.toUInt32 31)).toInt32 &&& (1431655765 : Int32))) &&& (858993459 : Int32)) + (((x0 - ((x0.toUInt32 >>> ((1 : Int32).toUInt32 &&& Int32.toUInt32 31)).toInt32 &&& (1431655765 : Int32))).toUInt32 >>> ((2 : Int32).toUInt32 &&& Int32.toUInt32 31)).toInt32 &&& (858993459 : Int32))).toUInt32 >>> ((4 : Int32).toUInt32 &&& Int32.toUInt32 31)).toInt32) &&& (252645135 : Int32)) + ((((((x0 - ((x0.toUInt32 >>> ((1 : Int32).toUInt32 &&& Int32.toUInt32 31)).toInt32 &&& (1431655765 : Int32))) &&& (858993459 : Int32)) + (((x0 - ((x0.toUInt32 >>> ((1 : Int32).toUInt32 &&& Int32.toUInt32 31)).toInt32 &&& (1431655765 : Int32))).toUInt32 >>> ((2 : Int32).toUInt32 &&& Int32.toUInt32 31)).toInt32 &&& (858993459 : Int32))) + ((((x0 - ((x0.toUInt32 >>> ((1 : Int32).toUInt32 &&& Int32.toUInt32 31)).toInt32 &&& (1431655765 : Int32))) &&& (858993459 : Int32)) + (((x0 - ((x0.toUInt32 >>> ((1 : Int32).toUInt32 &&& Int32.toUInt32 31)).toInt32 &&& (1431655765 : Int32))).toUInt32 >>> ((2 : Int32).toUInt32 &&& Int32.toUInt32 31)).toInt32 &&& (858993459 : Int32))).toUInt32 >>> ((4 : Int32).toUInt32 &&& Int32.toUInt32 31)).toInt32) &&& (252645135 : Int32)).toUInt32 >>> ((8 : Int32).toUInt32 &&& Int32.toUInt32 31)).toInt32).toUInt32 >>> ((16 : Int32).toUInt32 &&& Int32.toUInt32 31)).toInt32) &&& (63 : Int32))
theorem tJ6_bitCount_0f7a4 {n : Nat} {c : Nat × Nat} {s : zs} {x0 : Int32} {r : Int32} (h : fJ6_bitCount_0f7a4 n s x0 = some r) : zc 1 2800 [.int x0] (zS c s) (some (.int r)) (zS c s) := by
  refine zc_of (k := kJ6_bitCount_0f7a4) (rt := 1) (L := [some (.int x0)]) zm_2800.1 rfl rfl (by decide) rfl rfl ?_
  unfold fJ6_bitCount_0f7a4 at h
  refine zr_many 41 (pc' := 52) (L' := [some (.int (((((((x0 - ((x0.toUInt32 >>> ((1 : Int32).toUInt32 &&& Int32.toUInt32 31)).toInt32 &&& (1431655765 : Int32))) &&& (858993459 : Int32)) + (((x0 - ((x0.toUInt32 >>> ((1 : Int32).toUInt32 &&& Int32.toUInt32 31)).toInt32 &&& (1431655765 : Int32))).toUInt32 >>> ((2 : Int32).toUInt32 &&& Int32.toUInt32 31)).toInt32 &&& (858993459 : Int32))) + ((((x0 - ((x0.toUInt32 >>> ((1 : Int32).toUInt32 &&& Int32.toUInt32 31)).toInt32 &&& (1431655765 : Int32))) &&& (858993459 : Int32)) + (((x0 - ((x0.toUInt32 >>> ((1 : Int32).toUInt32 &&& Int32.toUInt32 31)).toInt32 &&& (1431655765 : Int32))).toUInt32 >>> ((2 : Int32).toUInt32 &&& Int32.toUInt32 31)).toInt32 &&& (858993459 : Int32))).toUInt32 >>> ((4 : Int32).toUInt32 &&& Int32.toUInt32 31)).toInt32) &&& (252645135 : Int32)) + ((((((x0 - ((x0.toUInt32 >>> ((1 : Int32).toUInt32 &&& Int32.toUInt32 31)).toInt32 &&& (1431655765 : Int32))) &&& (858993459 : Int32)) + (((x0 - ((x0.toUInt32 >>> ((1 : Int32).toUInt32 &&& Int32.toUInt32 31)).toInt32 &&& (1431655765 : Int32))).toUInt32 >>> ((2 : Int32).toUInt32 &&& Int32.toUInt32 31)).toInt32 &&& (858993459 : Int32))) + ((((x0 - ((x0.toUInt32 >>> ((1 : Int32).toUInt32 &&& Int32.toUInt32 31)).toInt32 &&& (1431655765 : Int32))) &&& (858993459 : Int32)) + (((x0 - ((x0.toUInt32 >>> ((1 : Int32).toUInt32 &&& Int32.toUInt32 31)).toInt32 &&& (1431655765 : Int32))).toUInt32 >>> ((2 : Int32).toUInt32 &&& Int32.toUInt32 31)).toInt32 &&& (858993459 : Int32))).toUInt32 >>> ((4 : Int32).toUInt32 &&& Int32.toUInt32 31)).toInt32) &&& (252645135 : Int32)).toUInt32 >>> ((8 : Int32).toUInt32 &&& Int32.toUInt32 31)).toInt32) + (((((((x0 - ((x0.toUInt32 >>> ((1 : Int32).toUInt32 &&& Int32.toUInt32 31)).toInt32 &&& (1431655765 : Int32))) &&& (858993459 : Int32)) + (((x0 - ((x0.toUInt32 >>> ((1 : Int32).toUInt32 &&& Int32.toUInt32 31)).toInt32 &&& (1431655765 : Int32))).toUInt32 >>> ((2 : Int32).toUInt32 &&& Int32.toUInt32 31)).toInt32 &&& (858993459 : Int32))) + ((((x0 - ((x0.toUInt32 >>> ((1 : Int32).toUInt32 &&& Int32.toUInt32 31)).toInt32 &&& (1431655765 : Int32))) &&& (858993459 : Int32)) + (((x0 - ((x0.toUInt32 >>> ((1 : Int32).toUInt32 &&& Int32.toUInt32 31)).toInt32 &&& (1431655765 : Int32))).toUInt32 >>> ((2 : Int32).toUInt32 &&& Int32.toUInt32 31)).toInt32 &&& (858993459 : Int32))).toUInt32 >>> ((4 : Int32).toUInt32 &&& Int32.toUInt32 31)).toInt32) &&& (252645135 : Int32)) + ((((((x0 - ((x0.toUInt32 >>> ((1 : Int32).toUInt32 &&& Int32.toUInt32 31)).toInt32 &&& (1431655765 : Int32))) &&& (858993459 : Int32)) + (((x0 - ((x0.toUInt32 >>> ((1 : Int32).toUInt32 &&& Int32.toUInt32 31)).toInt32 &&& (1431655765 : Int32))).toUInt32 >>> ((2 : Int32).toUInt32 &&& Int32.toUInt32 31)).toInt32 &&& (858993459 : Int32))) + ((((x0 - ((x0.toUInt32 >>> ((1 : Int32).toUInt32 &&& Int32.toUInt32 31)).toInt32 &&& (1431655765 : Int32))) &&& (858993459 : Int32)) + (((x0 - ((x0.toUInt32 >>> ((1 : Int32).toUInt32 &&& Int32.toUInt32 31)).toInt32 &&& (1431655765 : Int32))).toUInt32 >>> ((2 : Int32).toUInt32 &&& Int32.toUInt32 31)).toInt32 &&& (858993459 : Int32))).toUInt32 >>> ((4 : Int32).toUInt32 &&& Int32.toUInt32 31)).toInt32) &&& (252645135 : Int32)).toUInt32 >>> ((8 : Int32).toUInt32 &&& Int32.toUInt32 31)).toInt32).toUInt32 >>> ((16 : Int32).toUInt32 &&& Int32.toUInt32 31)).toInt32))]) (st' := [.int ((((((((x0 - ((x0.toUInt32 >>> ((1 : Int32).toUInt32 &&& Int32.toUInt32 31)).toInt32 &&& (1431655765 : Int32))) &&& (858993459 : Int32)) + (((x0 - ((x0.toUInt32 >>> ((1 : Int32).toUInt32 &&& Int32.toUInt32 31)).toInt32 &&& (1431655765 : Int32))).toUInt32 >>> ((2 : Int32).toUInt32 &&& Int32.toUInt32 31)).toInt32 &&& (858993459 : Int32))) + ((((x0 - ((x0.toUInt32 >>> ((1 : Int32).toUInt32 &&& Int32.toUInt32 31)).toInt32 &&& (1431655765 : Int32))) &&& (858993459 : Int32)) + (((x0 - ((x0.toUInt32 >>> ((1 : Int32).toUInt32 &&& Int32.toUInt32 31)).toInt32 &&& (1431655765 : Int32))).toUInt32 >>> ((2 : Int32).toUInt32 &&& Int32.toUInt32 31)).toInt32 &&& (858993459 : Int32))).toUInt32 >>> ((4 : Int32).toUInt32 &&& Int32.toUInt32 31)).toInt32) &&& (252645135 : Int32)) + ((((((x0 - ((x0.toUInt32 >>> ((1 : Int32).toUInt32 &&& Int32.toUInt32 31)).toInt32 &&& (1431655765 : Int32))) &&& (858993459 : Int32)) + (((x0 - ((x0.toUInt32 >>> ((1 : Int32).toUInt32 &&& Int32.toUInt32 31)).toInt32 &&& (1431655765 : Int32))).toUInt32 >>> ((2 : Int32).toUInt32 &&& Int32.toUInt32 31)).toInt32 &&& (858993459 : Int32))) + ((((x0 - ((x0.toUInt32 >>> ((1 : Int32).toUInt32 &&& Int32.toUInt32 31)).toInt32 &&& (1431655765 : Int32))) &&& (858993459 : Int32)) + (((x0 - ((x0.toUInt32 >>> ((1 : Int32).toUInt32 &&& Int32.toUInt32 31)).toInt32 &&& (1431655765 : Int32))).toUInt32 >>> ((2 : Int32).toUInt32 &&& Int32.toUInt32 31)).toInt32 &&& (858993459 : Int32))).toUInt32 >>> ((4 : Int32).toUInt32 &&& Int32.toUInt32 31)).toInt32) &&& (252645135 : Int32)).toUInt32 >>> ((8 : Int32).toUInt32 &&& Int32.toUInt32 31)).toInt32) + (((((((x0 - ((x0.toUInt32 >>> ((1 : Int32).toUInt32 &&& Int32.toUInt32 31)).toInt32 &&& (1431655765 : Int32))) &&& (858993459 : Int32)) + (((x0 - ((x0.toUInt32 >>> ((1 : Int32).toUInt32 &&& Int32.toUInt32 31)).toInt32 &&& (1431655765 : Int32))).toUInt32 >>> ((2 : Int32).toUInt32 &&& Int32.toUInt32 31)).toInt32 &&& (858993459 : Int32))) + ((((x0 - ((x0.toUInt32 >>> ((1 : Int32).toUInt32 &&& Int32.toUInt32 31)).toInt32 &&& (1431655765 : Int32))) &&& (858993459 : Int32)) + (((x0 - ((x0.toUInt32 >>> ((1 : Int32).toUInt32 &&& Int32.toUInt32 31)).toInt32 &&& (1431655765 : Int32))).toUInt32 >>> ((2 : Int32).toUInt32 &&& Int32.toUInt32 31)).toInt32 &&& (858993459 : Int32))).toUInt32 >>> ((4 : Int32).toUInt32 &&& Int32.toUInt32 31)).toInt32) &&& (252645135 : Int32)) + ((((((x0 - ((x0.toUInt32 >>> ((1 : Int32).toUInt32 &&& Int32.toUInt32 31)).toInt32 &&& (1431655765 : Int32))) &&& (858993459 : Int32)) + (((x0 - ((x0.toUInt32 >>> ((1 : Int32).toUInt32 &&& Int32.toUInt32 31)).toInt32 &&& (1431655765 : Int32))).toUInt32 >>> ((2 : Int32).toUInt32 &&& Int32.toUInt32 31)).toInt32 &&& (858993459 : Int32))) + ((((x0 - ((x0.toUInt32 >>> ((1 : Int32).toUInt32 &&& Int32.toUInt32 31)).toInt32 &&& (1431655765 : Int32))) &&& (858993459 : Int32)) + (((x0 - ((x0.toUInt32 >>> ((1 : Int32).toUInt32 &&& Int32.toUInt32 31)).toInt32 &&& (1431655765 : Int32))).toUInt32 >>> ((2 : Int32).toUInt32 &&& Int32.toUInt32 31)).toInt32 &&& (858993459 : Int32))).toUInt32 >>> ((4 : Int32).toUInt32 &&& Int32.toUInt32 31)).toInt32) &&& (252645135 : Int32)).toUInt32 >>> ((8 : Int32).toUInt32 &&& Int32.toUInt32 31)).toInt32).toUInt32 >>> ((16 : Int32).toUInt32 &&& Int32.toUInt32 31)).toInt32) &&& (63 : Int32))]) (S1 := zS c s) rfl ?_
  obtain rfl := Option.some.inj h
  exact zq_iret rfl
def fX1_placeOf (n : Nat) (s : zs) (x0 : Int32) : Option Int32 := zp (fJ6_bitCount_0f7a4 n s (x0 - (1 : Int32))) (fun r1 => some r1)
theorem tX1_placeOf {n : Nat} {c : Nat × Nat} {s : zs} {x0 : Int32} {r : Int32} (h : fX1_placeOf n s x0 = some r) : zc 2 202 [.int x0] (zS c s) (some (.int r)) (zS c s) := by
  refine zc_of (k := kX1_placeOf) (rt := 1) (L := [some (.int x0)]) zm_202.1 rfl rfl (by decide) rfl rfl ?_
  unfold fX1_placeOf at h
  refine zr_many 3 (pc' := 3) (L' := [some (.int x0)]) (st' := [.int (x0 - (1 : Int32))]) (S1 := zS c s) rfl ?_
  obtain ⟨r1, g3, h⟩ := zp_inv h
  refine zq_scall1 rfl (by decide) rfl rfl (tJ6_bitCount_0f7a4 g3) rfl ?_
  obtain rfl := Option.some.inj h
  exact zq_iret rfl
def fX1_gather_J78 (n : Nat) (s : zs) (m1 : Nat) (x2 : Int32) (x3 : Int32) (x4 : Int32) (y1 : Int32) (y2 : Int32) : Option ((Int32 × zs) ⊕ (zs)) := cond (zi_in y1 16) (some (Sum.inl ((x4 + (1 : Int32)), (zsi s 36 y1.toNatClampNeg y2)))) none
theorem tX1_gather_J78 {n : Nat} {c : Nat × Nat} {s : zs} {m1 : Nat} {x2 : Int32} {x3 : Int32} {x4 : Int32} {y1 : Int32} {y2 : Int32} {o : _} {v : Option Value} {S' : zi_S} (hm1 : zM m1) (h : fX1_gather_J78 n s m1 x2 x3 x4 y1 y2 = some o) (hn : ∀ w3, o = Sum.inl w3 → zr kX1_gather 0 2 3 [some (.ref 35), some (.ref m1), some (.int x2), some (.int x3), some (.int w3.1), none] [] (zS c w3.2) v S') (hx : ∀ z, o = Sum.inr z → (fun z => zr kX1_gather 0 2 85 [none, none, none, none, none, none] [] (zS c z) v S') z) : zr kX1_gather 0 2 78 [some (.ref 35), some (.ref m1), some (.int x2), some (.int x3), some (.int x4), none] [.int y2, .int y1, .ref 36] (zS c s) v S' := by
  unfold fX1_gather_J78 at h
  obtain ⟨g5, h⟩ := zi_cond_inv h
  refine zq_ist rfl zh_36 rfl g5 rfl ?_
  refine zr_many 2 (pc' := 3) (L' := [some (.ref 35), some (.ref m1), some (.int x2), some (.int x3), some (.int (x4 + (1 : Int32))), none]) (st' := []) (S1 := zS c (zsi s 36 y1.toNatClampNeg y2)) rfl ?_
  obtain rfl := Option.some.inj h
  exact zr_wk [some (.ref 35), some (.ref m1), some (.int x2), some (.int x3), some (.int (x4 + (1 : Int32))), none] ⟨rfl, rfl, rfl, rfl, rfl, trivial⟩ (hn ((x4 + (1 : Int32)), (zsi s 36 y1.toNatClampNeg y2)) rfl)
def fX1_gather_B3 (n : Nat) (m1 : Nat) (x2 : Int32) (x3 : Int32) (w3 : Int32 × zs) : Option ((Int32 × zs) ⊕ (zs)) := if (15 : Int32) < w3.1 then some (Sum.inr w3.2) else if ¬ (w3.1 &&& (w3.1 - (1 : Int32))) = 0 then cond (zi_in (w3.1 &&& (w3.1 - (1 : Int32))) 16) (cond (zi_in (w3.1 ^^^ (w3.1 &&& (w3.1 - (1 : Int32)))) 16) (fX1_gather_J78 n w3.2 m1 x2 x3 w3.1 w3.1 ((w3.2.1 36 (w3.1 &&& (w3.1 - (1 : Int32))).toNatClampNeg) ||| (w3.2.1 36 (w3.1 ^^^ (w3.1 &&& (w3.1 - (1 : Int32)))).toNatClampNeg))) none) none else zp (fX1_placeOf n w3.2 w3.1) (fun r6 => cond (zi_in ((x2 * (4 : Int32)) + r6) 32) (zp (fX0_ableToSing n w3.2 m1 ((w3.2.1 11 ((x2 * (4 : Int32)) + r6).toNatClampNeg) + x3)) (fun r10 => fX1_gather_J78 n w3.2 m1 x2 x3 w3.1 w3.1 r10)) none)
theorem tX1_gather_B3 {n : Nat} {c : Nat × Nat} {m1 : Nat} {x2 : Int32} {x3 : Int32} {w3 : Int32 × zs} {o : _} {v : Option Value} {S' : zi_S} (hm1 : zM m1) (h : fX1_gather_B3 n m1 x2 x3 w3 = some o) (hn : ∀ w3, o = Sum.inl w3 → zr kX1_gather 0 2 3 [some (.ref 35), some (.ref m1), some (.int x2), some (.int x3), some (.int w3.1), none] [] (zS c w3.2) v S') (hx : ∀ z, o = Sum.inr z → (fun z => zr kX1_gather 0 2 85 [none, none, none, none, none, none] [] (zS c z) v S') z) : zr kX1_gather 0 2 3 [some (.ref 35), some (.ref m1), some (.int x2), some (.int x3), some (.int w3.1), none] [] (zS c w3.2) v S' := by
  unfold fX1_gather_B3 at h
  refine zr_many 2 (pc' := 7) (L' := [some (.ref 35), some (.ref m1), some (.int x2), some (.int x3), some (.int w3.1), none]) (st' := [.int (15 : Int32), .int w3.1]) (S1 := zS c w3.2) rfl ?_
  refine zq_if2 (b := (15 : Int32) < w3.1) rfl Iff.rfl rfl (fun g1 => ?_) (fun g1 => ?_)
  · rw [if_pos g1] at h
    obtain rfl := Option.some.inj h
    exact zr_wk [none, none, none, none, none, none] trivial (hx w3.2 rfl)
  · rw [if_neg g1] at h
    refine zr_many 7 (pc' := 20) (L' := [some (.ref 35), some (.ref m1), some (.int x2), some (.int x3), some (.int w3.1), some (.int (w3.1 &&& (w3.1 - (1 : Int32))))]) (st' := [.ref 35]) (S1 := zS c w3.2) rfl ?_
    refine zq_get rfl (zh_35 _) rfl rfl rfl ?_
    refine zr_many 2 (pc' := 27) (L' := [some (.ref 35), some (.ref m1), some (.int x2), some (.int x3), some (.int w3.1), some (.int (w3.1 &&& (w3.1 - (1 : Int32))))]) (st' := [.int (w3.1 &&& (w3.1 - (1 : Int32))), .int w3.1, .ref 36]) (S1 := zS c w3.2) rfl ?_
    refine zq_if1 (b := ¬ (w3.1 &&& (w3.1 - (1 : Int32))) = 0) rfl Iff.rfl rfl (fun g2 => ?_) (fun g2 => ?_)
    · rw [if_pos g2] at h
      refine zr_many 1 (pc' := 61) (L' := [some (.ref 35), some (.ref m1), some (.int x2), some (.int x3), some (.int w3.1), some (.int (w3.1 &&& (w3.1 - (1 : Int32))))]) (st' := [.ref 35, .int w3.1, .ref 36]) (S1 := zS c w3.2) rfl ?_
      refine zq_get rfl (zh_35 _) rfl rfl rfl ?_
      refine zr_many 1 (pc' := 66) (L' := [some (.ref 35), some (.ref m1), some (.int x2), some (.int x3), some (.int w3.1), some (.int (w3.1 &&& (w3.1 - (1 : Int32))))]) (st' := [.int (w3.1 &&& (w3.1 - (1 : Int32))), .ref 36, .int w3.1, .ref 36]) (S1 := zS c w3.2) rfl ?_
      obtain ⟨g3, h⟩ := zi_cond_inv h
      refine zq_ild rfl (zh_36 _) rfl g3 rfl ?_
      refine zr_many 1 (pc' := 68) (L' := [some (.ref 35), some (.ref m1), some (.int x2), some (.int x3), some (.int w3.1), some (.int (w3.1 &&& (w3.1 - (1 : Int32))))]) (st' := [.ref 35, .int (w3.2.1 36 (w3.1 &&& (w3.1 - (1 : Int32))).toNatClampNeg), .int w3.1, .ref 36]) (S1 := zS c w3.2) rfl ?_
      refine zq_get rfl (zh_35 _) rfl rfl rfl ?_
      refine zr_many 3 (pc' := 76) (L' := [some (.ref 35), some (.ref m1), some (.int x2), some (.int x3), some (.int w3.1), some (.int (w3.1 &&& (w3.1 - (1 : Int32))))]) (st' := [.int (w3.1 ^^^ (w3.1 &&& (w3.1 - (1 : Int32)))), .ref 36, .int (w3.2.1 36 (w3.1 &&& (w3.1 - (1 : Int32))).toNatClampNeg), .int w3.1, .ref 36]) (S1 := zS c w3.2) rfl ?_
      obtain ⟨g4, h⟩ := zi_cond_inv h
      refine zq_ild rfl (zh_36 _) rfl g4 rfl ?_
      refine zr_many 1 (pc' := 78) (L' := [some (.ref 35), some (.ref m1), some (.int x2), some (.int x3), some (.int w3.1), some (.int (w3.1 &&& (w3.1 - (1 : Int32))))]) (st' := [.int ((w3.2.1 36 (w3.1 &&& (w3.1 - (1 : Int32))).toNatClampNeg) ||| (w3.2.1 36 (w3.1 ^^^ (w3.1 &&& (w3.1 - (1 : Int32)))).toNatClampNeg)), .int w3.1, .ref 36]) (S1 := zS c w3.2) rfl ?_
      exact zr_wk [some (.ref 35), some (.ref m1), some (.int x2), some (.int x3), some (.int w3.1), none] ⟨rfl, rfl, rfl, rfl, rfl, trivial⟩ (tX1_gather_J78 hm1 h hn hx)
    · rw [if_neg g2] at h
      refine zr_many 1 (pc' := 31) (L' := [some (.ref 35), some (.ref m1), some (.int x2), some (.int x3), some (.int w3.1), some (.int (w3.1 &&& (w3.1 - (1 : Int32))))]) (st' := [.ref 35, .int w3.1, .ref 36]) (S1 := zS c w3.2) rfl ?_
      refine zq_get rfl (zh_35 _) rfl rfl rfl ?_
      refine zr_many 2 (pc' := 36) (L' := [some (.ref 35), some (.ref m1), some (.int x2), some (.int x3), some (.int w3.1), some (.int (w3.1 &&& (w3.1 - (1 : Int32))))]) (st' := [.ref 35, .ref m1, .ref 5, .int w3.1, .ref 36]) (S1 := zS c w3.2) rfl ?_
      refine zq_get rfl (zh_35 _) rfl rfl rfl ?_
      refine zq_get rfl (zh_5 _) rfl rfl rfl ?_
      refine zr_many 4 (pc' := 47) (L' := [some (.ref 35), some (.ref m1), some (.int x2), some (.int x3), some (.int w3.1), some (.int (w3.1 &&& (w3.1 - (1 : Int32))))]) (st' := [.int w3.1, .int (x2 * (4 : Int32)), .ref 11, .ref m1, .ref 5, .int w3.1, .ref 36]) (S1 := zS c w3.2) rfl ?_
      obtain ⟨r6, g8, h⟩ := zp_inv h
      refine zq_scall1 rfl (by decide) rfl rfl (tX1_placeOf g8) rfl ?_
      refine zr_many 1 (pc' := 51) (L' := [some (.ref 35), some (.ref m1), some (.int x2), some (.int x3), some (.int w3.1), some (.int (w3.1 &&& (w3.1 - (1 : Int32))))]) (st' := [.int ((x2 * (4 : Int32)) + r6), .ref 11, .ref m1, .ref 5, .int w3.1, .ref 36]) (S1 := zS c w3.2) rfl ?_
      obtain ⟨g9, h⟩ := zi_cond_inv h
      refine zq_ild rfl (zh_11 _) rfl g9 rfl ?_
      refine zr_many 2 (pc' := 54) (L' := [some (.ref 35), some (.ref m1), some (.int x2), some (.int x3), some (.int w3.1), some (.int (w3.1 &&& (w3.1 - (1 : Int32))))]) (st' := [.int ((w3.2.1 11 ((x2 * (4 : Int32)) + r6).toNatClampNeg) + x3), .ref m1, .ref 5, .int w3.1, .ref 36]) (S1 := zS c w3.2) rfl ?_
      obtain ⟨r10, g12, h⟩ := zp_inv h
      refine zq_call1 rfl rfl (zh_5 _) rfl rfl rfl ((tX0_ableToSing hm1 g12).up (by decide)) rfl ?_
      refine zr_many 1 (pc' := 78) (L' := [some (.ref 35), some (.ref m1), some (.int x2), some (.int x3), some (.int w3.1), some (.int (w3.1 &&& (w3.1 - (1 : Int32))))]) (st' := [.int r10, .int w3.1, .ref 36]) (S1 := zS c w3.2) rfl ?_
      exact zr_wk [some (.ref 35), some (.ref m1), some (.int x2), some (.int x3), some (.int w3.1), none] ⟨rfl, rfl, rfl, rfl, rfl, trivial⟩ (tX1_gather_J78 hm1 h hn hx)
def fX1_gather (n : Nat) (s : zs) (m1 : Nat) (x2 : Int32) (x3 : Int32) : Option zs := zp (zl (fX1_gather_B3 n m1 x2 x3) n ((1 : Int32), s)) (fun w13 => some w13)
theorem tX1_gather {n : Nat} {c : Nat × Nat} {s : zs} {m1 : Nat} {x2 : Int32} {x3 : Int32} {s' : zs} (hm1 : zM m1) (h : fX1_gather n s m1 x2 x3 = some s') : zc 3 201 [.ref 35, .ref m1, .int x2, .int x3] (zS c s) none (zS c s') := by
  refine zc_of (k := kX1_gather) (rt := 0) (L := [some (.ref 35), some (.ref m1), some (.int x2), some (.int x3), none, none]) zm_201.1 rfl rfl (by decide) rfl rfl ?_
  unfold fX1_gather at h
  refine zr_many 2 (pc' := 3) (L' := [some (.ref 35), some (.ref m1), some (.int x2), some (.int x3), some (.int (1 : Int32)), none]) (st' := []) (S1 := zS c s) rfl ?_
  obtain ⟨w13, g14, h⟩ := zp_inv h
  refine zr_wk [some (.ref 35), some (.ref m1), some (.int x2), some (.int x3), some (.int (1 : Int32)), none] ⟨rfl, rfl, rfl, rfl, rfl, trivial⟩ (zl_cert (Z := fun w3 => zr kX1_gather 0 2 3 [some (.ref 35), some (.ref m1), some (.int x2), some (.int x3), some (.int w3.1), none] [] (zS c w3.2) _ _) (Y := (fun z => zr kX1_gather 0 2 85 [none, none, none, none, none, none] [] (zS c z) _ _)) (fun w o h1 h2 h3 => tX1_gather_B3 hm1 h1 h2 h3) n _ _ g14 ?_)
  show zr kX1_gather 0 2 85 [none, none, none, none, none, none] [] (zS c w13) _ _
  obtain rfl := Option.some.inj h
  exact zq_vret rfl
def fX1_canSing_J48 (n : Nat) (s : zs) (x1 : Int32) (x2 : Int32) (x3 : Int32) : Option ((Int32) ⊕ ((Unit) ⊕ (Unit))) := some (Sum.inl (x3 + (1 : Int32)))
theorem tX1_canSing_J48 {n : Nat} {c : Nat × Nat} {s : zs} {x1 : Int32} {x2 : Int32} {x3 : Int32} {o : _} {v : Option Value} {S' : zi_S} (h : fX1_canSing_J48 n s x1 x2 x3 = some o) (hn : ∀ w2, o = Sum.inl w2 → zr kX1_canSing 2 1 2 [some (.ref 35), some (.int x1), some (.int x2), some (.int w2), none] [] (zS c s) v S') (hx : ∀ z, o = Sum.inr z → (Sum.elim (fun z => zr kX1_canSing 2 1 46 [none, none, none, none, none] [] (zS c s) v S') (fun z => zr kX1_canSing 2 1 54 [none, none, none, none, none] [] (zS c s) v S')) z) : zr kX1_canSing 2 1 48 [some (.ref 35), some (.int x1), some (.int x2), some (.int x3), none] [] (zS c s) v S' := by
  unfold fX1_canSing_J48 at h
  refine zr_many 2 (pc' := 2) (L' := [some (.ref 35), some (.int x1), some (.int x2), some (.int (x3 + (1 : Int32))), none]) (st' := []) (S1 := zS c s) rfl ?_
  obtain rfl := Option.some.inj h
  exact zr_wk [some (.ref 35), some (.int x1), some (.int x2), some (.int (x3 + (1 : Int32))), none] ⟨rfl, rfl, rfl, rfl, trivial⟩ (hn (x3 + (1 : Int32)) rfl)
def fX1_canSing_J21 (n : Nat) (s : zs) (x1 : Int32) (x2 : Int32) (x3 : Int32) (y0 : Int32) : Option ((Int32) ⊕ ((Unit) ⊕ (Unit))) := if y0 = 0 then fX1_canSing_J48 n s x1 x2 x3 else cond (zi_in x3 16) (zp (fJ6_bitCount_0f7a4 n s ((s.1 36 x3.toNatClampNeg) &&& x2)) (fun r5 => zp (fJ6_bitCount_0f7a4 n s x3) (fun r8 => if r8 ≤ r5 then fX1_canSing_J48 n s x1 x2 x3 else some (Sum.inr (Sum.inl ()))))) none
theorem tX1_canSing_J21 {n : Nat} {c : Nat × Nat} {s : zs} {x1 : Int32} {x2 : Int32} {x3 : Int32} {y0 : Int32} {o : _} {v : Option Value} {S' : zi_S} (h : fX1_canSing_J21 n s x1 x2 x3 y0 = some o) (hn : ∀ w2, o = Sum.inl w2 → zr kX1_canSing 2 1 2 [some (.ref 35), some (.int x1), some (.int x2), some (.int w2), none] [] (zS c s) v S') (hx : ∀ z, o = Sum.inr z → (Sum.elim (fun z => zr kX1_canSing 2 1 46 [none, none, none, none, none] [] (zS c s) v S') (fun z => zr kX1_canSing 2 1 54 [none, none, none, none, none] [] (zS c s) v S')) z) : zr kX1_canSing 2 1 21 [some (.ref 35), some (.int x1), some (.int x2), some (.int x3), none] [.int y0] (zS c s) v S' := by
  unfold fX1_canSing_J21 at h
  refine zr_many 2 (pc' := 25) (L' := [some (.ref 35), some (.int x1), some (.int x2), some (.int x3), some (.int y0)]) (st' := [.int y0]) (S1 := zS c s) rfl ?_
  refine zq_if1 (b := y0 = 0) rfl Iff.rfl rfl (fun g3 => ?_) (fun g3 => ?_)
  · rw [if_pos g3] at h
    exact zr_wk [some (.ref 35), some (.int x1), some (.int x2), some (.int x3), none] ⟨rfl, rfl, rfl, rfl, trivial⟩ (tX1_canSing_J48 h hn hx)
  · rw [if_neg g3] at h
    refine zr_many 1 (pc' := 29) (L' := [some (.ref 35), some (.int x1), some (.int x2), some (.int x3), some (.int y0)]) (st' := [.ref 35]) (S1 := zS c s) rfl ?_
    refine zq_get rfl (zh_35 _) rfl rfl rfl ?_
    refine zr_many 1 (pc' := 33) (L' := [some (.ref 35), some (.int x1), some (.int x2), some (.int x3), some (.int y0)]) (st' := [.int x3, .ref 36]) (S1 := zS c s) rfl ?_
    obtain ⟨g4, h⟩ := zi_cond_inv h
    refine zq_ild rfl (zh_36 _) rfl g4 rfl ?_
    refine zr_many 2 (pc' := 36) (L' := [some (.ref 35), some (.int x1), some (.int x2), some (.int x3), some (.int y0)]) (st' := [.int ((s.1 36 x3.toNatClampNeg) &&& x2)]) (S1 := zS c s) rfl ?_
    obtain ⟨r5, g7, h⟩ := zp_inv h
    refine zq_scall1 rfl (by decide) rfl rfl (tJ6_bitCount_0f7a4 g7) rfl ?_
    refine zr_many 1 (pc' := 40) (L' := [some (.ref 35), some (.int x1), some (.int x2), some (.int x3), some (.int y0)]) (st' := [.int x3, .int r5]) (S1 := zS c s) rfl ?_
    obtain ⟨r8, g10, h⟩ := zp_inv h
    refine zq_scall1 rfl (by decide) rfl rfl (tJ6_bitCount_0f7a4 g10) rfl ?_
    refine zq_if2 (b := r8 ≤ r5) rfl Iff.rfl rfl (fun g11 => ?_) (fun g11 => ?_)
    · rw [if_pos g11] at h
      exact zr_wk [some (.ref 35), some (.int x1), some (.int x2), some (.int x3), none] ⟨rfl, rfl, rfl, rfl, trivial⟩ (tX1_canSing_J48 h hn hx)
    · rw [if_neg g11] at h
      obtain rfl := Option.some.inj h
      exact zr_wk [none, none, none, none, none] trivial (hx (Sum.inl ()) rfl)
def fX1_canSing_B2 (n : Nat) (s : zs) (x1 : Int32) (x2 : Int32) (w2 : Int32) : Option ((Int32) ⊕ ((Unit) ⊕ (Unit))) := if (15 : Int32) < w2 then some (Sum.inr (Sum.inr ())) else if ¬ (w2 &&& (x1 ^^^ (-1 : Int32))) = 0 then fX1_canSing_J21 n s x1 x2 w2 (0 : Int32) else fX1_canSing_J21 n s x1 x2 w2 (1 : Int32)
theorem tX1_canSing_B2 {n : Nat} {c : Nat × Nat} {s : zs} {x1 : Int32} {x2 : Int32} {w2 : Int32} {o : _} {v : Option Value} {S' : zi_S} (h : fX1_canSing_B2 n s x1 x2 w2 = some o) (hn : ∀ w2, o = Sum.inl w2 → zr kX1_canSing 2 1 2 [some (.ref 35), some (.int x1), some (.int x2), some (.int w2), none] [] (zS c s) v S') (hx : ∀ z, o = Sum.inr z → (Sum.elim (fun z => zr kX1_canSing 2 1 46 [none, none, none, none, none] [] (zS c s) v S') (fun z => zr kX1_canSing 2 1 54 [none, none, none, none, none] [] (zS c s) v S')) z) : zr kX1_canSing 2 1 2 [some (.ref 35), some (.int x1), some (.int x2), some (.int w2), none] [] (zS c s) v S' := by
  unfold fX1_canSing_B2 at h
  refine zr_many 2 (pc' := 5) (L' := [some (.ref 35), some (.int x1), some (.int x2), some (.int w2), none]) (st' := [.int (15 : Int32), .int w2]) (S1 := zS c s) rfl ?_
  refine zq_if2 (b := (15 : Int32) < w2) rfl Iff.rfl rfl (fun g1 => ?_) (fun g1 => ?_)
  · rw [if_pos g1] at h
    obtain rfl := Option.some.inj h
    exact zr_wk [none, none, none, none, none] trivial (hx (Sum.inr ()) rfl)
  · rw [if_neg g1] at h
    refine zr_many 5 (pc' := 13) (L' := [some (.ref 35), some (.int x1), some (.int x2), some (.int w2), none]) (st' := [.int (w2 &&& (x1 ^^^ (-1 : Int32)))]) (S1 := zS c s) rfl ?_
    refine zq_if1 (b := ¬ (w2 &&& (x1 ^^^ (-1 : Int32))) = 0) rfl Iff.rfl rfl (fun g2 => ?_) (fun g2 => ?_)
    · rw [if_pos g2] at h
      refine zr_many 1 (pc' := 21) (L' := [some (.ref 35), some (.int x1), some (.int x2), some (.int w2), none]) (st' := [.int (0 : Int32)]) (S1 := zS c s) rfl ?_
      exact zr_wk [some (.ref 35), some (.int x1), some (.int x2), some (.int w2), none] ⟨rfl, rfl, rfl, rfl, trivial⟩ (tX1_canSing_J21 h hn hx)
    · rw [if_neg g2] at h
      refine zr_many 2 (pc' := 21) (L' := [some (.ref 35), some (.int x1), some (.int x2), some (.int w2), none]) (st' := [.int (1 : Int32)]) (S1 := zS c s) rfl ?_
      exact zr_wk [some (.ref 35), some (.int x1), some (.int x2), some (.int w2), none] ⟨rfl, rfl, rfl, rfl, trivial⟩ (tX1_canSing_J21 h hn hx)
def fX1_canSing (n : Nat) (s : zs) (x1 : Int32) (x2 : Int32) : Option Int32 := zp (zl (fX1_canSing_B2 n s x1 x2) n (1 : Int32)) (Sum.elim (fun w12 => some (0 : Int32)) (fun w13 => some (1 : Int32)))
theorem tX1_canSing {n : Nat} {c : Nat × Nat} {s : zs} {x1 : Int32} {x2 : Int32} {r : Int32} (h : fX1_canSing n s x1 x2 = some r) : zc 2 203 [.ref 35, .int x1, .int x2] (zS c s) (some (.int r)) (zS c s) := by
  refine zc_of (k := kX1_canSing) (rt := 2) (L := [some (.ref 35), some (.int x1), some (.int x2), none, none]) zm_203.1 rfl rfl (by decide) rfl rfl ?_
  unfold fX1_canSing at h
  refine zr_many 2 (pc' := 2) (L' := [some (.ref 35), some (.int x1), some (.int x2), some (.int (1 : Int32)), none]) (st' := []) (S1 := zS c s) rfl ?_
  obtain ⟨w15, g14, h⟩ := zp_inv h
  rcases w15 with w12 | w13
  · simp only [Sum.elim_inl, Sum.elim_inr] at h
    refine zr_wk [some (.ref 35), some (.int x1), some (.int x2), some (.int (1 : Int32)), none] ⟨rfl, rfl, rfl, rfl, trivial⟩ (zl_cert (Z := fun w2 => zr kX1_canSing 2 1 2 [some (.ref 35), some (.int x1), some (.int x2), some (.int w2), none] [] (zS c s) _ _) (Y := (Sum.elim (fun z => zr kX1_canSing 2 1 46 [none, none, none, none, none] [] (zS c s) _ _) (fun z => zr kX1_canSing 2 1 54 [none, none, none, none, none] [] (zS c s) _ _))) (fun w o h1 h2 h3 => tX1_canSing_B2 h1 h2 h3) n _ _ g14 ?_)
    show zr kX1_canSing 2 1 46 [none, none, none, none, none] [] (zS c s) _ _
    refine zr_many 1 (pc' := 47) (L' := [none, none, none, none, none]) (st' := [.int (0 : Int32)]) (S1 := zS c s) rfl ?_
    obtain rfl := Option.some.inj h
    exact zq_zret rfl (by decide)
  · simp only [Sum.elim_inl, Sum.elim_inr] at h
    refine zr_wk [some (.ref 35), some (.int x1), some (.int x2), some (.int (1 : Int32)), none] ⟨rfl, rfl, rfl, rfl, trivial⟩ (zl_cert (Z := fun w2 => zr kX1_canSing 2 1 2 [some (.ref 35), some (.int x1), some (.int x2), some (.int w2), none] [] (zS c s) _ _) (Y := (Sum.elim (fun z => zr kX1_canSing 2 1 46 [none, none, none, none, none] [] (zS c s) _ _) (fun z => zr kX1_canSing 2 1 54 [none, none, none, none, none] [] (zS c s) _ _))) (fun w o h1 h2 h3 => tX1_canSing_B2 h1 h2 h3) n _ _ g14 ?_)
    show zr kX1_canSing 2 1 54 [none, none, none, none, none] [] (zS c s) _ _
    refine zr_many 1 (pc' := 55) (L' := [none, none, none, none, none]) (st' := [.int (1 : Int32)]) (S1 := zS c s) rfl ?_
    obtain rfl := Option.some.inj h
    exact zq_zret rfl (by decide)
def fX1_firstFor_J52 (n : Nat) (s : zs) (x2 : Int32) (x3 : Int32) (x4 : Int32) (x5 : Int32) : Option ((Int32) ⊕ ((Int32) ⊕ (Unit))) := some (Sum.inl (x5 + (1 : Int32)))
theorem tX1_firstFor_J52 {n : Nat} {c : Nat × Nat} {s : zs} {x2 : Int32} {x3 : Int32} {x4 : Int32} {x5 : Int32} {o : _} {v : Option Value} {S' : zi_S} (h : fX1_firstFor_J52 n s x2 x3 x4 x5 = some o) (hn : ∀ w15, o = Sum.inl w15 → zr kX1_firstFor 1 2 15 [some (.ref 35), none, some (.int x2), some (.int x3), some (.int x4), some (.int w15)] [] (zS c s) v S') (hx : ∀ z, o = Sum.inr z → (Sum.elim (fun z => zr kX1_firstFor 1 2 49 [none, none, none, none, none, some (.int z)] [] (zS c s) v S') (fun z => zr kX1_firstFor 1 2 58 [none, none, none, none, none, none] [] (zS c s) v S')) z) : zr kX1_firstFor 1 2 52 [some (.ref 35), none, some (.int x2), some (.int x3), some (.int x4), some (.int x5)] [] (zS c s) v S' := by
  unfold fX1_firstFor_J52 at h
  refine zr_many 2 (pc' := 15) (L' := [some (.ref 35), none, some (.int x2), some (.int x3), some (.int x4), some (.int (x5 + (1 : Int32)))]) (st' := []) (S1 := zS c s) rfl ?_
  obtain rfl := Option.some.inj h
  exact zr_wk [some (.ref 35), none, some (.int x2), some (.int x3), some (.int x4), some (.int (x5 + (1 : Int32)))] ⟨rfl, rfl, rfl, rfl, rfl, trivial⟩ (hn (x5 + (1 : Int32)) rfl)
def fX1_firstFor_B15 (n : Nat) (s : zs) (x2 : Int32) (x3 : Int32) (x4 : Int32) (w15 : Int32) : Option ((Int32) ⊕ ((Int32) ⊕ (Unit))) := if (8 : Int32) ≤ w15 then some (Sum.inr (Sum.inr ())) else if ¬ ((x4 >>> (w15 &&& 31)) &&& (1 : Int32)) = (1 : Int32) then fX1_firstFor_J52 n s x2 x3 x4 w15 else zp (fX1_canSing n s x2 (x3 &&& (((1 : Int32) <<< (w15 &&& 31)) ^^^ (-1 : Int32)))) (fun r4 => if r4 = 0 then fX1_firstFor_J52 n s x2 x3 x4 w15 else some (Sum.inr (Sum.inl w15)))
theorem tX1_firstFor_B15 {n : Nat} {c : Nat × Nat} {s : zs} {x2 : Int32} {x3 : Int32} {x4 : Int32} {w15 : Int32} {o : _} {v : Option Value} {S' : zi_S} (h : fX1_firstFor_B15 n s x2 x3 x4 w15 = some o) (hn : ∀ w15, o = Sum.inl w15 → zr kX1_firstFor 1 2 15 [some (.ref 35), none, some (.int x2), some (.int x3), some (.int x4), some (.int w15)] [] (zS c s) v S') (hx : ∀ z, o = Sum.inr z → (Sum.elim (fun z => zr kX1_firstFor 1 2 49 [none, none, none, none, none, some (.int z)] [] (zS c s) v S') (fun z => zr kX1_firstFor 1 2 58 [none, none, none, none, none, none] [] (zS c s) v S')) z) : zr kX1_firstFor 1 2 15 [some (.ref 35), none, some (.int x2), some (.int x3), some (.int x4), some (.int w15)] [] (zS c s) v S' := by
  unfold fX1_firstFor_B15 at h
  refine zr_many 2 (pc' := 19) (L' := [some (.ref 35), none, some (.int x2), some (.int x3), some (.int x4), some (.int w15)]) (st' := [.int (8 : Int32), .int w15]) (S1 := zS c s) rfl ?_
  refine zq_if2 (b := (8 : Int32) ≤ w15) rfl Iff.rfl rfl (fun g2 => ?_) (fun g2 => ?_)
  · rw [if_pos g2] at h
    obtain rfl := Option.some.inj h
    exact zr_wk [none, none, none, none, none, none] trivial (hx (Sum.inr ()) rfl)
  · rw [if_neg g2] at h
    refine zr_many 6 (pc' := 30) (L' := [some (.ref 35), none, some (.int x2), some (.int x3), some (.int x4), some (.int w15)]) (st' := [.int (1 : Int32), .int ((x4 >>> (w15 &&& 31)) &&& (1 : Int32))]) (S1 := zS c s) rfl ?_
    refine zq_if2 (b := ¬ ((x4 >>> (w15 &&& 31)) &&& (1 : Int32)) = (1 : Int32)) rfl Iff.rfl rfl (fun g3 => ?_) (fun g3 => ?_)
    · rw [if_pos g3] at h
      exact zr_wk [some (.ref 35), none, some (.int x2), some (.int x3), some (.int x4), some (.int w15)] ⟨rfl, rfl, rfl, rfl, rfl, trivial⟩ (tX1_firstFor_J52 h hn hx)
    · rw [if_neg g3] at h
      refine zr_many 9 (pc' := 43) (L' := [some (.ref 35), none, some (.int x2), some (.int x3), some (.int x4), some (.int w15)]) (st' := [.int (x3 &&& (((1 : Int32) <<< (w15 &&& 31)) ^^^ (-1 : Int32))), .int x2, .ref 35]) (S1 := zS c s) rfl ?_
      obtain ⟨r4, g6, h⟩ := zp_inv h
      refine zq_call1 rfl rfl (zh_35 _) rfl rfl rfl (tX1_canSing g6) rfl ?_
      refine zq_if1 (b := r4 = 0) rfl Iff.rfl rfl (fun g7 => ?_) (fun g7 => ?_)
      · rw [if_pos g7] at h
        exact zr_wk [some (.ref 35), none, some (.int x2), some (.int x3), some (.int x4), some (.int w15)] ⟨rfl, rfl, rfl, rfl, rfl, trivial⟩ (tX1_firstFor_J52 h hn hx)
      · rw [if_neg g7] at h
        obtain rfl := Option.some.inj h
        exact zr_wk [none, none, none, none, none, some (.int w15)] ⟨rfl, trivial⟩ (hx (Sum.inl w15) rfl)
def fX1_firstFor (n : Nat) (s : zs) (x1 : Int32) (x2 : Int32) (x3 : Int32) : Option Int32 := cond (zi_in ((1 : Int32) <<< (x1 &&& 31)) 16) (zp (zl (fX1_firstFor_B15 n s x2 x3 ((s.1 36 ((1 : Int32) <<< (x1 &&& 31)).toNatClampNeg) &&& x3)) n (0 : Int32)) (Sum.elim (fun w8 => some w8) (fun w9 => some (0 : Int32)))) none
theorem tX1_firstFor {n : Nat} {c : Nat × Nat} {s : zs} {x1 : Int32} {x2 : Int32} {x3 : Int32} {r : Int32} (h : fX1_firstFor n s x1 x2 x3 = some r) : zc 3 205 [.ref 35, .int x1, .int x2, .int x3] (zS c s) (some (.int r)) (zS c s) := by
  refine zc_of (k := kX1_firstFor) (rt := 1) (L := [some (.ref 35), some (.int x1), some (.int x2), some (.int x3), none, none]) zm_205.1 rfl rfl (by decide) rfl rfl ?_
  unfold fX1_firstFor at h
  refine zr_many 1 (pc' := 1) (L' := [some (.ref 35), some (.int x1), some (.int x2), some (.int x3), none, none]) (st' := [.ref 35]) (S1 := zS c s) rfl ?_
  refine zq_get rfl (zh_35 _) rfl rfl rfl ?_
  refine zr_many 3 (pc' := 7) (L' := [some (.ref 35), some (.int x1), some (.int x2), some (.int x3), none, none]) (st' := [.int ((1 : Int32) <<< (x1 &&& 31)), .ref 36]) (S1 := zS c s) rfl ?_
  obtain ⟨g1, h⟩ := zi_cond_inv h
  refine zq_ild rfl (zh_36 _) rfl g1 rfl ?_
  refine zr_many 5 (pc' := 15) (L' := [some (.ref 35), some (.int x1), some (.int x2), some (.int x3), some (.int ((s.1 36 ((1 : Int32) <<< (x1 &&& 31)).toNatClampNeg) &&& x3)), some (.int (0 : Int32))]) (st' := []) (S1 := zS c s) rfl ?_
  obtain ⟨w11, g10, h⟩ := zp_inv h
  rcases w11 with w8 | w9
  · simp only [Sum.elim_inl, Sum.elim_inr] at h
    refine zr_wk [some (.ref 35), none, some (.int x2), some (.int x3), some (.int ((s.1 36 ((1 : Int32) <<< (x1 &&& 31)).toNatClampNeg) &&& x3)), some (.int (0 : Int32))] ⟨rfl, rfl, rfl, rfl, rfl, trivial⟩ (zl_cert (Z := fun w15 => zr kX1_firstFor 1 2 15 [some (.ref 35), none, some (.int x2), some (.int x3), some (.int ((s.1 36 ((1 : Int32) <<< (x1 &&& 31)).toNatClampNeg) &&& x3)), some (.int w15)] [] (zS c s) _ _) (Y := (Sum.elim (fun z => zr kX1_firstFor 1 2 49 [none, none, none, none, none, some (.int z)] [] (zS c s) _ _) (fun z => zr kX1_firstFor 1 2 58 [none, none, none, none, none, none] [] (zS c s) _ _))) (fun w o h1 h2 h3 => tX1_firstFor_B15 h1 h2 h3) n _ _ g10 ?_)
    show zr kX1_firstFor 1 2 49 [none, none, none, none, none, some (.int w8)] [] (zS c s) _ _
    refine zr_many 1 (pc' := 51) (L' := [none, none, none, none, none, some (.int w8)]) (st' := [.int w8]) (S1 := zS c s) rfl ?_
    obtain rfl := Option.some.inj h
    exact zq_iret rfl
  · simp only [Sum.elim_inl, Sum.elim_inr] at h
    refine zr_wk [some (.ref 35), none, some (.int x2), some (.int x3), some (.int ((s.1 36 ((1 : Int32) <<< (x1 &&& 31)).toNatClampNeg) &&& x3)), some (.int (0 : Int32))] ⟨rfl, rfl, rfl, rfl, rfl, trivial⟩ (zl_cert (Z := fun w15 => zr kX1_firstFor 1 2 15 [some (.ref 35), none, some (.int x2), some (.int x3), some (.int ((s.1 36 ((1 : Int32) <<< (x1 &&& 31)).toNatClampNeg) &&& x3)), some (.int w15)] [] (zS c s) _ _) (Y := (Sum.elim (fun z => zr kX1_firstFor 1 2 49 [none, none, none, none, none, some (.int z)] [] (zS c s) _ _) (fun z => zr kX1_firstFor 1 2 58 [none, none, none, none, none, none] [] (zS c s) _ _))) (fun w o h1 h2 h3 => tX1_firstFor_B15 h1 h2 h3) n _ _ g10 ?_)
    show zr kX1_firstFor 1 2 58 [none, none, none, none, none, none] [] (zS c s) _ _
    refine zr_many 1 (pc' := 59) (L' := [none, none, none, none, none, none]) (st' := [.int (0 : Int32)]) (S1 := zS c s) rfl ?_
    obtain rfl := Option.some.inj h
    exact zq_iret rfl
def fX1_settle_B20 (n : Nat) (w20 : Int32 × Int32 × Int32 × zs) : Option ((Int32 × Int32 × Int32 × zs) ⊕ (zs)) := if (4 : Int32) ≤ w20.2.2.1 then some (Sum.inr w20.2.2.2) else zp (fX1_firstFor n w20.2.2.2 w20.2.2.1 (w20.2.1 &&& (((1 : Int32) <<< (w20.2.2.1 &&& 31)) ^^^ (-1 : Int32))) w20.1) (fun r6 => cond (zi_in w20.2.2.1 4) (cond (zi_in w20.2.2.1 4) (some (Sum.inl ((w20.1 &&& (((1 : Int32) <<< (((zsi w20.2.2.2 37 w20.2.2.1.toNatClampNeg r6).1 37 w20.2.2.1.toNatClampNeg) &&& 31)) ^^^ (-1 : Int32))), (w20.2.1 &&& (((1 : Int32) <<< (w20.2.2.1 &&& 31)) ^^^ (-1 : Int32))), (w20.2.2.1 + (1 : Int32)), (zsi w20.2.2.2 37 w20.2.2.1.toNatClampNeg r6)))) none) none)
theorem tX1_settle_B20 {n : Nat} {c : Nat × Nat} {w20 : Int32 × Int32 × Int32 × zs} {o : _} {v : Option Value} {S' : zi_S} (h : fX1_settle_B20 n w20 = some o) (hn : ∀ w20, o = Sum.inl w20 → zr kX1_settle 2 3 20 [some (.ref 35), none, some (.int w20.1), some (.int w20.2.1), some (.int w20.2.2.1)] [] (zS c w20.2.2.2) v S') (hx : ∀ z, o = Sum.inr z → (fun z => zr kX1_settle 2 3 70 [none, none, none, none, none] [] (zS c z) v S') z) : zr kX1_settle 2 3 20 [some (.ref 35), none, some (.int w20.1), some (.int w20.2.1), some (.int w20.2.2.1)] [] (zS c w20.2.2.2) v S' := by
  unfold fX1_settle_B20 at h
  refine zr_many 2 (pc' := 23) (L' := [some (.ref 35), none, some (.int w20.1), some (.int w20.2.1), some (.int w20.2.2.1)]) (st' := [.int (4 : Int32), .int w20.2.2.1]) (S1 := zS c w20.2.2.2) rfl ?_
  refine zq_if2 (b := (4 : Int32) ≤ w20.2.2.1) rfl Iff.rfl rfl (fun g5 => ?_) (fun g5 => ?_)
  · rw [if_pos g5] at h
    obtain rfl := Option.some.inj h
    exact zr_wk [none, none, none, none, none] trivial (hx w20.2.2.2 rfl)
  · rw [if_neg g5] at h
    refine zr_many 9 (pc' := 36) (L' := [some (.ref 35), none, some (.int w20.1), some (.int (w20.2.1 &&& (((1 : Int32) <<< (w20.2.2.1 &&& 31)) ^^^ (-1 : Int32)))), some (.int w20.2.2.1)]) (st' := [.ref 35]) (S1 := zS c w20.2.2.2) rfl ?_
    refine zq_get rfl (zh_35 _) rfl rfl rfl ?_
    refine zr_many 5 (pc' := 46) (L' := [some (.ref 35), none, some (.int w20.1), some (.int (w20.2.1 &&& (((1 : Int32) <<< (w20.2.2.1 &&& 31)) ^^^ (-1 : Int32)))), some (.int w20.2.2.1)]) (st' := [.int w20.1, .int (w20.2.1 &&& (((1 : Int32) <<< (w20.2.2.1 &&& 31)) ^^^ (-1 : Int32))), .int w20.2.2.1, .ref 35, .int w20.2.2.1, .ref 37]) (S1 := zS c w20.2.2.2) rfl ?_
    obtain ⟨r6, g8, h⟩ := zp_inv h
    refine zq_call1 rfl rfl (zh_35 _) rfl rfl rfl (tX1_firstFor g8) rfl ?_
    obtain ⟨g10, h⟩ := zi_cond_inv h
    refine zq_ist rfl zh_37 rfl g10 rfl ?_
    refine zr_many 3 (pc' := 53) (L' := [some (.ref 35), none, some (.int w20.1), some (.int (w20.2.1 &&& (((1 : Int32) <<< (w20.2.2.1 &&& 31)) ^^^ (-1 : Int32)))), some (.int w20.2.2.1)]) (st' := [.ref 35, .int (1 : Int32), .int w20.1]) (S1 := zS c (zsi w20.2.2.2 37 w20.2.2.1.toNatClampNeg r6)) rfl ?_
    refine zq_get rfl (zh_35 _) rfl rfl rfl ?_
    refine zr_many 1 (pc' := 58) (L' := [some (.ref 35), none, some (.int w20.1), some (.int (w20.2.1 &&& (((1 : Int32) <<< (w20.2.2.1 &&& 31)) ^^^ (-1 : Int32)))), some (.int w20.2.2.1)]) (st' := [.int w20.2.2.1, .ref 37, .int (1 : Int32), .int w20.1]) (S1 := zS c (zsi w20.2.2.2 37 w20.2.2.1.toNatClampNeg r6)) rfl ?_
    obtain ⟨g9, h⟩ := zi_cond_inv h
    refine zq_ild rfl (zh_37 _) rfl g9 rfl ?_
    refine zr_many 7 (pc' := 20) (L' := [some (.ref 35), none, some (.int (w20.1 &&& (((1 : Int32) <<< (((zsi w20.2.2.2 37 w20.2.2.1.toNatClampNeg r6).1 37 w20.2.2.1.toNatClampNeg) &&& 31)) ^^^ (-1 : Int32)))), some (.int (w20.2.1 &&& (((1 : Int32) <<< (w20.2.2.1 &&& 31)) ^^^ (-1 : Int32)))), some (.int (w20.2.2.1 + (1 : Int32)))]) (st' := []) (S1 := zS c (zsi w20.2.2.2 37 w20.2.2.1.toNatClampNeg r6)) rfl ?_
    obtain rfl := Option.some.inj h
    exact zr_wk [some (.ref 35), none, some (.int (w20.1 &&& (((1 : Int32) <<< (((zsi w20.2.2.2 37 w20.2.2.1.toNatClampNeg r6).1 37 w20.2.2.1.toNatClampNeg) &&& 31)) ^^^ (-1 : Int32)))), some (.int (w20.2.1 &&& (((1 : Int32) <<< (w20.2.2.1 &&& 31)) ^^^ (-1 : Int32)))), some (.int (w20.2.2.1 + (1 : Int32)))] ⟨rfl, rfl, rfl, rfl, trivial⟩ (hn ((w20.1 &&& (((1 : Int32) <<< (((zsi w20.2.2.2 37 w20.2.2.1.toNatClampNeg r6).1 37 w20.2.2.1.toNatClampNeg) &&& 31)) ^^^ (-1 : Int32))), (w20.2.1 &&& (((1 : Int32) <<< (w20.2.2.1 &&& 31)) ^^^ (-1 : Int32))), (w20.2.2.1 + (1 : Int32)), (zsi w20.2.2.2 37 w20.2.2.1.toNatClampNeg r6)) rfl)
def fX1_settle (n : Nat) (s : zs) (x1 : Int32) : Option (Int32 × zs) := zp (fX1_canSing n s (15 : Int32) x1) (fun r1 => if ¬ r1 = 0 then zp (zl (fX1_settle_B20 n) n (x1, (15 : Int32), (0 : Int32), s)) (fun w11 => some ((1 : Int32), w11)) else some ((0 : Int32), s))
theorem tX1_settle {n : Nat} {c : Nat × Nat} {s : zs} {x1 : Int32} {r : Int32} {s' : zs} (h : fX1_settle n s x1 = some (r, s')) : zc 4 204 [.ref 35, .int x1] (zS c s) (some (.int r)) (zS c s') := by
  refine zc_of (k := kX1_settle) (rt := 2) (L := [some (.ref 35), some (.int x1), none, none, none]) zm_204.1 rfl rfl (by decide) rfl rfl ?_
  unfold fX1_settle at h
  refine zr_many 3 (pc' := 4) (L' := [some (.ref 35), some (.int x1), none, none, none]) (st' := [.int x1, .int (15 : Int32), .ref 35]) (S1 := zS c s) rfl ?_
  obtain ⟨r1, g3, h⟩ := zp_inv h
  refine zq_call1 rfl rfl (zh_35 _) rfl rfl rfl ((tX1_canSing g3).up (by decide)) rfl ?_
  refine zq_if1 (b := ¬ r1 = 0) rfl Iff.rfl rfl (fun g4 => ?_) (fun g4 => ?_)
  · rw [if_pos g4] at h
    refine zr_many 6 (pc' := 20) (L' := [some (.ref 35), some (.int x1), some (.int x1), some (.int (15 : Int32)), some (.int (0 : Int32))]) (st' := []) (S1 := zS c s) rfl ?_
    obtain ⟨w11, g12, h⟩ := zp_inv h
    refine zr_wk [some (.ref 35), none, some (.int x1), some (.int (15 : Int32)), some (.int (0 : Int32))] ⟨rfl, rfl, rfl, rfl, trivial⟩ (zl_cert (Z := fun w20 => zr kX1_settle 2 3 20 [some (.ref 35), none, some (.int w20.1), some (.int w20.2.1), some (.int w20.2.2.1)] [] (zS c w20.2.2.2) _ _) (Y := (fun z => zr kX1_settle 2 3 70 [none, none, none, none, none] [] (zS c z) _ _)) (fun w o h1 h2 h3 => tX1_settle_B20 h1 h2 h3) n _ _ g12 ?_)
    show zr kX1_settle 2 3 70 [none, none, none, none, none] [] (zS c w11) _ _
    refine zr_many 1 (pc' := 71) (L' := [none, none, none, none, none]) (st' := [.int (1 : Int32)]) (S1 := zS c w11) rfl ?_
    obtain ⟨rfl, rfl⟩ := Prod.mk.inj (Option.some.inj h)
    exact zq_zret rfl (by decide)
  · rw [if_neg g4] at h
    refine zr_many 1 (pc' := 11) (L' := [some (.ref 35), some (.int x1), none, none, none]) (st' := [.int (0 : Int32)]) (S1 := zS c s) rfl ?_
    obtain ⟨rfl, rfl⟩ := Prod.mk.inj (Option.some.inj h)
    exact zq_zret rfl (by decide)
