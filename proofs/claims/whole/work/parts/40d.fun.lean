/-! ===== printed by wip/gen/dec.py: the methods as functions, each with its run ===== -/
def fX9_keptBy_J113 (n : Nat) (s : zs) (x1 : Int32) (x3 : Int32) (y0 : Int32) (y1 : Int32) : Option ((Int32 × Int32) ⊕ (Int32)) := some (Sum.inl ((y0 + y1), (x3 + (1 : Int32))))
theorem tX9_keptBy_J113 {n : Nat} {c : Nat × Nat} {s : zs} {x1 : Int32} {x3 : Int32} {y0 : Int32} {y1 : Int32} {o : _} {v : Option Value} {S' : zi_S} (h : fX9_keptBy_J113 n s x1 x3 y0 y1 = some o) (hn : ∀ w4, o = Sum.inl w4 → zr kX9_keptBy 1 0 4 [some (.ref 38), some (.int x1), some (.int w4.1), some (.int w4.2), none, none, none] [] (zS c s) v S') (hx : ∀ z, o = Sum.inr z → (fun z => zr kX9_keptBy 1 0 121 [none, none, some (.int z), none, none, none, none] [] (zS c s) v S') z) : zr kX9_keptBy 1 0 113 [some (.ref 38), some (.int x1), none, some (.int x3), none, none, none] [.int y1, .int y0] (zS c s) v S' := by
  unfold fX9_keptBy_J113 at h
  refine zr_many 4 (pc' := 4) (L' := [some (.ref 38), some (.int x1), some (.int (y0 + y1)), some (.int (x3 + (1 : Int32))), none, none, none]) (st' := []) (S1 := zS c s) rfl ?_
  obtain rfl := Option.some.inj h
  exact zr_wk [some (.ref 38), some (.int x1), some (.int (y0 + y1)), some (.int (x3 + (1 : Int32))), none, none, none] ⟨rfl, rfl, rfl, rfl, trivial⟩ (hn ((y0 + y1), (x3 + (1 : Int32))) rfl)
def fX9_keptBy_J112 (n : Nat) (s : zs) (x1 : Int32) (x3 : Int32) (y0 : Int32) : Option ((Int32 × Int32) ⊕ (Int32)) := fX9_keptBy_J113 n s x1 x3 y0 (0 : Int32)
theorem tX9_keptBy_J112 {n : Nat} {c : Nat × Nat} {s : zs} {x1 : Int32} {x3 : Int32} {y0 : Int32} {o : _} {v : Option Value} {S' : zi_S} (h : fX9_keptBy_J112 n s x1 x3 y0 = some o) (hn : ∀ w4, o = Sum.inl w4 → zr kX9_keptBy 1 0 4 [some (.ref 38), some (.int x1), some (.int w4.1), some (.int w4.2), none, none, none] [] (zS c s) v S') (hx : ∀ z, o = Sum.inr z → (fun z => zr kX9_keptBy 1 0 121 [none, none, some (.int z), none, none, none, none] [] (zS c s) v S') z) : zr kX9_keptBy 1 0 112 [some (.ref 38), some (.int x1), none, some (.int x3), none, none, none] [.int y0] (zS c s) v S' := by
  unfold fX9_keptBy_J112 at h
  refine zr_many 1 (pc' := 113) (L' := [some (.ref 38), some (.int x1), none, some (.int x3), none, none, none]) (st' := [.int (0 : Int32), .int y0]) (S1 := zS c s) rfl ?_
  exact zr_wk [some (.ref 38), some (.int x1), none, some (.int x3), none, none, none] ⟨rfl, rfl, rfl, trivial⟩ (tX9_keptBy_J113 h hn hx)
def fX9_keptBy_J90 (n : Nat) (s : zs) (x1 : Int32) (x2 : Int32) (x3 : Int32) (x4 : Int32) (x5 : Int32) (y0 : Int32) : Option ((Int32 × Int32) ⊕ (Int32)) := if x4 = 0 then fX9_keptBy_J112 n s x1 x3 x2 else if ¬ x5 = 0 then fX9_keptBy_J112 n s x1 x3 x2 else if ¬ y0 = 0 then fX9_keptBy_J112 n s x1 x3 x2 else fX9_keptBy_J113 n s x1 x3 x2 (1 : Int32)
theorem tX9_keptBy_J90 {n : Nat} {c : Nat × Nat} {s : zs} {x1 : Int32} {x2 : Int32} {x3 : Int32} {x4 : Int32} {x5 : Int32} {y0 : Int32} {o : _} {v : Option Value} {S' : zi_S} (h : fX9_keptBy_J90 n s x1 x2 x3 x4 x5 y0 = some o) (hn : ∀ w4, o = Sum.inl w4 → zr kX9_keptBy 1 0 4 [some (.ref 38), some (.int x1), some (.int w4.1), some (.int w4.2), none, none, none] [] (zS c s) v S') (hx : ∀ z, o = Sum.inr z → (fun z => zr kX9_keptBy 1 0 121 [none, none, some (.int z), none, none, none, none] [] (zS c s) v S') z) : zr kX9_keptBy 1 0 90 [some (.ref 38), some (.int x1), some (.int x2), some (.int x3), some (.int x4), some (.int x5), none] [.int y0] (zS c s) v S' := by
  unfold fX9_keptBy_J90 at h
  refine zr_many 3 (pc' := 95) (L' := [some (.ref 38), some (.int x1), some (.int x2), some (.int x3), some (.int x4), some (.int x5), some (.int y0)]) (st' := [.int x4, .int x2]) (S1 := zS c s) rfl ?_
  refine zq_if1 (b := x4 = 0) rfl Iff.rfl rfl (fun g9 => ?_) (fun g9 => ?_)
  · rw [if_pos g9] at h
    exact zr_wk [some (.ref 38), some (.int x1), none, some (.int x3), none, none, none] ⟨rfl, rfl, rfl, trivial⟩ (tX9_keptBy_J112 h hn hx)
  · rw [if_neg g9] at h
    refine zr_many 1 (pc' := 100) (L' := [some (.ref 38), some (.int x1), some (.int x2), some (.int x3), some (.int x4), some (.int x5), some (.int y0)]) (st' := [.int x5, .int x2]) (S1 := zS c s) rfl ?_
    refine zq_if1 (b := ¬ x5 = 0) rfl Iff.rfl rfl (fun g10 => ?_) (fun g10 => ?_)
    · rw [if_pos g10] at h
      exact zr_wk [some (.ref 38), some (.int x1), none, some (.int x3), none, none, none] ⟨rfl, rfl, rfl, trivial⟩ (tX9_keptBy_J112 h hn hx)
    · rw [if_neg g10] at h
      refine zr_many 1 (pc' := 105) (L' := [some (.ref 38), some (.int x1), some (.int x2), some (.int x3), some (.int x4), some (.int x5), some (.int y0)]) (st' := [.int y0, .int x2]) (S1 := zS c s) rfl ?_
      refine zq_if1 (b := ¬ y0 = 0) rfl Iff.rfl rfl (fun g11 => ?_) (fun g11 => ?_)
      · rw [if_pos g11] at h
        exact zr_wk [some (.ref 38), some (.int x1), none, some (.int x3), none, none, none] ⟨rfl, rfl, rfl, trivial⟩ (tX9_keptBy_J112 h hn hx)
      · rw [if_neg g11] at h
        refine zr_many 2 (pc' := 113) (L' := [some (.ref 38), some (.int x1), some (.int x2), some (.int x3), some (.int x4), some (.int x5), some (.int y0)]) (st' := [.int (1 : Int32), .int x2]) (S1 := zS c s) rfl ?_
        exact zr_wk [some (.ref 38), some (.int x1), none, some (.int x3), none, none, none] ⟨rfl, rfl, rfl, trivial⟩ (tX9_keptBy_J113 h hn hx)
def fX9_keptBy_J89 (n : Nat) (s : zs) (x1 : Int32) (x2 : Int32) (x3 : Int32) (x4 : Int32) (x5 : Int32) : Option ((Int32 × Int32) ⊕ (Int32)) := fX9_keptBy_J90 n s x1 x2 x3 x4 x5 (0 : Int32)
theorem tX9_keptBy_J89 {n : Nat} {c : Nat × Nat} {s : zs} {x1 : Int32} {x2 : Int32} {x3 : Int32} {x4 : Int32} {x5 : Int32} {o : _} {v : Option Value} {S' : zi_S} (h : fX9_keptBy_J89 n s x1 x2 x3 x4 x5 = some o) (hn : ∀ w4, o = Sum.inl w4 → zr kX9_keptBy 1 0 4 [some (.ref 38), some (.int x1), some (.int w4.1), some (.int w4.2), none, none, none] [] (zS c s) v S') (hx : ∀ z, o = Sum.inr z → (fun z => zr kX9_keptBy 1 0 121 [none, none, some (.int z), none, none, none, none] [] (zS c s) v S') z) : zr kX9_keptBy 1 0 89 [some (.ref 38), some (.int x1), some (.int x2), some (.int x3), some (.int x4), some (.int x5), none] [] (zS c s) v S' := by
  unfold fX9_keptBy_J89 at h
  refine zr_many 1 (pc' := 90) (L' := [some (.ref 38), some (.int x1), some (.int x2), some (.int x3), some (.int x4), some (.int x5), none]) (st' := [.int (0 : Int32)]) (S1 := zS c s) rfl ?_
  exact zr_wk [some (.ref 38), some (.int x1), some (.int x2), some (.int x3), some (.int x4), some (.int x5), none] ⟨rfl, rfl, rfl, rfl, rfl, rfl, trivial⟩ (tX9_keptBy_J90 h hn hx)
def fX9_keptBy_J63 (n : Nat) (s : zs) (x1 : Int32) (x2 : Int32) (x3 : Int32) (x4 : Int32) (y0 : Int32) : Option ((Int32 × Int32) ⊕ (Int32)) := cond (zi_in x3 4) (if (s.1 40 x3.toNatClampNeg) = 0 then fX9_keptBy_J89 n s x1 x2 x3 x4 y0 else cond (zi_in x3 4) (if ¬ ((s.1 40 x3.toNatClampNeg) &&& x1) = 0 then fX9_keptBy_J89 n s x1 x2 x3 x4 y0 else fX9_keptBy_J90 n s x1 x2 x3 x4 y0 (1 : Int32)) none) none
theorem tX9_keptBy_J63 {n : Nat} {c : Nat × Nat} {s : zs} {x1 : Int32} {x2 : Int32} {x3 : Int32} {x4 : Int32} {y0 : Int32} {o : _} {v : Option Value} {S' : zi_S} (h : fX9_keptBy_J63 n s x1 x2 x3 x4 y0 = some o) (hn : ∀ w4, o = Sum.inl w4 → zr kX9_keptBy 1 0 4 [some (.ref 38), some (.int x1), some (.int w4.1), some (.int w4.2), none, none, none] [] (zS c s) v S') (hx : ∀ z, o = Sum.inr z → (fun z => zr kX9_keptBy 1 0 121 [none, none, some (.int z), none, none, none, none] [] (zS c s) v S') z) : zr kX9_keptBy 1 0 63 [some (.ref 38), some (.int x1), some (.int x2), some (.int x3), some (.int x4), none, none] [.int y0] (zS c s) v S' := by
  unfold fX9_keptBy_J63 at h
  refine zr_many 2 (pc' := 66) (L' := [some (.ref 38), some (.int x1), some (.int x2), some (.int x3), some (.int x4), some (.int y0), none]) (st' := [.ref 38]) (S1 := zS c s) rfl ?_
  refine zq_get rfl (zh_38 _) rfl rfl rfl ?_
  refine zr_many 1 (pc' := 70) (L' := [some (.ref 38), some (.int x1), some (.int x2), some (.int x3), some (.int x4), some (.int y0), none]) (st' := [.int x3, .ref 40]) (S1 := zS c s) rfl ?_
  obtain ⟨g7, h⟩ := zi_cond_inv h
  refine zq_ild rfl (zh_40 _) rfl g7 rfl ?_
  refine zq_if1 (b := (s.1 40 x3.toNatClampNeg) = 0) rfl Iff.rfl rfl (fun g8 => ?_) (fun g8 => ?_)
  · rw [if_pos g8] at h
    exact zr_wk [some (.ref 38), some (.int x1), some (.int x2), some (.int x3), some (.int x4), some (.int y0), none] ⟨rfl, rfl, rfl, rfl, rfl, rfl, trivial⟩ (tX9_keptBy_J89 h hn hx)
  · rw [if_neg g8] at h
    refine zr_many 1 (pc' := 75) (L' := [some (.ref 38), some (.int x1), some (.int x2), some (.int x3), some (.int x4), some (.int y0), none]) (st' := [.ref 38]) (S1 := zS c s) rfl ?_
    refine zq_get rfl (zh_38 _) rfl rfl rfl ?_
    refine zr_many 1 (pc' := 79) (L' := [some (.ref 38), some (.int x1), some (.int x2), some (.int x3), some (.int x4), some (.int y0), none]) (st' := [.int x3, .ref 40]) (S1 := zS c s) rfl ?_
    obtain ⟨g12, h⟩ := zi_cond_inv h
    refine zq_ild rfl (zh_40 _) rfl g12 rfl ?_
    refine zr_many 2 (pc' := 82) (L' := [some (.ref 38), some (.int x1), some (.int x2), some (.int x3), some (.int x4), some (.int y0), none]) (st' := [.int ((s.1 40 x3.toNatClampNeg) &&& x1)]) (S1 := zS c s) rfl ?_
    refine zq_if1 (b := ¬ ((s.1 40 x3.toNatClampNeg) &&& x1) = 0) rfl Iff.rfl rfl (fun g13 => ?_) (fun g13 => ?_)
    · rw [if_pos g13] at h
      exact zr_wk [some (.ref 38), some (.int x1), some (.int x2), some (.int x3), some (.int x4), some (.int y0), none] ⟨rfl, rfl, rfl, rfl, rfl, rfl, trivial⟩ (tX9_keptBy_J89 h hn hx)
    · rw [if_neg g13] at h
      refine zr_many 2 (pc' := 90) (L' := [some (.ref 38), some (.int x1), some (.int x2), some (.int x3), some (.int x4), some (.int y0), none]) (st' := [.int (1 : Int32)]) (S1 := zS c s) rfl ?_
      exact zr_wk [some (.ref 38), some (.int x1), some (.int x2), some (.int x3), some (.int x4), some (.int y0), none] ⟨rfl, rfl, rfl, rfl, rfl, rfl, trivial⟩ (tX9_keptBy_J90 h hn hx)
def fX9_keptBy_J62 (n : Nat) (s : zs) (x1 : Int32) (x2 : Int32) (x3 : Int32) (x4 : Int32) : Option ((Int32 × Int32) ⊕ (Int32)) := fX9_keptBy_J63 n s x1 x2 x3 x4 (0 : Int32)
theorem tX9_keptBy_J62 {n : Nat} {c : Nat × Nat} {s : zs} {x1 : Int32} {x2 : Int32} {x3 : Int32} {x4 : Int32} {o : _} {v : Option Value} {S' : zi_S} (h : fX9_keptBy_J62 n s x1 x2 x3 x4 = some o) (hn : ∀ w4, o = Sum.inl w4 → zr kX9_keptBy 1 0 4 [some (.ref 38), some (.int x1), some (.int w4.1), some (.int w4.2), none, none, none] [] (zS c s) v S') (hx : ∀ z, o = Sum.inr z → (fun z => zr kX9_keptBy 1 0 121 [none, none, some (.int z), none, none, none, none] [] (zS c s) v S') z) : zr kX9_keptBy 1 0 62 [some (.ref 38), some (.int x1), some (.int x2), some (.int x3), some (.int x4), none, none] [] (zS c s) v S' := by
  unfold fX9_keptBy_J62 at h
  refine zr_many 1 (pc' := 63) (L' := [some (.ref 38), some (.int x1), some (.int x2), some (.int x3), some (.int x4), none, none]) (st' := [.int (0 : Int32)]) (S1 := zS c s) rfl ?_
  exact zr_wk [some (.ref 38), some (.int x1), some (.int x2), some (.int x3), some (.int x4), none, none] ⟨rfl, rfl, rfl, rfl, rfl, trivial⟩ (tX9_keptBy_J63 h hn hx)
def fX9_keptBy_J36 (n : Nat) (s : zs) (x1 : Int32) (x2 : Int32) (x3 : Int32) (y0 : Int32) : Option ((Int32 × Int32) ⊕ (Int32)) := cond (zi_in x3 4) (if (s.1 39 x3.toNatClampNeg) = 0 then fX9_keptBy_J62 n s x1 x2 x3 y0 else cond (zi_in x3 4) (if ¬ ((s.1 39 x3.toNatClampNeg) &&& x1) = 0 then fX9_keptBy_J62 n s x1 x2 x3 y0 else fX9_keptBy_J63 n s x1 x2 x3 y0 (1 : Int32)) none) none
theorem tX9_keptBy_J36 {n : Nat} {c : Nat × Nat} {s : zs} {x1 : Int32} {x2 : Int32} {x3 : Int32} {y0 : Int32} {o : _} {v : Option Value} {S' : zi_S} (h : fX9_keptBy_J36 n s x1 x2 x3 y0 = some o) (hn : ∀ w4, o = Sum.inl w4 → zr kX9_keptBy 1 0 4 [some (.ref 38), some (.int x1), some (.int w4.1), some (.int w4.2), none, none, none] [] (zS c s) v S') (hx : ∀ z, o = Sum.inr z → (fun z => zr kX9_keptBy 1 0 121 [none, none, some (.int z), none, none, none, none] [] (zS c s) v S') z) : zr kX9_keptBy 1 0 36 [some (.ref 38), some (.int x1), some (.int x2), some (.int x3), none, none, none] [.int y0] (zS c s) v S' := by
  unfold fX9_keptBy_J36 at h
  refine zr_many 2 (pc' := 39) (L' := [some (.ref 38), some (.int x1), some (.int x2), some (.int x3), some (.int y0), none, none]) (st' := [.ref 38]) (S1 := zS c s) rfl ?_
  refine zq_get rfl (zh_38 _) rfl rfl rfl ?_
  refine zr_many 1 (pc' := 43) (L' := [some (.ref 38), some (.int x1), some (.int x2), some (.int x3), some (.int y0), none, none]) (st' := [.int x3, .ref 39]) (S1 := zS c s) rfl ?_
  obtain ⟨g5, h⟩ := zi_cond_inv h
  refine zq_ild rfl (zh_39 _) rfl g5 rfl ?_
  refine zq_if1 (b := (s.1 39 x3.toNatClampNeg) = 0) rfl Iff.rfl rfl (fun g6 => ?_) (fun g6 => ?_)
  · rw [if_pos g6] at h
    exact zr_wk [some (.ref 38), some (.int x1), some (.int x2), some (.int x3), some (.int y0), none, none] ⟨rfl, rfl, rfl, rfl, rfl, trivial⟩ (tX9_keptBy_J62 h hn hx)
  · rw [if_neg g6] at h
    refine zr_many 1 (pc' := 48) (L' := [some (.ref 38), some (.int x1), some (.int x2), some (.int x3), some (.int y0), none, none]) (st' := [.ref 38]) (S1 := zS c s) rfl ?_
    refine zq_get rfl (zh_38 _) rfl rfl rfl ?_
    refine zr_many 1 (pc' := 52) (L' := [some (.ref 38), some (.int x1), some (.int x2), some (.int x3), some (.int y0), none, none]) (st' := [.int x3, .ref 39]) (S1 := zS c s) rfl ?_
    obtain ⟨g14, h⟩ := zi_cond_inv h
    refine zq_ild rfl (zh_39 _) rfl g14 rfl ?_
    refine zr_many 2 (pc' := 55) (L' := [some (.ref 38), some (.int x1), some (.int x2), some (.int x3), some (.int y0), none, none]) (st' := [.int ((s.1 39 x3.toNatClampNeg) &&& x1)]) (S1 := zS c s) rfl ?_
    refine zq_if1 (b := ¬ ((s.1 39 x3.toNatClampNeg) &&& x1) = 0) rfl Iff.rfl rfl (fun g15 => ?_) (fun g15 => ?_)
    · rw [if_pos g15] at h
      exact zr_wk [some (.ref 38), some (.int x1), some (.int x2), some (.int x3), some (.int y0), none, none] ⟨rfl, rfl, rfl, rfl, rfl, trivial⟩ (tX9_keptBy_J62 h hn hx)
    · rw [if_neg g15] at h
      refine zr_many 2 (pc' := 63) (L' := [some (.ref 38), some (.int x1), some (.int x2), some (.int x3), some (.int y0), none, none]) (st' := [.int (1 : Int32)]) (S1 := zS c s) rfl ?_
      exact zr_wk [some (.ref 38), some (.int x1), some (.int x2), some (.int x3), some (.int y0), none, none] ⟨rfl, rfl, rfl, rfl, rfl, trivial⟩ (tX9_keptBy_J63 h hn hx)
def fX9_keptBy_B4 (n : Nat) (s : zs) (x1 : Int32) (w4 : Int32 × Int32) : Option ((Int32 × Int32) ⊕ (Int32)) := if (s.1 5 9) ≤ w4.2 then some (Sum.inr w4.1) else cond (zi_in w4.2 4) (cond (zi_in w4.2 4) (if ((s.1 39 w4.2.toNatClampNeg) ||| (s.1 40 w4.2.toNatClampNeg)) = 0 then fX9_keptBy_J36 n s x1 w4.1 w4.2 (0 : Int32) else fX9_keptBy_J36 n s x1 w4.1 w4.2 (1 : Int32)) none) none
theorem tX9_keptBy_B4 {n : Nat} {c : Nat × Nat} {s : zs} {x1 : Int32} {w4 : Int32 × Int32} {o : _} {v : Option Value} {S' : zi_S} (h : fX9_keptBy_B4 n s x1 w4 = some o) (hn : ∀ w4, o = Sum.inl w4 → zr kX9_keptBy 1 0 4 [some (.ref 38), some (.int x1), some (.int w4.1), some (.int w4.2), none, none, none] [] (zS c s) v S') (hx : ∀ z, o = Sum.inr z → (fun z => zr kX9_keptBy 1 0 121 [none, none, some (.int z), none, none, none, none] [] (zS c s) v S') z) : zr kX9_keptBy 1 0 4 [some (.ref 38), some (.int x1), some (.int w4.1), some (.int w4.2), none, none, none] [] (zS c s) v S' := by
  unfold fX9_keptBy_B4 at h
  refine zr_many 2 (pc' := 6) (L' := [some (.ref 38), some (.int x1), some (.int w4.1), some (.int w4.2), none, none, none]) (st' := [.ref 38, .int w4.2]) (S1 := zS c s) rfl ?_
  refine zq_get rfl (zh_38 _) rfl rfl rfl ?_
  refine zq_get rfl (zh_5 _) rfl rfl rfl ?_
  refine zq_if2 (b := (s.1 5 9) ≤ w4.2) rfl Iff.rfl rfl (fun g1 => ?_) (fun g1 => ?_)
  · rw [if_pos g1] at h
    obtain rfl := Option.some.inj h
    exact zr_wk [none, none, some (.int w4.1), none, none, none, none] ⟨rfl, trivial⟩ (hx w4.1 rfl)
  · rw [if_neg g1] at h
    refine zr_many 1 (pc' := 16) (L' := [some (.ref 38), some (.int x1), some (.int w4.1), some (.int w4.2), none, none, none]) (st' := [.ref 38]) (S1 := zS c s) rfl ?_
    refine zq_get rfl (zh_38 _) rfl rfl rfl ?_
    refine zr_many 1 (pc' := 20) (L' := [some (.ref 38), some (.int x1), some (.int w4.1), some (.int w4.2), none, none, none]) (st' := [.int w4.2, .ref 39]) (S1 := zS c s) rfl ?_
    obtain ⟨g2, h⟩ := zi_cond_inv h
    refine zq_ild rfl (zh_39 _) rfl g2 rfl ?_
    refine zr_many 1 (pc' := 22) (L' := [some (.ref 38), some (.int x1), some (.int w4.1), some (.int w4.2), none, none, none]) (st' := [.ref 38, .int (s.1 39 w4.2.toNatClampNeg)]) (S1 := zS c s) rfl ?_
    refine zq_get rfl (zh_38 _) rfl rfl rfl ?_
    refine zr_many 1 (pc' := 26) (L' := [some (.ref 38), some (.int x1), some (.int w4.1), some (.int w4.2), none, none, none]) (st' := [.int w4.2, .ref 40, .int (s.1 39 w4.2.toNatClampNeg)]) (S1 := zS c s) rfl ?_
    obtain ⟨g3, h⟩ := zi_cond_inv h
    refine zq_ild rfl (zh_40 _) rfl g3 rfl ?_
    refine zr_many 1 (pc' := 28) (L' := [some (.ref 38), some (.int x1), some (.int w4.1), some (.int w4.2), none, none, none]) (st' := [.int ((s.1 39 w4.2.toNatClampNeg) ||| (s.1 40 w4.2.toNatClampNeg))]) (S1 := zS c s) rfl ?_
    refine zq_if1 (b := ((s.1 39 w4.2.toNatClampNeg) ||| (s.1 40 w4.2.toNatClampNeg)) = 0) rfl Iff.rfl rfl (fun g4 => ?_) (fun g4 => ?_)
    · rw [if_pos g4] at h
      refine zr_many 1 (pc' := 36) (L' := [some (.ref 38), some (.int x1), some (.int w4.1), some (.int w4.2), none, none, none]) (st' := [.int (0 : Int32)]) (S1 := zS c s) rfl ?_
      exact zr_wk [some (.ref 38), some (.int x1), some (.int w4.1), some (.int w4.2), none, none, none] ⟨rfl, rfl, rfl, rfl, trivial⟩ (tX9_keptBy_J36 h hn hx)
    · rw [if_neg g4] at h
      refine zr_many 2 (pc' := 36) (L' := [some (.ref 38), some (.int x1), some (.int w4.1), some (.int w4.2), none, none, none]) (st' := [.int (1 : Int32)]) (S1 := zS c s) rfl ?_
      exact zr_wk [some (.ref 38), some (.int x1), some (.int w4.1), some (.int w4.2), none, none, none] ⟨rfl, rfl, rfl, rfl, trivial⟩ (tX9_keptBy_J36 h hn hx)
def fX9_keptBy (n : Nat) (s : zs) (x1 : Int32) : Option Int32 := zp (zl (fX9_keptBy_B4 n s x1) n ((0 : Int32), (0 : Int32))) (fun w16 => some w16)
theorem tX9_keptBy {n : Nat} {c : Nat × Nat} {s : zs} {x1 : Int32} {r : Int32} (h : fX9_keptBy n s x1 = some r) : zc 1 1810 [.ref 38, .int x1] (zS c s) (some (.int r)) (zS c s) := by
  refine zc_of (k := kX9_keptBy) (rt := 1) (L := [some (.ref 38), some (.int x1), none, none, none, none, none]) zm_1810.1 rfl rfl (by decide) rfl rfl ?_
  unfold fX9_keptBy at h
  refine zr_many 4 (pc' := 4) (L' := [some (.ref 38), some (.int x1), some (.int (0 : Int32)), some (.int (0 : Int32)), none, none, none]) (st' := []) (S1 := zS c s) rfl ?_
  obtain ⟨w16, g17, h⟩ := zp_inv h
  refine zr_wk [some (.ref 38), some (.int x1), some (.int (0 : Int32)), some (.int (0 : Int32)), none, none, none] ⟨rfl, rfl, rfl, rfl, trivial⟩ (zl_cert (Z := fun w4 => zr kX9_keptBy 1 0 4 [some (.ref 38), some (.int x1), some (.int w4.1), some (.int w4.2), none, none, none] [] (zS c s) _ _) (Y := (fun z => zr kX9_keptBy 1 0 121 [none, none, some (.int z), none, none, none, none] [] (zS c s) _ _)) (fun w o h1 h2 h3 => tX9_keptBy_B4 h1 h2 h3) n _ _ g17 ?_)
  show zr kX9_keptBy 1 0 121 [none, none, some (.int w16), none, none, none, none] [] (zS c s) _ _
  refine zr_many 1 (pc' := 122) (L' := [none, none, some (.int w16), none, none, none, none]) (st' := [.int w16]) (S1 := zS c s) rfl ?_
  obtain rfl := Option.some.inj h
  exact zq_iret rfl
def fX10_read_J112 (n : Nat) (s : zs) (x2 : Int32) : Option ((Int32 × zs) ⊕ ((Int32 × zs) ⊕ (zs))) := some (Sum.inl ((x2 + (1 : Int32)), s))
theorem tX10_read_J112 {n : Nat} {c : Nat × Nat} {s : zs} {x2 : Int32} {o : _} {v : Option Value} {S' : zi_S} (h : fX10_read_J112 n s x2 = some o) (hn : ∀ w18, o = Sum.inl w18 → zr kX10_read 1 2 18 [some (.ref 45), some (.ref 1), some (.int w18.1)] [] (zS c w18.2) v S') (hx : ∀ z, o = Sum.inr z → (Sum.elim (fun z => zr kX10_read 1 2 92 [none, some (.ref 1), some (.int z.1)] [] (zS c z.2) v S') (fun z => zr kX10_read 1 2 118 [none, some (.ref 1), none] [] (zS c z) v S')) z) : zr kX10_read 1 2 112 [some (.ref 45), some (.ref 1), some (.int x2)] [] (zS c s) v S' := by
  unfold fX10_read_J112 at h
  refine zr_many 2 (pc' := 18) (L' := [some (.ref 45), some (.ref 1), some (.int (x2 + (1 : Int32)))]) (st' := []) (S1 := zS c s) rfl ?_
  obtain rfl := Option.some.inj h
  exact zr_wk [some (.ref 45), some (.ref 1), some (.int (x2 + (1 : Int32)))] ⟨rfl, rfl, rfl, trivial⟩ (hn ((x2 + (1 : Int32)), s) rfl)
def fX10_read_B18 (n : Nat) (w18 : Int32 × zs) : Option ((Int32 × zs) ⊕ ((Int32 × zs) ⊕ (zs))) := if (14 : Int32) ≤ w18.1 then some (Sum.inr (Sum.inr w18.2)) else zb (fX8_take n w18.2 (117 : Int32) (117 : Int32)) (fun r7 s8 => if r7 < 0 then zb (fX8_take n s8 (100 : Int32) (100 : Int32)) (fun r11 s12 => if r11 < 0 then some (Sum.inr (Sum.inl (w18.1, s12))) else cond (zi_in (s12.1 45 4) 14) (zt (zsi s12 47 (s12.1 45 4).toNatClampNeg w18.1) (fun s15 => fX10_read_J112 n (zsi s15 45 4 ((s15.1 45 4) + (1 : Int32))) w18.1)) none) else cond (zi_in (s8.1 45 3) 14) (zt (zsi s8 46 (s8.1 45 3).toNatClampNeg w18.1) (fun s17 => fX10_read_J112 n (zsi s17 45 3 ((s17.1 45 3) + (1 : Int32))) w18.1)) none)
theorem tX10_read_B18 {n : Nat} {c : Nat × Nat} {w18 : Int32 × zs} {o : _} {v : Option Value} {S' : zi_S} (h : fX10_read_B18 n w18 = some o) (hn : ∀ w18, o = Sum.inl w18 → zr kX10_read 1 2 18 [some (.ref 45), some (.ref 1), some (.int w18.1)] [] (zS c w18.2) v S') (hx : ∀ z, o = Sum.inr z → (Sum.elim (fun z => zr kX10_read 1 2 92 [none, some (.ref 1), some (.int z.1)] [] (zS c z.2) v S') (fun z => zr kX10_read 1 2 118 [none, some (.ref 1), none] [] (zS c z) v S')) z) : zr kX10_read 1 2 18 [some (.ref 45), some (.ref 1), some (.int w18.1)] [] (zS c w18.2) v S' := by
  unfold fX10_read_B18 at h
  refine zr_many 2 (pc' := 21) (L' := [some (.ref 45), some (.ref 1), some (.int w18.1)]) (st' := [.int (14 : Int32), .int w18.1]) (S1 := zS c w18.2) rfl ?_
  refine zq_if2 (b := (14 : Int32) ≤ w18.1) rfl Iff.rfl rfl (fun g6 => ?_) (fun g6 => ?_)
  · rw [if_pos g6] at h
    obtain rfl := Option.some.inj h
    exact zr_wk [none, some (.ref 1), none] ⟨rfl, trivial⟩ (hx (Sum.inr w18.2) rfl)
  · rw [if_neg g6] at h
    refine zr_many 3 (pc' := 29) (L' := [some (.ref 45), some (.ref 1), some (.int w18.1)]) (st' := [.int (117 : Int32), .int (117 : Int32), .ref 1]) (S1 := zS c w18.2) rfl ?_
    obtain ⟨r7, s8, g9, h⟩ := zb_inv h
    refine zq_call1 rfl rfl (zh_1 _) rfl rfl rfl (tX8_take g9) rfl ?_
    refine zq_if1 (b := r7 < 0) rfl Iff.rfl rfl (fun g10 => ?_) (fun g10 => ?_)
    · rw [if_pos g10] at h
      refine zr_many 3 (pc' := 63) (L' := [some (.ref 45), some (.ref 1), some (.int w18.1)]) (st' := [.int (100 : Int32), .int (100 : Int32), .ref 1]) (S1 := zS c s8) rfl ?_
      obtain ⟨r11, s12, g13, h⟩ := zb_inv h
      refine zq_call1 rfl rfl (zh_1 _) rfl rfl rfl (tX8_take g13) rfl ?_
      refine zq_if1 (b := r11 < 0) rfl Iff.rfl rfl (fun g14 => ?_) (fun g14 => ?_)
      · rw [if_pos g14] at h
        obtain rfl := Option.some.inj h
        exact zr_wk [none, some (.ref 1), some (.int w18.1)] ⟨rfl, rfl, trivial⟩ (hx (Sum.inl (w18.1, s12)) rfl)
      · rw [if_neg g14] at h
        refine zr_many 1 (pc' := 70) (L' := [some (.ref 45), some (.ref 1), some (.int w18.1)]) (st' := [.ref 45]) (S1 := zS c s12) rfl ?_
        refine zq_get rfl (zh_45 _) rfl rfl rfl ?_
        refine zr_many 1 (pc' := 74) (L' := [some (.ref 45), some (.ref 1), some (.int w18.1)]) (st' := [.ref 45, .ref 47]) (S1 := zS c s12) rfl ?_
        refine zq_get rfl (zh_45 _) rfl rfl rfl ?_
        refine zr_many 1 (pc' := 78) (L' := [some (.ref 45), some (.ref 1), some (.int w18.1)]) (st' := [.int w18.1, .int (s12.1 45 4), .ref 47]) (S1 := zS c s12) rfl ?_
        obtain ⟨g19, h⟩ := zi_cond_inv h
        refine zq_ist rfl zh_47 rfl g19 rfl ?_
        refine zr_many 2 (pc' := 81) (L' := [some (.ref 45), some (.ref 1), some (.int w18.1)]) (st' := [.ref 45, .ref 45]) (S1 := zS c (zsi s12 47 (s12.1 45 4).toNatClampNeg w18.1)) rfl ?_
        refine zq_get rfl (zh_45 _) rfl rfl rfl ?_
        refine zr_many 2 (pc' := 86) (L' := [some (.ref 45), some (.ref 1), some (.int w18.1)]) (st' := [.int (((zsi s12 47 (s12.1 45 4).toNatClampNeg w18.1).1 45 4) + (1 : Int32)), .ref 45]) (S1 := zS c (zsi s12 47 (s12.1 45 4).toNatClampNeg w18.1)) rfl ?_
        obtain ⟨s15, e16, h⟩ := zt_in h
        rw [← e16]
        refine zq_put (s' := (zsi s15 45 4 ((s15.1 45 4) + (1 : Int32)))) rfl (zh_45 _) rfl rfl rfl rfl zsi_ne rfl ?_
        refine zr_many 1 (pc' := 112) (L' := [some (.ref 45), some (.ref 1), some (.int w18.1)]) (st' := []) (S1 := zS c (zsi s15 45 4 ((s15.1 45 4) + (1 : Int32)))) rfl ?_
        exact zr_wk [some (.ref 45), some (.ref 1), some (.int w18.1)] ⟨rfl, rfl, rfl, trivial⟩ (tX10_read_J112 h hn hx)
    · rw [if_neg g10] at h
      refine zr_many 1 (pc' := 36) (L' := [some (.ref 45), some (.ref 1), some (.int w18.1)]) (st' := [.ref 45]) (S1 := zS c s8) rfl ?_
      refine zq_get rfl (zh_45 _) rfl rfl rfl ?_
      refine zr_many 1 (pc' := 40) (L' := [some (.ref 45), some (.ref 1), some (.int w18.1)]) (st' := [.ref 45, .ref 46]) (S1 := zS c s8) rfl ?_
      refine zq_get rfl (zh_45 _) rfl rfl rfl ?_
      refine zr_many 1 (pc' := 44) (L' := [some (.ref 45), some (.ref 1), some (.int w18.1)]) (st' := [.int w18.1, .int (s8.1 45 3), .ref 46]) (S1 := zS c s8) rfl ?_
      obtain ⟨g20, h⟩ := zi_cond_inv h
      refine zq_ist rfl zh_46 rfl g20 rfl ?_
      refine zr_many 2 (pc' := 47) (L' := [some (.ref 45), some (.ref 1), some (.int w18.1)]) (st' := [.ref 45, .ref 45]) (S1 := zS c (zsi s8 46 (s8.1 45 3).toNatClampNeg w18.1)) rfl ?_
      refine zq_get rfl (zh_45 _) rfl rfl rfl ?_
      refine zr_many 2 (pc' := 52) (L' := [some (.ref 45), some (.ref 1), some (.int w18.1)]) (st' := [.int (((zsi s8 46 (s8.1 45 3).toNatClampNeg w18.1).1 45 3) + (1 : Int32)), .ref 45]) (S1 := zS c (zsi s8 46 (s8.1 45 3).toNatClampNeg w18.1)) rfl ?_
      obtain ⟨s17, e18, h⟩ := zt_in h
      rw [← e18]
      refine zq_put (s' := (zsi s17 45 3 ((s17.1 45 3) + (1 : Int32)))) rfl (zh_45 _) rfl rfl rfl rfl zsi_ne rfl ?_
      refine zr_many 1 (pc' := 112) (L' := [some (.ref 45), some (.ref 1), some (.int w18.1)]) (st' := []) (S1 := zS c (zsi s17 45 3 ((s17.1 45 3) + (1 : Int32)))) rfl ?_
      exact zr_wk [some (.ref 45), some (.ref 1), some (.int w18.1)] ⟨rfl, rfl, rfl, trivial⟩ (tX10_read_J112 h hn hx)
def fX10_read_J111 (n : Nat) (s : zs) (y0 : Int32) : Option (Int32 × zs) := some (y0, s)
theorem tX10_read_J111 {n : Nat} {c : Nat × Nat} {s : zs} {y0 : Int32} {r : Int32} {s' : zs} (h : fX10_read_J111 n s y0 = some (r, s')) : zr kX10_read 1 2 111 [none, none, none] [.int y0] (zS c s) (some (.int r)) (zS c s') := by
  unfold fX10_read_J111 at h
  obtain ⟨rfl, rfl⟩ := Prod.mk.inj (Option.some.inj h)
  exact zq_iret rfl
def fX10_read_J107 (n : Nat) (s : zs) : Option (Int32 × zs) := zp (fX8_fault n s) (fun r23 => fX10_read_J111 n s r23)
theorem tX10_read_J107 {n : Nat} {c : Nat × Nat} {s : zs} {r : Int32} {s' : zs} (h : fX10_read_J107 n s = some (r, s')) : zr kX10_read 1 2 107 [none, some (.ref 1), none] [] (zS c s) (some (.int r)) (zS c s') := by
  unfold fX10_read_J107 at h
  refine zr_many 1 (pc' := 108) (L' := [none, some (.ref 1), none]) (st' := [.ref 1]) (S1 := zS c s) rfl ?_
  obtain ⟨r23, g25, h⟩ := zp_inv h
  refine zq_call1 rfl rfl (zh_1 _) rfl rfl rfl ((tX8_fault g25).up (by decide)) rfl ?_
  exact zr_wk [none, none, none] trivial (tX10_read_J111 h)
def fX10_read_J133 (n : Nat) (s : zs) (y0 : Int32) : Option (Int32 × zs) := some (y0, s)
theorem tX10_read_J133 {n : Nat} {c : Nat × Nat} {s : zs} {y0 : Int32} {r : Int32} {s' : zs} (h : fX10_read_J133 n s y0 = some (r, s')) : zr kX10_read 1 2 133 [none, none, none] [.int y0] (zS c s) (some (.int r)) (zS c s') := by
  unfold fX10_read_J133 at h
  obtain ⟨rfl, rfl⟩ := Prod.mk.inj (Option.some.inj h)
  exact zq_iret rfl
def fX10_read (n : Nat) (s : zs) : Option (Int32 × zs) := zp (fX8_open n s (14 : Int32)) (fun s2 => zt (zsi s2 45 3 (0 : Int32)) (fun s4 => zp (zl (fX10_read_B18 n) n ((0 : Int32), (zsi s4 45 4 (0 : Int32)))) (Sum.elim (fun w21 => if w21.1 ≤ 0 then fX10_read_J107 n w21.2 else zp (fX8_over n w21.2) (fun r26 => if r26 = 0 then fX10_read_J107 n w21.2 else fX10_read_J111 n w21.2 (0 : Int32))) (fun w30 => zp (fX8_over n w30) (fun r31 => if r31 = 0 then zp (fX8_fault n w30) (fun r35 => fX10_read_J133 n w30 r35) else fX10_read_J133 n w30 (0 : Int32))))))
theorem tX10_read {n : Nat} {c : Nat × Nat} {s : zs} {r : Int32} {s' : zs} (h : fX10_read n s = some (r, s')) : zc 3 2001 [.ref 45, .ref 1] (zS c s) (some (.int r)) (zS c s') := by
  refine zc_of (k := kX10_read) (rt := 1) (L := [some (.ref 45), some (.ref 1), none]) zm_2001.1 rfl rfl (by decide) rfl rfl ?_
  unfold fX10_read at h
  refine zr_many 2 (pc' := 3) (L' := [some (.ref 45), some (.ref 1), none]) (st' := [.int (14 : Int32), .ref 1]) (S1 := zS c s) rfl ?_
  obtain ⟨s2, g3, h⟩ := zp_inv h
  refine zq_call0 rfl rfl (zh_1 _) rfl rfl rfl ((tX8_open g3).up (by decide)) rfl ?_
  refine zr_many 2 (pc' := 8) (L' := [some (.ref 45), some (.ref 1), none]) (st' := [.int (0 : Int32), .ref 45]) (S1 := zS c s2) rfl ?_
  refine zq_put (s' := (zsi s2 45 3 (0 : Int32))) rfl (zh_45 _) rfl rfl rfl rfl zsi_ne rfl ?_
  refine zr_many 2 (pc' := 13) (L' := [some (.ref 45), some (.ref 1), none]) (st' := [.int (0 : Int32), .ref 45]) (S1 := zS c (zsi s2 45 3 (0 : Int32))) rfl ?_
  obtain ⟨s4, e5, h⟩ := zt_in h
  rw [← e5]
  refine zq_put (s' := (zsi s4 45 4 (0 : Int32))) rfl (zh_45 _) rfl rfl rfl rfl zsi_ne rfl ?_
  refine zr_many 2 (pc' := 18) (L' := [some (.ref 45), some (.ref 1), some (.int (0 : Int32))]) (st' := []) (S1 := zS c (zsi s4 45 4 (0 : Int32))) rfl ?_
  obtain ⟨w39, g38, h⟩ := zp_inv h
  rcases w39 with w21 | w30
  · simp only [Sum.elim_inl, Sum.elim_inr] at h
    refine zr_wk [some (.ref 45), some (.ref 1), some (.int (0 : Int32))] ⟨rfl, rfl, rfl, trivial⟩ (zl_cert (Z := fun w18 => zr kX10_read 1 2 18 [some (.ref 45), some (.ref 1), some (.int w18.1)] [] (zS c w18.2) _ _) (Y := (Sum.elim (fun z => zr kX10_read 1 2 92 [none, some (.ref 1), some (.int z.1)] [] (zS c z.2) _ _) (fun z => zr kX10_read 1 2 118 [none, some (.ref 1), none] [] (zS c z) _ _))) (fun w o h1 h2 h3 => tX10_read_B18 h1 h2 h3) n _ _ g38 ?_)
    show zr kX10_read 1 2 92 [none, some (.ref 1), some (.int w21.1)] [] (zS c w21.2) _ _
    refine zr_many 1 (pc' := 93) (L' := [none, some (.ref 1), some (.int w21.1)]) (st' := [.int w21.1]) (S1 := zS c w21.2) rfl ?_
    refine zq_if1 (b := w21.1 ≤ 0) rfl Iff.rfl rfl (fun g22 => ?_) (fun g22 => ?_)
    · rw [if_pos g22] at h
      exact zr_wk [none, some (.ref 1), none] ⟨rfl, trivial⟩ (tX10_read_J107 h)
    · rw [if_neg g22] at h
      refine zr_many 1 (pc' := 97) (L' := [none, some (.ref 1), some (.int w21.1)]) (st' := [.ref 1]) (S1 := zS c w21.2) rfl ?_
      obtain ⟨r26, g28, h⟩ := zp_inv h
      refine zq_call1 rfl rfl (zh_1 _) rfl rfl rfl ((tX8_over g28).up (by decide)) rfl ?_
      refine zq_if1 (b := r26 = 0) rfl Iff.rfl rfl (fun g29 => ?_) (fun g29 => ?_)
      · rw [if_pos g29] at h
        exact zr_wk [none, some (.ref 1), none] ⟨rfl, trivial⟩ (tX10_read_J107 h)
      · rw [if_neg g29] at h
        refine zr_many 2 (pc' := 111) (L' := [none, some (.ref 1), some (.int w21.1)]) (st' := [.int (0 : Int32)]) (S1 := zS c w21.2) rfl ?_
        exact zr_wk [none, none, none] trivial (tX10_read_J111 h)
  · simp only [Sum.elim_inl, Sum.elim_inr] at h
    refine zr_wk [some (.ref 45), some (.ref 1), some (.int (0 : Int32))] ⟨rfl, rfl, rfl, trivial⟩ (zl_cert (Z := fun w18 => zr kX10_read 1 2 18 [some (.ref 45), some (.ref 1), some (.int w18.1)] [] (zS c w18.2) _ _) (Y := (Sum.elim (fun z => zr kX10_read 1 2 92 [none, some (.ref 1), some (.int z.1)] [] (zS c z.2) _ _) (fun z => zr kX10_read 1 2 118 [none, some (.ref 1), none] [] (zS c z) _ _))) (fun w o h1 h2 h3 => tX10_read_B18 h1 h2 h3) n _ _ g38 ?_)
    show zr kX10_read 1 2 118 [none, some (.ref 1), none] [] (zS c w30) _ _
    refine zr_many 1 (pc' := 119) (L' := [none, some (.ref 1), none]) (st' := [.ref 1]) (S1 := zS c w30) rfl ?_
    obtain ⟨r31, g33, h⟩ := zp_inv h
    refine zq_call1 rfl rfl (zh_1 _) rfl rfl rfl ((tX8_over g33).up (by decide)) rfl ?_
    refine zq_if1 (b := r31 = 0) rfl Iff.rfl rfl (fun g34 => ?_) (fun g34 => ?_)
    · rw [if_pos g34] at h
      refine zr_many 1 (pc' := 130) (L' := [none, some (.ref 1), none]) (st' := [.ref 1]) (S1 := zS c w30) rfl ?_
      obtain ⟨r35, g37, h⟩ := zp_inv h
      refine zq_call1 rfl rfl (zh_1 _) rfl rfl rfl ((tX8_fault g37).up (by decide)) rfl ?_
      exact zr_wk [none, none, none] trivial (tX10_read_J133 h)
    · rw [if_neg g34] at h
      refine zr_many 2 (pc' := 133) (L' := [none, some (.ref 1), none]) (st' := [.int (0 : Int32)]) (S1 := zS c w30) rfl ?_
      exact zr_wk [none, none, none] trivial (tX10_read_J133 h)
def fX10_slot (n : Nat) (s : zs) (x0 : Int32) (x1 : Int32) (x2 : Int32) : Option Int32 := some ((((x0 * (15 : Int32)) + x1) * (2 : Int32)) + x2)
theorem tX10_slot {n : Nat} {c : Nat × Nat} {s : zs} {x0 : Int32} {x1 : Int32} {x2 : Int32} {r : Int32} (h : fX10_slot n s x0 x1 x2 = some r) : zc 1 2009 [.int x0, .int x1, .int x2] (zS c s) (some (.int r)) (zS c s) := by
  refine zc_of (k := kX10_slot) (rt := 1) (L := [some (.int x0), some (.int x1), some (.int x2)]) zm_2009.1 rfl rfl (by decide) rfl rfl ?_
  unfold fX10_slot at h
  refine zr_many 9 (pc' := 10) (L' := [some (.int x0), some (.int x1), some (.int x2)]) (st' := [.int ((((x0 * (15 : Int32)) + x1) * (2 : Int32)) + x2)]) (S1 := zS c s) rfl ?_
  obtain rfl := Option.some.inj h
  exact zq_iret rfl
def fX10_costAfter (n : Nat) (s : zs) (x1 : Int32) (x2 : Int32) (x3 : Int32) : Option Int32 := zp (fX10_slot n s x1 x2 x3) (fun r1 => cond (zi_in r1 450) (some (s.1 48 r1.toNatClampNeg)) none)
theorem tX10_costAfter {n : Nat} {c : Nat × Nat} {s : zs} {x1 : Int32} {x2 : Int32} {x3 : Int32} {r : Int32} (h : fX10_costAfter n s x1 x2 x3 = some r) : zc 2 2008 [.ref 45, .int x1, .int x2, .int x3] (zS c s) (some (.int r)) (zS c s) := by
  refine zc_of (k := kX10_costAfter) (rt := 1) (L := [some (.ref 45), some (.int x1), some (.int x2), some (.int x3)]) zm_2008.1 rfl rfl (by decide) rfl rfl ?_
  unfold fX10_costAfter at h
  refine zr_many 1 (pc' := 1) (L' := [some (.ref 45), some (.int x1), some (.int x2), some (.int x3)]) (st' := [.ref 45]) (S1 := zS c s) rfl ?_
  refine zq_get rfl (zh_45 _) rfl rfl rfl ?_
  refine zr_many 3 (pc' := 7) (L' := [some (.ref 45), some (.int x1), some (.int x2), some (.int x3)]) (st' := [.int x3, .int x2, .int x1, .ref 48]) (S1 := zS c s) rfl ?_
  obtain ⟨r1, g3, h⟩ := zp_inv h
  refine zq_scall1 rfl (by decide) rfl rfl (tX10_slot g3) rfl ?_
  obtain ⟨g4, h⟩ := zi_cond_inv h
  refine zq_ild rfl (zh_48 _) rfl g4 rfl ?_
  obtain rfl := Option.some.inj h
  exact zq_iret rfl
def fX10_upCost (n : Nat) (s : zs) (x1 : Int32) (x2 : Int32) (x3 : Int32) : Option Int32 := zp (fX10_costAfter n s (x1 + (1 : Int32)) x2 (1 : Int32)) (fun r1 => some ((x3 * (101 : Int32)) + r1))
theorem tX10_upCost {n : Nat} {c : Nat × Nat} {s : zs} {x1 : Int32} {x2 : Int32} {x3 : Int32} {r : Int32} (h : fX10_upCost n s x1 x2 x3 = some r) : zc 3 2006 [.ref 45, .int x1, .int x2, .int x3] (zS c s) (some (.int r)) (zS c s) := by
  refine zc_of (k := kX10_upCost) (rt := 1) (L := [some (.ref 45), some (.int x1), some (.int x2), some (.int x3)]) zm_2006.1 rfl rfl (by decide) rfl rfl ?_
  unfold fX10_upCost at h
  refine zr_many 9 (pc' := 10) (L' := [some (.ref 45), some (.int x1), some (.int x2), some (.int x3)]) (st' := [.int (1 : Int32), .int x2, .int (x1 + (1 : Int32)), .ref 45, .int (x3 * (101 : Int32))]) (S1 := zS c s) rfl ?_
  obtain ⟨r1, g3, h⟩ := zp_inv h
  refine zq_call1 rfl rfl (zh_45 _) rfl rfl rfl (tX10_costAfter g3) rfl ?_
  refine zr_many 1 (pc' := 14) (L' := [some (.ref 45), some (.int x1), some (.int x2), some (.int x3)]) (st' := [.int ((x3 * (101 : Int32)) + r1)]) (S1 := zS c s) rfl ?_
  obtain rfl := Option.some.inj h
  exact zq_iret rfl
def fX10_downCost (n : Nat) (s : zs) (x1 : Int32) (x2 : Int32) (x3 : Int32) : Option Int32 := zp (fX10_costAfter n s x1 (x2 + (1 : Int32)) (0 : Int32)) (fun r1 => some (((101 : Int32) - x3) + r1))
theorem tX10_downCost {n : Nat} {c : Nat × Nat} {s : zs} {x1 : Int32} {x2 : Int32} {x3 : Int32} {r : Int32} (h : fX10_downCost n s x1 x2 x3 = some r) : zc 3 2007 [.ref 45, .int x1, .int x2, .int x3] (zS c s) (some (.int r)) (zS c s) := by
  refine zc_of (k := kX10_downCost) (rt := 1) (L := [some (.ref 45), some (.int x1), some (.int x2), some (.int x3)]) zm_2007.1 rfl rfl (by decide) rfl rfl ?_
  unfold fX10_downCost at h
  refine zr_many 9 (pc' := 10) (L' := [some (.ref 45), some (.int x1), some (.int x2), some (.int x3)]) (st' := [.int (0 : Int32), .int (x2 + (1 : Int32)), .int x1, .ref 45, .int ((101 : Int32) - x3)]) (S1 := zS c s) rfl ?_
  obtain ⟨r1, g3, h⟩ := zp_inv h
  refine zq_call1 rfl rfl (zh_45 _) rfl rfl rfl (tX10_costAfter g3) rfl ?_
  refine zr_many 1 (pc' := 14) (L' := [some (.ref 45), some (.int x1), some (.int x2), some (.int x3)]) (st' := [.int (((101 : Int32) - x3) + r1)]) (S1 := zS c s) rfl ?_
  obtain rfl := Option.some.inj h
  exact zq_iret rfl
def fX10_goesUpNext_J29 (n : Nat) (s : zs) (y0 : Int32) : Option Int32 := if y0 = 0 ∨ y0 = 1 then some y0 else none
theorem tX10_goesUpNext_J29 {n : Nat} {c : Nat × Nat} {s : zs} {y0 : Int32} {r : Int32} (h : fX10_goesUpNext_J29 n s y0 = some r) : zr kX10_goesUpNext 2 3 29 [none, none, none, none, none, none] [.int y0] (zS c s) (some (.int r)) (zS c s) := by
  unfold fX10_goesUpNext_J29 at h
  obtain ⟨gz, h⟩ := zt_inv h
  obtain rfl := Option.some.inj h
  exact zq_zret rfl gz
def fX10_goesUpNext_J16 (n : Nat) (s : zs) (x1 : Int32) : Option Int32 := if (s.1 45 3) ≤ x1 then fX10_goesUpNext_J29 n s (0 : Int32) else fX10_goesUpNext_J29 n s (1 : Int32)
theorem tX10_goesUpNext_J16 {n : Nat} {c : Nat × Nat} {s : zs} {x1 : Int32} {r : Int32} (h : fX10_goesUpNext_J16 n s x1 = some r) : zr kX10_goesUpNext 2 3 16 [some (.ref 45), some (.int x1), none, none, none, none] [] (zS c s) (some (.int r)) (zS c s) := by
  unfold fX10_goesUpNext_J16 at h
  refine zr_many 2 (pc' := 18) (L' := [some (.ref 45), some (.int x1), none, none, none, none]) (st' := [.ref 45, .int x1]) (S1 := zS c s) rfl ?_
  refine zq_get rfl (zh_45 _) rfl rfl rfl ?_
  refine zq_if2 (b := (s.1 45 3) ≤ x1) rfl Iff.rfl rfl (fun g2 => ?_) (fun g2 => ?_)
  · rw [if_pos g2] at h
    refine zr_many 1 (pc' := 29) (L' := [some (.ref 45), some (.int x1), none, none, none, none]) (st' := [.int (0 : Int32)]) (S1 := zS c s) rfl ?_
    exact zr_wk [none, none, none, none, none, none] trivial (tX10_goesUpNext_J29 h)
  · rw [if_neg g2] at h
    refine zr_many 2 (pc' := 29) (L' := [some (.ref 45), some (.int x1), none, none, none, none]) (st' := [.int (1 : Int32)]) (S1 := zS c s) rfl ?_
    exact zr_wk [none, none, none, none, none, none] trivial (tX10_goesUpNext_J29 h)
def fX10_goesUpNext_J82 (n : Nat) (s : zs) (y0 : Int32) : Option Int32 := if y0 = 0 ∨ y0 = 1 then some y0 else none
theorem tX10_goesUpNext_J82 {n : Nat} {c : Nat × Nat} {s : zs} {y0 : Int32} {r : Int32} (h : fX10_goesUpNext_J82 n s y0 = some r) : zr kX10_goesUpNext 2 3 82 [none, none, none, none, none, none] [.int y0] (zS c s) (some (.int r)) (zS c s) := by
  unfold fX10_goesUpNext_J82 at h
  obtain ⟨gz, h⟩ := zt_inv h
  obtain rfl := Option.some.inj h
  exact zq_zret rfl gz
def fX10_goesUpNext_J77 (n : Nat) (s : zs) : Option Int32 := fX10_goesUpNext_J82 n s (1 : Int32)
theorem tX10_goesUpNext_J77 {n : Nat} {c : Nat × Nat} {s : zs} {r : Int32} (h : fX10_goesUpNext_J77 n s = some r) : zr kX10_goesUpNext 2 3 77 [none, none, none, none, none, none] [] (zS c s) (some (.int r)) (zS c s) := by
  unfold fX10_goesUpNext_J77 at h
  refine zr_many 2 (pc' := 82) (L' := [none, none, none, none, none, none]) (st' := [.int (1 : Int32)]) (S1 := zS c s) rfl ?_
  exact zr_wk [none, none, none, none, none, none] trivial (tX10_goesUpNext_J82 h)
def fX10_goesUpNext_J81 (n : Nat) (s : zs) : Option Int32 := fX10_goesUpNext_J82 n s (0 : Int32)
theorem tX10_goesUpNext_J81 {n : Nat} {c : Nat × Nat} {s : zs} {r : Int32} (h : fX10_goesUpNext_J81 n s = some r) : zr kX10_goesUpNext 2 3 81 [none, none, none, none, none, none] [] (zS c s) (some (.int r)) (zS c s) := by
  unfold fX10_goesUpNext_J81 at h
  refine zr_many 1 (pc' := 82) (L' := [none, none, none, none, none, none]) (st' := [.int (0 : Int32)]) (S1 := zS c s) rfl ?_
  exact zr_wk [none, none, none, none, none, none] trivial (tX10_goesUpNext_J82 h)
def fX10_goesUpNext (n : Nat) (s : zs) (x1 : Int32) (x2 : Int32) (x3 : Int32) : Option Int32 := if (s.1 45 3) ≤ x1 then fX10_goesUpNext_J16 n s x1 else if x2 < (s.1 45 4) then zp (fX10_upCost n s x1 x2 x3) (fun r4 => zp (fX10_downCost n s x1 x2 x3) (fun r7 => if r4 < r7 then fX10_goesUpNext_J77 n s else if ¬ r4 = r7 then fX10_goesUpNext_J81 n s else cond (zi_in x1 14) (cond (zi_in x2 14) (if (s.1 47 x2.toNatClampNeg) ≤ (s.1 46 x1.toNatClampNeg) then fX10_goesUpNext_J81 n s else fX10_goesUpNext_J77 n s) none) none)) else fX10_goesUpNext_J16 n s x1
theorem tX10_goesUpNext {n : Nat} {c : Nat × Nat} {s : zs} {x1 : Int32} {x2 : Int32} {x3 : Int32} {r : Int32} (h : fX10_goesUpNext n s x1 x2 x3 = some r) : zc 4 2003 [.ref 45, .int x1, .int x2, .int x3] (zS c s) (some (.int r)) (zS c s) := by
  refine zc_of (k := kX10_goesUpNext) (rt := 2) (L := [some (.ref 45), some (.int x1), some (.int x2), some (.int x3), none, none]) zm_2003.1 rfl rfl (by decide) rfl rfl ?_
  unfold fX10_goesUpNext at h
  refine zr_many 2 (pc' := 2) (L' := [some (.ref 45), some (.int x1), some (.int x2), some (.int x3), none, none]) (st' := [.ref 45, .int x1]) (S1 := zS c s) rfl ?_
  refine zq_get rfl (zh_45 _) rfl rfl rfl ?_
  refine zq_if2 (b := (s.1 45 3) ≤ x1) rfl Iff.rfl rfl (fun g1 => ?_) (fun g1 => ?_)
  · rw [if_pos g1] at h
    exact zr_wk [some (.ref 45), some (.int x1), none, none, none, none] ⟨rfl, rfl, trivial⟩ (tX10_goesUpNext_J16 h)
  · rw [if_neg g1] at h
    refine zr_many 2 (pc' := 10) (L' := [some (.ref 45), some (.int x1), some (.int x2), some (.int x3), none, none]) (st' := [.ref 45, .int x2]) (S1 := zS c s) rfl ?_
    refine zq_get rfl (zh_45 _) rfl rfl rfl ?_
    refine zq_if2 (b := x2 < (s.1 45 4)) rfl Iff.rfl rfl (fun g3 => ?_) (fun g3 => ?_)
    · rw [if_pos g3] at h
      refine zr_many 4 (pc' := 34) (L' := [some (.ref 45), some (.int x1), some (.int x2), some (.int x3), none, none]) (st' := [.int x3, .int x2, .int x1, .ref 45]) (S1 := zS c s) rfl ?_
      obtain ⟨r4, g6, h⟩ := zp_inv h
      refine zq_call1 rfl rfl (zh_45 _) rfl rfl rfl (tX10_upCost g6) rfl ?_
      refine zr_many 5 (pc' := 43) (L' := [some (.ref 45), some (.int x1), some (.int x2), some (.int x3), some (.int r4), none]) (st' := [.int x3, .int x2, .int x1, .ref 45]) (S1 := zS c s) rfl ?_
      obtain ⟨r7, g9, h⟩ := zp_inv h
      refine zq_call1 rfl rfl (zh_45 _) rfl rfl rfl (tX10_downCost g9) rfl ?_
      refine zr_many 3 (pc' := 52) (L' := [some (.ref 45), some (.int x1), some (.int x2), some (.int x3), some (.int r4), some (.int r7)]) (st' := [.int r7, .int r4]) (S1 := zS c s) rfl ?_
      refine zq_if2 (b := r4 < r7) rfl Iff.rfl rfl (fun g10 => ?_) (fun g10 => ?_)
      · rw [if_pos g10] at h
        exact zr_wk [none, none, none, none, none, none] trivial (tX10_goesUpNext_J77 h)
      · rw [if_neg g10] at h
        refine zr_many 2 (pc' := 59) (L' := [some (.ref 45), some (.int x1), some (.int x2), some (.int x3), some (.int r4), some (.int r7)]) (st' := [.int r7, .int r4]) (S1 := zS c s) rfl ?_
        refine zq_if2 (b := ¬ r4 = r7) rfl Iff.rfl rfl (fun g11 => ?_) (fun g11 => ?_)
        · rw [if_pos g11] at h
          exact zr_wk [none, none, none, none, none, none] trivial (tX10_goesUpNext_J81 h)
        · rw [if_neg g11] at h
          refine zr_many 1 (pc' := 63) (L' := [some (.ref 45), some (.int x1), some (.int x2), some (.int x3), some (.int r4), some (.int r7)]) (st' := [.ref 45]) (S1 := zS c s) rfl ?_
          refine zq_get rfl (zh_45 _) rfl rfl rfl ?_
          refine zr_many 1 (pc' := 67) (L' := [some (.ref 45), some (.int x1), some (.int x2), some (.int x3), some (.int r4), some (.int r7)]) (st' := [.int x1, .ref 46]) (S1 := zS c s) rfl ?_
          obtain ⟨g12, h⟩ := zi_cond_inv h
          refine zq_ild rfl (zh_46 _) rfl g12 rfl ?_
          refine zr_many 1 (pc' := 69) (L' := [some (.ref 45), some (.int x1), some (.int x2), some (.int x3), some (.int r4), some (.int r7)]) (st' := [.ref 45, .int (s.1 46 x1.toNatClampNeg)]) (S1 := zS c s) rfl ?_
          refine zq_get rfl (zh_45 _) rfl rfl rfl ?_
          refine zr_many 1 (pc' := 73) (L' := [some (.ref 45), some (.int x1), some (.int x2), some (.int x3), some (.int r4), some (.int r7)]) (st' := [.int x2, .ref 47, .int (s.1 46 x1.toNatClampNeg)]) (S1 := zS c s) rfl ?_
          obtain ⟨g13, h⟩ := zi_cond_inv h
          refine zq_ild rfl (zh_47 _) rfl g13 rfl ?_
          refine zq_if2 (b := (s.1 47 x2.toNatClampNeg) ≤ (s.1 46 x1.toNatClampNeg)) rfl Iff.rfl rfl (fun g14 => ?_) (fun g14 => ?_)
          · rw [if_pos g14] at h
            exact zr_wk [none, none, none, none, none, none] trivial (tX10_goesUpNext_J81 h)
          · rw [if_neg g14] at h
            exact zr_wk [none, none, none, none, none, none] trivial (tX10_goesUpNext_J77 h)
    · rw [if_neg g3] at h
      exact zr_wk [some (.ref 45), some (.int x1), none, none, none, none] ⟨rfl, rfl, trivial⟩ (tX10_goesUpNext_J16 h)
def fX10_costNext_J62 (n : Nat) (s : zs) (y0 : Int32) : Option Int32 := some y0
theorem tX10_costNext_J62 {n : Nat} {c : Nat × Nat} {s : zs} {y0 : Int32} {r : Int32} (h : fX10_costNext_J62 n s y0 = some r) : zr kX10_costNext 1 3 62 [none, none, none, none, none] [.int y0] (zS c s) (some (.int r)) (zS c s) := by
  unfold fX10_costNext_J62 at h
  obtain rfl := Option.some.inj h
  exact zq_iret rfl
def fX10_costNext_J27 (n : Nat) (s : zs) (y0 : Int32) : Option Int32 := some y0
theorem tX10_costNext_J27 {n : Nat} {c : Nat × Nat} {s : zs} {y0 : Int32} {r : Int32} (h : fX10_costNext_J27 n s y0 = some r) : zr kX10_costNext 1 3 27 [none, none, none, none, none] [.int y0] (zS c s) (some (.int r)) (zS c s) := by
  unfold fX10_costNext_J27 at h
  obtain rfl := Option.some.inj h
  exact zq_iret rfl
def fX10_costNext (n : Nat) (s : zs) (x1 : Int32) (x2 : Int32) (x3 : Int32) : Option Int32 := if x1 < (s.1 45 3) then zp (fX10_upCost n s x1 x2 x3) (fun r2 => if x2 < (s.1 45 4) then zp (fX10_downCost n s x1 x2 x3) (fun r6 => fX10_costNext_J62 n s (if r6 < r2 then r6 else r2)) else fX10_costNext_J62 n s r2) else if x2 < (s.1 45 4) then zp (fX10_downCost n s x1 x2 x3) (fun r10 => fX10_costNext_J27 n s r10) else fX10_costNext_J27 n s (0 : Int32)
theorem tX10_costNext {n : Nat} {c : Nat × Nat} {s : zs} {x1 : Int32} {x2 : Int32} {x3 : Int32} {r : Int32} (h : fX10_costNext n s x1 x2 x3 = some r) : zc 4 2005 [.ref 45, .int x1, .int x2, .int x3] (zS c s) (some (.int r)) (zS c s) := by
  refine zc_of (k := kX10_costNext) (rt := 1) (L := [some (.ref 45), some (.int x1), some (.int x2), some (.int x3), none]) zm_2005.1 rfl rfl (by decide) rfl rfl ?_
  unfold fX10_costNext at h
  refine zr_many 2 (pc' := 2) (L' := [some (.ref 45), some (.int x1), some (.int x2), some (.int x3), none]) (st' := [.ref 45, .int x1]) (S1 := zS c s) rfl ?_
  refine zq_get rfl (zh_45 _) rfl rfl rfl ?_
  refine zq_if2 (b := x1 < (s.1 45 3)) rfl Iff.rfl rfl (fun g1 => ?_) (fun g1 => ?_)
  · rw [if_pos g1] at h
    refine zr_many 4 (pc' := 32) (L' := [some (.ref 45), some (.int x1), some (.int x2), some (.int x3), none]) (st' := [.int x3, .int x2, .int x1, .ref 45]) (S1 := zS c s) rfl ?_
    obtain ⟨r2, g4, h⟩ := zp_inv h
    refine zq_call1 rfl rfl (zh_45 _) rfl rfl rfl (tX10_upCost g4) rfl ?_
    refine zr_many 3 (pc' := 39) (L' := [some (.ref 45), some (.int x1), some (.int x2), some (.int x3), some (.int r2)]) (st' := [.ref 45, .int x2]) (S1 := zS c s) rfl ?_
    refine zq_get rfl (zh_45 _) rfl rfl rfl ?_
    refine zq_if2 (b := x2 < (s.1 45 4)) rfl Iff.rfl rfl (fun g5 => ?_) (fun g5 => ?_)
    · rw [if_pos g5] at h
      refine zr_many 5 (pc' := 56) (L' := [some (.ref 45), some (.int x1), some (.int x2), some (.int x3), some (.int r2)]) (st' := [.int x3, .int x2, .int x1, .ref 45, .int r2]) (S1 := zS c s) rfl ?_
      obtain ⟨r6, g8, h⟩ := zp_inv h
      refine zq_call1 rfl rfl (zh_45 _) rfl rfl rfl (tX10_downCost g8) rfl ?_
      refine zr_many 1 (pc' := 62) (L' := [some (.ref 45), some (.int x1), some (.int x2), some (.int x3), some (.int r2)]) (st' := [.int (if r6 < r2 then r6 else r2)]) (S1 := zS c s) rfl ?_
      exact zr_wk [none, none, none, none, none] trivial (tX10_costNext_J62 h)
    · rw [if_neg g5] at h
      refine zr_many 2 (pc' := 62) (L' := [some (.ref 45), some (.int x1), some (.int x2), some (.int x3), some (.int r2)]) (st' := [.int r2]) (S1 := zS c s) rfl ?_
      exact zr_wk [none, none, none, none, none] trivial (tX10_costNext_J62 h)
  · rw [if_neg g1] at h
    refine zr_many 2 (pc' := 10) (L' := [some (.ref 45), some (.int x1), some (.int x2), some (.int x3), none]) (st' := [.ref 45, .int x2]) (S1 := zS c s) rfl ?_
    refine zq_get rfl (zh_45 _) rfl rfl rfl ?_
    refine zq_if2 (b := x2 < (s.1 45 4)) rfl Iff.rfl rfl (fun g9 => ?_) (fun g9 => ?_)
    · rw [if_pos g9] at h
      refine zr_many 4 (pc' := 24) (L' := [some (.ref 45), some (.int x1), some (.int x2), some (.int x3), none]) (st' := [.int x3, .int x2, .int x1, .ref 45]) (S1 := zS c s) rfl ?_
      obtain ⟨r10, g12, h⟩ := zp_inv h
      refine zq_call1 rfl rfl (zh_45 _) rfl rfl rfl (tX10_downCost g12) rfl ?_
      exact zr_wk [none, none, none, none, none] trivial (tX10_costNext_J27 h)
    · rw [if_neg g9] at h
      refine zr_many 2 (pc' := 27) (L' := [some (.ref 45), some (.int x1), some (.int x2), some (.int x3), none]) (st' := [.int (0 : Int32)]) (S1 := zS c s) rfl ?_
      exact zr_wk [none, none, none, none, none] trivial (tX10_costNext_J27 h)
def fX10_findCosts_B20 (n : Nat) (x1 : Int32) (x2 : Int32) (w20 : Int32 × zs) : Option ((Int32 × zs) ⊕ (zs)) := if (2 : Int32) ≤ w20.1 then some (Sum.inr w20.2) else zp (fX10_slot n w20.2 x1 x2 w20.1) (fun r4 => zp (fX10_costNext n w20.2 x1 x2 w20.1) (fun r7 => cond (zi_in r4 450) (some (Sum.inl ((w20.1 + (1 : Int32)), (zsi w20.2 48 r4.toNatClampNeg r7)))) none))
theorem tX10_findCosts_B20 {n : Nat} {c : Nat × Nat} {x1 : Int32} {x2 : Int32} {w20 : Int32 × zs} {o : _} {v : Option Value} {S' : zi_S} (h : fX10_findCosts_B20 n x1 x2 w20 = some o) (hn : ∀ w20, o = Sum.inl w20 → zr kX10_findCosts 0 4 20 [some (.ref 45), some (.int x1), some (.int x2), some (.int w20.1)] [] (zS c w20.2) v S') (hx : ∀ z, o = Sum.inr z → (fun z => zr kX10_findCosts 0 4 49 [some (.ref 45), some (.int x1), some (.int x2), none] [] (zS c z) v S') z) : zr kX10_findCosts 0 4 20 [some (.ref 45), some (.int x1), some (.int x2), some (.int w20.1)] [] (zS c w20.2) v S' := by
  unfold fX10_findCosts_B20 at h
  refine zr_many 2 (pc' := 22) (L' := [some (.ref 45), some (.int x1), some (.int x2), some (.int w20.1)]) (st' := [.int (2 : Int32), .int w20.1]) (S1 := zS c w20.2) rfl ?_
  refine zq_if2 (b := (2 : Int32) ≤ w20.1) rfl Iff.rfl rfl (fun g3 => ?_) (fun g3 => ?_)
  · rw [if_pos g3] at h
    obtain rfl := Option.some.inj h
    exact zr_wk [some (.ref 45), some (.int x1), some (.int x2), none] ⟨rfl, rfl, rfl, trivial⟩ (hx w20.2 rfl)
  · rw [if_neg g3] at h
    refine zr_many 1 (pc' := 26) (L' := [some (.ref 45), some (.int x1), some (.int x2), some (.int w20.1)]) (st' := [.ref 45]) (S1 := zS c w20.2) rfl ?_
    refine zq_get rfl (zh_45 _) rfl rfl rfl ?_
    refine zr_many 3 (pc' := 32) (L' := [some (.ref 45), some (.int x1), some (.int x2), some (.int w20.1)]) (st' := [.int w20.1, .int x2, .int x1, .ref 48]) (S1 := zS c w20.2) rfl ?_
    obtain ⟨r4, g6, h⟩ := zp_inv h
    refine zq_scall1 rfl (by decide) rfl rfl ((tX10_slot g6).up (by decide)) rfl ?_
    refine zr_many 4 (pc' := 39) (L' := [some (.ref 45), some (.int x1), some (.int x2), some (.int w20.1)]) (st' := [.int w20.1, .int x2, .int x1, .ref 45, .int r4, .ref 48]) (S1 := zS c w20.2) rfl ?_
    obtain ⟨r7, g9, h⟩ := zp_inv h
    refine zq_call1 rfl rfl (zh_45 _) rfl rfl rfl (tX10_costNext g9) rfl ?_
    obtain ⟨g10, h⟩ := zi_cond_inv h
    refine zq_ist rfl zh_48 rfl g10 rfl ?_
    refine zr_many 2 (pc' := 20) (L' := [some (.ref 45), some (.int x1), some (.int x2), some (.int (w20.1 + (1 : Int32)))]) (st' := []) (S1 := zS c (zsi w20.2 48 r4.toNatClampNeg r7)) rfl ?_
    obtain rfl := Option.some.inj h
    exact zr_wk [some (.ref 45), some (.int x1), some (.int x2), some (.int (w20.1 + (1 : Int32)))] ⟨rfl, rfl, rfl, rfl, trivial⟩ (hn ((w20.1 + (1 : Int32)), (zsi w20.2 48 r4.toNatClampNeg r7)) rfl)
def fX10_findCosts_B14 (n : Nat) (x1 : Int32) (w14 : Int32 × zs) : Option ((Int32 × zs) ⊕ (zs)) := if w14.1 < 0 then some (Sum.inr w14.2) else zp (zl (fX10_findCosts_B20 n x1 w14.1) n ((0 : Int32), w14.2)) (fun w11 => some (Sum.inl ((w14.1 + (-1 : Int32)), w11)))
theorem tX10_findCosts_B14 {n : Nat} {c : Nat × Nat} {x1 : Int32} {w14 : Int32 × zs} {o : _} {v : Option Value} {S' : zi_S} (h : fX10_findCosts_B14 n x1 w14 = some o) (hn : ∀ w14, o = Sum.inl w14 → zr kX10_findCosts 0 4 14 [some (.ref 45), some (.int x1), some (.int w14.1), none] [] (zS c w14.2) v S') (hx : ∀ z, o = Sum.inr z → (fun z => zr kX10_findCosts 0 4 55 [some (.ref 45), some (.int x1), none, none] [] (zS c z) v S') z) : zr kX10_findCosts 0 4 14 [some (.ref 45), some (.int x1), some (.int w14.1), none] [] (zS c w14.2) v S' := by
  unfold fX10_findCosts_B14 at h
  refine zr_many 1 (pc' := 15) (L' := [some (.ref 45), some (.int x1), some (.int w14.1), none]) (st' := [.int w14.1]) (S1 := zS c w14.2) rfl ?_
  refine zq_if1 (b := w14.1 < 0) rfl Iff.rfl rfl (fun g2 => ?_) (fun g2 => ?_)
  · rw [if_pos g2] at h
    obtain rfl := Option.some.inj h
    exact zr_wk [some (.ref 45), some (.int x1), none, none] ⟨rfl, rfl, trivial⟩ (hx w14.2 rfl)
  · rw [if_neg g2] at h
    refine zr_many 2 (pc' := 20) (L' := [some (.ref 45), some (.int x1), some (.int w14.1), some (.int (0 : Int32))]) (st' := []) (S1 := zS c w14.2) rfl ?_
    obtain ⟨w11, g12, h⟩ := zp_inv h
    refine zr_wk [some (.ref 45), some (.int x1), some (.int w14.1), some (.int (0 : Int32))] ⟨rfl, rfl, rfl, rfl, trivial⟩ (zl_cert (Z := fun w20 => zr kX10_findCosts 0 4 20 [some (.ref 45), some (.int x1), some (.int w14.1), some (.int w20.1)] [] (zS c w20.2) _ _) (Y := (fun z => zr kX10_findCosts 0 4 49 [some (.ref 45), some (.int x1), some (.int w14.1), none] [] (zS c z) _ _)) (fun w o h1 h2 h3 => tX10_findCosts_B20 h1 h2 h3) n _ _ g12 ?_)
    show zr kX10_findCosts 0 4 49 [some (.ref 45), some (.int x1), some (.int w14.1), none] [] (zS c w11) _ _
    refine zr_many 2 (pc' := 14) (L' := [some (.ref 45), some (.int x1), some (.int (w14.1 + (-1 : Int32))), none]) (st' := []) (S1 := zS c w11) rfl ?_
    obtain rfl := Option.some.inj h
    exact zr_wk [some (.ref 45), some (.int x1), some (.int (w14.1 + (-1 : Int32))), none] ⟨rfl, rfl, rfl, trivial⟩ (hn ((w14.1 + (-1 : Int32)), w11) rfl)
def fX10_findCosts_B5 (n : Nat) (w5 : Int32 × zs) : Option ((Int32 × zs) ⊕ (zs)) := if w5.1 < 0 then some (Sum.inr w5.2) else zp (zl (fX10_findCosts_B14 n w5.1) n ((w5.2.1 45 4), w5.2)) (fun w13 => some (Sum.inl ((w5.1 + (-1 : Int32)), w13)))
theorem tX10_findCosts_B5 {n : Nat} {c : Nat × Nat} {w5 : Int32 × zs} {o : _} {v : Option Value} {S' : zi_S} (h : fX10_findCosts_B5 n w5 = some o) (hn : ∀ w5, o = Sum.inl w5 → zr kX10_findCosts 0 4 5 [some (.ref 45), some (.int w5.1), none, none] [] (zS c w5.2) v S') (hx : ∀ z, o = Sum.inr z → (fun z => zr kX10_findCosts 0 4 61 [none, none, none, none] [] (zS c z) v S') z) : zr kX10_findCosts 0 4 5 [some (.ref 45), some (.int w5.1), none, none] [] (zS c w5.2) v S' := by
  unfold fX10_findCosts_B5 at h
  refine zr_many 1 (pc' := 6) (L' := [some (.ref 45), some (.int w5.1), none, none]) (st' := [.int w5.1]) (S1 := zS c w5.2) rfl ?_
  refine zq_if1 (b := w5.1 < 0) rfl Iff.rfl rfl (fun g1 => ?_) (fun g1 => ?_)
  · rw [if_pos g1] at h
    obtain rfl := Option.some.inj h
    exact zr_wk [none, none, none, none] trivial (hx w5.2 rfl)
  · rw [if_neg g1] at h
    refine zr_many 1 (pc' := 10) (L' := [some (.ref 45), some (.int w5.1), none, none]) (st' := [.ref 45]) (S1 := zS c w5.2) rfl ?_
    refine zq_get rfl (zh_45 _) rfl rfl rfl ?_
    refine zr_many 1 (pc' := 14) (L' := [some (.ref 45), some (.int w5.1), some (.int (w5.2.1 45 4)), none]) (st' := []) (S1 := zS c w5.2) rfl ?_
    obtain ⟨w13, g14, h⟩ := zp_inv h
    refine zr_wk [some (.ref 45), some (.int w5.1), some (.int (w5.2.1 45 4)), none] ⟨rfl, rfl, rfl, trivial⟩ (zl_cert (Z := fun w14 => zr kX10_findCosts 0 4 14 [some (.ref 45), some (.int w5.1), some (.int w14.1), none] [] (zS c w14.2) _ _) (Y := (fun z => zr kX10_findCosts 0 4 55 [some (.ref 45), some (.int w5.1), none, none] [] (zS c z) _ _)) (fun w o h1 h2 h3 => tX10_findCosts_B14 h1 h2 h3) n _ _ g14 ?_)
    show zr kX10_findCosts 0 4 55 [some (.ref 45), some (.int w5.1), none, none] [] (zS c w13) _ _
    refine zr_many 2 (pc' := 5) (L' := [some (.ref 45), some (.int (w5.1 + (-1 : Int32))), none, none]) (st' := []) (S1 := zS c w13) rfl ?_
    obtain rfl := Option.some.inj h
    exact zr_wk [some (.ref 45), some (.int (w5.1 + (-1 : Int32))), none, none] ⟨rfl, rfl, trivial⟩ (hn ((w5.1 + (-1 : Int32)), w13) rfl)
def fX10_findCosts (n : Nat) (s : zs) : Option zs := zp (zl (fX10_findCosts_B5 n) n ((s.1 45 3), s)) (fun w15 => some w15)
theorem tX10_findCosts {n : Nat} {c : Nat × Nat} {s : zs} {s' : zs} (h : fX10_findCosts n s = some s') : zc 5 2004 [.ref 45] (zS c s) none (zS c s') := by
  refine zc_of (k := kX10_findCosts) (rt := 0) (L := [some (.ref 45), none, none, none]) zm_2004.1 rfl rfl (by decide) rfl rfl ?_
  unfold fX10_findCosts at h
  refine zr_many 1 (pc' := 1) (L' := [some (.ref 45), none, none, none]) (st' := [.ref 45]) (S1 := zS c s) rfl ?_
  refine zq_get rfl (zh_45 _) rfl rfl rfl ?_
  refine zr_many 1 (pc' := 5) (L' := [some (.ref 45), some (.int (s.1 45 3)), none, none]) (st' := []) (S1 := zS c s) rfl ?_
  obtain ⟨w15, g16, h⟩ := zp_inv h
  refine zr_wk [some (.ref 45), some (.int (s.1 45 3)), none, none] ⟨rfl, rfl, trivial⟩ (zl_cert (Z := fun w5 => zr kX10_findCosts 0 4 5 [some (.ref 45), some (.int w5.1), none, none] [] (zS c w5.2) _ _) (Y := (fun z => zr kX10_findCosts 0 4 61 [none, none, none, none] [] (zS c z) _ _)) (fun w o h1 h2 h3 => tX10_findCosts_B5 h1 h2 h3) n _ _ g16 ?_)
  show zr kX10_findCosts 0 4 61 [none, none, none, none] [] (zS c w15) _ _
  obtain rfl := Option.some.inj h
  exact zq_vret rfl
def fX10_order_J99 (n : Nat) (s : zs) (x3 : Int32) (x4 : Int32) (x5 : Int32) (x6 : Int32) (x7 : Int32) : Option ((Int32 × Int32 × Int32 × Int32 × zs) ⊕ (zs)) := some (Sum.inl (x4, x5, x6, (x7 + (1 : Int32)), s))
theorem tX10_order_J99 {n : Nat} {c : Nat × Nat} {s : zs} {x3 : Int32} {x4 : Int32} {x5 : Int32} {x6 : Int32} {x7 : Int32} {o : _} {v : Option Value} {S' : zi_S} (h : fX10_order_J99 n s x3 x4 x5 x6 x7 = some o) (hn : ∀ w33, o = Sum.inl w33 → zr kX10_order 1 5 33 [some (.ref 45), none, some (.ref 3), some (.int x3), some (.int w33.1), some (.int w33.2.1), some (.int w33.2.2.1), some (.int w33.2.2.2.1)] [] (zS c w33.2.2.2.2) v S') (hx : ∀ z, o = Sum.inr z → (fun z => zr kX10_order 1 5 105 [none, none, none, some (.int x3), none, none, none, none] [] (zS c z) v S') z) : zr kX10_order 1 5 99 [some (.ref 45), none, some (.ref 3), some (.int x3), some (.int x4), some (.int x5), some (.int x6), some (.int x7)] [] (zS c s) v S' := by
  unfold fX10_order_J99 at h
  refine zr_many 2 (pc' := 33) (L' := [some (.ref 45), none, some (.ref 3), some (.int x3), some (.int x4), some (.int x5), some (.int x6), some (.int (x7 + (1 : Int32)))]) (st' := []) (S1 := zS c s) rfl ?_
  obtain rfl := Option.some.inj h
  exact zr_wk [some (.ref 45), none, some (.ref 3), some (.int x3), some (.int x4), some (.int x5), some (.int x6), some (.int (x7 + (1 : Int32)))] ⟨rfl, rfl, rfl, rfl, rfl, rfl, rfl, trivial⟩ (hn (x4, x5, x6, (x7 + (1 : Int32)), s) rfl)
def fX10_order_B33 (n : Nat) (x3 : Int32) (w33 : Int32 × Int32 × Int32 × Int32 × zs) : Option ((Int32 × Int32 × Int32 × Int32 × zs) ⊕ (zs)) := if ((w33.2.2.2.2.1 45 3) + (w33.2.2.2.2.1 45 4)) ≤ w33.2.2.2.1 then some (Sum.inr w33.2.2.2.2) else zp (fX10_goesUpNext n w33.2.2.2.2 w33.1 w33.2.1 w33.2.2.1) (fun r11 => if r11 = 0 then cond (zi_in w33.2.1 14) (zp (fX5_add n w33.2.2.2.2 ((w33.2.2.2.2.1 47 w33.2.1.toNatClampNeg).toInt64)) (fun s17 => fX10_order_J99 n s17 x3 w33.1 (w33.2.1 + (1 : Int32)) (0 : Int32) w33.2.2.2.1)) none else cond (zi_in w33.1 14) (zp (fX5_add n w33.2.2.2.2 ((w33.2.2.2.2.1 46 w33.1.toNatClampNeg).toInt64)) (fun s21 => fX10_order_J99 n s21 x3 (w33.1 + (1 : Int32)) w33.2.1 (1 : Int32) w33.2.2.2.1)) none)
theorem tX10_order_B33 {n : Nat} {c : Nat × Nat} {x3 : Int32} {w33 : Int32 × Int32 × Int32 × Int32 × zs} {o : _} {v : Option Value} {S' : zi_S} (h : fX10_order_B33 n x3 w33 = some o) (hn : ∀ w33, o = Sum.inl w33 → zr kX10_order 1 5 33 [some (.ref 45), none, some (.ref 3), some (.int x3), some (.int w33.1), some (.int w33.2.1), some (.int w33.2.2.1), some (.int w33.2.2.2.1)] [] (zS c w33.2.2.2.2) v S') (hx : ∀ z, o = Sum.inr z → (fun z => zr kX10_order 1 5 105 [none, none, none, some (.int x3), none, none, none, none] [] (zS c z) v S') z) : zr kX10_order 1 5 33 [some (.ref 45), none, some (.ref 3), some (.int x3), some (.int w33.1), some (.int w33.2.1), some (.int w33.2.2.1), some (.int w33.2.2.2.1)] [] (zS c w33.2.2.2.2) v S' := by
  unfold fX10_order_B33 at h
  refine zr_many 2 (pc' := 36) (L' := [some (.ref 45), none, some (.ref 3), some (.int x3), some (.int w33.1), some (.int w33.2.1), some (.int w33.2.2.1), some (.int w33.2.2.2.1)]) (st' := [.ref 45, .int w33.2.2.2.1]) (S1 := zS c w33.2.2.2.2) rfl ?_
  refine zq_get rfl (zh_45 _) rfl rfl rfl ?_
  refine zr_many 1 (pc' := 40) (L' := [some (.ref 45), none, some (.ref 3), some (.int x3), some (.int w33.1), some (.int w33.2.1), some (.int w33.2.2.1), some (.int w33.2.2.2.1)]) (st' := [.ref 45, .int (w33.2.2.2.2.1 45 3), .int w33.2.2.2.1]) (S1 := zS c w33.2.2.2.2) rfl ?_
  refine zq_get rfl (zh_45 _) rfl rfl rfl ?_
  refine zr_many 1 (pc' := 44) (L' := [some (.ref 45), none, some (.ref 3), some (.int x3), some (.int w33.1), some (.int w33.2.1), some (.int w33.2.2.1), some (.int w33.2.2.2.1)]) (st' := [.int ((w33.2.2.2.2.1 45 3) + (w33.2.2.2.2.1 45 4)), .int w33.2.2.2.1]) (S1 := zS c w33.2.2.2.2) rfl ?_
  refine zq_if2 (b := ((w33.2.2.2.2.1 45 3) + (w33.2.2.2.2.1 45 4)) ≤ w33.2.2.2.1) rfl Iff.rfl rfl (fun g10 => ?_) (fun g10 => ?_)
  · rw [if_pos g10] at h
    obtain rfl := Option.some.inj h
    exact zr_wk [none, none, none, some (.int x3), none, none, none, none] ⟨rfl, trivial⟩ (hx w33.2.2.2.2 rfl)
  · rw [if_neg g10] at h
    refine zr_many 4 (pc' := 54) (L' := [some (.ref 45), none, some (.ref 3), some (.int x3), some (.int w33.1), some (.int w33.2.1), some (.int w33.2.2.1), some (.int w33.2.2.2.1)]) (st' := [.int w33.2.2.1, .int w33.2.1, .int w33.1, .ref 45]) (S1 := zS c w33.2.2.2.2) rfl ?_
    obtain ⟨r11, g13, h⟩ := zp_inv h
    refine zq_call1 rfl rfl (zh_45 _) rfl rfl rfl ((tX10_goesUpNext g13).up (by decide)) rfl ?_
    refine zq_if1 (b := r11 = 0) rfl Iff.rfl rfl (fun g14 => ?_) (fun g14 => ?_)
    · rw [if_pos g14] at h
      refine zr_many 2 (pc' := 83) (L' := [some (.ref 45), none, some (.ref 3), some (.int x3), some (.int w33.1), some (.int w33.2.1), some (.int w33.2.2.1), some (.int w33.2.2.2.1)]) (st' := [.ref 45, .ref 3]) (S1 := zS c w33.2.2.2.2) rfl ?_
      refine zq_get rfl (zh_45 _) rfl rfl rfl ?_
      refine zr_many 1 (pc' := 88) (L' := [some (.ref 45), none, some (.ref 3), some (.int x3), some (.int w33.1), some (.int w33.2.1), some (.int w33.2.2.1), some (.int w33.2.2.2.1)]) (st' := [.int w33.2.1, .ref 47, .ref 3]) (S1 := zS c w33.2.2.2.2) rfl ?_
      obtain ⟨g15, h⟩ := zi_cond_inv h
      refine zq_ild rfl (zh_47 _) rfl g15 rfl ?_
      refine zr_many 1 (pc' := 90) (L' := [some (.ref 45), none, some (.ref 3), some (.int x3), some (.int w33.1), some (.int w33.2.1), some (.int w33.2.2.1), some (.int w33.2.2.2.1)]) (st' := [.long (w33.2.2.2.2.1 47 w33.2.1.toNatClampNeg).toInt64, .ref 3]) (S1 := zS c w33.2.2.2.2) rfl ?_
      obtain ⟨s17, g18, h⟩ := zp_inv h
      refine zq_call0 rfl rfl (zh_3 _) rfl rfl rfl ((tX5_add g18).up (by decide)) rfl ?_
      refine zr_many 3 (pc' := 99) (L' := [some (.ref 45), none, some (.ref 3), some (.int x3), some (.int w33.1), some (.int (w33.2.1 + (1 : Int32))), some (.int (0 : Int32)), some (.int w33.2.2.2.1)]) (st' := []) (S1 := zS c s17) rfl ?_
      exact zr_wk [some (.ref 45), none, some (.ref 3), some (.int x3), some (.int w33.1), some (.int (w33.2.1 + (1 : Int32))), some (.int (0 : Int32)), some (.int w33.2.2.2.1)] ⟨rfl, rfl, rfl, rfl, rfl, rfl, rfl, trivial⟩ (tX10_order_J99 h hn hx)
    · rw [if_neg g14] at h
      refine zr_many 2 (pc' := 62) (L' := [some (.ref 45), none, some (.ref 3), some (.int x3), some (.int w33.1), some (.int w33.2.1), some (.int w33.2.2.1), some (.int w33.2.2.2.1)]) (st' := [.ref 45, .ref 3]) (S1 := zS c w33.2.2.2.2) rfl ?_
      refine zq_get rfl (zh_45 _) rfl rfl rfl ?_
      refine zr_many 1 (pc' := 67) (L' := [some (.ref 45), none, some (.ref 3), some (.int x3), some (.int w33.1), some (.int w33.2.1), some (.int w33.2.2.1), some (.int w33.2.2.2.1)]) (st' := [.int w33.1, .ref 46, .ref 3]) (S1 := zS c w33.2.2.2.2) rfl ?_
      obtain ⟨g19, h⟩ := zi_cond_inv h
      refine zq_ild rfl (zh_46 _) rfl g19 rfl ?_
      refine zr_many 1 (pc' := 69) (L' := [some (.ref 45), none, some (.ref 3), some (.int x3), some (.int w33.1), some (.int w33.2.1), some (.int w33.2.2.1), some (.int w33.2.2.2.1)]) (st' := [.long (w33.2.2.2.2.1 46 w33.1.toNatClampNeg).toInt64, .ref 3]) (S1 := zS c w33.2.2.2.2) rfl ?_
      obtain ⟨s21, g22, h⟩ := zp_inv h
      refine zq_call0 rfl rfl (zh_3 _) rfl rfl rfl ((tX5_add g22).up (by decide)) rfl ?_
      refine zr_many 4 (pc' := 99) (L' := [some (.ref 45), none, some (.ref 3), some (.int x3), some (.int (w33.1 + (1 : Int32))), some (.int w33.2.1), some (.int (1 : Int32)), some (.int w33.2.2.2.1)]) (st' := []) (S1 := zS c s21) rfl ?_
      exact zr_wk [some (.ref 45), none, some (.ref 3), some (.int x3), some (.int (w33.1 + (1 : Int32))), some (.int w33.2.1), some (.int (1 : Int32)), some (.int w33.2.2.2.1)] ⟨rfl, rfl, rfl, rfl, rfl, rfl, rfl, trivial⟩ (tX10_order_J99 h hn hx)
def fX10_order (n : Nat) (s : zs) (x1 : Int32) : Option (Int32 × zs) := zp (fX10_findCosts n s) (fun s2 => zp (fX10_costAfter n s2 (0 : Int32) (0 : Int32) x1) (fun r4 => zp (fX5_tell n s2 ((r4 - r4 / (100 : Int32) * (100 : Int32)).toInt64)) (fun s8 => zp (zl (fX10_order_B33 n r4) n ((0 : Int32), (0 : Int32), x1, (0 : Int32), s8)) (fun w23 => some ((r4 / (100 : Int32)), w23)))))
theorem tX10_order {n : Nat} {c : Nat × Nat} {s : zs} {x1 : Int32} {r : Int32} {s' : zs} (h : fX10_order n s x1 = some (r, s')) : zc 6 2002 [.ref 45, .int x1, .ref 3] (zS c s) (some (.int r)) (zS c s') := by
  refine zc_of (k := kX10_order) (rt := 1) (L := [some (.ref 45), some (.int x1), some (.ref 3), none, none, none, none, none]) zm_2002.1 rfl rfl (by decide) rfl rfl ?_
  unfold fX10_order at h
  refine zr_many 1 (pc' := 1) (L' := [some (.ref 45), some (.int x1), some (.ref 3), none, none, none, none, none]) (st' := [.ref 45]) (S1 := zS c s) rfl ?_
  obtain ⟨s2, g3, h⟩ := zp_inv h
  refine zq_call0 rfl rfl (zh_45 _) rfl rfl rfl (tX10_findCosts g3) rfl ?_
  refine zr_many 4 (pc' := 8) (L' := [some (.ref 45), some (.int x1), some (.ref 3), none, none, none, none, none]) (st' := [.int x1, .int (0 : Int32), .int (0 : Int32), .ref 45]) (S1 := zS c s2) rfl ?_
  obtain ⟨r4, g6, h⟩ := zp_inv h
  refine zq_call1 rfl rfl (zh_45 _) rfl rfl rfl ((tX10_costAfter g6).up (by decide)) rfl ?_
  refine zr_many 4 (pc' := 16) (L' := [some (.ref 45), some (.int x1), some (.ref 3), some (.int r4), none, none, none, none]) (st' := [.int (100 : Int32), .int r4, .ref 3]) (S1 := zS c s2) rfl ?_
  refine zq_irem rfl (by decide) rfl ?_
  refine zr_many 1 (pc' := 18) (L' := [some (.ref 45), some (.int x1), some (.ref 3), some (.int r4), none, none, none, none]) (st' := [.long (r4 - r4 / (100 : Int32) * (100 : Int32)).toInt64, .ref 3]) (S1 := zS c s2) rfl ?_
  obtain ⟨s8, g9, h⟩ := zp_inv h
  refine zq_call0 rfl rfl (zh_3 _) rfl rfl rfl ((tX5_tell g9).up (by decide)) rfl ?_
  refine zr_many 8 (pc' := 33) (L' := [some (.ref 45), some (.int x1), some (.ref 3), some (.int r4), some (.int (0 : Int32)), some (.int (0 : Int32)), some (.int x1), some (.int (0 : Int32))]) (st' := []) (S1 := zS c s8) rfl ?_
  obtain ⟨w23, g24, h⟩ := zp_inv h
  refine zr_wk [some (.ref 45), none, some (.ref 3), some (.int r4), some (.int (0 : Int32)), some (.int (0 : Int32)), some (.int x1), some (.int (0 : Int32))] ⟨rfl, rfl, rfl, rfl, rfl, rfl, rfl, trivial⟩ (zl_cert (Z := fun w33 => zr kX10_order 1 5 33 [some (.ref 45), none, some (.ref 3), some (.int r4), some (.int w33.1), some (.int w33.2.1), some (.int w33.2.2.1), some (.int w33.2.2.2.1)] [] (zS c w33.2.2.2.2) _ _) (Y := (fun z => zr kX10_order 1 5 105 [none, none, none, some (.int r4), none, none, none, none] [] (zS c z) _ _)) (fun w o h1 h2 h3 => tX10_order_B33 h1 h2 h3) n _ _ g24 ?_)
  show zr kX10_order 1 5 105 [none, none, none, some (.int r4), none, none, none, none] [] (zS c w23) _ _
  refine zr_many 2 (pc' := 108) (L' := [none, none, none, some (.int r4), none, none, none, none]) (st' := [.int (100 : Int32), .int r4]) (S1 := zS c w23) rfl ?_
  refine zq_idiv rfl (by decide) rfl ?_
  obtain ⟨rfl, rfl⟩ := Prod.mk.inj (Option.some.inj h)
  exact zq_iret rfl
def fX11_sign_J22 (n : Nat) (s : zs) (y0 : Int32) : Option (Int32 × zs) := some (y0, s)
theorem tX11_sign_J22 {n : Nat} {c : Nat × Nat} {s : zs} {y0 : Int32} {r : Int32} {s' : zs} (h : fX11_sign_J22 n s y0 = some (r, s')) : zr kX11_sign 1 1 22 [none, none] [.int y0] (zS c s) (some (.int r)) (zS c s') := by
  unfold fX11_sign_J22 at h
  obtain ⟨rfl, rfl⟩ := Prod.mk.inj (Option.some.inj h)
  exact zq_iret rfl
def fX11_sign (n : Nat) (s : zs) (x1 : Int32) : Option (Int32 × zs) := zb (fX8_addFour n s x1) (fun r1 s2 => if r1 = 0 then fX11_sign_J22 n s2 (-1 : Int32) else zp (fX8_length n s2) (fun r5 => fX11_sign_J22 n s2 r5))
theorem tX11_sign {n : Nat} {c : Nat × Nat} {s : zs} {x1 : Int32} {r : Int32} {s' : zs} (h : fX11_sign n s x1 = some (r, s')) : zc 2 2201 [.ref 0, .int x1] (zS c s) (some (.int r)) (zS c s') := by
  refine zc_of (k := kX11_sign) (rt := 1) (L := [some (.ref 0), some (.int x1)]) zm_2201.1 rfl rfl (by decide) rfl rfl ?_
  unfold fX11_sign at h
  refine zr_many 1 (pc' := 1) (L' := [some (.ref 0), some (.int x1)]) (st' := [.ref 0]) (S1 := zS c s) rfl ?_
  refine zq_get rfl (zh_0 _) rfl rfl rfl ?_
  refine zr_many 1 (pc' := 5) (L' := [some (.ref 0), some (.int x1)]) (st' := [.int x1, .ref 1]) (S1 := zS c s) rfl ?_
  obtain ⟨r1, s2, g3, h⟩ := zb_inv h
  refine zq_call1 rfl rfl (zh_1 _) rfl rfl rfl (tX8_addFour g3) rfl ?_
  refine zq_if1 (b := r1 = 0) rfl Iff.rfl rfl (fun g4 => ?_) (fun g4 => ?_)
  · rw [if_pos g4] at h
    refine zr_many 1 (pc' := 22) (L' := [some (.ref 0), some (.int x1)]) (st' := [.int (-1 : Int32)]) (S1 := zS c s2) rfl ?_
    exact zr_wk [none, none] trivial (tX11_sign_J22 h)
  · rw [if_neg g4] at h
    refine zr_many 1 (pc' := 12) (L' := [some (.ref 0), some (.int x1)]) (st' := [.ref 0]) (S1 := zS c s2) rfl ?_
    refine zq_get rfl (zh_0 _) rfl rfl rfl ?_
    obtain ⟨r5, g7, h⟩ := zp_inv h
    refine zq_call1 rfl rfl (zh_1 _) rfl rfl rfl (tX8_length g7) rfl ?_
    refine zr_many 1 (pc' := 22) (L' := [some (.ref 0), some (.int x1)]) (st' := [.int r5]) (S1 := zS c s2) rfl ?_
    exact zr_wk [none, none] trivial (tX11_sign_J22 h)
def fX11_end (n : Nat) (s : zs) (x1 : Int32) : Option (Int32 × zs) := zb (fX8_cutTo n s x1) (fun r1 s2 => if r1 = 0 ∨ r1 = 1 then some (r1, s2) else none)
theorem tX11_end {n : Nat} {c : Nat × Nat} {s : zs} {x1 : Int32} {r : Int32} {s' : zs} (h : fX11_end n s x1 = some (r, s')) : zc 2 2202 [.ref 0, .int x1] (zS c s) (some (.int r)) (zS c s') := by
  refine zc_of (k := kX11_end) (rt := 2) (L := [some (.ref 0), some (.int x1)]) zm_2202.1 rfl rfl (by decide) rfl rfl ?_
  unfold fX11_end at h
  refine zr_many 1 (pc' := 1) (L' := [some (.ref 0), some (.int x1)]) (st' := [.ref 0]) (S1 := zS c s) rfl ?_
  refine zq_get rfl (zh_0 _) rfl rfl rfl ?_
  refine zr_many 1 (pc' := 5) (L' := [some (.ref 0), some (.int x1)]) (st' := [.int x1, .ref 1]) (S1 := zS c s) rfl ?_
  obtain ⟨r1, s2, g3, h⟩ := zb_inv h
  refine zq_call1 rfl rfl (zh_1 _) rfl rfl rfl (tX8_cutTo g3) rfl ?_
  obtain ⟨gz, h⟩ := zt_inv h
  obtain ⟨rfl, rfl⟩ := Prod.mk.inj (Option.some.inj h)
  exact zq_zret rfl gz
def fX11_readLines_B21 (n : Nat) (x1 : Int32) (x2 : Int32) (x3 : Int32) (w21 : Int32 × zs) : Option ((Int32 × zs) ⊕ ((zs) ⊕ ((Int32 × zs) ⊕ ((zs) ⊕ (zs))))) := if x3 ≤ w21.1 then some (Sum.inr (Sum.inr (Sum.inr (Sum.inr w21.2)))) else zb (fX0_readLine n w21.2 x1 w21.1 17) (fun r8 s9 => if ¬ r8 = 0 then zp (fX8_over n s9) (fun r12 => if r12 = 0 then zb (fX8_take n s9 (59 : Int32) (59 : Int32)) (fun r16 s17 => if 0 ≤ r16 then some (Sum.inl ((w21.1 + (1 : Int32)), s17)) else some (Sum.inr (Sum.inr (Sum.inr (Sum.inl s17))))) else some (Sum.inr (Sum.inr (Sum.inl (w21.1, s9))))) else some (Sum.inr (Sum.inl s9)))
theorem tX11_readLines_B21 {n : Nat} {c : Nat × Nat} {x1 : Int32} {x2 : Int32} {x3 : Int32} {w21 : Int32 × zs} {o : _} {v : Option Value} {S' : zi_S} (h : fX11_readLines_B21 n x1 x2 x3 w21 = some o) (hn : ∀ w21, o = Sum.inl w21 → zr kX11_readLines 1 5 21 [some (.ref 0), some (.int x1), some (.int x2), some (.int x3), some (.int w21.1)] [] (zS c w21.2) v S') (hx : ∀ z, o = Sum.inr z → (Sum.elim (fun z => zr kX11_readLines 1 5 48 [some (.ref 0), none, none, none, none] [] (zS c z) v S') (Sum.elim (fun z => zr kX11_readLines 1 5 66 [none, none, some (.int x2), none, some (.int z.1)] [] (zS c z.2) v S') (Sum.elim (fun z => zr kX11_readLines 1 5 87 [some (.ref 0), none, none, none, none] [] (zS c z) v S') (fun z => zr kX11_readLines 1 5 101 [some (.ref 0), none, none, none, none] [] (zS c z) v S')))) z) : zr kX11_readLines 1 5 21 [some (.ref 0), some (.int x1), some (.int x2), some (.int x3), some (.int w21.1)] [] (zS c w21.2) v S' := by
  unfold fX11_readLines_B21 at h
  refine zr_many 2 (pc' := 24) (L' := [some (.ref 0), some (.int x1), some (.int x2), some (.int x3), some (.int w21.1)]) (st' := [.int x3, .int w21.1]) (S1 := zS c w21.2) rfl ?_
  refine zq_if2 (b := x3 ≤ w21.1) rfl Iff.rfl rfl (fun g7 => ?_) (fun g7 => ?_)
  · rw [if_pos g7] at h
    obtain rfl := Option.some.inj h
    exact zr_wk [some (.ref 0), none, none, none, none] ⟨rfl, trivial⟩ (hx (Sum.inr (Sum.inr (Sum.inr w21.2))) rfl)
  · rw [if_neg g7] at h
    refine zr_many 1 (pc' := 28) (L' := [some (.ref 0), some (.int x1), some (.int x2), some (.int x3), some (.int w21.1)]) (st' := [.ref 0]) (S1 := zS c w21.2) rfl ?_
    refine zq_get rfl (zh_0 _) rfl rfl rfl ?_
    refine zr_many 3 (pc' := 35) (L' := [some (.ref 0), some (.int x1), some (.int x2), some (.int x3), some (.int w21.1)]) (st' := [.ref 0, .int w21.1, .int x1, .ref 5]) (S1 := zS c w21.2) rfl ?_
    refine zq_get rfl (zh_0 _) rfl rfl rfl ?_
    refine zr_many 1 (pc' := 39) (L' := [some (.ref 0), some (.int x1), some (.int x2), some (.int x3), some (.int w21.1)]) (st' := [.ref 0, .ref 1, .int w21.1, .int x1, .ref 5]) (S1 := zS c w21.2) rfl ?_
    refine zq_get rfl (zh_0 _) rfl rfl rfl ?_
    obtain ⟨r8, s9, g10, h⟩ := zb_inv h
    refine zq_call1 rfl rfl (zh_5 _) rfl rfl rfl (tX0_readLine zM_17 g10) rfl ?_
    refine zq_if1 (b := ¬ r8 = 0) rfl Iff.rfl rfl (fun g11 => ?_) (fun g11 => ?_)
    · rw [if_pos g11] at h
      refine zr_many 1 (pc' := 57) (L' := [some (.ref 0), some (.int x1), some (.int x2), some (.int x3), some (.int w21.1)]) (st' := [.ref 0]) (S1 := zS c s9) rfl ?_
      refine zq_get rfl (zh_0 _) rfl rfl rfl ?_
      obtain ⟨r12, g14, h⟩ := zp_inv h
      refine zq_call1 rfl rfl (zh_1 _) rfl rfl rfl ((tX8_over g14).up (by decide)) rfl ?_
      refine zq_if1 (b := r12 = 0) rfl Iff.rfl rfl (fun g15 => ?_) (fun g15 => ?_)
      · rw [if_pos g15] at h
        refine zr_many 1 (pc' := 74) (L' := [some (.ref 0), some (.int x1), some (.int x2), some (.int x3), some (.int w21.1)]) (st' := [.ref 0]) (S1 := zS c s9) rfl ?_
        refine zq_get rfl (zh_0 _) rfl rfl rfl ?_
        refine zr_many 2 (pc' := 81) (L' := [some (.ref 0), some (.int x1), some (.int x2), some (.int x3), some (.int w21.1)]) (st' := [.int (59 : Int32), .int (59 : Int32), .ref 1]) (S1 := zS c s9) rfl ?_
        obtain ⟨r16, s17, g18, h⟩ := zb_inv h
        refine zq_call1 rfl rfl (zh_1 _) rfl rfl rfl ((tX8_take g18).up (by decide)) rfl ?_
        refine zq_if1 (b := 0 ≤ r16) rfl Iff.rfl rfl (fun g19 => ?_) (fun g19 => ?_)
        · rw [if_pos g19] at h
          refine zr_many 2 (pc' := 21) (L' := [some (.ref 0), some (.int x1), some (.int x2), some (.int x3), some (.int (w21.1 + (1 : Int32)))]) (st' := []) (S1 := zS c s17) rfl ?_
          obtain rfl := Option.some.inj h
          exact zr_wk [some (.ref 0), some (.int x1), some (.int x2), some (.int x3), some (.int (w21.1 + (1 : Int32)))] ⟨rfl, rfl, rfl, rfl, rfl, trivial⟩ (hn ((w21.1 + (1 : Int32)), s17) rfl)
        · rw [if_neg g19] at h
          obtain rfl := Option.some.inj h
          exact zr_wk [some (.ref 0), none, none, none, none] ⟨rfl, trivial⟩ (hx (Sum.inr (Sum.inr (Sum.inl s17))) rfl)
      · rw [if_neg g15] at h
        obtain rfl := Option.some.inj h
        exact zr_wk [none, none, some (.int x2), none, some (.int w21.1)] ⟨rfl, rfl, trivial⟩ (hx (Sum.inr (Sum.inl (w21.1, s9))) rfl)
    · rw [if_neg g11] at h
      obtain rfl := Option.some.inj h
      exact zr_wk [some (.ref 0), none, none, none, none] ⟨rfl, trivial⟩ (hx (Sum.inl s9) rfl)
def fX11_readLines (n : Nat) (s : zs) (x1 : Int32) : Option (Int32 × zs) := zp (fX0_many n s x1) (fun r1 => zp (fX0_room n s x1) (fun r4 => zp (zl (fX11_readLines_B21 n x1 r1 r4) n (r1, s)) (Sum.elim (fun w20 => zp (fX8_fault n w20) (fun r21 => some (r21, w20))) (Sum.elim (fun w24 => some (((w24.1 + (1 : Int32)) - r1), w24.2)) (Sum.elim (fun w25 => zp (fX8_fault n w25) (fun r26 => some (r26, w25))) (fun w29 => zp (fX8_fault n w29) (fun r30 => some (r30, w29))))))))
theorem tX11_readLines {n : Nat} {c : Nat × Nat} {s : zs} {x1 : Int32} {r : Int32} {s' : zs} (h : fX11_readLines n s x1 = some (r, s')) : zc 6 2213 [.ref 0, .int x1] (zS c s) (some (.int r)) (zS c s') := by
  refine zc_of (k := kX11_readLines) (rt := 1) (L := [some (.ref 0), some (.int x1), none, none, none]) zm_2213.1 rfl rfl (by decide) rfl rfl ?_
  unfold fX11_readLines at h
  refine zr_many 1 (pc' := 1) (L' := [some (.ref 0), some (.int x1), none, none, none]) (st' := [.ref 0]) (S1 := zS c s) rfl ?_
  refine zq_get rfl (zh_0 _) rfl rfl rfl ?_
  refine zr_many 1 (pc' := 5) (L' := [some (.ref 0), some (.int x1), none, none, none]) (st' := [.int x1, .ref 5]) (S1 := zS c s) rfl ?_
  obtain ⟨r1, g3, h⟩ := zp_inv h
  refine zq_call1 rfl rfl (zh_5 _) rfl rfl rfl ((tX0_many g3).up (by decide)) rfl ?_
  refine zr_many 2 (pc' := 10) (L' := [some (.ref 0), some (.int x1), some (.int r1), none, none]) (st' := [.ref 0]) (S1 := zS c s) rfl ?_
  refine zq_get rfl (zh_0 _) rfl rfl rfl ?_
  refine zr_many 1 (pc' := 14) (L' := [some (.ref 0), some (.int x1), some (.int r1), none, none]) (st' := [.int x1, .ref 5]) (S1 := zS c s) rfl ?_
  obtain ⟨r4, g6, h⟩ := zp_inv h
  refine zq_call1 rfl rfl (zh_5 _) rfl rfl rfl ((tX0_room g6).up (by decide)) rfl ?_
  refine zr_many 3 (pc' := 21) (L' := [some (.ref 0), some (.int x1), some (.int r1), some (.int r4), some (.int r1)]) (st' := []) (S1 := zS c s) rfl ?_
  obtain ⟨w34, g33, h⟩ := zp_inv h
  rcases w34 with w20 | w24 | w25 | w29
  · simp only [Sum.elim_inl, Sum.elim_inr] at h
    refine zr_wk [some (.ref 0), some (.int x1), some (.int r1), some (.int r4), some (.int r1)] ⟨rfl, rfl, rfl, rfl, rfl, trivial⟩ (zl_cert (Z := fun w21 => zr kX11_readLines 1 5 21 [some (.ref 0), some (.int x1), some (.int r1), some (.int r4), some (.int w21.1)] [] (zS c w21.2) _ _) (Y := (Sum.elim (fun z => zr kX11_readLines 1 5 48 [some (.ref 0), none, none, none, none] [] (zS c z) _ _) (Sum.elim (fun z => zr kX11_readLines 1 5 66 [none, none, some (.int r1), none, some (.int z.1)] [] (zS c z.2) _ _) (Sum.elim (fun z => zr kX11_readLines 1 5 87 [some (.ref 0), none, none, none, none] [] (zS c z) _ _) (fun z => zr kX11_readLines 1 5 101 [some (.ref 0), none, none, none, none] [] (zS c z) _ _))))) (fun w o h1 h2 h3 => tX11_readLines_B21 h1 h2 h3) n _ _ g33 ?_)
    show zr kX11_readLines 1 5 48 [some (.ref 0), none, none, none, none] [] (zS c w20) _ _
    refine zr_many 1 (pc' := 49) (L' := [some (.ref 0), none, none, none, none]) (st' := [.ref 0]) (S1 := zS c w20) rfl ?_
    refine zq_get rfl (zh_0 _) rfl rfl rfl ?_
    obtain ⟨r21, g23, h⟩ := zp_inv h
    refine zq_call1 rfl rfl (zh_1 _) rfl rfl rfl ((tX8_fault g23).up (by decide)) rfl ?_
    obtain ⟨rfl, rfl⟩ := Prod.mk.inj (Option.some.inj h)
    exact zq_iret rfl
  · simp only [Sum.elim_inl, Sum.elim_inr] at h
    refine zr_wk [some (.ref 0), some (.int x1), some (.int r1), some (.int r4), some (.int r1)] ⟨rfl, rfl, rfl, rfl, rfl, trivial⟩ (zl_cert (Z := fun w21 => zr kX11_readLines 1 5 21 [some (.ref 0), some (.int x1), some (.int r1), some (.int r4), some (.int w21.1)] [] (zS c w21.2) _ _) (Y := (Sum.elim (fun z => zr kX11_readLines 1 5 48 [some (.ref 0), none, none, none, none] [] (zS c z) _ _) (Sum.elim (fun z => zr kX11_readLines 1 5 66 [none, none, some (.int r1), none, some (.int z.1)] [] (zS c z.2) _ _) (Sum.elim (fun z => zr kX11_readLines 1 5 87 [some (.ref 0), none, none, none, none] [] (zS c z) _ _) (fun z => zr kX11_readLines 1 5 101 [some (.ref 0), none, none, none, none] [] (zS c z) _ _))))) (fun w o h1 h2 h3 => tX11_readLines_B21 h1 h2 h3) n _ _ g33 ?_)
    show zr kX11_readLines 1 5 66 [none, none, some (.int r1), none, some (.int w24.1)] [] (zS c w24.2) _ _
    refine zr_many 5 (pc' := 72) (L' := [none, none, some (.int r1), none, some (.int w24.1)]) (st' := [.int ((w24.1 + (1 : Int32)) - r1)]) (S1 := zS c w24.2) rfl ?_
    obtain ⟨rfl, rfl⟩ := Prod.mk.inj (Option.some.inj h)
    exact zq_iret rfl
  · simp only [Sum.elim_inl, Sum.elim_inr] at h
    refine zr_wk [some (.ref 0), some (.int x1), some (.int r1), some (.int r4), some (.int r1)] ⟨rfl, rfl, rfl, rfl, rfl, trivial⟩ (zl_cert (Z := fun w21 => zr kX11_readLines 1 5 21 [some (.ref 0), some (.int x1), some (.int r1), some (.int r4), some (.int w21.1)] [] (zS c w21.2) _ _) (Y := (Sum.elim (fun z => zr kX11_readLines 1 5 48 [some (.ref 0), none, none, none, none] [] (zS c z) _ _) (Sum.elim (fun z => zr kX11_readLines 1 5 66 [none, none, some (.int r1), none, some (.int z.1)] [] (zS c z.2) _ _) (Sum.elim (fun z => zr kX11_readLines 1 5 87 [some (.ref 0), none, none, none, none] [] (zS c z) _ _) (fun z => zr kX11_readLines 1 5 101 [some (.ref 0), none, none, none, none] [] (zS c z) _ _))))) (fun w o h1 h2 h3 => tX11_readLines_B21 h1 h2 h3) n _ _ g33 ?_)
    show zr kX11_readLines 1 5 87 [some (.ref 0), none, none, none, none] [] (zS c w25) _ _
    refine zr_many 1 (pc' := 88) (L' := [some (.ref 0), none, none, none, none]) (st' := [.ref 0]) (S1 := zS c w25) rfl ?_
    refine zq_get rfl (zh_0 _) rfl rfl rfl ?_
    obtain ⟨r26, g28, h⟩ := zp_inv h
    refine zq_call1 rfl rfl (zh_1 _) rfl rfl rfl ((tX8_fault g28).up (by decide)) rfl ?_
    obtain ⟨rfl, rfl⟩ := Prod.mk.inj (Option.some.inj h)
    exact zq_iret rfl
  · simp only [Sum.elim_inl, Sum.elim_inr] at h
    refine zr_wk [some (.ref 0), some (.int x1), some (.int r1), some (.int r4), some (.int r1)] ⟨rfl, rfl, rfl, rfl, rfl, trivial⟩ (zl_cert (Z := fun w21 => zr kX11_readLines 1 5 21 [some (.ref 0), some (.int x1), some (.int r1), some (.int r4), some (.int w21.1)] [] (zS c w21.2) _ _) (Y := (Sum.elim (fun z => zr kX11_readLines 1 5 48 [some (.ref 0), none, none, none, none] [] (zS c z) _ _) (Sum.elim (fun z => zr kX11_readLines 1 5 66 [none, none, some (.int r1), none, some (.int z.1)] [] (zS c z.2) _ _) (Sum.elim (fun z => zr kX11_readLines 1 5 87 [some (.ref 0), none, none, none, none] [] (zS c z) _ _) (fun z => zr kX11_readLines 1 5 101 [some (.ref 0), none, none, none, none] [] (zS c z) _ _))))) (fun w o h1 h2 h3 => tX11_readLines_B21 h1 h2 h3) n _ _ g33 ?_)
    show zr kX11_readLines 1 5 101 [some (.ref 0), none, none, none, none] [] (zS c w29) _ _
    refine zr_many 1 (pc' := 102) (L' := [some (.ref 0), none, none, none, none]) (st' := [.ref 0]) (S1 := zS c w29) rfl ?_
    refine zq_get rfl (zh_0 _) rfl rfl rfl ?_
    obtain ⟨r30, g32, h⟩ := zp_inv h
    refine zq_call1 rfl rfl (zh_1 _) rfl rfl rfl ((tX8_fault g32).up (by decide)) rfl ?_
    obtain ⟨rfl, rfl⟩ := Prod.mk.inj (Option.some.inj h)
    exact zq_iret rfl
def fX11_tellOf_J60 (n : Nat) (s : zs) (x3 : Int32) : Option (Int32 × zs) := some (x3, s)
theorem tX11_tellOf_J60 {n : Nat} {c : Nat × Nat} {s : zs} {x3 : Int32} {r : Int32} {s' : zs} (h : fX11_tellOf_J60 n s x3 = some (r, s')) : zr kX11_tellOf 1 6 60 [none, none, none, some (.int x3)] [] (zS c s) (some (.int r)) (zS c s') := by
  unfold fX11_tellOf_J60 at h
  refine zr_many 1 (pc' := 61) (L' := [none, none, none, some (.int x3)]) (st' := [.int x3]) (S1 := zS c s) rfl ?_
  obtain ⟨rfl, rfl⟩ := Prod.mk.inj (Option.some.inj h)
  exact zq_iret rfl
def fX11_tellOf_J27 (n : Nat) (s : zs) (x1 : Int32) (y0 : Int32) : Option (Int32 × zs) := zp (fX8_clear n s) (fun s12 => if y0 ≤ 0 then fX11_tellOf_J60 n s12 y0 else zp (fX0_grow n s12 x1 y0) (fun s16 => zp (fX6_clear n s16) (fun s19 => fX11_tellOf_J60 n (zsi s19 0 14 (0 : Int32)) y0)))
theorem tX11_tellOf_J27 {n : Nat} {c : Nat × Nat} {s : zs} {x1 : Int32} {y0 : Int32} {r : Int32} {s' : zs} (h : fX11_tellOf_J27 n s x1 y0 = some (r, s')) : zr kX11_tellOf 1 6 27 [some (.ref 0), some (.int x1), none, none] [.int y0] (zS c s) (some (.int r)) (zS c s') := by
  unfold fX11_tellOf_J27 at h
  refine zr_many 2 (pc' := 29) (L' := [some (.ref 0), some (.int x1), none, some (.int y0)]) (st' := [.ref 0]) (S1 := zS c s) rfl ?_
  refine zq_get rfl (zh_0 _) rfl rfl rfl ?_
  obtain ⟨s12, g13, h⟩ := zp_inv h
  refine zq_call0 rfl rfl (zh_1 _) rfl rfl rfl ((tX8_clear g13).up (by decide)) rfl ?_
  refine zr_many 1 (pc' := 36) (L' := [some (.ref 0), some (.int x1), none, some (.int y0)]) (st' := [.int y0]) (S1 := zS c s12) rfl ?_
  refine zq_if1 (b := y0 ≤ 0) rfl Iff.rfl rfl (fun g14 => ?_) (fun g14 => ?_)
  · rw [if_pos g14] at h
    exact zr_wk [none, none, none, some (.int y0)] ⟨rfl, trivial⟩ (tX11_tellOf_J60 h)
  · rw [if_neg g14] at h
    refine zr_many 1 (pc' := 40) (L' := [some (.ref 0), some (.int x1), none, some (.int y0)]) (st' := [.ref 0]) (S1 := zS c s12) rfl ?_
    refine zq_get rfl (zh_0 _) rfl rfl rfl ?_
    refine zr_many 2 (pc' := 45) (L' := [some (.ref 0), some (.int x1), none, some (.int y0)]) (st' := [.int y0, .int x1, .ref 5]) (S1 := zS c s12) rfl ?_
    obtain ⟨s16, g17, h⟩ := zp_inv h
    refine zq_call0 rfl rfl (zh_5 _) rfl rfl rfl ((tX0_grow g17).up (by decide)) rfl ?_
    refine zr_many 1 (pc' := 49) (L' := [some (.ref 0), some (.int x1), none, some (.int y0)]) (st' := [.ref 0]) (S1 := zS c s16) rfl ?_
    refine zq_get rfl (zh_0 _) rfl rfl rfl ?_
    obtain ⟨s19, g20, h⟩ := zp_inv h
    refine zq_call0 rfl rfl (zh_49 _) rfl rfl rfl ((tX6_clear g20).up (by decide)) rfl ?_
    refine zr_many 2 (pc' := 57) (L' := [some (.ref 0), some (.int x1), none, some (.int y0)]) (st' := [.int (0 : Int32), .ref 0]) (S1 := zS c s19) rfl ?_
    refine zq_put (s' := (zsi s19 0 14 (0 : Int32))) rfl (zh_0 _) rfl rfl rfl rfl zsi_ne rfl ?_
    exact zr_wk [none, none, none, some (.int y0)] ⟨rfl, trivial⟩ (tX11_tellOf_J60 h)
def fX11_tellOf (n : Nat) (s : zs) (x1 : Int32) (x2 : Int32) : Option (Int32 × zs) := zp (fX8_open n s x2) (fun s2 => zp (fX8_over n s2) (fun r4 => if r4 = 0 then zb (fX11_readLines n s2 x1) (fun r8 s9 => fX11_tellOf_J27 n s9 x1 r8) else fX11_tellOf_J27 n s2 x1 (0 : Int32)))
theorem tX11_tellOf {n : Nat} {c : Nat × Nat} {s : zs} {x1 : Int32} {x2 : Int32} {r : Int32} {s' : zs} (h : fX11_tellOf n s x1 x2 = some (r, s')) : zc 7 2212 [.ref 0, .int x1, .int x2] (zS c s) (some (.int r)) (zS c s') := by
  refine zc_of (k := kX11_tellOf) (rt := 1) (L := [some (.ref 0), some (.int x1), some (.int x2), none]) zm_2212.1 rfl rfl (by decide) rfl rfl ?_
  unfold fX11_tellOf at h
  refine zr_many 1 (pc' := 1) (L' := [some (.ref 0), some (.int x1), some (.int x2), none]) (st' := [.ref 0]) (S1 := zS c s) rfl ?_
  refine zq_get rfl (zh_0 _) rfl rfl rfl ?_
  refine zr_many 1 (pc' := 5) (L' := [some (.ref 0), some (.int x1), some (.int x2), none]) (st' := [.int x2, .ref 1]) (S1 := zS c s) rfl ?_
  obtain ⟨s2, g3, h⟩ := zp_inv h
  refine zq_call0 rfl rfl (zh_1 _) rfl rfl rfl ((tX8_open g3).up (by decide)) rfl ?_
  refine zr_many 1 (pc' := 9) (L' := [some (.ref 0), some (.int x1), some (.int x2), none]) (st' := [.ref 0]) (S1 := zS c s2) rfl ?_
  refine zq_get rfl (zh_0 _) rfl rfl rfl ?_
  obtain ⟨r4, g6, h⟩ := zp_inv h
  refine zq_call1 rfl rfl (zh_1 _) rfl rfl rfl ((tX8_over g6).up (by decide)) rfl ?_
  refine zq_if1 (b := r4 = 0) rfl Iff.rfl rfl (fun g7 => ?_) (fun g7 => ?_)
  · rw [if_pos g7] at h
    refine zr_many 2 (pc' := 24) (L' := [some (.ref 0), some (.int x1), some (.int x2), none]) (st' := [.int x1, .ref 0]) (S1 := zS c s2) rfl ?_
    obtain ⟨r8, s9, g10, h⟩ := zb_inv h
    refine zq_call1 rfl rfl (zh_0 _) rfl rfl rfl (tX11_readLines g10) rfl ?_
    exact zr_wk [some (.ref 0), some (.int x1), none, none] ⟨rfl, rfl, trivial⟩ (tX11_tellOf_J27 h)
  · rw [if_neg g7] at h
    refine zr_many 2 (pc' := 27) (L' := [some (.ref 0), some (.int x1), some (.int x2), none]) (st' := [.int (0 : Int32)]) (S1 := zS c s2) rfl ?_
    exact zr_wk [some (.ref 0), some (.int x1), none, none] ⟨rfl, rfl, trivial⟩ (tX11_tellOf_J27 h)
def fX11_locks (n : Nat) (s : zs) : Option (Int32 × zs) := zb (fX11_tellOf n s (0 : Int32) (47 : Int32)) (fun r1 s2 => some (r1, s2))
theorem tX11_locks {n : Nat} {c : Nat × Nat} {s : zs} {r : Int32} {s' : zs} (h : fX11_locks n s = some (r, s')) : zc 8 2203 [.ref 0] (zS c s) (some (.int r)) (zS c s') := by
  refine zc_of (k := kX11_locks) (rt := 1) (L := [some (.ref 0)]) zm_2203.1 rfl rfl (by decide) rfl rfl ?_
  unfold fX11_locks at h
  refine zr_many 3 (pc' := 4) (L' := [some (.ref 0)]) (st' := [.int (47 : Int32), .int (0 : Int32), .ref 0]) (S1 := zS c s) rfl ?_
  obtain ⟨r1, s2, g3, h⟩ := zb_inv h
  refine zq_call1 rfl rfl (zh_0 _) rfl rfl rfl (tX11_tellOf g3) rfl ?_
  obtain ⟨rfl, rfl⟩ := Prod.mk.inj (Option.some.inj h)
  exact zq_iret rfl
def fX11_singers (n : Nat) (s : zs) : Option (Int32 × zs) := zb (fX11_tellOf n s (1 : Int32) (63 : Int32)) (fun r1 s2 => some (r1, s2))
theorem tX11_singers {n : Nat} {c : Nat × Nat} {s : zs} {r : Int32} {s' : zs} (h : fX11_singers n s = some (r, s')) : zc 8 2204 [.ref 0] (zS c s) (some (.int r)) (zS c s') := by
  refine zc_of (k := kX11_singers) (rt := 1) (L := [some (.ref 0)]) zm_2204.1 rfl rfl (by decide) rfl rfl ?_
  unfold fX11_singers at h
  refine zr_many 3 (pc' := 4) (L' := [some (.ref 0)]) (st' := [.int (63 : Int32), .int (1 : Int32), .ref 0]) (S1 := zS c s) rfl ?_
  obtain ⟨r1, s2, g3, h⟩ := zb_inv h
  refine zq_call1 rfl rfl (zh_0 _) rfl rfl rfl (tX11_tellOf g3) rfl ?_
  obtain ⟨rfl, rfl⟩ := Prod.mk.inj (Option.some.inj h)
  exact zq_iret rfl
def fX11_barges (n : Nat) (s : zs) : Option (Int32 × zs) := zb (fX11_tellOf n s (2 : Int32) (11 : Int32)) (fun r1 s2 => some (r1, s2))
theorem tX11_barges {n : Nat} {c : Nat × Nat} {s : zs} {r : Int32} {s' : zs} (h : fX11_barges n s = some (r, s')) : zc 8 2205 [.ref 0] (zS c s) (some (.int r)) (zS c s') := by
  refine zc_of (k := kX11_barges) (rt := 1) (L := [some (.ref 0)]) zm_2205.1 rfl rfl (by decide) rfl rfl ?_
  unfold fX11_barges at h
  refine zr_many 3 (pc' := 4) (L' := [some (.ref 0)]) (st' := [.int (11 : Int32), .int (2 : Int32), .ref 0]) (S1 := zS c s) rfl ?_
  obtain ⟨r1, s2, g3, h⟩ := zb_inv h
  refine zq_call1 rfl rfl (zh_0 _) rfl rfl rfl (tX11_tellOf g3) rfl ?_
  obtain ⟨rfl, rfl⟩ := Prod.mk.inj (Option.some.inj h)
  exact zq_iret rfl
def fX11_rule (n : Nat) (s : zs) : Option (Int32 × zs) := zb (fX7_read n s) (fun r1 s2 => zp (fX8_clear n s2) (fun s5 => some (r1, s5)))
theorem tX11_rule {n : Nat} {c : Nat × Nat} {s : zs} {r : Int32} {s' : zs} (h : fX11_rule n s = some (r, s')) : zc 36 2206 [.ref 0] (zS c s) (some (.int r)) (zS c s') := by
  refine zc_of (k := kX11_rule) (rt := 1) (L := [some (.ref 0), none]) zm_2206.1 rfl rfl (by decide) rfl rfl ?_
  unfold fX11_rule at h
  refine zr_many 1 (pc' := 1) (L' := [some (.ref 0), none]) (st' := [.ref 0]) (S1 := zS c s) rfl ?_
  refine zq_get rfl (zh_0 _) rfl rfl rfl ?_
  refine zq_get rfl (zh_5 _) rfl rfl rfl ?_
  refine zr_many 1 (pc' := 8) (L' := [some (.ref 0), none]) (st' := [.ref 0, .ref 6]) (S1 := zS c s) rfl ?_
  refine zq_get rfl (zh_0 _) rfl rfl rfl ?_
  obtain ⟨r1, s2, g3, h⟩ := zb_inv h
  refine zq_call1 rfl rfl (zh_6 _) rfl rfl rfl (tX7_read g3) rfl ?_
  refine zr_many 2 (pc' := 16) (L' := [some (.ref 0), some (.int r1)]) (st' := [.ref 0]) (S1 := zS c s2) rfl ?_
  refine zq_get rfl (zh_0 _) rfl rfl rfl ?_
  obtain ⟨s5, g6, h⟩ := zp_inv h
  refine zq_call0 rfl rfl (zh_1 _) rfl rfl rfl ((tX8_clear g6).up (by decide)) rfl ?_
  refine zr_many 1 (pc' := 23) (L' := [some (.ref 0), some (.int r1)]) (st' := [.int r1]) (S1 := zS c s5) rfl ?_
  obtain ⟨rfl, rfl⟩ := Prod.mk.inj (Option.some.inj h)
  exact zq_iret rfl
def fX11_set_J66 (n : Nat) (s : zs) : Option (Int32 × zs) := some ((-1 : Int32), s)
theorem tX11_set_J66 {n : Nat} {c : Nat × Nat} {s : zs} {r : Int32} {s' : zs} (h : fX11_set_J66 n s = some (r, s')) : zr kX11_set 1 0 66 [none, none, none, none] [] (zS c s) (some (.int r)) (zS c s') := by
  unfold fX11_set_J66 at h
  refine zr_many 1 (pc' := 67) (L' := [none, none, none, none]) (st' := [.int (-1 : Int32)]) (S1 := zS c s) rfl ?_
  obtain ⟨rfl, rfl⟩ := Prod.mk.inj (Option.some.inj h)
  exact zq_iret rfl
def fX11_set_J33 (n : Nat) (s : zs) (x1 : Int32) (x2 : Int32) : Option (Int32 × zs) := if ¬ x1 = (1 : Int32) then fX11_set_J66 n s else if x2 < 0 then fX11_set_J66 n s else if (67108864 : Int32) ≤ x2 then fX11_set_J66 n s else some ((s.1 5 10), (zsi s 5 10 x2))
theorem tX11_set_J33 {n : Nat} {c : Nat × Nat} {s : zs} {x1 : Int32} {x2 : Int32} {r : Int32} {s' : zs} (h : fX11_set_J33 n s x1 x2 = some (r, s')) : zr kX11_set 1 0 33 [some (.ref 0), some (.int x1), some (.int x2), none] [] (zS c s) (some (.int r)) (zS c s') := by
  unfold fX11_set_J33 at h
  refine zr_many 2 (pc' := 35) (L' := [some (.ref 0), some (.int x1), some (.int x2), none]) (st' := [.int (1 : Int32), .int x1]) (S1 := zS c s) rfl ?_
  refine zq_if2 (b := ¬ x1 = (1 : Int32)) rfl Iff.rfl rfl (fun g2 => ?_) (fun g2 => ?_)
  · rw [if_pos g2] at h
    exact zr_wk [none, none, none, none] trivial (tX11_set_J66 h)
  · rw [if_neg g2] at h
    refine zr_many 1 (pc' := 39) (L' := [some (.ref 0), some (.int x1), some (.int x2), none]) (st' := [.int x2]) (S1 := zS c s) rfl ?_
    refine zq_if1 (b := x2 < 0) rfl Iff.rfl rfl (fun g3 => ?_) (fun g3 => ?_)
    · rw [if_pos g3] at h
      exact zr_wk [none, none, none, none] trivial (tX11_set_J66 h)
    · rw [if_neg g3] at h
      refine zr_many 2 (pc' := 45) (L' := [some (.ref 0), some (.int x1), some (.int x2), none]) (st' := [.int (67108864 : Int32), .int x2]) (S1 := zS c s) rfl ?_
      refine zq_if2 (b := (67108864 : Int32) ≤ x2) rfl Iff.rfl rfl (fun g4 => ?_) (fun g4 => ?_)
      · rw [if_pos g4] at h
        exact zr_wk [none, none, none, none] trivial (tX11_set_J66 h)
      · rw [if_neg g4] at h
        refine zr_many 1 (pc' := 49) (L' := [some (.ref 0), some (.int x1), some (.int x2), none]) (st' := [.ref 0]) (S1 := zS c s) rfl ?_
        refine zq_get rfl (zh_0 _) rfl rfl rfl ?_
        refine zq_get rfl (zh_5 _) rfl rfl rfl ?_
        refine zr_many 2 (pc' := 57) (L' := [some (.ref 0), some (.int x1), some (.int x2), some (.int (s.1 5 10))]) (st' := [.ref 0]) (S1 := zS c s) rfl ?_
        refine zq_get rfl (zh_0 _) rfl rfl rfl ?_
        refine zr_many 1 (pc' := 61) (L' := [some (.ref 0), some (.int x1), some (.int x2), some (.int (s.1 5 10))]) (st' := [.int x2, .ref 5]) (S1 := zS c s) rfl ?_
        refine zq_put (s' := (zsi s 5 10 x2)) rfl (zh_5 _) rfl rfl rfl rfl zsi_ne rfl ?_
        refine zr_many 1 (pc' := 65) (L' := [some (.ref 0), some (.int x1), some (.int x2), some (.int (s.1 5 10))]) (st' := [.int (s.1 5 10)]) (S1 := zS c (zsi s 5 10 x2)) rfl ?_
        obtain ⟨rfl, rfl⟩ := Prod.mk.inj (Option.some.inj h)
        exact zq_iret rfl
def fX11_set (n : Nat) (s : zs) (x1 : Int32) (x2 : Int32) : Option (Int32 × zs) := if ¬ x1 = 0 then fX11_set_J33 n s x1 x2 else if x2 < 0 then fX11_set_J33 n s x1 x2 else if (999 : Int32) < x2 then fX11_set_J33 n s x1 x2 else some ((s.1 17 1), (zsi s 17 1 x2))
theorem tX11_set {n : Nat} {c : Nat × Nat} {s : zs} {x1 : Int32} {x2 : Int32} {r : Int32} {s' : zs} (h : fX11_set n s x1 x2 = some (r, s')) : zc 1 2210 [.ref 0, .int x1, .int x2] (zS c s) (some (.int r)) (zS c s') := by
  refine zc_of (k := kX11_set) (rt := 1) (L := [some (.ref 0), some (.int x1), some (.int x2), none]) zm_2210.1 rfl rfl (by decide) rfl rfl ?_
  unfold fX11_set at h
  refine zr_many 1 (pc' := 1) (L' := [some (.ref 0), some (.int x1), some (.int x2), none]) (st' := [.int x1]) (S1 := zS c s) rfl ?_
  refine zq_if1 (b := ¬ x1 = 0) rfl Iff.rfl rfl (fun g1 => ?_) (fun g1 => ?_)
  · rw [if_pos g1] at h
    exact zr_wk [some (.ref 0), some (.int x1), some (.int x2), none] ⟨rfl, rfl, rfl, trivial⟩ (tX11_set_J33 h)
  · rw [if_neg g1] at h
    refine zr_many 1 (pc' := 5) (L' := [some (.ref 0), some (.int x1), some (.int x2), none]) (st' := [.int x2]) (S1 := zS c s) rfl ?_
    refine zq_if1 (b := x2 < 0) rfl Iff.rfl rfl (fun g5 => ?_) (fun g5 => ?_)
    · rw [if_pos g5] at h
      exact zr_wk [some (.ref 0), some (.int x1), some (.int x2), none] ⟨rfl, rfl, rfl, trivial⟩ (tX11_set_J33 h)
    · rw [if_neg g5] at h
      refine zr_many 2 (pc' := 12) (L' := [some (.ref 0), some (.int x1), some (.int x2), none]) (st' := [.int (999 : Int32), .int x2]) (S1 := zS c s) rfl ?_
      refine zq_if2 (b := (999 : Int32) < x2) rfl Iff.rfl rfl (fun g6 => ?_) (fun g6 => ?_)
      · rw [if_pos g6] at h
        exact zr_wk [some (.ref 0), some (.int x1), some (.int x2), none] ⟨rfl, rfl, rfl, trivial⟩ (tX11_set_J33 h)
      · rw [if_neg g6] at h
        refine zr_many 1 (pc' := 16) (L' := [some (.ref 0), some (.int x1), some (.int x2), none]) (st' := [.ref 0]) (S1 := zS c s) rfl ?_
        refine zq_get rfl (zh_0 _) rfl rfl rfl ?_
        refine zq_get rfl (zh_17 _) rfl rfl rfl ?_
        refine zr_many 2 (pc' := 24) (L' := [some (.ref 0), some (.int x1), some (.int x2), some (.int (s.1 17 1))]) (st' := [.ref 0]) (S1 := zS c s) rfl ?_
        refine zq_get rfl (zh_0 _) rfl rfl rfl ?_
        refine zr_many 1 (pc' := 28) (L' := [some (.ref 0), some (.int x1), some (.int x2), some (.int (s.1 17 1))]) (st' := [.int x2, .ref 17]) (S1 := zS c s) rfl ?_
        refine zq_put (s' := (zsi s 17 1 x2)) rfl (zh_17 _) rfl rfl rfl rfl zsi_ne rfl ?_
        refine zr_many 1 (pc' := 32) (L' := [some (.ref 0), some (.int x1), some (.int x2), some (.int (s.1 17 1))]) (st' := [.int (s.1 17 1)]) (S1 := zS c (zsi s 17 1 x2)) rfl ?_
        obtain ⟨rfl, rfl⟩ := Prod.mk.inj (Option.some.inj h)
        exact zq_iret rfl
def fX11_sheet_J15 (n : Nat) (s : zs) : Option (Int32 × zs) := some ((-1 : Int32), s)
theorem tX11_sheet_J15 {n : Nat} {c : Nat × Nat} {s : zs} {r : Int32} {s' : zs} (h : fX11_sheet_J15 n s = some (r, s')) : zr kX11_sheet 1 2 15 [none, none, none, none, none] [] (zS c s) (some (.int r)) (zS c s') := by
  unfold fX11_sheet_J15 at h
  refine zr_many 1 (pc' := 16) (L' := [none, none, none, none, none]) (st' := [.int (-1 : Int32)]) (S1 := zS c s) rfl ?_
  obtain ⟨rfl, rfl⟩ := Prod.mk.inj (Option.some.inj h)
  exact zq_iret rfl
def fX11_sheet_J58 (n : Nat) (s : zs) (y0 : Int32) : Option (Int32 × zs) := some (y0, s)
theorem tX11_sheet_J58 {n : Nat} {c : Nat × Nat} {s : zs} {y0 : Int32} {r : Int32} {s' : zs} (h : fX11_sheet_J58 n s y0 = some (r, s')) : zr kX11_sheet 1 2 58 [none, none, none, none, none] [.int y0] (zS c s) (some (.int r)) (zS c s') := by
  unfold fX11_sheet_J58 at h
  obtain ⟨rfl, rfl⟩ := Prod.mk.inj (Option.some.inj h)
  exact zq_iret rfl
def fX11_sheet (n : Nat) (s : zs) (x1 : Int32) (x2 : Int32) (x3 : Int32) (x4 : Int32) : Option (Int32 × zs) := if x1 < 0 then fX11_sheet_J15 n s else if (3 : Int32) < x1 then fX11_sheet_J15 n s else if x2 ≤ (8 : Int32) then if ¬ x1 = (3 : Int32) then if 0 ≤ x2 then zb (fX0_takeFees n s x1 x2 x3 x4) (fun r6 s7 => fX11_sheet_J58 n s7 r6) else fX11_sheet_J58 n s (-2 : Int32) else zb (fX0_takeFees n s x1 (0 : Int32) (0 : Int32) (0 : Int32)) (fun r9 s10 => some ((-3 : Int32), s10)) else fX11_sheet_J15 n s
theorem tX11_sheet {n : Nat} {c : Nat × Nat} {s : zs} {x1 : Int32} {x2 : Int32} {x3 : Int32} {x4 : Int32} {r : Int32} {s' : zs} (h : fX11_sheet n s x1 x2 x3 x4 = some (r, s')) : zc 3 2211 [.ref 0, .int x1, .int x2, .int x3, .int x4] (zS c s) (some (.int r)) (zS c s') := by
  refine zc_of (k := kX11_sheet) (rt := 1) (L := [some (.ref 0), some (.int x1), some (.int x2), some (.int x3), some (.int x4)]) zm_2211.1 rfl rfl (by decide) rfl rfl ?_
  unfold fX11_sheet at h
  refine zr_many 1 (pc' := 1) (L' := [some (.ref 0), some (.int x1), some (.int x2), some (.int x3), some (.int x4)]) (st' := [.int x1]) (S1 := zS c s) rfl ?_
  refine zq_if1 (b := x1 < 0) rfl Iff.rfl rfl (fun g1 => ?_) (fun g1 => ?_)
  · rw [if_pos g1] at h
    exact zr_wk [none, none, none, none, none] trivial (tX11_sheet_J15 h)
  · rw [if_neg g1] at h
    refine zr_many 2 (pc' := 6) (L' := [some (.ref 0), some (.int x1), some (.int x2), some (.int x3), some (.int x4)]) (st' := [.int (3 : Int32), .int x1]) (S1 := zS c s) rfl ?_
    refine zq_if2 (b := (3 : Int32) < x1) rfl Iff.rfl rfl (fun g2 => ?_) (fun g2 => ?_)
    · rw [if_pos g2] at h
      exact zr_wk [none, none, none, none, none] trivial (tX11_sheet_J15 h)
    · rw [if_neg g2] at h
      refine zr_many 2 (pc' := 12) (L' := [some (.ref 0), some (.int x1), some (.int x2), some (.int x3), some (.int x4)]) (st' := [.int (8 : Int32), .int x2]) (S1 := zS c s) rfl ?_
      refine zq_if2 (b := x2 ≤ (8 : Int32)) rfl Iff.rfl rfl (fun g3 => ?_) (fun g3 => ?_)
      · rw [if_pos g3] at h
        refine zr_many 2 (pc' := 19) (L' := [some (.ref 0), some (.int x1), some (.int x2), some (.int x3), some (.int x4)]) (st' := [.int (3 : Int32), .int x1]) (S1 := zS c s) rfl ?_
        refine zq_if2 (b := ¬ x1 = (3 : Int32)) rfl Iff.rfl rfl (fun g4 => ?_) (fun g4 => ?_)
        · rw [if_pos g4] at h
          refine zr_many 1 (pc' := 38) (L' := [some (.ref 0), some (.int x1), some (.int x2), some (.int x3), some (.int x4)]) (st' := [.int x2]) (S1 := zS c s) rfl ?_
          refine zq_if1 (b := 0 ≤ x2) rfl Iff.rfl rfl (fun g5 => ?_) (fun g5 => ?_)
          · rw [if_pos g5] at h
            refine zr_many 1 (pc' := 47) (L' := [some (.ref 0), some (.int x1), some (.int x2), some (.int x3), some (.int x4)]) (st' := [.ref 0]) (S1 := zS c s) rfl ?_
            refine zq_get rfl (zh_0 _) rfl rfl rfl ?_
            refine zr_many 4 (pc' := 55) (L' := [some (.ref 0), some (.int x1), some (.int x2), some (.int x3), some (.int x4)]) (st' := [.int x4, .int x3, .int x2, .int x1, .ref 5]) (S1 := zS c s) rfl ?_
            obtain ⟨r6, s7, g8, h⟩ := zb_inv h
            refine zq_call1 rfl rfl (zh_5 _) rfl rfl rfl (tX0_takeFees g8) rfl ?_
            exact zr_wk [none, none, none, none, none] trivial (tX11_sheet_J58 h)
          · rw [if_neg g5] at h
            refine zr_many 2 (pc' := 58) (L' := [some (.ref 0), some (.int x1), some (.int x2), some (.int x3), some (.int x4)]) (st' := [.int (-2 : Int32)]) (S1 := zS c s) rfl ?_
            exact zr_wk [none, none, none, none, none] trivial (tX11_sheet_J58 h)
        · rw [if_neg g4] at h
          refine zr_many 1 (pc' := 23) (L' := [some (.ref 0), some (.int x1), some (.int x2), some (.int x3), some (.int x4)]) (st' := [.ref 0]) (S1 := zS c s) rfl ?_
          refine zq_get rfl (zh_0 _) rfl rfl rfl ?_
          refine zr_many 4 (pc' := 30) (L' := [some (.ref 0), some (.int x1), some (.int x2), some (.int x3), some (.int x4)]) (st' := [.int (0 : Int32), .int (0 : Int32), .int (0 : Int32), .int x1, .ref 5]) (S1 := zS c s) rfl ?_
          obtain ⟨r9, s10, g11, h⟩ := zb_inv h
          refine zq_call1 rfl rfl (zh_5 _) rfl rfl rfl (tX0_takeFees g11) rfl ?_
          refine zr_many 2 (pc' := 36) (L' := [some (.ref 0), some (.int x1), some (.int x2), some (.int x3), some (.int x4)]) (st' := [.int (-3 : Int32)]) (S1 := zS c s10) rfl ?_
          obtain ⟨rfl, rfl⟩ := Prod.mk.inj (Option.some.inj h)
          exact zq_iret rfl
      · rw [if_neg g3] at h
        exact zr_wk [none, none, none, none, none] trivial (tX11_sheet_J15 h)
def fX11_remember_J15 (n : Nat) (s : zs) (x1 : Int32) : Option (Int32 × zs) := some (x1, s)
theorem tX11_remember_J15 {n : Nat} {c : Nat × Nat} {s : zs} {x1 : Int32} {r : Int32} {s' : zs} (h : fX11_remember_J15 n s x1 = some (r, s')) : zr kX11_remember 1 2 15 [none, some (.int x1)] [] (zS c s) (some (.int r)) (zS c s') := by
  unfold fX11_remember_J15 at h
  refine zr_many 1 (pc' := 16) (L' := [none, some (.int x1)]) (st' := [.int x1]) (S1 := zS c s) rfl ?_
  obtain ⟨rfl, rfl⟩ := Prod.mk.inj (Option.some.inj h)
  exact zq_iret rfl
def fX11_remember (n : Nat) (s : zs) (x1 : Int32) : Option (Int32 × zs) := if x1 < 0 then fX11_remember_J15 n s x1 else zp (fX6_add n s 23) (fun s3 => fX11_remember_J15 n s3 x1)
theorem tX11_remember {n : Nat} {c : Nat × Nat} {s : zs} {x1 : Int32} {r : Int32} {s' : zs} (h : fX11_remember n s x1 = some (r, s')) : zc 3 2220 [.ref 0, .int x1] (zS c s) (some (.int r)) (zS c s') := by
  refine zc_of (k := kX11_remember) (rt := 1) (L := [some (.ref 0), some (.int x1)]) zm_2220.1 rfl rfl (by decide) rfl rfl ?_
  unfold fX11_remember at h
  refine zr_many 1 (pc' := 1) (L' := [some (.ref 0), some (.int x1)]) (st' := [.int x1]) (S1 := zS c s) rfl ?_
  refine zq_if1 (b := x1 < 0) rfl Iff.rfl rfl (fun g1 => ?_) (fun g1 => ?_)
  · rw [if_pos g1] at h
    exact zr_wk [none, some (.int x1)] ⟨rfl, trivial⟩ (tX11_remember_J15 h)
  · rw [if_neg g1] at h
    refine zr_many 1 (pc' := 5) (L' := [some (.ref 0), some (.int x1)]) (st' := [.ref 0]) (S1 := zS c s) rfl ?_
    refine zq_get rfl (zh_0 _) rfl rfl rfl ?_
    refine zr_many 1 (pc' := 9) (L' := [some (.ref 0), some (.int x1)]) (st' := [.ref 0, .ref 49]) (S1 := zS c s) rfl ?_
    refine zq_get rfl (zh_0 _) rfl rfl rfl ?_
    obtain ⟨s3, g4, h⟩ := zp_inv h
    refine zq_call0 rfl rfl (zh_49 _) rfl rfl rfl (tX6_add zM_23 g4) rfl ?_
    exact zr_wk [none, some (.int x1)] ⟨rfl, trivial⟩ (tX11_remember_J15 h)
def fX11_takeOn_J22 (n : Nat) (s : zs) : Option (Int32 × zs) := some ((-1 : Int32), s)
theorem tX11_takeOn_J22 {n : Nat} {c : Nat × Nat} {s : zs} {r : Int32} {s' : zs} (h : fX11_takeOn_J22 n s = some (r, s')) : zr kX11_takeOn 1 1 22 [none, none, none] [] (zS c s) (some (.int r)) (zS c s') := by
  unfold fX11_takeOn_J22 at h
  refine zr_many 1 (pc' := 23) (L' := [none, none, none]) (st' := [.int (-1 : Int32)]) (S1 := zS c s) rfl ?_
  obtain ⟨rfl, rfl⟩ := Prod.mk.inj (Option.some.inj h)
  exact zq_iret rfl
def fX11_takeOn_J58 (n : Nat) (s : zs) : Option (Int32 × zs) := some ((-2 : Int32), s)
theorem tX11_takeOn_J58 {n : Nat} {c : Nat × Nat} {s : zs} {r : Int32} {s' : zs} (h : fX11_takeOn_J58 n s = some (r, s')) : zr kX11_takeOn 1 1 58 [none, none, none] [] (zS c s) (some (.int r)) (zS c s') := by
  unfold fX11_takeOn_J58 at h
  refine zr_many 1 (pc' := 60) (L' := [none, none, none]) (st' := [.int (-2 : Int32)]) (S1 := zS c s) rfl ?_
  obtain ⟨rfl, rfl⟩ := Prod.mk.inj (Option.some.inj h)
  exact zq_iret rfl
def fX11_takeOn (n : Nat) (s : zs) (x1 : Int32) (x2 : Int32) : Option (Int32 × zs) := zp (fX0_hasBarge n s x1) (fun r1 => if r1 = 0 then fX11_takeOn_J22 n s else zp (fX0_hasSinger n s x2) (fun r5 => if ¬ r5 = 0 then cond (zi_in x2 8) (if ¬ (s.1 19 x2.toNatClampNeg) = (-1 : Int32) then fX11_takeOn_J58 n s else cond (zi_in x2 8) (cond (zi_in x1 4) (if (s.1 18 x2.toNatClampNeg) = (s.1 21 x1.toNatClampNeg) then cond (zi_in x1 4) (cond (zi_in x2 8) (if (s.1 15 x2.toNatClampNeg) ≤ (s.1 22 x1.toNatClampNeg) then cond (zi_in x2 8) (cond (zi_in x1 4) (cond (zi_in x2 8) (zt (zsi s 19 x2.toNatClampNeg x1) (fun s19 => cond (zi_in x1 4) (cond (zi_in x1 4) (some (((zsi s19 22 x1.toNatClampNeg ((s19.1 22 x1.toNatClampNeg) - (s19.1 15 x2.toNatClampNeg))).1 22 x1.toNatClampNeg), (zsi s19 22 x1.toNatClampNeg ((s19.1 22 x1.toNatClampNeg) - (s19.1 15 x2.toNatClampNeg))))) none) none)) none) none) none else some ((-3 : Int32), s)) none) none else fX11_takeOn_J58 n s) none) none) none else fX11_takeOn_J22 n s))
theorem tX11_takeOn {n : Nat} {c : Nat × Nat} {s : zs} {x1 : Int32} {x2 : Int32} {r : Int32} {s' : zs} (h : fX11_takeOn n s x1 x2 = some (r, s')) : zc 2 2221 [.ref 0, .int x1, .int x2] (zS c s) (some (.int r)) (zS c s') := by
  refine zc_of (k := kX11_takeOn) (rt := 1) (L := [some (.ref 0), some (.int x1), some (.int x2)]) zm_2221.1 rfl rfl (by decide) rfl rfl ?_
  unfold fX11_takeOn at h
  refine zr_many 1 (pc' := 1) (L' := [some (.ref 0), some (.int x1), some (.int x2)]) (st' := [.ref 0]) (S1 := zS c s) rfl ?_
  refine zq_get rfl (zh_0 _) rfl rfl rfl ?_
  refine zr_many 1 (pc' := 5) (L' := [some (.ref 0), some (.int x1), some (.int x2)]) (st' := [.int x1, .ref 5]) (S1 := zS c s) rfl ?_
  obtain ⟨r1, g3, h⟩ := zp_inv h
  refine zq_call1 rfl rfl (zh_5 _) rfl rfl rfl (tX0_hasBarge g3) rfl ?_
  refine zq_if1 (b := r1 = 0) rfl Iff.rfl rfl (fun g4 => ?_) (fun g4 => ?_)
  · rw [if_pos g4] at h
    exact zr_wk [none, none, none] trivial (tX11_takeOn_J22 h)
  · rw [if_neg g4] at h
    refine zr_many 1 (pc' := 12) (L' := [some (.ref 0), some (.int x1), some (.int x2)]) (st' := [.ref 0]) (S1 := zS c s) rfl ?_
    refine zq_get rfl (zh_0 _) rfl rfl rfl ?_
    refine zr_many 1 (pc' := 16) (L' := [some (.ref 0), some (.int x1), some (.int x2)]) (st' := [.int x2, .ref 5]) (S1 := zS c s) rfl ?_
    obtain ⟨r5, g7, h⟩ := zp_inv h
    refine zq_call1 rfl rfl (zh_5 _) rfl rfl rfl (tX0_hasSinger g7) rfl ?_
    refine zq_if1 (b := ¬ r5 = 0) rfl Iff.rfl rfl (fun g8 => ?_) (fun g8 => ?_)
    · rw [if_pos g8] at h
      refine zr_many 1 (pc' := 25) (L' := [some (.ref 0), some (.int x1), some (.int x2)]) (st' := [.ref 0]) (S1 := zS c s) rfl ?_
      refine zq_get rfl (zh_0 _) rfl rfl rfl ?_
      refine zq_get rfl (zh_17 _) rfl rfl rfl ?_
      refine zr_many 1 (pc' := 32) (L' := [some (.ref 0), some (.int x1), some (.int x2)]) (st' := [.int x2, .ref 19]) (S1 := zS c s) rfl ?_
      obtain ⟨g9, h⟩ := zi_cond_inv h
      refine zq_ild rfl (zh_19 _) rfl g9 rfl ?_
      refine zr_many 1 (pc' := 34) (L' := [some (.ref 0), some (.int x1), some (.int x2)]) (st' := [.int (-1 : Int32), .int (s.1 19 x2.toNatClampNeg)]) (S1 := zS c s) rfl ?_
      refine zq_if2 (b := ¬ (s.1 19 x2.toNatClampNeg) = (-1 : Int32)) rfl Iff.rfl rfl (fun g10 => ?_) (fun g10 => ?_)
      · rw [if_pos g10] at h
        exact zr_wk [none, none, none] trivial (tX11_takeOn_J58 h)
      · rw [if_neg g10] at h
        refine zr_many 1 (pc' := 38) (L' := [some (.ref 0), some (.int x1), some (.int x2)]) (st' := [.ref 0]) (S1 := zS c s) rfl ?_
        refine zq_get rfl (zh_0 _) rfl rfl rfl ?_
        refine zq_get rfl (zh_17 _) rfl rfl rfl ?_
        refine zr_many 1 (pc' := 45) (L' := [some (.ref 0), some (.int x1), some (.int x2)]) (st' := [.int x2, .ref 18]) (S1 := zS c s) rfl ?_
        obtain ⟨g11, h⟩ := zi_cond_inv h
        refine zq_ild rfl (zh_18 _) rfl g11 rfl ?_
        refine zr_many 1 (pc' := 47) (L' := [some (.ref 0), some (.int x1), some (.int x2)]) (st' := [.ref 0, .int (s.1 18 x2.toNatClampNeg)]) (S1 := zS c s) rfl ?_
        refine zq_get rfl (zh_0 _) rfl rfl rfl ?_
        refine zq_get rfl (zh_17 _) rfl rfl rfl ?_
        refine zr_many 1 (pc' := 54) (L' := [some (.ref 0), some (.int x1), some (.int x2)]) (st' := [.int x1, .ref 21, .int (s.1 18 x2.toNatClampNeg)]) (S1 := zS c s) rfl ?_
        obtain ⟨g12, h⟩ := zi_cond_inv h
        refine zq_ild rfl (zh_21 _) rfl g12 rfl ?_
        refine zq_if2 (b := (s.1 18 x2.toNatClampNeg) = (s.1 21 x1.toNatClampNeg)) rfl Iff.rfl rfl (fun g13 => ?_) (fun g13 => ?_)
        · rw [if_pos g13] at h
          refine zr_many 1 (pc' := 62) (L' := [some (.ref 0), some (.int x1), some (.int x2)]) (st' := [.ref 0]) (S1 := zS c s) rfl ?_
          refine zq_get rfl (zh_0 _) rfl rfl rfl ?_
          refine zq_get rfl (zh_17 _) rfl rfl rfl ?_
          refine zr_many 1 (pc' := 69) (L' := [some (.ref 0), some (.int x1), some (.int x2)]) (st' := [.int x1, .ref 22]) (S1 := zS c s) rfl ?_
          obtain ⟨g14, h⟩ := zi_cond_inv h
          refine zq_ild rfl (zh_22 _) rfl g14 rfl ?_
          refine zr_many 1 (pc' := 71) (L' := [some (.ref 0), some (.int x1), some (.int x2)]) (st' := [.ref 0, .int (s.1 22 x1.toNatClampNeg)]) (S1 := zS c s) rfl ?_
          refine zq_get rfl (zh_0 _) rfl rfl rfl ?_
          refine zq_get rfl (zh_5 _) rfl rfl rfl ?_
          refine zr_many 1 (pc' := 78) (L' := [some (.ref 0), some (.int x1), some (.int x2)]) (st' := [.int x2, .ref 15, .int (s.1 22 x1.toNatClampNeg)]) (S1 := zS c s) rfl ?_
          obtain ⟨g15, h⟩ := zi_cond_inv h
          refine zq_ild rfl (zh_15 _) rfl g15 rfl ?_
          refine zq_if2 (b := (s.1 15 x2.toNatClampNeg) ≤ (s.1 22 x1.toNatClampNeg)) rfl Iff.rfl rfl (fun g16 => ?_) (fun g16 => ?_)
          · rw [if_pos g16] at h
            refine zr_many 1 (pc' := 86) (L' := [some (.ref 0), some (.int x1), some (.int x2)]) (st' := [.ref 0]) (S1 := zS c s) rfl ?_
            refine zq_get rfl (zh_0 _) rfl rfl rfl ?_
            refine zq_get rfl (zh_17 _) rfl rfl rfl ?_
            refine zr_many 2 (pc' := 94) (L' := [some (.ref 0), some (.int x1), some (.int x2)]) (st' := [.int x1, .int x2, .ref 19]) (S1 := zS c s) rfl ?_
            obtain ⟨g22, h⟩ := zi_cond_inv h
            refine zq_ist rfl zh_19 rfl g22 rfl ?_
            refine zr_many 1 (pc' := 96) (L' := [some (.ref 0), some (.int x1), some (.int x2)]) (st' := [.ref 0]) (S1 := zS c (zsi s 19 x2.toNatClampNeg x1)) rfl ?_
            refine zq_get rfl (zh_0 _) rfl rfl rfl ?_
            refine zq_get rfl (zh_17 _) rfl rfl rfl ?_
            refine zr_many 2 (pc' := 104) (L' := [some (.ref 0), some (.int x1), some (.int x2)]) (st' := [.int x1, .ref 22, .int x1, .ref 22]) (S1 := zS c (zsi s 19 x2.toNatClampNeg x1)) rfl ?_
            obtain ⟨g17, h⟩ := zi_cond_inv h
            refine zq_ild rfl (zh_22 _) rfl g17 rfl ?_
            refine zr_many 1 (pc' := 106) (L' := [some (.ref 0), some (.int x1), some (.int x2)]) (st' := [.ref 0, .int ((zsi s 19 x2.toNatClampNeg x1).1 22 x1.toNatClampNeg), .int x1, .ref 22]) (S1 := zS c (zsi s 19 x2.toNatClampNeg x1)) rfl ?_
            refine zq_get rfl (zh_0 _) rfl rfl rfl ?_
            refine zq_get rfl (zh_5 _) rfl rfl rfl ?_
            refine zr_many 1 (pc' := 113) (L' := [some (.ref 0), some (.int x1), some (.int x2)]) (st' := [.int x2, .ref 15, .int ((zsi s 19 x2.toNatClampNeg x1).1 22 x1.toNatClampNeg), .int x1, .ref 22]) (S1 := zS c (zsi s 19 x2.toNatClampNeg x1)) rfl ?_
            obtain ⟨g18, h⟩ := zi_cond_inv h
            refine zq_ild rfl (zh_15 _) rfl g18 rfl ?_
            refine zr_many 1 (pc' := 115) (L' := [some (.ref 0), some (.int x1), some (.int x2)]) (st' := [.int (((zsi s 19 x2.toNatClampNeg x1).1 22 x1.toNatClampNeg) - ((zsi s 19 x2.toNatClampNeg x1).1 15 x2.toNatClampNeg)), .int x1, .ref 22]) (S1 := zS c (zsi s 19 x2.toNatClampNeg x1)) rfl ?_
            obtain ⟨s19, e20, h⟩ := zt_in h
            rw [← e20]
            obtain ⟨g23, h⟩ := zi_cond_inv h
            refine zq_ist rfl zh_22 rfl g23 rfl ?_
            refine zr_many 1 (pc' := 117) (L' := [some (.ref 0), some (.int x1), some (.int x2)]) (st' := [.ref 0]) (S1 := zS c (zsi s19 22 x1.toNatClampNeg ((s19.1 22 x1.toNatClampNeg) - (s19.1 15 x2.toNatClampNeg)))) rfl ?_
            refine zq_get rfl (zh_0 _) rfl rfl rfl ?_
            refine zq_get rfl (zh_17 _) rfl rfl rfl ?_
            refine zr_many 1 (pc' := 124) (L' := [some (.ref 0), some (.int x1), some (.int x2)]) (st' := [.int x1, .ref 22]) (S1 := zS c (zsi s19 22 x1.toNatClampNeg ((s19.1 22 x1.toNatClampNeg) - (s19.1 15 x2.toNatClampNeg)))) rfl ?_
            obtain ⟨g21, h⟩ := zi_cond_inv h
            refine zq_ild rfl (zh_22 _) rfl g21 rfl ?_
            obtain ⟨rfl, rfl⟩ := Prod.mk.inj (Option.some.inj h)
            exact zq_iret rfl
          · rw [if_neg g16] at h
            refine zr_many 1 (pc' := 84) (L' := [some (.ref 0), some (.int x1), some (.int x2)]) (st' := [.int (-3 : Int32)]) (S1 := zS c s) rfl ?_
            obtain ⟨rfl, rfl⟩ := Prod.mk.inj (Option.some.inj h)
            exact zq_iret rfl
        · rw [if_neg g13] at h
          exact zr_wk [none, none, none] trivial (tX11_takeOn_J58 h)
    · rw [if_neg g8] at h
      exact zr_wk [none, none, none] trivial (tX11_takeOn_J22 h)
def fX11_hire (n : Nat) (s : zs) (x1 : Int32) (x2 : Int32) : Option (Int32 × zs) := zp (fX3_copy n s 23 17) (fun s2 => zb (fX11_takeOn n s2 x1 x2) (fun r4 s5 => zb (fX11_remember n s5 r4) (fun r7 s8 => some (r7, s8))))
theorem tX11_hire {n : Nat} {c : Nat × Nat} {s : zs} {x1 : Int32} {x2 : Int32} {r : Int32} {s' : zs} (h : fX11_hire n s x1 x2 = some (r, s')) : zc 4 2214 [.ref 0, .int x1, .int x2] (zS c s) (some (.int r)) (zS c s') := by
  refine zc_of (k := kX11_hire) (rt := 1) (L := [some (.ref 0), some (.int x1), some (.int x2)]) zm_2214.1 rfl rfl (by decide) rfl rfl ?_
  unfold fX11_hire at h
  refine zr_many 1 (pc' := 1) (L' := [some (.ref 0), some (.int x1), some (.int x2)]) (st' := [.ref 0]) (S1 := zS c s) rfl ?_
  refine zq_get rfl (zh_0 _) rfl rfl rfl ?_
  refine zr_many 1 (pc' := 5) (L' := [some (.ref 0), some (.int x1), some (.int x2)]) (st' := [.ref 0, .ref 23]) (S1 := zS c s) rfl ?_
  refine zq_get rfl (zh_0 _) rfl rfl rfl ?_
  obtain ⟨s2, g3, h⟩ := zp_inv h
  refine zq_call0 rfl rfl (zh_23 _) rfl rfl rfl ((tX3_copy zM_23 zM_17 g3).up (by decide)) rfl ?_
  refine zr_many 4 (pc' := 15) (L' := [some (.ref 0), some (.int x1), some (.int x2)]) (st' := [.int x2, .int x1, .ref 0, .ref 0]) (S1 := zS c s2) rfl ?_
  obtain ⟨r4, s5, g6, h⟩ := zb_inv h
  refine zq_call1 rfl rfl (zh_0 _) rfl rfl rfl ((tX11_takeOn g6).up (by decide)) rfl ?_
  obtain ⟨r7, s8, g9, h⟩ := zb_inv h
  refine zq_call1 rfl rfl (zh_0 _) rfl rfl rfl (tX11_remember g9) rfl ?_
  obtain ⟨rfl, rfl⟩ := Prod.mk.inj (Option.some.inj h)
  exact zq_iret rfl
def fX11_letGo (n : Nat) (s : zs) (x1 : Int32) : Option (Int32 × zs) := zp (fX0_hasSinger n s x1) (fun r1 => if ¬ r1 = 0 then cond (zi_in x1 8) (if ¬ (s.1 19 x1.toNatClampNeg) = (-1 : Int32) then zp (fX3_whereIs n s 17 x1) (fun r7 => cond (zi_in x1 8) (zt (zsi s 18 x1.toNatClampNeg r7) (fun s10 => cond (zi_in x1 8) (some ((s.1 19 x1.toNatClampNeg), (zsi s10 19 x1.toNatClampNeg (-1 : Int32)))) none)) none) else some ((-2 : Int32), s)) none else some ((-1 : Int32), s))
theorem tX11_letGo {n : Nat} {c : Nat × Nat} {s : zs} {x1 : Int32} {r : Int32} {s' : zs} (h : fX11_letGo n s x1 = some (r, s')) : zc 2 2222 [.ref 0, .int x1] (zS c s) (some (.int r)) (zS c s') := by
  refine zc_of (k := kX11_letGo) (rt := 1) (L := [some (.ref 0), some (.int x1), none]) zm_2222.1 rfl rfl (by decide) rfl rfl ?_
  unfold fX11_letGo at h
  refine zr_many 1 (pc' := 1) (L' := [some (.ref 0), some (.int x1), none]) (st' := [.ref 0]) (S1 := zS c s) rfl ?_
  refine zq_get rfl (zh_0 _) rfl rfl rfl ?_
  refine zr_many 1 (pc' := 5) (L' := [some (.ref 0), some (.int x1), none]) (st' := [.int x1, .ref 5]) (S1 := zS c s) rfl ?_
  obtain ⟨r1, g3, h⟩ := zp_inv h
  refine zq_call1 rfl rfl (zh_5 _) rfl rfl rfl (tX0_hasSinger g3) rfl ?_
  refine zq_if1 (b := ¬ r1 = 0) rfl Iff.rfl rfl (fun g4 => ?_) (fun g4 => ?_)
  · rw [if_pos g4] at h
    refine zr_many 1 (pc' := 14) (L' := [some (.ref 0), some (.int x1), none]) (st' := [.ref 0]) (S1 := zS c s) rfl ?_
    refine zq_get rfl (zh_0 _) rfl rfl rfl ?_
    refine zq_get rfl (zh_17 _) rfl rfl rfl ?_
    refine zr_many 1 (pc' := 21) (L' := [some (.ref 0), some (.int x1), none]) (st' := [.int x1, .ref 19]) (S1 := zS c s) rfl ?_
    obtain ⟨g5, h⟩ := zi_cond_inv h
    refine zq_ild rfl (zh_19 _) rfl g5 rfl ?_
    refine zr_many 3 (pc' := 25) (L' := [some (.ref 0), some (.int x1), some (.int (s.1 19 x1.toNatClampNeg))]) (st' := [.int (-1 : Int32), .int (s.1 19 x1.toNatClampNeg)]) (S1 := zS c s) rfl ?_
    refine zq_if2 (b := ¬ (s.1 19 x1.toNatClampNeg) = (-1 : Int32)) rfl Iff.rfl rfl (fun g6 => ?_) (fun g6 => ?_)
    · rw [if_pos g6] at h
      refine zr_many 1 (pc' := 32) (L' := [some (.ref 0), some (.int x1), some (.int (s.1 19 x1.toNatClampNeg))]) (st' := [.ref 0]) (S1 := zS c s) rfl ?_
      refine zq_get rfl (zh_0 _) rfl rfl rfl ?_
      refine zq_get rfl (zh_17 _) rfl rfl rfl ?_
      refine zr_many 2 (pc' := 40) (L' := [some (.ref 0), some (.int x1), some (.int (s.1 19 x1.toNatClampNeg))]) (st' := [.ref 0, .int x1, .ref 18]) (S1 := zS c s) rfl ?_
      refine zq_get rfl (zh_0 _) rfl rfl rfl ?_
      refine zr_many 1 (pc' := 44) (L' := [some (.ref 0), some (.int x1), some (.int (s.1 19 x1.toNatClampNeg))]) (st' := [.int x1, .ref 17, .int x1, .ref 18]) (S1 := zS c s) rfl ?_
      obtain ⟨r7, g9, h⟩ := zp_inv h
      refine zq_call1 rfl rfl (zh_17 _) rfl rfl rfl (tX3_whereIs zM_17 g9) rfl ?_
      obtain ⟨g12, h⟩ := zi_cond_inv h
      refine zq_ist rfl zh_18 rfl g12 rfl ?_
      refine zr_many 1 (pc' := 49) (L' := [some (.ref 0), some (.int x1), some (.int (s.1 19 x1.toNatClampNeg))]) (st' := [.ref 0]) (S1 := zS c (zsi s 18 x1.toNatClampNeg r7)) rfl ?_
      refine zq_get rfl (zh_0 _) rfl rfl rfl ?_
      refine zq_get rfl (zh_17 _) rfl rfl rfl ?_
      refine zr_many 2 (pc' := 57) (L' := [some (.ref 0), some (.int x1), some (.int (s.1 19 x1.toNatClampNeg))]) (st' := [.int (-1 : Int32), .int x1, .ref 19]) (S1 := zS c (zsi s 18 x1.toNatClampNeg r7)) rfl ?_
      obtain ⟨s10, e11, h⟩ := zt_in h
      rw [← e11]
      obtain ⟨g13, h⟩ := zi_cond_inv h
      refine zq_ist rfl zh_19 rfl g13 rfl ?_
      refine zr_many 1 (pc' := 59) (L' := [some (.ref 0), some (.int x1), some (.int (s.1 19 x1.toNatClampNeg))]) (st' := [.int (s.1 19 x1.toNatClampNeg)]) (S1 := zS c (zsi s10 19 x1.toNatClampNeg (-1 : Int32))) rfl ?_
      obtain ⟨rfl, rfl⟩ := Prod.mk.inj (Option.some.inj h)
      exact zq_iret rfl
    · rw [if_neg g6] at h
      refine zr_many 1 (pc' := 30) (L' := [some (.ref 0), some (.int x1), some (.int (s.1 19 x1.toNatClampNeg))]) (st' := [.int (-2 : Int32)]) (S1 := zS c s) rfl ?_
      obtain ⟨rfl, rfl⟩ := Prod.mk.inj (Option.some.inj h)
      exact zq_iret rfl
  · rw [if_neg g4] at h
    refine zr_many 1 (pc' := 12) (L' := [some (.ref 0), some (.int x1), none]) (st' := [.int (-1 : Int32)]) (S1 := zS c s) rfl ?_
    obtain ⟨rfl, rfl⟩ := Prod.mk.inj (Option.some.inj h)
    exact zq_iret rfl
def fX11_leave (n : Nat) (s : zs) (x1 : Int32) : Option (Int32 × zs) := zp (fX3_copy n s 23 17) (fun s2 => zb (fX11_letGo n s2 x1) (fun r4 s5 => zb (fX11_remember n s5 r4) (fun r7 s8 => some (r7, s8))))
theorem tX11_leave {n : Nat} {c : Nat × Nat} {s : zs} {x1 : Int32} {r : Int32} {s' : zs} (h : fX11_leave n s x1 = some (r, s')) : zc 4 2215 [.ref 0, .int x1] (zS c s) (some (.int r)) (zS c s') := by
  refine zc_of (k := kX11_leave) (rt := 1) (L := [some (.ref 0), some (.int x1)]) zm_2215.1 rfl rfl (by decide) rfl rfl ?_
  unfold fX11_leave at h
  refine zr_many 1 (pc' := 1) (L' := [some (.ref 0), some (.int x1)]) (st' := [.ref 0]) (S1 := zS c s) rfl ?_
  refine zq_get rfl (zh_0 _) rfl rfl rfl ?_
  refine zr_many 1 (pc' := 5) (L' := [some (.ref 0), some (.int x1)]) (st' := [.ref 0, .ref 23]) (S1 := zS c s) rfl ?_
  refine zq_get rfl (zh_0 _) rfl rfl rfl ?_
  obtain ⟨s2, g3, h⟩ := zp_inv h
  refine zq_call0 rfl rfl (zh_23 _) rfl rfl rfl ((tX3_copy zM_23 zM_17 g3).up (by decide)) rfl ?_
  refine zr_many 3 (pc' := 14) (L' := [some (.ref 0), some (.int x1)]) (st' := [.int x1, .ref 0, .ref 0]) (S1 := zS c s2) rfl ?_
  obtain ⟨r4, s5, g6, h⟩ := zb_inv h
  refine zq_call1 rfl rfl (zh_0 _) rfl rfl rfl ((tX11_letGo g6).up (by decide)) rfl ?_
  obtain ⟨r7, s8, g9, h⟩ := zb_inv h
  refine zq_call1 rfl rfl (zh_0 _) rfl rfl rfl (tX11_remember g9) rfl ?_
  obtain ⟨rfl, rfl⟩ := Prod.mk.inj (Option.some.inj h)
  exact zq_iret rfl
def fX11_tellSong_B9 (n : Nat) (w9 : Int32 × zs) : Option ((Int32 × zs) ⊕ (zs)) := if (4 : Int32) ≤ w9.1 then some (Sum.inr w9.2) else cond (zi_in w9.1 4) (zp (fX5_add n w9.2 ((w9.2.1 37 w9.1.toNatClampNeg).toInt64)) (fun s7 => some (Sum.inl ((w9.1 + (1 : Int32)), s7)))) none
theorem tX11_tellSong_B9 {n : Nat} {c : Nat × Nat} {w9 : Int32 × zs} {o : _} {v : Option Value} {S' : zi_S} (h : fX11_tellSong_B9 n w9 = some o) (hn : ∀ w9, o = Sum.inl w9 → zr kX11_tellSong 0 1 9 [some (.ref 0), some (.int w9.1)] [] (zS c w9.2) v S') (hx : ∀ z, o = Sum.inr z → (fun z => zr kX11_tellSong 0 1 37 [none, none] [] (zS c z) v S') z) : zr kX11_tellSong 0 1 9 [some (.ref 0), some (.int w9.1)] [] (zS c w9.2) v S' := by
  unfold fX11_tellSong_B9 at h
  refine zr_many 2 (pc' := 11) (L' := [some (.ref 0), some (.int w9.1)]) (st' := [.int (4 : Int32), .int w9.1]) (S1 := zS c w9.2) rfl ?_
  refine zq_if2 (b := (4 : Int32) ≤ w9.1) rfl Iff.rfl rfl (fun g4 => ?_) (fun g4 => ?_)
  · rw [if_pos g4] at h
    obtain rfl := Option.some.inj h
    exact zr_wk [none, none] trivial (hx w9.2 rfl)
  · rw [if_neg g4] at h
    refine zr_many 1 (pc' := 15) (L' := [some (.ref 0), some (.int w9.1)]) (st' := [.ref 0]) (S1 := zS c w9.2) rfl ?_
    refine zq_get rfl (zh_0 _) rfl rfl rfl ?_
    refine zr_many 1 (pc' := 19) (L' := [some (.ref 0), some (.int w9.1)]) (st' := [.ref 0, .ref 3]) (S1 := zS c w9.2) rfl ?_
    refine zq_get rfl (zh_0 _) rfl rfl rfl ?_
    refine zq_get rfl (zh_35 _) rfl rfl rfl ?_
    refine zr_many 1 (pc' := 26) (L' := [some (.ref 0), some (.int w9.1)]) (st' := [.int w9.1, .ref 37, .ref 3]) (S1 := zS c w9.2) rfl ?_
    obtain ⟨g5, h⟩ := zi_cond_inv h
    refine zq_ild rfl (zh_37 _) rfl g5 rfl ?_
    refine zr_many 1 (pc' := 28) (L' := [some (.ref 0), some (.int w9.1)]) (st' := [.long (w9.2.1 37 w9.1.toNatClampNeg).toInt64, .ref 3]) (S1 := zS c w9.2) rfl ?_
    obtain ⟨s7, g8, h⟩ := zp_inv h
    refine zq_call0 rfl rfl (zh_3 _) rfl rfl rfl (tX5_add g8) rfl ?_
    refine zr_many 2 (pc' := 9) (L' := [some (.ref 0), some (.int (w9.1 + (1 : Int32)))]) (st' := []) (S1 := zS c s7) rfl ?_
    obtain rfl := Option.some.inj h
    exact zr_wk [some (.ref 0), some (.int (w9.1 + (1 : Int32)))] ⟨rfl, rfl, trivial⟩ (hn ((w9.1 + (1 : Int32)), s7) rfl)
def fX11_tellSong (n : Nat) (s : zs) : Option zs := zp (fX5_clear n s) (fun s2 => zp (zl (fX11_tellSong_B9 n) n ((0 : Int32), s2)) (fun w9 => some w9))
theorem tX11_tellSong {n : Nat} {c : Nat × Nat} {s : zs} {s' : zs} (h : fX11_tellSong n s = some s') : zc 2 2234 [.ref 0] (zS c s) none (zS c s') := by
  refine zc_of (k := kX11_tellSong) (rt := 0) (L := [some (.ref 0), none]) zm_2234.1 rfl rfl (by decide) rfl rfl ?_
  unfold fX11_tellSong at h
  refine zr_many 1 (pc' := 1) (L' := [some (.ref 0), none]) (st' := [.ref 0]) (S1 := zS c s) rfl ?_
  refine zq_get rfl (zh_0 _) rfl rfl rfl ?_
  obtain ⟨s2, g3, h⟩ := zp_inv h
  refine zq_call0 rfl rfl (zh_3 _) rfl rfl rfl (tX5_clear g3) rfl ?_
  refine zr_many 2 (pc' := 9) (L' := [some (.ref 0), some (.int (0 : Int32))]) (st' := []) (S1 := zS c s2) rfl ?_
  obtain ⟨w9, g10, h⟩ := zp_inv h
  refine zr_wk [some (.ref 0), some (.int (0 : Int32))] ⟨rfl, rfl, trivial⟩ (zl_cert (Z := fun w9 => zr kX11_tellSong 0 1 9 [some (.ref 0), some (.int w9.1)] [] (zS c w9.2) _ _) (Y := (fun z => zr kX11_tellSong 0 1 37 [none, none] [] (zS c z) _ _)) (fun w o h1 h2 h3 => tX11_tellSong_B9 h1 h2 h3) n _ _ g10 ?_)
  show zr kX11_tellSong 0 1 37 [none, none] [] (zS c w9) _ _
  obtain rfl := Option.some.inj h
  exact zq_vret rfl
def fX11_pass_J33 (n : Nat) (s : zs) (x3 : Int32) : Option (Int32 × zs) := zb (fX11_remember n s x3) (fun r8 s9 => some (r8, s9))
theorem tX11_pass_J33 {n : Nat} {c : Nat × Nat} {s : zs} {x3 : Int32} {r : Int32} {s' : zs} (h : fX11_pass_J33 n s x3 = some (r, s')) : zr kX11_pass 1 8 33 [some (.ref 0), none, none, some (.int x3)] [] (zS c s) (some (.int r)) (zS c s') := by
  unfold fX11_pass_J33 at h
  refine zr_many 2 (pc' := 35) (L' := [some (.ref 0), none, none, some (.int x3)]) (st' := [.int x3, .ref 0]) (S1 := zS c s) rfl ?_
  obtain ⟨r8, s9, g10, h⟩ := zb_inv h
  refine zq_call1 rfl rfl (zh_0 _) rfl rfl rfl ((tX11_remember g10).up (by decide)) rfl ?_
  obtain ⟨rfl, rfl⟩ := Prod.mk.inj (Option.some.inj h)
  exact zq_iret rfl
def fX11_pass (n : Nat) (s : zs) (x1 : Int32) (x2 : Int32) : Option (Int32 × zs) := zp (fX3_copy n s 23 17) (fun s2 => zb (fX9_go n s2 17 x1 x2) (fun r4 s5 => if r4 < 0 then fX11_pass_J33 n s5 r4 else zp (fX11_tellSong n s5) (fun s12 => fX11_pass_J33 n s12 r4)))
theorem tX11_pass {n : Nat} {c : Nat × Nat} {s : zs} {x1 : Int32} {x2 : Int32} {r : Int32} {s' : zs} (h : fX11_pass n s x1 x2 = some (r, s')) : zc 9 2216 [.ref 0, .int x1, .int x2] (zS c s) (some (.int r)) (zS c s') := by
  refine zc_of (k := kX11_pass) (rt := 1) (L := [some (.ref 0), some (.int x1), some (.int x2), none]) zm_2216.1 rfl rfl (by decide) rfl rfl ?_
  unfold fX11_pass at h
  refine zr_many 1 (pc' := 1) (L' := [some (.ref 0), some (.int x1), some (.int x2), none]) (st' := [.ref 0]) (S1 := zS c s) rfl ?_
  refine zq_get rfl (zh_0 _) rfl rfl rfl ?_
  refine zr_many 1 (pc' := 5) (L' := [some (.ref 0), some (.int x1), some (.int x2), none]) (st' := [.ref 0, .ref 23]) (S1 := zS c s) rfl ?_
  refine zq_get rfl (zh_0 _) rfl rfl rfl ?_
  obtain ⟨s2, g3, h⟩ := zp_inv h
  refine zq_call0 rfl rfl (zh_23 _) rfl rfl rfl ((tX3_copy zM_23 zM_17 g3).up (by decide)) rfl ?_
  refine zr_many 1 (pc' := 12) (L' := [some (.ref 0), some (.int x1), some (.int x2), none]) (st' := [.ref 0]) (S1 := zS c s2) rfl ?_
  refine zq_get rfl (zh_0 _) rfl rfl rfl ?_
  refine zr_many 1 (pc' := 16) (L' := [some (.ref 0), some (.int x1), some (.int x2), none]) (st' := [.ref 0, .ref 38]) (S1 := zS c s2) rfl ?_
  refine zq_get rfl (zh_0 _) rfl rfl rfl ?_
  refine zr_many 2 (pc' := 21) (L' := [some (.ref 0), some (.int x1), some (.int x2), none]) (st' := [.int x2, .int x1, .ref 17, .ref 38]) (S1 := zS c s2) rfl ?_
  obtain ⟨r4, s5, g6, h⟩ := zb_inv h
  refine zq_call1 rfl rfl (zh_38 _) rfl rfl rfl (tX9_go zM_17 g6) rfl ?_
  refine zr_many 2 (pc' := 26) (L' := [some (.ref 0), some (.int x1), some (.int x2), some (.int r4)]) (st' := [.int r4]) (S1 := zS c s5) rfl ?_
  refine zq_if1 (b := r4 < 0) rfl Iff.rfl rfl (fun g7 => ?_) (fun g7 => ?_)
  · rw [if_pos g7] at h
    exact zr_wk [some (.ref 0), none, none, some (.int r4)] ⟨rfl, rfl, trivial⟩ (tX11_pass_J33 h)
  · rw [if_neg g7] at h
    refine zr_many 1 (pc' := 30) (L' := [some (.ref 0), some (.int x1), some (.int x2), some (.int r4)]) (st' := [.ref 0]) (S1 := zS c s5) rfl ?_
    obtain ⟨s12, g13, h⟩ := zp_inv h
    refine zq_call0 rfl rfl (zh_0 _) rfl rfl rfl ((tX11_tellSong g13).up (by decide)) rfl ?_
    exact zr_wk [some (.ref 0), none, none, some (.int r4)] ⟨rfl, rfl, trivial⟩ (tX11_pass_J33 h)
def fX11_takeRest_J11 (n : Nat) (s : zs) : Option (Int32 × zs) := some ((-1 : Int32), s)
theorem tX11_takeRest_J11 {n : Nat} {c : Nat × Nat} {s : zs} {r : Int32} {s' : zs} (h : fX11_takeRest_J11 n s = some (r, s')) : zr kX11_takeRest 1 1 11 [none, none] [] (zS c s) (some (.int r)) (zS c s') := by
  unfold fX11_takeRest_J11 at h
  refine zr_many 1 (pc' := 12) (L' := [none, none]) (st' := [.int (-1 : Int32)]) (S1 := zS c s) rfl ?_
  obtain ⟨rfl, rfl⟩ := Prod.mk.inj (Option.some.inj h)
  exact zq_iret rfl
def fX11_takeRest (n : Nat) (s : zs) (x1 : Int32) : Option (Int32 × zs) := if x1 < 0 then fX11_takeRest_J11 n s else if x1 ≤ (600 : Int32) then zp (fX3_letGoBy n s 17 x1) (fun s4 => some ((s4.1 17 2), s4)) else fX11_takeRest_J11 n s
theorem tX11_takeRest {n : Nat} {c : Nat × Nat} {s : zs} {x1 : Int32} {r : Int32} {s' : zs} (h : fX11_takeRest n s x1 = some (r, s')) : zc 2 2223 [.ref 0, .int x1] (zS c s) (some (.int r)) (zS c s') := by
  refine zc_of (k := kX11_takeRest) (rt := 1) (L := [some (.ref 0), some (.int x1)]) zm_2223.1 rfl rfl (by decide) rfl rfl ?_
  unfold fX11_takeRest at h
  refine zr_many 1 (pc' := 1) (L' := [some (.ref 0), some (.int x1)]) (st' := [.int x1]) (S1 := zS c s) rfl ?_
  refine zq_if1 (b := x1 < 0) rfl Iff.rfl rfl (fun g1 => ?_) (fun g1 => ?_)
  · rw [if_pos g1] at h
    exact zr_wk [none, none] trivial (tX11_takeRest_J11 h)
  · rw [if_neg g1] at h
    refine zr_many 2 (pc' := 8) (L' := [some (.ref 0), some (.int x1)]) (st' := [.int (600 : Int32), .int x1]) (S1 := zS c s) rfl ?_
    refine zq_if2 (b := x1 ≤ (600 : Int32)) rfl Iff.rfl rfl (fun g2 => ?_) (fun g2 => ?_)
    · rw [if_pos g2] at h
      refine zr_many 1 (pc' := 14) (L' := [some (.ref 0), some (.int x1)]) (st' := [.ref 0]) (S1 := zS c s) rfl ?_
      refine zq_get rfl (zh_0 _) rfl rfl rfl ?_
      refine zr_many 1 (pc' := 18) (L' := [some (.ref 0), some (.int x1)]) (st' := [.int x1, .ref 17]) (S1 := zS c s) rfl ?_
      obtain ⟨s4, g5, h⟩ := zp_inv h
      refine zq_call0 rfl rfl (zh_17 _) rfl rfl rfl (tX3_letGoBy zM_17 g5) rfl ?_
      refine zr_many 1 (pc' := 22) (L' := [some (.ref 0), some (.int x1)]) (st' := [.ref 0]) (S1 := zS c s4) rfl ?_
      refine zq_get rfl (zh_0 _) rfl rfl rfl ?_
      refine zq_get rfl (zh_17 _) rfl rfl rfl ?_
      obtain ⟨rfl, rfl⟩ := Prod.mk.inj (Option.some.inj h)
      exact zq_iret rfl
    · rw [if_neg g2] at h
      exact zr_wk [none, none] trivial (tX11_takeRest_J11 h)
def fX11_rest (n : Nat) (s : zs) (x1 : Int32) : Option (Int32 × zs) := zp (fX3_copy n s 23 17) (fun s2 => zb (fX11_takeRest n s2 x1) (fun r4 s5 => zb (fX11_remember n s5 r4) (fun r7 s8 => some (r7, s8))))
theorem tX11_rest {n : Nat} {c : Nat × Nat} {s : zs} {x1 : Int32} {r : Int32} {s' : zs} (h : fX11_rest n s x1 = some (r, s')) : zc 4 2217 [.ref 0, .int x1] (zS c s) (some (.int r)) (zS c s') := by
  refine zc_of (k := kX11_rest) (rt := 1) (L := [some (.ref 0), some (.int x1)]) zm_2217.1 rfl rfl (by decide) rfl rfl ?_
  unfold fX11_rest at h
  refine zr_many 1 (pc' := 1) (L' := [some (.ref 0), some (.int x1)]) (st' := [.ref 0]) (S1 := zS c s) rfl ?_
  refine zq_get rfl (zh_0 _) rfl rfl rfl ?_
  refine zr_many 1 (pc' := 5) (L' := [some (.ref 0), some (.int x1)]) (st' := [.ref 0, .ref 23]) (S1 := zS c s) rfl ?_
  refine zq_get rfl (zh_0 _) rfl rfl rfl ?_
  obtain ⟨s2, g3, h⟩ := zp_inv h
  refine zq_call0 rfl rfl (zh_23 _) rfl rfl rfl ((tX3_copy zM_23 zM_17 g3).up (by decide)) rfl ?_
  refine zr_many 3 (pc' := 14) (L' := [some (.ref 0), some (.int x1)]) (st' := [.int x1, .ref 0, .ref 0]) (S1 := zS c s2) rfl ?_
  obtain ⟨r4, s5, g6, h⟩ := zb_inv h
  refine zq_call1 rfl rfl (zh_0 _) rfl rfl rfl ((tX11_takeRest g6).up (by decide)) rfl ?_
  obtain ⟨r7, s8, g9, h⟩ := zb_inv h
  refine zq_call1 rfl rfl (zh_0 _) rfl rfl rfl (tX11_remember g9) rfl ?_
  obtain ⟨rfl, rfl⟩ := Prod.mk.inj (Option.some.inj h)
  exact zq_iret rfl
def fX11_readAct_J112 (n : Nat) (s : zs) (y0 : Int32) : Option (Int32 × zs) := some (y0, s)
theorem tX11_readAct_J112 {n : Nat} {c : Nat × Nat} {s : zs} {y0 : Int32} {r : Int32} {s' : zs} (h : fX11_readAct_J112 n s y0 = some (r, s')) : zr kX11_readAct 1 3 112 [none, none, none, none] [.int y0] (zS c s) (some (.int r)) (zS c s') := by
  unfold fX11_readAct_J112 at h
  obtain ⟨rfl, rfl⟩ := Prod.mk.inj (Option.some.inj h)
  exact zq_iret rfl
def fX11_readAct_J97 (n : Nat) (s : zs) (x1 : Int32) (x2 : Int32) : Option (Int32 × zs) := if 0 ≤ x2 then fX11_readAct_J112 n s ((x1 * (1000 : Int32)) + x2) else fX11_readAct_J112 n s (-1 : Int32)
theorem tX11_readAct_J97 {n : Nat} {c : Nat × Nat} {s : zs} {x1 : Int32} {x2 : Int32} {r : Int32} {s' : zs} (h : fX11_readAct_J97 n s x1 x2 = some (r, s')) : zr kX11_readAct 1 3 97 [none, some (.int x1), some (.int x2), none] [] (zS c s) (some (.int r)) (zS c s') := by
  unfold fX11_readAct_J97 at h
  refine zr_many 1 (pc' := 98) (L' := [none, some (.int x1), some (.int x2), none]) (st' := [.int x2]) (S1 := zS c s) rfl ?_
  refine zq_if1 (b := 0 ≤ x2) rfl Iff.rfl rfl (fun g13 => ?_) (fun g13 => ?_)
  · rw [if_pos g13] at h
    refine zr_many 5 (pc' := 112) (L' := [none, some (.int x1), some (.int x2), none]) (st' := [.int ((x1 * (1000 : Int32)) + x2)]) (S1 := zS c s) rfl ?_
    exact zr_wk [none, none, none, none] trivial (tX11_readAct_J112 h)
  · rw [if_neg g13] at h
    refine zr_many 2 (pc' := 112) (L' := [none, some (.int x1), some (.int x2), none]) (st' := [.int (-1 : Int32)]) (S1 := zS c s) rfl ?_
    exact zr_wk [none, none, none, none] trivial (tX11_readAct_J112 h)
def fX11_readAct_J142 (n : Nat) (s : zs) (y0 : Int32) : Option (Int32 × zs) := some (y0, s)
theorem tX11_readAct_J142 {n : Nat} {c : Nat × Nat} {s : zs} {y0 : Int32} {r : Int32} {s' : zs} (h : fX11_readAct_J142 n s y0 = some (r, s')) : zr kX11_readAct 1 3 142 [none, none, none, none] [.int y0] (zS c s) (some (.int r)) (zS c s') := by
  unfold fX11_readAct_J142 at h
  obtain ⟨rfl, rfl⟩ := Prod.mk.inj (Option.some.inj h)
  exact zq_iret rfl
def fX11_readAct_J77 (n : Nat) (s : zs) (y0 : Int32) : Option (Int32 × zs) := some (y0, s)
theorem tX11_readAct_J77 {n : Nat} {c : Nat × Nat} {s : zs} {y0 : Int32} {r : Int32} {s' : zs} (h : fX11_readAct_J77 n s y0 = some (r, s')) : zr kX11_readAct 1 3 77 [none, none, none, none] [.int y0] (zS c s) (some (.int r)) (zS c s') := by
  unfold fX11_readAct_J77 at h
  obtain ⟨rfl, rfl⟩ := Prod.mk.inj (Option.some.inj h)
  exact zq_iret rfl
def fX11_readAct_J40 (n : Nat) (s : zs) (x1 : Int32) : Option (Int32 × zs) := zp (fX8_step n s) (fun s6 => if ¬ x1 = (114 : Int32) then zb (fX8_takeNumber n s6 (1 : Int32)) (fun r9 s10 => if r9 < 0 then fX11_readAct_J97 n s10 x1 r9 else if x1 = (104 : Int32) then zb (fX8_takeNumber n s10 (1 : Int32)) (fun r15 s16 => if 0 ≤ r15 then fX11_readAct_J142 n s16 (((x1 * (1000 : Int32)) + (r9 * (10 : Int32))) + r15) else fX11_readAct_J142 n s16 (-1 : Int32)) else fX11_readAct_J97 n s10 x1 r9) else zb (fX8_takeNumber n s6 (3 : Int32)) (fun r19 s20 => if 0 ≤ r19 then fX11_readAct_J77 n s20 ((x1 * (1000 : Int32)) + r19) else fX11_readAct_J77 n s20 (-1 : Int32)))
theorem tX11_readAct_J40 {n : Nat} {c : Nat × Nat} {s : zs} {x1 : Int32} {r : Int32} {s' : zs} (h : fX11_readAct_J40 n s x1 = some (r, s')) : zr kX11_readAct 1 3 40 [some (.ref 0), some (.int x1), none, none] [] (zS c s) (some (.int r)) (zS c s') := by
  unfold fX11_readAct_J40 at h
  refine zr_many 1 (pc' := 41) (L' := [some (.ref 0), some (.int x1), none, none]) (st' := [.ref 0]) (S1 := zS c s) rfl ?_
  refine zq_get rfl (zh_0 _) rfl rfl rfl ?_
  obtain ⟨s6, g7, h⟩ := zp_inv h
  refine zq_call0 rfl rfl (zh_1 _) rfl rfl rfl ((tX8_step g7).up (by decide)) rfl ?_
  refine zr_many 2 (pc' := 50) (L' := [some (.ref 0), some (.int x1), none, none]) (st' := [.int (114 : Int32), .int x1]) (S1 := zS c s6) rfl ?_
  refine zq_if2 (b := ¬ x1 = (114 : Int32)) rfl Iff.rfl rfl (fun g8 => ?_) (fun g8 => ?_)
  · rw [if_pos g8] at h
    refine zr_many 1 (pc' := 79) (L' := [some (.ref 0), some (.int x1), none, none]) (st' := [.ref 0]) (S1 := zS c s6) rfl ?_
    refine zq_get rfl (zh_0 _) rfl rfl rfl ?_
    refine zr_many 1 (pc' := 83) (L' := [some (.ref 0), some (.int x1), none, none]) (st' := [.int (1 : Int32), .ref 1]) (S1 := zS c s6) rfl ?_
    obtain ⟨r9, s10, g11, h⟩ := zb_inv h
    refine zq_call1 rfl rfl (zh_1 _) rfl rfl rfl (tX8_takeNumber g11) rfl ?_
    refine zr_many 2 (pc' := 88) (L' := [some (.ref 0), some (.int x1), some (.int r9), none]) (st' := [.int r9]) (S1 := zS c s10) rfl ?_
    refine zq_if1 (b := r9 < 0) rfl Iff.rfl rfl (fun g12 => ?_) (fun g12 => ?_)
    · rw [if_pos g12] at h
      exact zr_wk [none, some (.int x1), some (.int r9), none] ⟨rfl, rfl, trivial⟩ (tX11_readAct_J97 h)
    · rw [if_neg g12] at h
      refine zr_many 2 (pc' := 94) (L' := [some (.ref 0), some (.int x1), some (.int r9), none]) (st' := [.int (104 : Int32), .int x1]) (S1 := zS c s10) rfl ?_
      refine zq_if2 (b := x1 = (104 : Int32)) rfl Iff.rfl rfl (fun g14 => ?_) (fun g14 => ?_)
      · rw [if_pos g14] at h
        refine zr_many 1 (pc' := 114) (L' := [some (.ref 0), some (.int x1), some (.int r9), none]) (st' := [.ref 0]) (S1 := zS c s10) rfl ?_
        refine zq_get rfl (zh_0 _) rfl rfl rfl ?_
        refine zr_many 1 (pc' := 118) (L' := [some (.ref 0), some (.int x1), some (.int r9), none]) (st' := [.int (1 : Int32), .ref 1]) (S1 := zS c s10) rfl ?_
        obtain ⟨r15, s16, g17, h⟩ := zb_inv h
        refine zq_call1 rfl rfl (zh_1 _) rfl rfl rfl (tX8_takeNumber g17) rfl ?_
        refine zr_many 2 (pc' := 123) (L' := [some (.ref 0), some (.int x1), some (.int r9), some (.int r15)]) (st' := [.int r15]) (S1 := zS c s16) rfl ?_
        refine zq_if1 (b := 0 ≤ r15) rfl Iff.rfl rfl (fun g18 => ?_) (fun g18 => ?_)
        · rw [if_pos g18] at h
          refine zr_many 9 (pc' := 142) (L' := [some (.ref 0), some (.int x1), some (.int r9), some (.int r15)]) (st' := [.int (((x1 * (1000 : Int32)) + (r9 * (10 : Int32))) + r15)]) (S1 := zS c s16) rfl ?_
          exact zr_wk [none, none, none, none] trivial (tX11_readAct_J142 h)
        · rw [if_neg g18] at h
          refine zr_many 2 (pc' := 142) (L' := [some (.ref 0), some (.int x1), some (.int r9), some (.int r15)]) (st' := [.int (-1 : Int32)]) (S1 := zS c s16) rfl ?_
          exact zr_wk [none, none, none, none] trivial (tX11_readAct_J142 h)
      · rw [if_neg g14] at h
        exact zr_wk [none, some (.int x1), some (.int r9), none] ⟨rfl, rfl, trivial⟩ (tX11_readAct_J97 h)
  · rw [if_neg g8] at h
    refine zr_many 1 (pc' := 54) (L' := [some (.ref 0), some (.int x1), none, none]) (st' := [.ref 0]) (S1 := zS c s6) rfl ?_
    refine zq_get rfl (zh_0 _) rfl rfl rfl ?_
    refine zr_many 1 (pc' := 58) (L' := [some (.ref 0), some (.int x1), none, none]) (st' := [.int (3 : Int32), .ref 1]) (S1 := zS c s6) rfl ?_
    obtain ⟨r19, s20, g21, h⟩ := zb_inv h
    refine zq_call1 rfl rfl (zh_1 _) rfl rfl rfl (tX8_takeNumber g21) rfl ?_
    refine zr_many 2 (pc' := 63) (L' := [some (.ref 0), some (.int x1), some (.int r19), none]) (st' := [.int r19]) (S1 := zS c s20) rfl ?_
    refine zq_if1 (b := 0 ≤ r19) rfl Iff.rfl rfl (fun g22 => ?_) (fun g22 => ?_)
    · rw [if_pos g22] at h
      refine zr_many 5 (pc' := 77) (L' := [some (.ref 0), some (.int x1), some (.int r19), none]) (st' := [.int ((x1 * (1000 : Int32)) + r19)]) (S1 := zS c s20) rfl ?_
      exact zr_wk [none, none, none, none] trivial (tX11_readAct_J77 h)
    · rw [if_neg g22] at h
      refine zr_many 2 (pc' := 77) (L' := [some (.ref 0), some (.int x1), some (.int r19), none]) (st' := [.int (-1 : Int32)]) (S1 := zS c s20) rfl ?_
      exact zr_wk [none, none, none, none] trivial (tX11_readAct_J77 h)
def fX11_readAct (n : Nat) (s : zs) : Option (Int32 × zs) := zp (fX8_look n s) (fun r1 => if r1 = (104 : Int32) then fX11_readAct_J40 n s r1 else if r1 = (108 : Int32) then fX11_readAct_J40 n s r1 else if r1 = (117 : Int32) then fX11_readAct_J40 n s r1 else if r1 = (100 : Int32) then fX11_readAct_J40 n s r1 else if r1 = (114 : Int32) then fX11_readAct_J40 n s r1 else some ((-1 : Int32), s))
theorem tX11_readAct {n : Nat} {c : Nat × Nat} {s : zs} {r : Int32} {s' : zs} (h : fX11_readAct n s = some (r, s')) : zc 4 2225 [.ref 0] (zS c s) (some (.int r)) (zS c s') := by
  refine zc_of (k := kX11_readAct) (rt := 1) (L := [some (.ref 0), none, none, none]) zm_2225.1 rfl rfl (by decide) rfl rfl ?_
  unfold fX11_readAct at h
  refine zr_many 1 (pc' := 1) (L' := [some (.ref 0), none, none, none]) (st' := [.ref 0]) (S1 := zS c s) rfl ?_
  refine zq_get rfl (zh_0 _) rfl rfl rfl ?_
  obtain ⟨r1, g3, h⟩ := zp_inv h
  refine zq_call1 rfl rfl (zh_1 _) rfl rfl rfl ((tX8_look g3).up (by decide)) rfl ?_
  refine zr_many 3 (pc' := 11) (L' := [some (.ref 0), some (.int r1), none, none]) (st' := [.int (104 : Int32), .int r1]) (S1 := zS c s) rfl ?_
  refine zq_if2 (b := r1 = (104 : Int32)) rfl Iff.rfl rfl (fun g4 => ?_) (fun g4 => ?_)
  · rw [if_pos g4] at h
    exact zr_wk [some (.ref 0), some (.int r1), none, none] ⟨rfl, rfl, trivial⟩ (tX11_readAct_J40 h)
  · rw [if_neg g4] at h
    refine zr_many 2 (pc' := 17) (L' := [some (.ref 0), some (.int r1), none, none]) (st' := [.int (108 : Int32), .int r1]) (S1 := zS c s) rfl ?_
    refine zq_if2 (b := r1 = (108 : Int32)) rfl Iff.rfl rfl (fun g23 => ?_) (fun g23 => ?_)
    · rw [if_pos g23] at h
      exact zr_wk [some (.ref 0), some (.int r1), none, none] ⟨rfl, rfl, trivial⟩ (tX11_readAct_J40 h)
    · rw [if_neg g23] at h
      refine zr_many 2 (pc' := 23) (L' := [some (.ref 0), some (.int r1), none, none]) (st' := [.int (117 : Int32), .int r1]) (S1 := zS c s) rfl ?_
      refine zq_if2 (b := r1 = (117 : Int32)) rfl Iff.rfl rfl (fun g24 => ?_) (fun g24 => ?_)
      · rw [if_pos g24] at h
        exact zr_wk [some (.ref 0), some (.int r1), none, none] ⟨rfl, rfl, trivial⟩ (tX11_readAct_J40 h)
      · rw [if_neg g24] at h
        refine zr_many 2 (pc' := 29) (L' := [some (.ref 0), some (.int r1), none, none]) (st' := [.int (100 : Int32), .int r1]) (S1 := zS c s) rfl ?_
        refine zq_if2 (b := r1 = (100 : Int32)) rfl Iff.rfl rfl (fun g25 => ?_) (fun g25 => ?_)
        · rw [if_pos g25] at h
          exact zr_wk [some (.ref 0), some (.int r1), none, none] ⟨rfl, rfl, trivial⟩ (tX11_readAct_J40 h)
        · rw [if_neg g25] at h
          refine zr_many 2 (pc' := 35) (L' := [some (.ref 0), some (.int r1), none, none]) (st' := [.int (114 : Int32), .int r1]) (S1 := zS c s) rfl ?_
          refine zq_if2 (b := r1 = (114 : Int32)) rfl Iff.rfl rfl (fun g26 => ?_) (fun g26 => ?_)
          · rw [if_pos g26] at h
            exact zr_wk [some (.ref 0), some (.int r1), none, none] ⟨rfl, rfl, trivial⟩ (tX11_readAct_J40 h)
          · rw [if_neg g26] at h
            refine zr_many 1 (pc' := 39) (L' := [some (.ref 0), some (.int r1), none, none]) (st' := [.int (-1 : Int32)]) (S1 := zS c s) rfl ?_
            obtain ⟨rfl, rfl⟩ := Prod.mk.inj (Option.some.inj h)
            exact zq_iret rfl
def fX11_readActs_B2 (n : Nat) (w2 : Int32 × zs) : Option ((Int32 × zs) ⊕ ((zs) ⊕ ((Int32 × zs) ⊕ ((zs) ⊕ (zs))))) := if (60 : Int32) ≤ w2.1 then some (Sum.inr (Sum.inr (Sum.inr (Sum.inr w2.2)))) else zb (fX11_readAct n w2.2) (fun r2 s3 => if 0 ≤ r2 then cond (zi_in w2.1 60) (zp (fX8_over n (zsi s3 142 w2.1.toNatClampNeg r2)) (fun r6 => if r6 = 0 then zb (fX8_take n (zsi s3 142 w2.1.toNatClampNeg r2) (59 : Int32) (59 : Int32)) (fun r10 s11 => if 0 ≤ r10 then some (Sum.inl ((w2.1 + (1 : Int32)), s11)) else some (Sum.inr (Sum.inr (Sum.inr (Sum.inl s11))))) else some (Sum.inr (Sum.inr (Sum.inl (w2.1, (zsi s3 142 w2.1.toNatClampNeg r2))))))) none else some (Sum.inr (Sum.inl s3)))
theorem tX11_readActs_B2 {n : Nat} {c : Nat × Nat} {w2 : Int32 × zs} {o : _} {v : Option Value} {S' : zi_S} (h : fX11_readActs_B2 n w2 = some o) (hn : ∀ w2, o = Sum.inl w2 → zr kX11_readActs 1 4 2 [some (.ref 0), some (.int w2.1), none] [] (zS c w2.2) v S') (hx : ∀ z, o = Sum.inr z → (Sum.elim (fun z => zr kX11_readActs 1 4 17 [some (.ref 0), none, none] [] (zS c z) v S') (Sum.elim (fun z => zr kX11_readActs 1 4 42 [none, some (.int z.1), none] [] (zS c z.2) v S') (Sum.elim (fun z => zr kX11_readActs 1 4 60 [some (.ref 0), none, none] [] (zS c z) v S') (fun z => zr kX11_readActs 1 4 74 [some (.ref 0), none, none] [] (zS c z) v S')))) z) : zr kX11_readActs 1 4 2 [some (.ref 0), some (.int w2.1), none] [] (zS c w2.2) v S' := by
  unfold fX11_readActs_B2 at h
  refine zr_many 2 (pc' := 5) (L' := [some (.ref 0), some (.int w2.1), none]) (st' := [.int (60 : Int32), .int w2.1]) (S1 := zS c w2.2) rfl ?_
  refine zq_if2 (b := (60 : Int32) ≤ w2.1) rfl Iff.rfl rfl (fun g1 => ?_) (fun g1 => ?_)
  · rw [if_pos g1] at h
    obtain rfl := Option.some.inj h
    exact zr_wk [some (.ref 0), none, none] ⟨rfl, trivial⟩ (hx (Sum.inr (Sum.inr (Sum.inr w2.2))) rfl)
  · rw [if_neg g1] at h
    refine zr_many 1 (pc' := 9) (L' := [some (.ref 0), some (.int w2.1), none]) (st' := [.ref 0]) (S1 := zS c w2.2) rfl ?_
    obtain ⟨r2, s3, g4, h⟩ := zb_inv h
    refine zq_call1 rfl rfl (zh_0 _) rfl rfl rfl (tX11_readAct g4) rfl ?_
    refine zr_many 2 (pc' := 14) (L' := [some (.ref 0), some (.int w2.1), some (.int r2)]) (st' := [.int r2]) (S1 := zS c s3) rfl ?_
    refine zq_if1 (b := 0 ≤ r2) rfl Iff.rfl rfl (fun g5 => ?_) (fun g5 => ?_)
    · rw [if_pos g5] at h
      refine zr_many 1 (pc' := 26) (L' := [some (.ref 0), some (.int w2.1), some (.int r2)]) (st' := [.ref 0]) (S1 := zS c s3) rfl ?_
      refine zq_get rfl (zh_0 _) rfl rfl rfl ?_
      refine zr_many 2 (pc' := 31) (L' := [some (.ref 0), some (.int w2.1), some (.int r2)]) (st' := [.int r2, .int w2.1, .ref 142]) (S1 := zS c s3) rfl ?_
      obtain ⟨g14, h⟩ := zi_cond_inv h
      refine zq_ist rfl zh_142 rfl g14 rfl ?_
      refine zr_many 1 (pc' := 33) (L' := [some (.ref 0), some (.int w2.1), some (.int r2)]) (st' := [.ref 0]) (S1 := zS c (zsi s3 142 w2.1.toNatClampNeg r2)) rfl ?_
      refine zq_get rfl (zh_0 _) rfl rfl rfl ?_
      obtain ⟨r6, g8, h⟩ := zp_inv h
      refine zq_call1 rfl rfl (zh_1 _) rfl rfl rfl ((tX8_over g8).up (by decide)) rfl ?_
      refine zq_if1 (b := r6 = 0) rfl Iff.rfl rfl (fun g9 => ?_) (fun g9 => ?_)
      · rw [if_pos g9] at h
        refine zr_many 1 (pc' := 47) (L' := [some (.ref 0), some (.int w2.1), some (.int r2)]) (st' := [.ref 0]) (S1 := zS c (zsi s3 142 w2.1.toNatClampNeg r2)) rfl ?_
        refine zq_get rfl (zh_0 _) rfl rfl rfl ?_
        refine zr_many 2 (pc' := 54) (L' := [some (.ref 0), some (.int w2.1), some (.int r2)]) (st' := [.int (59 : Int32), .int (59 : Int32), .ref 1]) (S1 := zS c (zsi s3 142 w2.1.toNatClampNeg r2)) rfl ?_
        obtain ⟨r10, s11, g12, h⟩ := zb_inv h
        refine zq_call1 rfl rfl (zh_1 _) rfl rfl rfl ((tX8_take g12).up (by decide)) rfl ?_
        refine zq_if1 (b := 0 ≤ r10) rfl Iff.rfl rfl (fun g13 => ?_) (fun g13 => ?_)
        · rw [if_pos g13] at h
          refine zr_many 2 (pc' := 2) (L' := [some (.ref 0), some (.int (w2.1 + (1 : Int32))), some (.int r2)]) (st' := []) (S1 := zS c s11) rfl ?_
          obtain rfl := Option.some.inj h
          exact zr_wk [some (.ref 0), some (.int (w2.1 + (1 : Int32))), none] ⟨rfl, rfl, trivial⟩ (hn ((w2.1 + (1 : Int32)), s11) rfl)
        · rw [if_neg g13] at h
          obtain rfl := Option.some.inj h
          exact zr_wk [some (.ref 0), none, none] ⟨rfl, trivial⟩ (hx (Sum.inr (Sum.inr (Sum.inl s11))) rfl)
      · rw [if_neg g9] at h
        obtain rfl := Option.some.inj h
        exact zr_wk [none, some (.int w2.1), none] ⟨rfl, trivial⟩ (hx (Sum.inr (Sum.inl (w2.1, (zsi s3 142 w2.1.toNatClampNeg r2)))) rfl)
    · rw [if_neg g5] at h
      obtain rfl := Option.some.inj h
      exact zr_wk [some (.ref 0), none, none] ⟨rfl, trivial⟩ (hx (Sum.inl s3) rfl)
def fX11_readActs (n : Nat) (s : zs) : Option (Int32 × zs) := zp (zl (fX11_readActs_B2 n) n ((0 : Int32), s)) (Sum.elim (fun w15 => zp (fX8_fault n w15) (fun r16 => some (r16, w15))) (Sum.elim (fun w19 => some ((w19.1 + (1 : Int32)), w19.2)) (Sum.elim (fun w20 => zp (fX8_fault n w20) (fun r21 => some (r21, w20))) (fun w24 => zp (fX8_fault n w24) (fun r25 => some (r25, w24))))))
theorem tX11_readActs {n : Nat} {c : Nat × Nat} {s : zs} {r : Int32} {s' : zs} (h : fX11_readActs n s = some (r, s')) : zc 5 2224 [.ref 0] (zS c s) (some (.int r)) (zS c s') := by
  refine zc_of (k := kX11_readActs) (rt := 1) (L := [some (.ref 0), none, none]) zm_2224.1 rfl rfl (by decide) rfl rfl ?_
  unfold fX11_readActs at h
  refine zr_many 2 (pc' := 2) (L' := [some (.ref 0), some (.int (0 : Int32)), none]) (st' := []) (S1 := zS c s) rfl ?_
  obtain ⟨w29, g28, h⟩ := zp_inv h
  rcases w29 with w15 | w19 | w20 | w24
  · simp only [Sum.elim_inl, Sum.elim_inr] at h
    refine zr_wk [some (.ref 0), some (.int (0 : Int32)), none] ⟨rfl, rfl, trivial⟩ (zl_cert (Z := fun w2 => zr kX11_readActs 1 4 2 [some (.ref 0), some (.int w2.1), none] [] (zS c w2.2) _ _) (Y := (Sum.elim (fun z => zr kX11_readActs 1 4 17 [some (.ref 0), none, none] [] (zS c z) _ _) (Sum.elim (fun z => zr kX11_readActs 1 4 42 [none, some (.int z.1), none] [] (zS c z.2) _ _) (Sum.elim (fun z => zr kX11_readActs 1 4 60 [some (.ref 0), none, none] [] (zS c z) _ _) (fun z => zr kX11_readActs 1 4 74 [some (.ref 0), none, none] [] (zS c z) _ _))))) (fun w o h1 h2 h3 => tX11_readActs_B2 h1 h2 h3) n _ _ g28 ?_)
    show zr kX11_readActs 1 4 17 [some (.ref 0), none, none] [] (zS c w15) _ _
    refine zr_many 1 (pc' := 18) (L' := [some (.ref 0), none, none]) (st' := [.ref 0]) (S1 := zS c w15) rfl ?_
    refine zq_get rfl (zh_0 _) rfl rfl rfl ?_
    obtain ⟨r16, g18, h⟩ := zp_inv h
    refine zq_call1 rfl rfl (zh_1 _) rfl rfl rfl ((tX8_fault g18).up (by decide)) rfl ?_
    obtain ⟨rfl, rfl⟩ := Prod.mk.inj (Option.some.inj h)
    exact zq_iret rfl
  · simp only [Sum.elim_inl, Sum.elim_inr] at h
    refine zr_wk [some (.ref 0), some (.int (0 : Int32)), none] ⟨rfl, rfl, trivial⟩ (zl_cert (Z := fun w2 => zr kX11_readActs 1 4 2 [some (.ref 0), some (.int w2.1), none] [] (zS c w2.2) _ _) (Y := (Sum.elim (fun z => zr kX11_readActs 1 4 17 [some (.ref 0), none, none] [] (zS c z) _ _) (Sum.elim (fun z => zr kX11_readActs 1 4 42 [none, some (.int z.1), none] [] (zS c z.2) _ _) (Sum.elim (fun z => zr kX11_readActs 1 4 60 [some (.ref 0), none, none] [] (zS c z) _ _) (fun z => zr kX11_readActs 1 4 74 [some (.ref 0), none, none] [] (zS c z) _ _))))) (fun w o h1 h2 h3 => tX11_readActs_B2 h1 h2 h3) n _ _ g28 ?_)
    show zr kX11_readActs 1 4 42 [none, some (.int w19.1), none] [] (zS c w19.2) _ _
    refine zr_many 3 (pc' := 45) (L' := [none, some (.int w19.1), none]) (st' := [.int (w19.1 + (1 : Int32))]) (S1 := zS c w19.2) rfl ?_
    obtain ⟨rfl, rfl⟩ := Prod.mk.inj (Option.some.inj h)
    exact zq_iret rfl
  · simp only [Sum.elim_inl, Sum.elim_inr] at h
    refine zr_wk [some (.ref 0), some (.int (0 : Int32)), none] ⟨rfl, rfl, trivial⟩ (zl_cert (Z := fun w2 => zr kX11_readActs 1 4 2 [some (.ref 0), some (.int w2.1), none] [] (zS c w2.2) _ _) (Y := (Sum.elim (fun z => zr kX11_readActs 1 4 17 [some (.ref 0), none, none] [] (zS c z) _ _) (Sum.elim (fun z => zr kX11_readActs 1 4 42 [none, some (.int z.1), none] [] (zS c z.2) _ _) (Sum.elim (fun z => zr kX11_readActs 1 4 60 [some (.ref 0), none, none] [] (zS c z) _ _) (fun z => zr kX11_readActs 1 4 74 [some (.ref 0), none, none] [] (zS c z) _ _))))) (fun w o h1 h2 h3 => tX11_readActs_B2 h1 h2 h3) n _ _ g28 ?_)
    show zr kX11_readActs 1 4 60 [some (.ref 0), none, none] [] (zS c w20) _ _
    refine zr_many 1 (pc' := 61) (L' := [some (.ref 0), none, none]) (st' := [.ref 0]) (S1 := zS c w20) rfl ?_
    refine zq_get rfl (zh_0 _) rfl rfl rfl ?_
    obtain ⟨r21, g23, h⟩ := zp_inv h
    refine zq_call1 rfl rfl (zh_1 _) rfl rfl rfl ((tX8_fault g23).up (by decide)) rfl ?_
    obtain ⟨rfl, rfl⟩ := Prod.mk.inj (Option.some.inj h)
    exact zq_iret rfl
  · simp only [Sum.elim_inl, Sum.elim_inr] at h
    refine zr_wk [some (.ref 0), some (.int (0 : Int32)), none] ⟨rfl, rfl, trivial⟩ (zl_cert (Z := fun w2 => zr kX11_readActs 1 4 2 [some (.ref 0), some (.int w2.1), none] [] (zS c w2.2) _ _) (Y := (Sum.elim (fun z => zr kX11_readActs 1 4 17 [some (.ref 0), none, none] [] (zS c z) _ _) (Sum.elim (fun z => zr kX11_readActs 1 4 42 [none, some (.int z.1), none] [] (zS c z.2) _ _) (Sum.elim (fun z => zr kX11_readActs 1 4 60 [some (.ref 0), none, none] [] (zS c z) _ _) (fun z => zr kX11_readActs 1 4 74 [some (.ref 0), none, none] [] (zS c z) _ _))))) (fun w o h1 h2 h3 => tX11_readActs_B2 h1 h2 h3) n _ _ g28 ?_)
    show zr kX11_readActs 1 4 74 [some (.ref 0), none, none] [] (zS c w24) _ _
    refine zr_many 1 (pc' := 75) (L' := [some (.ref 0), none, none]) (st' := [.ref 0]) (S1 := zS c w24) rfl ?_
    refine zq_get rfl (zh_0 _) rfl rfl rfl ?_
    obtain ⟨r25, g27, h⟩ := zp_inv h
    refine zq_call1 rfl rfl (zh_1 _) rfl rfl rfl ((tX8_fault g27).up (by decide)) rfl ?_
    obtain ⟨rfl, rfl⟩ := Prod.mk.inj (Option.some.inj h)
    exact zq_iret rfl
