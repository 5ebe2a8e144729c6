/-! ===== printed by wip/gen/dec.py: the methods as functions, each with its run ===== -/
def fX12_readsLock_J58 (n : Nat) (s : zs) (x1 : Int32) (x2 : Int32) (y1 : Int32) (y3 : Int32) (y4 : Int32) : Option ((Int32 × zs) ⊕ ((zs) ⊕ (zs))) := zb (fX12_signIn n s y3 y4 (25 : Int32)) (fun r5 s6 => cond (zi_in y1 40) (cond (zi_in (x1 + x2) 40) (if 0 ≤ ((zsi s6 172 y1.toNatClampNeg r5).1 172 (x1 + x2).toNatClampNeg) then some (Sum.inl ((x2 + (1 : Int32)), (zsi s6 172 y1.toNatClampNeg r5))) else some (Sum.inr (Sum.inl (zsi s6 172 y1.toNatClampNeg r5)))) none) none)
theorem tX12_readsLock_J58 {n : Nat} {c : Nat × Nat} {s : zs} {x1 : Int32} {x2 : Int32} {y1 : Int32} {y3 : Int32} {y4 : Int32} {o : _} {v : Option Value} {S' : zi_S} (h : fX12_readsLock_J58 n s x1 x2 y1 y3 y4 = some o) (hn : ∀ w25, o = Sum.inl w25 → zr kX12_readsLock 2 2 25 [some (.ref 161), some (.int x1), some (.int w25.1)] [] (zS c w25.2) v S') (hx : ∀ z, o = Sum.inr z → (Sum.elim (fun z => zr kX12_readsLock 2 2 75 [none, none, none] [] (zS c z) v S') (fun z => zr kX12_readsLock 2 2 83 [some (.ref 161), some (.int x1), none] [] (zS c z) v S')) z) : zr kX12_readsLock 2 2 58 [some (.ref 161), some (.int x1), some (.int x2)] [.int y4, .int y3, .ref 161, .int y1, .ref 172] (zS c s) v S' := by
  unfold fX12_readsLock_J58 at h
  refine zr_many 1 (pc' := 60) (L' := [some (.ref 161), some (.int x1), some (.int x2)]) (st' := [.int (25 : Int32), .int y4, .int y3, .ref 161, .int y1, .ref 172]) (S1 := zS c s) rfl ?_
  obtain ⟨r5, s6, g7, h⟩ := zb_inv h
  refine zq_call1 rfl rfl (zh_161 _) rfl rfl rfl (tX12_signIn g7) rfl ?_
  obtain ⟨g10, h⟩ := zi_cond_inv h
  refine zq_ist rfl zh_172 rfl g10 rfl ?_
  refine zr_many 1 (pc' := 65) (L' := [some (.ref 161), some (.int x1), some (.int x2)]) (st' := [.ref 161]) (S1 := zS c (zsi s6 172 y1.toNatClampNeg r5)) rfl ?_
  refine zq_get rfl (zh_161 _) rfl rfl rfl ?_
  refine zr_many 3 (pc' := 71) (L' := [some (.ref 161), some (.int x1), some (.int x2)]) (st' := [.int (x1 + x2), .ref 172]) (S1 := zS c (zsi s6 172 y1.toNatClampNeg r5)) rfl ?_
  obtain ⟨g8, h⟩ := zi_cond_inv h
  refine zq_ild rfl (zh_172 _) rfl g8 rfl ?_
  refine zq_if1 (b := 0 ≤ ((zsi s6 172 y1.toNatClampNeg r5).1 172 (x1 + x2).toNatClampNeg)) rfl Iff.rfl rfl (fun g9 => ?_) (fun g9 => ?_)
  · rw [if_pos g9] at h
    refine zr_many 2 (pc' := 25) (L' := [some (.ref 161), some (.int x1), some (.int (x2 + (1 : Int32)))]) (st' := []) (S1 := zS c (zsi s6 172 y1.toNatClampNeg r5)) rfl ?_
    obtain rfl := Option.some.inj h
    exact zr_wk [some (.ref 161), some (.int x1), some (.int (x2 + (1 : Int32)))] ⟨rfl, rfl, rfl, trivial⟩ (hn ((x2 + (1 : Int32)), (zsi s6 172 y1.toNatClampNeg r5)) rfl)
  · rw [if_neg g9] at h
    obtain rfl := Option.some.inj h
    exact zr_wk [none, none, none] trivial (hx (Sum.inl (zsi s6 172 y1.toNatClampNeg r5)) rfl)
def fX12_readsLock_B25 (n : Nat) (x1 : Int32) (w25 : Int32 × zs) : Option ((Int32 × zs) ⊕ ((zs) ⊕ (zs))) := if (4 : Int32) ≤ w25.1 then some (Sum.inr (Sum.inr w25.2)) else if ¬ w25.1 = 0 then cond (zi_in ((x1 + w25.1) - (1 : Int32)) 40) (fX12_readsLock_J58 n w25.2 x1 w25.1 (x1 + w25.1) (97 : Int32) (w25.2.1 172 ((x1 + w25.1) - (1 : Int32)).toNatClampNeg)) none else fX12_readsLock_J58 n w25.2 x1 w25.1 (x1 + w25.1) (97 : Int32) (0 : Int32)
theorem tX12_readsLock_B25 {n : Nat} {c : Nat × Nat} {x1 : Int32} {w25 : Int32 × zs} {o : _} {v : Option Value} {S' : zi_S} (h : fX12_readsLock_B25 n x1 w25 = some o) (hn : ∀ w25, o = Sum.inl w25 → zr kX12_readsLock 2 2 25 [some (.ref 161), some (.int x1), some (.int w25.1)] [] (zS c w25.2) v S') (hx : ∀ z, o = Sum.inr z → (Sum.elim (fun z => zr kX12_readsLock 2 2 75 [none, none, none] [] (zS c z) v S') (fun z => zr kX12_readsLock 2 2 83 [some (.ref 161), some (.int x1), none] [] (zS c z) v S')) z) : zr kX12_readsLock 2 2 25 [some (.ref 161), some (.int x1), some (.int w25.1)] [] (zS c w25.2) v S' := by
  unfold fX12_readsLock_B25 at h
  refine zr_many 2 (pc' := 27) (L' := [some (.ref 161), some (.int x1), some (.int w25.1)]) (st' := [.int (4 : Int32), .int w25.1]) (S1 := zS c w25.2) rfl ?_
  refine zq_if2 (b := (4 : Int32) ≤ w25.1) rfl Iff.rfl rfl (fun g2 => ?_) (fun g2 => ?_)
  · rw [if_pos g2] at h
    obtain rfl := Option.some.inj h
    exact zr_wk [some (.ref 161), some (.int x1), none] ⟨rfl, rfl, trivial⟩ (hx (Sum.inr w25.2) rfl)
  · rw [if_neg g2] at h
    refine zr_many 1 (pc' := 31) (L' := [some (.ref 161), some (.int x1), some (.int w25.1)]) (st' := [.ref 161]) (S1 := zS c w25.2) rfl ?_
    refine zq_get rfl (zh_161 _) rfl rfl rfl ?_
    refine zr_many 6 (pc' := 41) (L' := [some (.ref 161), some (.int x1), some (.int w25.1)]) (st' := [.int w25.1, .int (97 : Int32), .ref 161, .int (x1 + w25.1), .ref 172]) (S1 := zS c w25.2) rfl ?_
    refine zq_if1 (b := ¬ w25.1 = 0) rfl Iff.rfl rfl (fun g3 => ?_) (fun g3 => ?_)
    · rw [if_pos g3] at h
      refine zr_many 1 (pc' := 49) (L' := [some (.ref 161), some (.int x1), some (.int w25.1)]) (st' := [.ref 161, .int (97 : Int32), .ref 161, .int (x1 + w25.1), .ref 172]) (S1 := zS c w25.2) rfl ?_
      refine zq_get rfl (zh_161 _) rfl rfl rfl ?_
      refine zr_many 5 (pc' := 57) (L' := [some (.ref 161), some (.int x1), some (.int w25.1)]) (st' := [.int ((x1 + w25.1) - (1 : Int32)), .ref 172, .int (97 : Int32), .ref 161, .int (x1 + w25.1), .ref 172]) (S1 := zS c w25.2) rfl ?_
      obtain ⟨g4, h⟩ := zi_cond_inv h
      refine zq_ild rfl (zh_172 _) rfl g4 rfl ?_
      exact zr_wk [some (.ref 161), some (.int x1), some (.int w25.1)] ⟨rfl, rfl, rfl, trivial⟩ (tX12_readsLock_J58 h hn hx)
    · rw [if_neg g3] at h
      refine zr_many 2 (pc' := 58) (L' := [some (.ref 161), some (.int x1), some (.int w25.1)]) (st' := [.int (0 : Int32), .int (97 : Int32), .ref 161, .int (x1 + w25.1), .ref 172]) (S1 := zS c w25.2) rfl ?_
      exact zr_wk [some (.ref 161), some (.int x1), some (.int w25.1)] ⟨rfl, rfl, rfl, trivial⟩ (tX12_readsLock_J58 h hn hx)
def fX12_readsLock_J126 (n : Nat) (s : zs) (y0 : Int32) : Option (Int32 × zs) := if y0 = 0 ∨ y0 = 1 then some (y0, s) else none
theorem tX12_readsLock_J126 {n : Nat} {c : Nat × Nat} {s : zs} {y0 : Int32} {r : Int32} {s' : zs} (h : fX12_readsLock_J126 n s y0 = some (r, s')) : zr kX12_readsLock 2 2 126 [none, none, none] [.int y0] (zS c s) (some (.int r)) (zS c s') := by
  unfold fX12_readsLock_J126 at h
  obtain ⟨gz, h⟩ := zt_inv h
  obtain ⟨rfl, rfl⟩ := Prod.mk.inj (Option.some.inj h)
  exact zq_zret rfl gz
def fX12_readsLock (n : Nat) (s : zs) : Option (Int32 × zs) := if ¬ ((s.1 161 3) + (s.1 161 22)) = (8 : Int32) then zp (zl (fX12_readsLock_B25 n ((5 : Int32) * (s.1 161 22))) n ((0 : Int32), s)) (Sum.elim (fun w11 => some ((0 : Int32), w11)) (fun w12 => zb (fX12_signIn n w12 (48 : Int32) (1 : Int32) (9 : Int32)) (fun r13 s14 => cond (zi_in (((5 : Int32) * (s.1 161 22)) + (4 : Int32)) 40) (zt (zsi s14 172 (((5 : Int32) * (s.1 161 22)) + (4 : Int32)).toNatClampNeg r13) (fun s16 => cond (zi_in (((5 : Int32) * (s.1 161 22)) + (4 : Int32)) 40) (if ((zsi s16 161 22 ((s16.1 161 22) + (1 : Int32))).1 172 (((5 : Int32) * (s.1 161 22)) + (4 : Int32)).toNatClampNeg) ≤ 0 then fX12_readsLock_J126 n (zsi s16 161 22 ((s16.1 161 22) + (1 : Int32))) (0 : Int32) else fX12_readsLock_J126 n (zsi s16 161 22 ((s16.1 161 22) + (1 : Int32))) (1 : Int32)) none)) none))) else some ((0 : Int32), s)
theorem tX12_readsLock {n : Nat} {c : Nat × Nat} {s : zs} {r : Int32} {s' : zs} (h : fX12_readsLock n s = some (r, s')) : zc 3 2427 [.ref 161] (zS c s) (some (.int r)) (zS c s') := by
  refine zc_of (k := kX12_readsLock) (rt := 2) (L := [some (.ref 161), none, none]) zm_2427.1 rfl rfl (by decide) rfl rfl ?_
  unfold fX12_readsLock at h
  refine zr_many 1 (pc' := 1) (L' := [some (.ref 161), none, none]) (st' := [.ref 161]) (S1 := zS c s) rfl ?_
  refine zq_get rfl (zh_161 _) rfl rfl rfl ?_
  refine zr_many 1 (pc' := 5) (L' := [some (.ref 161), none, none]) (st' := [.ref 161, .int (s.1 161 3)]) (S1 := zS c s) rfl ?_
  refine zq_get rfl (zh_161 _) rfl rfl rfl ?_
  refine zr_many 2 (pc' := 11) (L' := [some (.ref 161), none, none]) (st' := [.int (8 : Int32), .int ((s.1 161 3) + (s.1 161 22))]) (S1 := zS c s) rfl ?_
  refine zq_if2 (b := ¬ ((s.1 161 3) + (s.1 161 22)) = (8 : Int32)) rfl Iff.rfl rfl (fun g1 => ?_) (fun g1 => ?_)
  · rw [if_pos g1] at h
    refine zr_many 2 (pc' := 18) (L' := [some (.ref 161), none, none]) (st' := [.ref 161, .int (5 : Int32)]) (S1 := zS c s) rfl ?_
    refine zq_get rfl (zh_161 _) rfl rfl rfl ?_
    refine zr_many 4 (pc' := 25) (L' := [some (.ref 161), some (.int ((5 : Int32) * (s.1 161 22))), some (.int (0 : Int32))]) (st' := []) (S1 := zS c s) rfl ?_
    obtain ⟨w21, g20, h⟩ := zp_inv h
    rcases w21 with w11 | w12
    · simp only [Sum.elim_inl, Sum.elim_inr] at h
      refine zr_wk [some (.ref 161), some (.int ((5 : Int32) * (s.1 161 22))), some (.int (0 : Int32))] ⟨rfl, rfl, rfl, trivial⟩ (zl_cert (Z := fun w25 => zr kX12_readsLock 2 2 25 [some (.ref 161), some (.int ((5 : Int32) * (s.1 161 22))), some (.int w25.1)] [] (zS c w25.2) _ _) (Y := (Sum.elim (fun z => zr kX12_readsLock 2 2 75 [none, none, none] [] (zS c z) _ _) (fun z => zr kX12_readsLock 2 2 83 [some (.ref 161), some (.int ((5 : Int32) * (s.1 161 22))), none] [] (zS c z) _ _))) (fun w o h1 h2 h3 => tX12_readsLock_B25 h1 h2 h3) n _ _ g20 ?_)
      show zr kX12_readsLock 2 2 75 [none, none, none] [] (zS c w11) _ _
      refine zr_many 1 (pc' := 76) (L' := [none, none, none]) (st' := [.int (0 : Int32)]) (S1 := zS c w11) rfl ?_
      obtain ⟨rfl, rfl⟩ := Prod.mk.inj (Option.some.inj h)
      exact zq_zret rfl (by decide)
    · simp only [Sum.elim_inl, Sum.elim_inr] at h
      refine zr_wk [some (.ref 161), some (.int ((5 : Int32) * (s.1 161 22))), some (.int (0 : Int32))] ⟨rfl, rfl, rfl, trivial⟩ (zl_cert (Z := fun w25 => zr kX12_readsLock 2 2 25 [some (.ref 161), some (.int ((5 : Int32) * (s.1 161 22))), some (.int w25.1)] [] (zS c w25.2) _ _) (Y := (Sum.elim (fun z => zr kX12_readsLock 2 2 75 [none, none, none] [] (zS c z) _ _) (fun z => zr kX12_readsLock 2 2 83 [some (.ref 161), some (.int ((5 : Int32) * (s.1 161 22))), none] [] (zS c z) _ _))) (fun w o h1 h2 h3 => tX12_readsLock_B25 h1 h2 h3) n _ _ g20 ?_)
      show zr kX12_readsLock 2 2 83 [some (.ref 161), some (.int ((5 : Int32) * (s.1 161 22))), none] [] (zS c w12) _ _
      refine zr_many 1 (pc' := 84) (L' := [some (.ref 161), some (.int ((5 : Int32) * (s.1 161 22))), none]) (st' := [.ref 161]) (S1 := zS c w12) rfl ?_
      refine zq_get rfl (zh_161 _) rfl rfl rfl ?_
      refine zr_many 7 (pc' := 96) (L' := [some (.ref 161), some (.int ((5 : Int32) * (s.1 161 22))), none]) (st' := [.int (9 : Int32), .int (1 : Int32), .int (48 : Int32), .ref 161, .int (((5 : Int32) * (s.1 161 22)) + (4 : Int32)), .ref 172]) (S1 := zS c w12) rfl ?_
      obtain ⟨r13, s14, g15, h⟩ := zb_inv h
      refine zq_call1 rfl rfl (zh_161 _) rfl rfl rfl (tX12_signIn g15) rfl ?_
      obtain ⟨g22, h⟩ := zi_cond_inv h
      refine zq_ist rfl zh_172 rfl g22 rfl ?_
      refine zr_many 2 (pc' := 102) (L' := [some (.ref 161), some (.int ((5 : Int32) * (s.1 161 22))), none]) (st' := [.ref 161, .ref 161]) (S1 := zS c (zsi s14 172 (((5 : Int32) * (s.1 161 22)) + (4 : Int32)).toNatClampNeg r13)) rfl ?_
      refine zq_get rfl (zh_161 _) rfl rfl rfl ?_
      refine zr_many 2 (pc' := 107) (L' := [some (.ref 161), some (.int ((5 : Int32) * (s.1 161 22))), none]) (st' := [.int (((zsi s14 172 (((5 : Int32) * (s.1 161 22)) + (4 : Int32)).toNatClampNeg r13).1 161 22) + (1 : Int32)), .ref 161]) (S1 := zS c (zsi s14 172 (((5 : Int32) * (s.1 161 22)) + (4 : Int32)).toNatClampNeg r13)) rfl ?_
      obtain ⟨s16, e17, h⟩ := zt_in h
      rw [← e17]
      refine zq_put (s' := (zsi s16 161 22 ((s16.1 161 22) + (1 : Int32)))) rfl (zh_161 _) rfl rfl rfl rfl zsi_ne rfl ?_
      refine zr_many 1 (pc' := 111) (L' := [some (.ref 161), some (.int ((5 : Int32) * (s.1 161 22))), none]) (st' := [.ref 161]) (S1 := zS c (zsi s16 161 22 ((s16.1 161 22) + (1 : Int32)))) rfl ?_
      refine zq_get rfl (zh_161 _) rfl rfl rfl ?_
      refine zr_many 3 (pc' := 117) (L' := [some (.ref 161), some (.int ((5 : Int32) * (s.1 161 22))), none]) (st' := [.int (((5 : Int32) * (s.1 161 22)) + (4 : Int32)), .ref 172]) (S1 := zS c (zsi s16 161 22 ((s16.1 161 22) + (1 : Int32)))) rfl ?_
      obtain ⟨g18, h⟩ := zi_cond_inv h
      refine zq_ild rfl (zh_172 _) rfl g18 rfl ?_
      refine zq_if1 (b := ((zsi s16 161 22 ((s16.1 161 22) + (1 : Int32))).1 172 (((5 : Int32) * (s.1 161 22)) + (4 : Int32)).toNatClampNeg) ≤ 0) rfl Iff.rfl rfl (fun g19 => ?_) (fun g19 => ?_)
      · rw [if_pos g19] at h
        refine zr_many 1 (pc' := 126) (L' := [some (.ref 161), some (.int ((5 : Int32) * (s.1 161 22))), none]) (st' := [.int (0 : Int32)]) (S1 := zS c (zsi s16 161 22 ((s16.1 161 22) + (1 : Int32)))) rfl ?_
        exact zr_wk [none, none, none] trivial (tX12_readsLock_J126 h)
      · rw [if_neg g19] at h
        refine zr_many 2 (pc' := 126) (L' := [some (.ref 161), some (.int ((5 : Int32) * (s.1 161 22))), none]) (st' := [.int (1 : Int32)]) (S1 := zS c (zsi s16 161 22 ((s16.1 161 22) + (1 : Int32)))) rfl ?_
        exact zr_wk [none, none, none] trivial (tX12_readsLock_J126 h)
  · rw [if_neg g1] at h
    refine zr_many 1 (pc' := 15) (L' := [some (.ref 161), none, none]) (st' := [.int (0 : Int32)]) (S1 := zS c s) rfl ?_
    obtain ⟨rfl, rfl⟩ := Prod.mk.inj (Option.some.inj h)
    exact zq_zret rfl (by decide)
def fX12_readsSinger_J125 (n : Nat) (s : zs) : Option (Int32 × zs) := some ((0 : Int32), s)
theorem tX12_readsSinger_J125 {n : Nat} {c : Nat × Nat} {s : zs} {r : Int32} {s' : zs} (h : fX12_readsSinger_J125 n s = some (r, s')) : zr kX12_readsSinger 2 3 125 [none, none] [] (zS c s) (some (.int r)) (zS c s') := by
  unfold fX12_readsSinger_J125 at h
  refine zr_many 1 (pc' := 126) (L' := [none, none]) (st' := [.int (0 : Int32)]) (S1 := zS c s) rfl ?_
  obtain ⟨rfl, rfl⟩ := Prod.mk.inj (Option.some.inj h)
  exact zq_zret rfl (by decide)
def fX12_readsSinger_J166 (n : Nat) (s : zs) (y0 : Int32) : Option (Int32 × zs) := if y0 = 0 ∨ y0 = 1 then some (y0, s) else none
theorem tX12_readsSinger_J166 {n : Nat} {c : Nat × Nat} {s : zs} {y0 : Int32} {r : Int32} {s' : zs} (h : fX12_readsSinger_J166 n s y0 = some (r, s')) : zr kX12_readsSinger 2 3 166 [none, none] [.int y0] (zS c s) (some (.int r)) (zS c s') := by
  unfold fX12_readsSinger_J166 at h
  obtain ⟨gz, h⟩ := zt_inv h
  obtain ⟨rfl, rfl⟩ := Prod.mk.inj (Option.some.inj h)
  exact zq_zret rfl gz
def fX12_readsSinger_J104 (n : Nat) (s : zs) (x1 : Int32) (y1 : Int32) (y2 : Int32) : Option (Int32 × zs) := cond (zi_in y1 40) (cond (zi_in (x1 + (2 : Int32)) 40) (if ((zsi s 172 y1.toNatClampNeg y2).1 172 (x1 + (2 : Int32)).toNatClampNeg) < 0 then fX12_readsSinger_J125 n (zsi s 172 y1.toNatClampNeg y2) else zb (fX12_takes n (zsi s 172 y1.toNatClampNeg y2) (58 : Int32)) (fun r18 s19 => if ¬ r18 = 0 then zb (fX12_number n s19 (2 : Int32)) (fun r22 s23 => cond (zi_in (x1 + (3 : Int32)) 40) (zt (zsi s23 172 (x1 + (3 : Int32)).toNatClampNeg r22) (fun s25 => cond (zi_in (x1 + (3 : Int32)) 40) (if ((zsi s25 161 22 ((s25.1 161 22) + (1 : Int32))).1 172 (x1 + (3 : Int32)).toNatClampNeg) < 0 then fX12_readsSinger_J166 n (zsi s25 161 22 ((s25.1 161 22) + (1 : Int32))) (0 : Int32) else fX12_readsSinger_J166 n (zsi s25 161 22 ((s25.1 161 22) + (1 : Int32))) (1 : Int32)) none)) none) else fX12_readsSinger_J125 n s19)) none) none
theorem tX12_readsSinger_J104 {n : Nat} {c : Nat × Nat} {s : zs} {x1 : Int32} {y1 : Int32} {y2 : Int32} {r : Int32} {s' : zs} (h : fX12_readsSinger_J104 n s x1 y1 y2 = some (r, s')) : zr kX12_readsSinger 2 3 104 [some (.ref 161), some (.int x1)] [.int y2, .int y1, .ref 172] (zS c s) (some (.int r)) (zS c s') := by
  unfold fX12_readsSinger_J104 at h
  obtain ⟨g29, h⟩ := zi_cond_inv h
  refine zq_ist rfl zh_172 rfl g29 rfl ?_
  refine zr_many 1 (pc' := 106) (L' := [some (.ref 161), some (.int x1)]) (st' := [.ref 161]) (S1 := zS c (zsi s 172 y1.toNatClampNeg y2)) rfl ?_
  refine zq_get rfl (zh_161 _) rfl rfl rfl ?_
  refine zr_many 3 (pc' := 112) (L' := [some (.ref 161), some (.int x1)]) (st' := [.int (x1 + (2 : Int32)), .ref 172]) (S1 := zS c (zsi s 172 y1.toNatClampNeg y2)) rfl ?_
  obtain ⟨g16, h⟩ := zi_cond_inv h
  refine zq_ild rfl (zh_172 _) rfl g16 rfl ?_
  refine zq_if1 (b := ((zsi s 172 y1.toNatClampNeg y2).1 172 (x1 + (2 : Int32)).toNatClampNeg) < 0) rfl Iff.rfl rfl (fun g17 => ?_) (fun g17 => ?_)
  · rw [if_pos g17] at h
    exact zr_wk [none, none] trivial (tX12_readsSinger_J125 h)
  · rw [if_neg g17] at h
    refine zr_many 2 (pc' := 119) (L' := [some (.ref 161), some (.int x1)]) (st' := [.int (58 : Int32), .ref 161]) (S1 := zS c (zsi s 172 y1.toNatClampNeg y2)) rfl ?_
    obtain ⟨r18, s19, g20, h⟩ := zb_inv h
    refine zq_call1 rfl rfl (zh_161 _) rfl rfl rfl ((tX12_takes g20).up (by decide)) rfl ?_
    refine zq_if1 (b := ¬ r18 = 0) rfl Iff.rfl rfl (fun g21 => ?_) (fun g21 => ?_)
    · rw [if_pos g21] at h
      refine zr_many 1 (pc' := 128) (L' := [some (.ref 161), some (.int x1)]) (st' := [.ref 161]) (S1 := zS c s19) rfl ?_
      refine zq_get rfl (zh_161 _) rfl rfl rfl ?_
      refine zr_many 5 (pc' := 136) (L' := [some (.ref 161), some (.int x1)]) (st' := [.int (2 : Int32), .ref 161, .int (x1 + (3 : Int32)), .ref 172]) (S1 := zS c s19) rfl ?_
      obtain ⟨r22, s23, g24, h⟩ := zb_inv h
      refine zq_call1 rfl rfl (zh_161 _) rfl rfl rfl (tX12_number g24) rfl ?_
      obtain ⟨g30, h⟩ := zi_cond_inv h
      refine zq_ist rfl zh_172 rfl g30 rfl ?_
      refine zr_many 2 (pc' := 142) (L' := [some (.ref 161), some (.int x1)]) (st' := [.ref 161, .ref 161]) (S1 := zS c (zsi s23 172 (x1 + (3 : Int32)).toNatClampNeg r22)) rfl ?_
      refine zq_get rfl (zh_161 _) rfl rfl rfl ?_
      refine zr_many 2 (pc' := 147) (L' := [some (.ref 161), some (.int x1)]) (st' := [.int (((zsi s23 172 (x1 + (3 : Int32)).toNatClampNeg r22).1 161 22) + (1 : Int32)), .ref 161]) (S1 := zS c (zsi s23 172 (x1 + (3 : Int32)).toNatClampNeg r22)) rfl ?_
      obtain ⟨s25, e26, h⟩ := zt_in h
      rw [← e26]
      refine zq_put (s' := (zsi s25 161 22 ((s25.1 161 22) + (1 : Int32)))) rfl (zh_161 _) rfl rfl rfl rfl zsi_ne rfl ?_
      refine zr_many 1 (pc' := 151) (L' := [some (.ref 161), some (.int x1)]) (st' := [.ref 161]) (S1 := zS c (zsi s25 161 22 ((s25.1 161 22) + (1 : Int32)))) rfl ?_
      refine zq_get rfl (zh_161 _) rfl rfl rfl ?_
      refine zr_many 3 (pc' := 157) (L' := [some (.ref 161), some (.int x1)]) (st' := [.int (x1 + (3 : Int32)), .ref 172]) (S1 := zS c (zsi s25 161 22 ((s25.1 161 22) + (1 : Int32)))) rfl ?_
      obtain ⟨g27, h⟩ := zi_cond_inv h
      refine zq_ild rfl (zh_172 _) rfl g27 rfl ?_
      refine zq_if1 (b := ((zsi s25 161 22 ((s25.1 161 22) + (1 : Int32))).1 172 (x1 + (3 : Int32)).toNatClampNeg) < 0) rfl Iff.rfl rfl (fun g28 => ?_) (fun g28 => ?_)
      · rw [if_pos g28] at h
        refine zr_many 1 (pc' := 166) (L' := [some (.ref 161), some (.int x1)]) (st' := [.int (0 : Int32)]) (S1 := zS c (zsi s25 161 22 ((s25.1 161 22) + (1 : Int32)))) rfl ?_
        exact zr_wk [none, none] trivial (tX12_readsSinger_J166 h)
      · rw [if_neg g28] at h
        refine zr_many 2 (pc' := 166) (L' := [some (.ref 161), some (.int x1)]) (st' := [.int (1 : Int32)]) (S1 := zS c (zsi s25 161 22 ((s25.1 161 22) + (1 : Int32)))) rfl ?_
        exact zr_wk [none, none] trivial (tX12_readsSinger_J166 h)
    · rw [if_neg g21] at h
      exact zr_wk [none, none] trivial (tX12_readsSinger_J125 h)
def fX12_readsSinger (n : Nat) (s : zs) : Option (Int32 × zs) := if ¬ ((s.1 161 4) + (s.1 161 22)) = (8 : Int32) then zb (fX12_signIn n s (97 : Int32) (0 : Int32) (25 : Int32)) (fun r2 s3 => cond (zi_in ((4 : Int32) * (s.1 161 22)) 40) (cond (zi_in ((4 : Int32) * (s.1 161 22)) 40) (if 0 ≤ ((zsi s3 172 ((4 : Int32) * (s.1 161 22)).toNatClampNeg r2).1 172 ((4 : Int32) * (s.1 161 22)).toNatClampNeg) then cond (zi_in ((4 : Int32) * (s.1 161 22)) 40) (zb (fX12_signIn n (zsi s3 172 ((4 : Int32) * (s.1 161 22)).toNatClampNeg r2) (97 : Int32) ((zsi s3 172 ((4 : Int32) * (s.1 161 22)).toNatClampNeg r2).1 172 ((4 : Int32) * (s.1 161 22)).toNatClampNeg) (25 : Int32)) (fun r8 s9 => cond (zi_in (((4 : Int32) * (s.1 161 22)) + (1 : Int32)) 40) (cond (zi_in (((4 : Int32) * (s.1 161 22)) + (1 : Int32)) 40) (if 0 ≤ ((zsi s9 172 (((4 : Int32) * (s.1 161 22)) + (1 : Int32)).toNatClampNeg r8).1 172 (((4 : Int32) * (s.1 161 22)) + (1 : Int32)).toNatClampNeg) then zb (fX12_signIn n (zsi s9 172 (((4 : Int32) * (s.1 161 22)) + (1 : Int32)).toNatClampNeg r8) (48 : Int32) (0 : Int32) ((zsi s9 172 (((4 : Int32) * (s.1 161 22)) + (1 : Int32)).toNatClampNeg r8).1 161 3)) (fun r13 s14 => fX12_readsSinger_J104 n s14 ((4 : Int32) * (s.1 161 22)) (((4 : Int32) * (s.1 161 22)) + (2 : Int32)) r13) else fX12_readsSinger_J104 n (zsi s9 172 (((4 : Int32) * (s.1 161 22)) + (1 : Int32)).toNatClampNeg r8) ((4 : Int32) * (s.1 161 22)) (((4 : Int32) * (s.1 161 22)) + (2 : Int32)) (-1 : Int32)) none) none)) none else some ((0 : Int32), (zsi s3 172 ((4 : Int32) * (s.1 161 22)).toNatClampNeg r2))) none) none) else some ((0 : Int32), s)
theorem tX12_readsSinger {n : Nat} {c : Nat × Nat} {s : zs} {r : Int32} {s' : zs} (h : fX12_readsSinger n s = some (r, s')) : zc 4 2428 [.ref 161] (zS c s) (some (.int r)) (zS c s') := by
  refine zc_of (k := kX12_readsSinger) (rt := 2) (L := [some (.ref 161), none]) zm_2428.1 rfl rfl (by decide) rfl rfl ?_
  unfold fX12_readsSinger at h
  refine zr_many 1 (pc' := 1) (L' := [some (.ref 161), none]) (st' := [.ref 161]) (S1 := zS c s) rfl ?_
  refine zq_get rfl (zh_161 _) rfl rfl rfl ?_
  refine zr_many 1 (pc' := 5) (L' := [some (.ref 161), none]) (st' := [.ref 161, .int (s.1 161 4)]) (S1 := zS c s) rfl ?_
  refine zq_get rfl (zh_161 _) rfl rfl rfl ?_
  refine zr_many 2 (pc' := 11) (L' := [some (.ref 161), none]) (st' := [.int (8 : Int32), .int ((s.1 161 4) + (s.1 161 22))]) (S1 := zS c s) rfl ?_
  refine zq_if2 (b := ¬ ((s.1 161 4) + (s.1 161 22)) = (8 : Int32)) rfl Iff.rfl rfl (fun g1 => ?_) (fun g1 => ?_)
  · rw [if_pos g1] at h
    refine zr_many 2 (pc' := 18) (L' := [some (.ref 161), none]) (st' := [.ref 161, .int (4 : Int32)]) (S1 := zS c s) rfl ?_
    refine zq_get rfl (zh_161 _) rfl rfl rfl ?_
    refine zr_many 3 (pc' := 24) (L' := [some (.ref 161), some (.int ((4 : Int32) * (s.1 161 22)))]) (st' := [.ref 161]) (S1 := zS c s) rfl ?_
    refine zq_get rfl (zh_161 _) rfl rfl rfl ?_
    refine zr_many 5 (pc' := 34) (L' := [some (.ref 161), some (.int ((4 : Int32) * (s.1 161 22)))]) (st' := [.int (25 : Int32), .int (0 : Int32), .int (97 : Int32), .ref 161, .int ((4 : Int32) * (s.1 161 22)), .ref 172]) (S1 := zS c s) rfl ?_
    obtain ⟨r2, s3, g4, h⟩ := zb_inv h
    refine zq_call1 rfl rfl (zh_161 _) rfl rfl rfl ((tX12_signIn g4).up (by decide)) rfl ?_
    obtain ⟨g31, h⟩ := zi_cond_inv h
    refine zq_ist rfl zh_172 rfl g31 rfl ?_
    refine zr_many 1 (pc' := 39) (L' := [some (.ref 161), some (.int ((4 : Int32) * (s.1 161 22)))]) (st' := [.ref 161]) (S1 := zS c (zsi s3 172 ((4 : Int32) * (s.1 161 22)).toNatClampNeg r2)) rfl ?_
    refine zq_get rfl (zh_161 _) rfl rfl rfl ?_
    refine zr_many 1 (pc' := 43) (L' := [some (.ref 161), some (.int ((4 : Int32) * (s.1 161 22)))]) (st' := [.int ((4 : Int32) * (s.1 161 22)), .ref 172]) (S1 := zS c (zsi s3 172 ((4 : Int32) * (s.1 161 22)).toNatClampNeg r2)) rfl ?_
    obtain ⟨g5, h⟩ := zi_cond_inv h
    refine zq_ild rfl (zh_172 _) rfl g5 rfl ?_
    refine zq_if1 (b := 0 ≤ ((zsi s3 172 ((4 : Int32) * (s.1 161 22)).toNatClampNeg r2).1 172 ((4 : Int32) * (s.1 161 22)).toNatClampNeg)) rfl Iff.rfl rfl (fun g6 => ?_) (fun g6 => ?_)
    · rw [if_pos g6] at h
      refine zr_many 1 (pc' := 50) (L' := [some (.ref 161), some (.int ((4 : Int32) * (s.1 161 22)))]) (st' := [.ref 161]) (S1 := zS c (zsi s3 172 ((4 : Int32) * (s.1 161 22)).toNatClampNeg r2)) rfl ?_
      refine zq_get rfl (zh_161 _) rfl rfl rfl ?_
      refine zr_many 6 (pc' := 60) (L' := [some (.ref 161), some (.int ((4 : Int32) * (s.1 161 22)))]) (st' := [.ref 161, .int (97 : Int32), .ref 161, .int (((4 : Int32) * (s.1 161 22)) + (1 : Int32)), .ref 172]) (S1 := zS c (zsi s3 172 ((4 : Int32) * (s.1 161 22)).toNatClampNeg r2)) rfl ?_
      refine zq_get rfl (zh_161 _) rfl rfl rfl ?_
      refine zr_many 1 (pc' := 64) (L' := [some (.ref 161), some (.int ((4 : Int32) * (s.1 161 22)))]) (st' := [.int ((4 : Int32) * (s.1 161 22)), .ref 172, .int (97 : Int32), .ref 161, .int (((4 : Int32) * (s.1 161 22)) + (1 : Int32)), .ref 172]) (S1 := zS c (zsi s3 172 ((4 : Int32) * (s.1 161 22)).toNatClampNeg r2)) rfl ?_
      obtain ⟨g7, h⟩ := zi_cond_inv h
      refine zq_ild rfl (zh_172 _) rfl g7 rfl ?_
      refine zr_many 1 (pc' := 67) (L' := [some (.ref 161), some (.int ((4 : Int32) * (s.1 161 22)))]) (st' := [.int (25 : Int32), .int ((zsi s3 172 ((4 : Int32) * (s.1 161 22)).toNatClampNeg r2).1 172 ((4 : Int32) * (s.1 161 22)).toNatClampNeg), .int (97 : Int32), .ref 161, .int (((4 : Int32) * (s.1 161 22)) + (1 : Int32)), .ref 172]) (S1 := zS c (zsi s3 172 ((4 : Int32) * (s.1 161 22)).toNatClampNeg r2)) rfl ?_
      obtain ⟨r8, s9, g10, h⟩ := zb_inv h
      refine zq_call1 rfl rfl (zh_161 _) rfl rfl rfl ((tX12_signIn g10).up (by decide)) rfl ?_
      obtain ⟨g32, h⟩ := zi_cond_inv h
      refine zq_ist rfl zh_172 rfl g32 rfl ?_
      refine zr_many 1 (pc' := 72) (L' := [some (.ref 161), some (.int ((4 : Int32) * (s.1 161 22)))]) (st' := [.ref 161]) (S1 := zS c (zsi s9 172 (((4 : Int32) * (s.1 161 22)) + (1 : Int32)).toNatClampNeg r8)) rfl ?_
      refine zq_get rfl (zh_161 _) rfl rfl rfl ?_
      refine zr_many 4 (pc' := 79) (L' := [some (.ref 161), some (.int ((4 : Int32) * (s.1 161 22)))]) (st' := [.ref 161, .int (((4 : Int32) * (s.1 161 22)) + (2 : Int32)), .ref 172]) (S1 := zS c (zsi s9 172 (((4 : Int32) * (s.1 161 22)) + (1 : Int32)).toNatClampNeg r8)) rfl ?_
      refine zq_get rfl (zh_161 _) rfl rfl rfl ?_
      refine zr_many 3 (pc' := 85) (L' := [some (.ref 161), some (.int ((4 : Int32) * (s.1 161 22)))]) (st' := [.int (((4 : Int32) * (s.1 161 22)) + (1 : Int32)), .ref 172, .int (((4 : Int32) * (s.1 161 22)) + (2 : Int32)), .ref 172]) (S1 := zS c (zsi s9 172 (((4 : Int32) * (s.1 161 22)) + (1 : Int32)).toNatClampNeg r8)) rfl ?_
      obtain ⟨g11, h⟩ := zi_cond_inv h
      refine zq_ild rfl (zh_172 _) rfl g11 rfl ?_
      refine zq_if1 (b := 0 ≤ ((zsi s9 172 (((4 : Int32) * (s.1 161 22)) + (1 : Int32)).toNatClampNeg r8).1 172 (((4 : Int32) * (s.1 161 22)) + (1 : Int32)).toNatClampNeg)) rfl Iff.rfl rfl (fun g12 => ?_) (fun g12 => ?_)
      · rw [if_pos g12] at h
        refine zr_many 4 (pc' := 98) (L' := [some (.ref 161), some (.int ((4 : Int32) * (s.1 161 22)))]) (st' := [.ref 161, .int (0 : Int32), .int (48 : Int32), .ref 161, .int (((4 : Int32) * (s.1 161 22)) + (2 : Int32)), .ref 172]) (S1 := zS c (zsi s9 172 (((4 : Int32) * (s.1 161 22)) + (1 : Int32)).toNatClampNeg r8)) rfl ?_
        refine zq_get rfl (zh_161 _) rfl rfl rfl ?_
        obtain ⟨r13, s14, g15, h⟩ := zb_inv h
        refine zq_call1 rfl rfl (zh_161 _) rfl rfl rfl ((tX12_signIn g15).up (by decide)) rfl ?_
        exact zr_wk [some (.ref 161), some (.int ((4 : Int32) * (s.1 161 22)))] ⟨rfl, rfl, trivial⟩ (tX12_readsSinger_J104 h)
      · rw [if_neg g12] at h
        refine zr_many 2 (pc' := 104) (L' := [some (.ref 161), some (.int ((4 : Int32) * (s.1 161 22)))]) (st' := [.int (-1 : Int32), .int (((4 : Int32) * (s.1 161 22)) + (2 : Int32)), .ref 172]) (S1 := zS c (zsi s9 172 (((4 : Int32) * (s.1 161 22)) + (1 : Int32)).toNatClampNeg r8)) rfl ?_
        exact zr_wk [some (.ref 161), some (.int ((4 : Int32) * (s.1 161 22)))] ⟨rfl, rfl, trivial⟩ (tX12_readsSinger_J104 h)
    · rw [if_neg g6] at h
      refine zr_many 1 (pc' := 48) (L' := [some (.ref 161), some (.int ((4 : Int32) * (s.1 161 22)))]) (st' := [.int (0 : Int32)]) (S1 := zS c (zsi s3 172 ((4 : Int32) * (s.1 161 22)).toNatClampNeg r2)) rfl ?_
      obtain ⟨rfl, rfl⟩ := Prod.mk.inj (Option.some.inj h)
      exact zq_zret rfl (by decide)
  · rw [if_neg g1] at h
    refine zr_many 1 (pc' := 15) (L' := [some (.ref 161), none]) (st' := [.int (0 : Int32)]) (S1 := zS c s) rfl ?_
    obtain ⟨rfl, rfl⟩ := Prod.mk.inj (Option.some.inj h)
    exact zq_zret rfl (by decide)
def fX12_readsBarge_J91 (n : Nat) (s : zs) (y0 : Int32) : Option (Int32 × zs) := if y0 = 0 ∨ y0 = 1 then some (y0, s) else none
theorem tX12_readsBarge_J91 {n : Nat} {c : Nat × Nat} {s : zs} {y0 : Int32} {r : Int32} {s' : zs} (h : fX12_readsBarge_J91 n s y0 = some (r, s')) : zr kX12_readsBarge 2 3 91 [none, none] [.int y0] (zS c s) (some (.int r)) (zS c s') := by
  unfold fX12_readsBarge_J91 at h
  obtain ⟨gz, h⟩ := zt_inv h
  obtain ⟨rfl, rfl⟩ := Prod.mk.inj (Option.some.inj h)
  exact zq_zret rfl gz
def fX12_readsBarge_J64 (n : Nat) (s : zs) (x1 : Int32) (y1 : Int32) (y2 : Int32) : Option (Int32 × zs) := cond (zi_in y1 40) (zt (zsi s 172 y1.toNatClampNeg y2) (fun s10 => cond (zi_in (x1 + (1 : Int32)) 40) (if ((zsi s10 161 22 ((s10.1 161 22) + (1 : Int32))).1 172 (x1 + (1 : Int32)).toNatClampNeg) < 0 then fX12_readsBarge_J91 n (zsi s10 161 22 ((s10.1 161 22) + (1 : Int32))) (0 : Int32) else fX12_readsBarge_J91 n (zsi s10 161 22 ((s10.1 161 22) + (1 : Int32))) (1 : Int32)) none)) none
theorem tX12_readsBarge_J64 {n : Nat} {c : Nat × Nat} {s : zs} {x1 : Int32} {y1 : Int32} {y2 : Int32} {r : Int32} {s' : zs} (h : fX12_readsBarge_J64 n s x1 y1 y2 = some (r, s')) : zr kX12_readsBarge 2 3 64 [some (.ref 161), some (.int x1)] [.int y2, .int y1, .ref 172] (zS c s) (some (.int r)) (zS c s') := by
  unfold fX12_readsBarge_J64 at h
  obtain ⟨g14, h⟩ := zi_cond_inv h
  refine zq_ist rfl zh_172 rfl g14 rfl ?_
  refine zr_many 2 (pc' := 67) (L' := [some (.ref 161), some (.int x1)]) (st' := [.ref 161, .ref 161]) (S1 := zS c (zsi s 172 y1.toNatClampNeg y2)) rfl ?_
  refine zq_get rfl (zh_161 _) rfl rfl rfl ?_
  refine zr_many 2 (pc' := 72) (L' := [some (.ref 161), some (.int x1)]) (st' := [.int (((zsi s 172 y1.toNatClampNeg y2).1 161 22) + (1 : Int32)), .ref 161]) (S1 := zS c (zsi s 172 y1.toNatClampNeg y2)) rfl ?_
  obtain ⟨s10, e11, h⟩ := zt_in h
  rw [← e11]
  refine zq_put (s' := (zsi s10 161 22 ((s10.1 161 22) + (1 : Int32)))) rfl (zh_161 _) rfl rfl rfl rfl zsi_ne rfl ?_
  refine zr_many 1 (pc' := 76) (L' := [some (.ref 161), some (.int x1)]) (st' := [.ref 161]) (S1 := zS c (zsi s10 161 22 ((s10.1 161 22) + (1 : Int32)))) rfl ?_
  refine zq_get rfl (zh_161 _) rfl rfl rfl ?_
  refine zr_many 3 (pc' := 82) (L' := [some (.ref 161), some (.int x1)]) (st' := [.int (x1 + (1 : Int32)), .ref 172]) (S1 := zS c (zsi s10 161 22 ((s10.1 161 22) + (1 : Int32)))) rfl ?_
  obtain ⟨g12, h⟩ := zi_cond_inv h
  refine zq_ild rfl (zh_172 _) rfl g12 rfl ?_
  refine zq_if1 (b := ((zsi s10 161 22 ((s10.1 161 22) + (1 : Int32))).1 172 (x1 + (1 : Int32)).toNatClampNeg) < 0) rfl Iff.rfl rfl (fun g13 => ?_) (fun g13 => ?_)
  · rw [if_pos g13] at h
    refine zr_many 1 (pc' := 91) (L' := [some (.ref 161), some (.int x1)]) (st' := [.int (0 : Int32)]) (S1 := zS c (zsi s10 161 22 ((s10.1 161 22) + (1 : Int32)))) rfl ?_
    exact zr_wk [none, none] trivial (tX12_readsBarge_J91 h)
  · rw [if_neg g13] at h
    refine zr_many 2 (pc' := 91) (L' := [some (.ref 161), some (.int x1)]) (st' := [.int (1 : Int32)]) (S1 := zS c (zsi s10 161 22 ((s10.1 161 22) + (1 : Int32)))) rfl ?_
    exact zr_wk [none, none] trivial (tX12_readsBarge_J91 h)
def fX12_readsBarge (n : Nat) (s : zs) : Option (Int32 × zs) := if ¬ ((s.1 161 5) + (s.1 161 22)) = (4 : Int32) then zb (fX12_signIn n s (48 : Int32) (0 : Int32) (s.1 161 3)) (fun r2 s3 => cond (zi_in ((2 : Int32) * (s.1 161 22)) 40) (cond (zi_in ((2 : Int32) * (s.1 161 22)) 40) (if 0 ≤ ((zsi s3 172 ((2 : Int32) * (s.1 161 22)).toNatClampNeg r2).1 172 ((2 : Int32) * (s.1 161 22)).toNatClampNeg) then zb (fX12_number n (zsi s3 172 ((2 : Int32) * (s.1 161 22)).toNatClampNeg r2) (1 : Int32)) (fun r7 s8 => fX12_readsBarge_J64 n s8 ((2 : Int32) * (s.1 161 22)) (((2 : Int32) * (s.1 161 22)) + (1 : Int32)) r7) else fX12_readsBarge_J64 n (zsi s3 172 ((2 : Int32) * (s.1 161 22)).toNatClampNeg r2) ((2 : Int32) * (s.1 161 22)) (((2 : Int32) * (s.1 161 22)) + (1 : Int32)) (-1 : Int32)) none) none) else some ((0 : Int32), s)
theorem tX12_readsBarge {n : Nat} {c : Nat × Nat} {s : zs} {r : Int32} {s' : zs} (h : fX12_readsBarge n s = some (r, s')) : zc 4 2429 [.ref 161] (zS c s) (some (.int r)) (zS c s') := by
  refine zc_of (k := kX12_readsBarge) (rt := 2) (L := [some (.ref 161), none]) zm_2429.1 rfl rfl (by decide) rfl rfl ?_
  unfold fX12_readsBarge at h
  refine zr_many 1 (pc' := 1) (L' := [some (.ref 161), none]) (st' := [.ref 161]) (S1 := zS c s) rfl ?_
  refine zq_get rfl (zh_161 _) rfl rfl rfl ?_
  refine zr_many 1 (pc' := 5) (L' := [some (.ref 161), none]) (st' := [.ref 161, .int (s.1 161 5)]) (S1 := zS c s) rfl ?_
  refine zq_get rfl (zh_161 _) rfl rfl rfl ?_
  refine zr_many 2 (pc' := 10) (L' := [some (.ref 161), none]) (st' := [.int (4 : Int32), .int ((s.1 161 5) + (s.1 161 22))]) (S1 := zS c s) rfl ?_
  refine zq_if2 (b := ¬ ((s.1 161 5) + (s.1 161 22)) = (4 : Int32)) rfl Iff.rfl rfl (fun g1 => ?_) (fun g1 => ?_)
  · rw [if_pos g1] at h
    refine zr_many 2 (pc' := 17) (L' := [some (.ref 161), none]) (st' := [.ref 161, .int (2 : Int32)]) (S1 := zS c s) rfl ?_
    refine zq_get rfl (zh_161 _) rfl rfl rfl ?_
    refine zr_many 3 (pc' := 23) (L' := [some (.ref 161), some (.int ((2 : Int32) * (s.1 161 22)))]) (st' := [.ref 161]) (S1 := zS c s) rfl ?_
    refine zq_get rfl (zh_161 _) rfl rfl rfl ?_
    refine zr_many 5 (pc' := 32) (L' := [some (.ref 161), some (.int ((2 : Int32) * (s.1 161 22)))]) (st' := [.ref 161, .int (0 : Int32), .int (48 : Int32), .ref 161, .int ((2 : Int32) * (s.1 161 22)), .ref 172]) (S1 := zS c s) rfl ?_
    refine zq_get rfl (zh_161 _) rfl rfl rfl ?_
    obtain ⟨r2, s3, g4, h⟩ := zb_inv h
    refine zq_call1 rfl rfl (zh_161 _) rfl rfl rfl ((tX12_signIn g4).up (by decide)) rfl ?_
    obtain ⟨g15, h⟩ := zi_cond_inv h
    refine zq_ist rfl zh_172 rfl g15 rfl ?_
    refine zr_many 1 (pc' := 40) (L' := [some (.ref 161), some (.int ((2 : Int32) * (s.1 161 22)))]) (st' := [.ref 161]) (S1 := zS c (zsi s3 172 ((2 : Int32) * (s.1 161 22)).toNatClampNeg r2)) rfl ?_
    refine zq_get rfl (zh_161 _) rfl rfl rfl ?_
    refine zr_many 4 (pc' := 47) (L' := [some (.ref 161), some (.int ((2 : Int32) * (s.1 161 22)))]) (st' := [.ref 161, .int (((2 : Int32) * (s.1 161 22)) + (1 : Int32)), .ref 172]) (S1 := zS c (zsi s3 172 ((2 : Int32) * (s.1 161 22)).toNatClampNeg r2)) rfl ?_
    refine zq_get rfl (zh_161 _) rfl rfl rfl ?_
    refine zr_many 1 (pc' := 51) (L' := [some (.ref 161), some (.int ((2 : Int32) * (s.1 161 22)))]) (st' := [.int ((2 : Int32) * (s.1 161 22)), .ref 172, .int (((2 : Int32) * (s.1 161 22)) + (1 : Int32)), .ref 172]) (S1 := zS c (zsi s3 172 ((2 : Int32) * (s.1 161 22)).toNatClampNeg r2)) rfl ?_
    obtain ⟨g5, h⟩ := zi_cond_inv h
    refine zq_ild rfl (zh_172 _) rfl g5 rfl ?_
    refine zq_if1 (b := 0 ≤ ((zsi s3 172 ((2 : Int32) * (s.1 161 22)).toNatClampNeg r2).1 172 ((2 : Int32) * (s.1 161 22)).toNatClampNeg)) rfl Iff.rfl rfl (fun g6 => ?_) (fun g6 => ?_)
    · rw [if_pos g6] at h
      refine zr_many 2 (pc' := 61) (L' := [some (.ref 161), some (.int ((2 : Int32) * (s.1 161 22)))]) (st' := [.int (1 : Int32), .ref 161, .int (((2 : Int32) * (s.1 161 22)) + (1 : Int32)), .ref 172]) (S1 := zS c (zsi s3 172 ((2 : Int32) * (s.1 161 22)).toNatClampNeg r2)) rfl ?_
      obtain ⟨r7, s8, g9, h⟩ := zb_inv h
      refine zq_call1 rfl rfl (zh_161 _) rfl rfl rfl (tX12_number g9) rfl ?_
      exact zr_wk [some (.ref 161), some (.int ((2 : Int32) * (s.1 161 22)))] ⟨rfl, rfl, trivial⟩ (tX12_readsBarge_J64 h)
    · rw [if_neg g6] at h
      refine zr_many 2 (pc' := 64) (L' := [some (.ref 161), some (.int ((2 : Int32) * (s.1 161 22)))]) (st' := [.int (-1 : Int32), .int (((2 : Int32) * (s.1 161 22)) + (1 : Int32)), .ref 172]) (S1 := zS c (zsi s3 172 ((2 : Int32) * (s.1 161 22)).toNatClampNeg r2)) rfl ?_
      exact zr_wk [some (.ref 161), some (.int ((2 : Int32) * (s.1 161 22)))] ⟨rfl, rfl, trivial⟩ (tX12_readsBarge_J64 h)
  · rw [if_neg g1] at h
    refine zr_many 1 (pc' := 14) (L' := [some (.ref 161), none]) (st' := [.int (0 : Int32)]) (S1 := zS c s) rfl ?_
    obtain ⟨rfl, rfl⟩ := Prod.mk.inj (Option.some.inj h)
    exact zq_zret rfl (by decide)
def fX12_readsLines_J78 (n : Nat) (s : zs) (x1 : Int32) (x2 : Int32) (x3 : Int32) (x4 : Int32) (y0 : Int32) : Option ((Int32 × Int32 × zs) ⊕ (Int32 × zs)) := some (Sum.inl (x4, y0, s))
theorem tX12_readsLines_J78 {n : Nat} {c : Nat × Nat} {s : zs} {x1 : Int32} {x2 : Int32} {x3 : Int32} {x4 : Int32} {y0 : Int32} {o : _} {v : Option Value} {S' : zi_S} (h : fX12_readsLines_J78 n s x1 x2 x3 x4 y0 = some o) (hn : ∀ w25, o = Sum.inl w25 → zr kX12_readsLines 1 4 25 [some (.ref 161), some (.int x1), some (.int x2), some (.int x3), some (.int w25.1), some (.int w25.2.1)] [] (zS c w25.2.2) v S') (hx : ∀ z, o = Sum.inr z → (fun z => zr kX12_readsLines 1 4 83 [some (.ref 161), none, some (.int x2), some (.int x3), some (.int z.1), none] [] (zS c z.2) v S') z) : zr kX12_readsLines 1 4 78 [some (.ref 161), some (.int x1), some (.int x2), some (.int x3), some (.int x4), none] [.int y0] (zS c s) v S' := by
  unfold fX12_readsLines_J78 at h
  refine zr_many 2 (pc' := 25) (L' := [some (.ref 161), some (.int x1), some (.int x2), some (.int x3), some (.int x4), some (.int y0)]) (st' := []) (S1 := zS c s) rfl ?_
  obtain rfl := Option.some.inj h
  exact zr_wk [some (.ref 161), some (.int x1), some (.int x2), some (.int x3), some (.int x4), some (.int y0)] ⟨rfl, rfl, rfl, rfl, rfl, rfl, trivial⟩ (hn (x4, y0, s) rfl)
def fX12_readsLines_J77 (n : Nat) (s : zs) (x1 : Int32) (x2 : Int32) (x3 : Int32) (x4 : Int32) : Option ((Int32 × Int32 × zs) ⊕ (Int32 × zs)) := fX12_readsLines_J78 n s x1 x2 x3 x4 (0 : Int32)
theorem tX12_readsLines_J77 {n : Nat} {c : Nat × Nat} {s : zs} {x1 : Int32} {x2 : Int32} {x3 : Int32} {x4 : Int32} {o : _} {v : Option Value} {S' : zi_S} (h : fX12_readsLines_J77 n s x1 x2 x3 x4 = some o) (hn : ∀ w25, o = Sum.inl w25 → zr kX12_readsLines 1 4 25 [some (.ref 161), some (.int x1), some (.int x2), some (.int x3), some (.int w25.1), some (.int w25.2.1)] [] (zS c w25.2.2) v S') (hx : ∀ z, o = Sum.inr z → (fun z => zr kX12_readsLines 1 4 83 [some (.ref 161), none, some (.int x2), some (.int x3), some (.int z.1), none] [] (zS c z.2) v S') z) : zr kX12_readsLines 1 4 77 [some (.ref 161), some (.int x1), some (.int x2), some (.int x3), some (.int x4), none] [] (zS c s) v S' := by
  unfold fX12_readsLines_J77 at h
  refine zr_many 1 (pc' := 78) (L' := [some (.ref 161), some (.int x1), some (.int x2), some (.int x3), some (.int x4), none]) (st' := [.int (0 : Int32)]) (S1 := zS c s) rfl ?_
  exact zr_wk [some (.ref 161), some (.int x1), some (.int x2), some (.int x3), some (.int x4), none] ⟨rfl, rfl, rfl, rfl, rfl, trivial⟩ (tX12_readsLines_J78 h hn hx)
def fX12_readsLines_J57 (n : Nat) (s : zs) (x1 : Int32) (x2 : Int32) (x3 : Int32) (y0 : Int32) : Option ((Int32 × Int32 × zs) ⊕ (Int32 × zs)) := if y0 = 0 then fX12_readsLines_J77 n s x1 x2 x3 y0 else zb (fX12_takes n s (59 : Int32)) (fun r12 s13 => if r12 = 0 then fX12_readsLines_J77 n s13 x1 x2 x3 y0 else fX12_readsLines_J78 n s13 x1 x2 x3 y0 (1 : Int32))
theorem tX12_readsLines_J57 {n : Nat} {c : Nat × Nat} {s : zs} {x1 : Int32} {x2 : Int32} {x3 : Int32} {y0 : Int32} {o : _} {v : Option Value} {S' : zi_S} (h : fX12_readsLines_J57 n s x1 x2 x3 y0 = some o) (hn : ∀ w25, o = Sum.inl w25 → zr kX12_readsLines 1 4 25 [some (.ref 161), some (.int x1), some (.int x2), some (.int x3), some (.int w25.1), some (.int w25.2.1)] [] (zS c w25.2.2) v S') (hx : ∀ z, o = Sum.inr z → (fun z => zr kX12_readsLines 1 4 83 [some (.ref 161), none, some (.int x2), some (.int x3), some (.int z.1), none] [] (zS c z.2) v S') z) : zr kX12_readsLines 1 4 57 [some (.ref 161), some (.int x1), some (.int x2), some (.int x3), none, none] [.int y0] (zS c s) v S' := by
  unfold fX12_readsLines_J57 at h
  refine zr_many 2 (pc' := 61) (L' := [some (.ref 161), some (.int x1), some (.int x2), some (.int x3), some (.int y0), none]) (st' := [.int y0]) (S1 := zS c s) rfl ?_
  refine zq_if1 (b := y0 = 0) rfl Iff.rfl rfl (fun g11 => ?_) (fun g11 => ?_)
  · rw [if_pos g11] at h
    exact zr_wk [some (.ref 161), some (.int x1), some (.int x2), some (.int x3), some (.int y0), none] ⟨rfl, rfl, rfl, rfl, rfl, trivial⟩ (tX12_readsLines_J77 h hn hx)
  · rw [if_neg g11] at h
    refine zr_many 2 (pc' := 67) (L' := [some (.ref 161), some (.int x1), some (.int x2), some (.int x3), some (.int y0), none]) (st' := [.int (59 : Int32), .ref 161]) (S1 := zS c s) rfl ?_
    obtain ⟨r12, s13, g14, h⟩ := zb_inv h
    refine zq_call1 rfl rfl (zh_161 _) rfl rfl rfl ((tX12_takes g14).up (by decide)) rfl ?_
    refine zq_if1 (b := r12 = 0) rfl Iff.rfl rfl (fun g15 => ?_) (fun g15 => ?_)
    · rw [if_pos g15] at h
      exact zr_wk [some (.ref 161), some (.int x1), some (.int x2), some (.int x3), some (.int y0), none] ⟨rfl, rfl, rfl, rfl, rfl, trivial⟩ (tX12_readsLines_J77 h hn hx)
    · rw [if_neg g15] at h
      refine zr_many 2 (pc' := 78) (L' := [some (.ref 161), some (.int x1), some (.int x2), some (.int x3), some (.int y0), none]) (st' := [.int (1 : Int32)]) (S1 := zS c s13) rfl ?_
      exact zr_wk [some (.ref 161), some (.int x1), some (.int x2), some (.int x3), some (.int y0), none] ⟨rfl, rfl, rfl, rfl, rfl, trivial⟩ (tX12_readsLines_J78 h hn hx)
def fX12_readsLines_B25 (n : Nat) (x1 : Int32) (x2 : Int32) (x3 : Int32) (w25 : Int32 × Int32 × zs) : Option ((Int32 × Int32 × zs) ⊕ (Int32 × zs)) := if w25.2.1 = 0 then some (Sum.inr (w25.1, w25.2.2)) else if ¬ x1 = 0 then if ¬ x1 = (1 : Int32) then zb (fX12_readsBarge n w25.2.2) (fun r8 s9 => fX12_readsLines_J57 n s9 x1 x2 x3 r8) else zb (fX12_readsSinger n w25.2.2) (fun r16 s17 => fX12_readsLines_J57 n s17 x1 x2 x3 r16) else zb (fX12_readsLock n w25.2.2) (fun r19 s20 => fX12_readsLines_J57 n s20 x1 x2 x3 r19)
theorem tX12_readsLines_B25 {n : Nat} {c : Nat × Nat} {x1 : Int32} {x2 : Int32} {x3 : Int32} {w25 : Int32 × Int32 × zs} {o : _} {v : Option Value} {S' : zi_S} (h : fX12_readsLines_B25 n x1 x2 x3 w25 = some o) (hn : ∀ w25, o = Sum.inl w25 → zr kX12_readsLines 1 4 25 [some (.ref 161), some (.int x1), some (.int x2), some (.int x3), some (.int w25.1), some (.int w25.2.1)] [] (zS c w25.2.2) v S') (hx : ∀ z, o = Sum.inr z → (fun z => zr kX12_readsLines 1 4 83 [some (.ref 161), none, some (.int x2), some (.int x3), some (.int z.1), none] [] (zS c z.2) v S') z) : zr kX12_readsLines 1 4 25 [some (.ref 161), some (.int x1), some (.int x2), some (.int x3), some (.int w25.1), some (.int w25.2.1)] [] (zS c w25.2.2) v S' := by
  unfold fX12_readsLines_B25 at h
  refine zr_many 1 (pc' := 27) (L' := [some (.ref 161), some (.int x1), some (.int x2), some (.int x3), some (.int w25.1), some (.int w25.2.1)]) (st' := [.int w25.2.1]) (S1 := zS c w25.2.2) rfl ?_
  refine zq_if1 (b := w25.2.1 = 0) rfl Iff.rfl rfl (fun g5 => ?_) (fun g5 => ?_)
  · rw [if_pos g5] at h
    obtain rfl := Option.some.inj h
    exact zr_wk [some (.ref 161), none, some (.int x2), some (.int x3), some (.int w25.1), none] ⟨rfl, rfl, rfl, rfl, trivial⟩ (hx (w25.1, w25.2.2) rfl)
  · rw [if_neg g5] at h
    refine zr_many 1 (pc' := 31) (L' := [some (.ref 161), some (.int x1), some (.int x2), some (.int x3), some (.int w25.1), some (.int w25.2.1)]) (st' := [.int x1]) (S1 := zS c w25.2.2) rfl ?_
    refine zq_if1 (b := ¬ x1 = 0) rfl Iff.rfl rfl (fun g6 => ?_) (fun g6 => ?_)
    · rw [if_pos g6] at h
      refine zr_many 2 (pc' := 43) (L' := [some (.ref 161), some (.int x1), some (.int x2), some (.int x3), some (.int w25.1), some (.int w25.2.1)]) (st' := [.int (1 : Int32), .int x1]) (S1 := zS c w25.2.2) rfl ?_
      refine zq_if2 (b := ¬ x1 = (1 : Int32)) rfl Iff.rfl rfl (fun g7 => ?_) (fun g7 => ?_)
      · rw [if_pos g7] at h
        refine zr_many 1 (pc' := 54) (L' := [some (.ref 161), some (.int x1), some (.int x2), some (.int x3), some (.int w25.1), some (.int w25.2.1)]) (st' := [.ref 161]) (S1 := zS c w25.2.2) rfl ?_
        obtain ⟨r8, s9, g10, h⟩ := zb_inv h
        refine zq_call1 rfl rfl (zh_161 _) rfl rfl rfl (tX12_readsBarge g10) rfl ?_
        exact zr_wk [some (.ref 161), some (.int x1), some (.int x2), some (.int x3), none, none] ⟨rfl, rfl, rfl, rfl, trivial⟩ (tX12_readsLines_J57 h hn hx)
      · rw [if_neg g7] at h
        refine zr_many 1 (pc' := 47) (L' := [some (.ref 161), some (.int x1), some (.int x2), some (.int x3), some (.int w25.1), some (.int w25.2.1)]) (st' := [.ref 161]) (S1 := zS c w25.2.2) rfl ?_
        obtain ⟨r16, s17, g18, h⟩ := zb_inv h
        refine zq_call1 rfl rfl (zh_161 _) rfl rfl rfl (tX12_readsSinger g18) rfl ?_
        refine zr_many 1 (pc' := 57) (L' := [some (.ref 161), some (.int x1), some (.int x2), some (.int x3), some (.int w25.1), some (.int w25.2.1)]) (st' := [.int r16]) (S1 := zS c s17) rfl ?_
        exact zr_wk [some (.ref 161), some (.int x1), some (.int x2), some (.int x3), none, none] ⟨rfl, rfl, rfl, rfl, trivial⟩ (tX12_readsLines_J57 h hn hx)
    · rw [if_neg g6] at h
      refine zr_many 1 (pc' := 35) (L' := [some (.ref 161), some (.int x1), some (.int x2), some (.int x3), some (.int w25.1), some (.int w25.2.1)]) (st' := [.ref 161]) (S1 := zS c w25.2.2) rfl ?_
      obtain ⟨r19, s20, g21, h⟩ := zb_inv h
      refine zq_call1 rfl rfl (zh_161 _) rfl rfl rfl ((tX12_readsLock g21).up (by decide)) rfl ?_
      refine zr_many 1 (pc' := 57) (L' := [some (.ref 161), some (.int x1), some (.int x2), some (.int x3), some (.int w25.1), some (.int w25.2.1)]) (st' := [.int r19]) (S1 := zS c s20) rfl ?_
      exact zr_wk [some (.ref 161), some (.int x1), some (.int x2), some (.int x3), none, none] ⟨rfl, rfl, rfl, rfl, trivial⟩ (tX12_readsLines_J57 h hn hx)
def fX12_readsLines_J23 (n : Nat) (s : zs) (x1 : Int32) (x2 : Int32) (x3 : Int32) (x4 : Int32) (y0 : Int32) : Option (Int32 × zs) := zp (zl (fX12_readsLines_B25 n x1 x2 x3) n (x4, y0, s)) (fun w22 => zp (fX12_faultOf n w22.2 x3 x2 w22.1) (fun r23 => some (r23, w22.2)))
theorem tX12_readsLines_J23 {n : Nat} {c : Nat × Nat} {s : zs} {x1 : Int32} {x2 : Int32} {x3 : Int32} {x4 : Int32} {y0 : Int32} {r : Int32} {s' : zs} (h : fX12_readsLines_J23 n s x1 x2 x3 x4 y0 = some (r, s')) : zr kX12_readsLines 1 4 23 [some (.ref 161), some (.int x1), some (.int x2), some (.int x3), some (.int x4), none] [.int y0] (zS c s) (some (.int r)) (zS c s') := by
  unfold fX12_readsLines_J23 at h
  refine zr_many 1 (pc' := 25) (L' := [some (.ref 161), some (.int x1), some (.int x2), some (.int x3), some (.int x4), some (.int y0)]) (st' := []) (S1 := zS c s) rfl ?_
  obtain ⟨w22, g26, h⟩ := zp_inv h
  refine zr_wk [some (.ref 161), some (.int x1), some (.int x2), some (.int x3), some (.int x4), some (.int y0)] ⟨rfl, rfl, rfl, rfl, rfl, rfl, trivial⟩ (zl_cert (Z := fun w25 => zr kX12_readsLines 1 4 25 [some (.ref 161), some (.int x1), some (.int x2), some (.int x3), some (.int w25.1), some (.int w25.2.1)] [] (zS c w25.2.2) _ _) (Y := (fun z => zr kX12_readsLines 1 4 83 [some (.ref 161), none, some (.int x2), some (.int x3), some (.int z.1), none] [] (zS c z.2) _ _)) (fun w o h1 h2 h3 => tX12_readsLines_B25 h1 h2 h3) n _ _ g26 ?_)
  show zr kX12_readsLines 1 4 83 [some (.ref 161), none, some (.int x2), some (.int x3), some (.int w22.1), none] [] (zS c w22.2) _ _
  refine zr_many 4 (pc' := 88) (L' := [some (.ref 161), none, some (.int x2), some (.int x3), some (.int w22.1), none]) (st' := [.int w22.1, .int x2, .int x3, .ref 161]) (S1 := zS c w22.2) rfl ?_
  obtain ⟨r23, g25, h⟩ := zp_inv h
  refine zq_call1 rfl rfl (zh_161 _) rfl rfl rfl ((tX12_faultOf g25).up (by decide)) rfl ?_
  obtain ⟨rfl, rfl⟩ := Prod.mk.inj (Option.some.inj h)
  exact zq_iret rfl
def fX12_readsLines (n : Nat) (s : zs) (x1 : Int32) (x2 : Int32) : Option (Int32 × zs) := zb (fX12_begins n s x2) (fun r1 s2 => if r1 ≤ 0 then fX12_readsLines_J23 n (zsi s2 161 22 (0 : Int32)) x1 x2 r1 (1 : Int32) (0 : Int32) else fX12_readsLines_J23 n (zsi s2 161 22 (0 : Int32)) x1 x2 r1 (1 : Int32) (1 : Int32))
theorem tX12_readsLines {n : Nat} {c : Nat × Nat} {s : zs} {x1 : Int32} {x2 : Int32} {r : Int32} {s' : zs} (h : fX12_readsLines n s x1 x2 = some (r, s')) : zc 5 2430 [.ref 161, .int x1, .int x2] (zS c s) (some (.int r)) (zS c s') := by
  refine zc_of (k := kX12_readsLines) (rt := 1) (L := [some (.ref 161), some (.int x1), some (.int x2), none, none, none]) zm_2430.1 rfl rfl (by decide) rfl rfl ?_
  unfold fX12_readsLines at h
  refine zr_many 2 (pc' := 2) (L' := [some (.ref 161), some (.int x1), some (.int x2), none, none, none]) (st' := [.int x2, .ref 161]) (S1 := zS c s) rfl ?_
  obtain ⟨r1, s2, g3, h⟩ := zb_inv h
  refine zq_call1 rfl rfl (zh_161 _) rfl rfl rfl ((tX12_begins g3).up (by decide)) rfl ?_
  refine zr_many 3 (pc' := 8) (L' := [some (.ref 161), some (.int x1), some (.int x2), some (.int r1), none, none]) (st' := [.int (0 : Int32), .ref 161]) (S1 := zS c s2) rfl ?_
  refine zq_put (s' := (zsi s2 161 22 (0 : Int32))) rfl (zh_161 _) rfl rfl rfl rfl zsi_ne rfl ?_
  refine zr_many 3 (pc' := 15) (L' := [some (.ref 161), some (.int x1), some (.int x2), some (.int r1), some (.int (1 : Int32)), none]) (st' := [.int r1]) (S1 := zS c (zsi s2 161 22 (0 : Int32))) rfl ?_
  refine zq_if1 (b := r1 ≤ 0) rfl Iff.rfl rfl (fun g4 => ?_) (fun g4 => ?_)
  · rw [if_pos g4] at h
    refine zr_many 1 (pc' := 23) (L' := [some (.ref 161), some (.int x1), some (.int x2), some (.int r1), some (.int (1 : Int32)), none]) (st' := [.int (0 : Int32)]) (S1 := zS c (zsi s2 161 22 (0 : Int32))) rfl ?_
    exact zr_wk [some (.ref 161), some (.int x1), some (.int x2), some (.int r1), some (.int (1 : Int32)), none] ⟨rfl, rfl, rfl, rfl, rfl, trivial⟩ (tX12_readsLines_J23 h)
  · rw [if_neg g4] at h
    refine zr_many 2 (pc' := 23) (L' := [some (.ref 161), some (.int x1), some (.int x2), some (.int r1), some (.int (1 : Int32)), none]) (st' := [.int (1 : Int32)]) (S1 := zS c (zsi s2 161 22 (0 : Int32))) rfl ?_
    exact zr_wk [some (.ref 161), some (.int x1), some (.int x2), some (.int r1), some (.int (1 : Int32)), none] ⟨rfl, rfl, rfl, rfl, rfl, trivial⟩ (tX12_readsLines_J23 h)
def fX12_came_J22 (n : Nat) (s : zs) : Option (Int32 × zs) := some ((s.1 161 22), s)
theorem tX12_came_J22 {n : Nat} {c : Nat × Nat} {s : zs} {r : Int32} {s' : zs} (h : fX12_came_J22 n s = some (r, s')) : zr kX12_came 1 0 22 [some (.ref 161)] [] (zS c s) (some (.int r)) (zS c s') := by
  unfold fX12_came_J22 at h
  refine zr_many 1 (pc' := 23) (L' := [some (.ref 161)]) (st' := [.ref 161]) (S1 := zS c s) rfl ?_
  refine zq_get rfl (zh_161 _) rfl rfl rfl ?_
  obtain ⟨rfl, rfl⟩ := Prod.mk.inj (Option.some.inj h)
  exact zq_iret rfl
def fX12_came (n : Nat) (s : zs) : Option (Int32 × zs) := if (s.1 161 22) ≤ 0 then fX12_came_J22 n s else zt (zsi s 161 31 (0 : Int32)) (fun s2 => fX12_came_J22 n (zsi s2 161 7 ((s2.1 161 7) + (1 : Int32))))
theorem tX12_came {n : Nat} {c : Nat × Nat} {s : zs} {r : Int32} {s' : zs} (h : fX12_came n s = some (r, s')) : zc 1 2431 [.ref 161] (zS c s) (some (.int r)) (zS c s') := by
  refine zc_of (k := kX12_came) (rt := 1) (L := [some (.ref 161)]) zm_2431.1 rfl rfl (by decide) rfl rfl ?_
  unfold fX12_came at h
  refine zr_many 1 (pc' := 1) (L' := [some (.ref 161)]) (st' := [.ref 161]) (S1 := zS c s) rfl ?_
  refine zq_get rfl (zh_161 _) rfl rfl rfl ?_
  refine zq_if1 (b := (s.1 161 22) ≤ 0) rfl Iff.rfl rfl (fun g1 => ?_) (fun g1 => ?_)
  · rw [if_pos g1] at h
    exact zr_wk [some (.ref 161)] ⟨rfl, trivial⟩ (tX12_came_J22 h)
  · rw [if_neg g1] at h
    refine zr_many 2 (pc' := 9) (L' := [some (.ref 161)]) (st' := [.int (0 : Int32), .ref 161]) (S1 := zS c s) rfl ?_
    refine zq_put (s' := (zsi s 161 31 (0 : Int32))) rfl (zh_161 _) rfl rfl rfl rfl zsi_ne rfl ?_
    refine zr_many 2 (pc' := 14) (L' := [some (.ref 161)]) (st' := [.ref 161, .ref 161]) (S1 := zS c (zsi s 161 31 (0 : Int32))) rfl ?_
    refine zq_get rfl (zh_161 _) rfl rfl rfl ?_
    refine zr_many 2 (pc' := 19) (L' := [some (.ref 161)]) (st' := [.int (((zsi s 161 31 (0 : Int32)).1 161 7) + (1 : Int32)), .ref 161]) (S1 := zS c (zsi s 161 31 (0 : Int32))) rfl ?_
    obtain ⟨s2, e3, h⟩ := zt_in h
    rw [← e3]
    refine zq_put (s' := (zsi s2 161 7 ((s2.1 161 7) + (1 : Int32)))) rfl (zh_161 _) rfl rfl rfl rfl zsi_ne rfl ?_
    exact zr_wk [some (.ref 161)] ⟨rfl, trivial⟩ (tX12_came_J22 h)
def fX12_locks_B31 (n : Nat) (x2 : Int32) (w31 : Int32 × zs) : Option ((Int32 × zs) ⊕ (zs)) := if (4 : Int32) ≤ w31.1 then some (Sum.inr w31.2) else cond (zi_in (((5 : Int32) * x2) + w31.1) 40) (cond (zi_in (((4 : Int32) * (w31.2.1 161 3)) + w31.1) 32) (some (Sum.inl ((w31.1 + (1 : Int32)), (zsi w31.2 163 (((4 : Int32) * (w31.2.1 161 3)) + w31.1).toNatClampNeg (w31.2.1 172 (((5 : Int32) * x2) + w31.1).toNatClampNeg))))) none) none
theorem tX12_locks_B31 {n : Nat} {c : Nat × Nat} {x2 : Int32} {w31 : Int32 × zs} {o : _} {v : Option Value} {S' : zi_S} (h : fX12_locks_B31 n x2 w31 = some o) (hn : ∀ w31, o = Sum.inl w31 → zr kX12_locks 1 5 31 [some (.ref 161), none, some (.int x2), some (.int w31.1)] [] (zS c w31.2) v S') (hx : ∀ z, o = Sum.inr z → (fun z => zr kX12_locks 1 5 65 [some (.ref 161), none, some (.int x2), none] [] (zS c z) v S') z) : zr kX12_locks 1 5 31 [some (.ref 161), none, some (.int x2), some (.int w31.1)] [] (zS c w31.2) v S' := by
  unfold fX12_locks_B31 at h
  refine zr_many 2 (pc' := 33) (L' := [some (.ref 161), none, some (.int x2), some (.int w31.1)]) (st' := [.int (4 : Int32), .int w31.1]) (S1 := zS c w31.2) rfl ?_
  refine zq_if2 (b := (4 : Int32) ≤ w31.1) rfl Iff.rfl rfl (fun g6 => ?_) (fun g6 => ?_)
  · rw [if_pos g6] at h
    obtain rfl := Option.some.inj h
    exact zr_wk [some (.ref 161), none, some (.int x2), none] ⟨rfl, rfl, trivial⟩ (hx w31.2 rfl)
  · rw [if_neg g6] at h
    refine zr_many 1 (pc' := 37) (L' := [some (.ref 161), none, some (.int x2), some (.int w31.1)]) (st' := [.ref 161]) (S1 := zS c w31.2) rfl ?_
    refine zq_get rfl (zh_161 _) rfl rfl rfl ?_
    refine zr_many 2 (pc' := 42) (L' := [some (.ref 161), none, some (.int x2), some (.int w31.1)]) (st' := [.ref 161, .int (4 : Int32), .ref 163]) (S1 := zS c w31.2) rfl ?_
    refine zq_get rfl (zh_161 _) rfl rfl rfl ?_
    refine zr_many 4 (pc' := 49) (L' := [some (.ref 161), none, some (.int x2), some (.int w31.1)]) (st' := [.ref 161, .int (((4 : Int32) * (w31.2.1 161 3)) + w31.1), .ref 163]) (S1 := zS c w31.2) rfl ?_
    refine zq_get rfl (zh_161 _) rfl rfl rfl ?_
    refine zr_many 5 (pc' := 57) (L' := [some (.ref 161), none, some (.int x2), some (.int w31.1)]) (st' := [.int (((5 : Int32) * x2) + w31.1), .ref 172, .int (((4 : Int32) * (w31.2.1 161 3)) + w31.1), .ref 163]) (S1 := zS c w31.2) rfl ?_
    obtain ⟨g7, h⟩ := zi_cond_inv h
    refine zq_ild rfl (zh_172 _) rfl g7 rfl ?_
    obtain ⟨g8, h⟩ := zi_cond_inv h
    refine zq_ist rfl zh_163 rfl g8 rfl ?_
    refine zr_many 2 (pc' := 31) (L' := [some (.ref 161), none, some (.int x2), some (.int (w31.1 + (1 : Int32)))]) (st' := []) (S1 := zS c (zsi w31.2 163 (((4 : Int32) * (w31.2.1 161 3)) + w31.1).toNatClampNeg (w31.2.1 172 (((5 : Int32) * x2) + w31.1).toNatClampNeg))) rfl ?_
    obtain rfl := Option.some.inj h
    exact zr_wk [some (.ref 161), none, some (.int x2), some (.int (w31.1 + (1 : Int32)))] ⟨rfl, rfl, rfl, trivial⟩ (hn ((w31.1 + (1 : Int32)), (zsi w31.2 163 (((4 : Int32) * (w31.2.1 161 3)) + w31.1).toNatClampNeg (w31.2.1 172 (((5 : Int32) * x2) + w31.1).toNatClampNeg))) rfl)
def fX12_locks_B21 (n : Nat) (w21 : Int32 × zs) : Option ((Int32 × zs) ⊕ (zs)) := if (w21.2.1 161 22) ≤ w21.1 then some (Sum.inr w21.2) else zp (zl (fX12_locks_B31 n w21.1) n ((0 : Int32), w21.2)) (fun w9 => cond (zi_in (((5 : Int32) * w21.1) + (4 : Int32)) 40) (cond (zi_in (w9.1 161 3) 8) (zt (zsi w9 164 (w9.1 161 3).toNatClampNeg (w9.1 172 (((5 : Int32) * w21.1) + (4 : Int32)).toNatClampNeg)) (fun s11 => cond (zi_in (s11.1 161 3) 42) (zt (zsi s11 169 (s11.1 161 3).toNatClampNeg (0 : Int32)) (fun s13 => some (Sum.inl ((w21.1 + (1 : Int32)), (zsi s13 161 3 ((s13.1 161 3) + (1 : Int32))))))) none)) none) none)
theorem tX12_locks_B21 {n : Nat} {c : Nat × Nat} {w21 : Int32 × zs} {o : _} {v : Option Value} {S' : zi_S} (h : fX12_locks_B21 n w21 = some o) (hn : ∀ w21, o = Sum.inl w21 → zr kX12_locks 1 5 21 [some (.ref 161), none, some (.int w21.1), none] [] (zS c w21.2) v S') (hx : ∀ z, o = Sum.inr z → (fun z => zr kX12_locks 1 5 110 [some (.ref 161), none, none, none] [] (zS c z) v S') z) : zr kX12_locks 1 5 21 [some (.ref 161), none, some (.int w21.1), none] [] (zS c w21.2) v S' := by
  unfold fX12_locks_B21 at h
  refine zr_many 2 (pc' := 23) (L' := [some (.ref 161), none, some (.int w21.1), none]) (st' := [.ref 161, .int w21.1]) (S1 := zS c w21.2) rfl ?_
  refine zq_get rfl (zh_161 _) rfl rfl rfl ?_
  refine zq_if2 (b := (w21.2.1 161 22) ≤ w21.1) rfl Iff.rfl rfl (fun g5 => ?_) (fun g5 => ?_)
  · rw [if_pos g5] at h
    obtain rfl := Option.some.inj h
    exact zr_wk [some (.ref 161), none, none, none] ⟨rfl, trivial⟩ (hx w21.2 rfl)
  · rw [if_neg g5] at h
    refine zr_many 2 (pc' := 31) (L' := [some (.ref 161), none, some (.int w21.1), some (.int (0 : Int32))]) (st' := []) (S1 := zS c w21.2) rfl ?_
    obtain ⟨w9, g15, h⟩ := zp_inv h
    refine zr_wk [some (.ref 161), none, some (.int w21.1), some (.int (0 : Int32))] ⟨rfl, rfl, rfl, trivial⟩ (zl_cert (Z := fun w31 => zr kX12_locks 1 5 31 [some (.ref 161), none, some (.int w21.1), some (.int w31.1)] [] (zS c w31.2) _ _) (Y := (fun z => zr kX12_locks 1 5 65 [some (.ref 161), none, some (.int w21.1), none] [] (zS c z) _ _)) (fun w o h1 h2 h3 => tX12_locks_B31 h1 h2 h3) n _ _ g15 ?_)
    show zr kX12_locks 1 5 65 [some (.ref 161), none, some (.int w21.1), none] [] (zS c w9) _ _
    refine zr_many 1 (pc' := 66) (L' := [some (.ref 161), none, some (.int w21.1), none]) (st' := [.ref 161]) (S1 := zS c w9) rfl ?_
    refine zq_get rfl (zh_161 _) rfl rfl rfl ?_
    refine zr_many 1 (pc' := 70) (L' := [some (.ref 161), none, some (.int w21.1), none]) (st' := [.ref 161, .ref 164]) (S1 := zS c w9) rfl ?_
    refine zq_get rfl (zh_161 _) rfl rfl rfl ?_
    refine zr_many 1 (pc' := 74) (L' := [some (.ref 161), none, some (.int w21.1), none]) (st' := [.ref 161, .int (w9.1 161 3), .ref 164]) (S1 := zS c w9) rfl ?_
    refine zq_get rfl (zh_161 _) rfl rfl rfl ?_
    refine zr_many 5 (pc' := 82) (L' := [some (.ref 161), none, some (.int w21.1), none]) (st' := [.int (((5 : Int32) * w21.1) + (4 : Int32)), .ref 172, .int (w9.1 161 3), .ref 164]) (S1 := zS c w9) rfl ?_
    obtain ⟨g10, h⟩ := zi_cond_inv h
    refine zq_ild rfl (zh_172 _) rfl g10 rfl ?_
    obtain ⟨g16, h⟩ := zi_cond_inv h
    refine zq_ist rfl zh_164 rfl g16 rfl ?_
    refine zr_many 1 (pc' := 85) (L' := [some (.ref 161), none, some (.int w21.1), none]) (st' := [.ref 161]) (S1 := zS c (zsi w9 164 (w9.1 161 3).toNatClampNeg (w9.1 172 (((5 : Int32) * w21.1) + (4 : Int32)).toNatClampNeg))) rfl ?_
    refine zq_get rfl (zh_161 _) rfl rfl rfl ?_
    refine zr_many 1 (pc' := 89) (L' := [some (.ref 161), none, some (.int w21.1), none]) (st' := [.ref 161, .ref 169]) (S1 := zS c (zsi w9 164 (w9.1 161 3).toNatClampNeg (w9.1 172 (((5 : Int32) * w21.1) + (4 : Int32)).toNatClampNeg))) rfl ?_
    refine zq_get rfl (zh_161 _) rfl rfl rfl ?_
    refine zr_many 1 (pc' := 93) (L' := [some (.ref 161), none, some (.int w21.1), none]) (st' := [.int (0 : Int32), .int ((zsi w9 164 (w9.1 161 3).toNatClampNeg (w9.1 172 (((5 : Int32) * w21.1) + (4 : Int32)).toNatClampNeg)).1 161 3), .ref 169]) (S1 := zS c (zsi w9 164 (w9.1 161 3).toNatClampNeg (w9.1 172 (((5 : Int32) * w21.1) + (4 : Int32)).toNatClampNeg))) rfl ?_
    obtain ⟨s11, e12, h⟩ := zt_in h
    rw [← e12]
    obtain ⟨g17, h⟩ := zi_cond_inv h
    refine zq_ist rfl zh_169 rfl g17 rfl ?_
    refine zr_many 2 (pc' := 96) (L' := [some (.ref 161), none, some (.int w21.1), none]) (st' := [.ref 161, .ref 161]) (S1 := zS c (zsi s11 169 (s11.1 161 3).toNatClampNeg (0 : Int32))) rfl ?_
    refine zq_get rfl (zh_161 _) rfl rfl rfl ?_
    refine zr_many 2 (pc' := 101) (L' := [some (.ref 161), none, some (.int w21.1), none]) (st' := [.int (((zsi s11 169 (s11.1 161 3).toNatClampNeg (0 : Int32)).1 161 3) + (1 : Int32)), .ref 161]) (S1 := zS c (zsi s11 169 (s11.1 161 3).toNatClampNeg (0 : Int32))) rfl ?_
    obtain ⟨s13, e14, h⟩ := zt_in h
    rw [← e14]
    refine zq_put (s' := (zsi s13 161 3 ((s13.1 161 3) + (1 : Int32)))) rfl (zh_161 _) rfl rfl rfl rfl zsi_ne rfl ?_
    refine zr_many 2 (pc' := 21) (L' := [some (.ref 161), none, some (.int (w21.1 + (1 : Int32))), none]) (st' := []) (S1 := zS c (zsi s13 161 3 ((s13.1 161 3) + (1 : Int32)))) rfl ?_
    obtain rfl := Option.some.inj h
    exact zr_wk [some (.ref 161), none, some (.int (w21.1 + (1 : Int32))), none] ⟨rfl, rfl, trivial⟩ (hn ((w21.1 + (1 : Int32)), (zsi s13 161 3 ((s13.1 161 3) + (1 : Int32)))) rfl)
def fX12_locks (n : Nat) (s : zs) : Option (Int32 × zs) := zb (fX12_readsLines n (zsi s 161 0 (0 : Int32)) (0 : Int32) (47 : Int32)) (fun r1 s2 => if 0 ≤ r1 then zp (zl (fX12_locks_B21 n) n ((0 : Int32), s2)) (fun w18 => zb (fX12_came n w18) (fun r19 s20 => some (r19, s20))) else some (r1, s2))
theorem tX12_locks {n : Nat} {c : Nat × Nat} {s : zs} {r : Int32} {s' : zs} (h : fX12_locks n s = some (r, s')) : zc 6 2432 [.ref 161] (zS c s) (some (.int r)) (zS c s') := by
  refine zc_of (k := kX12_locks) (rt := 1) (L := [some (.ref 161), none, none, none]) zm_2432.1 rfl rfl (by decide) rfl rfl ?_
  unfold fX12_locks at h
  refine zr_many 2 (pc' := 2) (L' := [some (.ref 161), none, none, none]) (st' := [.int (0 : Int32), .ref 161]) (S1 := zS c s) rfl ?_
  refine zq_put (s' := (zsi s 161 0 (0 : Int32))) rfl (zh_161 _) rfl rfl rfl rfl zsi_ne rfl ?_
  refine zr_many 3 (pc' := 9) (L' := [some (.ref 161), none, none, none]) (st' := [.int (47 : Int32), .int (0 : Int32), .ref 161]) (S1 := zS c (zsi s 161 0 (0 : Int32))) rfl ?_
  obtain ⟨r1, s2, g3, h⟩ := zb_inv h
  refine zq_call1 rfl rfl (zh_161 _) rfl rfl rfl (tX12_readsLines g3) rfl ?_
  refine zr_many 2 (pc' := 14) (L' := [some (.ref 161), some (.int r1), none, none]) (st' := [.int r1]) (S1 := zS c s2) rfl ?_
  refine zq_if1 (b := 0 ≤ r1) rfl Iff.rfl rfl (fun g4 => ?_) (fun g4 => ?_)
  · rw [if_pos g4] at h
    refine zr_many 2 (pc' := 21) (L' := [some (.ref 161), some (.int r1), some (.int (0 : Int32)), none]) (st' := []) (S1 := zS c s2) rfl ?_
    obtain ⟨w18, g22, h⟩ := zp_inv h
    refine zr_wk [some (.ref 161), none, some (.int (0 : Int32)), none] ⟨rfl, rfl, trivial⟩ (zl_cert (Z := fun w21 => zr kX12_locks 1 5 21 [some (.ref 161), none, some (.int w21.1), none] [] (zS c w21.2) _ _) (Y := (fun z => zr kX12_locks 1 5 110 [some (.ref 161), none, none, none] [] (zS c z) _ _)) (fun w o h1 h2 h3 => tX12_locks_B21 h1 h2 h3) n _ _ g22 ?_)
    show zr kX12_locks 1 5 110 [some (.ref 161), none, none, none] [] (zS c w18) _ _
    refine zr_many 1 (pc' := 111) (L' := [some (.ref 161), none, none, none]) (st' := [.ref 161]) (S1 := zS c w18) rfl ?_
    obtain ⟨r19, s20, g21, h⟩ := zb_inv h
    refine zq_call1 rfl rfl (zh_161 _) rfl rfl rfl ((tX12_came g21).up (by decide)) rfl ?_
    obtain ⟨rfl, rfl⟩ := Prod.mk.inj (Option.some.inj h)
    exact zq_iret rfl
  · rw [if_neg g4] at h
    refine zr_many 1 (pc' := 18) (L' := [some (.ref 161), some (.int r1), none, none]) (st' := [.int r1]) (S1 := zS c s2) rfl ?_
    obtain ⟨rfl, rfl⟩ := Prod.mk.inj (Option.some.inj h)
    exact zq_iret rfl
def fX12_singers_B21 (n : Nat) (w21 : Int32 × zs) : Option ((Int32 × zs) ⊕ (zs)) := if (w21.2.1 161 22) ≤ w21.1 then some (Sum.inr w21.2) else cond (zi_in ((4 : Int32) * w21.1) 40) (cond (zi_in (w21.2.1 161 4) 8) (cond (zi_in (((4 : Int32) * w21.1) + (1 : Int32)) 40) (zt (zsi w21.2 165 (w21.2.1 161 4).toNatClampNeg (w21.2.1 172 ((4 : Int32) * w21.1).toNatClampNeg)) (fun s8 => cond (zi_in (s8.1 161 4) 8) (cond (zi_in (((4 : Int32) * w21.1) + (3 : Int32)) 40) (zt (zsi s8 166 (s8.1 161 4).toNatClampNeg (s8.1 172 (((4 : Int32) * w21.1) + (1 : Int32)).toNatClampNeg)) (fun s11 => cond (zi_in (s11.1 161 4) 8) (cond (zi_in (((4 : Int32) * w21.1) + (2 : Int32)) 40) (zt (zsi s11 167 (s11.1 161 4).toNatClampNeg (s11.1 172 (((4 : Int32) * w21.1) + (3 : Int32)).toNatClampNeg)) (fun s14 => cond (zi_in (((10 : Int32) + ((3 : Int32) * (s14.1 161 4))) + (0 : Int32)) 42) (zt (zsi s14 169 (((10 : Int32) + ((3 : Int32) * (s14.1 161 4))) + (0 : Int32)).toNatClampNeg (s14.1 172 (((4 : Int32) * w21.1) + (2 : Int32)).toNatClampNeg)) (fun s16 => cond (zi_in (((10 : Int32) + ((3 : Int32) * (s16.1 161 4))) + (1 : Int32)) 42) (zt (zsi s16 169 (((10 : Int32) + ((3 : Int32) * (s16.1 161 4))) + (1 : Int32)).toNatClampNeg (-1 : Int32)) (fun s18 => cond (zi_in (((10 : Int32) + ((3 : Int32) * (s18.1 161 4))) + (2 : Int32)) 42) (zt (zsi s18 169 (((10 : Int32) + ((3 : Int32) * (s18.1 161 4))) + (2 : Int32)).toNatClampNeg (0 : Int32)) (fun s20 => some (Sum.inl ((w21.1 + (1 : Int32)), (zsi s20 161 4 ((s20.1 161 4) + (1 : Int32))))))) none)) none)) none)) none) none)) none) none)) none) none) none
theorem tX12_singers_B21 {n : Nat} {c : Nat × Nat} {w21 : Int32 × zs} {o : _} {v : Option Value} {S' : zi_S} (h : fX12_singers_B21 n w21 = some o) (hn : ∀ w21, o = Sum.inl w21 → zr kX12_singers 1 5 21 [some (.ref 161), none, some (.int w21.1)] [] (zS c w21.2) v S') (hx : ∀ z, o = Sum.inr z → (fun z => zr kX12_singers 1 5 160 [some (.ref 161), none, none] [] (zS c z) v S') z) : zr kX12_singers 1 5 21 [some (.ref 161), none, some (.int w21.1)] [] (zS c w21.2) v S' := by
  unfold fX12_singers_B21 at h
  refine zr_many 2 (pc' := 23) (L' := [some (.ref 161), none, some (.int w21.1)]) (st' := [.ref 161, .int w21.1]) (S1 := zS c w21.2) rfl ?_
  refine zq_get rfl (zh_161 _) rfl rfl rfl ?_
  refine zq_if2 (b := (w21.2.1 161 22) ≤ w21.1) rfl Iff.rfl rfl (fun g5 => ?_) (fun g5 => ?_)
  · rw [if_pos g5] at h
    obtain rfl := Option.some.inj h
    exact zr_wk [some (.ref 161), none, none] ⟨rfl, trivial⟩ (hx w21.2 rfl)
  · rw [if_neg g5] at h
    refine zr_many 1 (pc' := 30) (L' := [some (.ref 161), none, some (.int w21.1)]) (st' := [.ref 161]) (S1 := zS c w21.2) rfl ?_
    refine zq_get rfl (zh_161 _) rfl rfl rfl ?_
    refine zr_many 1 (pc' := 34) (L' := [some (.ref 161), none, some (.int w21.1)]) (st' := [.ref 161, .ref 165]) (S1 := zS c w21.2) rfl ?_
    refine zq_get rfl (zh_161 _) rfl rfl rfl ?_
    refine zr_many 1 (pc' := 38) (L' := [some (.ref 161), none, some (.int w21.1)]) (st' := [.ref 161, .int (w21.2.1 161 4), .ref 165]) (S1 := zS c w21.2) rfl ?_
    refine zq_get rfl (zh_161 _) rfl rfl rfl ?_
    refine zr_many 3 (pc' := 44) (L' := [some (.ref 161), none, some (.int w21.1)]) (st' := [.int ((4 : Int32) * w21.1), .ref 172, .int (w21.2.1 161 4), .ref 165]) (S1 := zS c w21.2) rfl ?_
    obtain ⟨g6, h⟩ := zi_cond_inv h
    refine zq_ild rfl (zh_172 _) rfl g6 rfl ?_
    obtain ⟨g22, h⟩ := zi_cond_inv h
    refine zq_ist rfl zh_165 rfl g22 rfl ?_
    refine zr_many 1 (pc' := 47) (L' := [some (.ref 161), none, some (.int w21.1)]) (st' := [.ref 161]) (S1 := zS c (zsi w21.2 165 (w21.2.1 161 4).toNatClampNeg (w21.2.1 172 ((4 : Int32) * w21.1).toNatClampNeg))) rfl ?_
    refine zq_get rfl (zh_161 _) rfl rfl rfl ?_
    refine zr_many 1 (pc' := 51) (L' := [some (.ref 161), none, some (.int w21.1)]) (st' := [.ref 161, .ref 166]) (S1 := zS c (zsi w21.2 165 (w21.2.1 161 4).toNatClampNeg (w21.2.1 172 ((4 : Int32) * w21.1).toNatClampNeg))) rfl ?_
    refine zq_get rfl (zh_161 _) rfl rfl rfl ?_
    refine zr_many 1 (pc' := 55) (L' := [some (.ref 161), none, some (.int w21.1)]) (st' := [.ref 161, .int ((zsi w21.2 165 (w21.2.1 161 4).toNatClampNeg (w21.2.1 172 ((4 : Int32) * w21.1).toNatClampNeg)).1 161 4), .ref 166]) (S1 := zS c (zsi w21.2 165 (w21.2.1 161 4).toNatClampNeg (w21.2.1 172 ((4 : Int32) * w21.1).toNatClampNeg))) rfl ?_
    refine zq_get rfl (zh_161 _) rfl rfl rfl ?_
    refine zr_many 5 (pc' := 63) (L' := [some (.ref 161), none, some (.int w21.1)]) (st' := [.int (((4 : Int32) * w21.1) + (1 : Int32)), .ref 172, .int ((zsi w21.2 165 (w21.2.1 161 4).toNatClampNeg (w21.2.1 172 ((4 : Int32) * w21.1).toNatClampNeg)).1 161 4), .ref 166]) (S1 := zS c (zsi w21.2 165 (w21.2.1 161 4).toNatClampNeg (w21.2.1 172 ((4 : Int32) * w21.1).toNatClampNeg))) rfl ?_
    obtain ⟨g7, h⟩ := zi_cond_inv h
    refine zq_ild rfl (zh_172 _) rfl g7 rfl ?_
    obtain ⟨s8, e9, h⟩ := zt_in h
    rw [← e9]
    obtain ⟨g23, h⟩ := zi_cond_inv h
    refine zq_ist rfl zh_166 rfl g23 rfl ?_
    refine zr_many 1 (pc' := 66) (L' := [some (.ref 161), none, some (.int w21.1)]) (st' := [.ref 161]) (S1 := zS c (zsi s8 166 (s8.1 161 4).toNatClampNeg (s8.1 172 (((4 : Int32) * w21.1) + (1 : Int32)).toNatClampNeg))) rfl ?_
    refine zq_get rfl (zh_161 _) rfl rfl rfl ?_
    refine zr_many 1 (pc' := 70) (L' := [some (.ref 161), none, some (.int w21.1)]) (st' := [.ref 161, .ref 167]) (S1 := zS c (zsi s8 166 (s8.1 161 4).toNatClampNeg (s8.1 172 (((4 : Int32) * w21.1) + (1 : Int32)).toNatClampNeg))) rfl ?_
    refine zq_get rfl (zh_161 _) rfl rfl rfl ?_
    refine zr_many 1 (pc' := 74) (L' := [some (.ref 161), none, some (.int w21.1)]) (st' := [.ref 161, .int ((zsi s8 166 (s8.1 161 4).toNatClampNeg (s8.1 172 (((4 : Int32) * w21.1) + (1 : Int32)).toNatClampNeg)).1 161 4), .ref 167]) (S1 := zS c (zsi s8 166 (s8.1 161 4).toNatClampNeg (s8.1 172 (((4 : Int32) * w21.1) + (1 : Int32)).toNatClampNeg))) rfl ?_
    refine zq_get rfl (zh_161 _) rfl rfl rfl ?_
    refine zr_many 5 (pc' := 82) (L' := [some (.ref 161), none, some (.int w21.1)]) (st' := [.int (((4 : Int32) * w21.1) + (3 : Int32)), .ref 172, .int ((zsi s8 166 (s8.1 161 4).toNatClampNeg (s8.1 172 (((4 : Int32) * w21.1) + (1 : Int32)).toNatClampNeg)).1 161 4), .ref 167]) (S1 := zS c (zsi s8 166 (s8.1 161 4).toNatClampNeg (s8.1 172 (((4 : Int32) * w21.1) + (1 : Int32)).toNatClampNeg))) rfl ?_
    obtain ⟨g10, h⟩ := zi_cond_inv h
    refine zq_ild rfl (zh_172 _) rfl g10 rfl ?_
    obtain ⟨s11, e12, h⟩ := zt_in h
    rw [← e12]
    obtain ⟨g24, h⟩ := zi_cond_inv h
    refine zq_ist rfl zh_167 rfl g24 rfl ?_
    refine zr_many 1 (pc' := 85) (L' := [some (.ref 161), none, some (.int w21.1)]) (st' := [.ref 161]) (S1 := zS c (zsi s11 167 (s11.1 161 4).toNatClampNeg (s11.1 172 (((4 : Int32) * w21.1) + (3 : Int32)).toNatClampNeg))) rfl ?_
    refine zq_get rfl (zh_161 _) rfl rfl rfl ?_
    refine zr_many 3 (pc' := 92) (L' := [some (.ref 161), none, some (.int w21.1)]) (st' := [.ref 161, .int (3 : Int32), .int (10 : Int32), .ref 169]) (S1 := zS c (zsi s11 167 (s11.1 161 4).toNatClampNeg (s11.1 172 (((4 : Int32) * w21.1) + (3 : Int32)).toNatClampNeg))) rfl ?_
    refine zq_get rfl (zh_161 _) rfl rfl rfl ?_
    refine zr_many 5 (pc' := 100) (L' := [some (.ref 161), none, some (.int w21.1)]) (st' := [.ref 161, .int (((10 : Int32) + ((3 : Int32) * ((zsi s11 167 (s11.1 161 4).toNatClampNeg (s11.1 172 (((4 : Int32) * w21.1) + (3 : Int32)).toNatClampNeg)).1 161 4))) + (0 : Int32)), .ref 169]) (S1 := zS c (zsi s11 167 (s11.1 161 4).toNatClampNeg (s11.1 172 (((4 : Int32) * w21.1) + (3 : Int32)).toNatClampNeg))) rfl ?_
    refine zq_get rfl (zh_161 _) rfl rfl rfl ?_
    refine zr_many 5 (pc' := 108) (L' := [some (.ref 161), none, some (.int w21.1)]) (st' := [.int (((4 : Int32) * w21.1) + (2 : Int32)), .ref 172, .int (((10 : Int32) + ((3 : Int32) * ((zsi s11 167 (s11.1 161 4).toNatClampNeg (s11.1 172 (((4 : Int32) * w21.1) + (3 : Int32)).toNatClampNeg)).1 161 4))) + (0 : Int32)), .ref 169]) (S1 := zS c (zsi s11 167 (s11.1 161 4).toNatClampNeg (s11.1 172 (((4 : Int32) * w21.1) + (3 : Int32)).toNatClampNeg))) rfl ?_
    obtain ⟨g13, h⟩ := zi_cond_inv h
    refine zq_ild rfl (zh_172 _) rfl g13 rfl ?_
    obtain ⟨s14, e15, h⟩ := zt_in h
    rw [← e15]
    obtain ⟨g25, h⟩ := zi_cond_inv h
    refine zq_ist rfl zh_169 rfl g25 rfl ?_
    refine zr_many 1 (pc' := 111) (L' := [some (.ref 161), none, some (.int w21.1)]) (st' := [.ref 161]) (S1 := zS c (zsi s14 169 (((10 : Int32) + ((3 : Int32) * (s14.1 161 4))) + (0 : Int32)).toNatClampNeg (s14.1 172 (((4 : Int32) * w21.1) + (2 : Int32)).toNatClampNeg))) rfl ?_
    refine zq_get rfl (zh_161 _) rfl rfl rfl ?_
    refine zr_many 3 (pc' := 118) (L' := [some (.ref 161), none, some (.int w21.1)]) (st' := [.ref 161, .int (3 : Int32), .int (10 : Int32), .ref 169]) (S1 := zS c (zsi s14 169 (((10 : Int32) + ((3 : Int32) * (s14.1 161 4))) + (0 : Int32)).toNatClampNeg (s14.1 172 (((4 : Int32) * w21.1) + (2 : Int32)).toNatClampNeg))) rfl ?_
    refine zq_get rfl (zh_161 _) rfl rfl rfl ?_
    refine zr_many 5 (pc' := 126) (L' := [some (.ref 161), none, some (.int w21.1)]) (st' := [.int (-1 : Int32), .int (((10 : Int32) + ((3 : Int32) * ((zsi s14 169 (((10 : Int32) + ((3 : Int32) * (s14.1 161 4))) + (0 : Int32)).toNatClampNeg (s14.1 172 (((4 : Int32) * w21.1) + (2 : Int32)).toNatClampNeg)).1 161 4))) + (1 : Int32)), .ref 169]) (S1 := zS c (zsi s14 169 (((10 : Int32) + ((3 : Int32) * (s14.1 161 4))) + (0 : Int32)).toNatClampNeg (s14.1 172 (((4 : Int32) * w21.1) + (2 : Int32)).toNatClampNeg))) rfl ?_
    obtain ⟨s16, e17, h⟩ := zt_in h
    rw [← e17]
    obtain ⟨g26, h⟩ := zi_cond_inv h
    refine zq_ist rfl zh_169 rfl g26 rfl ?_
    refine zr_many 1 (pc' := 128) (L' := [some (.ref 161), none, some (.int w21.1)]) (st' := [.ref 161]) (S1 := zS c (zsi s16 169 (((10 : Int32) + ((3 : Int32) * (s16.1 161 4))) + (1 : Int32)).toNatClampNeg (-1 : Int32))) rfl ?_
    refine zq_get rfl (zh_161 _) rfl rfl rfl ?_
    refine zr_many 3 (pc' := 135) (L' := [some (.ref 161), none, some (.int w21.1)]) (st' := [.ref 161, .int (3 : Int32), .int (10 : Int32), .ref 169]) (S1 := zS c (zsi s16 169 (((10 : Int32) + ((3 : Int32) * (s16.1 161 4))) + (1 : Int32)).toNatClampNeg (-1 : Int32))) rfl ?_
    refine zq_get rfl (zh_161 _) rfl rfl rfl ?_
    refine zr_many 5 (pc' := 143) (L' := [some (.ref 161), none, some (.int w21.1)]) (st' := [.int (0 : Int32), .int (((10 : Int32) + ((3 : Int32) * ((zsi s16 169 (((10 : Int32) + ((3 : Int32) * (s16.1 161 4))) + (1 : Int32)).toNatClampNeg (-1 : Int32)).1 161 4))) + (2 : Int32)), .ref 169]) (S1 := zS c (zsi s16 169 (((10 : Int32) + ((3 : Int32) * (s16.1 161 4))) + (1 : Int32)).toNatClampNeg (-1 : Int32))) rfl ?_
    obtain ⟨s18, e19, h⟩ := zt_in h
    rw [← e19]
    obtain ⟨g27, h⟩ := zi_cond_inv h
    refine zq_ist rfl zh_169 rfl g27 rfl ?_
    refine zr_many 2 (pc' := 146) (L' := [some (.ref 161), none, some (.int w21.1)]) (st' := [.ref 161, .ref 161]) (S1 := zS c (zsi s18 169 (((10 : Int32) + ((3 : Int32) * (s18.1 161 4))) + (2 : Int32)).toNatClampNeg (0 : Int32))) rfl ?_
    refine zq_get rfl (zh_161 _) rfl rfl rfl ?_
    refine zr_many 2 (pc' := 151) (L' := [some (.ref 161), none, some (.int w21.1)]) (st' := [.int (((zsi s18 169 (((10 : Int32) + ((3 : Int32) * (s18.1 161 4))) + (2 : Int32)).toNatClampNeg (0 : Int32)).1 161 4) + (1 : Int32)), .ref 161]) (S1 := zS c (zsi s18 169 (((10 : Int32) + ((3 : Int32) * (s18.1 161 4))) + (2 : Int32)).toNatClampNeg (0 : Int32))) rfl ?_
    obtain ⟨s20, e21, h⟩ := zt_in h
    rw [← e21]
    refine zq_put (s' := (zsi s20 161 4 ((s20.1 161 4) + (1 : Int32)))) rfl (zh_161 _) rfl rfl rfl rfl zsi_ne rfl ?_
    refine zr_many 2 (pc' := 21) (L' := [some (.ref 161), none, some (.int (w21.1 + (1 : Int32)))]) (st' := []) (S1 := zS c (zsi s20 161 4 ((s20.1 161 4) + (1 : Int32)))) rfl ?_
    obtain rfl := Option.some.inj h
    exact zr_wk [some (.ref 161), none, some (.int (w21.1 + (1 : Int32)))] ⟨rfl, rfl, trivial⟩ (hn ((w21.1 + (1 : Int32)), (zsi s20 161 4 ((s20.1 161 4) + (1 : Int32)))) rfl)
def fX12_singers (n : Nat) (s : zs) : Option (Int32 × zs) := zb (fX12_readsLines n (zsi s 161 0 (0 : Int32)) (1 : Int32) (63 : Int32)) (fun r1 s2 => if 0 ≤ r1 then zp (zl (fX12_singers_B21 n) n ((0 : Int32), s2)) (fun w28 => zb (fX12_came n w28) (fun r29 s30 => some (r29, s30))) else some (r1, s2))
theorem tX12_singers {n : Nat} {c : Nat × Nat} {s : zs} {r : Int32} {s' : zs} (h : fX12_singers n s = some (r, s')) : zc 6 2433 [.ref 161] (zS c s) (some (.int r)) (zS c s') := by
  refine zc_of (k := kX12_singers) (rt := 1) (L := [some (.ref 161), none, none]) zm_2433.1 rfl rfl (by decide) rfl rfl ?_
  unfold fX12_singers at h
  refine zr_many 2 (pc' := 2) (L' := [some (.ref 161), none, none]) (st' := [.int (0 : Int32), .ref 161]) (S1 := zS c s) rfl ?_
  refine zq_put (s' := (zsi s 161 0 (0 : Int32))) rfl (zh_161 _) rfl rfl rfl rfl zsi_ne rfl ?_
  refine zr_many 3 (pc' := 9) (L' := [some (.ref 161), none, none]) (st' := [.int (63 : Int32), .int (1 : Int32), .ref 161]) (S1 := zS c (zsi s 161 0 (0 : Int32))) rfl ?_
  obtain ⟨r1, s2, g3, h⟩ := zb_inv h
  refine zq_call1 rfl rfl (zh_161 _) rfl rfl rfl (tX12_readsLines g3) rfl ?_
  refine zr_many 2 (pc' := 14) (L' := [some (.ref 161), some (.int r1), none]) (st' := [.int r1]) (S1 := zS c s2) rfl ?_
  refine zq_if1 (b := 0 ≤ r1) rfl Iff.rfl rfl (fun g4 => ?_) (fun g4 => ?_)
  · rw [if_pos g4] at h
    refine zr_many 2 (pc' := 21) (L' := [some (.ref 161), some (.int r1), some (.int (0 : Int32))]) (st' := []) (S1 := zS c s2) rfl ?_
    obtain ⟨w28, g32, h⟩ := zp_inv h
    refine zr_wk [some (.ref 161), none, some (.int (0 : Int32))] ⟨rfl, rfl, trivial⟩ (zl_cert (Z := fun w21 => zr kX12_singers 1 5 21 [some (.ref 161), none, some (.int w21.1)] [] (zS c w21.2) _ _) (Y := (fun z => zr kX12_singers 1 5 160 [some (.ref 161), none, none] [] (zS c z) _ _)) (fun w o h1 h2 h3 => tX12_singers_B21 h1 h2 h3) n _ _ g32 ?_)
    show zr kX12_singers 1 5 160 [some (.ref 161), none, none] [] (zS c w28) _ _
    refine zr_many 1 (pc' := 161) (L' := [some (.ref 161), none, none]) (st' := [.ref 161]) (S1 := zS c w28) rfl ?_
    obtain ⟨r29, s30, g31, h⟩ := zb_inv h
    refine zq_call1 rfl rfl (zh_161 _) rfl rfl rfl ((tX12_came g31).up (by decide)) rfl ?_
    obtain ⟨rfl, rfl⟩ := Prod.mk.inj (Option.some.inj h)
    exact zq_iret rfl
  · rw [if_neg g4] at h
    refine zr_many 1 (pc' := 18) (L' := [some (.ref 161), some (.int r1), none]) (st' := [.int r1]) (S1 := zS c s2) rfl ?_
    obtain ⟨rfl, rfl⟩ := Prod.mk.inj (Option.some.inj h)
    exact zq_iret rfl
def fX12_barges_B21 (n : Nat) (w21 : Int32 × zs) : Option ((Int32 × zs) ⊕ (zs)) := if (w21.2.1 161 22) ≤ w21.1 then some (Sum.inr w21.2) else cond (zi_in ((2 : Int32) * w21.1) 40) (cond (zi_in (((34 : Int32) + ((2 : Int32) * (w21.2.1 161 5))) + (0 : Int32)) 42) (zt (zsi w21.2 169 (((34 : Int32) + ((2 : Int32) * (w21.2.1 161 5))) + (0 : Int32)).toNatClampNeg (w21.2.1 172 ((2 : Int32) * w21.1).toNatClampNeg)) (fun s7 => cond (zi_in (((34 : Int32) + ((2 : Int32) * (s7.1 161 5))) + (1 : Int32)) 42) (cond (zi_in (((2 : Int32) * w21.1) + (1 : Int32)) 40) (zt (zsi s7 169 (((34 : Int32) + ((2 : Int32) * (s7.1 161 5))) + (1 : Int32)).toNatClampNeg (100 : Int32)) (fun s10 => cond (zi_in (s10.1 161 5) 4) (zt (zsi s10 168 (s10.1 161 5).toNatClampNeg (s10.1 172 (((2 : Int32) * w21.1) + (1 : Int32)).toNatClampNeg)) (fun s12 => some (Sum.inl ((w21.1 + (1 : Int32)), (zsi s12 161 5 ((s12.1 161 5) + (1 : Int32))))))) none)) none) none)) none) none
theorem tX12_barges_B21 {n : Nat} {c : Nat × Nat} {w21 : Int32 × zs} {o : _} {v : Option Value} {S' : zi_S} (h : fX12_barges_B21 n w21 = some o) (hn : ∀ w21, o = Sum.inl w21 → zr kX12_barges 1 5 21 [some (.ref 161), none, some (.int w21.1)] [] (zS c w21.2) v S') (hx : ∀ z, o = Sum.inr z → (fun z => zr kX12_barges 1 5 106 [some (.ref 161), none, none] [] (zS c z) v S') z) : zr kX12_barges 1 5 21 [some (.ref 161), none, some (.int w21.1)] [] (zS c w21.2) v S' := by
  unfold fX12_barges_B21 at h
  refine zr_many 2 (pc' := 23) (L' := [some (.ref 161), none, some (.int w21.1)]) (st' := [.ref 161, .int w21.1]) (S1 := zS c w21.2) rfl ?_
  refine zq_get rfl (zh_161 _) rfl rfl rfl ?_
  refine zq_if2 (b := (w21.2.1 161 22) ≤ w21.1) rfl Iff.rfl rfl (fun g5 => ?_) (fun g5 => ?_)
  · rw [if_pos g5] at h
    obtain rfl := Option.some.inj h
    exact zr_wk [some (.ref 161), none, none] ⟨rfl, trivial⟩ (hx w21.2 rfl)
  · rw [if_neg g5] at h
    refine zr_many 1 (pc' := 30) (L' := [some (.ref 161), none, some (.int w21.1)]) (st' := [.ref 161]) (S1 := zS c w21.2) rfl ?_
    refine zq_get rfl (zh_161 _) rfl rfl rfl ?_
    refine zr_many 3 (pc' := 37) (L' := [some (.ref 161), none, some (.int w21.1)]) (st' := [.ref 161, .int (2 : Int32), .int (34 : Int32), .ref 169]) (S1 := zS c w21.2) rfl ?_
    refine zq_get rfl (zh_161 _) rfl rfl rfl ?_
    refine zr_many 5 (pc' := 45) (L' := [some (.ref 161), none, some (.int w21.1)]) (st' := [.ref 161, .int (((34 : Int32) + ((2 : Int32) * (w21.2.1 161 5))) + (0 : Int32)), .ref 169]) (S1 := zS c w21.2) rfl ?_
    refine zq_get rfl (zh_161 _) rfl rfl rfl ?_
    refine zr_many 3 (pc' := 51) (L' := [some (.ref 161), none, some (.int w21.1)]) (st' := [.int ((2 : Int32) * w21.1), .ref 172, .int (((34 : Int32) + ((2 : Int32) * (w21.2.1 161 5))) + (0 : Int32)), .ref 169]) (S1 := zS c w21.2) rfl ?_
    obtain ⟨g6, h⟩ := zi_cond_inv h
    refine zq_ild rfl (zh_172 _) rfl g6 rfl ?_
    obtain ⟨g14, h⟩ := zi_cond_inv h
    refine zq_ist rfl zh_169 rfl g14 rfl ?_
    refine zr_many 1 (pc' := 54) (L' := [some (.ref 161), none, some (.int w21.1)]) (st' := [.ref 161]) (S1 := zS c (zsi w21.2 169 (((34 : Int32) + ((2 : Int32) * (w21.2.1 161 5))) + (0 : Int32)).toNatClampNeg (w21.2.1 172 ((2 : Int32) * w21.1).toNatClampNeg))) rfl ?_
    refine zq_get rfl (zh_161 _) rfl rfl rfl ?_
    refine zr_many 3 (pc' := 61) (L' := [some (.ref 161), none, some (.int w21.1)]) (st' := [.ref 161, .int (2 : Int32), .int (34 : Int32), .ref 169]) (S1 := zS c (zsi w21.2 169 (((34 : Int32) + ((2 : Int32) * (w21.2.1 161 5))) + (0 : Int32)).toNatClampNeg (w21.2.1 172 ((2 : Int32) * w21.1).toNatClampNeg))) rfl ?_
    refine zq_get rfl (zh_161 _) rfl rfl rfl ?_
    refine zr_many 5 (pc' := 70) (L' := [some (.ref 161), none, some (.int w21.1)]) (st' := [.int (100 : Int32), .int (((34 : Int32) + ((2 : Int32) * ((zsi w21.2 169 (((34 : Int32) + ((2 : Int32) * (w21.2.1 161 5))) + (0 : Int32)).toNatClampNeg (w21.2.1 172 ((2 : Int32) * w21.1).toNatClampNeg)).1 161 5))) + (1 : Int32)), .ref 169]) (S1 := zS c (zsi w21.2 169 (((34 : Int32) + ((2 : Int32) * (w21.2.1 161 5))) + (0 : Int32)).toNatClampNeg (w21.2.1 172 ((2 : Int32) * w21.1).toNatClampNeg))) rfl ?_
    obtain ⟨s7, e8, h⟩ := zt_in h
    rw [← e8]
    obtain ⟨g15, h⟩ := zi_cond_inv h
    refine zq_ist rfl zh_169 rfl g15 rfl ?_
    refine zr_many 1 (pc' := 72) (L' := [some (.ref 161), none, some (.int w21.1)]) (st' := [.ref 161]) (S1 := zS c (zsi s7 169 (((34 : Int32) + ((2 : Int32) * (s7.1 161 5))) + (1 : Int32)).toNatClampNeg (100 : Int32))) rfl ?_
    refine zq_get rfl (zh_161 _) rfl rfl rfl ?_
    refine zr_many 1 (pc' := 76) (L' := [some (.ref 161), none, some (.int w21.1)]) (st' := [.ref 161, .ref 168]) (S1 := zS c (zsi s7 169 (((34 : Int32) + ((2 : Int32) * (s7.1 161 5))) + (1 : Int32)).toNatClampNeg (100 : Int32))) rfl ?_
    refine zq_get rfl (zh_161 _) rfl rfl rfl ?_
    refine zr_many 1 (pc' := 80) (L' := [some (.ref 161), none, some (.int w21.1)]) (st' := [.ref 161, .int ((zsi s7 169 (((34 : Int32) + ((2 : Int32) * (s7.1 161 5))) + (1 : Int32)).toNatClampNeg (100 : Int32)).1 161 5), .ref 168]) (S1 := zS c (zsi s7 169 (((34 : Int32) + ((2 : Int32) * (s7.1 161 5))) + (1 : Int32)).toNatClampNeg (100 : Int32))) rfl ?_
    refine zq_get rfl (zh_161 _) rfl rfl rfl ?_
    refine zr_many 5 (pc' := 88) (L' := [some (.ref 161), none, some (.int w21.1)]) (st' := [.int (((2 : Int32) * w21.1) + (1 : Int32)), .ref 172, .int ((zsi s7 169 (((34 : Int32) + ((2 : Int32) * (s7.1 161 5))) + (1 : Int32)).toNatClampNeg (100 : Int32)).1 161 5), .ref 168]) (S1 := zS c (zsi s7 169 (((34 : Int32) + ((2 : Int32) * (s7.1 161 5))) + (1 : Int32)).toNatClampNeg (100 : Int32))) rfl ?_
    obtain ⟨g9, h⟩ := zi_cond_inv h
    refine zq_ild rfl (zh_172 _) rfl g9 rfl ?_
    obtain ⟨s10, e11, h⟩ := zt_in h
    rw [← e11]
    obtain ⟨g16, h⟩ := zi_cond_inv h
    refine zq_ist rfl zh_168 rfl g16 rfl ?_
    refine zr_many 2 (pc' := 92) (L' := [some (.ref 161), none, some (.int w21.1)]) (st' := [.ref 161, .ref 161]) (S1 := zS c (zsi s10 168 (s10.1 161 5).toNatClampNeg (s10.1 172 (((2 : Int32) * w21.1) + (1 : Int32)).toNatClampNeg))) rfl ?_
    refine zq_get rfl (zh_161 _) rfl rfl rfl ?_
    refine zr_many 2 (pc' := 97) (L' := [some (.ref 161), none, some (.int w21.1)]) (st' := [.int (((zsi s10 168 (s10.1 161 5).toNatClampNeg (s10.1 172 (((2 : Int32) * w21.1) + (1 : Int32)).toNatClampNeg)).1 161 5) + (1 : Int32)), .ref 161]) (S1 := zS c (zsi s10 168 (s10.1 161 5).toNatClampNeg (s10.1 172 (((2 : Int32) * w21.1) + (1 : Int32)).toNatClampNeg))) rfl ?_
    obtain ⟨s12, e13, h⟩ := zt_in h
    rw [← e13]
    refine zq_put (s' := (zsi s12 161 5 ((s12.1 161 5) + (1 : Int32)))) rfl (zh_161 _) rfl rfl rfl rfl zsi_ne rfl ?_
    refine zr_many 2 (pc' := 21) (L' := [some (.ref 161), none, some (.int (w21.1 + (1 : Int32)))]) (st' := []) (S1 := zS c (zsi s12 161 5 ((s12.1 161 5) + (1 : Int32)))) rfl ?_
    obtain rfl := Option.some.inj h
    exact zr_wk [some (.ref 161), none, some (.int (w21.1 + (1 : Int32)))] ⟨rfl, rfl, trivial⟩ (hn ((w21.1 + (1 : Int32)), (zsi s12 161 5 ((s12.1 161 5) + (1 : Int32)))) rfl)
def fX12_barges (n : Nat) (s : zs) : Option (Int32 × zs) := zb (fX12_readsLines n (zsi s 161 0 (0 : Int32)) (2 : Int32) (11 : Int32)) (fun r1 s2 => if 0 ≤ r1 then zp (zl (fX12_barges_B21 n) n ((0 : Int32), s2)) (fun w17 => zb (fX12_came n w17) (fun r18 s19 => some (r18, s19))) else some (r1, s2))
theorem tX12_barges {n : Nat} {c : Nat × Nat} {s : zs} {r : Int32} {s' : zs} (h : fX12_barges n s = some (r, s')) : zc 6 2434 [.ref 161] (zS c s) (some (.int r)) (zS c s') := by
  refine zc_of (k := kX12_barges) (rt := 1) (L := [some (.ref 161), none, none]) zm_2434.1 rfl rfl (by decide) rfl rfl ?_
  unfold fX12_barges at h
  refine zr_many 2 (pc' := 2) (L' := [some (.ref 161), none, none]) (st' := [.int (0 : Int32), .ref 161]) (S1 := zS c s) rfl ?_
  refine zq_put (s' := (zsi s 161 0 (0 : Int32))) rfl (zh_161 _) rfl rfl rfl rfl zsi_ne rfl ?_
  refine zr_many 3 (pc' := 9) (L' := [some (.ref 161), none, none]) (st' := [.int (11 : Int32), .int (2 : Int32), .ref 161]) (S1 := zS c (zsi s 161 0 (0 : Int32))) rfl ?_
  obtain ⟨r1, s2, g3, h⟩ := zb_inv h
  refine zq_call1 rfl rfl (zh_161 _) rfl rfl rfl (tX12_readsLines g3) rfl ?_
  refine zr_many 2 (pc' := 14) (L' := [some (.ref 161), some (.int r1), none]) (st' := [.int r1]) (S1 := zS c s2) rfl ?_
  refine zq_if1 (b := 0 ≤ r1) rfl Iff.rfl rfl (fun g4 => ?_) (fun g4 => ?_)
  · rw [if_pos g4] at h
    refine zr_many 2 (pc' := 21) (L' := [some (.ref 161), some (.int r1), some (.int (0 : Int32))]) (st' := []) (S1 := zS c s2) rfl ?_
    obtain ⟨w17, g21, h⟩ := zp_inv h
    refine zr_wk [some (.ref 161), none, some (.int (0 : Int32))] ⟨rfl, rfl, trivial⟩ (zl_cert (Z := fun w21 => zr kX12_barges 1 5 21 [some (.ref 161), none, some (.int w21.1)] [] (zS c w21.2) _ _) (Y := (fun z => zr kX12_barges 1 5 106 [some (.ref 161), none, none] [] (zS c z) _ _)) (fun w o h1 h2 h3 => tX12_barges_B21 h1 h2 h3) n _ _ g21 ?_)
    show zr kX12_barges 1 5 106 [some (.ref 161), none, none] [] (zS c w17) _ _
    refine zr_many 1 (pc' := 107) (L' := [some (.ref 161), none, none]) (st' := [.ref 161]) (S1 := zS c w17) rfl ?_
    obtain ⟨r18, s19, g20, h⟩ := zb_inv h
    refine zq_call1 rfl rfl (zh_161 _) rfl rfl rfl ((tX12_came g20).up (by decide)) rfl ?_
    obtain ⟨rfl, rfl⟩ := Prod.mk.inj (Option.some.inj h)
    exact zq_iret rfl
  · rw [if_neg g4] at h
    refine zr_many 1 (pc' := 18) (L' := [some (.ref 161), some (.int r1), none]) (st' := [.int r1]) (S1 := zS c s2) rfl ?_
    obtain ⟨rfl, rfl⟩ := Prod.mk.inj (Option.some.inj h)
    exact zq_iret rfl
def fX12_codes (n : Nat) (s : zs) (x1 : Int32) : Option zs := cond (zi_in (s.1 161 26) 80) (zt (zsi s 174 (s.1 161 26).toNatClampNeg x1) (fun s1 => some (zsi s1 161 26 ((s1.1 161 26) + (1 : Int32))))) none
theorem tX12_codes {n : Nat} {c : Nat × Nat} {s : zs} {x1 : Int32} {s' : zs} (h : fX12_codes n s x1 = some s') : zc 1 2435 [.ref 161, .int x1] (zS c s) none (zS c s') := by
  refine zc_of (k := kX12_codes) (rt := 0) (L := [some (.ref 161), some (.int x1)]) zm_2435.1 rfl rfl (by decide) rfl rfl ?_
  unfold fX12_codes at h
  refine zr_many 1 (pc' := 1) (L' := [some (.ref 161), some (.int x1)]) (st' := [.ref 161]) (S1 := zS c s) rfl ?_
  refine zq_get rfl (zh_161 _) rfl rfl rfl ?_
  refine zr_many 1 (pc' := 5) (L' := [some (.ref 161), some (.int x1)]) (st' := [.ref 161, .ref 174]) (S1 := zS c s) rfl ?_
  refine zq_get rfl (zh_161 _) rfl rfl rfl ?_
  refine zr_many 1 (pc' := 9) (L' := [some (.ref 161), some (.int x1)]) (st' := [.int x1, .int (s.1 161 26), .ref 174]) (S1 := zS c s) rfl ?_
  obtain ⟨g3, h⟩ := zi_cond_inv h
  refine zq_ist rfl zh_174 rfl g3 rfl ?_
  refine zr_many 2 (pc' := 12) (L' := [some (.ref 161), some (.int x1)]) (st' := [.ref 161, .ref 161]) (S1 := zS c (zsi s 174 (s.1 161 26).toNatClampNeg x1)) rfl ?_
  refine zq_get rfl (zh_161 _) rfl rfl rfl ?_
  refine zr_many 2 (pc' := 17) (L' := [some (.ref 161), some (.int x1)]) (st' := [.int (((zsi s 174 (s.1 161 26).toNatClampNeg x1).1 161 26) + (1 : Int32)), .ref 161]) (S1 := zS c (zsi s 174 (s.1 161 26).toNatClampNeg x1)) rfl ?_
  obtain ⟨s1, e2, h⟩ := zt_in h
  rw [← e2]
  refine zq_put (s' := (zsi s1 161 26 ((s1.1 161 26) + (1 : Int32)))) rfl (zh_161 _) rfl rfl rfl rfl zsi_ne rfl ?_
  obtain rfl := Option.some.inj h
  exact zq_vret rfl
def fX12_readsRank_J109 (n : Nat) (rc0 : zs → Option (Int32 × zs)) (rc1 : zs → Int32 → Option (Int32 × zs)) (s : zs) (x1 : Int32) (y0 : Int32) : Option ((Int32 × zs) ⊕ ((zs) ⊕ ((zs) ⊕ (zs)))) := some (Sum.inl (y0, s))
theorem tX12_readsRank_J109 {n : Nat} {rc0 : zs → Option (Int32 × zs)} {rc1 : zs → Int32 → Option (Int32 × zs)} {d : Nat} (hd : 5 ≤ d) (hrc0 : ∀ {c : Nat × Nat} {s : zs} {r : Int32} {s' : zs}, rc0 s = some (r, s') → zc d 2436 [.ref 161] (zS c s) (some (.int r)) (zS c s')) (hrc1 : ∀ {c : Nat × Nat} {s : zs} {a1 : Int32} {r : Int32} {s' : zs}, rc1 s a1 = some (r, s') → zc d 2437 [.ref 161, .int a1] (zS c s) (some (.int r)) (zS c s')) {c : Nat × Nat} {s : zs} {x1 : Int32} {y0 : Int32} {o : _} {v : Option Value} {S' : zi_S} (h : fX12_readsRank_J109 n rc0 rc1 s x1 y0 = some o) (hn : ∀ w24, o = Sum.inl w24 → zr kX12_readsRank 2 d 24 [some (.ref 161), some (.int x1), some (.int w24.1), none] [] (zS c w24.2) v S') (hx : ∀ z, o = Sum.inr z → (Sum.elim (fun z => zr kX12_readsRank 2 d 58 [none, none, none, none] [] (zS c z) v S') (Sum.elim (fun z => zr kX12_readsRank 2 d 70 [none, none, none, none] [] (zS c z) v S') (fun z => zr kX12_readsRank 2 d 113 [none, none, none, none] [] (zS c z) v S'))) z) : zr kX12_readsRank 2 d 109 [some (.ref 161), some (.int x1), none, none] [.int y0] (zS c s) v S' := by
  unfold fX12_readsRank_J109 at h
  refine zr_many 2 (pc' := 24) (L' := [some (.ref 161), some (.int x1), some (.int y0), none]) (st' := []) (S1 := zS c s) rfl ?_
  obtain rfl := Option.some.inj h
  exact zr_wk [some (.ref 161), some (.int x1), some (.int y0), none] ⟨rfl, rfl, rfl, trivial⟩ (hn (y0, s) rfl)
def fX12_readsRank_J96 (n : Nat) (rc0 : zs → Option (Int32 × zs)) (rc1 : zs → Int32 → Option (Int32 × zs)) (s : zs) (x1 : Int32) (y1 : Int32) (y2 : Int32) : Option ((Int32 × zs) ⊕ ((zs) ⊕ ((zs) ⊕ (zs)))) := zp (fX12_codes n s (y1 + y2)) (fun s20 => if x1 ≤ 0 then fX12_readsRank_J109 n rc0 rc1 s20 x1 (0 : Int32) else fX12_readsRank_J109 n rc0 rc1 s20 x1 (1 : Int32))
theorem tX12_readsRank_J96 {n : Nat} {rc0 : zs → Option (Int32 × zs)} {rc1 : zs → Int32 → Option (Int32 × zs)} {d : Nat} (hd : 5 ≤ d) (hrc0 : ∀ {c : Nat × Nat} {s : zs} {r : Int32} {s' : zs}, rc0 s = some (r, s') → zc d 2436 [.ref 161] (zS c s) (some (.int r)) (zS c s')) (hrc1 : ∀ {c : Nat × Nat} {s : zs} {a1 : Int32} {r : Int32} {s' : zs}, rc1 s a1 = some (r, s') → zc d 2437 [.ref 161, .int a1] (zS c s) (some (.int r)) (zS c s')) {c : Nat × Nat} {s : zs} {x1 : Int32} {y1 : Int32} {y2 : Int32} {o : _} {v : Option Value} {S' : zi_S} (h : fX12_readsRank_J96 n rc0 rc1 s x1 y1 y2 = some o) (hn : ∀ w24, o = Sum.inl w24 → zr kX12_readsRank 2 d 24 [some (.ref 161), some (.int x1), some (.int w24.1), none] [] (zS c w24.2) v S') (hx : ∀ z, o = Sum.inr z → (Sum.elim (fun z => zr kX12_readsRank 2 d 58 [none, none, none, none] [] (zS c z) v S') (Sum.elim (fun z => zr kX12_readsRank 2 d 70 [none, none, none, none] [] (zS c z) v S') (fun z => zr kX12_readsRank 2 d 113 [none, none, none, none] [] (zS c z) v S'))) z) : zr kX12_readsRank 2 d 96 [some (.ref 161), some (.int x1), none, none] [.int y2, .int y1, .ref 161] (zS c s) v S' := by
  unfold fX12_readsRank_J96 at h
  refine zr_many 1 (pc' := 97) (L' := [some (.ref 161), some (.int x1), none, none]) (st' := [.int (y1 + y2), .ref 161]) (S1 := zS c s) rfl ?_
  obtain ⟨s20, g21, h⟩ := zp_inv h
  refine zq_call0 rfl rfl (zh_161 _) rfl rfl rfl ((tX12_codes g21).up (by omega)) rfl ?_
  refine zr_many 1 (pc' := 101) (L' := [some (.ref 161), some (.int x1), none, none]) (st' := [.int x1]) (S1 := zS c s20) rfl ?_
  refine zq_if1 (b := x1 ≤ 0) rfl Iff.rfl rfl (fun g22 => ?_) (fun g22 => ?_)
  · rw [if_pos g22] at h
    refine zr_many 1 (pc' := 109) (L' := [some (.ref 161), some (.int x1), none, none]) (st' := [.int (0 : Int32)]) (S1 := zS c s20) rfl ?_
    exact zr_wk [some (.ref 161), some (.int x1), none, none] ⟨rfl, rfl, trivial⟩ (tX12_readsRank_J109 hd hrc0 hrc1 h hn hx)
  · rw [if_neg g22] at h
    refine zr_many 2 (pc' := 109) (L' := [some (.ref 161), some (.int x1), none, none]) (st' := [.int (1 : Int32)]) (S1 := zS c s20) rfl ?_
    exact zr_wk [some (.ref 161), some (.int x1), none, none] ⟨rfl, rfl, trivial⟩ (tX12_readsRank_J109 hd hrc0 hrc1 h hn hx)
def fX12_readsRank_J50 (n : Nat) (rc0 : zs → Option (Int32 × zs)) (rc1 : zs → Int32 → Option (Int32 × zs)) (s : zs) (x1 : Int32) (t1 : Nat) : Option ((Int32 × zs) ⊕ ((zs) ⊕ ((zs) ⊕ (zs)))) := zb (fX12_takesOf n s t1) (fun r9 s10 => if 0 ≤ r9 then zb (rc1 s10 (x1 + (1 : Int32))) (fun r13 s14 => if ¬ r13 = 0 then if ¬ x1 = 0 then if ¬ x1 = (1 : Int32) then fX12_readsRank_J96 n rc0 rc1 s14 x1 ((2000 : Int32) + r9) (5 : Int32) else fX12_readsRank_J96 n rc0 rc1 s14 x1 ((2000 : Int32) + r9) (3 : Int32) else fX12_readsRank_J96 n rc0 rc1 s14 x1 ((2000 : Int32) + r9) (0 : Int32) else some (Sum.inr (Sum.inr (Sum.inl s14)))) else some (Sum.inr (Sum.inl s10)))
theorem tX12_readsRank_J50 {n : Nat} {rc0 : zs → Option (Int32 × zs)} {rc1 : zs → Int32 → Option (Int32 × zs)} {d : Nat} (hd : 5 ≤ d) (hrc0 : ∀ {c : Nat × Nat} {s : zs} {r : Int32} {s' : zs}, rc0 s = some (r, s') → zc d 2436 [.ref 161] (zS c s) (some (.int r)) (zS c s')) (hrc1 : ∀ {c : Nat × Nat} {s : zs} {a1 : Int32} {r : Int32} {s' : zs}, rc1 s a1 = some (r, s') → zc d 2437 [.ref 161, .int a1] (zS c s) (some (.int r)) (zS c s')) {c : Nat × Nat} {s : zs} {x1 : Int32} {t1 : Nat} {o : _} {v : Option Value} {S' : zi_S} (ht1 : zT t1) (h : fX12_readsRank_J50 n rc0 rc1 s x1 t1 = some o) (hn : ∀ w24, o = Sum.inl w24 → zr kX12_readsRank 2 d 24 [some (.ref 161), some (.int x1), some (.int w24.1), none] [] (zS c w24.2) v S') (hx : ∀ z, o = Sum.inr z → (Sum.elim (fun z => zr kX12_readsRank 2 d 58 [none, none, none, none] [] (zS c z) v S') (Sum.elim (fun z => zr kX12_readsRank 2 d 70 [none, none, none, none] [] (zS c z) v S') (fun z => zr kX12_readsRank 2 d 113 [none, none, none, none] [] (zS c z) v S'))) z) : zr kX12_readsRank 2 d 50 [some (.ref 161), some (.int x1), none, none] [.ref t1, .ref 161] (zS c s) v S' := by
  unfold fX12_readsRank_J50 at h
  obtain ⟨r9, s10, g11, h⟩ := zb_inv h
  refine zq_call1 rfl rfl (zh_161 _) rfl rfl rfl ((tX12_takesOf ht1 g11).up (by omega)) rfl ?_
  refine zr_many 2 (pc' := 55) (L' := [some (.ref 161), some (.int x1), none, some (.int r9)]) (st' := [.int r9]) (S1 := zS c s10) rfl ?_
  refine zq_if1 (b := 0 ≤ r9) rfl Iff.rfl rfl (fun g12 => ?_) (fun g12 => ?_)
  · rw [if_pos g12] at h
    refine zr_many 4 (pc' := 64) (L' := [some (.ref 161), some (.int x1), none, some (.int r9)]) (st' := [.int (x1 + (1 : Int32)), .ref 161]) (S1 := zS c s10) rfl ?_
    obtain ⟨r13, s14, g15, h⟩ := zb_inv h
    refine zq_call1 rfl rfl (zh_161 _) rfl rfl rfl (hrc1 g15) rfl ?_
    refine zq_if1 (b := ¬ r13 = 0) rfl Iff.rfl rfl (fun g16 => ?_) (fun g16 => ?_)
    · rw [if_pos g16] at h
      refine zr_many 5 (pc' := 79) (L' := [some (.ref 161), some (.int x1), none, some (.int r9)]) (st' := [.int x1, .int ((2000 : Int32) + r9), .ref 161]) (S1 := zS c s14) rfl ?_
      refine zq_if1 (b := ¬ x1 = 0) rfl Iff.rfl rfl (fun g17 => ?_) (fun g17 => ?_)
      · rw [if_pos g17] at h
        refine zr_many 2 (pc' := 88) (L' := [some (.ref 161), some (.int x1), none, some (.int r9)]) (st' := [.int (1 : Int32), .int x1, .int ((2000 : Int32) + r9), .ref 161]) (S1 := zS c s14) rfl ?_
        refine zq_if2 (b := ¬ x1 = (1 : Int32)) rfl Iff.rfl rfl (fun g18 => ?_) (fun g18 => ?_)
        · rw [if_pos g18] at h
          refine zr_many 1 (pc' := 96) (L' := [some (.ref 161), some (.int x1), none, some (.int r9)]) (st' := [.int (5 : Int32), .int ((2000 : Int32) + r9), .ref 161]) (S1 := zS c s14) rfl ?_
          exact zr_wk [some (.ref 161), some (.int x1), none, none] ⟨rfl, rfl, trivial⟩ (tX12_readsRank_J96 hd hrc0 hrc1 h hn hx)
        · rw [if_neg g18] at h
          refine zr_many 2 (pc' := 96) (L' := [some (.ref 161), some (.int x1), none, some (.int r9)]) (st' := [.int (3 : Int32), .int ((2000 : Int32) + r9), .ref 161]) (S1 := zS c s14) rfl ?_
          exact zr_wk [some (.ref 161), some (.int x1), none, none] ⟨rfl, rfl, trivial⟩ (tX12_readsRank_J96 hd hrc0 hrc1 h hn hx)
      · rw [if_neg g17] at h
        refine zr_many 2 (pc' := 96) (L' := [some (.ref 161), some (.int x1), none, some (.int r9)]) (st' := [.int (0 : Int32), .int ((2000 : Int32) + r9), .ref 161]) (S1 := zS c s14) rfl ?_
        exact zr_wk [some (.ref 161), some (.int x1), none, none] ⟨rfl, rfl, trivial⟩ (tX12_readsRank_J96 hd hrc0 hrc1 h hn hx)
    · rw [if_neg g16] at h
      obtain rfl := Option.some.inj h
      exact zr_wk [none, none, none, none] trivial (hx (Sum.inr (Sum.inl s14)) rfl)
  · rw [if_neg g12] at h
    obtain rfl := Option.some.inj h
    exact zr_wk [none, none, none, none] trivial (hx (Sum.inl s10) rfl)
def fX12_readsRank_B24 (n : Nat) (rc0 : zs → Option (Int32 × zs)) (rc1 : zs → Int32 → Option (Int32 × zs)) (x1 : Int32) (w24 : Int32 × zs) : Option ((Int32 × zs) ⊕ ((zs) ⊕ ((zs) ⊕ (zs)))) := if w24.1 = 0 then some (Sum.inr (Sum.inr (Sum.inr w24.2))) else if ¬ x1 = 0 then if ¬ x1 = (1 : Int32) then fX12_readsRank_J50 n rc0 rc1 w24.2 x1 (1000000 + 6) else fX12_readsRank_J50 n rc0 rc1 w24.2 x1 (1000000 + 4) else fX12_readsRank_J50 n rc0 rc1 w24.2 x1 (1000000 + 2)
theorem tX12_readsRank_B24 {n : Nat} {rc0 : zs → Option (Int32 × zs)} {rc1 : zs → Int32 → Option (Int32 × zs)} {d : Nat} (hd : 5 ≤ d) (hrc0 : ∀ {c : Nat × Nat} {s : zs} {r : Int32} {s' : zs}, rc0 s = some (r, s') → zc d 2436 [.ref 161] (zS c s) (some (.int r)) (zS c s')) (hrc1 : ∀ {c : Nat × Nat} {s : zs} {a1 : Int32} {r : Int32} {s' : zs}, rc1 s a1 = some (r, s') → zc d 2437 [.ref 161, .int a1] (zS c s) (some (.int r)) (zS c s')) {c : Nat × Nat} {x1 : Int32} {w24 : Int32 × zs} {o : _} {v : Option Value} {S' : zi_S} (h : fX12_readsRank_B24 n rc0 rc1 x1 w24 = some o) (hn : ∀ w24, o = Sum.inl w24 → zr kX12_readsRank 2 d 24 [some (.ref 161), some (.int x1), some (.int w24.1), none] [] (zS c w24.2) v S') (hx : ∀ z, o = Sum.inr z → (Sum.elim (fun z => zr kX12_readsRank 2 d 58 [none, none, none, none] [] (zS c z) v S') (Sum.elim (fun z => zr kX12_readsRank 2 d 70 [none, none, none, none] [] (zS c z) v S') (fun z => zr kX12_readsRank 2 d 113 [none, none, none, none] [] (zS c z) v S'))) z) : zr kX12_readsRank 2 d 24 [some (.ref 161), some (.int x1), some (.int w24.1), none] [] (zS c w24.2) v S' := by
  unfold fX12_readsRank_B24 at h
  refine zr_many 1 (pc' := 25) (L' := [some (.ref 161), some (.int x1), some (.int w24.1), none]) (st' := [.int w24.1]) (S1 := zS c w24.2) rfl ?_
  refine zq_if1 (b := w24.1 = 0) rfl Iff.rfl rfl (fun g6 => ?_) (fun g6 => ?_)
  · rw [if_pos g6] at h
    obtain rfl := Option.some.inj h
    exact zr_wk [none, none, none, none] trivial (hx (Sum.inr (Sum.inr w24.2)) rfl)
  · rw [if_neg g6] at h
    refine zr_many 2 (pc' := 30) (L' := [some (.ref 161), some (.int x1), some (.int w24.1), none]) (st' := [.int x1, .ref 161]) (S1 := zS c w24.2) rfl ?_
    refine zq_if1 (b := ¬ x1 = 0) rfl Iff.rfl rfl (fun g7 => ?_) (fun g7 => ?_)
    · rw [if_pos g7] at h
      refine zr_many 2 (pc' := 40) (L' := [some (.ref 161), some (.int x1), some (.int w24.1), none]) (st' := [.int (1 : Int32), .int x1, .ref 161]) (S1 := zS c w24.2) rfl ?_
      refine zq_if2 (b := ¬ x1 = (1 : Int32)) rfl Iff.rfl rfl (fun g8 => ?_) (fun g8 => ?_)
      · rw [if_pos g8] at h
        refine zr_many 1 (pc' := 50) (L' := [some (.ref 161), some (.int x1), some (.int w24.1), none]) (st' := [.ref (1000000 + 6), .ref 161]) (S1 := zS c w24.2) rfl ?_
        exact zr_wk [some (.ref 161), some (.int x1), none, none] ⟨rfl, rfl, trivial⟩ (tX12_readsRank_J50 hd hrc0 hrc1 zT_6 h hn hx)
      · rw [if_neg g8] at h
        refine zr_many 2 (pc' := 50) (L' := [some (.ref 161), some (.int x1), some (.int w24.1), none]) (st' := [.ref (1000000 + 4), .ref 161]) (S1 := zS c w24.2) rfl ?_
        exact zr_wk [some (.ref 161), some (.int x1), none, none] ⟨rfl, rfl, trivial⟩ (tX12_readsRank_J50 hd hrc0 hrc1 zT_4 h hn hx)
    · rw [if_neg g7] at h
      refine zr_many 2 (pc' := 50) (L' := [some (.ref 161), some (.int x1), some (.int w24.1), none]) (st' := [.ref (1000000 + 2), .ref 161]) (S1 := zS c w24.2) rfl ?_
      exact zr_wk [some (.ref 161), some (.int x1), none, none] ⟨rfl, rfl, trivial⟩ (tX12_readsRank_J50 hd hrc0 hrc1 zT_2 h hn hx)
def fX12_readsRank_M (n : Nat) (rc0 : zs → Option (Int32 × zs)) (rc1 : zs → Int32 → Option (Int32 × zs)) (s : zs) (x1 : Int32) : Option (Int32 × zs) := if ¬ x1 = (3 : Int32) then zb (rc1 s (x1 + (1 : Int32))) (fun r2 s3 => if ¬ r2 = 0 then zp (zl (fX12_readsRank_B24 n rc0 rc1 x1) n ((1 : Int32), s3)) (Sum.elim (fun w23 => some ((1 : Int32), w23)) (Sum.elim (fun w24 => some ((0 : Int32), w24)) (fun w25 => some ((1 : Int32), w25)))) else some ((0 : Int32), s3)) else zb (rc0 s) (fun r27 s28 => if r27 = 0 ∨ r27 = 1 then some (r27, s28) else none)
theorem tX12_readsRank_M {n : Nat} {rc0 : zs → Option (Int32 × zs)} {rc1 : zs → Int32 → Option (Int32 × zs)} {d : Nat} (hd : 5 ≤ d) (hrc0 : ∀ {c : Nat × Nat} {s : zs} {r : Int32} {s' : zs}, rc0 s = some (r, s') → zc d 2436 [.ref 161] (zS c s) (some (.int r)) (zS c s')) (hrc1 : ∀ {c : Nat × Nat} {s : zs} {a1 : Int32} {r : Int32} {s' : zs}, rc1 s a1 = some (r, s') → zc d 2437 [.ref 161, .int a1] (zS c s) (some (.int r)) (zS c s')) {c : Nat × Nat} {s : zs} {x1 : Int32} {r : Int32} {s' : zs} (h : fX12_readsRank_M n rc0 rc1 s x1 = some (r, s')) : zc (d + 1) 2437 [.ref 161, .int x1] (zS c s) (some (.int r)) (zS c s') := by
  refine zc_of (k := kX12_readsRank) (rt := 2) (L := [some (.ref 161), some (.int x1), none, none]) zm_2437.1 rfl rfl (by decide) rfl rfl ?_
  unfold fX12_readsRank_M at h
  refine zr_many 2 (pc' := 2) (L' := [some (.ref 161), some (.int x1), none, none]) (st' := [.int (3 : Int32), .int x1]) (S1 := zS c s) rfl ?_
  refine zq_if2 (b := ¬ x1 = (3 : Int32)) rfl Iff.rfl rfl (fun g1 => ?_) (fun g1 => ?_)
  · rw [if_pos g1] at h
    refine zr_many 4 (pc' := 14) (L' := [some (.ref 161), some (.int x1), none, none]) (st' := [.int (x1 + (1 : Int32)), .ref 161]) (S1 := zS c s) rfl ?_
    obtain ⟨r2, s3, g4, h⟩ := zb_inv h
    refine zq_call1 rfl rfl (zh_161 _) rfl rfl rfl (hrc1 g4) rfl ?_
    refine zq_if1 (b := ¬ r2 = 0) rfl Iff.rfl rfl (fun g5 => ?_) (fun g5 => ?_)
    · rw [if_pos g5] at h
      refine zr_many 2 (pc' := 24) (L' := [some (.ref 161), some (.int x1), some (.int (1 : Int32)), none]) (st' := []) (S1 := zS c s3) rfl ?_
      obtain ⟨w30, g26, h⟩ := zp_inv h
      rcases w30 with w23 | w24 | w25
      · simp only [Sum.elim_inl, Sum.elim_inr] at h
        refine zr_wk [some (.ref 161), some (.int x1), some (.int (1 : Int32)), none] ⟨rfl, rfl, rfl, trivial⟩ (zl_cert (Z := fun w24 => zr kX12_readsRank 2 d 24 [some (.ref 161), some (.int x1), some (.int w24.1), none] [] (zS c w24.2) _ _) (Y := (Sum.elim (fun z => zr kX12_readsRank 2 d 58 [none, none, none, none] [] (zS c z) _ _) (Sum.elim (fun z => zr kX12_readsRank 2 d 70 [none, none, none, none] [] (zS c z) _ _) (fun z => zr kX12_readsRank 2 d 113 [none, none, none, none] [] (zS c z) _ _)))) (fun w o h1 h2 h3 => tX12_readsRank_B24 hd hrc0 hrc1 h1 h2 h3) n _ _ g26 ?_)
        show zr kX12_readsRank 2 d 58 [none, none, none, none] [] (zS c w23) _ _
        refine zr_many 1 (pc' := 59) (L' := [none, none, none, none]) (st' := [.int (1 : Int32)]) (S1 := zS c w23) rfl ?_
        obtain ⟨rfl, rfl⟩ := Prod.mk.inj (Option.some.inj h)
        exact zq_zret rfl (by decide)
      · simp only [Sum.elim_inl, Sum.elim_inr] at h
        refine zr_wk [some (.ref 161), some (.int x1), some (.int (1 : Int32)), none] ⟨rfl, rfl, rfl, trivial⟩ (zl_cert (Z := fun w24 => zr kX12_readsRank 2 d 24 [some (.ref 161), some (.int x1), some (.int w24.1), none] [] (zS c w24.2) _ _) (Y := (Sum.elim (fun z => zr kX12_readsRank 2 d 58 [none, none, none, none] [] (zS c z) _ _) (Sum.elim (fun z => zr kX12_readsRank 2 d 70 [none, none, none, none] [] (zS c z) _ _) (fun z => zr kX12_readsRank 2 d 113 [none, none, none, none] [] (zS c z) _ _)))) (fun w o h1 h2 h3 => tX12_readsRank_B24 hd hrc0 hrc1 h1 h2 h3) n _ _ g26 ?_)
        show zr kX12_readsRank 2 d 70 [none, none, none, none] [] (zS c w24) _ _
        refine zr_many 1 (pc' := 71) (L' := [none, none, none, none]) (st' := [.int (0 : Int32)]) (S1 := zS c w24) rfl ?_
        obtain ⟨rfl, rfl⟩ := Prod.mk.inj (Option.some.inj h)
        exact zq_zret rfl (by decide)
      · simp only [Sum.elim_inl, Sum.elim_inr] at h
        refine zr_wk [some (.ref 161), some (.int x1), some (.int (1 : Int32)), none] ⟨rfl, rfl, rfl, trivial⟩ (zl_cert (Z := fun w24 => zr kX12_readsRank 2 d 24 [some (.ref 161), some (.int x1), some (.int w24.1), none] [] (zS c w24.2) _ _) (Y := (Sum.elim (fun z => zr kX12_readsRank 2 d 58 [none, none, none, none] [] (zS c z) _ _) (Sum.elim (fun z => zr kX12_readsRank 2 d 70 [none, none, none, none] [] (zS c z) _ _) (fun z => zr kX12_readsRank 2 d 113 [none, none, none, none] [] (zS c z) _ _)))) (fun w o h1 h2 h3 => tX12_readsRank_B24 hd hrc0 hrc1 h1 h2 h3) n _ _ g26 ?_)
        show zr kX12_readsRank 2 d 113 [none, none, none, none] [] (zS c w25) _ _
        refine zr_many 1 (pc' := 114) (L' := [none, none, none, none]) (st' := [.int (1 : Int32)]) (S1 := zS c w25) rfl ?_
        obtain ⟨rfl, rfl⟩ := Prod.mk.inj (Option.some.inj h)
        exact zq_zret rfl (by decide)
    · rw [if_neg g5] at h
      refine zr_many 1 (pc' := 21) (L' := [some (.ref 161), some (.int x1), none, none]) (st' := [.int (0 : Int32)]) (S1 := zS c s3) rfl ?_
      obtain ⟨rfl, rfl⟩ := Prod.mk.inj (Option.some.inj h)
      exact zq_zret rfl (by decide)
  · rw [if_neg g1] at h
    refine zr_many 1 (pc' := 6) (L' := [some (.ref 161), some (.int x1), none, none]) (st' := [.ref 161]) (S1 := zS c s) rfl ?_
    obtain ⟨r27, s28, g29, h⟩ := zb_inv h
    refine zq_call1 rfl rfl (zh_161 _) rfl rfl rfl (hrc0 g29) rfl ?_
    obtain ⟨gz, h⟩ := zt_inv h
    obtain ⟨rfl, rfl⟩ := Prod.mk.inj (Option.some.inj h)
    exact zq_zret rfl gz
def fX12_readsThing_J80 (n : Nat) (rc0 : zs → Option (Int32 × zs)) (rc1 : zs → Int32 → Option (Int32 × zs)) (s : zs) : Option (Int32 × zs) := some ((0 : Int32), s)
theorem tX12_readsThing_J80 {n : Nat} {rc0 : zs → Option (Int32 × zs)} {rc1 : zs → Int32 → Option (Int32 × zs)} {d : Nat} (hd : 5 ≤ d) (hrc0 : ∀ {c : Nat × Nat} {s : zs} {r : Int32} {s' : zs}, rc0 s = some (r, s') → zc d 2436 [.ref 161] (zS c s) (some (.int r)) (zS c s')) (hrc1 : ∀ {c : Nat × Nat} {s : zs} {a1 : Int32} {r : Int32} {s' : zs}, rc1 s a1 = some (r, s') → zc d 2437 [.ref 161, .int a1] (zS c s) (some (.int r)) (zS c s')) {c : Nat × Nat} {s : zs} {r : Int32} {s' : zs} (h : fX12_readsThing_J80 n rc0 rc1 s = some (r, s')) : zr kX12_readsThing 2 d 80 [none, none] [] (zS c s) (some (.int r)) (zS c s') := by
  unfold fX12_readsThing_J80 at h
  refine zr_many 1 (pc' := 81) (L' := [none, none]) (st' := [.int (0 : Int32)]) (S1 := zS c s) rfl ?_
  obtain ⟨rfl, rfl⟩ := Prod.mk.inj (Option.some.inj h)
  exact zq_zret rfl (by decide)
def fX12_readsThing_J109 (n : Nat) (rc0 : zs → Option (Int32 × zs)) (rc1 : zs → Int32 → Option (Int32 × zs)) (s : zs) : Option (Int32 × zs) := some ((0 : Int32), s)
theorem tX12_readsThing_J109 {n : Nat} {rc0 : zs → Option (Int32 × zs)} {rc1 : zs → Int32 → Option (Int32 × zs)} {d : Nat} (hd : 5 ≤ d) (hrc0 : ∀ {c : Nat × Nat} {s : zs} {r : Int32} {s' : zs}, rc0 s = some (r, s') → zc d 2436 [.ref 161] (zS c s) (some (.int r)) (zS c s')) (hrc1 : ∀ {c : Nat × Nat} {s : zs} {a1 : Int32} {r : Int32} {s' : zs}, rc1 s a1 = some (r, s') → zc d 2437 [.ref 161, .int a1] (zS c s) (some (.int r)) (zS c s')) {c : Nat × Nat} {s : zs} {r : Int32} {s' : zs} (h : fX12_readsThing_J109 n rc0 rc1 s = some (r, s')) : zr kX12_readsThing 2 d 109 [none, none] [] (zS c s) (some (.int r)) (zS c s') := by
  unfold fX12_readsThing_J109 at h
  refine zr_many 1 (pc' := 110) (L' := [none, none]) (st' := [.int (0 : Int32)]) (S1 := zS c s) rfl ?_
  obtain ⟨rfl, rfl⟩ := Prod.mk.inj (Option.some.inj h)
  exact zq_zret rfl (by decide)
def fX12_readsThing_M (n : Nat) (rc0 : zs → Option (Int32 × zs)) (rc1 : zs → Int32 → Option (Int32 × zs)) (s : zs) : Option (Int32 × zs) := zb (fX12_takes n s (45 : Int32)) (fun r1 s2 => if r1 = 0 then zp (fX12_isDigit n s2) (fun r5 => if r5 = 0 then zb (fX12_takesOf n s2 (1000000 + 0)) (fun r9 s10 => if r9 < 0 then if (s10.1 161 20) = (4 : Int32) then fX12_readsThing_J80 n rc0 rc1 s10 else zb (fX12_takes n s10 (40 : Int32)) (fun r14 s15 => if ¬ r14 = 0 then zb (rc1 (zsi s15 161 20 ((s15.1 161 20) + (1 : Int32))) (0 : Int32)) (fun r18 s19 => if r18 = 0 then fX12_readsThing_J109 n rc0 rc1 s19 else zb (fX12_takes n s19 (41 : Int32)) (fun r22 s23 => if ¬ r22 = 0 then some ((1 : Int32), (zsi s23 161 20 ((s23.1 161 20) - (1 : Int32)))) else fX12_readsThing_J109 n rc0 rc1 s23)) else fX12_readsThing_J80 n rc0 rc1 s15) else zp (fX12_codes n s10 ((1000 : Int32) + r9)) (fun s27 => some ((1 : Int32), s27))) else zb (fX12_number n s2 (3 : Int32)) (fun r29 s30 => zp (fX12_codes n s30 r29) (fun s33 => some ((1 : Int32), s33)))) else zb (rc0 s2) (fun r35 s36 => zp (fX12_codes n s36 (3000 : Int32)) (fun s39 => if r35 = 0 ∨ r35 = 1 then some (r35, s39) else none)))
theorem tX12_readsThing_M {n : Nat} {rc0 : zs → Option (Int32 × zs)} {rc1 : zs → Int32 → Option (Int32 × zs)} {d : Nat} (hd : 5 ≤ d) (hrc0 : ∀ {c : Nat × Nat} {s : zs} {r : Int32} {s' : zs}, rc0 s = some (r, s') → zc d 2436 [.ref 161] (zS c s) (some (.int r)) (zS c s')) (hrc1 : ∀ {c : Nat × Nat} {s : zs} {a1 : Int32} {r : Int32} {s' : zs}, rc1 s a1 = some (r, s') → zc d 2437 [.ref 161, .int a1] (zS c s) (some (.int r)) (zS c s')) {c : Nat × Nat} {s : zs} {r : Int32} {s' : zs} (h : fX12_readsThing_M n rc0 rc1 s = some (r, s')) : zc (d + 1) 2436 [.ref 161] (zS c s) (some (.int r)) (zS c s') := by
  refine zc_of (k := kX12_readsThing) (rt := 2) (L := [some (.ref 161), none]) zm_2436.1 rfl rfl (by decide) rfl rfl ?_
  unfold fX12_readsThing_M at h
  refine zr_many 2 (pc' := 3) (L' := [some (.ref 161), none]) (st' := [.int (45 : Int32), .ref 161]) (S1 := zS c s) rfl ?_
  obtain ⟨r1, s2, g3, h⟩ := zb_inv h
  refine zq_call1 rfl rfl (zh_161 _) rfl rfl rfl ((tX12_takes g3).up (by omega)) rfl ?_
  refine zq_if1 (b := r1 = 0) rfl Iff.rfl rfl (fun g4 => ?_) (fun g4 => ?_)
  · rw [if_pos g4] at h
    refine zr_many 1 (pc' := 24) (L' := [some (.ref 161), none]) (st' := [.ref 161]) (S1 := zS c s2) rfl ?_
    obtain ⟨r5, g7, h⟩ := zp_inv h
    refine zq_call1 rfl rfl (zh_161 _) rfl rfl rfl ((tX12_isDigit g7).up (by omega)) rfl ?_
    refine zq_if1 (b := r5 = 0) rfl Iff.rfl rfl (fun g8 => ?_) (fun g8 => ?_)
    · rw [if_pos g8] at h
      refine zr_many 2 (pc' := 44) (L' := [some (.ref 161), none]) (st' := [.ref (1000000 + 0), .ref 161]) (S1 := zS c s2) rfl ?_
      obtain ⟨r9, s10, g11, h⟩ := zb_inv h
      refine zq_call1 rfl rfl (zh_161 _) rfl rfl rfl ((tX12_takesOf zT_0 g11).up (by omega)) rfl ?_
      refine zr_many 2 (pc' := 49) (L' := [some (.ref 161), some (.int r9)]) (st' := [.int r9]) (S1 := zS c s10) rfl ?_
      refine zq_if1 (b := r9 < 0) rfl Iff.rfl rfl (fun g12 => ?_) (fun g12 => ?_)
      · rw [if_pos g12] at h
        refine zr_many 1 (pc' := 64) (L' := [some (.ref 161), some (.int r9)]) (st' := [.ref 161]) (S1 := zS c s10) rfl ?_
        refine zq_get rfl (zh_161 _) rfl rfl rfl ?_
        refine zr_many 1 (pc' := 68) (L' := [some (.ref 161), some (.int r9)]) (st' := [.int (4 : Int32), .int (s10.1 161 20)]) (S1 := zS c s10) rfl ?_
        refine zq_if2 (b := (s10.1 161 20) = (4 : Int32)) rfl Iff.rfl rfl (fun g13 => ?_) (fun g13 => ?_)
        · rw [if_pos g13] at h
          exact zr_wk [none, none] trivial (tX12_readsThing_J80 hd hrc0 hrc1 h)
        · rw [if_neg g13] at h
          refine zr_many 2 (pc' := 74) (L' := [some (.ref 161), some (.int r9)]) (st' := [.int (40 : Int32), .ref 161]) (S1 := zS c s10) rfl ?_
          obtain ⟨r14, s15, g16, h⟩ := zb_inv h
          refine zq_call1 rfl rfl (zh_161 _) rfl rfl rfl ((tX12_takes g16).up (by omega)) rfl ?_
          refine zq_if1 (b := ¬ r14 = 0) rfl Iff.rfl rfl (fun g17 => ?_) (fun g17 => ?_)
          · rw [if_pos g17] at h
            refine zr_many 2 (pc' := 84) (L' := [some (.ref 161), some (.int r9)]) (st' := [.ref 161, .ref 161]) (S1 := zS c s15) rfl ?_
            refine zq_get rfl (zh_161 _) rfl rfl rfl ?_
            refine zr_many 2 (pc' := 89) (L' := [some (.ref 161), some (.int r9)]) (st' := [.int ((s15.1 161 20) + (1 : Int32)), .ref 161]) (S1 := zS c s15) rfl ?_
            refine zq_put (s' := (zsi s15 161 20 ((s15.1 161 20) + (1 : Int32)))) rfl (zh_161 _) rfl rfl rfl rfl zsi_ne rfl ?_
            refine zr_many 2 (pc' := 94) (L' := [some (.ref 161), some (.int r9)]) (st' := [.int (0 : Int32), .ref 161]) (S1 := zS c (zsi s15 161 20 ((s15.1 161 20) + (1 : Int32)))) rfl ?_
            obtain ⟨r18, s19, g20, h⟩ := zb_inv h
            refine zq_call1 rfl rfl (zh_161 _) rfl rfl rfl (hrc1 g20) rfl ?_
            refine zq_if1 (b := r18 = 0) rfl Iff.rfl rfl (fun g21 => ?_) (fun g21 => ?_)
            · rw [if_pos g21] at h
              exact zr_wk [none, none] trivial (tX12_readsThing_J109 hd hrc0 hrc1 h)
            · rw [if_neg g21] at h
              refine zr_many 2 (pc' := 103) (L' := [some (.ref 161), some (.int r9)]) (st' := [.int (41 : Int32), .ref 161]) (S1 := zS c s19) rfl ?_
              obtain ⟨r22, s23, g24, h⟩ := zb_inv h
              refine zq_call1 rfl rfl (zh_161 _) rfl rfl rfl ((tX12_takes g24).up (by omega)) rfl ?_
              refine zq_if1 (b := ¬ r22 = 0) rfl Iff.rfl rfl (fun g25 => ?_) (fun g25 => ?_)
              · rw [if_pos g25] at h
                refine zr_many 2 (pc' := 113) (L' := [some (.ref 161), some (.int r9)]) (st' := [.ref 161, .ref 161]) (S1 := zS c s23) rfl ?_
                refine zq_get rfl (zh_161 _) rfl rfl rfl ?_
                refine zr_many 2 (pc' := 118) (L' := [some (.ref 161), some (.int r9)]) (st' := [.int ((s23.1 161 20) - (1 : Int32)), .ref 161]) (S1 := zS c s23) rfl ?_
                refine zq_put (s' := (zsi s23 161 20 ((s23.1 161 20) - (1 : Int32)))) rfl (zh_161 _) rfl rfl rfl rfl zsi_ne rfl ?_
                refine zr_many 1 (pc' := 122) (L' := [some (.ref 161), some (.int r9)]) (st' := [.int (1 : Int32)]) (S1 := zS c (zsi s23 161 20 ((s23.1 161 20) - (1 : Int32)))) rfl ?_
                obtain ⟨rfl, rfl⟩ := Prod.mk.inj (Option.some.inj h)
                exact zq_zret rfl (by decide)
              · rw [if_neg g25] at h
                exact zr_wk [none, none] trivial (tX12_readsThing_J109 hd hrc0 hrc1 h)
          · rw [if_neg g17] at h
            exact zr_wk [none, none] trivial (tX12_readsThing_J80 hd hrc0 hrc1 h)
      · rw [if_neg g12] at h
        refine zr_many 4 (pc' := 58) (L' := [some (.ref 161), some (.int r9)]) (st' := [.int ((1000 : Int32) + r9), .ref 161]) (S1 := zS c s10) rfl ?_
        obtain ⟨s27, g28, h⟩ := zp_inv h
        refine zq_call0 rfl rfl (zh_161 _) rfl rfl rfl ((tX12_codes g28).up (by omega)) rfl ?_
        refine zr_many 1 (pc' := 62) (L' := [some (.ref 161), some (.int r9)]) (st' := [.int (1 : Int32)]) (S1 := zS c s27) rfl ?_
        obtain ⟨rfl, rfl⟩ := Prod.mk.inj (Option.some.inj h)
        exact zq_zret rfl (by decide)
    · rw [if_neg g8] at h
      refine zr_many 3 (pc' := 33) (L' := [some (.ref 161), none]) (st' := [.int (3 : Int32), .ref 161, .ref 161]) (S1 := zS c s2) rfl ?_
      obtain ⟨r29, s30, g31, h⟩ := zb_inv h
      refine zq_call1 rfl rfl (zh_161 _) rfl rfl rfl ((tX12_number g31).up (by omega)) rfl ?_
      obtain ⟨s33, g34, h⟩ := zp_inv h
      refine zq_call0 rfl rfl (zh_161 _) rfl rfl rfl ((tX12_codes g34).up (by omega)) rfl ?_
      refine zr_many 1 (pc' := 40) (L' := [some (.ref 161), none]) (st' := [.int (1 : Int32)]) (S1 := zS c s33) rfl ?_
      obtain ⟨rfl, rfl⟩ := Prod.mk.inj (Option.some.inj h)
      exact zq_zret rfl (by decide)
  · rw [if_neg g4] at h
    refine zr_many 1 (pc' := 10) (L' := [some (.ref 161), none]) (st' := [.ref 161]) (S1 := zS c s2) rfl ?_
    obtain ⟨r35, s36, g37, h⟩ := zb_inv h
    refine zq_call1 rfl rfl (zh_161 _) rfl rfl rfl (hrc0 g37) rfl ?_
    refine zr_many 3 (pc' := 18) (L' := [some (.ref 161), some (.int r35)]) (st' := [.int (3000 : Int32), .ref 161]) (S1 := zS c s36) rfl ?_
    obtain ⟨s39, g40, h⟩ := zp_inv h
    refine zq_call0 rfl rfl (zh_161 _) rfl rfl rfl ((tX12_codes g40).up (by omega)) rfl ?_
    refine zr_many 1 (pc' := 22) (L' := [some (.ref 161), some (.int r35)]) (st' := [.int r35]) (S1 := zS c s39) rfl ?_
    obtain ⟨gz, h⟩ := zt_inv h
    obtain ⟨rfl, rfl⟩ := Prod.mk.inj (Option.some.inj h)
    exact zq_zret rfl gz
def fX12_readsThing_F (n : Nat) : Nat → (zs → Option (Int32 × zs)) × (zs → Int32 → Option (Int32 × zs))
  | 0 => (fun _ => none, fun _ _ => none)
  | u + 1 => (fun s => fX12_readsThing_M n (fX12_readsThing_F n u).1 (fX12_readsThing_F n u).2 s, fun s a1 => fX12_readsRank_M n (fX12_readsThing_F n u).1 (fX12_readsThing_F n u).2 s a1)
theorem fX12_readsThing_F_u {n : Nat} : ∀ (u : Nat), (∀ {c : Nat × Nat} {s : zs} {r : Int32} {s' : zs}, (fX12_readsThing_F n u).1 s = some (r, s') → zc (5 + 1 * u) 2436 [.ref 161] (zS c s) (some (.int r)) (zS c s')) ∧ (∀ {c : Nat × Nat} {s : zs} {a1 : Int32} {r : Int32} {s' : zs}, (fX12_readsThing_F n u).2 s a1 = some (r, s') → zc (5 + 1 * u) 2437 [.ref 161, .int a1] (zS c s) (some (.int r)) (zS c s')) := by
  intro u
  induction u with
  | zero => exact ⟨(by intros; rename_i h; cases h), (by intros; rename_i h; cases h)⟩
  | succ u ih => exact ⟨fun h => (tX12_readsThing_M (d := 5 + 1 * u) (by omega) ih.1 ih.2 h).up (by omega), fun h => (tX12_readsRank_M (d := 5 + 1 * u) (by omega) ih.1 ih.2 h).up (by omega)⟩
def fX12_readsThing (n u : Nat) : zs → Option (Int32 × zs) := (fX12_readsThing_F n u).1
def fX12_readsRank (n u : Nat) : zs → Int32 → Option (Int32 × zs) := (fX12_readsThing_F n u).2
theorem tX12_readsThing {n : Nat} : ∀ {c : Nat × Nat} {s : zs} {r : Int32} {s' : zs}, fX12_readsThing n 80 s = some (r, s') → zc 85 2436 [.ref 161] (zS c s) (some (.int r)) (zS c s') := (fX12_readsThing_F_u 80).1
theorem tX12_readsRank {n : Nat} : ∀ {c : Nat × Nat} {s : zs} {a1 : Int32} {r : Int32} {s' : zs}, fX12_readsRank n 80 s a1 = some (r, s') → zc 85 2437 [.ref 161, .int a1] (zS c s) (some (.int r)) (zS c s') := (fX12_readsThing_F_u 80).2
def fX12_rule_B61 (n : Nat) (w61 : Int32 × zs) : Option ((Int32 × zs) ⊕ (zs)) := if (w61.2.1 161 26) ≤ w61.1 then some (Sum.inr w61.2) else cond (zi_in w61.1 80) (cond (zi_in w61.1 80) (some (Sum.inl ((w61.1 + (1 : Int32)), (zsi w61.2 173 w61.1.toNatClampNeg (w61.2.1 174 w61.1.toNatClampNeg))))) none) none
theorem tX12_rule_B61 {n : Nat} {c : Nat × Nat} {w61 : Int32 × zs} {o : _} {v : Option Value} {S' : zi_S} (h : fX12_rule_B61 n w61 = some o) (hn : ∀ w61, o = Sum.inl w61 → zr kX12_rule 1 85 61 [some (.ref 161), none, none, none, some (.int w61.1)] [] (zS c w61.2) v S') (hx : ∀ z, o = Sum.inr z → (fun z => zr kX12_rule 1 85 90 [none, none, none, none, none] [] (zS c z) v S') z) : zr kX12_rule 1 85 61 [some (.ref 161), none, none, none, some (.int w61.1)] [] (zS c w61.2) v S' := by
  unfold fX12_rule_B61 at h
  refine zr_many 2 (pc' := 64) (L' := [some (.ref 161), none, none, none, some (.int w61.1)]) (st' := [.ref 161, .int w61.1]) (S1 := zS c w61.2) rfl ?_
  refine zq_get rfl (zh_161 _) rfl rfl rfl ?_
  refine zq_if2 (b := (w61.2.1 161 26) ≤ w61.1) rfl Iff.rfl rfl (fun g9 => ?_) (fun g9 => ?_)
  · rw [if_pos g9] at h
    obtain rfl := Option.some.inj h
    exact zr_wk [none, none, none, none, none] trivial (hx w61.2 rfl)
  · rw [if_neg g9] at h
    refine zr_many 1 (pc' := 71) (L' := [some (.ref 161), none, none, none, some (.int w61.1)]) (st' := [.ref 161]) (S1 := zS c w61.2) rfl ?_
    refine zq_get rfl (zh_161 _) rfl rfl rfl ?_
    refine zr_many 2 (pc' := 77) (L' := [some (.ref 161), none, none, none, some (.int w61.1)]) (st' := [.ref 161, .int w61.1, .ref 173]) (S1 := zS c w61.2) rfl ?_
    refine zq_get rfl (zh_161 _) rfl rfl rfl ?_
    refine zr_many 1 (pc' := 82) (L' := [some (.ref 161), none, none, none, some (.int w61.1)]) (st' := [.int w61.1, .ref 174, .int w61.1, .ref 173]) (S1 := zS c w61.2) rfl ?_
    obtain ⟨g10, h⟩ := zi_cond_inv h
    refine zq_ild rfl (zh_174 _) rfl g10 rfl ?_
    obtain ⟨g11, h⟩ := zi_cond_inv h
    refine zq_ist rfl zh_173 rfl g11 rfl ?_
    refine zr_many 2 (pc' := 61) (L' := [some (.ref 161), none, none, none, some (.int (w61.1 + (1 : Int32)))]) (st' := []) (S1 := zS c (zsi w61.2 173 w61.1.toNatClampNeg (w61.2.1 174 w61.1.toNatClampNeg))) rfl ?_
    obtain rfl := Option.some.inj h
    exact zr_wk [some (.ref 161), none, none, none, some (.int (w61.1 + (1 : Int32)))] ⟨rfl, rfl, trivial⟩ (hn ((w61.1 + (1 : Int32)), (zsi w61.2 173 w61.1.toNatClampNeg (w61.2.1 174 w61.1.toNatClampNeg))) rfl)
def fX12_rule_J34 (n : Nat) (s : zs) (x1 : Int32) (y0 : Int32) : Option (Int32 × zs) := zp (fX12_faultOf n s x1 (40 : Int32) y0) (fun r5 => if 0 ≤ r5 then zp (zl (fX12_rule_B61 n) n ((0 : Int32), (zsi s 161 25 (s.1 161 26)))) (fun w12 => some ((0 : Int32), w12)) else some (r5, s))
theorem tX12_rule_J34 {n : Nat} {c : Nat × Nat} {s : zs} {x1 : Int32} {y0 : Int32} {r : Int32} {s' : zs} (h : fX12_rule_J34 n s x1 y0 = some (r, s')) : zr kX12_rule 1 85 34 [some (.ref 161), some (.int x1), none, none, none] [.int y0] (zS c s) (some (.int r)) (zS c s') := by
  unfold fX12_rule_J34 at h
  refine zr_many 5 (pc' := 40) (L' := [some (.ref 161), some (.int x1), some (.int y0), none, none]) (st' := [.int y0, .int (40 : Int32), .int x1, .ref 161]) (S1 := zS c s) rfl ?_
  obtain ⟨r5, g7, h⟩ := zp_inv h
  refine zq_call1 rfl rfl (zh_161 _) rfl rfl rfl ((tX12_faultOf g7).up (by decide)) rfl ?_
  refine zr_many 2 (pc' := 45) (L' := [some (.ref 161), some (.int x1), some (.int y0), some (.int r5), none]) (st' := [.int r5]) (S1 := zS c s) rfl ?_
  refine zq_if1 (b := 0 ≤ r5) rfl Iff.rfl rfl (fun g8 => ?_) (fun g8 => ?_)
  · rw [if_pos g8] at h
    refine zr_many 2 (pc' := 52) (L' := [some (.ref 161), some (.int x1), some (.int y0), some (.int r5), none]) (st' := [.ref 161, .ref 161]) (S1 := zS c s) rfl ?_
    refine zq_get rfl (zh_161 _) rfl rfl rfl ?_
    refine zq_put (s' := (zsi s 161 25 (s.1 161 26))) rfl (zh_161 _) rfl rfl rfl rfl zsi_ne rfl ?_
    refine zr_many 2 (pc' := 61) (L' := [some (.ref 161), some (.int x1), some (.int y0), some (.int r5), some (.int (0 : Int32))]) (st' := []) (S1 := zS c (zsi s 161 25 (s.1 161 26))) rfl ?_
    obtain ⟨w12, g13, h⟩ := zp_inv h
    refine zr_wk [some (.ref 161), none, none, none, some (.int (0 : Int32))] ⟨rfl, rfl, trivial⟩ (zl_cert (Z := fun w61 => zr kX12_rule 1 85 61 [some (.ref 161), none, none, none, some (.int w61.1)] [] (zS c w61.2) _ _) (Y := (fun z => zr kX12_rule 1 85 90 [none, none, none, none, none] [] (zS c z) _ _)) (fun w o h1 h2 h3 => tX12_rule_B61 h1 h2 h3) n _ _ g13 ?_)
    show zr kX12_rule 1 85 90 [none, none, none, none, none] [] (zS c w12) _ _
    refine zr_many 1 (pc' := 91) (L' := [none, none, none, none, none]) (st' := [.int (0 : Int32)]) (S1 := zS c w12) rfl ?_
    obtain ⟨rfl, rfl⟩ := Prod.mk.inj (Option.some.inj h)
    exact zq_iret rfl
  · rw [if_neg g8] at h
    refine zr_many 1 (pc' := 49) (L' := [some (.ref 161), some (.int x1), some (.int y0), some (.int r5), none]) (st' := [.int r5]) (S1 := zS c s) rfl ?_
    obtain ⟨rfl, rfl⟩ := Prod.mk.inj (Option.some.inj h)
    exact zq_iret rfl
def fX12_rule_J29 (n : Nat) (s : zs) (x1 : Int32) : Option (Int32 × zs) := fX12_rule_J34 n s x1 (1 : Int32)
theorem tX12_rule_J29 {n : Nat} {c : Nat × Nat} {s : zs} {x1 : Int32} {r : Int32} {s' : zs} (h : fX12_rule_J29 n s x1 = some (r, s')) : zr kX12_rule 1 85 29 [some (.ref 161), some (.int x1), none, none, none] [] (zS c s) (some (.int r)) (zS c s') := by
  unfold fX12_rule_J29 at h
  refine zr_many 2 (pc' := 34) (L' := [some (.ref 161), some (.int x1), none, none, none]) (st' := [.int (1 : Int32)]) (S1 := zS c s) rfl ?_
  exact zr_wk [some (.ref 161), some (.int x1), none, none, none] ⟨rfl, rfl, trivial⟩ (tX12_rule_J34 h)
def fX12_rule (n : Nat) (s : zs) : Option (Int32 × zs) := zb (fX12_begins n (zsi s 161 0 (0 : Int32)) (40 : Int32)) (fun r1 s2 => if r1 = 0 then fX12_rule_J29 n (zsi s2 161 26 (0 : Int32)) r1 else zb (fX12_readsRank n 80 (zsi s2 161 26 (0 : Int32)) (0 : Int32)) (fun r14 s15 => if r14 = 0 then fX12_rule_J34 n s15 r1 (0 : Int32) else fX12_rule_J29 n s15 r1))
theorem tX12_rule {n : Nat} {c : Nat × Nat} {s : zs} {r : Int32} {s' : zs} (h : fX12_rule n s = some (r, s')) : zc 86 2438 [.ref 161] (zS c s) (some (.int r)) (zS c s') := by
  refine zc_of (k := kX12_rule) (rt := 1) (L := [some (.ref 161), none, none, none, none]) zm_2438.1 rfl rfl (by decide) rfl rfl ?_
  unfold fX12_rule at h
  refine zr_many 2 (pc' := 2) (L' := [some (.ref 161), none, none, none, none]) (st' := [.int (0 : Int32), .ref 161]) (S1 := zS c s) rfl ?_
  refine zq_put (s' := (zsi s 161 0 (0 : Int32))) rfl (zh_161 _) rfl rfl rfl rfl zsi_ne rfl ?_
  refine zr_many 2 (pc' := 8) (L' := [some (.ref 161), none, none, none, none]) (st' := [.int (40 : Int32), .ref 161]) (S1 := zS c (zsi s 161 0 (0 : Int32))) rfl ?_
  obtain ⟨r1, s2, g3, h⟩ := zb_inv h
  refine zq_call1 rfl rfl (zh_161 _) rfl rfl rfl ((tX12_begins g3).up (by decide)) rfl ?_
  refine zr_many 3 (pc' := 14) (L' := [some (.ref 161), some (.int r1), none, none, none]) (st' := [.int (0 : Int32), .ref 161]) (S1 := zS c s2) rfl ?_
  refine zq_put (s' := (zsi s2 161 26 (0 : Int32))) rfl (zh_161 _) rfl rfl rfl rfl zsi_ne rfl ?_
  refine zr_many 1 (pc' := 18) (L' := [some (.ref 161), some (.int r1), none, none, none]) (st' := [.int r1]) (S1 := zS c (zsi s2 161 26 (0 : Int32))) rfl ?_
  refine zq_if1 (b := r1 = 0) rfl Iff.rfl rfl (fun g4 => ?_) (fun g4 => ?_)
  · rw [if_pos g4] at h
    exact zr_wk [some (.ref 161), some (.int r1), none, none, none] ⟨rfl, rfl, trivial⟩ (tX12_rule_J29 h)
  · rw [if_neg g4] at h
    refine zr_many 2 (pc' := 23) (L' := [some (.ref 161), some (.int r1), none, none, none]) (st' := [.int (0 : Int32), .ref 161]) (S1 := zS c (zsi s2 161 26 (0 : Int32))) rfl ?_
    obtain ⟨r14, s15, g16, h⟩ := zb_inv h
    refine zq_call1 rfl rfl (zh_161 _) rfl rfl rfl (tX12_readsRank g16) rfl ?_
    refine zq_if1 (b := r14 = 0) rfl Iff.rfl rfl (fun g17 => ?_) (fun g17 => ?_)
    · rw [if_pos g17] at h
      refine zr_many 1 (pc' := 34) (L' := [some (.ref 161), some (.int r1), none, none, none]) (st' := [.int (0 : Int32)]) (S1 := zS c s15) rfl ?_
      exact zr_wk [some (.ref 161), some (.int r1), none, none, none] ⟨rfl, rfl, trivial⟩ (tX12_rule_J34 h)
    · rw [if_neg g17] at h
      exact zr_wk [some (.ref 161), some (.int r1), none, none, none] ⟨rfl, rfl, trivial⟩ (tX12_rule_J29 h)
def fX12_worked_J50 (n : Nat) (s : zs) (y0 : Int32) : Option Int32 := zp (fX12_flag n s y0) (fun r3 => some r3)
theorem tX12_worked_J50 {n : Nat} {c : Nat × Nat} {s : zs} {y0 : Int32} {r : Int32} (h : fX12_worked_J50 n s y0 = some r) : zr kX12_worked 1 1 50 [none, none, none] [.int y0] (zS c s) (some (.int r)) (zS c s) := by
  unfold fX12_worked_J50 at h
  obtain ⟨r3, g5, h⟩ := zp_inv h
  refine zq_scall1 rfl (by decide) rfl rfl (tX12_flag g5) rfl ?_
  obtain rfl := Option.some.inj h
  exact zq_iret rfl
def fX12_worked_J64 (n : Nat) (s : zs) (y0 : Int32) : Option Int32 := zp (fX12_flag n s y0) (fun r8 => some r8)
theorem tX12_worked_J64 {n : Nat} {c : Nat × Nat} {s : zs} {y0 : Int32} {r : Int32} (h : fX12_worked_J64 n s y0 = some r) : zr kX12_worked 1 1 64 [none, none, none] [.int y0] (zS c s) (some (.int r)) (zS c s) := by
  unfold fX12_worked_J64 at h
  obtain ⟨r8, g10, h⟩ := zp_inv h
  refine zq_scall1 rfl (by decide) rfl rfl (tX12_flag g10) rfl ?_
  obtain rfl := Option.some.inj h
  exact zq_iret rfl
def fX12_worked_J78 (n : Nat) (s : zs) (y0 : Int32) : Option Int32 := zp (fX12_flag n s y0) (fun r13 => some r13)
theorem tX12_worked_J78 {n : Nat} {c : Nat × Nat} {s : zs} {y0 : Int32} {r : Int32} (h : fX12_worked_J78 n s y0 = some r) : zr kX12_worked 1 1 78 [none, none, none] [.int y0] (zS c s) (some (.int r)) (zS c s) := by
  unfold fX12_worked_J78 at h
  obtain ⟨r13, g15, h⟩ := zp_inv h
  refine zq_scall1 rfl (by decide) rfl rfl (tX12_flag g15) rfl ?_
  obtain rfl := Option.some.inj h
  exact zq_iret rfl
def fX12_worked_J105 (n : Nat) (s : zs) (y0 : Int32) : Option Int32 := some y0
theorem tX12_worked_J105 {n : Nat} {c : Nat × Nat} {s : zs} {y0 : Int32} {r : Int32} (h : fX12_worked_J105 n s y0 = some r) : zr kX12_worked 1 1 105 [none, none, none] [.int y0] (zS c s) (some (.int r)) (zS c s) := by
  unfold fX12_worked_J105 at h
  obtain rfl := Option.some.inj h
  exact zq_iret rfl
def fX12_worked (n : Nat) (s : zs) (x0 : Int32) (x1 : Int32) (x2 : Int32) : Option Int32 := if x0 = (0 : Int32) then if x2 ≤ x1 then fX12_worked_J50 n s (0 : Int32) else fX12_worked_J50 n s (1 : Int32) else if x0 = (1 : Int32) then if x1 ≤ x2 then fX12_worked_J64 n s (0 : Int32) else fX12_worked_J64 n s (1 : Int32) else if x0 = (2 : Int32) then if ¬ x1 = x2 then fX12_worked_J78 n s (0 : Int32) else fX12_worked_J78 n s (1 : Int32) else if x0 = (3 : Int32) then some (x1 + x2) else if x0 = (4 : Int32) then some (x1 - x2) else if x0 = (5 : Int32) then some (x1 * x2) else if ¬ x2 = 0 then if x2 = 0 then none else (fX12_worked_J105 n s (x1 / x2)) else fX12_worked_J105 n s (0 : Int32)
theorem tX12_worked {n : Nat} {c : Nat × Nat} {s : zs} {x0 : Int32} {x1 : Int32} {x2 : Int32} {r : Int32} (h : fX12_worked n s x0 x1 x2 = some r) : zc 2 2439 [.int x0, .int x1, .int x2] (zS c s) (some (.int r)) (zS c s) := by
  refine zc_of (k := kX12_worked) (rt := 1) (L := [some (.int x0), some (.int x1), some (.int x2)]) zm_2439.1 rfl rfl (by decide) rfl rfl ?_
  unfold fX12_worked at h
  refine zr_many 1 (pc' := 1) (L' := [some (.int x0), some (.int x1), some (.int x2)]) (st' := [.int x0]) (S1 := zS c s) rfl ?_
  refine zq_sw (Or.inl ⟨_, _, _, _, rfl⟩) ?_
  by_cases g1 : x0 = (0 : Int32)
  · rw [if_pos g1] at h
    rw [zi_sw_pos g1]
    refine zr_many 2 (pc' := 42) (L' := [some (.int x0), some (.int x1), some (.int x2)]) (st' := [.int x2, .int x1]) (S1 := zS c s) rfl ?_
    refine zq_if2 (b := x2 ≤ x1) rfl Iff.rfl rfl (fun g2 => ?_) (fun g2 => ?_)
    · rw [if_pos g2] at h
      refine zr_many 1 (pc' := 50) (L' := [some (.int x0), some (.int x1), some (.int x2)]) (st' := [.int (0 : Int32)]) (S1 := zS c s) rfl ?_
      exact zr_wk [none, none, none] trivial (tX12_worked_J50 h)
    · rw [if_neg g2] at h
      refine zr_many 2 (pc' := 50) (L' := [some (.int x0), some (.int x1), some (.int x2)]) (st' := [.int (1 : Int32)]) (S1 := zS c s) rfl ?_
      exact zr_wk [none, none, none] trivial (tX12_worked_J50 h)
  rw [if_neg g1] at h
  rw [zi_sw_neg g1]
  by_cases g6 : x0 = (1 : Int32)
  · rw [if_pos g6] at h
    rw [zi_sw_pos g6]
    refine zr_many 2 (pc' := 56) (L' := [some (.int x0), some (.int x1), some (.int x2)]) (st' := [.int x2, .int x1]) (S1 := zS c s) rfl ?_
    refine zq_if2 (b := x1 ≤ x2) rfl Iff.rfl rfl (fun g7 => ?_) (fun g7 => ?_)
    · rw [if_pos g7] at h
      refine zr_many 1 (pc' := 64) (L' := [some (.int x0), some (.int x1), some (.int x2)]) (st' := [.int (0 : Int32)]) (S1 := zS c s) rfl ?_
      exact zr_wk [none, none, none] trivial (tX12_worked_J64 h)
    · rw [if_neg g7] at h
      refine zr_many 2 (pc' := 64) (L' := [some (.int x0), some (.int x1), some (.int x2)]) (st' := [.int (1 : Int32)]) (S1 := zS c s) rfl ?_
      exact zr_wk [none, none, none] trivial (tX12_worked_J64 h)
  rw [if_neg g6] at h
  rw [zi_sw_neg g6]
  by_cases g11 : x0 = (2 : Int32)
  · rw [if_pos g11] at h
    rw [zi_sw_pos g11]
    refine zr_many 2 (pc' := 70) (L' := [some (.int x0), some (.int x1), some (.int x2)]) (st' := [.int x2, .int x1]) (S1 := zS c s) rfl ?_
    refine zq_if2 (b := ¬ x1 = x2) rfl Iff.rfl rfl (fun g12 => ?_) (fun g12 => ?_)
    · rw [if_pos g12] at h
      refine zr_many 1 (pc' := 78) (L' := [some (.int x0), some (.int x1), some (.int x2)]) (st' := [.int (0 : Int32)]) (S1 := zS c s) rfl ?_
      exact zr_wk [none, none, none] trivial (tX12_worked_J78 h)
    · rw [if_neg g12] at h
      refine zr_many 2 (pc' := 78) (L' := [some (.int x0), some (.int x1), some (.int x2)]) (st' := [.int (1 : Int32)]) (S1 := zS c s) rfl ?_
      exact zr_wk [none, none, none] trivial (tX12_worked_J78 h)
  rw [if_neg g11] at h
  rw [zi_sw_neg g11]
  by_cases g16 : x0 = (3 : Int32)
  · rw [if_pos g16] at h
    rw [zi_sw_pos g16]
    refine zr_many 3 (pc' := 85) (L' := [some (.int x0), some (.int x1), some (.int x2)]) (st' := [.int (x1 + x2)]) (S1 := zS c s) rfl ?_
    obtain rfl := Option.some.inj h
    exact zq_iret rfl
  rw [if_neg g16] at h
  rw [zi_sw_neg g16]
  by_cases g17 : x0 = (4 : Int32)
  · rw [if_pos g17] at h
    rw [zi_sw_pos g17]
    refine zr_many 3 (pc' := 89) (L' := [some (.int x0), some (.int x1), some (.int x2)]) (st' := [.int (x1 - x2)]) (S1 := zS c s) rfl ?_
    obtain rfl := Option.some.inj h
    exact zq_iret rfl
  rw [if_neg g17] at h
  rw [zi_sw_neg g17]
  by_cases g18 : x0 = (5 : Int32)
  · rw [if_pos g18] at h
    rw [zi_sw_pos g18]
    refine zr_many 3 (pc' := 93) (L' := [some (.int x0), some (.int x1), some (.int x2)]) (st' := [.int (x1 * x2)]) (S1 := zS c s) rfl ?_
    obtain rfl := Option.some.inj h
    exact zq_iret rfl
  rw [if_neg g18] at h
  rw [zi_sw_neg g18]
  simp only [zi_sw]
  refine zr_many 1 (pc' := 95) (L' := [some (.int x0), some (.int x1), some (.int x2)]) (st' := [.int x2]) (S1 := zS c s) rfl ?_
  refine zq_if1 (b := ¬ x2 = 0) rfl Iff.rfl rfl (fun g19 => ?_) (fun g19 => ?_)
  · rw [if_pos g19] at h
    refine zr_many 2 (pc' := 104) (L' := [some (.int x0), some (.int x1), some (.int x2)]) (st' := [.int x2, .int x1]) (S1 := zS c s) rfl ?_
    obtain ⟨g20, h⟩ := zn_inv h
    refine zq_idiv rfl g20 rfl ?_
    exact zr_wk [none, none, none] trivial (tX12_worked_J105 h)
  · rw [if_neg g19] at h
    refine zr_many 2 (pc' := 105) (L' := [some (.int x0), some (.int x1), some (.int x2)]) (st' := [.int (0 : Int32)]) (S1 := zS c s) rfl ?_
    exact zr_wk [none, none, none] trivial (tX12_worked_J105 h)
def fX12_ruled_J119 (n : Nat) (s : zs) (x1 : Int32) (x2 : Int32) : Option ((Int32 × Int32 × zs) ⊕ (zs)) := some (Sum.inl (x1, (x2 + (1 : Int32)), s))
theorem tX12_ruled_J119 {n : Nat} {c : Nat × Nat} {s : zs} {x1 : Int32} {x2 : Int32} {o : _} {v : Option Value} {S' : zi_S} (h : fX12_ruled_J119 n s x1 x2 = some o) (hn : ∀ w4, o = Sum.inl w4 → zr kX12_ruled 1 2 4 [some (.ref 161), some (.int w4.1), some (.int w4.2.1), none] [] (zS c w4.2.2) v S') (hx : ∀ z, o = Sum.inr z → (fun z => zr kX12_ruled 1 2 125 [some (.ref 161), none, none, none] [] (zS c z) v S') z) : zr kX12_ruled 1 2 119 [some (.ref 161), some (.int x1), some (.int x2), none] [] (zS c s) v S' := by
  unfold fX12_ruled_J119 at h
  refine zr_many 2 (pc' := 4) (L' := [some (.ref 161), some (.int x1), some (.int (x2 + (1 : Int32))), none]) (st' := []) (S1 := zS c s) rfl ?_
  obtain rfl := Option.some.inj h
  exact zr_wk [some (.ref 161), some (.int x1), some (.int (x2 + (1 : Int32))), none] ⟨rfl, rfl, rfl, trivial⟩ (hn (x1, (x2 + (1 : Int32)), s) rfl)
def fX12_ruled_J115 (n : Nat) (s : zs) (x1 : Int32) (x2 : Int32) (y1 : Int32) (y2 : Int32) : Option ((Int32 × Int32 × zs) ⊕ (zs)) := cond (zi_in y1 80) (fX12_ruled_J119 n (zsi s 175 y1.toNatClampNeg y2) (x1 + (1 : Int32)) x2) none
theorem tX12_ruled_J115 {n : Nat} {c : Nat × Nat} {s : zs} {x1 : Int32} {x2 : Int32} {y1 : Int32} {y2 : Int32} {o : _} {v : Option Value} {S' : zi_S} (h : fX12_ruled_J115 n s x1 x2 y1 y2 = some o) (hn : ∀ w4, o = Sum.inl w4 → zr kX12_ruled 1 2 4 [some (.ref 161), some (.int w4.1), some (.int w4.2.1), none] [] (zS c w4.2.2) v S') (hx : ∀ z, o = Sum.inr z → (fun z => zr kX12_ruled 1 2 125 [some (.ref 161), none, none, none] [] (zS c z) v S') z) : zr kX12_ruled 1 2 115 [some (.ref 161), some (.int x1), some (.int x2), none] [.int y2, .int y1, .ref 175] (zS c s) v S' := by
  unfold fX12_ruled_J115 at h
  obtain ⟨g6, h⟩ := zi_cond_inv h
  refine zq_ist rfl zh_175 rfl g6 rfl ?_
  refine zr_many 1 (pc' := 119) (L' := [some (.ref 161), some (.int (x1 + (1 : Int32))), some (.int x2), none]) (st' := []) (S1 := zS c (zsi s 175 y1.toNatClampNeg y2)) rfl ?_
  exact zr_wk [some (.ref 161), some (.int (x1 + (1 : Int32))), some (.int x2), none] ⟨rfl, rfl, rfl, trivial⟩ (tX12_ruled_J119 h hn hx)
def fX12_ruled_B4 (n : Nat) (w4 : Int32 × Int32 × zs) : Option ((Int32 × Int32 × zs) ⊕ (zs)) := if (w4.2.2.1 161 25) ≤ w4.2.1 then some (Sum.inr w4.2.2) else cond (zi_in w4.2.1 80) (if ¬ (w4.2.2.1 173 w4.2.1.toNatClampNeg) = (3000 : Int32) then if (w4.2.2.1 173 w4.2.1.toNatClampNeg) < (2000 : Int32) then if (w4.2.2.1 173 w4.2.1.toNatClampNeg) < (1000 : Int32) then fX12_ruled_J115 n w4.2.2 w4.1 w4.2.1 w4.1 (w4.2.2.1 173 w4.2.1.toNatClampNeg) else cond (zi_in ((w4.2.2.1 173 w4.2.1.toNatClampNeg) - (1000 : Int32)) 7) (fX12_ruled_J115 n w4.2.2 w4.1 w4.2.1 w4.1 (w4.2.2.1 176 ((w4.2.2.1 173 w4.2.1.toNatClampNeg) - (1000 : Int32)).toNatClampNeg)) none else cond (zi_in ((w4.1 + (-1 : Int32)) - (1 : Int32)) 80) (cond (zi_in (w4.1 + (-1 : Int32)) 80) (zp (fX12_worked n w4.2.2 ((w4.2.2.1 173 w4.2.1.toNatClampNeg) - (2000 : Int32)) (w4.2.2.1 175 ((w4.1 + (-1 : Int32)) - (1 : Int32)).toNatClampNeg) (w4.2.2.1 175 (w4.1 + (-1 : Int32)).toNatClampNeg)) (fun r10 => cond (zi_in ((w4.1 + (-1 : Int32)) - (1 : Int32)) 80) (fX12_ruled_J119 n (zsi w4.2.2 175 ((w4.1 + (-1 : Int32)) - (1 : Int32)).toNatClampNeg r10) (w4.1 + (-1 : Int32)) w4.2.1) none)) none) none else cond (zi_in (w4.1 - (1 : Int32)) 80) (cond (zi_in (w4.1 - (1 : Int32)) 80) (fX12_ruled_J119 n (zsi w4.2.2 175 (w4.1 - (1 : Int32)).toNatClampNeg (-(w4.2.2.1 175 (w4.1 - (1 : Int32)).toNatClampNeg))) w4.1 w4.2.1) none) none) none
theorem tX12_ruled_B4 {n : Nat} {c : Nat × Nat} {w4 : Int32 × Int32 × zs} {o : _} {v : Option Value} {S' : zi_S} (h : fX12_ruled_B4 n w4 = some o) (hn : ∀ w4, o = Sum.inl w4 → zr kX12_ruled 1 2 4 [some (.ref 161), some (.int w4.1), some (.int w4.2.1), none] [] (zS c w4.2.2) v S') (hx : ∀ z, o = Sum.inr z → (fun z => zr kX12_ruled 1 2 125 [some (.ref 161), none, none, none] [] (zS c z) v S') z) : zr kX12_ruled 1 2 4 [some (.ref 161), some (.int w4.1), some (.int w4.2.1), none] [] (zS c w4.2.2) v S' := by
  unfold fX12_ruled_B4 at h
  refine zr_many 2 (pc' := 6) (L' := [some (.ref 161), some (.int w4.1), some (.int w4.2.1), none]) (st' := [.ref 161, .int w4.2.1]) (S1 := zS c w4.2.2) rfl ?_
  refine zq_get rfl (zh_161 _) rfl rfl rfl ?_
  refine zq_if2 (b := (w4.2.2.1 161 25) ≤ w4.2.1) rfl Iff.rfl rfl (fun g1 => ?_) (fun g1 => ?_)
  · rw [if_pos g1] at h
    obtain rfl := Option.some.inj h
    exact zr_wk [some (.ref 161), none, none, none] ⟨rfl, trivial⟩ (hx w4.2.2 rfl)
  · rw [if_neg g1] at h
    refine zr_many 1 (pc' := 13) (L' := [some (.ref 161), some (.int w4.1), some (.int w4.2.1), none]) (st' := [.ref 161]) (S1 := zS c w4.2.2) rfl ?_
    refine zq_get rfl (zh_161 _) rfl rfl rfl ?_
    refine zr_many 1 (pc' := 17) (L' := [some (.ref 161), some (.int w4.1), some (.int w4.2.1), none]) (st' := [.int w4.2.1, .ref 173]) (S1 := zS c w4.2.2) rfl ?_
    obtain ⟨g2, h⟩ := zi_cond_inv h
    refine zq_ild rfl (zh_173 _) rfl g2 rfl ?_
    refine zr_many 3 (pc' := 23) (L' := [some (.ref 161), some (.int w4.1), some (.int w4.2.1), some (.int (w4.2.2.1 173 w4.2.1.toNatClampNeg))]) (st' := [.int (3000 : Int32), .int (w4.2.2.1 173 w4.2.1.toNatClampNeg)]) (S1 := zS c w4.2.2) rfl ?_
    refine zq_if2 (b := ¬ (w4.2.2.1 173 w4.2.1.toNatClampNeg) = (3000 : Int32)) rfl Iff.rfl rfl (fun g3 => ?_) (fun g3 => ?_)
    · rw [if_pos g3] at h
      refine zr_many 2 (pc' := 50) (L' := [some (.ref 161), some (.int w4.1), some (.int w4.2.1), some (.int (w4.2.2.1 173 w4.2.1.toNatClampNeg))]) (st' := [.int (2000 : Int32), .int (w4.2.2.1 173 w4.2.1.toNatClampNeg)]) (S1 := zS c w4.2.2) rfl ?_
      refine zq_if2 (b := (w4.2.2.1 173 w4.2.1.toNatClampNeg) < (2000 : Int32)) rfl Iff.rfl rfl (fun g4 => ?_) (fun g4 => ?_)
      · rw [if_pos g4] at h
        refine zr_many 1 (pc' := 90) (L' := [some (.ref 161), some (.int w4.1), some (.int w4.2.1), some (.int (w4.2.2.1 173 w4.2.1.toNatClampNeg))]) (st' := [.ref 161]) (S1 := zS c w4.2.2) rfl ?_
        refine zq_get rfl (zh_161 _) rfl rfl rfl ?_
        refine zr_many 3 (pc' := 98) (L' := [some (.ref 161), some (.int w4.1), some (.int w4.2.1), some (.int (w4.2.2.1 173 w4.2.1.toNatClampNeg))]) (st' := [.int (1000 : Int32), .int (w4.2.2.1 173 w4.2.1.toNatClampNeg), .int w4.1, .ref 175]) (S1 := zS c w4.2.2) rfl ?_
        refine zq_if2 (b := (w4.2.2.1 173 w4.2.1.toNatClampNeg) < (1000 : Int32)) rfl Iff.rfl rfl (fun g5 => ?_) (fun g5 => ?_)
        · rw [if_pos g5] at h
          refine zr_many 1 (pc' := 115) (L' := [some (.ref 161), some (.int w4.1), some (.int w4.2.1), some (.int (w4.2.2.1 173 w4.2.1.toNatClampNeg))]) (st' := [.int (w4.2.2.1 173 w4.2.1.toNatClampNeg), .int w4.1, .ref 175]) (S1 := zS c w4.2.2) rfl ?_
          exact zr_wk [some (.ref 161), some (.int w4.1), some (.int w4.2.1), none] ⟨rfl, rfl, rfl, trivial⟩ (tX12_ruled_J115 h hn hx)
        · rw [if_neg g5] at h
          refine zr_many 1 (pc' := 102) (L' := [some (.ref 161), some (.int w4.1), some (.int w4.2.1), some (.int (w4.2.2.1 173 w4.2.1.toNatClampNeg))]) (st' := [.ref 161, .int w4.1, .ref 175]) (S1 := zS c w4.2.2) rfl ?_
          refine zq_get rfl (zh_161 _) rfl rfl rfl ?_
          refine zr_many 3 (pc' := 110) (L' := [some (.ref 161), some (.int w4.1), some (.int w4.2.1), some (.int (w4.2.2.1 173 w4.2.1.toNatClampNeg))]) (st' := [.int ((w4.2.2.1 173 w4.2.1.toNatClampNeg) - (1000 : Int32)), .ref 176, .int w4.1, .ref 175]) (S1 := zS c w4.2.2) rfl ?_
          obtain ⟨g7, h⟩ := zi_cond_inv h
          refine zq_ild rfl (zh_176 _) rfl g7 rfl ?_
          refine zr_many 1 (pc' := 115) (L' := [some (.ref 161), some (.int w4.1), some (.int w4.2.1), some (.int (w4.2.2.1 173 w4.2.1.toNatClampNeg))]) (st' := [.int (w4.2.2.1 176 ((w4.2.2.1 173 w4.2.1.toNatClampNeg) - (1000 : Int32)).toNatClampNeg), .int w4.1, .ref 175]) (S1 := zS c w4.2.2) rfl ?_
          exact zr_wk [some (.ref 161), some (.int w4.1), some (.int w4.2.1), none] ⟨rfl, rfl, rfl, trivial⟩ (tX12_ruled_J115 h hn hx)
      · rw [if_neg g4] at h
        refine zr_many 2 (pc' := 57) (L' := [some (.ref 161), some (.int (w4.1 + (-1 : Int32))), some (.int w4.2.1), some (.int (w4.2.2.1 173 w4.2.1.toNatClampNeg))]) (st' := [.ref 161]) (S1 := zS c w4.2.2) rfl ?_
        refine zq_get rfl (zh_161 _) rfl rfl rfl ?_
        refine zr_many 7 (pc' := 69) (L' := [some (.ref 161), some (.int (w4.1 + (-1 : Int32))), some (.int w4.2.1), some (.int (w4.2.2.1 173 w4.2.1.toNatClampNeg))]) (st' := [.ref 161, .int ((w4.2.2.1 173 w4.2.1.toNatClampNeg) - (2000 : Int32)), .int ((w4.1 + (-1 : Int32)) - (1 : Int32)), .ref 175]) (S1 := zS c w4.2.2) rfl ?_
        refine zq_get rfl (zh_161 _) rfl rfl rfl ?_
        refine zr_many 3 (pc' := 75) (L' := [some (.ref 161), some (.int (w4.1 + (-1 : Int32))), some (.int w4.2.1), some (.int (w4.2.2.1 173 w4.2.1.toNatClampNeg))]) (st' := [.int ((w4.1 + (-1 : Int32)) - (1 : Int32)), .ref 175, .int ((w4.2.2.1 173 w4.2.1.toNatClampNeg) - (2000 : Int32)), .int ((w4.1 + (-1 : Int32)) - (1 : Int32)), .ref 175]) (S1 := zS c w4.2.2) rfl ?_
        obtain ⟨g8, h⟩ := zi_cond_inv h
        refine zq_ild rfl (zh_175 _) rfl g8 rfl ?_
        refine zr_many 1 (pc' := 77) (L' := [some (.ref 161), some (.int (w4.1 + (-1 : Int32))), some (.int w4.2.1), some (.int (w4.2.2.1 173 w4.2.1.toNatClampNeg))]) (st' := [.ref 161, .int (w4.2.2.1 175 ((w4.1 + (-1 : Int32)) - (1 : Int32)).toNatClampNeg), .int ((w4.2.2.1 173 w4.2.1.toNatClampNeg) - (2000 : Int32)), .int ((w4.1 + (-1 : Int32)) - (1 : Int32)), .ref 175]) (S1 := zS c w4.2.2) rfl ?_
        refine zq_get rfl (zh_161 _) rfl rfl rfl ?_
        refine zr_many 1 (pc' := 81) (L' := [some (.ref 161), some (.int (w4.1 + (-1 : Int32))), some (.int w4.2.1), some (.int (w4.2.2.1 173 w4.2.1.toNatClampNeg))]) (st' := [.int (w4.1 + (-1 : Int32)), .ref 175, .int (w4.2.2.1 175 ((w4.1 + (-1 : Int32)) - (1 : Int32)).toNatClampNeg), .int ((w4.2.2.1 173 w4.2.1.toNatClampNeg) - (2000 : Int32)), .int ((w4.1 + (-1 : Int32)) - (1 : Int32)), .ref 175]) (S1 := zS c w4.2.2) rfl ?_
        obtain ⟨g9, h⟩ := zi_cond_inv h
        refine zq_ild rfl (zh_175 _) rfl g9 rfl ?_
        obtain ⟨r10, g12, h⟩ := zp_inv h
        refine zq_scall1 rfl (by decide) rfl rfl (tX12_worked g12) rfl ?_
        obtain ⟨g14, h⟩ := zi_cond_inv h
        refine zq_ist rfl zh_175 rfl g14 rfl ?_
        refine zr_many 1 (pc' := 119) (L' := [some (.ref 161), some (.int (w4.1 + (-1 : Int32))), some (.int w4.2.1), some (.int (w4.2.2.1 173 w4.2.1.toNatClampNeg))]) (st' := []) (S1 := zS c (zsi w4.2.2 175 ((w4.1 + (-1 : Int32)) - (1 : Int32)).toNatClampNeg r10)) rfl ?_
        exact zr_wk [some (.ref 161), some (.int (w4.1 + (-1 : Int32))), some (.int w4.2.1), none] ⟨rfl, rfl, rfl, trivial⟩ (tX12_ruled_J119 h hn hx)
    · rw [if_neg g3] at h
      refine zr_many 1 (pc' := 27) (L' := [some (.ref 161), some (.int w4.1), some (.int w4.2.1), some (.int (w4.2.2.1 173 w4.2.1.toNatClampNeg))]) (st' := [.ref 161]) (S1 := zS c w4.2.2) rfl ?_
      refine zq_get rfl (zh_161 _) rfl rfl rfl ?_
      refine zr_many 4 (pc' := 34) (L' := [some (.ref 161), some (.int w4.1), some (.int w4.2.1), some (.int (w4.2.2.1 173 w4.2.1.toNatClampNeg))]) (st' := [.ref 161, .int (w4.1 - (1 : Int32)), .ref 175]) (S1 := zS c w4.2.2) rfl ?_
      refine zq_get rfl (zh_161 _) rfl rfl rfl ?_
      refine zr_many 3 (pc' := 40) (L' := [some (.ref 161), some (.int w4.1), some (.int w4.2.1), some (.int (w4.2.2.1 173 w4.2.1.toNatClampNeg))]) (st' := [.int (w4.1 - (1 : Int32)), .ref 175, .int (w4.1 - (1 : Int32)), .ref 175]) (S1 := zS c w4.2.2) rfl ?_
      obtain ⟨g13, h⟩ := zi_cond_inv h
      refine zq_ild rfl (zh_175 _) rfl g13 rfl ?_
      refine zr_many 1 (pc' := 42) (L' := [some (.ref 161), some (.int w4.1), some (.int w4.2.1), some (.int (w4.2.2.1 173 w4.2.1.toNatClampNeg))]) (st' := [.int (-(w4.2.2.1 175 (w4.1 - (1 : Int32)).toNatClampNeg)), .int (w4.1 - (1 : Int32)), .ref 175]) (S1 := zS c w4.2.2) rfl ?_
      obtain ⟨g15, h⟩ := zi_cond_inv h
      refine zq_ist rfl zh_175 rfl g15 rfl ?_
      refine zr_many 1 (pc' := 119) (L' := [some (.ref 161), some (.int w4.1), some (.int w4.2.1), some (.int (w4.2.2.1 173 w4.2.1.toNatClampNeg))]) (st' := []) (S1 := zS c (zsi w4.2.2 175 (w4.1 - (1 : Int32)).toNatClampNeg (-(w4.2.2.1 175 (w4.1 - (1 : Int32)).toNatClampNeg)))) rfl ?_
      exact zr_wk [some (.ref 161), some (.int w4.1), some (.int w4.2.1), none] ⟨rfl, rfl, rfl, trivial⟩ (tX12_ruled_J119 h hn hx)
def fX12_ruled_J174 (n : Nat) (s : zs) (y0 : Int32) : Option (Int32 × zs) := some ((if (1 : Int32) < (if y0 < (99 : Int32) then y0 else (99 : Int32)) then (if y0 < (99 : Int32) then y0 else (99 : Int32)) else (1 : Int32)), s)
theorem tX12_ruled_J174 {n : Nat} {c : Nat × Nat} {s : zs} {y0 : Int32} {r : Int32} {s' : zs} (h : fX12_ruled_J174 n s y0 = some (r, s')) : zr kX12_ruled 1 2 174 [none, none, none, none] [.int y0] (zS c s) (some (.int r)) (zS c s') := by
  unfold fX12_ruled_J174 at h
  refine zr_many 6 (pc' := 185) (L' := [none, none, some (.int y0), none]) (st' := [.int (if (1 : Int32) < (if y0 < (99 : Int32) then y0 else (99 : Int32)) then (if y0 < (99 : Int32) then y0 else (99 : Int32)) else (1 : Int32))]) (S1 := zS c s) rfl ?_
  obtain ⟨rfl, rfl⟩ := Prod.mk.inj (Option.some.inj h)
  exact zq_iret rfl
def fX12_ruled (n : Nat) (s : zs) : Option (Int32 × zs) := zp (zl (fX12_ruled_B4 n) n ((0 : Int32), (0 : Int32), s)) (fun w16 => if ¬ (w16.1 161 25) = 0 then fX12_ruled_J174 n w16 (w16.1 175 0) else fX12_ruled_J174 n w16 (((((2 : Int32) * (w16.1 176 0)) + ((w16.1 176 1) / (2 : Int32))) + (w16.1 176 2)) + ((3 : Int32) * (w16.1 176 3))))
theorem tX12_ruled {n : Nat} {c : Nat × Nat} {s : zs} {r : Int32} {s' : zs} (h : fX12_ruled n s = some (r, s')) : zc 3 2440 [.ref 161] (zS c s) (some (.int r)) (zS c s') := by
  refine zc_of (k := kX12_ruled) (rt := 1) (L := [some (.ref 161), none, none, none]) zm_2440.1 rfl rfl (by decide) rfl rfl ?_
  unfold fX12_ruled at h
  refine zr_many 4 (pc' := 4) (L' := [some (.ref 161), some (.int (0 : Int32)), some (.int (0 : Int32)), none]) (st' := []) (S1 := zS c s) rfl ?_
  obtain ⟨w16, g23, h⟩ := zp_inv h
  refine zr_wk [some (.ref 161), some (.int (0 : Int32)), some (.int (0 : Int32)), none] ⟨rfl, rfl, rfl, trivial⟩ (zl_cert (Z := fun w4 => zr kX12_ruled 1 2 4 [some (.ref 161), some (.int w4.1), some (.int w4.2.1), none] [] (zS c w4.2.2) _ _) (Y := (fun z => zr kX12_ruled 1 2 125 [some (.ref 161), none, none, none] [] (zS c z) _ _)) (fun w o h1 h2 h3 => tX12_ruled_B4 h1 h2 h3) n _ _ g23 ?_)
  show zr kX12_ruled 1 2 125 [some (.ref 161), none, none, none] [] (zS c w16) _ _
  refine zr_many 1 (pc' := 126) (L' := [some (.ref 161), none, none, none]) (st' := [.ref 161]) (S1 := zS c w16) rfl ?_
  refine zq_get rfl (zh_161 _) rfl rfl rfl ?_
  refine zq_if1 (b := ¬ (w16.1 161 25) = 0) rfl Iff.rfl rfl (fun g17 => ?_) (fun g17 => ?_)
  · rw [if_pos g17] at h
    refine zr_many 1 (pc' := 169) (L' := [some (.ref 161), none, none, none]) (st' := [.ref 161]) (S1 := zS c w16) rfl ?_
    refine zq_get rfl (zh_161 _) rfl rfl rfl ?_
    refine zr_many 1 (pc' := 173) (L' := [some (.ref 161), none, none, none]) (st' := [.int (0 : Int32), .ref 175]) (S1 := zS c w16) rfl ?_
    refine zq_ild rfl (zh_175 _) rfl (by decide) rfl ?_
    exact zr_wk [none, none, none, none] trivial (tX12_ruled_J174 h)
  · rw [if_neg g17] at h
    refine zr_many 2 (pc' := 134) (L' := [some (.ref 161), none, none, none]) (st' := [.ref 161, .int (2 : Int32)]) (S1 := zS c w16) rfl ?_
    refine zq_get rfl (zh_161 _) rfl rfl rfl ?_
    refine zr_many 1 (pc' := 138) (L' := [some (.ref 161), none, none, none]) (st' := [.int (0 : Int32), .ref 176, .int (2 : Int32)]) (S1 := zS c w16) rfl ?_
    refine zq_ild rfl (zh_176 _) rfl (by decide) rfl ?_
    refine zr_many 2 (pc' := 141) (L' := [some (.ref 161), none, none, none]) (st' := [.ref 161, .int ((2 : Int32) * (w16.1 176 0))]) (S1 := zS c w16) rfl ?_
    refine zq_get rfl (zh_161 _) rfl rfl rfl ?_
    refine zr_many 1 (pc' := 145) (L' := [some (.ref 161), none, none, none]) (st' := [.int (1 : Int32), .ref 176, .int ((2 : Int32) * (w16.1 176 0))]) (S1 := zS c w16) rfl ?_
    refine zq_ild rfl (zh_176 _) rfl (by decide) rfl ?_
    refine zr_many 1 (pc' := 147) (L' := [some (.ref 161), none, none, none]) (st' := [.int (2 : Int32), .int (w16.1 176 1), .int ((2 : Int32) * (w16.1 176 0))]) (S1 := zS c w16) rfl ?_
    refine zq_idiv rfl (by decide) rfl ?_
    refine zr_many 2 (pc' := 150) (L' := [some (.ref 161), none, none, none]) (st' := [.ref 161, .int (((2 : Int32) * (w16.1 176 0)) + ((w16.1 176 1) / (2 : Int32)))]) (S1 := zS c w16) rfl ?_
    refine zq_get rfl (zh_161 _) rfl rfl rfl ?_
    refine zr_many 1 (pc' := 154) (L' := [some (.ref 161), none, none, none]) (st' := [.int (2 : Int32), .ref 176, .int (((2 : Int32) * (w16.1 176 0)) + ((w16.1 176 1) / (2 : Int32)))]) (S1 := zS c w16) rfl ?_
    refine zq_ild rfl (zh_176 _) rfl (by decide) rfl ?_
    refine zr_many 3 (pc' := 158) (L' := [some (.ref 161), none, none, none]) (st' := [.ref 161, .int (3 : Int32), .int ((((2 : Int32) * (w16.1 176 0)) + ((w16.1 176 1) / (2 : Int32))) + (w16.1 176 2))]) (S1 := zS c w16) rfl ?_
    refine zq_get rfl (zh_161 _) rfl rfl rfl ?_
    refine zr_many 1 (pc' := 162) (L' := [some (.ref 161), none, none, none]) (st' := [.int (3 : Int32), .ref 176, .int (3 : Int32), .int ((((2 : Int32) * (w16.1 176 0)) + ((w16.1 176 1) / (2 : Int32))) + (w16.1 176 2))]) (S1 := zS c w16) rfl ?_
    refine zq_ild rfl (zh_176 _) rfl (by decide) rfl ?_
    refine zr_many 3 (pc' := 174) (L' := [some (.ref 161), none, none, none]) (st' := [.int (((((2 : Int32) * (w16.1 176 0)) + ((w16.1 176 1) / (2 : Int32))) + (w16.1 176 2)) + ((3 : Int32) * (w16.1 176 3)))]) (S1 := zS c w16) rfl ?_
    exact zr_wk [none, none, none, none] trivial (tX12_ruled_J174 h)
