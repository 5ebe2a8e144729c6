/-! ===== printed by wip/gen/dec.py: the methods as functions, each with its run ===== -/
def fX12_hire (n : Nat) (s : zs) (x1 : Int32) (x2 : Int32) : Option (Int32 × zs) := zp (fX12_putsBy n (zsi s 161 0 (0 : Int32))) (fun s2 => zb (fX12_hiresTo n s2 169 x1 x2) (fun r4 s5 => zb (fX12_counts n s5 r4) (fun r7 s8 => some (r7, s8))))
theorem tX12_hire {n : Nat} {c : Nat × Nat} {s : zs} {x1 : Int32} {x2 : Int32} {r : Int32} {s' : zs} (h : fX12_hire n s x1 x2 = some (r, s')) : zc 4 2463 [.ref 161, .int x1, .int x2] (zS c s) (some (.int r)) (zS c s') := by
  refine zc_of (k := kX12_hire) (rt := 1) (L := [some (.ref 161), some (.int x1), some (.int x2)]) zm_2463.1 rfl rfl (by decide) rfl rfl ?_
  unfold fX12_hire at h
  refine zr_many 2 (pc' := 2) (L' := [some (.ref 161), some (.int x1), some (.int x2)]) (st' := [.int (0 : Int32), .ref 161]) (S1 := zS c s) rfl ?_
  refine zq_put (s' := (zsi s 161 0 (0 : Int32))) rfl (zh_161 _) rfl rfl rfl rfl zsi_ne rfl ?_
  refine zr_many 1 (pc' := 6) (L' := [some (.ref 161), some (.int x1), some (.int x2)]) (st' := [.ref 161]) (S1 := zS c (zsi s 161 0 (0 : Int32))) rfl ?_
  obtain ⟨s2, g3, h⟩ := zp_inv h
  refine zq_call0 rfl rfl (zh_161 _) rfl rfl rfl ((tX12_putsBy g3).up (by decide)) rfl ?_
  refine zr_many 3 (pc' := 12) (L' := [some (.ref 161), some (.int x1), some (.int x2)]) (st' := [.ref 161, .ref 161, .ref 161]) (S1 := zS c s2) rfl ?_
  refine zq_get rfl (zh_161 _) rfl rfl rfl ?_
  refine zr_many 2 (pc' := 17) (L' := [some (.ref 161), some (.int x1), some (.int x2)]) (st' := [.int x2, .int x1, .ref 169, .ref 161, .ref 161]) (S1 := zS c s2) rfl ?_
  obtain ⟨r4, s5, g6, h⟩ := zb_inv h
  refine zq_call1 rfl rfl (zh_161 _) rfl rfl rfl (tX12_hiresTo zR_n g6) rfl ?_
  obtain ⟨r7, s8, g9, h⟩ := zb_inv h
  refine zq_call1 rfl rfl (zh_161 _) rfl rfl rfl ((tX12_counts g9).up (by decide)) rfl ?_
  obtain ⟨rfl, rfl⟩ := Prod.mk.inj (Option.some.inj h)
  exact zq_iret rfl
def fX12_leave (n : Nat) (s : zs) (x1 : Int32) : Option (Int32 × zs) := zp (fX12_putsBy n (zsi s 161 0 (0 : Int32))) (fun s2 => zb (fX12_leaves n s2 169 x1) (fun r4 s5 => zb (fX12_counts n s5 r4) (fun r7 s8 => some (r7, s8))))
theorem tX12_leave {n : Nat} {c : Nat × Nat} {s : zs} {x1 : Int32} {r : Int32} {s' : zs} (h : fX12_leave n s x1 = some (r, s')) : zc 4 2464 [.ref 161, .int x1] (zS c s) (some (.int r)) (zS c s') := by
  refine zc_of (k := kX12_leave) (rt := 1) (L := [some (.ref 161), some (.int x1)]) zm_2464.1 rfl rfl (by decide) rfl rfl ?_
  unfold fX12_leave at h
  refine zr_many 2 (pc' := 2) (L' := [some (.ref 161), some (.int x1)]) (st' := [.int (0 : Int32), .ref 161]) (S1 := zS c s) rfl ?_
  refine zq_put (s' := (zsi s 161 0 (0 : Int32))) rfl (zh_161 _) rfl rfl rfl rfl zsi_ne rfl ?_
  refine zr_many 1 (pc' := 6) (L' := [some (.ref 161), some (.int x1)]) (st' := [.ref 161]) (S1 := zS c (zsi s 161 0 (0 : Int32))) rfl ?_
  obtain ⟨s2, g3, h⟩ := zp_inv h
  refine zq_call0 rfl rfl (zh_161 _) rfl rfl rfl ((tX12_putsBy g3).up (by decide)) rfl ?_
  refine zr_many 3 (pc' := 12) (L' := [some (.ref 161), some (.int x1)]) (st' := [.ref 161, .ref 161, .ref 161]) (S1 := zS c s2) rfl ?_
  refine zq_get rfl (zh_161 _) rfl rfl rfl ?_
  refine zr_many 1 (pc' := 16) (L' := [some (.ref 161), some (.int x1)]) (st' := [.int x1, .ref 169, .ref 161, .ref 161]) (S1 := zS c s2) rfl ?_
  obtain ⟨r4, s5, g6, h⟩ := zb_inv h
  refine zq_call1 rfl rfl (zh_161 _) rfl rfl rfl (tX12_leaves zR_n g6) rfl ?_
  obtain ⟨r7, s8, g9, h⟩ := zb_inv h
  refine zq_call1 rfl rfl (zh_161 _) rfl rfl rfl ((tX12_counts g9).up (by decide)) rfl ?_
  obtain ⟨rfl, rfl⟩ := Prod.mk.inj (Option.some.inj h)
  exact zq_iret rfl
def fX12_rest (n : Nat) (s : zs) (x1 : Int32) : Option (Int32 × zs) := zp (fX12_in n (zsi s 161 0 (0 : Int32)) x1.toInt64 (0 : Int64) (600 : Int64)) (fun r1 => if ¬ r1 = 0 then zp (fX12_putsBy n (zsi s 161 0 (0 : Int32))) (fun s6 => zp (fX12_restsFor n s6 169 x1) (fun s9 => zb (fX12_adds n s9 (s9.1 169 9)) (fun r12 s13 => some (r12, s13)))) else some ((-1 : Int32), (zsi s 161 0 (0 : Int32))))
theorem tX12_rest {n : Nat} {c : Nat × Nat} {s : zs} {x1 : Int32} {r : Int32} {s' : zs} (h : fX12_rest n s x1 = some (r, s')) : zc 3 2466 [.ref 161, .int x1] (zS c s) (some (.int r)) (zS c s') := by
  refine zc_of (k := kX12_rest) (rt := 1) (L := [some (.ref 161), some (.int x1)]) zm_2466.1 rfl rfl (by decide) rfl rfl ?_
  unfold fX12_rest at h
  refine zr_many 2 (pc' := 2) (L' := [some (.ref 161), some (.int x1)]) (st' := [.int (0 : Int32), .ref 161]) (S1 := zS c s) rfl ?_
  refine zq_put (s' := (zsi s 161 0 (0 : Int32))) rfl (zh_161 _) rfl rfl rfl rfl zsi_ne rfl ?_
  refine zr_many 4 (pc' := 11) (L' := [some (.ref 161), some (.int x1)]) (st' := [.long (600 : Int64), .long (0 : Int64), .long x1.toInt64]) (S1 := zS c (zsi s 161 0 (0 : Int32))) rfl ?_
  obtain ⟨r1, g3, h⟩ := zp_inv h
  refine zq_scall1 rfl (by decide) rfl rfl ((tX12_in g3).up (by decide)) rfl ?_
  refine zq_if1 (b := ¬ r1 = 0) rfl Iff.rfl rfl (fun g4 => ?_) (fun g4 => ?_)
  · rw [if_pos g4] at h
    refine zr_many 1 (pc' := 20) (L' := [some (.ref 161), some (.int x1)]) (st' := [.ref 161]) (S1 := zS c (zsi s 161 0 (0 : Int32))) rfl ?_
    obtain ⟨s6, g7, h⟩ := zp_inv h
    refine zq_call0 rfl rfl (zh_161 _) rfl rfl rfl ((tX12_putsBy g7).up (by decide)) rfl ?_
    refine zr_many 2 (pc' := 25) (L' := [some (.ref 161), some (.int x1)]) (st' := [.ref 161, .ref 161]) (S1 := zS c s6) rfl ?_
    refine zq_get rfl (zh_161 _) rfl rfl rfl ?_
    refine zr_many 1 (pc' := 29) (L' := [some (.ref 161), some (.int x1)]) (st' := [.int x1, .ref 169, .ref 161]) (S1 := zS c s6) rfl ?_
    obtain ⟨s9, g10, h⟩ := zp_inv h
    refine zq_call0 rfl rfl (zh_161 _) rfl rfl rfl (tX12_restsFor zR_n g10) rfl ?_
    refine zr_many 2 (pc' := 34) (L' := [some (.ref 161), some (.int x1)]) (st' := [.ref 161, .ref 161]) (S1 := zS c s9) rfl ?_
    refine zq_get rfl (zh_161 _) rfl rfl rfl ?_
    refine zr_many 1 (pc' := 39) (L' := [some (.ref 161), some (.int x1)]) (st' := [.int (9 : Int32), .ref 169, .ref 161]) (S1 := zS c s9) rfl ?_
    refine zq_ild rfl (zh_169 _) rfl (by decide) rfl ?_
    obtain ⟨r12, s13, g14, h⟩ := zb_inv h
    refine zq_call1 rfl rfl (zh_161 _) rfl rfl rfl ((tX12_adds g14).up (by decide)) rfl ?_
    obtain ⟨rfl, rfl⟩ := Prod.mk.inj (Option.some.inj h)
    exact zq_iret rfl
  · rw [if_neg g4] at h
    refine zr_many 1 (pc' := 18) (L' := [some (.ref 161), some (.int x1)]) (st' := [.int (-1 : Int32)]) (S1 := zS c (zsi s 161 0 (0 : Int32))) rfl ?_
    obtain ⟨rfl, rfl⟩ := Prod.mk.inj (Option.some.inj h)
    exact zq_iret rfl
def fX12_isPair_J21 (n : Nat) (s : zs) (y0 : Int32) : Option Int32 := if y0 = 0 ∨ y0 = 1 then some y0 else none
theorem tX12_isPair_J21 {n : Nat} {c : Nat × Nat} {s : zs} {y0 : Int32} {r : Int32} (h : fX12_isPair_J21 n s y0 = some r) : zr kX12_isPair 2 2 21 [none, none, none] [.int y0] (zS c s) (some (.int r)) (zS c s) := by
  unfold fX12_isPair_J21 at h
  obtain ⟨gz, h⟩ := zt_inv h
  obtain rfl := Option.some.inj h
  exact zq_zret rfl gz
def fX12_isPair_J20 (n : Nat) (s : zs) : Option Int32 := fX12_isPair_J21 n s (0 : Int32)
theorem tX12_isPair_J20 {n : Nat} {c : Nat × Nat} {s : zs} {r : Int32} (h : fX12_isPair_J20 n s = some r) : zr kX12_isPair 2 2 20 [none, none, none] [] (zS c s) (some (.int r)) (zS c s) := by
  unfold fX12_isPair_J20 at h
  refine zr_many 1 (pc' := 21) (L' := [none, none, none]) (st' := [.int (0 : Int32)]) (S1 := zS c s) rfl ?_
  exact zr_wk [none, none, none] trivial (tX12_isPair_J21 h)
def fX12_isPair (n : Nat) (s : zs) (x1 : Int32) (x2 : Int32) : Option Int32 := zp (fX12_isBarge n s x1) (fun r1 => if r1 = 0 then fX12_isPair_J20 n s else zp (fX12_isLock n s x2) (fun r5 => if r5 = 0 then fX12_isPair_J20 n s else fX12_isPair_J21 n s (1 : Int32)))
theorem tX12_isPair {n : Nat} {c : Nat × Nat} {s : zs} {x1 : Int32} {x2 : Int32} {r : Int32} (h : fX12_isPair n s x1 x2 = some r) : zc 3 2470 [.ref 161, .int x1, .int x2] (zS c s) (some (.int r)) (zS c s) := by
  refine zc_of (k := kX12_isPair) (rt := 2) (L := [some (.ref 161), some (.int x1), some (.int x2)]) zm_2470.1 rfl rfl (by decide) rfl rfl ?_
  unfold fX12_isPair at h
  refine zr_many 2 (pc' := 2) (L' := [some (.ref 161), some (.int x1), some (.int x2)]) (st' := [.int x1, .ref 161]) (S1 := zS c s) rfl ?_
  obtain ⟨r1, g3, h⟩ := zp_inv h
  refine zq_call1 rfl rfl (zh_161 _) rfl rfl rfl (tX12_isBarge g3) rfl ?_
  refine zq_if1 (b := r1 = 0) rfl Iff.rfl rfl (fun g4 => ?_) (fun g4 => ?_)
  · rw [if_pos g4] at h
    exact zr_wk [none, none, none] trivial (tX12_isPair_J20 h)
  · rw [if_neg g4] at h
    refine zr_many 2 (pc' := 10) (L' := [some (.ref 161), some (.int x1), some (.int x2)]) (st' := [.int x2, .ref 161]) (S1 := zS c s) rfl ?_
    obtain ⟨r5, g7, h⟩ := zp_inv h
    refine zq_call1 rfl rfl (zh_161 _) rfl rfl rfl (tX12_isLock g7) rfl ?_
    refine zq_if1 (b := r5 = 0) rfl Iff.rfl rfl (fun g8 => ?_) (fun g8 => ?_)
    · rw [if_pos g8] at h
      exact zr_wk [none, none, none] trivial (tX12_isPair_J20 h)
    · rw [if_neg g8] at h
      refine zr_many 2 (pc' := 21) (L' := [some (.ref 161), some (.int x1), some (.int x2)]) (st' := [.int (1 : Int32)]) (S1 := zS c s) rfl ?_
      exact zr_wk [none, none, none] trivial (tX12_isPair_J21 h)
def fX12_fees_J31 (n : Nat) (s : zs) (x1 : Int32) (x3 : Int32) (y0 : Int32) (y1 : Int32) : Option ((Int32 × Int32) ⊕ (Int32)) := some (Sum.inl ((y0 + y1), (x3 + (1 : Int32))))
theorem tX12_fees_J31 {n : Nat} {c : Nat × Nat} {s : zs} {x1 : Int32} {x3 : Int32} {y0 : Int32} {y1 : Int32} {o : _} {v : Option Value} {S' : zi_S} (h : fX12_fees_J31 n s x1 x3 y0 y1 = some o) (hn : ∀ w4, o = Sum.inl w4 → zr kX12_fees 1 1 4 [some (.ref 161), some (.int x1), some (.int w4.1), some (.int w4.2)] [] (zS c s) v S') (hx : ∀ z, o = Sum.inr z → (fun z => zr kX12_fees 1 1 39 [none, none, some (.int z), none] [] (zS c s) v S') z) : zr kX12_fees 1 1 31 [some (.ref 161), some (.int x1), none, some (.int x3)] [.int y1, .int y0] (zS c s) v S' := by
  unfold fX12_fees_J31 at h
  refine zr_many 4 (pc' := 4) (L' := [some (.ref 161), some (.int x1), some (.int (y0 + y1)), some (.int (x3 + (1 : Int32)))]) (st' := []) (S1 := zS c s) rfl ?_
  obtain rfl := Option.some.inj h
  exact zr_wk [some (.ref 161), some (.int x1), some (.int (y0 + y1)), some (.int (x3 + (1 : Int32)))] ⟨rfl, rfl, rfl, rfl, trivial⟩ (hn ((y0 + y1), (x3 + (1 : Int32))) rfl)
def fX12_fees_B4 (n : Nat) (s : zs) (x1 : Int32) (w4 : Int32 × Int32) : Option ((Int32 × Int32) ⊕ (Int32)) := if (s.1 161 4) ≤ w4.2 then some (Sum.inr w4.1) else zp (fX12_has n s x1 w4.2) (fun r2 => if r2 = 0 then fX12_fees_J31 n s x1 w4.2 w4.1 (0 : Int32) else cond (zi_in w4.2 8) (fX12_fees_J31 n s x1 w4.2 w4.1 (s.1 167 w4.2.toNatClampNeg)) none)
theorem tX12_fees_B4 {n : Nat} {c : Nat × Nat} {s : zs} {x1 : Int32} {w4 : Int32 × Int32} {o : _} {v : Option Value} {S' : zi_S} (h : fX12_fees_B4 n s x1 w4 = some o) (hn : ∀ w4, o = Sum.inl w4 → zr kX12_fees 1 1 4 [some (.ref 161), some (.int x1), some (.int w4.1), some (.int w4.2)] [] (zS c s) v S') (hx : ∀ z, o = Sum.inr z → (fun z => zr kX12_fees 1 1 39 [none, none, some (.int z), none] [] (zS c s) v S') z) : zr kX12_fees 1 1 4 [some (.ref 161), some (.int x1), some (.int w4.1), some (.int w4.2)] [] (zS c s) v S' := by
  unfold fX12_fees_B4 at h
  refine zr_many 2 (pc' := 6) (L' := [some (.ref 161), some (.int x1), some (.int w4.1), some (.int w4.2)]) (st' := [.ref 161, .int w4.2]) (S1 := zS c s) rfl ?_
  refine zq_get rfl (zh_161 _) rfl rfl rfl ?_
  refine zq_if2 (b := (s.1 161 4) ≤ w4.2) rfl Iff.rfl rfl (fun g1 => ?_) (fun g1 => ?_)
  · rw [if_pos g1] at h
    obtain rfl := Option.some.inj h
    exact zr_wk [none, none, some (.int w4.1), none] ⟨rfl, trivial⟩ (hx w4.1 rfl)
  · rw [if_neg g1] at h
    refine zr_many 3 (pc' := 15) (L' := [some (.ref 161), some (.int x1), some (.int w4.1), some (.int w4.2)]) (st' := [.int w4.2, .int x1, .int w4.1]) (S1 := zS c s) rfl ?_
    obtain ⟨r2, g4, h⟩ := zp_inv h
    refine zq_scall1 rfl (by decide) rfl rfl (tX12_has g4) rfl ?_
    refine zq_if1 (b := r2 = 0) rfl Iff.rfl rfl (fun g5 => ?_) (fun g5 => ?_)
    · rw [if_pos g5] at h
      refine zr_many 1 (pc' := 31) (L' := [some (.ref 161), some (.int x1), some (.int w4.1), some (.int w4.2)]) (st' := [.int (0 : Int32), .int w4.1]) (S1 := zS c s) rfl ?_
      exact zr_wk [some (.ref 161), some (.int x1), none, some (.int w4.2)] ⟨rfl, rfl, rfl, trivial⟩ (tX12_fees_J31 h hn hx)
    · rw [if_neg g5] at h
      refine zr_many 1 (pc' := 22) (L' := [some (.ref 161), some (.int x1), some (.int w4.1), some (.int w4.2)]) (st' := [.ref 161, .int w4.1]) (S1 := zS c s) rfl ?_
      refine zq_get rfl (zh_161 _) rfl rfl rfl ?_
      refine zr_many 1 (pc' := 26) (L' := [some (.ref 161), some (.int x1), some (.int w4.1), some (.int w4.2)]) (st' := [.int w4.2, .ref 167, .int w4.1]) (S1 := zS c s) rfl ?_
      obtain ⟨g6, h⟩ := zi_cond_inv h
      refine zq_ild rfl (zh_167 _) rfl g6 rfl ?_
      refine zr_many 1 (pc' := 31) (L' := [some (.ref 161), some (.int x1), some (.int w4.1), some (.int w4.2)]) (st' := [.int (s.1 167 w4.2.toNatClampNeg), .int w4.1]) (S1 := zS c s) rfl ?_
      exact zr_wk [some (.ref 161), some (.int x1), none, some (.int w4.2)] ⟨rfl, rfl, rfl, trivial⟩ (tX12_fees_J31 h hn hx)
def fX12_fees (n : Nat) (s : zs) (x1 : Int32) : Option Int32 := zp (zl (fX12_fees_B4 n s x1) n ((0 : Int32), (0 : Int32))) (fun w7 => some w7)
theorem tX12_fees {n : Nat} {c : Nat × Nat} {s : zs} {x1 : Int32} {r : Int32} (h : fX12_fees n s x1 = some r) : zc 2 2476 [.ref 161, .int x1] (zS c s) (some (.int r)) (zS c s) := by
  refine zc_of (k := kX12_fees) (rt := 1) (L := [some (.ref 161), some (.int x1), none, none]) zm_2476.1 rfl rfl (by decide) rfl rfl ?_
  unfold fX12_fees at h
  refine zr_many 4 (pc' := 4) (L' := [some (.ref 161), some (.int x1), some (.int (0 : Int32)), some (.int (0 : Int32))]) (st' := []) (S1 := zS c s) rfl ?_
  obtain ⟨w7, g8, h⟩ := zp_inv h
  refine zr_wk [some (.ref 161), some (.int x1), some (.int (0 : Int32)), some (.int (0 : Int32))] ⟨rfl, rfl, rfl, rfl, trivial⟩ (zl_cert (Z := fun w4 => zr kX12_fees 1 1 4 [some (.ref 161), some (.int x1), some (.int w4.1), some (.int w4.2)] [] (zS c s) _ _) (Y := (fun z => zr kX12_fees 1 1 39 [none, none, some (.int z), none] [] (zS c s) _ _)) (fun w o h1 h2 h3 => tX12_fees_B4 h1 h2 h3) n _ _ g8 ?_)
  show zr kX12_fees 1 1 39 [none, none, some (.int w7), none] [] (zS c s) _ _
  refine zr_many 1 (pc' := 40) (L' := [none, none, some (.int w7), none]) (st' := [.int w7]) (S1 := zS c s) rfl ?_
  obtain rfl := Option.some.inj h
  exact zq_iret rfl
def fX12_isCheaper_J39 (n : Nat) (s : zs) (y0 : Int32) : Option Int32 := if y0 = 0 ∨ y0 = 1 then some y0 else none
theorem tX12_isCheaper_J39 {n : Nat} {c : Nat × Nat} {s : zs} {y0 : Int32} {r : Int32} (h : fX12_isCheaper_J39 n s y0 = some r) : zr kX12_isCheaper 2 2 39 [none, none, none] [.int y0] (zS c s) (some (.int r)) (zS c s) := by
  unfold fX12_isCheaper_J39 at h
  obtain ⟨gz, h⟩ := zt_inv h
  obtain rfl := Option.some.inj h
  exact zq_zret rfl gz
def fX12_isCheaper_J34 (n : Nat) (s : zs) : Option Int32 := fX12_isCheaper_J39 n s (1 : Int32)
theorem tX12_isCheaper_J34 {n : Nat} {c : Nat × Nat} {s : zs} {r : Int32} (h : fX12_isCheaper_J34 n s = some r) : zr kX12_isCheaper 2 2 34 [none, none, none] [] (zS c s) (some (.int r)) (zS c s) := by
  unfold fX12_isCheaper_J34 at h
  refine zr_many 2 (pc' := 39) (L' := [none, none, none]) (st' := [.int (1 : Int32)]) (S1 := zS c s) rfl ?_
  exact zr_wk [none, none, none] trivial (tX12_isCheaper_J39 h)
def fX12_isCheaper_J17 (n : Nat) (s : zs) (x1 : Int32) (x2 : Int32) : Option Int32 := if x2 < 0 then fX12_isCheaper_J34 n s else zp (fX12_fees n s x1) (fun r3 => zp (fX12_fees n s x2) (fun r6 => if r6 ≤ r3 then fX12_isCheaper_J39 n s (0 : Int32) else fX12_isCheaper_J34 n s))
theorem tX12_isCheaper_J17 {n : Nat} {c : Nat × Nat} {s : zs} {x1 : Int32} {x2 : Int32} {r : Int32} (h : fX12_isCheaper_J17 n s x1 x2 = some r) : zr kX12_isCheaper 2 2 17 [some (.ref 161), some (.int x1), some (.int x2)] [] (zS c s) (some (.int r)) (zS c s) := by
  unfold fX12_isCheaper_J17 at h
  refine zr_many 1 (pc' := 18) (L' := [some (.ref 161), some (.int x1), some (.int x2)]) (st' := [.int x2]) (S1 := zS c s) rfl ?_
  refine zq_if1 (b := x2 < 0) rfl Iff.rfl rfl (fun g2 => ?_) (fun g2 => ?_)
  · rw [if_pos g2] at h
    exact zr_wk [none, none, none] trivial (tX12_isCheaper_J34 h)
  · rw [if_neg g2] at h
    refine zr_many 2 (pc' := 23) (L' := [some (.ref 161), some (.int x1), some (.int x2)]) (st' := [.int x1, .ref 161]) (S1 := zS c s) rfl ?_
    obtain ⟨r3, g5, h⟩ := zp_inv h
    refine zq_call1 rfl rfl (zh_161 _) rfl rfl rfl (tX12_fees g5) rfl ?_
    refine zr_many 2 (pc' := 28) (L' := [some (.ref 161), some (.int x1), some (.int x2)]) (st' := [.int x2, .ref 161, .int r3]) (S1 := zS c s) rfl ?_
    obtain ⟨r6, g8, h⟩ := zp_inv h
    refine zq_call1 rfl rfl (zh_161 _) rfl rfl rfl (tX12_fees g8) rfl ?_
    refine zq_if2 (b := r6 ≤ r3) rfl Iff.rfl rfl (fun g9 => ?_) (fun g9 => ?_)
    · rw [if_pos g9] at h
      refine zr_many 1 (pc' := 39) (L' := [some (.ref 161), some (.int x1), some (.int x2)]) (st' := [.int (0 : Int32)]) (S1 := zS c s) rfl ?_
      exact zr_wk [none, none, none] trivial (tX12_isCheaper_J39 h)
    · rw [if_neg g9] at h
      exact zr_wk [none, none, none] trivial (tX12_isCheaper_J34 h)
def fX12_isCheaper_J56 (n : Nat) (s : zs) (y0 : Int32) : Option Int32 := if y0 = 0 ∨ y0 = 1 then some y0 else none
theorem tX12_isCheaper_J56 {n : Nat} {c : Nat × Nat} {s : zs} {y0 : Int32} {r : Int32} (h : fX12_isCheaper_J56 n s y0 = some r) : zr kX12_isCheaper 2 2 56 [none, none, none] [.int y0] (zS c s) (some (.int r)) (zS c s) := by
  unfold fX12_isCheaper_J56 at h
  obtain ⟨gz, h⟩ := zt_inv h
  obtain rfl := Option.some.inj h
  exact zq_zret rfl gz
def fX12_isCheaper (n : Nat) (s : zs) (x1 : Int32) (x2 : Int32) : Option Int32 := if x2 < 0 then fX12_isCheaper_J17 n s x1 x2 else zp (fX12_fees n s x1) (fun r10 => zp (fX12_fees n s x2) (fun r13 => if r10 = r13 then zp (fJ6_bitCount_0f7a4 n s x1) (fun r17 => zp (fJ6_bitCount_0f7a4 n s x2) (fun r20 => if r20 ≤ r17 then fX12_isCheaper_J56 n s (0 : Int32) else fX12_isCheaper_J56 n s (1 : Int32))) else fX12_isCheaper_J17 n s x1 x2))
theorem tX12_isCheaper {n : Nat} {c : Nat × Nat} {s : zs} {x1 : Int32} {x2 : Int32} {r : Int32} (h : fX12_isCheaper n s x1 x2 = some r) : zc 3 2477 [.ref 161, .int x1, .int x2] (zS c s) (some (.int r)) (zS c s) := by
  refine zc_of (k := kX12_isCheaper) (rt := 2) (L := [some (.ref 161), some (.int x1), some (.int x2)]) zm_2477.1 rfl rfl (by decide) rfl rfl ?_
  unfold fX12_isCheaper at h
  refine zr_many 1 (pc' := 1) (L' := [some (.ref 161), some (.int x1), some (.int x2)]) (st' := [.int x2]) (S1 := zS c s) rfl ?_
  refine zq_if1 (b := x2 < 0) rfl Iff.rfl rfl (fun g1 => ?_) (fun g1 => ?_)
  · rw [if_pos g1] at h
    exact zr_wk [some (.ref 161), some (.int x1), some (.int x2)] ⟨rfl, rfl, rfl, trivial⟩ (tX12_isCheaper_J17 h)
  · rw [if_neg g1] at h
    refine zr_many 2 (pc' := 6) (L' := [some (.ref 161), some (.int x1), some (.int x2)]) (st' := [.int x1, .ref 161]) (S1 := zS c s) rfl ?_
    obtain ⟨r10, g12, h⟩ := zp_inv h
    refine zq_call1 rfl rfl (zh_161 _) rfl rfl rfl (tX12_fees g12) rfl ?_
    refine zr_many 2 (pc' := 11) (L' := [some (.ref 161), some (.int x1), some (.int x2)]) (st' := [.int x2, .ref 161, .int r10]) (S1 := zS c s) rfl ?_
    obtain ⟨r13, g15, h⟩ := zp_inv h
    refine zq_call1 rfl rfl (zh_161 _) rfl rfl rfl (tX12_fees g15) rfl ?_
    refine zq_if2 (b := r10 = r13) rfl Iff.rfl rfl (fun g16 => ?_) (fun g16 => ?_)
    · rw [if_pos g16] at h
      refine zr_many 1 (pc' := 41) (L' := [some (.ref 161), some (.int x1), some (.int x2)]) (st' := [.int x1]) (S1 := zS c s) rfl ?_
      obtain ⟨r17, g19, h⟩ := zp_inv h
      refine zq_scall1 rfl (by decide) rfl rfl ((tJ6_bitCount_0f7a4 g19).up (by decide)) rfl ?_
      refine zr_many 1 (pc' := 45) (L' := [some (.ref 161), some (.int x1), some (.int x2)]) (st' := [.int x2, .int r17]) (S1 := zS c s) rfl ?_
      obtain ⟨r20, g22, h⟩ := zp_inv h
      refine zq_scall1 rfl (by decide) rfl rfl ((tJ6_bitCount_0f7a4 g22).up (by decide)) rfl ?_
      refine zq_if2 (b := r20 ≤ r17) rfl Iff.rfl rfl (fun g23 => ?_) (fun g23 => ?_)
      · rw [if_pos g23] at h
        refine zr_many 1 (pc' := 56) (L' := [some (.ref 161), some (.int x1), some (.int x2)]) (st' := [.int (0 : Int32)]) (S1 := zS c s) rfl ?_
        exact zr_wk [none, none, none] trivial (tX12_isCheaper_J56 h)
      · rw [if_neg g23] at h
        refine zr_many 2 (pc' := 56) (L' := [some (.ref 161), some (.int x1), some (.int x2)]) (st' := [.int (1 : Int32)]) (S1 := zS c s) rfl ?_
        exact zr_wk [none, none, none] trivial (tX12_isCheaper_J56 h)
    · rw [if_neg g16] at h
      exact zr_wk [some (.ref 161), some (.int x1), some (.int x2)] ⟨rfl, rfl, rfl, trivial⟩ (tX12_isCheaper_J17 h)
def fX12_freeAt_J40 (n : Nat) (s : zs) (x1 : Int32) (x3 : Int32) (y0 : Int32) (y1 : Int32) : Option ((Int32 × Int32) ⊕ (Int32)) := some (Sum.inl ((y0 ||| y1), (x3 + (1 : Int32))))
theorem tX12_freeAt_J40 {n : Nat} {c : Nat × Nat} {s : zs} {x1 : Int32} {x3 : Int32} {y0 : Int32} {y1 : Int32} {o : _} {v : Option Value} {S' : zi_S} (h : fX12_freeAt_J40 n s x1 x3 y0 y1 = some o) (hn : ∀ w4, o = Sum.inl w4 → zr kX12_freeAt 1 2 4 [some (.ref 161), some (.int x1), some (.int w4.1), some (.int w4.2)] [] (zS c s) v S') (hx : ∀ z, o = Sum.inr z → (fun z => zr kX12_freeAt 1 2 48 [none, none, some (.int z), none] [] (zS c s) v S') z) : zr kX12_freeAt 1 2 40 [some (.ref 161), some (.int x1), none, some (.int x3)] [.int y1, .int y0] (zS c s) v S' := by
  unfold fX12_freeAt_J40 at h
  refine zr_many 4 (pc' := 4) (L' := [some (.ref 161), some (.int x1), some (.int (y0 ||| y1)), some (.int (x3 + (1 : Int32)))]) (st' := []) (S1 := zS c s) rfl ?_
  obtain rfl := Option.some.inj h
  exact zr_wk [some (.ref 161), some (.int x1), some (.int (y0 ||| y1)), some (.int (x3 + (1 : Int32)))] ⟨rfl, rfl, rfl, rfl, trivial⟩ (hn ((y0 ||| y1), (x3 + (1 : Int32))) rfl)
def fX12_freeAt_J39 (n : Nat) (s : zs) (x1 : Int32) (x3 : Int32) (y0 : Int32) : Option ((Int32 × Int32) ⊕ (Int32)) := fX12_freeAt_J40 n s x1 x3 y0 (0 : Int32)
theorem tX12_freeAt_J39 {n : Nat} {c : Nat × Nat} {s : zs} {x1 : Int32} {x3 : Int32} {y0 : Int32} {o : _} {v : Option Value} {S' : zi_S} (h : fX12_freeAt_J39 n s x1 x3 y0 = some o) (hn : ∀ w4, o = Sum.inl w4 → zr kX12_freeAt 1 2 4 [some (.ref 161), some (.int x1), some (.int w4.1), some (.int w4.2)] [] (zS c s) v S') (hx : ∀ z, o = Sum.inr z → (fun z => zr kX12_freeAt 1 2 48 [none, none, some (.int z), none] [] (zS c s) v S') z) : zr kX12_freeAt 1 2 39 [some (.ref 161), some (.int x1), none, some (.int x3)] [.int y0] (zS c s) v S' := by
  unfold fX12_freeAt_J39 at h
  refine zr_many 1 (pc' := 40) (L' := [some (.ref 161), some (.int x1), none, some (.int x3)]) (st' := [.int (0 : Int32), .int y0]) (S1 := zS c s) rfl ?_
  exact zr_wk [some (.ref 161), some (.int x1), none, some (.int x3)] ⟨rfl, rfl, rfl, trivial⟩ (tX12_freeAt_J40 h hn hx)
def fX12_freeAt_B4 (n : Nat) (s : zs) (x1 : Int32) (w4 : Int32 × Int32) : Option ((Int32 × Int32) ⊕ (Int32)) := if (s.1 161 4) ≤ w4.2 then some (Sum.inr w4.1) else zp (fX12_crewOf n s 169 w4.2) (fun r2 => if 0 ≤ r2 then fX12_freeAt_J39 n s x1 w4.2 w4.1 else zp (fX12_whereIs n s w4.2) (fun r6 => if ¬ r6 = x1 then fX12_freeAt_J39 n s x1 w4.2 w4.1 else fX12_freeAt_J40 n s x1 w4.2 w4.1 ((1 : Int32) <<< (w4.2 &&& 31))))
theorem tX12_freeAt_B4 {n : Nat} {c : Nat × Nat} {s : zs} {x1 : Int32} {w4 : Int32 × Int32} {o : _} {v : Option Value} {S' : zi_S} (h : fX12_freeAt_B4 n s x1 w4 = some o) (hn : ∀ w4, o = Sum.inl w4 → zr kX12_freeAt 1 2 4 [some (.ref 161), some (.int x1), some (.int w4.1), some (.int w4.2)] [] (zS c s) v S') (hx : ∀ z, o = Sum.inr z → (fun z => zr kX12_freeAt 1 2 48 [none, none, some (.int z), none] [] (zS c s) v S') z) : zr kX12_freeAt 1 2 4 [some (.ref 161), some (.int x1), some (.int w4.1), some (.int w4.2)] [] (zS c s) v S' := by
  unfold fX12_freeAt_B4 at h
  refine zr_many 2 (pc' := 6) (L' := [some (.ref 161), some (.int x1), some (.int w4.1), some (.int w4.2)]) (st' := [.ref 161, .int w4.2]) (S1 := zS c s) rfl ?_
  refine zq_get rfl (zh_161 _) rfl rfl rfl ?_
  refine zq_if2 (b := (s.1 161 4) ≤ w4.2) rfl Iff.rfl rfl (fun g1 => ?_) (fun g1 => ?_)
  · rw [if_pos g1] at h
    obtain rfl := Option.some.inj h
    exact zr_wk [none, none, some (.int w4.1), none] ⟨rfl, trivial⟩ (hx w4.1 rfl)
  · rw [if_neg g1] at h
    refine zr_many 2 (pc' := 14) (L' := [some (.ref 161), some (.int x1), some (.int w4.1), some (.int w4.2)]) (st' := [.ref 161, .int w4.1]) (S1 := zS c s) rfl ?_
    refine zq_get rfl (zh_161 _) rfl rfl rfl ?_
    refine zr_many 1 (pc' := 18) (L' := [some (.ref 161), some (.int x1), some (.int w4.1), some (.int w4.2)]) (st' := [.int w4.2, .ref 169, .int w4.1]) (S1 := zS c s) rfl ?_
    obtain ⟨r2, g4, h⟩ := zp_inv h
    refine zq_scall1 rfl (by decide) rfl rfl ((tX12_crewOf zR_n g4).up (by decide)) rfl ?_
    refine zq_if1 (b := 0 ≤ r2) rfl Iff.rfl rfl (fun g5 => ?_) (fun g5 => ?_)
    · rw [if_pos g5] at h
      exact zr_wk [some (.ref 161), some (.int x1), none, some (.int w4.2)] ⟨rfl, rfl, rfl, trivial⟩ (tX12_freeAt_J39 h hn hx)
    · rw [if_neg g5] at h
      refine zr_many 2 (pc' := 26) (L' := [some (.ref 161), some (.int x1), some (.int w4.1), some (.int w4.2)]) (st' := [.int w4.2, .ref 161, .int w4.1]) (S1 := zS c s) rfl ?_
      obtain ⟨r6, g8, h⟩ := zp_inv h
      refine zq_call1 rfl rfl (zh_161 _) rfl rfl rfl (tX12_whereIs g8) rfl ?_
      refine zr_many 1 (pc' := 30) (L' := [some (.ref 161), some (.int x1), some (.int w4.1), some (.int w4.2)]) (st' := [.int x1, .int r6, .int w4.1]) (S1 := zS c s) rfl ?_
      refine zq_if2 (b := ¬ r6 = x1) rfl Iff.rfl rfl (fun g9 => ?_) (fun g9 => ?_)
      · rw [if_pos g9] at h
        exact zr_wk [some (.ref 161), some (.int x1), none, some (.int w4.2)] ⟨rfl, rfl, rfl, trivial⟩ (tX12_freeAt_J39 h hn hx)
      · rw [if_neg g9] at h
        refine zr_many 4 (pc' := 40) (L' := [some (.ref 161), some (.int x1), some (.int w4.1), some (.int w4.2)]) (st' := [.int ((1 : Int32) <<< (w4.2 &&& 31)), .int w4.1]) (S1 := zS c s) rfl ?_
        exact zr_wk [some (.ref 161), some (.int x1), none, some (.int w4.2)] ⟨rfl, rfl, rfl, trivial⟩ (tX12_freeAt_J40 h hn hx)
def fX12_freeAt (n : Nat) (s : zs) (x1 : Int32) : Option Int32 := zp (zl (fX12_freeAt_B4 n s x1) n ((0 : Int32), (0 : Int32))) (fun w10 => some w10)
theorem tX12_freeAt {n : Nat} {c : Nat × Nat} {s : zs} {x1 : Int32} {r : Int32} (h : fX12_freeAt n s x1 = some r) : zc 3 2479 [.ref 161, .int x1] (zS c s) (some (.int r)) (zS c s) := by
  refine zc_of (k := kX12_freeAt) (rt := 1) (L := [some (.ref 161), some (.int x1), none, none]) zm_2479.1 rfl rfl (by decide) rfl rfl ?_
  unfold fX12_freeAt at h
  refine zr_many 4 (pc' := 4) (L' := [some (.ref 161), some (.int x1), some (.int (0 : Int32)), some (.int (0 : Int32))]) (st' := []) (S1 := zS c s) rfl ?_
  obtain ⟨w10, g11, h⟩ := zp_inv h
  refine zr_wk [some (.ref 161), some (.int x1), some (.int (0 : Int32)), some (.int (0 : Int32))] ⟨rfl, rfl, rfl, rfl, trivial⟩ (zl_cert (Z := fun w4 => zr kX12_freeAt 1 2 4 [some (.ref 161), some (.int x1), some (.int w4.1), some (.int w4.2)] [] (zS c s) _ _) (Y := (fun z => zr kX12_freeAt 1 2 48 [none, none, some (.int z), none] [] (zS c s) _ _)) (fun w o h1 h2 h3 => tX12_freeAt_B4 h1 h2 h3) n _ _ g11 ?_)
  show zr kX12_freeAt 1 2 48 [none, none, some (.int w10), none] [] (zS c s) _ _
  refine zr_many 1 (pc' := 49) (L' := [none, none, some (.int w10), none]) (st' := [.int w10]) (S1 := zS c s) rfl ?_
  obtain rfl := Option.some.inj h
  exact zq_iret rfl
def fX12_puts_B2 (n : Nat) (w2 : Int32 × zs) : Option ((Int32 × zs) ⊕ (zs)) := if (42 : Int32) ≤ w2.1 then some (Sum.inr w2.2) else cond (zi_in w2.1 42) (cond (zi_in w2.1 42) (some (Sum.inl ((w2.1 + (1 : Int32)), (zsi w2.2 170 w2.1.toNatClampNeg (w2.2.1 169 w2.1.toNatClampNeg))))) none) none
theorem tX12_puts_B2 {n : Nat} {c : Nat × Nat} {w2 : Int32 × zs} {o : _} {v : Option Value} {S' : zi_S} (h : fX12_puts_B2 n w2 = some o) (hn : ∀ w2, o = Sum.inl w2 → zr kX12_puts 0 0 2 [some (.ref 161), some (.int w2.1)] [] (zS c w2.2) v S') (hx : ∀ z, o = Sum.inr z → (fun z => zr kX12_puts 0 0 26 [none, none] [] (zS c z) v S') z) : zr kX12_puts 0 0 2 [some (.ref 161), some (.int w2.1)] [] (zS c w2.2) v S' := by
  unfold fX12_puts_B2 at h
  refine zr_many 2 (pc' := 5) (L' := [some (.ref 161), some (.int w2.1)]) (st' := [.int (42 : Int32), .int w2.1]) (S1 := zS c w2.2) rfl ?_
  refine zq_if2 (b := (42 : Int32) ≤ w2.1) rfl Iff.rfl rfl (fun g1 => ?_) (fun g1 => ?_)
  · rw [if_pos g1] at h
    obtain rfl := Option.some.inj h
    exact zr_wk [none, none] trivial (hx w2.2 rfl)
  · rw [if_neg g1] at h
    refine zr_many 1 (pc' := 9) (L' := [some (.ref 161), some (.int w2.1)]) (st' := [.ref 161]) (S1 := zS c w2.2) rfl ?_
    refine zq_get rfl (zh_161 _) rfl rfl rfl ?_
    refine zr_many 2 (pc' := 14) (L' := [some (.ref 161), some (.int w2.1)]) (st' := [.ref 161, .int w2.1, .ref 170]) (S1 := zS c w2.2) rfl ?_
    refine zq_get rfl (zh_161 _) rfl rfl rfl ?_
    refine zr_many 1 (pc' := 18) (L' := [some (.ref 161), some (.int w2.1)]) (st' := [.int w2.1, .ref 169, .int w2.1, .ref 170]) (S1 := zS c w2.2) rfl ?_
    obtain ⟨g2, h⟩ := zi_cond_inv h
    refine zq_ild rfl (zh_169 _) rfl g2 rfl ?_
    obtain ⟨g3, h⟩ := zi_cond_inv h
    refine zq_ist rfl zh_170 rfl g3 rfl ?_
    refine zr_many 2 (pc' := 2) (L' := [some (.ref 161), some (.int (w2.1 + (1 : Int32)))]) (st' := []) (S1 := zS c (zsi w2.2 170 w2.1.toNatClampNeg (w2.2.1 169 w2.1.toNatClampNeg))) rfl ?_
    obtain rfl := Option.some.inj h
    exact zr_wk [some (.ref 161), some (.int (w2.1 + (1 : Int32)))] ⟨rfl, rfl, trivial⟩ (hn ((w2.1 + (1 : Int32)), (zsi w2.2 170 w2.1.toNatClampNeg (w2.2.1 169 w2.1.toNatClampNeg))) rfl)
def fX12_puts (n : Nat) (s : zs) : Option zs := zp (zl (fX12_puts_B2 n) n ((0 : Int32), s)) (fun w4 => some w4)
theorem tX12_puts {n : Nat} {c : Nat × Nat} {s : zs} {s' : zs} (h : fX12_puts n s = some s') : zc 1 2481 [.ref 161] (zS c s) none (zS c s') := by
  refine zc_of (k := kX12_puts) (rt := 0) (L := [some (.ref 161), none]) zm_2481.1 rfl rfl (by decide) rfl rfl ?_
  unfold fX12_puts at h
  refine zr_many 2 (pc' := 2) (L' := [some (.ref 161), some (.int (0 : Int32))]) (st' := []) (S1 := zS c s) rfl ?_
  obtain ⟨w4, g5, h⟩ := zp_inv h
  refine zr_wk [some (.ref 161), some (.int (0 : Int32))] ⟨rfl, rfl, trivial⟩ (zl_cert (Z := fun w2 => zr kX12_puts 0 0 2 [some (.ref 161), some (.int w2.1)] [] (zS c w2.2) _ _) (Y := (fun z => zr kX12_puts 0 0 26 [none, none] [] (zS c z) _ _)) (fun w o h1 h2 h3 => tX12_puts_B2 h1 h2 h3) n _ _ g5 ?_)
  show zr kX12_puts 0 0 26 [none, none] [] (zS c w4) _ _
  obtain rfl := Option.some.inj h
  exact zq_vret rfl
def fX12_spot (n : Nat) (s : zs) (x0 : Int32) (x1 : Int32) (x2 : Int32) : Option Int32 := some (((((15 : Int32) * x0) + x1) * (2 : Int32)) + x2)
theorem tX12_spot {n : Nat} {c : Nat × Nat} {s : zs} {x0 : Int32} {x1 : Int32} {x2 : Int32} {r : Int32} (h : fX12_spot n s x0 x1 x2 = some r) : zc 1 2487 [.int x0, .int x1, .int x2] (zS c s) (some (.int r)) (zS c s) := by
  refine zc_of (k := kX12_spot) (rt := 1) (L := [some (.int x0), some (.int x1), some (.int x2)]) zm_2487.1 rfl rfl (by decide) rfl rfl ?_
  unfold fX12_spot at h
  refine zr_many 9 (pc' := 10) (L' := [some (.int x0), some (.int x1), some (.int x2)]) (st' := [.int (((((15 : Int32) * x0) + x1) * (2 : Int32)) + x2)]) (S1 := zS c s) rfl ?_
  obtain rfl := Option.some.inj h
  exact zq_iret rfl
def fX12_costOf_J18 (n : Nat) (s : zs) (y0 : Int32) (y1 : Int32) : Option Int32 := zp (fX12_flag n s y1) (fun r5 => some (y0 + r5))
theorem tX12_costOf_J18 {n : Nat} {c : Nat × Nat} {s : zs} {y0 : Int32} {y1 : Int32} {r : Int32} (h : fX12_costOf_J18 n s y0 y1 = some r) : zr kX12_costOf 1 1 18 [none, none] [.int y1, .int y0] (zS c s) (some (.int r)) (zS c s) := by
  unfold fX12_costOf_J18 at h
  obtain ⟨r5, g7, h⟩ := zp_inv h
  refine zq_scall1 rfl (by decide) rfl rfl (tX12_flag g7) rfl ?_
  refine zr_many 1 (pc' := 22) (L' := [none, none]) (st' := [.int (y0 + r5)]) (S1 := zS c s) rfl ?_
  obtain rfl := Option.some.inj h
  exact zq_iret rfl
def fX12_costOf (n : Nat) (s : zs) (x0 : Int32) (x1 : Int32) : Option Int32 := zp (fX12_waterFor n s x0 x1) (fun r1 => if ¬ x0 = x1 then fX12_costOf_J18 n s ((100 : Int32) * r1) (0 : Int32) else fX12_costOf_J18 n s ((100 : Int32) * r1) (1 : Int32))
theorem tX12_costOf {n : Nat} {c : Nat × Nat} {s : zs} {x0 : Int32} {x1 : Int32} {r : Int32} (h : fX12_costOf n s x0 x1 = some r) : zc 2 2488 [.int x0, .int x1] (zS c s) (some (.int r)) (zS c s) := by
  refine zc_of (k := kX12_costOf) (rt := 1) (L := [some (.int x0), some (.int x1)]) zm_2488.1 rfl rfl (by decide) rfl rfl ?_
  unfold fX12_costOf at h
  refine zr_many 3 (pc' := 4) (L' := [some (.int x0), some (.int x1)]) (st' := [.int x1, .int x0, .int (100 : Int32)]) (S1 := zS c s) rfl ?_
  obtain ⟨r1, g3, h⟩ := zp_inv h
  refine zq_scall1 rfl (by decide) rfl rfl (tX12_waterFor g3) rfl ?_
  refine zr_many 3 (pc' := 10) (L' := [some (.int x0), some (.int x1)]) (st' := [.int x1, .int x0, .int ((100 : Int32) * r1)]) (S1 := zS c s) rfl ?_
  refine zq_if2 (b := ¬ x0 = x1) rfl Iff.rfl rfl (fun g4 => ?_) (fun g4 => ?_)
  · rw [if_pos g4] at h
    refine zr_many 1 (pc' := 18) (L' := [some (.int x0), some (.int x1)]) (st' := [.int (0 : Int32), .int ((100 : Int32) * r1)]) (S1 := zS c s) rfl ?_
    exact zr_wk [none, none] trivial (tX12_costOf_J18 h)
  · rw [if_neg g4] at h
    refine zr_many 2 (pc' := 18) (L' := [some (.int x0), some (.int x1)]) (st' := [.int (1 : Int32), .int ((100 : Int32) * r1)]) (S1 := zS c s) rfl ?_
    exact zr_wk [none, none] trivial (tX12_costOf_J18 h)
def fX12_yetBy_J29 (n : Nat) (s : zs) (x1 : Int32) (x2 : Int32) (x3 : Int32) (x4 : Int32) : Option Int32 := zp (fX12_costOf n s x3 x4) (fun r3 => zp (fX12_spot n s (x1 + x4) ((x2 + (1 : Int32)) - x4) x4) (fun r6 => cond (zi_in r6 450) (some (r3 + (s.1 185 r6.toNatClampNeg))) none))
theorem tX12_yetBy_J29 {n : Nat} {c : Nat × Nat} {s : zs} {x1 : Int32} {x2 : Int32} {x3 : Int32} {x4 : Int32} {r : Int32} (h : fX12_yetBy_J29 n s x1 x2 x3 x4 = some r) : zr kX12_yetBy 1 2 29 [some (.ref 161), some (.int x1), some (.int x2), some (.int x3), some (.int x4)] [] (zS c s) (some (.int r)) (zS c s) := by
  unfold fX12_yetBy_J29 at h
  refine zr_many 2 (pc' := 32) (L' := [some (.ref 161), some (.int x1), some (.int x2), some (.int x3), some (.int x4)]) (st' := [.int x4, .int x3]) (S1 := zS c s) rfl ?_
  obtain ⟨r3, g5, h⟩ := zp_inv h
  refine zq_scall1 rfl (by decide) rfl rfl (tX12_costOf g5) rfl ?_
  refine zr_many 1 (pc' := 36) (L' := [some (.ref 161), some (.int x1), some (.int x2), some (.int x3), some (.int x4)]) (st' := [.ref 161, .int r3]) (S1 := zS c s) rfl ?_
  refine zq_get rfl (zh_161 _) rfl rfl rfl ?_
  refine zr_many 9 (pc' := 51) (L' := [some (.ref 161), some (.int x1), some (.int x2), some (.int x3), some (.int x4)]) (st' := [.int x4, .int ((x2 + (1 : Int32)) - x4), .int (x1 + x4), .ref 185, .int r3]) (S1 := zS c s) rfl ?_
  obtain ⟨r6, g8, h⟩ := zp_inv h
  refine zq_scall1 rfl (by decide) rfl rfl ((tX12_spot g8).up (by decide)) rfl ?_
  obtain ⟨g9, h⟩ := zi_cond_inv h
  refine zq_ild rfl (zh_185 _) rfl g9 rfl ?_
  refine zr_many 1 (pc' := 56) (L' := [some (.ref 161), some (.int x1), some (.int x2), some (.int x3), some (.int x4)]) (st' := [.int (r3 + (s.1 185 r6.toNatClampNeg))]) (S1 := zS c s) rfl ?_
  obtain rfl := Option.some.inj h
  exact zq_iret rfl
def fX12_yetBy_J25 (n : Nat) (s : zs) : Option Int32 := some (1000000 : Int32)
theorem tX12_yetBy_J25 {n : Nat} {c : Nat × Nat} {s : zs} {r : Int32} (h : fX12_yetBy_J25 n s = some r) : zr kX12_yetBy 1 2 25 [none, none, none, none, none] [] (zS c s) (some (.int r)) (zS c s) := by
  unfold fX12_yetBy_J25 at h
  refine zr_many 1 (pc' := 28) (L' := [none, none, none, none, none]) (st' := [.int (1000000 : Int32)]) (S1 := zS c s) rfl ?_
  obtain rfl := Option.some.inj h
  exact zq_iret rfl
def fX12_yetBy (n : Nat) (s : zs) (x1 : Int32) (x2 : Int32) (x3 : Int32) (x4 : Int32) : Option Int32 := if ¬ x4 = (1 : Int32) then if ¬ x2 = (s.1 161 43) then fX12_yetBy_J29 n s x1 x2 x3 x4 else fX12_yetBy_J25 n s else if ¬ x1 = (s.1 161 42) then fX12_yetBy_J29 n s x1 x2 x3 x4 else fX12_yetBy_J25 n s
theorem tX12_yetBy {n : Nat} {c : Nat × Nat} {s : zs} {x1 : Int32} {x2 : Int32} {x3 : Int32} {x4 : Int32} {r : Int32} (h : fX12_yetBy n s x1 x2 x3 x4 = some r) : zc 3 2489 [.ref 161, .int x1, .int x2, .int x3, .int x4] (zS c s) (some (.int r)) (zS c s) := by
  refine zc_of (k := kX12_yetBy) (rt := 1) (L := [some (.ref 161), some (.int x1), some (.int x2), some (.int x3), some (.int x4)]) zm_2489.1 rfl rfl (by decide) rfl rfl ?_
  unfold fX12_yetBy at h
  refine zr_many 2 (pc' := 3) (L' := [some (.ref 161), some (.int x1), some (.int x2), some (.int x3), some (.int x4)]) (st' := [.int (1 : Int32), .int x4]) (S1 := zS c s) rfl ?_
  refine zq_if2 (b := ¬ x4 = (1 : Int32)) rfl Iff.rfl rfl (fun g1 => ?_) (fun g1 => ?_)
  · rw [if_pos g1] at h
    refine zr_many 2 (pc' := 19) (L' := [some (.ref 161), some (.int x1), some (.int x2), some (.int x3), some (.int x4)]) (st' := [.ref 161, .int x2]) (S1 := zS c s) rfl ?_
    refine zq_get rfl (zh_161 _) rfl rfl rfl ?_
    refine zq_if2 (b := ¬ x2 = (s.1 161 43)) rfl Iff.rfl rfl (fun g2 => ?_) (fun g2 => ?_)
    · rw [if_pos g2] at h
      exact zr_wk [some (.ref 161), some (.int x1), some (.int x2), some (.int x3), some (.int x4)] ⟨rfl, rfl, rfl, rfl, rfl, trivial⟩ (tX12_yetBy_J29 h)
    · rw [if_neg g2] at h
      exact zr_wk [none, none, none, none, none] trivial (tX12_yetBy_J25 h)
  · rw [if_neg g1] at h
    refine zr_many 2 (pc' := 8) (L' := [some (.ref 161), some (.int x1), some (.int x2), some (.int x3), some (.int x4)]) (st' := [.ref 161, .int x1]) (S1 := zS c s) rfl ?_
    refine zq_get rfl (zh_161 _) rfl rfl rfl ?_
    refine zq_if2 (b := ¬ x1 = (s.1 161 42)) rfl Iff.rfl rfl (fun g10 => ?_) (fun g10 => ?_)
    · rw [if_pos g10] at h
      exact zr_wk [some (.ref 161), some (.int x1), some (.int x2), some (.int x3), some (.int x4)] ⟨rfl, rfl, rfl, rfl, rfl, trivial⟩ (tX12_yetBy_J29 h)
    · rw [if_neg g10] at h
      refine zr_many 1 (pc' := 25) (L' := [some (.ref 161), some (.int x1), some (.int x2), some (.int x3), some (.int x4)]) (st' := []) (S1 := zS c s) rfl ?_
      exact zr_wk [none, none, none, none, none] trivial (tX12_yetBy_J25 h)
def fX12_laysQueue_J78 (n : Nat) (s : zs) (x1 : Int32) (x2 : Int32) (x3 : Int32) (y1 : Int32) (y2 : Int32) : Option ((Int32 × zs) ⊕ (zs)) := cond (zi_in y1 450) (some (Sum.inl ((x3 + (1 : Int32)), (zsi s 185 y1.toNatClampNeg y2)))) none
theorem tX12_laysQueue_J78 {n : Nat} {c : Nat × Nat} {s : zs} {x1 : Int32} {x2 : Int32} {x3 : Int32} {y1 : Int32} {y2 : Int32} {o : _} {v : Option Value} {S' : zi_S} (h : fX12_laysQueue_J78 n s x1 x2 x3 y1 y2 = some o) (hn : ∀ w20, o = Sum.inl w20 → zr kX12_laysQueue 0 3 20 [some (.ref 161), some (.int x1), some (.int x2), some (.int w20.1), none] [] (zS c w20.2) v S') (hx : ∀ z, o = Sum.inr z → (fun z => zr kX12_laysQueue 0 3 85 [some (.ref 161), some (.int x1), some (.int x2), none, none] [] (zS c z) v S') z) : zr kX12_laysQueue 0 3 78 [some (.ref 161), some (.int x1), some (.int x2), some (.int x3), none] [.int y2, .int y1, .ref 185] (zS c s) v S' := by
  unfold fX12_laysQueue_J78 at h
  obtain ⟨g14, h⟩ := zi_cond_inv h
  refine zq_ist rfl zh_185 rfl g14 rfl ?_
  refine zr_many 2 (pc' := 20) (L' := [some (.ref 161), some (.int x1), some (.int x2), some (.int (x3 + (1 : Int32))), none]) (st' := []) (S1 := zS c (zsi s 185 y1.toNatClampNeg y2)) rfl ?_
  obtain rfl := Option.some.inj h
  exact zr_wk [some (.ref 161), some (.int x1), some (.int x2), some (.int (x3 + (1 : Int32))), none] ⟨rfl, rfl, rfl, rfl, trivial⟩ (hn ((x3 + (1 : Int32)), (zsi s 185 y1.toNatClampNeg y2)) rfl)
def fX12_laysQueue_J76 (n : Nat) (s : zs) (x1 : Int32) (x2 : Int32) (x3 : Int32) (x4 : Int32) (y1 : Int32) : Option ((Int32 × zs) ⊕ (zs)) := fX12_laysQueue_J78 n s x1 x2 x3 y1 x4
theorem tX12_laysQueue_J76 {n : Nat} {c : Nat × Nat} {s : zs} {x1 : Int32} {x2 : Int32} {x3 : Int32} {x4 : Int32} {y1 : Int32} {o : _} {v : Option Value} {S' : zi_S} (h : fX12_laysQueue_J76 n s x1 x2 x3 x4 y1 = some o) (hn : ∀ w20, o = Sum.inl w20 → zr kX12_laysQueue 0 3 20 [some (.ref 161), some (.int x1), some (.int x2), some (.int w20.1), none] [] (zS c w20.2) v S') (hx : ∀ z, o = Sum.inr z → (fun z => zr kX12_laysQueue 0 3 85 [some (.ref 161), some (.int x1), some (.int x2), none, none] [] (zS c z) v S') z) : zr kX12_laysQueue 0 3 76 [some (.ref 161), some (.int x1), some (.int x2), some (.int x3), some (.int x4)] [.int y1, .ref 185] (zS c s) v S' := by
  unfold fX12_laysQueue_J76 at h
  refine zr_many 1 (pc' := 78) (L' := [some (.ref 161), some (.int x1), some (.int x2), some (.int x3), some (.int x4)]) (st' := [.int x4, .int y1, .ref 185]) (S1 := zS c s) rfl ?_
  exact zr_wk [some (.ref 161), some (.int x1), some (.int x2), some (.int x3), none] ⟨rfl, rfl, rfl, rfl, trivial⟩ (tX12_laysQueue_J78 h hn hx)
def fX12_laysQueue_B20 (n : Nat) (x1 : Int32) (x2 : Int32) (w20 : Int32 × zs) : Option ((Int32 × zs) ⊕ (zs)) := if (2 : Int32) ≤ w20.1 then some (Sum.inr w20.2) else zp (fX12_yetBy n w20.2 x1 x2 w20.1 (0 : Int32)) (fun r4 => zp (fX12_yetBy n w20.2 x1 x2 w20.1 (1 : Int32)) (fun r7 => zp (fX12_spot n w20.2 x1 x2 w20.1) (fun r10 => if ¬ x1 = (w20.2.1 161 42) then fX12_laysQueue_J76 n w20.2 x1 x2 w20.1 (if r7 < r4 then r7 else r4) r10 else if ¬ x2 = (w20.2.1 161 43) then fX12_laysQueue_J76 n w20.2 x1 x2 w20.1 (if r7 < r4 then r7 else r4) r10 else fX12_laysQueue_J78 n w20.2 x1 x2 w20.1 r10 (0 : Int32))))
theorem tX12_laysQueue_B20 {n : Nat} {c : Nat × Nat} {x1 : Int32} {x2 : Int32} {w20 : Int32 × zs} {o : _} {v : Option Value} {S' : zi_S} (h : fX12_laysQueue_B20 n x1 x2 w20 = some o) (hn : ∀ w20, o = Sum.inl w20 → zr kX12_laysQueue 0 3 20 [some (.ref 161), some (.int x1), some (.int x2), some (.int w20.1), none] [] (zS c w20.2) v S') (hx : ∀ z, o = Sum.inr z → (fun z => zr kX12_laysQueue 0 3 85 [some (.ref 161), some (.int x1), some (.int x2), none, none] [] (zS c z) v S') z) : zr kX12_laysQueue 0 3 20 [some (.ref 161), some (.int x1), some (.int x2), some (.int w20.1), none] [] (zS c w20.2) v S' := by
  unfold fX12_laysQueue_B20 at h
  refine zr_many 2 (pc' := 22) (L' := [some (.ref 161), some (.int x1), some (.int x2), some (.int w20.1), none]) (st' := [.int (2 : Int32), .int w20.1]) (S1 := zS c w20.2) rfl ?_
  refine zq_if2 (b := (2 : Int32) ≤ w20.1) rfl Iff.rfl rfl (fun g3 => ?_) (fun g3 => ?_)
  · rw [if_pos g3] at h
    obtain rfl := Option.some.inj h
    exact zr_wk [some (.ref 161), some (.int x1), some (.int x2), none, none] ⟨rfl, rfl, rfl, trivial⟩ (hx w20.2 rfl)
  · rw [if_neg g3] at h
    refine zr_many 5 (pc' := 30) (L' := [some (.ref 161), some (.int x1), some (.int x2), some (.int w20.1), none]) (st' := [.int (0 : Int32), .int w20.1, .int x2, .int x1, .ref 161]) (S1 := zS c w20.2) rfl ?_
    obtain ⟨r4, g6, h⟩ := zp_inv h
    refine zq_call1 rfl rfl (zh_161 _) rfl rfl rfl (tX12_yetBy g6) rfl ?_
    refine zr_many 5 (pc' := 38) (L' := [some (.ref 161), some (.int x1), some (.int x2), some (.int w20.1), none]) (st' := [.int (1 : Int32), .int w20.1, .int x2, .int x1, .ref 161, .int r4]) (S1 := zS c w20.2) rfl ?_
    obtain ⟨r7, g9, h⟩ := zp_inv h
    refine zq_call1 rfl rfl (zh_161 _) rfl rfl rfl (tX12_yetBy g9) rfl ?_
    refine zr_many 3 (pc' := 47) (L' := [some (.ref 161), some (.int x1), some (.int x2), some (.int w20.1), some (.int (if r7 < r4 then r7 else r4))]) (st' := [.ref 161]) (S1 := zS c w20.2) rfl ?_
    refine zq_get rfl (zh_161 _) rfl rfl rfl ?_
    refine zr_many 3 (pc' := 53) (L' := [some (.ref 161), some (.int x1), some (.int x2), some (.int w20.1), some (.int (if r7 < r4 then r7 else r4))]) (st' := [.int w20.1, .int x2, .int x1, .ref 185]) (S1 := zS c w20.2) rfl ?_
    obtain ⟨r10, g12, h⟩ := zp_inv h
    refine zq_scall1 rfl (by decide) rfl rfl ((tX12_spot g12).up (by decide)) rfl ?_
    refine zr_many 2 (pc' := 58) (L' := [some (.ref 161), some (.int x1), some (.int x2), some (.int w20.1), some (.int (if r7 < r4 then r7 else r4))]) (st' := [.ref 161, .int x1, .int r10, .ref 185]) (S1 := zS c w20.2) rfl ?_
    refine zq_get rfl (zh_161 _) rfl rfl rfl ?_
    refine zq_if2 (b := ¬ x1 = (w20.2.1 161 42)) rfl Iff.rfl rfl (fun g13 => ?_) (fun g13 => ?_)
    · rw [if_pos g13] at h
      exact zr_wk [some (.ref 161), some (.int x1), some (.int x2), some (.int w20.1), some (.int (if r7 < r4 then r7 else r4))] ⟨rfl, rfl, rfl, rfl, rfl, trivial⟩ (tX12_laysQueue_J76 h hn hx)
    · rw [if_neg g13] at h
      refine zr_many 2 (pc' := 66) (L' := [some (.ref 161), some (.int x1), some (.int x2), some (.int w20.1), some (.int (if r7 < r4 then r7 else r4))]) (st' := [.ref 161, .int x2, .int r10, .ref 185]) (S1 := zS c w20.2) rfl ?_
      refine zq_get rfl (zh_161 _) rfl rfl rfl ?_
      refine zq_if2 (b := ¬ x2 = (w20.2.1 161 43)) rfl Iff.rfl rfl (fun g15 => ?_) (fun g15 => ?_)
      · rw [if_pos g15] at h
        exact zr_wk [some (.ref 161), some (.int x1), some (.int x2), some (.int w20.1), some (.int (if r7 < r4 then r7 else r4))] ⟨rfl, rfl, rfl, rfl, rfl, trivial⟩ (tX12_laysQueue_J76 h hn hx)
      · rw [if_neg g15] at h
        refine zr_many 2 (pc' := 78) (L' := [some (.ref 161), some (.int x1), some (.int x2), some (.int w20.1), some (.int (if r7 < r4 then r7 else r4))]) (st' := [.int (0 : Int32), .int r10, .ref 185]) (S1 := zS c w20.2) rfl ?_
        exact zr_wk [some (.ref 161), some (.int x1), some (.int x2), some (.int w20.1), none] ⟨rfl, rfl, rfl, rfl, trivial⟩ (tX12_laysQueue_J78 h hn hx)
def fX12_laysQueue_B14 (n : Nat) (x1 : Int32) (w14 : Int32 × zs) : Option ((Int32 × zs) ⊕ (zs)) := if w14.1 < 0 then some (Sum.inr w14.2) else zp (zl (fX12_laysQueue_B20 n x1 w14.1) n ((0 : Int32), w14.2)) (fun w16 => some (Sum.inl ((w14.1 + (-1 : Int32)), w16)))
theorem tX12_laysQueue_B14 {n : Nat} {c : Nat × Nat} {x1 : Int32} {w14 : Int32 × zs} {o : _} {v : Option Value} {S' : zi_S} (h : fX12_laysQueue_B14 n x1 w14 = some o) (hn : ∀ w14, o = Sum.inl w14 → zr kX12_laysQueue 0 3 14 [some (.ref 161), some (.int x1), some (.int w14.1), none, none] [] (zS c w14.2) v S') (hx : ∀ z, o = Sum.inr z → (fun z => zr kX12_laysQueue 0 3 91 [some (.ref 161), some (.int x1), none, none, none] [] (zS c z) v S') z) : zr kX12_laysQueue 0 3 14 [some (.ref 161), some (.int x1), some (.int w14.1), none, none] [] (zS c w14.2) v S' := by
  unfold fX12_laysQueue_B14 at h
  refine zr_many 1 (pc' := 15) (L' := [some (.ref 161), some (.int x1), some (.int w14.1), none, none]) (st' := [.int w14.1]) (S1 := zS c w14.2) rfl ?_
  refine zq_if1 (b := w14.1 < 0) rfl Iff.rfl rfl (fun g2 => ?_) (fun g2 => ?_)
  · rw [if_pos g2] at h
    obtain rfl := Option.some.inj h
    exact zr_wk [some (.ref 161), some (.int x1), none, none, none] ⟨rfl, rfl, trivial⟩ (hx w14.2 rfl)
  · rw [if_neg g2] at h
    refine zr_many 2 (pc' := 20) (L' := [some (.ref 161), some (.int x1), some (.int w14.1), some (.int (0 : Int32)), none]) (st' := []) (S1 := zS c w14.2) rfl ?_
    obtain ⟨w16, g17, h⟩ := zp_inv h
    refine zr_wk [some (.ref 161), some (.int x1), some (.int w14.1), some (.int (0 : Int32)), none] ⟨rfl, rfl, rfl, rfl, trivial⟩ (zl_cert (Z := fun w20 => zr kX12_laysQueue 0 3 20 [some (.ref 161), some (.int x1), some (.int w14.1), some (.int w20.1), none] [] (zS c w20.2) _ _) (Y := (fun z => zr kX12_laysQueue 0 3 85 [some (.ref 161), some (.int x1), some (.int w14.1), none, none] [] (zS c z) _ _)) (fun w o h1 h2 h3 => tX12_laysQueue_B20 h1 h2 h3) n _ _ g17 ?_)
    show zr kX12_laysQueue 0 3 85 [some (.ref 161), some (.int x1), some (.int w14.1), none, none] [] (zS c w16) _ _
    refine zr_many 2 (pc' := 14) (L' := [some (.ref 161), some (.int x1), some (.int (w14.1 + (-1 : Int32))), none, none]) (st' := []) (S1 := zS c w16) rfl ?_
    obtain rfl := Option.some.inj h
    exact zr_wk [some (.ref 161), some (.int x1), some (.int (w14.1 + (-1 : Int32))), none, none] ⟨rfl, rfl, rfl, trivial⟩ (hn ((w14.1 + (-1 : Int32)), w16) rfl)
def fX12_laysQueue_B5 (n : Nat) (w5 : Int32 × zs) : Option ((Int32 × zs) ⊕ (zs)) := if w5.1 < 0 then some (Sum.inr w5.2) else zp (zl (fX12_laysQueue_B14 n w5.1) n ((w5.2.1 161 43), w5.2)) (fun w18 => some (Sum.inl ((w5.1 + (-1 : Int32)), w18)))
theorem tX12_laysQueue_B5 {n : Nat} {c : Nat × Nat} {w5 : Int32 × zs} {o : _} {v : Option Value} {S' : zi_S} (h : fX12_laysQueue_B5 n w5 = some o) (hn : ∀ w5, o = Sum.inl w5 → zr kX12_laysQueue 0 3 5 [some (.ref 161), some (.int w5.1), none, none, none] [] (zS c w5.2) v S') (hx : ∀ z, o = Sum.inr z → (fun z => zr kX12_laysQueue 0 3 97 [none, none, none, none, none] [] (zS c z) v S') z) : zr kX12_laysQueue 0 3 5 [some (.ref 161), some (.int w5.1), none, none, none] [] (zS c w5.2) v S' := by
  unfold fX12_laysQueue_B5 at h
  refine zr_many 1 (pc' := 6) (L' := [some (.ref 161), some (.int w5.1), none, none, none]) (st' := [.int w5.1]) (S1 := zS c w5.2) rfl ?_
  refine zq_if1 (b := w5.1 < 0) rfl Iff.rfl rfl (fun g1 => ?_) (fun g1 => ?_)
  · rw [if_pos g1] at h
    obtain rfl := Option.some.inj h
    exact zr_wk [none, none, none, none, none] trivial (hx w5.2 rfl)
  · rw [if_neg g1] at h
    refine zr_many 1 (pc' := 10) (L' := [some (.ref 161), some (.int w5.1), none, none, none]) (st' := [.ref 161]) (S1 := zS c w5.2) rfl ?_
    refine zq_get rfl (zh_161 _) rfl rfl rfl ?_
    refine zr_many 1 (pc' := 14) (L' := [some (.ref 161), some (.int w5.1), some (.int (w5.2.1 161 43)), none, none]) (st' := []) (S1 := zS c w5.2) rfl ?_
    obtain ⟨w18, g19, h⟩ := zp_inv h
    refine zr_wk [some (.ref 161), some (.int w5.1), some (.int (w5.2.1 161 43)), none, none] ⟨rfl, rfl, rfl, trivial⟩ (zl_cert (Z := fun w14 => zr kX12_laysQueue 0 3 14 [some (.ref 161), some (.int w5.1), some (.int w14.1), none, none] [] (zS c w14.2) _ _) (Y := (fun z => zr kX12_laysQueue 0 3 91 [some (.ref 161), some (.int w5.1), none, none, none] [] (zS c z) _ _)) (fun w o h1 h2 h3 => tX12_laysQueue_B14 h1 h2 h3) n _ _ g19 ?_)
    show zr kX12_laysQueue 0 3 91 [some (.ref 161), some (.int w5.1), none, none, none] [] (zS c w18) _ _
    refine zr_many 2 (pc' := 5) (L' := [some (.ref 161), some (.int (w5.1 + (-1 : Int32))), none, none, none]) (st' := []) (S1 := zS c w18) rfl ?_
    obtain rfl := Option.some.inj h
    exact zr_wk [some (.ref 161), some (.int (w5.1 + (-1 : Int32))), none, none, none] ⟨rfl, rfl, trivial⟩ (hn ((w5.1 + (-1 : Int32)), w18) rfl)
def fX12_laysQueue (n : Nat) (s : zs) : Option zs := zp (zl (fX12_laysQueue_B5 n) n ((s.1 161 42), s)) (fun w20 => some w20)
theorem tX12_laysQueue {n : Nat} {c : Nat × Nat} {s : zs} {s' : zs} (h : fX12_laysQueue n s = some s') : zc 4 2490 [.ref 161] (zS c s) none (zS c s') := by
  refine zc_of (k := kX12_laysQueue) (rt := 0) (L := [some (.ref 161), none, none, none, none]) zm_2490.1 rfl rfl (by decide) rfl rfl ?_
  unfold fX12_laysQueue at h
  refine zr_many 1 (pc' := 1) (L' := [some (.ref 161), none, none, none, none]) (st' := [.ref 161]) (S1 := zS c s) rfl ?_
  refine zq_get rfl (zh_161 _) rfl rfl rfl ?_
  refine zr_many 1 (pc' := 5) (L' := [some (.ref 161), some (.int (s.1 161 42)), none, none, none]) (st' := []) (S1 := zS c s) rfl ?_
  obtain ⟨w20, g21, h⟩ := zp_inv h
  refine zr_wk [some (.ref 161), some (.int (s.1 161 42)), none, none, none] ⟨rfl, rfl, trivial⟩ (zl_cert (Z := fun w5 => zr kX12_laysQueue 0 3 5 [some (.ref 161), some (.int w5.1), none, none, none] [] (zS c w5.2) _ _) (Y := (fun z => zr kX12_laysQueue 0 3 97 [none, none, none, none, none] [] (zS c z) _ _)) (fun w o h1 h2 h3 => tX12_laysQueue_B5 h1 h2 h3) n _ _ g21 ?_)
  show zr kX12_laysQueue 0 3 97 [none, none, none, none, none] [] (zS c w20) _ _
  obtain rfl := Option.some.inj h
  exact zq_vret rfl
def fX12_heard_J36 (n : Nat) (s : zs) : Option (Int32 × zs) := some ((-1 : Int32), s)
theorem tX12_heard_J36 {n : Nat} {c : Nat × Nat} {s : zs} {r : Int32} {s' : zs} (h : fX12_heard_J36 n s = some (r, s')) : zr kX12_heard 1 1 36 [none, none, none] [] (zS c s) (some (.int r)) (zS c s') := by
  unfold fX12_heard_J36 at h
  refine zr_many 1 (pc' := 37) (L' := [none, none, none]) (st' := [.int (-1 : Int32)]) (S1 := zS c s) rfl ?_
  obtain ⟨rfl, rfl⟩ := Prod.mk.inj (Option.some.inj h)
  exact zq_iret rfl
def fX12_heard (n : Nat) (s : zs) (x1 : Int32) (x2 : Int32) : Option (Int32 × zs) := zp (fX12_in n (zsi s 161 0 (0 : Int32)) x1.toInt64 (0 : Int64) (25 : Int64)) (fun r1 => if r1 = 0 then fX12_heard_J36 n (zsi s 161 0 (0 : Int32)) else zp (fX12_in n (zsi s 161 0 (0 : Int32)) x2.toInt64 (0 : Int64) (1 : Int64)) (fun r5 => if r5 = 0 then fX12_heard_J36 n (zsi s 161 0 (0 : Int32)) else if ¬ ((zsi s 161 0 (0 : Int32)).1 161 45) = (12 : Int32) then zt (zsi s 161 0 (0 : Int32)) (fun s10 => cond (zi_in (s10.1 161 45) 12) (zt (zsi s10 186 (s10.1 161 45).toNatClampNeg x1) (fun s12 => cond (zi_in (s12.1 161 45) 12) (zt (zsi s12 187 (s12.1 161 45).toNatClampNeg x2) (fun s14 => some (((zsi s14 161 45 ((s14.1 161 45) + (1 : Int32))).1 161 45), (zsi s14 161 45 ((s14.1 161 45) + (1 : Int32)))))) none)) none) else fX12_heard_J36 n (zsi s 161 0 (0 : Int32))))
theorem tX12_heard {n : Nat} {c : Nat × Nat} {s : zs} {x1 : Int32} {x2 : Int32} {r : Int32} {s' : zs} (h : fX12_heard n s x1 x2 = some (r, s')) : zc 2 2494 [.ref 161, .int x1, .int x2] (zS c s) (some (.int r)) (zS c s') := by
  refine zc_of (k := kX12_heard) (rt := 1) (L := [some (.ref 161), some (.int x1), some (.int x2)]) zm_2494.1 rfl rfl (by decide) rfl rfl ?_
  unfold fX12_heard at h
  refine zr_many 2 (pc' := 2) (L' := [some (.ref 161), some (.int x1), some (.int x2)]) (st' := [.int (0 : Int32), .ref 161]) (S1 := zS c s) rfl ?_
  refine zq_put (s' := (zsi s 161 0 (0 : Int32))) rfl (zh_161 _) rfl rfl rfl rfl zsi_ne rfl ?_
  refine zr_many 4 (pc' := 11) (L' := [some (.ref 161), some (.int x1), some (.int x2)]) (st' := [.long (25 : Int64), .long (0 : Int64), .long x1.toInt64]) (S1 := zS c (zsi s 161 0 (0 : Int32))) rfl ?_
  obtain ⟨r1, g3, h⟩ := zp_inv h
  refine zq_scall1 rfl (by decide) rfl rfl (tX12_in g3) rfl ?_
  refine zq_if1 (b := r1 = 0) rfl Iff.rfl rfl (fun g4 => ?_) (fun g4 => ?_)
  · rw [if_pos g4] at h
    exact zr_wk [none, none, none] trivial (tX12_heard_J36 h)
  · rw [if_neg g4] at h
    refine zr_many 4 (pc' := 21) (L' := [some (.ref 161), some (.int x1), some (.int x2)]) (st' := [.long (1 : Int64), .long (0 : Int64), .long x2.toInt64]) (S1 := zS c (zsi s 161 0 (0 : Int32))) rfl ?_
    obtain ⟨r5, g7, h⟩ := zp_inv h
    refine zq_scall1 rfl (by decide) rfl rfl (tX12_in g7) rfl ?_
    refine zq_if1 (b := r5 = 0) rfl Iff.rfl rfl (fun g8 => ?_) (fun g8 => ?_)
    · rw [if_pos g8] at h
      exact zr_wk [none, none, none] trivial (tX12_heard_J36 h)
    · rw [if_neg g8] at h
      refine zr_many 1 (pc' := 28) (L' := [some (.ref 161), some (.int x1), some (.int x2)]) (st' := [.ref 161]) (S1 := zS c (zsi s 161 0 (0 : Int32))) rfl ?_
      refine zq_get rfl (zh_161 _) rfl rfl rfl ?_
      refine zr_many 1 (pc' := 33) (L' := [some (.ref 161), some (.int x1), some (.int x2)]) (st' := [.int (12 : Int32), .int ((zsi s 161 0 (0 : Int32)).1 161 45)]) (S1 := zS c (zsi s 161 0 (0 : Int32))) rfl ?_
      refine zq_if2 (b := ¬ ((zsi s 161 0 (0 : Int32)).1 161 45) = (12 : Int32)) rfl Iff.rfl rfl (fun g9 => ?_) (fun g9 => ?_)
      · rw [if_pos g9] at h
        refine zr_many 1 (pc' := 39) (L' := [some (.ref 161), some (.int x1), some (.int x2)]) (st' := [.ref 161]) (S1 := zS c (zsi s 161 0 (0 : Int32))) rfl ?_
        refine zq_get rfl (zh_161 _) rfl rfl rfl ?_
        refine zr_many 1 (pc' := 43) (L' := [some (.ref 161), some (.int x1), some (.int x2)]) (st' := [.ref 161, .ref 186]) (S1 := zS c (zsi s 161 0 (0 : Int32))) rfl ?_
        refine zq_get rfl (zh_161 _) rfl rfl rfl ?_
        refine zr_many 1 (pc' := 47) (L' := [some (.ref 161), some (.int x1), some (.int x2)]) (st' := [.int x1, .int ((zsi s 161 0 (0 : Int32)).1 161 45), .ref 186]) (S1 := zS c (zsi s 161 0 (0 : Int32))) rfl ?_
        obtain ⟨s10, e11, h⟩ := zt_in h
        rw [← e11]
        obtain ⟨g16, h⟩ := zi_cond_inv h
        refine zq_ist rfl zh_186 rfl g16 rfl ?_
        refine zr_many 1 (pc' := 49) (L' := [some (.ref 161), some (.int x1), some (.int x2)]) (st' := [.ref 161]) (S1 := zS c (zsi s10 186 (s10.1 161 45).toNatClampNeg x1)) rfl ?_
        refine zq_get rfl (zh_161 _) rfl rfl rfl ?_
        refine zr_many 1 (pc' := 53) (L' := [some (.ref 161), some (.int x1), some (.int x2)]) (st' := [.ref 161, .ref 187]) (S1 := zS c (zsi s10 186 (s10.1 161 45).toNatClampNeg x1)) rfl ?_
        refine zq_get rfl (zh_161 _) rfl rfl rfl ?_
        refine zr_many 1 (pc' := 57) (L' := [some (.ref 161), some (.int x1), some (.int x2)]) (st' := [.int x2, .int ((zsi s10 186 (s10.1 161 45).toNatClampNeg x1).1 161 45), .ref 187]) (S1 := zS c (zsi s10 186 (s10.1 161 45).toNatClampNeg x1)) rfl ?_
        obtain ⟨s12, e13, h⟩ := zt_in h
        rw [← e13]
        obtain ⟨g17, h⟩ := zi_cond_inv h
        refine zq_ist rfl zh_187 rfl g17 rfl ?_
        refine zr_many 2 (pc' := 60) (L' := [some (.ref 161), some (.int x1), some (.int x2)]) (st' := [.ref 161, .ref 161]) (S1 := zS c (zsi s12 187 (s12.1 161 45).toNatClampNeg x2)) rfl ?_
        refine zq_get rfl (zh_161 _) rfl rfl rfl ?_
        refine zr_many 2 (pc' := 65) (L' := [some (.ref 161), some (.int x1), some (.int x2)]) (st' := [.int (((zsi s12 187 (s12.1 161 45).toNatClampNeg x2).1 161 45) + (1 : Int32)), .ref 161]) (S1 := zS c (zsi s12 187 (s12.1 161 45).toNatClampNeg x2)) rfl ?_
        obtain ⟨s14, e15, h⟩ := zt_in h
        rw [← e15]
        refine zq_put (s' := (zsi s14 161 45 ((s14.1 161 45) + (1 : Int32)))) rfl (zh_161 _) rfl rfl rfl rfl zsi_ne rfl ?_
        refine zr_many 1 (pc' := 69) (L' := [some (.ref 161), some (.int x1), some (.int x2)]) (st' := [.ref 161]) (S1 := zS c (zsi s14 161 45 ((s14.1 161 45) + (1 : Int32)))) rfl ?_
        refine zq_get rfl (zh_161 _) rfl rfl rfl ?_
        obtain ⟨rfl, rfl⟩ := Prod.mk.inj (Option.some.inj h)
        exact zq_iret rfl
      · rw [if_neg g9] at h
        exact zr_wk [none, none, none] trivial (tX12_heard_J36 h)
def fX12_forget (n : Nat) (s : zs) : Option (Int32 × zs) := zt (zsi s 161 0 (0 : Int32)) (fun s1 => some ((s1.1 161 45), (zsi s1 161 45 (0 : Int32))))
theorem tX12_forget {n : Nat} {c : Nat × Nat} {s : zs} {r : Int32} {s' : zs} (h : fX12_forget n s = some (r, s')) : zc 1 2495 [.ref 161] (zS c s) (some (.int r)) (zS c s') := by
  refine zc_of (k := kX12_forget) (rt := 1) (L := [some (.ref 161), none]) zm_2495.1 rfl rfl (by decide) rfl rfl ?_
  unfold fX12_forget at h
  refine zr_many 2 (pc' := 2) (L' := [some (.ref 161), none]) (st' := [.int (0 : Int32), .ref 161]) (S1 := zS c s) rfl ?_
  refine zq_put (s' := (zsi s 161 0 (0 : Int32))) rfl (zh_161 _) rfl rfl rfl rfl zsi_ne rfl ?_
  refine zr_many 1 (pc' := 6) (L' := [some (.ref 161), none]) (st' := [.ref 161]) (S1 := zS c (zsi s 161 0 (0 : Int32))) rfl ?_
  refine zq_get rfl (zh_161 _) rfl rfl rfl ?_
  refine zr_many 3 (pc' := 12) (L' := [some (.ref 161), some (.int ((zsi s 161 0 (0 : Int32)).1 161 45))]) (st' := [.int (0 : Int32), .ref 161]) (S1 := zS c (zsi s 161 0 (0 : Int32))) rfl ?_
  obtain ⟨s1, e2, h⟩ := zt_in h
  rw [← e2]
  refine zq_put (s' := (zsi s1 161 45 (0 : Int32))) rfl (zh_161 _) rfl rfl rfl rfl zsi_ne rfl ?_
  refine zr_many 1 (pc' := 16) (L' := [some (.ref 161), some (.int (s1.1 161 45))]) (st' := [.int (s1.1 161 45)]) (S1 := zS c (zsi s1 161 45 (0 : Int32))) rfl ?_
  obtain ⟨rfl, rfl⟩ := Prod.mk.inj (Option.some.inj h)
  exact zq_iret rfl
def fX12_singersOf_J42 (n : Nat) (s : zs) (x1 : Int32) (x3 : Int32) (y0 : Int32) (y1 : Int32) : Option ((Int32 × Int32) ⊕ (Int32)) := some (Sum.inl ((y0 ||| y1), (x3 + (1 : Int32))))
theorem tX12_singersOf_J42 {n : Nat} {c : Nat × Nat} {s : zs} {x1 : Int32} {x3 : Int32} {y0 : Int32} {y1 : Int32} {o : _} {v : Option Value} {S' : zi_S} (h : fX12_singersOf_J42 n s x1 x3 y0 y1 = some o) (hn : ∀ w4, o = Sum.inl w4 → zr kX12_singersOf 1 1 4 [some (.ref 161), some (.int x1), some (.int w4.1), some (.int w4.2)] [] (zS c s) v S') (hx : ∀ z, o = Sum.inr z → (fun z => zr kX12_singersOf 1 1 50 [none, none, some (.int z), none] [] (zS c s) v S') z) : zr kX12_singersOf 1 1 42 [some (.ref 161), some (.int x1), none, some (.int x3)] [.int y1, .int y0] (zS c s) v S' := by
  unfold fX12_singersOf_J42 at h
  refine zr_many 4 (pc' := 4) (L' := [some (.ref 161), some (.int x1), some (.int (y0 ||| y1)), some (.int (x3 + (1 : Int32)))]) (st' := []) (S1 := zS c s) rfl ?_
  obtain rfl := Option.some.inj h
  exact zr_wk [some (.ref 161), some (.int x1), some (.int (y0 ||| y1)), some (.int (x3 + (1 : Int32)))] ⟨rfl, rfl, rfl, rfl, trivial⟩ (hn ((y0 ||| y1), (x3 + (1 : Int32))) rfl)
def fX12_singersOf_B4 (n : Nat) (s : zs) (x1 : Int32) (w4 : Int32 × Int32) : Option ((Int32 × Int32) ⊕ (Int32)) := if (s.1 161 4) ≤ w4.2 then some (Sum.inr w4.1) else cond (zi_in w4.2 8) (cond (zi_in w4.2 8) (zp (fX12_in n s x1.toInt64 ((s.1 165 w4.2.toNatClampNeg).toInt64) ((s.1 166 w4.2.toNatClampNeg).toInt64)) (fun r4 => if r4 = 0 then fX12_singersOf_J42 n s x1 w4.2 w4.1 (0 : Int32) else fX12_singersOf_J42 n s x1 w4.2 w4.1 ((1 : Int32) <<< (w4.2 &&& 31)))) none) none
theorem tX12_singersOf_B4 {n : Nat} {c : Nat × Nat} {s : zs} {x1 : Int32} {w4 : Int32 × Int32} {o : _} {v : Option Value} {S' : zi_S} (h : fX12_singersOf_B4 n s x1 w4 = some o) (hn : ∀ w4, o = Sum.inl w4 → zr kX12_singersOf 1 1 4 [some (.ref 161), some (.int x1), some (.int w4.1), some (.int w4.2)] [] (zS c s) v S') (hx : ∀ z, o = Sum.inr z → (fun z => zr kX12_singersOf 1 1 50 [none, none, some (.int z), none] [] (zS c s) v S') z) : zr kX12_singersOf 1 1 4 [some (.ref 161), some (.int x1), some (.int w4.1), some (.int w4.2)] [] (zS c s) v S' := by
  unfold fX12_singersOf_B4 at h
  refine zr_many 2 (pc' := 6) (L' := [some (.ref 161), some (.int x1), some (.int w4.1), some (.int w4.2)]) (st' := [.ref 161, .int w4.2]) (S1 := zS c s) rfl ?_
  refine zq_get rfl (zh_161 _) rfl rfl rfl ?_
  refine zq_if2 (b := (s.1 161 4) ≤ w4.2) rfl Iff.rfl rfl (fun g1 => ?_) (fun g1 => ?_)
  · rw [if_pos g1] at h
    obtain rfl := Option.some.inj h
    exact zr_wk [none, none, some (.int w4.1), none] ⟨rfl, trivial⟩ (hx w4.1 rfl)
  · rw [if_neg g1] at h
    refine zr_many 4 (pc' := 16) (L' := [some (.ref 161), some (.int x1), some (.int w4.1), some (.int w4.2)]) (st' := [.ref 161, .long x1.toInt64, .int w4.1]) (S1 := zS c s) rfl ?_
    refine zq_get rfl (zh_161 _) rfl rfl rfl ?_
    refine zr_many 1 (pc' := 20) (L' := [some (.ref 161), some (.int x1), some (.int w4.1), some (.int w4.2)]) (st' := [.int w4.2, .ref 165, .long x1.toInt64, .int w4.1]) (S1 := zS c s) rfl ?_
    obtain ⟨g2, h⟩ := zi_cond_inv h
    refine zq_ild rfl (zh_165 _) rfl g2 rfl ?_
    refine zr_many 2 (pc' := 23) (L' := [some (.ref 161), some (.int x1), some (.int w4.1), some (.int w4.2)]) (st' := [.ref 161, .long (s.1 165 w4.2.toNatClampNeg).toInt64, .long x1.toInt64, .int w4.1]) (S1 := zS c s) rfl ?_
    refine zq_get rfl (zh_161 _) rfl rfl rfl ?_
    refine zr_many 1 (pc' := 27) (L' := [some (.ref 161), some (.int x1), some (.int w4.1), some (.int w4.2)]) (st' := [.int w4.2, .ref 166, .long (s.1 165 w4.2.toNatClampNeg).toInt64, .long x1.toInt64, .int w4.1]) (S1 := zS c s) rfl ?_
    obtain ⟨g3, h⟩ := zi_cond_inv h
    refine zq_ild rfl (zh_166 _) rfl g3 rfl ?_
    refine zr_many 1 (pc' := 29) (L' := [some (.ref 161), some (.int x1), some (.int w4.1), some (.int w4.2)]) (st' := [.long (s.1 166 w4.2.toNatClampNeg).toInt64, .long (s.1 165 w4.2.toNatClampNeg).toInt64, .long x1.toInt64, .int w4.1]) (S1 := zS c s) rfl ?_
    obtain ⟨r4, g6, h⟩ := zp_inv h
    refine zq_scall1 rfl (by decide) rfl rfl (tX12_in g6) rfl ?_
    refine zq_if1 (b := r4 = 0) rfl Iff.rfl rfl (fun g7 => ?_) (fun g7 => ?_)
    · rw [if_pos g7] at h
      refine zr_many 1 (pc' := 42) (L' := [some (.ref 161), some (.int x1), some (.int w4.1), some (.int w4.2)]) (st' := [.int (0 : Int32), .int w4.1]) (S1 := zS c s) rfl ?_
      exact zr_wk [some (.ref 161), some (.int x1), none, some (.int w4.2)] ⟨rfl, rfl, rfl, trivial⟩ (tX12_singersOf_J42 h hn hx)
    · rw [if_neg g7] at h
      refine zr_many 4 (pc' := 42) (L' := [some (.ref 161), some (.int x1), some (.int w4.1), some (.int w4.2)]) (st' := [.int ((1 : Int32) <<< (w4.2 &&& 31)), .int w4.1]) (S1 := zS c s) rfl ?_
      exact zr_wk [some (.ref 161), some (.int x1), none, some (.int w4.2)] ⟨rfl, rfl, rfl, trivial⟩ (tX12_singersOf_J42 h hn hx)
def fX12_singersOf (n : Nat) (s : zs) (x1 : Int32) : Option Int32 := zp (zl (fX12_singersOf_B4 n s x1) n ((0 : Int32), (0 : Int32))) (fun w8 => some w8)
theorem tX12_singersOf {n : Nat} {c : Nat × Nat} {s : zs} {x1 : Int32} {r : Int32} (h : fX12_singersOf n s x1 = some r) : zc 2 2496 [.ref 161, .int x1] (zS c s) (some (.int r)) (zS c s) := by
  refine zc_of (k := kX12_singersOf) (rt := 1) (L := [some (.ref 161), some (.int x1), none, none]) zm_2496.1 rfl rfl (by decide) rfl rfl ?_
  unfold fX12_singersOf at h
  refine zr_many 4 (pc' := 4) (L' := [some (.ref 161), some (.int x1), some (.int (0 : Int32)), some (.int (0 : Int32))]) (st' := []) (S1 := zS c s) rfl ?_
  obtain ⟨w8, g9, h⟩ := zp_inv h
  refine zr_wk [some (.ref 161), some (.int x1), some (.int (0 : Int32)), some (.int (0 : Int32))] ⟨rfl, rfl, rfl, rfl, trivial⟩ (zl_cert (Z := fun w4 => zr kX12_singersOf 1 1 4 [some (.ref 161), some (.int x1), some (.int w4.1), some (.int w4.2)] [] (zS c s) _ _) (Y := (fun z => zr kX12_singersOf 1 1 50 [none, none, some (.int z), none] [] (zS c s) _ _)) (fun w o h1 h2 h3 => tX12_singersOf_B4 h1 h2 h3) n _ _ g9 ?_)
  show zr kX12_singersOf 1 1 50 [none, none, some (.int w8), none] [] (zS c s) _ _
  refine zr_many 1 (pc' := 51) (L' := [none, none, some (.int w8), none]) (st' := [.int w8]) (S1 := zS c s) rfl ?_
  obtain rfl := Option.some.inj h
  exact zq_iret rfl
def fX12_fitting_J55 (n : Nat) (s : zs) (x2 : Int32) (y0 : Int32) (y1 : Int32) : Option ((Int32 × Int32) ⊕ (Int32)) := some (Sum.inl ((y0 &&& y1), (x2 + (1 : Int32))))
theorem tX12_fitting_J55 {n : Nat} {c : Nat × Nat} {s : zs} {x2 : Int32} {y0 : Int32} {y1 : Int32} {o : _} {v : Option Value} {S' : zi_S} (h : fX12_fitting_J55 n s x2 y0 y1 = some o) (hn : ∀ w11, o = Sum.inl w11 → zr kX12_fitting 1 2 11 [some (.ref 161), some (.int w11.1), some (.int w11.2)] [] (zS c s) v S') (hx : ∀ z, o = Sum.inr z → (fun z => zr kX12_fitting 1 2 63 [none, some (.int z), none] [] (zS c s) v S') z) : zr kX12_fitting 1 2 55 [some (.ref 161), none, some (.int x2)] [.int y1, .int y0] (zS c s) v S' := by
  unfold fX12_fitting_J55 at h
  refine zr_many 4 (pc' := 11) (L' := [some (.ref 161), some (.int (y0 &&& y1)), some (.int (x2 + (1 : Int32)))]) (st' := []) (S1 := zS c s) rfl ?_
  obtain rfl := Option.some.inj h
  exact zr_wk [some (.ref 161), some (.int (y0 &&& y1)), some (.int (x2 + (1 : Int32)))] ⟨rfl, rfl, rfl, trivial⟩ (hn ((y0 &&& y1), (x2 + (1 : Int32))) rfl)
def fX12_fitting_B11 (n : Nat) (s : zs) (w11 : Int32 × Int32) : Option ((Int32 × Int32) ⊕ (Int32)) := if (s.1 161 45) ≤ w11.2 then some (Sum.inr w11.1) else cond (zi_in w11.2 12) (if ¬ (s.1 187 w11.2.toNatClampNeg) = (1 : Int32) then cond (zi_in w11.2 12) (zp (fX12_singersOf n s (s.1 186 w11.2.toNatClampNeg)) (fun r5 => fX12_fitting_J55 n s w11.2 w11.1 (r5 ^^^ (-1 : Int32)))) none else cond (zi_in w11.2 12) (zp (fX12_singersOf n s (s.1 186 w11.2.toNatClampNeg)) (fun r9 => fX12_fitting_J55 n s w11.2 w11.1 r9)) none) none
theorem tX12_fitting_B11 {n : Nat} {c : Nat × Nat} {s : zs} {w11 : Int32 × Int32} {o : _} {v : Option Value} {S' : zi_S} (h : fX12_fitting_B11 n s w11 = some o) (hn : ∀ w11, o = Sum.inl w11 → zr kX12_fitting 1 2 11 [some (.ref 161), some (.int w11.1), some (.int w11.2)] [] (zS c s) v S') (hx : ∀ z, o = Sum.inr z → (fun z => zr kX12_fitting 1 2 63 [none, some (.int z), none] [] (zS c s) v S') z) : zr kX12_fitting 1 2 11 [some (.ref 161), some (.int w11.1), some (.int w11.2)] [] (zS c s) v S' := by
  unfold fX12_fitting_B11 at h
  refine zr_many 2 (pc' := 13) (L' := [some (.ref 161), some (.int w11.1), some (.int w11.2)]) (st' := [.ref 161, .int w11.2]) (S1 := zS c s) rfl ?_
  refine zq_get rfl (zh_161 _) rfl rfl rfl ?_
  refine zq_if2 (b := (s.1 161 45) ≤ w11.2) rfl Iff.rfl rfl (fun g1 => ?_) (fun g1 => ?_)
  · rw [if_pos g1] at h
    obtain rfl := Option.some.inj h
    exact zr_wk [none, some (.int w11.1), none] ⟨rfl, trivial⟩ (hx w11.1 rfl)
  · rw [if_neg g1] at h
    refine zr_many 2 (pc' := 21) (L' := [some (.ref 161), some (.int w11.1), some (.int w11.2)]) (st' := [.ref 161, .int w11.1]) (S1 := zS c s) rfl ?_
    refine zq_get rfl (zh_161 _) rfl rfl rfl ?_
    refine zr_many 1 (pc' := 25) (L' := [some (.ref 161), some (.int w11.1), some (.int w11.2)]) (st' := [.int w11.2, .ref 187, .int w11.1]) (S1 := zS c s) rfl ?_
    obtain ⟨g2, h⟩ := zi_cond_inv h
    refine zq_ild rfl (zh_187 _) rfl g2 rfl ?_
    refine zr_many 1 (pc' := 27) (L' := [some (.ref 161), some (.int w11.1), some (.int w11.2)]) (st' := [.int (1 : Int32), .int (s.1 187 w11.2.toNatClampNeg), .int w11.1]) (S1 := zS c s) rfl ?_
    refine zq_if2 (b := ¬ (s.1 187 w11.2.toNatClampNeg) = (1 : Int32)) rfl Iff.rfl rfl (fun g3 => ?_) (fun g3 => ?_)
    · rw [if_pos g3] at h
      refine zr_many 2 (pc' := 45) (L' := [some (.ref 161), some (.int w11.1), some (.int w11.2)]) (st' := [.ref 161, .ref 161, .int w11.1]) (S1 := zS c s) rfl ?_
      refine zq_get rfl (zh_161 _) rfl rfl rfl ?_
      refine zr_many 1 (pc' := 49) (L' := [some (.ref 161), some (.int w11.1), some (.int w11.2)]) (st' := [.int w11.2, .ref 186, .ref 161, .int w11.1]) (S1 := zS c s) rfl ?_
      obtain ⟨g4, h⟩ := zi_cond_inv h
      refine zq_ild rfl (zh_186 _) rfl g4 rfl ?_
      obtain ⟨r5, g7, h⟩ := zp_inv h
      refine zq_call1 rfl rfl (zh_161 _) rfl rfl rfl (tX12_singersOf g7) rfl ?_
      refine zr_many 2 (pc' := 55) (L' := [some (.ref 161), some (.int w11.1), some (.int w11.2)]) (st' := [.int (r5 ^^^ (-1 : Int32)), .int w11.1]) (S1 := zS c s) rfl ?_
      exact zr_wk [some (.ref 161), none, some (.int w11.2)] ⟨rfl, rfl, trivial⟩ (tX12_fitting_J55 h hn hx)
    · rw [if_neg g3] at h
      refine zr_many 2 (pc' := 32) (L' := [some (.ref 161), some (.int w11.1), some (.int w11.2)]) (st' := [.ref 161, .ref 161, .int w11.1]) (S1 := zS c s) rfl ?_
      refine zq_get rfl (zh_161 _) rfl rfl rfl ?_
      refine zr_many 1 (pc' := 36) (L' := [some (.ref 161), some (.int w11.1), some (.int w11.2)]) (st' := [.int w11.2, .ref 186, .ref 161, .int w11.1]) (S1 := zS c s) rfl ?_
      obtain ⟨g8, h⟩ := zi_cond_inv h
      refine zq_ild rfl (zh_186 _) rfl g8 rfl ?_
      obtain ⟨r9, g11, h⟩ := zp_inv h
      refine zq_call1 rfl rfl (zh_161 _) rfl rfl rfl (tX12_singersOf g11) rfl ?_
      refine zr_many 1 (pc' := 55) (L' := [some (.ref 161), some (.int w11.1), some (.int w11.2)]) (st' := [.int r9, .int w11.1]) (S1 := zS c s) rfl ?_
      exact zr_wk [some (.ref 161), none, some (.int w11.2)] ⟨rfl, rfl, trivial⟩ (tX12_fitting_J55 h hn hx)
def fX12_fitting (n : Nat) (s : zs) : Option Int32 := zp (zl (fX12_fitting_B11 n s) n ((((1 : Int32) <<< ((s.1 161 4) &&& 31)) - (1 : Int32)), (0 : Int32))) (fun w12 => some w12)
theorem tX12_fitting {n : Nat} {c : Nat × Nat} {s : zs} {r : Int32} (h : fX12_fitting n s = some r) : zc 3 2497 [.ref 161] (zS c s) (some (.int r)) (zS c s) := by
  refine zc_of (k := kX12_fitting) (rt := 1) (L := [some (.ref 161), none, none]) zm_2497.1 rfl rfl (by decide) rfl rfl ?_
  unfold fX12_fitting at h
  refine zr_many 2 (pc' := 2) (L' := [some (.ref 161), none, none]) (st' := [.ref 161, .int (1 : Int32)]) (S1 := zS c s) rfl ?_
  refine zq_get rfl (zh_161 _) rfl rfl rfl ?_
  refine zr_many 6 (pc' := 11) (L' := [some (.ref 161), some (.int (((1 : Int32) <<< ((s.1 161 4) &&& 31)) - (1 : Int32))), some (.int (0 : Int32))]) (st' := []) (S1 := zS c s) rfl ?_
  obtain ⟨w12, g13, h⟩ := zp_inv h
  refine zr_wk [some (.ref 161), some (.int (((1 : Int32) <<< ((s.1 161 4) &&& 31)) - (1 : Int32))), some (.int (0 : Int32))] ⟨rfl, rfl, rfl, trivial⟩ (zl_cert (Z := fun w11 => zr kX12_fitting 1 2 11 [some (.ref 161), some (.int w11.1), some (.int w11.2)] [] (zS c s) _ _) (Y := (fun z => zr kX12_fitting 1 2 63 [none, some (.int z), none] [] (zS c s) _ _)) (fun w o h1 h2 h3 => tX12_fitting_B11 h1 h2 h3) n _ _ g13 ?_)
  show zr kX12_fitting 1 2 63 [none, some (.int w12), none] [] (zS c s) _ _
  refine zr_many 1 (pc' := 64) (L' := [none, some (.int w12), none]) (st' := [.int w12]) (S1 := zS c s) rfl ?_
  obtain rfl := Option.some.inj h
  exact zq_iret rfl
def fX12_who (n : Nat) (s : zs) : Option (Int32 × zs) := zp (fX12_fitting n (zsi s 161 0 (0 : Int32))) (fun r1 => zt (zsi s 161 0 (0 : Int32)) (fun s4 => zp (fJ6_bitCount_0f7a4 n (zsi s4 161 1 (0 : Int32)) r1) (fun r6 => zp (fX12_enters n (zsi s4 161 1 (0 : Int32)) r6.toInt64) (fun s10 => some (r1, s10)))))
theorem tX12_who {n : Nat} {c : Nat × Nat} {s : zs} {r : Int32} {s' : zs} (h : fX12_who n s = some (r, s')) : zc 4 2498 [.ref 161] (zS c s) (some (.int r)) (zS c s') := by
  refine zc_of (k := kX12_who) (rt := 1) (L := [some (.ref 161), none]) zm_2498.1 rfl rfl (by decide) rfl rfl ?_
  unfold fX12_who at h
  refine zr_many 2 (pc' := 2) (L' := [some (.ref 161), none]) (st' := [.int (0 : Int32), .ref 161]) (S1 := zS c s) rfl ?_
  refine zq_put (s' := (zsi s 161 0 (0 : Int32))) rfl (zh_161 _) rfl rfl rfl rfl zsi_ne rfl ?_
  refine zr_many 1 (pc' := 6) (L' := [some (.ref 161), none]) (st' := [.ref 161]) (S1 := zS c (zsi s 161 0 (0 : Int32))) rfl ?_
  obtain ⟨r1, g3, h⟩ := zp_inv h
  refine zq_call1 rfl rfl (zh_161 _) rfl rfl rfl (tX12_fitting g3) rfl ?_
  refine zr_many 3 (pc' := 12) (L' := [some (.ref 161), some (.int r1)]) (st' := [.int (0 : Int32), .ref 161]) (S1 := zS c (zsi s 161 0 (0 : Int32))) rfl ?_
  obtain ⟨s4, e5, h⟩ := zt_in h
  rw [← e5]
  refine zq_put (s' := (zsi s4 161 1 (0 : Int32))) rfl (zh_161 _) rfl rfl rfl rfl zsi_ne rfl ?_
  refine zr_many 2 (pc' := 17) (L' := [some (.ref 161), some (.int r1)]) (st' := [.int r1, .ref 161]) (S1 := zS c (zsi s4 161 1 (0 : Int32))) rfl ?_
  obtain ⟨r6, g8, h⟩ := zp_inv h
  refine zq_scall1 rfl (by decide) rfl rfl ((tJ6_bitCount_0f7a4 g8).up (by decide)) rfl ?_
  refine zr_many 1 (pc' := 21) (L' := [some (.ref 161), some (.int r1)]) (st' := [.long r6.toInt64, .ref 161]) (S1 := zS c (zsi s4 161 1 (0 : Int32))) rfl ?_
  obtain ⟨s10, g11, h⟩ := zp_inv h
  refine zq_call0 rfl rfl (zh_161 _) rfl rfl rfl ((tX12_enters g11).up (by decide)) rfl ?_
  refine zr_many 1 (pc' := 25) (L' := [some (.ref 161), some (.int r1)]) (st' := [.int r1]) (S1 := zS c s10) rfl ?_
  obtain ⟨rfl, rfl⟩ := Prod.mk.inj (Option.some.inj h)
  exact zq_iret rfl
def fX12_listen_J74 (n : Nat) (s : zs) (x1 : Int32) (x3 : Int32) (x4 : Int32) (x5 : Int32) (y0 : Int32) : Option ((Int32 × Int32 × Int32) ⊕ (Int32 × Int32)) := some (Sum.inl (y0, (if x5 < x3 then x5 else x3), (x4 + (1 : Int32))))
theorem tX12_listen_J74 {n : Nat} {c : Nat × Nat} {s : zs} {x1 : Int32} {x3 : Int32} {x4 : Int32} {x5 : Int32} {y0 : Int32} {o : _} {v : Option Value} {S' : zi_S} (h : fX12_listen_J74 n s x1 x3 x4 x5 y0 = some o) (hn : ∀ w26, o = Sum.inl w26 → zr kX12_listen 1 3 26 [some (.ref 161), some (.int x1), some (.int w26.1), some (.int w26.2.1), some (.int w26.2.2), none] [] (zS c s) v S') (hx : ∀ z, o = Sum.inr z → (fun z => zr kX12_listen 1 3 88 [some (.ref 161), none, some (.int z.1), some (.int z.2), none, none] [] (zS c s) v S') z) : zr kX12_listen 1 3 74 [some (.ref 161), some (.int x1), none, some (.int x3), some (.int x4), some (.int x5)] [.int y0] (zS c s) v S' := by
  unfold fX12_listen_J74 at h
  refine zr_many 7 (pc' := 26) (L' := [some (.ref 161), some (.int x1), some (.int y0), some (.int (if x5 < x3 then x5 else x3)), some (.int (x4 + (1 : Int32))), some (.int x5)]) (st' := []) (S1 := zS c s) rfl ?_
  obtain rfl := Option.some.inj h
  exact zr_wk [some (.ref 161), some (.int x1), some (.int y0), some (.int (if x5 < x3 then x5 else x3)), some (.int (x4 + (1 : Int32))), none] ⟨rfl, rfl, rfl, rfl, rfl, trivial⟩ (hn (y0, (if x5 < x3 then x5 else x3), (x4 + (1 : Int32))) rfl)
def fX12_listen_B26 (n : Nat) (s : zs) (x1 : Int32) (w26 : Int32 × Int32 × Int32) : Option ((Int32 × Int32 × Int32) ⊕ (Int32 × Int32)) := if (26 : Int32) ≤ w26.2.2 then some (Sum.inr (w26.1, w26.2.1)) else zp (fX12_singersOf n s w26.2.2) (fun r6 => zp (fJ6_bitCount_0f7a4 n s (x1 &&& r6)) (fun r9 => zp (fX12_singersOf n s w26.2.2) (fun r12 => zp (fJ6_bitCount_0f7a4 n s (x1 &&& (r12 ^^^ (-1 : Int32)))) (fun r15 => if w26.2.1 ≤ (if r9 < r15 then r15 else r9) then fX12_listen_J74 n s x1 w26.2.1 w26.2.2 (if r9 < r15 then r15 else r9) w26.1 else fX12_listen_J74 n s x1 w26.2.1 w26.2.2 (if r9 < r15 then r15 else r9) w26.2.2))))
theorem tX12_listen_B26 {n : Nat} {c : Nat × Nat} {s : zs} {x1 : Int32} {w26 : Int32 × Int32 × Int32} {o : _} {v : Option Value} {S' : zi_S} (h : fX12_listen_B26 n s x1 w26 = some o) (hn : ∀ w26, o = Sum.inl w26 → zr kX12_listen 1 3 26 [some (.ref 161), some (.int x1), some (.int w26.1), some (.int w26.2.1), some (.int w26.2.2), none] [] (zS c s) v S') (hx : ∀ z, o = Sum.inr z → (fun z => zr kX12_listen 1 3 88 [some (.ref 161), none, some (.int z.1), some (.int z.2), none, none] [] (zS c s) v S') z) : zr kX12_listen 1 3 26 [some (.ref 161), some (.int x1), some (.int w26.1), some (.int w26.2.1), some (.int w26.2.2), none] [] (zS c s) v S' := by
  unfold fX12_listen_B26 at h
  refine zr_many 2 (pc' := 30) (L' := [some (.ref 161), some (.int x1), some (.int w26.1), some (.int w26.2.1), some (.int w26.2.2), none]) (st' := [.int (26 : Int32), .int w26.2.2]) (S1 := zS c s) rfl ?_
  refine zq_if2 (b := (26 : Int32) ≤ w26.2.2) rfl Iff.rfl rfl (fun g5 => ?_) (fun g5 => ?_)
  · rw [if_pos g5] at h
    obtain rfl := Option.some.inj h
    exact zr_wk [some (.ref 161), none, some (.int w26.1), some (.int w26.2.1), none, none] ⟨rfl, rfl, rfl, trivial⟩ (hx (w26.1, w26.2.1) rfl)
  · rw [if_neg g5] at h
    refine zr_many 3 (pc' := 37) (L' := [some (.ref 161), some (.int x1), some (.int w26.1), some (.int w26.2.1), some (.int w26.2.2), none]) (st' := [.int w26.2.2, .ref 161, .int x1]) (S1 := zS c s) rfl ?_
    obtain ⟨r6, g8, h⟩ := zp_inv h
    refine zq_call1 rfl rfl (zh_161 _) rfl rfl rfl ((tX12_singersOf g8).up (by decide)) rfl ?_
    refine zr_many 1 (pc' := 41) (L' := [some (.ref 161), some (.int x1), some (.int w26.1), some (.int w26.2.1), some (.int w26.2.2), none]) (st' := [.int (x1 &&& r6)]) (S1 := zS c s) rfl ?_
    obtain ⟨r9, g11, h⟩ := zp_inv h
    refine zq_scall1 rfl (by decide) rfl rfl ((tJ6_bitCount_0f7a4 g11).up (by decide)) rfl ?_
    refine zr_many 3 (pc' := 48) (L' := [some (.ref 161), some (.int x1), some (.int w26.1), some (.int w26.2.1), some (.int w26.2.2), none]) (st' := [.int w26.2.2, .ref 161, .int x1, .int r9]) (S1 := zS c s) rfl ?_
    obtain ⟨r12, g14, h⟩ := zp_inv h
    refine zq_call1 rfl rfl (zh_161 _) rfl rfl rfl ((tX12_singersOf g14).up (by decide)) rfl ?_
    refine zr_many 3 (pc' := 54) (L' := [some (.ref 161), some (.int x1), some (.int w26.1), some (.int w26.2.1), some (.int w26.2.2), none]) (st' := [.int (x1 &&& (r12 ^^^ (-1 : Int32))), .int r9]) (S1 := zS c s) rfl ?_
    obtain ⟨r15, g17, h⟩ := zp_inv h
    refine zq_scall1 rfl (by decide) rfl rfl ((tJ6_bitCount_0f7a4 g17).up (by decide)) rfl ?_
    refine zr_many 4 (pc' := 65) (L' := [some (.ref 161), some (.int x1), some (.int w26.1), some (.int w26.2.1), some (.int w26.2.2), some (.int (if r9 < r15 then r15 else r9))]) (st' := [.int w26.2.1, .int (if r9 < r15 then r15 else r9)]) (S1 := zS c s) rfl ?_
    refine zq_if2 (b := w26.2.1 ≤ (if r9 < r15 then r15 else r9)) rfl Iff.rfl rfl (fun g18 => ?_) (fun g18 => ?_)
    · rw [if_pos g18] at h
      refine zr_many 1 (pc' := 74) (L' := [some (.ref 161), some (.int x1), some (.int w26.1), some (.int w26.2.1), some (.int w26.2.2), some (.int (if r9 < r15 then r15 else r9))]) (st' := [.int w26.1]) (S1 := zS c s) rfl ?_
      exact zr_wk [some (.ref 161), some (.int x1), none, some (.int w26.2.1), some (.int w26.2.2), some (.int (if r9 < r15 then r15 else r9))] ⟨rfl, rfl, rfl, rfl, rfl, trivial⟩ (tX12_listen_J74 h hn hx)
    · rw [if_neg g18] at h
      refine zr_many 2 (pc' := 74) (L' := [some (.ref 161), some (.int x1), some (.int w26.1), some (.int w26.2.1), some (.int w26.2.2), some (.int (if r9 < r15 then r15 else r9))]) (st' := [.int w26.2.2]) (S1 := zS c s) rfl ?_
      exact zr_wk [some (.ref 161), some (.int x1), none, some (.int w26.2.1), some (.int w26.2.2), some (.int (if r9 < r15 then r15 else r9))] ⟨rfl, rfl, rfl, rfl, rfl, trivial⟩ (tX12_listen_J74 h hn hx)
def fX12_listen (n : Nat) (s : zs) : Option (Int32 × zs) := zp (fX12_fitting n (zsi s 161 0 (0 : Int32))) (fun r1 => if ¬ r1 = 0 then zp (zl (fX12_listen_B26 n (zsi s 161 0 (0 : Int32)) r1) n ((-1 : Int32), (1000000 : Int32), (0 : Int32))) (fun w19 => zt (zsi s 161 0 (0 : Int32)) (fun s20 => zp (fX12_enters n (zsi s20 161 1 (0 : Int32)) w19.2.toInt64) (fun s23 => some (w19.1, s23)))) else some ((-2 : Int32), (zsi s 161 0 (0 : Int32))))
theorem tX12_listen {n : Nat} {c : Nat × Nat} {s : zs} {r : Int32} {s' : zs} (h : fX12_listen n s = some (r, s')) : zc 4 2499 [.ref 161] (zS c s) (some (.int r)) (zS c s') := by
  refine zc_of (k := kX12_listen) (rt := 1) (L := [some (.ref 161), none, none, none, none, none]) zm_2499.1 rfl rfl (by decide) rfl rfl ?_
  unfold fX12_listen at h
  refine zr_many 2 (pc' := 2) (L' := [some (.ref 161), none, none, none, none, none]) (st' := [.int (0 : Int32), .ref 161]) (S1 := zS c s) rfl ?_
  refine zq_put (s' := (zsi s 161 0 (0 : Int32))) rfl (zh_161 _) rfl rfl rfl rfl zsi_ne rfl ?_
  refine zr_many 1 (pc' := 6) (L' := [some (.ref 161), none, none, none, none, none]) (st' := [.ref 161]) (S1 := zS c (zsi s 161 0 (0 : Int32))) rfl ?_
  obtain ⟨r1, g3, h⟩ := zp_inv h
  refine zq_call1 rfl rfl (zh_161 _) rfl rfl rfl (tX12_fitting g3) rfl ?_
  refine zr_many 2 (pc' := 11) (L' := [some (.ref 161), some (.int r1), none, none, none, none]) (st' := [.int r1]) (S1 := zS c (zsi s 161 0 (0 : Int32))) rfl ?_
  refine zq_if1 (b := ¬ r1 = 0) rfl Iff.rfl rfl (fun g4 => ?_) (fun g4 => ?_)
  · rw [if_pos g4] at h
    refine zr_many 6 (pc' := 26) (L' := [some (.ref 161), some (.int r1), some (.int (-1 : Int32)), some (.int (1000000 : Int32)), some (.int (0 : Int32)), none]) (st' := []) (S1 := zS c (zsi s 161 0 (0 : Int32))) rfl ?_
    obtain ⟨w19, g25, h⟩ := zp_inv h
    refine zr_wk [some (.ref 161), some (.int r1), some (.int (-1 : Int32)), some (.int (1000000 : Int32)), some (.int (0 : Int32)), none] ⟨rfl, rfl, rfl, rfl, rfl, trivial⟩ (zl_cert (Z := fun w26 => zr kX12_listen 1 3 26 [some (.ref 161), some (.int r1), some (.int w26.1), some (.int w26.2.1), some (.int w26.2.2), none] [] (zS c (zsi s 161 0 (0 : Int32))) _ _) (Y := (fun z => zr kX12_listen 1 3 88 [some (.ref 161), none, some (.int z.1), some (.int z.2), none, none] [] (zS c (zsi s 161 0 (0 : Int32))) _ _)) (fun w o h1 h2 h3 => tX12_listen_B26 h1 h2 h3) n _ _ g25 ?_)
    show zr kX12_listen 1 3 88 [some (.ref 161), none, some (.int w19.1), some (.int w19.2), none, none] [] (zS c (zsi s 161 0 (0 : Int32))) _ _
    refine zr_many 2 (pc' := 90) (L' := [some (.ref 161), none, some (.int w19.1), some (.int w19.2), none, none]) (st' := [.int (0 : Int32), .ref 161]) (S1 := zS c (zsi s 161 0 (0 : Int32))) rfl ?_
    obtain ⟨s20, e21, h⟩ := zt_in h
    rw [← e21]
    refine zq_put (s' := (zsi s20 161 1 (0 : Int32))) rfl (zh_161 _) rfl rfl rfl rfl zsi_ne rfl ?_
    refine zr_many 3 (pc' := 96) (L' := [some (.ref 161), none, some (.int w19.1), some (.int w19.2), none, none]) (st' := [.long w19.2.toInt64, .ref 161]) (S1 := zS c (zsi s20 161 1 (0 : Int32))) rfl ?_
    obtain ⟨s23, g24, h⟩ := zp_inv h
    refine zq_call0 rfl rfl (zh_161 _) rfl rfl rfl ((tX12_enters g24).up (by decide)) rfl ?_
    refine zr_many 1 (pc' := 100) (L' := [some (.ref 161), none, some (.int w19.1), some (.int w19.2), none, none]) (st' := [.int w19.1]) (S1 := zS c s23) rfl ?_
    obtain ⟨rfl, rfl⟩ := Prod.mk.inj (Option.some.inj h)
    exact zq_iret rfl
  · rw [if_neg g4] at h
    refine zr_many 1 (pc' := 16) (L' := [some (.ref 161), some (.int r1), none, none, none, none]) (st' := [.int (-2 : Int32)]) (S1 := zS c (zsi s 161 0 (0 : Int32))) rfl ?_
    obtain ⟨rfl, rfl⟩ := Prod.mk.inj (Option.some.inj h)
    exact zq_iret rfl
def fX12_isParted_J98 (n : Nat) (s : zs) (x1 : Int32) (x2 : Int32) (x4 : Int32) (x6 : Int32) (y0 : Int32) (y1 : Int32) : Option ((Int32 × Int32) ⊕ (Int32)) := some (Sum.inl ((y0 &&& y1), (x6 + (1 : Int32))))
theorem tX12_isParted_J98 {n : Nat} {c : Nat × Nat} {s : zs} {x1 : Int32} {x2 : Int32} {x4 : Int32} {x6 : Int32} {y0 : Int32} {y1 : Int32} {o : _} {v : Option Value} {S' : zi_S} (h : fX12_isParted_J98 n s x1 x2 x4 x6 y0 y1 = some o) (hn : ∀ w44, o = Sum.inl w44 → zr kX12_isParted 2 2 44 [some (.ref 161), some (.int x1), some (.int x2), none, some (.int x4), some (.int w44.1), some (.int w44.2), none] [] (zS c s) v S') (hx : ∀ z, o = Sum.inr z → (fun z => zr kX12_isParted 2 2 107 [some (.ref 161), some (.int x1), some (.int x2), none, some (.int x4), some (.int z), none, none] [] (zS c s) v S') z) : zr kX12_isParted 2 2 98 [some (.ref 161), some (.int x1), some (.int x2), none, some (.int x4), none, some (.int x6), none] [.int y1, .int y0] (zS c s) v S' := by
  unfold fX12_isParted_J98 at h
  refine zr_many 4 (pc' := 44) (L' := [some (.ref 161), some (.int x1), some (.int x2), none, some (.int x4), some (.int (y0 &&& y1)), some (.int (x6 + (1 : Int32))), none]) (st' := []) (S1 := zS c s) rfl ?_
  obtain rfl := Option.some.inj h
  exact zr_wk [some (.ref 161), some (.int x1), some (.int x2), none, some (.int x4), some (.int (y0 &&& y1)), some (.int (x6 + (1 : Int32))), none] ⟨rfl, rfl, rfl, rfl, rfl, rfl, trivial⟩ (hn ((y0 &&& y1), (x6 + (1 : Int32))) rfl)
def fX12_isParted_B44 (n : Nat) (s : zs) (x1 : Int32) (x2 : Int32) (x4 : Int32) (w44 : Int32 × Int32) : Option ((Int32 × Int32) ⊕ (Int32)) := if (26 : Int32) ≤ w44.2 then some (Sum.inr w44.1) else if w44.1 = 0 then some (Sum.inr w44.1) else zp (fX12_singersOf n s w44.2) (fun r9 => zp (fX12_has n s x2 w44.2) (fun r12 => if ¬ r12 = 0 then zp (fX12_has n s r9 x4) (fun r16 => if r16 = 0 then fX12_isParted_J98 n s x1 x2 x4 w44.2 w44.1 (r9 ^^^ (-1 : Int32)) else fX12_isParted_J98 n s x1 x2 x4 w44.2 w44.1 r9) else fX12_isParted_J98 n s x1 x2 x4 w44.2 w44.1 (-1 : Int32)))
theorem tX12_isParted_B44 {n : Nat} {c : Nat × Nat} {s : zs} {x1 : Int32} {x2 : Int32} {x4 : Int32} {w44 : Int32 × Int32} {o : _} {v : Option Value} {S' : zi_S} (h : fX12_isParted_B44 n s x1 x2 x4 w44 = some o) (hn : ∀ w44, o = Sum.inl w44 → zr kX12_isParted 2 2 44 [some (.ref 161), some (.int x1), some (.int x2), none, some (.int x4), some (.int w44.1), some (.int w44.2), none] [] (zS c s) v S') (hx : ∀ z, o = Sum.inr z → (fun z => zr kX12_isParted 2 2 107 [some (.ref 161), some (.int x1), some (.int x2), none, some (.int x4), some (.int z), none, none] [] (zS c s) v S') z) : zr kX12_isParted 2 2 44 [some (.ref 161), some (.int x1), some (.int x2), none, some (.int x4), some (.int w44.1), some (.int w44.2), none] [] (zS c s) v S' := by
  unfold fX12_isParted_B44 at h
  refine zr_many 2 (pc' := 48) (L' := [some (.ref 161), some (.int x1), some (.int x2), none, some (.int x4), some (.int w44.1), some (.int w44.2), none]) (st' := [.int (26 : Int32), .int w44.2]) (S1 := zS c s) rfl ?_
  refine zq_if2 (b := (26 : Int32) ≤ w44.2) rfl Iff.rfl rfl (fun g7 => ?_) (fun g7 => ?_)
  · rw [if_pos g7] at h
    obtain rfl := Option.some.inj h
    exact zr_wk [some (.ref 161), some (.int x1), some (.int x2), none, some (.int x4), some (.int w44.1), none, none] ⟨rfl, rfl, rfl, rfl, rfl, trivial⟩ (hx w44.1 rfl)
  · rw [if_neg g7] at h
    refine zr_many 1 (pc' := 53) (L' := [some (.ref 161), some (.int x1), some (.int x2), none, some (.int x4), some (.int w44.1), some (.int w44.2), none]) (st' := [.int w44.1]) (S1 := zS c s) rfl ?_
    refine zq_if1 (b := w44.1 = 0) rfl Iff.rfl rfl (fun g8 => ?_) (fun g8 => ?_)
    · rw [if_pos g8] at h
      obtain rfl := Option.some.inj h
      exact zr_wk [some (.ref 161), some (.int x1), some (.int x2), none, some (.int x4), some (.int w44.1), none, none] ⟨rfl, rfl, rfl, rfl, rfl, trivial⟩ (hx w44.1 rfl)
    · rw [if_neg g8] at h
      refine zr_many 2 (pc' := 59) (L' := [some (.ref 161), some (.int x1), some (.int x2), none, some (.int x4), some (.int w44.1), some (.int w44.2), none]) (st' := [.int w44.2, .ref 161]) (S1 := zS c s) rfl ?_
      obtain ⟨r9, g11, h⟩ := zp_inv h
      refine zq_call1 rfl rfl (zh_161 _) rfl rfl rfl (tX12_singersOf g11) rfl ?_
      refine zr_many 4 (pc' := 69) (L' := [some (.ref 161), some (.int x1), some (.int x2), none, some (.int x4), some (.int w44.1), some (.int w44.2), some (.int r9)]) (st' := [.int w44.2, .int x2, .int w44.1]) (S1 := zS c s) rfl ?_
      obtain ⟨r12, g14, h⟩ := zp_inv h
      refine zq_scall1 rfl (by decide) rfl rfl ((tX12_has g14).up (by decide)) rfl ?_
      refine zq_if1 (b := ¬ r12 = 0) rfl Iff.rfl rfl (fun g15 => ?_) (fun g15 => ?_)
      · rw [if_pos g15] at h
        refine zr_many 2 (pc' := 83) (L' := [some (.ref 161), some (.int x1), some (.int x2), none, some (.int x4), some (.int w44.1), some (.int w44.2), some (.int r9)]) (st' := [.int x4, .int r9, .int w44.1]) (S1 := zS c s) rfl ?_
        obtain ⟨r16, g18, h⟩ := zp_inv h
        refine zq_scall1 rfl (by decide) rfl rfl ((tX12_has g18).up (by decide)) rfl ?_
        refine zq_if1 (b := r16 = 0) rfl Iff.rfl rfl (fun g19 => ?_) (fun g19 => ?_)
        · rw [if_pos g19] at h
          refine zr_many 3 (pc' := 98) (L' := [some (.ref 161), some (.int x1), some (.int x2), none, some (.int x4), some (.int w44.1), some (.int w44.2), some (.int r9)]) (st' := [.int (r9 ^^^ (-1 : Int32)), .int w44.1]) (S1 := zS c s) rfl ?_
          exact zr_wk [some (.ref 161), some (.int x1), some (.int x2), none, some (.int x4), none, some (.int w44.2), none] ⟨rfl, rfl, rfl, rfl, rfl, trivial⟩ (tX12_isParted_J98 h hn hx)
        · rw [if_neg g19] at h
          refine zr_many 2 (pc' := 98) (L' := [some (.ref 161), some (.int x1), some (.int x2), none, some (.int x4), some (.int w44.1), some (.int w44.2), some (.int r9)]) (st' := [.int r9, .int w44.1]) (S1 := zS c s) rfl ?_
          exact zr_wk [some (.ref 161), some (.int x1), some (.int x2), none, some (.int x4), none, some (.int w44.2), none] ⟨rfl, rfl, rfl, rfl, rfl, trivial⟩ (tX12_isParted_J98 h hn hx)
      · rw [if_neg g15] at h
        refine zr_many 2 (pc' := 98) (L' := [some (.ref 161), some (.int x1), some (.int x2), none, some (.int x4), some (.int w44.1), some (.int w44.2), some (.int r9)]) (st' := [.int (-1 : Int32), .int w44.1]) (S1 := zS c s) rfl ?_
        exact zr_wk [some (.ref 161), some (.int x1), some (.int x2), none, some (.int x4), none, some (.int w44.2), none] ⟨rfl, rfl, rfl, rfl, rfl, trivial⟩ (tX12_isParted_J98 h hn hx)
def fX12_isParted_J117 (n : Nat) (s : zs) (x1 : Int32) (x2 : Int32) (x4 : Int32) (y0 : Int32) : Option ((Int32 × Int32) ⊕ (Int32)) := some (Sum.inl (y0, (x4 + (1 : Int32))))
theorem tX12_isParted_J117 {n : Nat} {c : Nat × Nat} {s : zs} {x1 : Int32} {x2 : Int32} {x4 : Int32} {y0 : Int32} {o : _} {v : Option Value} {S' : zi_S} (h : fX12_isParted_J117 n s x1 x2 x4 y0 = some o) (hn : ∀ w5, o = Sum.inl w5 → zr kX12_isParted 2 2 5 [some (.ref 161), some (.int x1), some (.int x2), some (.int w5.1), some (.int w5.2), none, none, none] [] (zS c s) v S') (hx : ∀ z, o = Sum.inr z → (fun z => zr kX12_isParted 2 2 124 [none, none, none, some (.int z), none, none, none, none] [] (zS c s) v S') z) : zr kX12_isParted 2 2 117 [some (.ref 161), some (.int x1), some (.int x2), none, some (.int x4), none, none, none] [.int y0] (zS c s) v S' := by
  unfold fX12_isParted_J117 at h
  refine zr_many 3 (pc' := 5) (L' := [some (.ref 161), some (.int x1), some (.int x2), some (.int y0), some (.int (x4 + (1 : Int32))), none, none, none]) (st' := []) (S1 := zS c s) rfl ?_
  obtain rfl := Option.some.inj h
  exact zr_wk [some (.ref 161), some (.int x1), some (.int x2), some (.int y0), some (.int (x4 + (1 : Int32))), none, none, none] ⟨rfl, rfl, rfl, rfl, rfl, trivial⟩ (hn (y0, (x4 + (1 : Int32))) rfl)
def fX12_isParted_J107 (n : Nat) (s : zs) (x1 : Int32) (x2 : Int32) (x4 : Int32) (x5 : Int32) : Option ((Int32 × Int32) ⊕ (Int32)) := if ¬ x5 = 0 then fX12_isParted_J117 n s x1 x2 x4 (0 : Int32) else fX12_isParted_J117 n s x1 x2 x4 (1 : Int32)
theorem tX12_isParted_J107 {n : Nat} {c : Nat × Nat} {s : zs} {x1 : Int32} {x2 : Int32} {x4 : Int32} {x5 : Int32} {o : _} {v : Option Value} {S' : zi_S} (h : fX12_isParted_J107 n s x1 x2 x4 x5 = some o) (hn : ∀ w5, o = Sum.inl w5 → zr kX12_isParted 2 2 5 [some (.ref 161), some (.int x1), some (.int x2), some (.int w5.1), some (.int w5.2), none, none, none] [] (zS c s) v S') (hx : ∀ z, o = Sum.inr z → (fun z => zr kX12_isParted 2 2 124 [none, none, none, some (.int z), none, none, none, none] [] (zS c s) v S') z) : zr kX12_isParted 2 2 107 [some (.ref 161), some (.int x1), some (.int x2), none, some (.int x4), some (.int x5), none, none] [] (zS c s) v S' := by
  unfold fX12_isParted_J107 at h
  refine zr_many 1 (pc' := 109) (L' := [some (.ref 161), some (.int x1), some (.int x2), none, some (.int x4), some (.int x5), none, none]) (st' := [.int x5]) (S1 := zS c s) rfl ?_
  refine zq_if1 (b := ¬ x5 = 0) rfl Iff.rfl rfl (fun g21 => ?_) (fun g21 => ?_)
  · rw [if_pos g21] at h
    refine zr_many 1 (pc' := 117) (L' := [some (.ref 161), some (.int x1), some (.int x2), none, some (.int x4), some (.int x5), none, none]) (st' := [.int (0 : Int32)]) (S1 := zS c s) rfl ?_
    exact zr_wk [some (.ref 161), some (.int x1), some (.int x2), none, some (.int x4), none, none, none] ⟨rfl, rfl, rfl, rfl, trivial⟩ (tX12_isParted_J117 h hn hx)
  · rw [if_neg g21] at h
    refine zr_many 2 (pc' := 117) (L' := [some (.ref 161), some (.int x1), some (.int x2), none, some (.int x4), some (.int x5), none, none]) (st' := [.int (1 : Int32)]) (S1 := zS c s) rfl ?_
    exact zr_wk [some (.ref 161), some (.int x1), some (.int x2), none, some (.int x4), none, none, none] ⟨rfl, rfl, rfl, rfl, trivial⟩ (tX12_isParted_J117 h hn hx)
def fX12_isParted_J39 (n : Nat) (s : zs) (x1 : Int32) (x2 : Int32) (x4 : Int32) (y0 : Int32) : Option ((Int32 × Int32) ⊕ (Int32)) := zp (zl (fX12_isParted_B44 n s x1 x2 x4) n (y0, (0 : Int32))) (fun w20 => fX12_isParted_J107 n s x1 x2 x4 w20)
theorem tX12_isParted_J39 {n : Nat} {c : Nat × Nat} {s : zs} {x1 : Int32} {x2 : Int32} {x4 : Int32} {y0 : Int32} {o : _} {v : Option Value} {S' : zi_S} (h : fX12_isParted_J39 n s x1 x2 x4 y0 = some o) (hn : ∀ w5, o = Sum.inl w5 → zr kX12_isParted 2 2 5 [some (.ref 161), some (.int x1), some (.int x2), some (.int w5.1), some (.int w5.2), none, none, none] [] (zS c s) v S') (hx : ∀ z, o = Sum.inr z → (fun z => zr kX12_isParted 2 2 124 [none, none, none, some (.int z), none, none, none, none] [] (zS c s) v S') z) : zr kX12_isParted 2 2 39 [some (.ref 161), some (.int x1), some (.int x2), none, some (.int x4), none, none, none] [.int y0] (zS c s) v S' := by
  unfold fX12_isParted_J39 at h
  refine zr_many 3 (pc' := 44) (L' := [some (.ref 161), some (.int x1), some (.int x2), none, some (.int x4), some (.int y0), some (.int (0 : Int32)), none]) (st' := []) (S1 := zS c s) rfl ?_
  obtain ⟨w20, g22, h⟩ := zp_inv h
  refine zr_wk [some (.ref 161), some (.int x1), some (.int x2), none, some (.int x4), some (.int y0), some (.int (0 : Int32)), none] ⟨rfl, rfl, rfl, rfl, rfl, rfl, trivial⟩ (zl_cert (Z := fun w44 => zr kX12_isParted 2 2 44 [some (.ref 161), some (.int x1), some (.int x2), none, some (.int x4), some (.int w44.1), some (.int w44.2), none] [] (zS c s) _ _) (Y := (fun z => zr kX12_isParted 2 2 107 [some (.ref 161), some (.int x1), some (.int x2), none, some (.int x4), some (.int z), none, none] [] (zS c s) _ _)) (fun w o h1 h2 h3 => tX12_isParted_B44 h1 h2 h3) n _ _ g22 ?_)
  show zr kX12_isParted 2 2 107 [some (.ref 161), some (.int x1), some (.int x2), none, some (.int x4), some (.int w20), none, none] [] (zS c s) _ _
  exact zr_wk [some (.ref 161), some (.int x1), some (.int x2), none, some (.int x4), some (.int w20), none, none] ⟨rfl, rfl, rfl, rfl, rfl, trivial⟩ (tX12_isParted_J107 h hn hx)
def fX12_isParted_B5 (n : Nat) (s : zs) (x1 : Int32) (x2 : Int32) (w5 : Int32 × Int32) : Option ((Int32 × Int32) ⊕ (Int32)) := if (s.1 161 4) ≤ w5.2 then some (Sum.inr w5.1) else if w5.1 = 0 then some (Sum.inr w5.1) else zp (fX12_has n s x1 w5.2) (fun r3 => if r3 = 0 then fX12_isParted_J39 n s x1 x2 w5.2 (0 : Int32) else fX12_isParted_J39 n s x1 x2 w5.2 (x1 &&& (((1 : Int32) <<< (w5.2 &&& 31)) ^^^ (-1 : Int32))))
theorem tX12_isParted_B5 {n : Nat} {c : Nat × Nat} {s : zs} {x1 : Int32} {x2 : Int32} {w5 : Int32 × Int32} {o : _} {v : Option Value} {S' : zi_S} (h : fX12_isParted_B5 n s x1 x2 w5 = some o) (hn : ∀ w5, o = Sum.inl w5 → zr kX12_isParted 2 2 5 [some (.ref 161), some (.int x1), some (.int x2), some (.int w5.1), some (.int w5.2), none, none, none] [] (zS c s) v S') (hx : ∀ z, o = Sum.inr z → (fun z => zr kX12_isParted 2 2 124 [none, none, none, some (.int z), none, none, none, none] [] (zS c s) v S') z) : zr kX12_isParted 2 2 5 [some (.ref 161), some (.int x1), some (.int x2), some (.int w5.1), some (.int w5.2), none, none, none] [] (zS c s) v S' := by
  unfold fX12_isParted_B5 at h
  refine zr_many 2 (pc' := 8) (L' := [some (.ref 161), some (.int x1), some (.int x2), some (.int w5.1), some (.int w5.2), none, none, none]) (st' := [.ref 161, .int w5.2]) (S1 := zS c s) rfl ?_
  refine zq_get rfl (zh_161 _) rfl rfl rfl ?_
  refine zq_if2 (b := (s.1 161 4) ≤ w5.2) rfl Iff.rfl rfl (fun g1 => ?_) (fun g1 => ?_)
  · rw [if_pos g1] at h
    obtain rfl := Option.some.inj h
    exact zr_wk [none, none, none, some (.int w5.1), none, none, none, none] ⟨rfl, trivial⟩ (hx w5.1 rfl)
  · rw [if_neg g1] at h
    refine zr_many 1 (pc' := 15) (L' := [some (.ref 161), some (.int x1), some (.int x2), some (.int w5.1), some (.int w5.2), none, none, none]) (st' := [.int w5.1]) (S1 := zS c s) rfl ?_
    refine zq_if1 (b := w5.1 = 0) rfl Iff.rfl rfl (fun g2 => ?_) (fun g2 => ?_)
    · rw [if_pos g2] at h
      obtain rfl := Option.some.inj h
      exact zr_wk [none, none, none, some (.int w5.1), none, none, none, none] ⟨rfl, trivial⟩ (hx w5.1 rfl)
    · rw [if_neg g2] at h
      refine zr_many 2 (pc' := 21) (L' := [some (.ref 161), some (.int x1), some (.int x2), some (.int w5.1), some (.int w5.2), none, none, none]) (st' := [.int w5.2, .int x1]) (S1 := zS c s) rfl ?_
      obtain ⟨r3, g5, h⟩ := zp_inv h
      refine zq_scall1 rfl (by decide) rfl rfl ((tX12_has g5).up (by decide)) rfl ?_
      refine zq_if1 (b := r3 = 0) rfl Iff.rfl rfl (fun g6 => ?_) (fun g6 => ?_)
      · rw [if_pos g6] at h
        refine zr_many 1 (pc' := 39) (L' := [some (.ref 161), some (.int x1), some (.int x2), some (.int w5.1), some (.int w5.2), none, none, none]) (st' := [.int (0 : Int32)]) (S1 := zS c s) rfl ?_
        exact zr_wk [some (.ref 161), some (.int x1), some (.int x2), none, some (.int w5.2), none, none, none] ⟨rfl, rfl, rfl, rfl, trivial⟩ (tX12_isParted_J39 h hn hx)
      · rw [if_neg g6] at h
        refine zr_many 8 (pc' := 39) (L' := [some (.ref 161), some (.int x1), some (.int x2), some (.int w5.1), some (.int w5.2), none, none, none]) (st' := [.int (x1 &&& (((1 : Int32) <<< (w5.2 &&& 31)) ^^^ (-1 : Int32)))]) (S1 := zS c s) rfl ?_
        exact zr_wk [some (.ref 161), some (.int x1), some (.int x2), none, some (.int w5.2), none, none, none] ⟨rfl, rfl, rfl, rfl, trivial⟩ (tX12_isParted_J39 h hn hx)
def fX12_isParted_J124 (n : Nat) (s : zs) (x3 : Int32) : Option Int32 := if x3 = 0 ∨ x3 = 1 then some x3 else none
theorem tX12_isParted_J124 {n : Nat} {c : Nat × Nat} {s : zs} {x3 : Int32} {r : Int32} (h : fX12_isParted_J124 n s x3 = some r) : zr kX12_isParted 2 2 124 [none, none, none, some (.int x3), none, none, none, none] [] (zS c s) (some (.int r)) (zS c s) := by
  unfold fX12_isParted_J124 at h
  refine zr_many 1 (pc' := 125) (L' := [none, none, none, some (.int x3), none, none, none, none]) (st' := [.int x3]) (S1 := zS c s) rfl ?_
  obtain ⟨gz, h⟩ := zt_inv h
  obtain rfl := Option.some.inj h
  exact zq_zret rfl gz
def fX12_isParted (n : Nat) (s : zs) (x1 : Int32) (x2 : Int32) : Option Int32 := zp (zl (fX12_isParted_B5 n s x1 x2) n ((1 : Int32), (0 : Int32))) (fun w23 => fX12_isParted_J124 n s w23)
theorem tX12_isParted {n : Nat} {c : Nat × Nat} {s : zs} {x1 : Int32} {x2 : Int32} {r : Int32} (h : fX12_isParted n s x1 x2 = some r) : zc 3 2500 [.ref 161, .int x1, .int x2] (zS c s) (some (.int r)) (zS c s) := by
  refine zc_of (k := kX12_isParted) (rt := 2) (L := [some (.ref 161), some (.int x1), some (.int x2), none, none, none, none, none]) zm_2500.1 rfl rfl (by decide) rfl rfl ?_
  unfold fX12_isParted at h
  refine zr_many 4 (pc' := 5) (L' := [some (.ref 161), some (.int x1), some (.int x2), some (.int (1 : Int32)), some (.int (0 : Int32)), none, none, none]) (st' := []) (S1 := zS c s) rfl ?_
  obtain ⟨w23, g24, h⟩ := zp_inv h
  refine zr_wk [some (.ref 161), some (.int x1), some (.int x2), some (.int (1 : Int32)), some (.int (0 : Int32)), none, none, none] ⟨rfl, rfl, rfl, rfl, rfl, trivial⟩ (zl_cert (Z := fun w5 => zr kX12_isParted 2 2 5 [some (.ref 161), some (.int x1), some (.int x2), some (.int w5.1), some (.int w5.2), none, none, none] [] (zS c s) _ _) (Y := (fun z => zr kX12_isParted 2 2 124 [none, none, none, some (.int z), none, none, none, none] [] (zS c s) _ _)) (fun w o h1 h2 h3 => tX12_isParted_B5 h1 h2 h3) n _ _ g24 ?_)
  show zr kX12_isParted 2 2 124 [none, none, none, some (.int w23), none, none, none, none] [] (zS c s) _ _
  exact zr_wk [none, none, none, some (.int w23), none, none, none, none] ⟨rfl, trivial⟩ (tX12_isParted_J124 h)
def fX12_bets_B36 (n : Nat) (x1 : Int32) (x3 : Int64) (w36 : Int64 × Int32 × zs) : Option ((Int64 × Int32 × zs) ⊕ (Int64 × zs)) := if x1 ≤ w36.2.1 then some (Sum.inr (w36.1, w36.2.2)) else some (Sum.inl ((w36.1 * x3), (w36.2.1 + (1 : Int32)), (zsl w36.2.2 161 49 ((w36.2.2.2 161 49) * (10000 : Int64)))))
theorem tX12_bets_B36 {n : Nat} {c : Nat × Nat} {x1 : Int32} {x3 : Int64} {w36 : Int64 × Int32 × zs} {o : _} {v : Option Value} {S' : zi_S} (h : fX12_bets_B36 n x1 x3 w36 = some o) (hn : ∀ w36, o = Sum.inl w36 → zr kX12_bets 0 0 36 [some (.ref 161), some (.int x1), none, some (.long x3), none, some (.long w36.1), none, some (.int w36.2.1)] [] (zS c w36.2.2) v S') (hx : ∀ z, o = Sum.inr z → (fun z => zr kX12_bets 0 0 66 [some (.ref 161), none, none, none, none, some (.long z.1), none, none] [] (zS c z.2) v S') z) : zr kX12_bets 0 0 36 [some (.ref 161), some (.int x1), none, some (.long x3), none, some (.long w36.1), none, some (.int w36.2.1)] [] (zS c w36.2.2) v S' := by
  unfold fX12_bets_B36 at h
  refine zr_many 2 (pc' := 39) (L' := [some (.ref 161), some (.int x1), none, some (.long x3), none, some (.long w36.1), none, some (.int w36.2.1)]) (st' := [.int x1, .int w36.2.1]) (S1 := zS c w36.2.2) rfl ?_
  refine zq_if2 (b := x1 ≤ w36.2.1) rfl Iff.rfl rfl (fun g1 => ?_) (fun g1 => ?_)
  · rw [if_pos g1] at h
    obtain rfl := Option.some.inj h
    exact zr_wk [some (.ref 161), none, none, none, none, some (.long w36.1), none, none] ⟨rfl, rfl, trivial⟩ (hx (w36.1, w36.2.2) rfl)
  · rw [if_neg g1] at h
    refine zr_many 6 (pc' := 50) (L' := [some (.ref 161), some (.int x1), none, some (.long x3), none, some (.long (w36.1 * x3)), none, some (.int w36.2.1)]) (st' := [.ref 161, .ref 161]) (S1 := zS c w36.2.2) rfl ?_
    refine zq_get rfl (zh_161 _) rfl rfl rfl ?_
    refine zr_many 2 (pc' := 57) (L' := [some (.ref 161), some (.int x1), none, some (.long x3), none, some (.long (w36.1 * x3)), none, some (.int w36.2.1)]) (st' := [.long ((w36.2.2.2 161 49) * (10000 : Int64)), .ref 161]) (S1 := zS c w36.2.2) rfl ?_
    refine zq_put (s' := (zsl w36.2.2 161 49 ((w36.2.2.2 161 49) * (10000 : Int64)))) rfl (zh_161 _) rfl rfl rfl rfl zsl_ne rfl ?_
    refine zr_many 2 (pc' := 36) (L' := [some (.ref 161), some (.int x1), none, some (.long x3), none, some (.long (w36.1 * x3)), none, some (.int (w36.2.1 + (1 : Int32)))]) (st' := []) (S1 := zS c (zsl w36.2.2 161 49 ((w36.2.2.2 161 49) * (10000 : Int64)))) rfl ?_
    obtain rfl := Option.some.inj h
    exact zr_wk [some (.ref 161), some (.int x1), none, some (.long x3), none, some (.long (w36.1 * x3)), none, some (.int (w36.2.1 + (1 : Int32)))] ⟨rfl, rfl, rfl, rfl, rfl, trivial⟩ (hn ((w36.1 * x3), (w36.2.1 + (1 : Int32)), (zsl w36.2.2 161 49 ((w36.2.2.2 161 49) * (10000 : Int64)))) rfl)
def fX12_bets (n : Nat) (s : zs) (x1 : Int32) (x2 : Int32) : Option zs := zp (zl (fX12_bets_B36 n x1 (((10000 : Int32) - (((((10 : Int32) - x2) * ((10 : Int32) - x2)) * ((10 : Int32) - x2)) * ((10 : Int32) - x2))).toInt64)) n ((1 : Int64), (0 : Int32), (zsl s 161 49 (1 : Int64)))) (fun w2 => some (zsl w2.2 161 48 ((w2.2.2 161 49) - w2.1)))
theorem tX12_bets {n : Nat} {c : Nat × Nat} {s : zs} {x1 : Int32} {x2 : Int32} {s' : zs} (h : fX12_bets n s x1 x2 = some s') : zc 1 2503 [.ref 161, .int x1, .int x2] (zS c s) none (zS c s') := by
  refine zc_of (k := kX12_bets) (rt := 0) (L := [some (.ref 161), some (.int x1), some (.int x2), none, none, none, none, none]) zm_2503.1 rfl rfl (by decide) rfl rfl ?_
  unfold fX12_bets at h
  refine zr_many 23 (pc' := 30) (L' := [some (.ref 161), some (.int x1), some (.int x2), some (.long ((10000 : Int32) - (((((10 : Int32) - x2) * ((10 : Int32) - x2)) * ((10 : Int32) - x2)) * ((10 : Int32) - x2))).toInt64), none, some (.long (1 : Int64)), none, none]) (st' := [.long (1 : Int64), .ref 161]) (S1 := zS c s) rfl ?_
  refine zq_put (s' := (zsl s 161 49 (1 : Int64))) rfl (zh_161 _) rfl rfl rfl rfl zsl_ne rfl ?_
  refine zr_many 2 (pc' := 36) (L' := [some (.ref 161), some (.int x1), some (.int x2), some (.long ((10000 : Int32) - (((((10 : Int32) - x2) * ((10 : Int32) - x2)) * ((10 : Int32) - x2)) * ((10 : Int32) - x2))).toInt64), none, some (.long (1 : Int64)), none, some (.int (0 : Int32))]) (st' := []) (S1 := zS c (zsl s 161 49 (1 : Int64))) rfl ?_
  obtain ⟨w2, g3, h⟩ := zp_inv h
  refine zr_wk [some (.ref 161), some (.int x1), none, some (.long ((10000 : Int32) - (((((10 : Int32) - x2) * ((10 : Int32) - x2)) * ((10 : Int32) - x2)) * ((10 : Int32) - x2))).toInt64), none, some (.long (1 : Int64)), none, some (.int (0 : Int32))] ⟨rfl, rfl, rfl, rfl, rfl, trivial⟩ (zl_cert (Z := fun w36 => zr kX12_bets 0 0 36 [some (.ref 161), some (.int x1), none, some (.long ((10000 : Int32) - (((((10 : Int32) - x2) * ((10 : Int32) - x2)) * ((10 : Int32) - x2)) * ((10 : Int32) - x2))).toInt64), none, some (.long w36.1), none, some (.int w36.2.1)] [] (zS c w36.2.2) _ _) (Y := (fun z => zr kX12_bets 0 0 66 [some (.ref 161), none, none, none, none, some (.long z.1), none, none] [] (zS c z.2) _ _)) (fun w o h1 h2 h3 => tX12_bets_B36 h1 h2 h3) n _ _ g3 ?_)
  show zr kX12_bets 0 0 66 [some (.ref 161), none, none, none, none, some (.long w2.1), none, none] [] (zS c w2.2) _ _
  refine zr_many 2 (pc' := 68) (L' := [some (.ref 161), none, none, none, none, some (.long w2.1), none, none]) (st' := [.ref 161, .ref 161]) (S1 := zS c w2.2) rfl ?_
  refine zq_get rfl (zh_161 _) rfl rfl rfl ?_
  refine zr_many 2 (pc' := 74) (L' := [some (.ref 161), none, none, none, none, some (.long w2.1), none, none]) (st' := [.long ((w2.2.2 161 49) - w2.1), .ref 161]) (S1 := zS c w2.2) rfl ?_
  refine zq_put (s' := (zsl w2.2 161 48 ((w2.2.2 161 49) - w2.1))) rfl (zh_161 _) rfl rfl rfl rfl zsl_ne rfl ?_
  obtain rfl := Option.some.inj h
  exact zq_vret rfl
def fX12_tries_J29 (n : Nat) (s : zs) : Option (Int32 × zs) := some ((-1 : Int32), s)
theorem tX12_tries_J29 {n : Nat} {c : Nat × Nat} {s : zs} {r : Int32} {s' : zs} (h : fX12_tries_J29 n s = some (r, s')) : zr kX12_tries 1 1 29 [none, none, none, none] [] (zS c s) (some (.int r)) (zS c s') := by
  unfold fX12_tries_J29 at h
  refine zr_many 1 (pc' := 30) (L' := [none, none, none, none]) (st' := [.int (-1 : Int32)]) (S1 := zS c s) rfl ?_
  obtain ⟨rfl, rfl⟩ := Prod.mk.inj (Option.some.inj h)
  exact zq_iret rfl
def fX12_tries_B33 (n : Nat) (x1 : Int32) (x2 : Int32) (w33 : Int32 × zs) : Option ((Int32 × zs) ⊕ ((Int32 × zs) ⊕ (zs))) := if (4 : Int32) < w33.1 then some (Sum.inr (Sum.inr w33.2)) else zp (fX12_bets n w33.2 w33.1 x1) (fun s11 => if (lg_cmp ((100 : Int64) * (s11.2 161 48)) (x2.toInt64 * (s11.2 161 49))) < 0 then some (Sum.inl ((w33.1 + (1 : Int32)), s11)) else some (Sum.inr (Sum.inl (w33.1, s11))))
theorem tX12_tries_B33 {n : Nat} {c : Nat × Nat} {x1 : Int32} {x2 : Int32} {w33 : Int32 × zs} {o : _} {v : Option Value} {S' : zi_S} (h : fX12_tries_B33 n x1 x2 w33 = some o) (hn : ∀ w33, o = Sum.inl w33 → zr kX12_tries 1 1 33 [some (.ref 161), some (.int x1), some (.int x2), some (.int w33.1)] [] (zS c w33.2) v S') (hx : ∀ z, o = Sum.inr z → (Sum.elim (fun z => zr kX12_tries 1 1 63 [none, none, none, some (.int z.1)] [] (zS c z.2) v S') (fun z => zr kX12_tries 1 1 71 [none, none, none, none] [] (zS c z) v S')) z) : zr kX12_tries 1 1 33 [some (.ref 161), some (.int x1), some (.int x2), some (.int w33.1)] [] (zS c w33.2) v S' := by
  unfold fX12_tries_B33 at h
  refine zr_many 2 (pc' := 35) (L' := [some (.ref 161), some (.int x1), some (.int x2), some (.int w33.1)]) (st' := [.int (4 : Int32), .int w33.1]) (S1 := zS c w33.2) rfl ?_
  refine zq_if2 (b := (4 : Int32) < w33.1) rfl Iff.rfl rfl (fun g9 => ?_) (fun g9 => ?_)
  · rw [if_pos g9] at h
    obtain rfl := Option.some.inj h
    exact zr_wk [none, none, none, none] trivial (hx (Sum.inr w33.2) rfl)
  · rw [if_neg g9] at h
    refine zr_many 3 (pc' := 41) (L' := [some (.ref 161), some (.int x1), some (.int x2), some (.int w33.1)]) (st' := [.int x1, .int w33.1, .ref 161]) (S1 := zS c w33.2) rfl ?_
    obtain ⟨s11, g12, h⟩ := zp_inv h
    refine zq_call0 rfl rfl (zh_161 _) rfl rfl rfl (tX12_bets g12) rfl ?_
    refine zr_many 2 (pc' := 48) (L' := [some (.ref 161), some (.int x1), some (.int x2), some (.int w33.1)]) (st' := [.ref 161, .long (100 : Int64)]) (S1 := zS c s11) rfl ?_
    refine zq_get rfl (zh_161 _) rfl rfl rfl ?_
    refine zr_many 4 (pc' := 55) (L' := [some (.ref 161), some (.int x1), some (.int x2), some (.int w33.1)]) (st' := [.ref 161, .long x2.toInt64, .long ((100 : Int64) * (s11.2 161 48))]) (S1 := zS c s11) rfl ?_
    refine zq_get rfl (zh_161 _) rfl rfl rfl ?_
    refine zr_many 2 (pc' := 60) (L' := [some (.ref 161), some (.int x1), some (.int x2), some (.int w33.1)]) (st' := [.int (lg_cmp ((100 : Int64) * (s11.2 161 48)) (x2.toInt64 * (s11.2 161 49)))]) (S1 := zS c s11) rfl ?_
    refine zq_if1 (b := (lg_cmp ((100 : Int64) * (s11.2 161 48)) (x2.toInt64 * (s11.2 161 49))) < 0) rfl Iff.rfl rfl (fun g13 => ?_) (fun g13 => ?_)
    · rw [if_pos g13] at h
      refine zr_many 2 (pc' := 33) (L' := [some (.ref 161), some (.int x1), some (.int x2), some (.int (w33.1 + (1 : Int32)))]) (st' := []) (S1 := zS c s11) rfl ?_
      obtain rfl := Option.some.inj h
      exact zr_wk [some (.ref 161), some (.int x1), some (.int x2), some (.int (w33.1 + (1 : Int32)))] ⟨rfl, rfl, rfl, rfl, trivial⟩ (hn ((w33.1 + (1 : Int32)), s11) rfl)
    · rw [if_neg g13] at h
      obtain rfl := Option.some.inj h
      exact zr_wk [none, none, none, some (.int w33.1)] ⟨rfl, trivial⟩ (hx (Sum.inl (w33.1, s11)) rfl)
def fX12_tries (n : Nat) (s : zs) (x1 : Int32) (x2 : Int32) : Option (Int32 × zs) := zp (fX12_in n (zsi s 161 0 (0 : Int32)) x1.toInt64 (0 : Int64) (10 : Int64)) (fun r1 => if r1 = 0 then fX12_tries_J29 n (zsi s 161 0 (0 : Int32)) else zp (fX12_in n (zsi s 161 0 (0 : Int32)) x2.toInt64 (0 : Int64) (100 : Int64)) (fun r5 => if ¬ r5 = 0 then zp (zl (fX12_tries_B33 n x1 x2) n ((1 : Int32), (zsi s 161 0 (0 : Int32)))) (Sum.elim (fun w14 => some (w14.1, w14.2)) (fun w15 => some ((-2 : Int32), w15))) else fX12_tries_J29 n (zsi s 161 0 (0 : Int32))))
theorem tX12_tries {n : Nat} {c : Nat × Nat} {s : zs} {x1 : Int32} {x2 : Int32} {r : Int32} {s' : zs} (h : fX12_tries n s x1 x2 = some (r, s')) : zc 2 2505 [.ref 161, .int x1, .int x2] (zS c s) (some (.int r)) (zS c s') := by
  refine zc_of (k := kX12_tries) (rt := 1) (L := [some (.ref 161), some (.int x1), some (.int x2), none]) zm_2505.1 rfl rfl (by decide) rfl rfl ?_
  unfold fX12_tries at h
  refine zr_many 2 (pc' := 2) (L' := [some (.ref 161), some (.int x1), some (.int x2), none]) (st' := [.int (0 : Int32), .ref 161]) (S1 := zS c s) rfl ?_
  refine zq_put (s' := (zsi s 161 0 (0 : Int32))) rfl (zh_161 _) rfl rfl rfl rfl zsi_ne rfl ?_
  refine zr_many 4 (pc' := 11) (L' := [some (.ref 161), some (.int x1), some (.int x2), none]) (st' := [.long (10 : Int64), .long (0 : Int64), .long x1.toInt64]) (S1 := zS c (zsi s 161 0 (0 : Int32))) rfl ?_
  obtain ⟨r1, g3, h⟩ := zp_inv h
  refine zq_scall1 rfl (by decide) rfl rfl (tX12_in g3) rfl ?_
  refine zq_if1 (b := r1 = 0) rfl Iff.rfl rfl (fun g4 => ?_) (fun g4 => ?_)
  · rw [if_pos g4] at h
    exact zr_wk [none, none, none, none] trivial (tX12_tries_J29 h)
  · rw [if_neg g4] at h
    refine zr_many 4 (pc' := 23) (L' := [some (.ref 161), some (.int x1), some (.int x2), none]) (st' := [.long (100 : Int64), .long (0 : Int64), .long x2.toInt64]) (S1 := zS c (zsi s 161 0 (0 : Int32))) rfl ?_
    obtain ⟨r5, g7, h⟩ := zp_inv h
    refine zq_scall1 rfl (by decide) rfl rfl (tX12_in g7) rfl ?_
    refine zq_if1 (b := ¬ r5 = 0) rfl Iff.rfl rfl (fun g8 => ?_) (fun g8 => ?_)
    · rw [if_pos g8] at h
      refine zr_many 2 (pc' := 33) (L' := [some (.ref 161), some (.int x1), some (.int x2), some (.int (1 : Int32))]) (st' := []) (S1 := zS c (zsi s 161 0 (0 : Int32))) rfl ?_
      obtain ⟨w17, g16, h⟩ := zp_inv h
      rcases w17 with w14 | w15
      · simp only [Sum.elim_inl, Sum.elim_inr] at h
        refine zr_wk [some (.ref 161), some (.int x1), some (.int x2), some (.int (1 : Int32))] ⟨rfl, rfl, rfl, rfl, trivial⟩ (zl_cert (Z := fun w33 => zr kX12_tries 1 1 33 [some (.ref 161), some (.int x1), some (.int x2), some (.int w33.1)] [] (zS c w33.2) _ _) (Y := (Sum.elim (fun z => zr kX12_tries 1 1 63 [none, none, none, some (.int z.1)] [] (zS c z.2) _ _) (fun z => zr kX12_tries 1 1 71 [none, none, none, none] [] (zS c z) _ _))) (fun w o h1 h2 h3 => tX12_tries_B33 h1 h2 h3) n _ _ g16 ?_)
        show zr kX12_tries 1 1 63 [none, none, none, some (.int w14.1)] [] (zS c w14.2) _ _
        refine zr_many 1 (pc' := 64) (L' := [none, none, none, some (.int w14.1)]) (st' := [.int w14.1]) (S1 := zS c w14.2) rfl ?_
        obtain ⟨rfl, rfl⟩ := Prod.mk.inj (Option.some.inj h)
        exact zq_iret rfl
      · simp only [Sum.elim_inl, Sum.elim_inr] at h
        refine zr_wk [some (.ref 161), some (.int x1), some (.int x2), some (.int (1 : Int32))] ⟨rfl, rfl, rfl, rfl, trivial⟩ (zl_cert (Z := fun w33 => zr kX12_tries 1 1 33 [some (.ref 161), some (.int x1), some (.int x2), some (.int w33.1)] [] (zS c w33.2) _ _) (Y := (Sum.elim (fun z => zr kX12_tries 1 1 63 [none, none, none, some (.int z.1)] [] (zS c z.2) _ _) (fun z => zr kX12_tries 1 1 71 [none, none, none, none] [] (zS c z) _ _))) (fun w o h1 h2 h3 => tX12_tries_B33 h1 h2 h3) n _ _ g16 ?_)
        show zr kX12_tries 1 1 71 [none, none, none, none] [] (zS c w15) _ _
        refine zr_many 1 (pc' := 73) (L' := [none, none, none, none]) (st' := [.int (-2 : Int32)]) (S1 := zS c w15) rfl ?_
        obtain ⟨rfl, rfl⟩ := Prod.mk.inj (Option.some.inj h)
        exact zq_iret rfl
    · rw [if_neg g8] at h
      exact zr_wk [none, none, none, none] trivial (tX12_tries_J29 h)
def fX12_earns_J25 (n : Nat) (s : zs) (y0 : Int32) : Option Int32 := some y0
theorem tX12_earns_J25 {n : Nat} {c : Nat × Nat} {s : zs} {y0 : Int32} {r : Int32} (h : fX12_earns_J25 n s y0 = some r) : zr kX12_earns 1 0 25 [none, none, none] [.int y0] (zS c s) (some (.int r)) (zS c s) := by
  unfold fX12_earns_J25 at h
  obtain rfl := Option.some.inj h
  exact zq_iret rfl
def fX12_earns (n : Nat) (s : zs) (x0 : Int32) (x1 : Int32) (x2 : Int32) : Option Int32 := if x1 ≤ x0 then if ¬ x0 = x1 then fX12_earns_J25 n s (0 : Int32) else fX12_earns_J25 n s ((x0 - x2) / (2 : Int32)) else fX12_earns_J25 n s (x0 - x2)
theorem tX12_earns {n : Nat} {c : Nat × Nat} {s : zs} {x0 : Int32} {x1 : Int32} {x2 : Int32} {r : Int32} (h : fX12_earns n s x0 x1 x2 = some r) : zc 1 2506 [.int x0, .int x1, .int x2] (zS c s) (some (.int r)) (zS c s) := by
  refine zc_of (k := kX12_earns) (rt := 1) (L := [some (.int x0), some (.int x1), some (.int x2)]) zm_2506.1 rfl rfl (by decide) rfl rfl ?_
  unfold fX12_earns at h
  refine zr_many 2 (pc' := 2) (L' := [some (.int x0), some (.int x1), some (.int x2)]) (st' := [.int x1, .int x0]) (S1 := zS c s) rfl ?_
  refine zq_if2 (b := x1 ≤ x0) rfl Iff.rfl rfl (fun g1 => ?_) (fun g1 => ?_)
  · rw [if_pos g1] at h
    refine zr_many 2 (pc' := 13) (L' := [some (.int x0), some (.int x1), some (.int x2)]) (st' := [.int x1, .int x0]) (S1 := zS c s) rfl ?_
    refine zq_if2 (b := ¬ x0 = x1) rfl Iff.rfl rfl (fun g2 => ?_) (fun g2 => ?_)
    · rw [if_pos g2] at h
      refine zr_many 1 (pc' := 25) (L' := [some (.int x0), some (.int x1), some (.int x2)]) (st' := [.int (0 : Int32)]) (S1 := zS c s) rfl ?_
      exact zr_wk [none, none, none] trivial (tX12_earns_J25 h)
    · rw [if_neg g2] at h
      refine zr_many 4 (pc' := 20) (L' := [some (.int x0), some (.int x1), some (.int x2)]) (st' := [.int (2 : Int32), .int (x0 - x2)]) (S1 := zS c s) rfl ?_
      refine zq_idiv rfl (by decide) rfl ?_
      refine zr_many 1 (pc' := 25) (L' := [some (.int x0), some (.int x1), some (.int x2)]) (st' := [.int ((x0 - x2) / (2 : Int32))]) (S1 := zS c s) rfl ?_
      exact zr_wk [none, none, none] trivial (tX12_earns_J25 h)
  · rw [if_neg g1] at h
    refine zr_many 4 (pc' := 25) (L' := [some (.int x0), some (.int x1), some (.int x2)]) (st' := [.int (x0 - x2)]) (S1 := zS c s) rfl ?_
    exact zr_wk [none, none, none] trivial (tX12_earns_J25 h)
def fX12_isRest_J37 (n : Nat) (s : zs) (x0 : Int32) (x1 : Int32) (x2 : Int32) (x4 : Int32) (y0 : Int32) : Option ((Int32 × Int32) ⊕ (Int32)) := some (Sum.inl (y0, (x4 + (1 : Int32))))
theorem tX12_isRest_J37 {n : Nat} {c : Nat × Nat} {s : zs} {x0 : Int32} {x1 : Int32} {x2 : Int32} {x4 : Int32} {y0 : Int32} {o : _} {v : Option Value} {S' : zi_S} (h : fX12_isRest_J37 n s x0 x1 x2 x4 y0 = some o) (hn : ∀ w5, o = Sum.inl w5 → zr kX12_isRest 2 1 5 [some (.int x0), some (.int x1), some (.int x2), some (.int w5.1), some (.int w5.2)] [] (zS c s) v S') (hx : ∀ z, o = Sum.inr z → (fun z => zr kX12_isRest 2 1 44 [none, none, none, some (.int z), none] [] (zS c s) v S') z) : zr kX12_isRest 2 1 37 [some (.int x0), some (.int x1), some (.int x2), none, some (.int x4)] [.int y0] (zS c s) v S' := by
  unfold fX12_isRest_J37 at h
  refine zr_many 3 (pc' := 5) (L' := [some (.int x0), some (.int x1), some (.int x2), some (.int y0), some (.int (x4 + (1 : Int32)))]) (st' := []) (S1 := zS c s) rfl ?_
  obtain rfl := Option.some.inj h
  exact zr_wk [some (.int x0), some (.int x1), some (.int x2), some (.int y0), some (.int (x4 + (1 : Int32)))] ⟨rfl, rfl, rfl, rfl, rfl, trivial⟩ (hn (y0, (x4 + (1 : Int32))) rfl)
def fX12_isRest_J36 (n : Nat) (s : zs) (x0 : Int32) (x1 : Int32) (x2 : Int32) (x4 : Int32) : Option ((Int32 × Int32) ⊕ (Int32)) := fX12_isRest_J37 n s x0 x1 x2 x4 (0 : Int32)
theorem tX12_isRest_J36 {n : Nat} {c : Nat × Nat} {s : zs} {x0 : Int32} {x1 : Int32} {x2 : Int32} {x4 : Int32} {o : _} {v : Option Value} {S' : zi_S} (h : fX12_isRest_J36 n s x0 x1 x2 x4 = some o) (hn : ∀ w5, o = Sum.inl w5 → zr kX12_isRest 2 1 5 [some (.int x0), some (.int x1), some (.int x2), some (.int w5.1), some (.int w5.2)] [] (zS c s) v S') (hx : ∀ z, o = Sum.inr z → (fun z => zr kX12_isRest 2 1 44 [none, none, none, some (.int z), none] [] (zS c s) v S') z) : zr kX12_isRest 2 1 36 [some (.int x0), some (.int x1), some (.int x2), none, some (.int x4)] [] (zS c s) v S' := by
  unfold fX12_isRest_J36 at h
  refine zr_many 1 (pc' := 37) (L' := [some (.int x0), some (.int x1), some (.int x2), none, some (.int x4)]) (st' := [.int (0 : Int32)]) (S1 := zS c s) rfl ?_
  exact zr_wk [some (.int x0), some (.int x1), some (.int x2), none, some (.int x4)] ⟨rfl, rfl, rfl, rfl, trivial⟩ (tX12_isRest_J37 h hn hx)
def fX12_isRest_B5 (n : Nat) (s : zs) (x0 : Int32) (x1 : Int32) (x2 : Int32) (w5 : Int32 × Int32) : Option ((Int32 × Int32) ⊕ (Int32)) := if (9 : Int32) < w5.2 then some (Sum.inr w5.1) else if w5.1 = 0 then fX12_isRest_J36 n s x0 x1 x2 w5.2 else zp (fX12_earns n s w5.2 x1 x2) (fun r3 => zp (fX12_earns n s x0 x1 x2) (fun r6 => if r6 < r3 then fX12_isRest_J36 n s x0 x1 x2 w5.2 else fX12_isRest_J37 n s x0 x1 x2 w5.2 (1 : Int32)))
theorem tX12_isRest_B5 {n : Nat} {c : Nat × Nat} {s : zs} {x0 : Int32} {x1 : Int32} {x2 : Int32} {w5 : Int32 × Int32} {o : _} {v : Option Value} {S' : zi_S} (h : fX12_isRest_B5 n s x0 x1 x2 w5 = some o) (hn : ∀ w5, o = Sum.inl w5 → zr kX12_isRest 2 1 5 [some (.int x0), some (.int x1), some (.int x2), some (.int w5.1), some (.int w5.2)] [] (zS c s) v S') (hx : ∀ z, o = Sum.inr z → (fun z => zr kX12_isRest 2 1 44 [none, none, none, some (.int z), none] [] (zS c s) v S') z) : zr kX12_isRest 2 1 5 [some (.int x0), some (.int x1), some (.int x2), some (.int w5.1), some (.int w5.2)] [] (zS c s) v S' := by
  unfold fX12_isRest_B5 at h
  refine zr_many 2 (pc' := 9) (L' := [some (.int x0), some (.int x1), some (.int x2), some (.int w5.1), some (.int w5.2)]) (st' := [.int (9 : Int32), .int w5.2]) (S1 := zS c s) rfl ?_
  refine zq_if2 (b := (9 : Int32) < w5.2) rfl Iff.rfl rfl (fun g1 => ?_) (fun g1 => ?_)
  · rw [if_pos g1] at h
    obtain rfl := Option.some.inj h
    exact zr_wk [none, none, none, some (.int w5.1), none] ⟨rfl, trivial⟩ (hx w5.1 rfl)
  · rw [if_neg g1] at h
    refine zr_many 1 (pc' := 13) (L' := [some (.int x0), some (.int x1), some (.int x2), some (.int w5.1), some (.int w5.2)]) (st' := [.int w5.1]) (S1 := zS c s) rfl ?_
    refine zq_if1 (b := w5.1 = 0) rfl Iff.rfl rfl (fun g2 => ?_) (fun g2 => ?_)
    · rw [if_pos g2] at h
      exact zr_wk [some (.int x0), some (.int x1), some (.int x2), none, some (.int w5.2)] ⟨rfl, rfl, rfl, rfl, trivial⟩ (tX12_isRest_J36 h hn hx)
    · rw [if_neg g2] at h
      refine zr_many 3 (pc' := 20) (L' := [some (.int x0), some (.int x1), some (.int x2), some (.int w5.1), some (.int w5.2)]) (st' := [.int x2, .int x1, .int w5.2]) (S1 := zS c s) rfl ?_
      obtain ⟨r3, g5, h⟩ := zp_inv h
      refine zq_scall1 rfl (by decide) rfl rfl (tX12_earns g5) rfl ?_
      refine zr_many 3 (pc' := 26) (L' := [some (.int x0), some (.int x1), some (.int x2), some (.int w5.1), some (.int w5.2)]) (st' := [.int x2, .int x1, .int x0, .int r3]) (S1 := zS c s) rfl ?_
      obtain ⟨r6, g8, h⟩ := zp_inv h
      refine zq_scall1 rfl (by decide) rfl rfl (tX12_earns g8) rfl ?_
      refine zq_if2 (b := r6 < r3) rfl Iff.rfl rfl (fun g9 => ?_) (fun g9 => ?_)
      · rw [if_pos g9] at h
        exact zr_wk [some (.int x0), some (.int x1), some (.int x2), none, some (.int w5.2)] ⟨rfl, rfl, rfl, rfl, trivial⟩ (tX12_isRest_J36 h hn hx)
      · rw [if_neg g9] at h
        refine zr_many 2 (pc' := 37) (L' := [some (.int x0), some (.int x1), some (.int x2), some (.int w5.1), some (.int w5.2)]) (st' := [.int (1 : Int32)]) (S1 := zS c s) rfl ?_
        exact zr_wk [some (.int x0), some (.int x1), some (.int x2), none, some (.int w5.2)] ⟨rfl, rfl, rfl, rfl, trivial⟩ (tX12_isRest_J37 h hn hx)
def fX12_isRest (n : Nat) (s : zs) (x0 : Int32) (x1 : Int32) (x2 : Int32) : Option Int32 := zp (zl (fX12_isRest_B5 n s x0 x1 x2) n ((1 : Int32), (0 : Int32))) (fun w10 => if w10 = 0 ∨ w10 = 1 then some w10 else none)
theorem tX12_isRest {n : Nat} {c : Nat × Nat} {s : zs} {x0 : Int32} {x1 : Int32} {x2 : Int32} {r : Int32} (h : fX12_isRest n s x0 x1 x2 = some r) : zc 2 2507 [.int x0, .int x1, .int x2] (zS c s) (some (.int r)) (zS c s) := by
  refine zc_of (k := kX12_isRest) (rt := 2) (L := [some (.int x0), some (.int x1), some (.int x2), none, none]) zm_2507.1 rfl rfl (by decide) rfl rfl ?_
  unfold fX12_isRest at h
  refine zr_many 4 (pc' := 5) (L' := [some (.int x0), some (.int x1), some (.int x2), some (.int (1 : Int32)), some (.int (0 : Int32))]) (st' := []) (S1 := zS c s) rfl ?_
  obtain ⟨w10, g11, h⟩ := zp_inv h
  refine zr_wk [some (.int x0), some (.int x1), some (.int x2), some (.int (1 : Int32)), some (.int (0 : Int32))] ⟨rfl, rfl, rfl, rfl, rfl, trivial⟩ (zl_cert (Z := fun w5 => zr kX12_isRest 2 1 5 [some (.int x0), some (.int x1), some (.int x2), some (.int w5.1), some (.int w5.2)] [] (zS c s) _ _) (Y := (fun z => zr kX12_isRest 2 1 44 [none, none, none, some (.int z), none] [] (zS c s) _ _)) (fun w o h1 h2 h3 => tX12_isRest_B5 h1 h2 h3) n _ _ g11 ?_)
  show zr kX12_isRest 2 1 44 [none, none, none, some (.int w10), none] [] (zS c s) _ _
  refine zr_many 1 (pc' := 45) (L' := [none, none, none, some (.int w10), none]) (st' := [.int w10]) (S1 := zS c s) rfl ?_
  obtain ⟨gz, h⟩ := zt_inv h
  obtain rfl := Option.some.inj h
  exact zq_zret rfl gz
def fX12_rests_J84 (n : Nat) (s : zs) (x1 : Int32) (x2 : Int32) (x3 : Int32) (x4 : Int32) : Option ((Int32 × Int32 × zs) ⊕ (Int32 × zs)) := some (Sum.inl (x2, (x4 + (1 : Int32)), s))
theorem tX12_rests_J84 {n : Nat} {c : Nat × Nat} {s : zs} {x1 : Int32} {x2 : Int32} {x3 : Int32} {x4 : Int32} {o : _} {v : Option Value} {S' : zi_S} (h : fX12_rests_J84 n s x1 x2 x3 x4 = some o) (hn : ∀ w37, o = Sum.inl w37 → zr kX12_rests 1 2 37 [some (.ref 161), some (.int x1), some (.int w37.1), some (.int x3), some (.int w37.2.1)] [] (zS c w37.2.2) v S') (hx : ∀ z, o = Sum.inr z → (fun z => zr kX12_rests 1 2 90 [some (.ref 161), some (.int x1), some (.int z.1), some (.int x3), none] [] (zS c z.2) v S') z) : zr kX12_rests 1 2 84 [some (.ref 161), some (.int x1), some (.int x2), some (.int x3), some (.int x4)] [] (zS c s) v S' := by
  unfold fX12_rests_J84 at h
  refine zr_many 2 (pc' := 37) (L' := [some (.ref 161), some (.int x1), some (.int x2), some (.int x3), some (.int (x4 + (1 : Int32)))]) (st' := []) (S1 := zS c s) rfl ?_
  obtain rfl := Option.some.inj h
  exact zr_wk [some (.ref 161), some (.int x1), some (.int x2), some (.int x3), some (.int (x4 + (1 : Int32)))] ⟨rfl, rfl, rfl, rfl, rfl, trivial⟩ (hn (x2, (x4 + (1 : Int32)), s) rfl)
def fX12_rests_J81 (n : Nat) (s : zs) (x1 : Int32) (x2 : Int32) (x3 : Int32) (x4 : Int32) : Option ((Int32 × Int32 × zs) ⊕ (Int32 × zs)) := fX12_rests_J84 n s x1 (x2 + (1 : Int32)) x3 x4
theorem tX12_rests_J81 {n : Nat} {c : Nat × Nat} {s : zs} {x1 : Int32} {x2 : Int32} {x3 : Int32} {x4 : Int32} {o : _} {v : Option Value} {S' : zi_S} (h : fX12_rests_J81 n s x1 x2 x3 x4 = some o) (hn : ∀ w37, o = Sum.inl w37 → zr kX12_rests 1 2 37 [some (.ref 161), some (.int x1), some (.int w37.1), some (.int x3), some (.int w37.2.1)] [] (zS c w37.2.2) v S') (hx : ∀ z, o = Sum.inr z → (fun z => zr kX12_rests 1 2 90 [some (.ref 161), some (.int x1), some (.int z.1), some (.int x3), none] [] (zS c z.2) v S') z) : zr kX12_rests 1 2 81 [some (.ref 161), some (.int x1), some (.int x2), some (.int x3), some (.int x4)] [] (zS c s) v S' := by
  unfold fX12_rests_J81 at h
  refine zr_many 1 (pc' := 84) (L' := [some (.ref 161), some (.int x1), some (.int (x2 + (1 : Int32))), some (.int x3), some (.int x4)]) (st' := []) (S1 := zS c s) rfl ?_
  exact zr_wk [some (.ref 161), some (.int x1), some (.int (x2 + (1 : Int32))), some (.int x3), some (.int x4)] ⟨rfl, rfl, rfl, rfl, rfl, trivial⟩ (tX12_rests_J84 h hn hx)
def fX12_rests_B37 (n : Nat) (x1 : Int32) (x3 : Int32) (w37 : Int32 × Int32 × zs) : Option ((Int32 × Int32 × zs) ⊕ (Int32 × zs)) := if (9 : Int32) < w37.2.1 then some (Sum.inr (w37.1, w37.2.2)) else zp (fX12_isRest n w37.2.2 x3 w37.2.1 x1) (fun r9 => if r9 = 0 then fX12_rests_J84 n w37.2.2 x1 w37.1 x3 w37.2.1 else zp (fX12_isRest n w37.2.2 w37.2.1 x3 x1) (fun r13 => if r13 = 0 then fX12_rests_J84 n w37.2.2 x1 w37.1 x3 w37.2.1 else if ¬ w37.1 = 0 then fX12_rests_J81 n w37.2.2 x1 w37.1 x3 w37.2.1 else zp (fX12_enters n w37.2.2 x3.toInt64) (fun s19 => zp (fX12_enters n s19 w37.2.1.toInt64) (fun s22 => fX12_rests_J81 n s22 x1 w37.1 x3 w37.2.1))))
theorem tX12_rests_B37 {n : Nat} {c : Nat × Nat} {x1 : Int32} {x3 : Int32} {w37 : Int32 × Int32 × zs} {o : _} {v : Option Value} {S' : zi_S} (h : fX12_rests_B37 n x1 x3 w37 = some o) (hn : ∀ w37, o = Sum.inl w37 → zr kX12_rests 1 2 37 [some (.ref 161), some (.int x1), some (.int w37.1), some (.int x3), some (.int w37.2.1)] [] (zS c w37.2.2) v S') (hx : ∀ z, o = Sum.inr z → (fun z => zr kX12_rests 1 2 90 [some (.ref 161), some (.int x1), some (.int z.1), some (.int x3), none] [] (zS c z.2) v S') z) : zr kX12_rests 1 2 37 [some (.ref 161), some (.int x1), some (.int w37.1), some (.int x3), some (.int w37.2.1)] [] (zS c w37.2.2) v S' := by
  unfold fX12_rests_B37 at h
  refine zr_many 2 (pc' := 41) (L' := [some (.ref 161), some (.int x1), some (.int w37.1), some (.int x3), some (.int w37.2.1)]) (st' := [.int (9 : Int32), .int w37.2.1]) (S1 := zS c w37.2.2) rfl ?_
  refine zq_if2 (b := (9 : Int32) < w37.2.1) rfl Iff.rfl rfl (fun g8 => ?_) (fun g8 => ?_)
  · rw [if_pos g8] at h
    obtain rfl := Option.some.inj h
    exact zr_wk [some (.ref 161), some (.int x1), some (.int w37.1), some (.int x3), none] ⟨rfl, rfl, rfl, rfl, trivial⟩ (hx (w37.1, w37.2.2) rfl)
  · rw [if_neg g8] at h
    refine zr_many 3 (pc' := 48) (L' := [some (.ref 161), some (.int x1), some (.int w37.1), some (.int x3), some (.int w37.2.1)]) (st' := [.int x1, .int w37.2.1, .int x3]) (S1 := zS c w37.2.2) rfl ?_
    obtain ⟨r9, g11, h⟩ := zp_inv h
    refine zq_scall1 rfl (by decide) rfl rfl (tX12_isRest g11) rfl ?_
    refine zq_if1 (b := r9 = 0) rfl Iff.rfl rfl (fun g12 => ?_) (fun g12 => ?_)
    · rw [if_pos g12] at h
      exact zr_wk [some (.ref 161), some (.int x1), some (.int w37.1), some (.int x3), some (.int w37.2.1)] ⟨rfl, rfl, rfl, rfl, rfl, trivial⟩ (tX12_rests_J84 h hn hx)
    · rw [if_neg g12] at h
      refine zr_many 3 (pc' := 58) (L' := [some (.ref 161), some (.int x1), some (.int w37.1), some (.int x3), some (.int w37.2.1)]) (st' := [.int x1, .int x3, .int w37.2.1]) (S1 := zS c w37.2.2) rfl ?_
      obtain ⟨r13, g15, h⟩ := zp_inv h
      refine zq_scall1 rfl (by decide) rfl rfl (tX12_isRest g15) rfl ?_
      refine zq_if1 (b := r13 = 0) rfl Iff.rfl rfl (fun g16 => ?_) (fun g16 => ?_)
      · rw [if_pos g16] at h
        exact zr_wk [some (.ref 161), some (.int x1), some (.int w37.1), some (.int x3), some (.int w37.2.1)] ⟨rfl, rfl, rfl, rfl, rfl, trivial⟩ (tX12_rests_J84 h hn hx)
      · rw [if_neg g16] at h
        refine zr_many 1 (pc' := 65) (L' := [some (.ref 161), some (.int x1), some (.int w37.1), some (.int x3), some (.int w37.2.1)]) (st' := [.int w37.1]) (S1 := zS c w37.2.2) rfl ?_
        refine zq_if1 (b := ¬ w37.1 = 0) rfl Iff.rfl rfl (fun g17 => ?_) (fun g17 => ?_)
        · rw [if_pos g17] at h
          exact zr_wk [some (.ref 161), some (.int x1), some (.int w37.1), some (.int x3), some (.int w37.2.1)] ⟨rfl, rfl, rfl, rfl, rfl, trivial⟩ (tX12_rests_J81 h hn hx)
        · rw [if_neg g17] at h
          refine zr_many 3 (pc' := 71) (L' := [some (.ref 161), some (.int x1), some (.int w37.1), some (.int x3), some (.int w37.2.1)]) (st' := [.long x3.toInt64, .ref 161]) (S1 := zS c w37.2.2) rfl ?_
          obtain ⟨s19, g20, h⟩ := zp_inv h
          refine zq_call0 rfl rfl (zh_161 _) rfl rfl rfl ((tX12_enters g20).up (by decide)) rfl ?_
          refine zr_many 3 (pc' := 78) (L' := [some (.ref 161), some (.int x1), some (.int w37.1), some (.int x3), some (.int w37.2.1)]) (st' := [.long w37.2.1.toInt64, .ref 161]) (S1 := zS c s19) rfl ?_
          obtain ⟨s22, g23, h⟩ := zp_inv h
          refine zq_call0 rfl rfl (zh_161 _) rfl rfl rfl ((tX12_enters g23).up (by decide)) rfl ?_
          exact zr_wk [some (.ref 161), some (.int x1), some (.int w37.1), some (.int x3), some (.int w37.2.1)] ⟨rfl, rfl, rfl, rfl, rfl, trivial⟩ (tX12_rests_J81 h hn hx)
def fX12_rests_B28 (n : Nat) (x1 : Int32) (w28 : Int32 × Int32 × zs) : Option ((Int32 × Int32 × zs) ⊕ (Int32 × zs)) := if (9 : Int32) < w28.2.1 then some (Sum.inr (w28.1, w28.2.2)) else zp (zl (fX12_rests_B37 n x1 w28.2.1) n (w28.1, (0 : Int32), w28.2.2)) (fun w24 => some (Sum.inl (w24.1, (w28.2.1 + (1 : Int32)), w24.2)))
theorem tX12_rests_B28 {n : Nat} {c : Nat × Nat} {x1 : Int32} {w28 : Int32 × Int32 × zs} {o : _} {v : Option Value} {S' : zi_S} (h : fX12_rests_B28 n x1 w28 = some o) (hn : ∀ w28, o = Sum.inl w28 → zr kX12_rests 1 2 28 [some (.ref 161), some (.int x1), some (.int w28.1), some (.int w28.2.1), none] [] (zS c w28.2.2) v S') (hx : ∀ z, o = Sum.inr z → (fun z => zr kX12_rests 1 2 96 [none, none, some (.int z.1), none, none] [] (zS c z.2) v S') z) : zr kX12_rests 1 2 28 [some (.ref 161), some (.int x1), some (.int w28.1), some (.int w28.2.1), none] [] (zS c w28.2.2) v S' := by
  unfold fX12_rests_B28 at h
  refine zr_many 2 (pc' := 31) (L' := [some (.ref 161), some (.int x1), some (.int w28.1), some (.int w28.2.1), none]) (st' := [.int (9 : Int32), .int w28.2.1]) (S1 := zS c w28.2.2) rfl ?_
  refine zq_if2 (b := (9 : Int32) < w28.2.1) rfl Iff.rfl rfl (fun g7 => ?_) (fun g7 => ?_)
  · rw [if_pos g7] at h
    obtain rfl := Option.some.inj h
    exact zr_wk [none, none, some (.int w28.1), none, none] ⟨rfl, trivial⟩ (hx (w28.1, w28.2.2) rfl)
  · rw [if_neg g7] at h
    refine zr_many 2 (pc' := 37) (L' := [some (.ref 161), some (.int x1), some (.int w28.1), some (.int w28.2.1), some (.int (0 : Int32))]) (st' := []) (S1 := zS c w28.2.2) rfl ?_
    obtain ⟨w24, g25, h⟩ := zp_inv h
    refine zr_wk [some (.ref 161), some (.int x1), some (.int w28.1), some (.int w28.2.1), some (.int (0 : Int32))] ⟨rfl, rfl, rfl, rfl, rfl, trivial⟩ (zl_cert (Z := fun w37 => zr kX12_rests 1 2 37 [some (.ref 161), some (.int x1), some (.int w37.1), some (.int w28.2.1), some (.int w37.2.1)] [] (zS c w37.2.2) _ _) (Y := (fun z => zr kX12_rests 1 2 90 [some (.ref 161), some (.int x1), some (.int z.1), some (.int w28.2.1), none] [] (zS c z.2) _ _)) (fun w o h1 h2 h3 => tX12_rests_B37 h1 h2 h3) n _ _ g25 ?_)
    show zr kX12_rests 1 2 90 [some (.ref 161), some (.int x1), some (.int w24.1), some (.int w28.2.1), none] [] (zS c w24.2) _ _
    refine zr_many 2 (pc' := 28) (L' := [some (.ref 161), some (.int x1), some (.int w24.1), some (.int (w28.2.1 + (1 : Int32))), none]) (st' := []) (S1 := zS c w24.2) rfl ?_
    obtain rfl := Option.some.inj h
    exact zr_wk [some (.ref 161), some (.int x1), some (.int w24.1), some (.int (w28.2.1 + (1 : Int32))), none] ⟨rfl, rfl, rfl, rfl, trivial⟩ (hn (w24.1, (w28.2.1 + (1 : Int32)), w24.2) rfl)
def fX12_rests (n : Nat) (s : zs) (x1 : Int32) : Option (Int32 × zs) := zp (fX12_in n (zsi s 161 0 (0 : Int32)) x1.toInt64 (0 : Int64) (9 : Int64)) (fun r1 => if ¬ r1 = 0 then zt (zsi s 161 0 (0 : Int32)) (fun s5 => zp (zl (fX12_rests_B28 n x1) n ((0 : Int32), (0 : Int32), (zsi s5 161 1 (0 : Int32)))) (fun w26 => some (w26.1, w26.2))) else some ((-1 : Int32), (zsi s 161 0 (0 : Int32))))
theorem tX12_rests {n : Nat} {c : Nat × Nat} {s : zs} {x1 : Int32} {r : Int32} {s' : zs} (h : fX12_rests n s x1 = some (r, s')) : zc 3 2508 [.ref 161, .int x1] (zS c s) (some (.int r)) (zS c s') := by
  refine zc_of (k := kX12_rests) (rt := 1) (L := [some (.ref 161), some (.int x1), none, none, none]) zm_2508.1 rfl rfl (by decide) rfl rfl ?_
  unfold fX12_rests at h
  refine zr_many 2 (pc' := 2) (L' := [some (.ref 161), some (.int x1), none, none, none]) (st' := [.int (0 : Int32), .ref 161]) (S1 := zS c s) rfl ?_
  refine zq_put (s' := (zsi s 161 0 (0 : Int32))) rfl (zh_161 _) rfl rfl rfl rfl zsi_ne rfl ?_
  refine zr_many 4 (pc' := 11) (L' := [some (.ref 161), some (.int x1), none, none, none]) (st' := [.long (9 : Int64), .long (0 : Int64), .long x1.toInt64]) (S1 := zS c (zsi s 161 0 (0 : Int32))) rfl ?_
  obtain ⟨r1, g3, h⟩ := zp_inv h
  refine zq_scall1 rfl (by decide) rfl rfl ((tX12_in g3).up (by decide)) rfl ?_
  refine zq_if1 (b := ¬ r1 = 0) rfl Iff.rfl rfl (fun g4 => ?_) (fun g4 => ?_)
  · rw [if_pos g4] at h
    refine zr_many 4 (pc' := 23) (L' := [some (.ref 161), some (.int x1), some (.int (0 : Int32)), none, none]) (st' := [.int (0 : Int32), .ref 161]) (S1 := zS c (zsi s 161 0 (0 : Int32))) rfl ?_
    obtain ⟨s5, e6, h⟩ := zt_in h
    rw [← e6]
    refine zq_put (s' := (zsi s5 161 1 (0 : Int32))) rfl (zh_161 _) rfl rfl rfl rfl zsi_ne rfl ?_
    refine zr_many 2 (pc' := 28) (L' := [some (.ref 161), some (.int x1), some (.int (0 : Int32)), some (.int (0 : Int32)), none]) (st' := []) (S1 := zS c (zsi s5 161 1 (0 : Int32))) rfl ?_
    obtain ⟨w26, g27, h⟩ := zp_inv h
    refine zr_wk [some (.ref 161), some (.int x1), some (.int (0 : Int32)), some (.int (0 : Int32)), none] ⟨rfl, rfl, rfl, rfl, trivial⟩ (zl_cert (Z := fun w28 => zr kX12_rests 1 2 28 [some (.ref 161), some (.int x1), some (.int w28.1), some (.int w28.2.1), none] [] (zS c w28.2.2) _ _) (Y := (fun z => zr kX12_rests 1 2 96 [none, none, some (.int z.1), none, none] [] (zS c z.2) _ _)) (fun w o h1 h2 h3 => tX12_rests_B28 h1 h2 h3) n _ _ g27 ?_)
    show zr kX12_rests 1 2 96 [none, none, some (.int w26.1), none, none] [] (zS c w26.2) _ _
    refine zr_many 1 (pc' := 97) (L' := [none, none, some (.int w26.1), none, none]) (st' := [.int w26.1]) (S1 := zS c w26.2) rfl ?_
    obtain ⟨rfl, rfl⟩ := Prod.mk.inj (Option.some.inj h)
    exact zq_iret rfl
  · rw [if_neg g4] at h
    refine zr_many 1 (pc' := 18) (L' := [some (.ref 161), some (.int x1), none, none, none]) (st' := [.int (-1 : Int32)]) (S1 := zS c (zsi s 161 0 (0 : Int32))) rfl ?_
    obtain ⟨rfl, rfl⟩ := Prod.mk.inj (Option.some.inj h)
    exact zq_iret rfl
def fX12_keep_B38 (n : Nat) (x1 : Int32) (w38 : Int32 × zs) : Option ((Int32 × zs) ⊕ (zs)) := if (42 : Int32) ≤ w38.1 then some (Sum.inr w38.2) else cond (zi_in w38.1 42) (cond (zi_in (((42 : Int32) * x1) + w38.1) 126) (some (Sum.inl ((w38.1 + (1 : Int32)), (zsi w38.2 190 (((42 : Int32) * x1) + w38.1).toNatClampNeg (w38.2.1 169 w38.1.toNatClampNeg))))) none) none
theorem tX12_keep_B38 {n : Nat} {c : Nat × Nat} {x1 : Int32} {w38 : Int32 × zs} {o : _} {v : Option Value} {S' : zi_S} (h : fX12_keep_B38 n x1 w38 = some o) (hn : ∀ w38, o = Sum.inl w38 → zr kX12_keep 2 1 38 [some (.ref 161), some (.int x1), some (.int w38.1)] [] (zS c w38.2) v S') (hx : ∀ z, o = Sum.inr z → (fun z => zr kX12_keep 2 1 67 [none, none, none] [] (zS c z) v S') z) : zr kX12_keep 2 1 38 [some (.ref 161), some (.int x1), some (.int w38.1)] [] (zS c w38.2) v S' := by
  unfold fX12_keep_B38 at h
  refine zr_many 2 (pc' := 41) (L' := [some (.ref 161), some (.int x1), some (.int w38.1)]) (st' := [.int (42 : Int32), .int w38.1]) (S1 := zS c w38.2) rfl ?_
  refine zq_if2 (b := (42 : Int32) ≤ w38.1) rfl Iff.rfl rfl (fun g9 => ?_) (fun g9 => ?_)
  · rw [if_pos g9] at h
    obtain rfl := Option.some.inj h
    exact zr_wk [none, none, none] trivial (hx w38.2 rfl)
  · rw [if_neg g9] at h
    refine zr_many 1 (pc' := 45) (L' := [some (.ref 161), some (.int x1), some (.int w38.1)]) (st' := [.ref 161]) (S1 := zS c w38.2) rfl ?_
    refine zq_get rfl (zh_161 _) rfl rfl rfl ?_
    refine zr_many 6 (pc' := 55) (L' := [some (.ref 161), some (.int x1), some (.int w38.1)]) (st' := [.ref 161, .int (((42 : Int32) * x1) + w38.1), .ref 190]) (S1 := zS c w38.2) rfl ?_
    refine zq_get rfl (zh_161 _) rfl rfl rfl ?_
    refine zr_many 1 (pc' := 59) (L' := [some (.ref 161), some (.int x1), some (.int w38.1)]) (st' := [.int w38.1, .ref 169, .int (((42 : Int32) * x1) + w38.1), .ref 190]) (S1 := zS c w38.2) rfl ?_
    obtain ⟨g10, h⟩ := zi_cond_inv h
    refine zq_ild rfl (zh_169 _) rfl g10 rfl ?_
    obtain ⟨g11, h⟩ := zi_cond_inv h
    refine zq_ist rfl zh_190 rfl g11 rfl ?_
    refine zr_many 2 (pc' := 38) (L' := [some (.ref 161), some (.int x1), some (.int (w38.1 + (1 : Int32)))]) (st' := []) (S1 := zS c (zsi w38.2 190 (((42 : Int32) * x1) + w38.1).toNatClampNeg (w38.2.1 169 w38.1.toNatClampNeg))) rfl ?_
    obtain rfl := Option.some.inj h
    exact zr_wk [some (.ref 161), some (.int x1), some (.int (w38.1 + (1 : Int32)))] ⟨rfl, rfl, rfl, trivial⟩ (hn ((w38.1 + (1 : Int32)), (zsi w38.2 190 (((42 : Int32) * x1) + w38.1).toNatClampNeg (w38.2.1 169 w38.1.toNatClampNeg))) rfl)
def fX12_keep (n : Nat) (s : zs) (x1 : Int32) : Option (Int32 × zs) := zp (fX12_in n (zsi s 161 0 (0 : Int32)) x1.toInt64 (0 : Int64) (2 : Int64)) (fun r1 => if ¬ r1 = 0 then zt (zsi s 161 0 (0 : Int32)) (fun s5 => cond (zi_in x1 3) (zt (zsi s5 188 x1.toNatClampNeg (vp_nar .boolean (1 : Int32))) (fun s7 => cond (zi_in x1 3) (zp (zl (fX12_keep_B38 n x1) n ((0 : Int32), (zsi s7 189 x1.toNatClampNeg (s7.1 161 7)))) (fun w12 => some ((1 : Int32), w12))) none)) none) else some ((0 : Int32), (zsi s 161 0 (0 : Int32))))
theorem tX12_keep {n : Nat} {c : Nat × Nat} {s : zs} {x1 : Int32} {r : Int32} {s' : zs} (h : fX12_keep n s x1 = some (r, s')) : zc 2 2511 [.ref 161, .int x1] (zS c s) (some (.int r)) (zS c s') := by
  refine zc_of (k := kX12_keep) (rt := 2) (L := [some (.ref 161), some (.int x1), none]) zm_2511.1 rfl rfl (by decide) rfl rfl ?_
  unfold fX12_keep at h
  refine zr_many 2 (pc' := 2) (L' := [some (.ref 161), some (.int x1), none]) (st' := [.int (0 : Int32), .ref 161]) (S1 := zS c s) rfl ?_
  refine zq_put (s' := (zsi s 161 0 (0 : Int32))) rfl (zh_161 _) rfl rfl rfl rfl zsi_ne rfl ?_
  refine zr_many 4 (pc' := 11) (L' := [some (.ref 161), some (.int x1), none]) (st' := [.long (2 : Int64), .long (0 : Int64), .long x1.toInt64]) (S1 := zS c (zsi s 161 0 (0 : Int32))) rfl ?_
  obtain ⟨r1, g3, h⟩ := zp_inv h
  refine zq_scall1 rfl (by decide) rfl rfl (tX12_in g3) rfl ?_
  refine zq_if1 (b := ¬ r1 = 0) rfl Iff.rfl rfl (fun g4 => ?_) (fun g4 => ?_)
  · rw [if_pos g4] at h
    refine zr_many 1 (pc' := 20) (L' := [some (.ref 161), some (.int x1), none]) (st' := [.ref 161]) (S1 := zS c (zsi s 161 0 (0 : Int32))) rfl ?_
    refine zq_get rfl (zh_161 _) rfl rfl rfl ?_
    refine zr_many 2 (pc' := 25) (L' := [some (.ref 161), some (.int x1), none]) (st' := [.int (1 : Int32), .int x1, .ref 188]) (S1 := zS c (zsi s 161 0 (0 : Int32))) rfl ?_
    obtain ⟨s5, e6, h⟩ := zt_in h
    rw [← e6]
    obtain ⟨g14, h⟩ := zi_cond_inv h
    refine zq_zst rfl zh_188 rfl g14 rfl ?_
    refine zr_many 1 (pc' := 27) (L' := [some (.ref 161), some (.int x1), none]) (st' := [.ref 161]) (S1 := zS c (zsi s5 188 x1.toNatClampNeg (vp_nar .boolean (1 : Int32)))) rfl ?_
    refine zq_get rfl (zh_161 _) rfl rfl rfl ?_
    refine zr_many 2 (pc' := 32) (L' := [some (.ref 161), some (.int x1), none]) (st' := [.ref 161, .int x1, .ref 189]) (S1 := zS c (zsi s5 188 x1.toNatClampNeg (vp_nar .boolean (1 : Int32)))) rfl ?_
    refine zq_get rfl (zh_161 _) rfl rfl rfl ?_
    obtain ⟨s7, e8, h⟩ := zt_in h
    rw [← e8]
    obtain ⟨g15, h⟩ := zi_cond_inv h
    refine zq_ist rfl zh_189 rfl g15 rfl ?_
    refine zr_many 2 (pc' := 38) (L' := [some (.ref 161), some (.int x1), some (.int (0 : Int32))]) (st' := []) (S1 := zS c (zsi s7 189 x1.toNatClampNeg (s7.1 161 7))) rfl ?_
    obtain ⟨w12, g13, h⟩ := zp_inv h
    refine zr_wk [some (.ref 161), some (.int x1), some (.int (0 : Int32))] ⟨rfl, rfl, rfl, trivial⟩ (zl_cert (Z := fun w38 => zr kX12_keep 2 1 38 [some (.ref 161), some (.int x1), some (.int w38.1)] [] (zS c w38.2) _ _) (Y := (fun z => zr kX12_keep 2 1 67 [none, none, none] [] (zS c z) _ _)) (fun w o h1 h2 h3 => tX12_keep_B38 h1 h2 h3) n _ _ g13 ?_)
    show zr kX12_keep 2 1 67 [none, none, none] [] (zS c w12) _ _
    refine zr_many 1 (pc' := 68) (L' := [none, none, none]) (st' := [.int (1 : Int32)]) (S1 := zS c w12) rfl ?_
    obtain ⟨rfl, rfl⟩ := Prod.mk.inj (Option.some.inj h)
    exact zq_zret rfl (by decide)
  · rw [if_neg g4] at h
    refine zr_many 1 (pc' := 18) (L' := [some (.ref 161), some (.int x1), none]) (st' := [.int (0 : Int32)]) (S1 := zS c (zsi s 161 0 (0 : Int32))) rfl ?_
    obtain ⟨rfl, rfl⟩ := Prod.mk.inj (Option.some.inj h)
    exact zq_zret rfl (by decide)
def fX12_again_J39 (n : Nat) (s : zs) : Option (Int32 × zs) := some ((0 : Int32), s)
theorem tX12_again_J39 {n : Nat} {c : Nat × Nat} {s : zs} {r : Int32} {s' : zs} (h : fX12_again_J39 n s = some (r, s')) : zr kX12_again 2 1 39 [none, none, none] [] (zS c s) (some (.int r)) (zS c s') := by
  unfold fX12_again_J39 at h
  refine zr_many 1 (pc' := 40) (L' := [none, none, none]) (st' := [.int (0 : Int32)]) (S1 := zS c s) rfl ?_
  obtain ⟨rfl, rfl⟩ := Prod.mk.inj (Option.some.inj h)
  exact zq_zret rfl (by decide)
def fX12_again_B43 (n : Nat) (x1 : Int32) (w43 : Int32 × zs) : Option ((Int32 × zs) ⊕ (zs)) := if (42 : Int32) ≤ w43.1 then some (Sum.inr w43.2) else cond (zi_in (((42 : Int32) * x1) + w43.1) 126) (cond (zi_in w43.1 42) (some (Sum.inl ((w43.1 + (1 : Int32)), (zsi w43.2 169 w43.1.toNatClampNeg (w43.2.1 190 (((42 : Int32) * x1) + w43.1).toNatClampNeg))))) none) none
theorem tX12_again_B43 {n : Nat} {c : Nat × Nat} {x1 : Int32} {w43 : Int32 × zs} {o : _} {v : Option Value} {S' : zi_S} (h : fX12_again_B43 n x1 w43 = some o) (hn : ∀ w43, o = Sum.inl w43 → zr kX12_again 2 1 43 [some (.ref 161), some (.int x1), some (.int w43.1)] [] (zS c w43.2) v S') (hx : ∀ z, o = Sum.inr z → (fun z => zr kX12_again 2 1 72 [some (.ref 161), none, none] [] (zS c z) v S') z) : zr kX12_again 2 1 43 [some (.ref 161), some (.int x1), some (.int w43.1)] [] (zS c w43.2) v S' := by
  unfold fX12_again_B43 at h
  refine zr_many 2 (pc' := 46) (L' := [some (.ref 161), some (.int x1), some (.int w43.1)]) (st' := [.int (42 : Int32), .int w43.1]) (S1 := zS c w43.2) rfl ?_
  refine zq_if2 (b := (42 : Int32) ≤ w43.1) rfl Iff.rfl rfl (fun g9 => ?_) (fun g9 => ?_)
  · rw [if_pos g9] at h
    obtain rfl := Option.some.inj h
    exact zr_wk [some (.ref 161), none, none] ⟨rfl, trivial⟩ (hx w43.2 rfl)
  · rw [if_neg g9] at h
    refine zr_many 1 (pc' := 50) (L' := [some (.ref 161), some (.int x1), some (.int w43.1)]) (st' := [.ref 161]) (S1 := zS c w43.2) rfl ?_
    refine zq_get rfl (zh_161 _) rfl rfl rfl ?_
    refine zr_many 2 (pc' := 55) (L' := [some (.ref 161), some (.int x1), some (.int w43.1)]) (st' := [.ref 161, .int w43.1, .ref 169]) (S1 := zS c w43.2) rfl ?_
    refine zq_get rfl (zh_161 _) rfl rfl rfl ?_
    refine zr_many 5 (pc' := 64) (L' := [some (.ref 161), some (.int x1), some (.int w43.1)]) (st' := [.int (((42 : Int32) * x1) + w43.1), .ref 190, .int w43.1, .ref 169]) (S1 := zS c w43.2) rfl ?_
    obtain ⟨g10, h⟩ := zi_cond_inv h
    refine zq_ild rfl (zh_190 _) rfl g10 rfl ?_
    obtain ⟨g11, h⟩ := zi_cond_inv h
    refine zq_ist rfl zh_169 rfl g11 rfl ?_
    refine zr_many 2 (pc' := 43) (L' := [some (.ref 161), some (.int x1), some (.int (w43.1 + (1 : Int32)))]) (st' := []) (S1 := zS c (zsi w43.2 169 w43.1.toNatClampNeg (w43.2.1 190 (((42 : Int32) * x1) + w43.1).toNatClampNeg))) rfl ?_
    obtain rfl := Option.some.inj h
    exact zr_wk [some (.ref 161), some (.int x1), some (.int (w43.1 + (1 : Int32)))] ⟨rfl, rfl, rfl, trivial⟩ (hn ((w43.1 + (1 : Int32)), (zsi w43.2 169 w43.1.toNatClampNeg (w43.2.1 190 (((42 : Int32) * x1) + w43.1).toNatClampNeg))) rfl)
def fX12_again (n : Nat) (s : zs) (x1 : Int32) : Option (Int32 × zs) := zp (fX12_in n (zsi s 161 0 (0 : Int32)) x1.toInt64 (0 : Int64) (2 : Int64)) (fun r1 => if r1 = 0 then fX12_again_J39 n (zsi s 161 0 (0 : Int32)) else cond (zi_in x1 3) (if ((zsi s 161 0 (0 : Int32)).1 188 x1.toNatClampNeg) = 0 then fX12_again_J39 n (zsi s 161 0 (0 : Int32)) else cond (zi_in x1 3) (if ((zsi s 161 0 (0 : Int32)).1 189 x1.toNatClampNeg) = ((zsi s 161 0 (0 : Int32)).1 161 7) then zp (zl (fX12_again_B43 n x1) n ((0 : Int32), (zsi s 161 0 (0 : Int32)))) (fun w12 => some ((1 : Int32), (zsi w12 161 31 (0 : Int32)))) else fX12_again_J39 n (zsi s 161 0 (0 : Int32))) none) none)
theorem tX12_again {n : Nat} {c : Nat × Nat} {s : zs} {x1 : Int32} {r : Int32} {s' : zs} (h : fX12_again n s x1 = some (r, s')) : zc 2 2512 [.ref 161, .int x1] (zS c s) (some (.int r)) (zS c s') := by
  refine zc_of (k := kX12_again) (rt := 2) (L := [some (.ref 161), some (.int x1), none]) zm_2512.1 rfl rfl (by decide) rfl rfl ?_
  unfold fX12_again at h
  refine zr_many 2 (pc' := 2) (L' := [some (.ref 161), some (.int x1), none]) (st' := [.int (0 : Int32), .ref 161]) (S1 := zS c s) rfl ?_
  refine zq_put (s' := (zsi s 161 0 (0 : Int32))) rfl (zh_161 _) rfl rfl rfl rfl zsi_ne rfl ?_
  refine zr_many 4 (pc' := 11) (L' := [some (.ref 161), some (.int x1), none]) (st' := [.long (2 : Int64), .long (0 : Int64), .long x1.toInt64]) (S1 := zS c (zsi s 161 0 (0 : Int32))) rfl ?_
  obtain ⟨r1, g3, h⟩ := zp_inv h
  refine zq_scall1 rfl (by decide) rfl rfl (tX12_in g3) rfl ?_
  refine zq_if1 (b := r1 = 0) rfl Iff.rfl rfl (fun g4 => ?_) (fun g4 => ?_)
  · rw [if_pos g4] at h
    exact zr_wk [none, none, none] trivial (tX12_again_J39 h)
  · rw [if_neg g4] at h
    refine zr_many 1 (pc' := 18) (L' := [some (.ref 161), some (.int x1), none]) (st' := [.ref 161]) (S1 := zS c (zsi s 161 0 (0 : Int32))) rfl ?_
    refine zq_get rfl (zh_161 _) rfl rfl rfl ?_
    refine zr_many 1 (pc' := 22) (L' := [some (.ref 161), some (.int x1), none]) (st' := [.int x1, .ref 188]) (S1 := zS c (zsi s 161 0 (0 : Int32))) rfl ?_
    obtain ⟨g5, h⟩ := zi_cond_inv h
    refine zq_zld rfl (zh_188 _) rfl g5 rfl ?_
    refine zq_if1 (b := ((zsi s 161 0 (0 : Int32)).1 188 x1.toNatClampNeg) = 0) rfl Iff.rfl rfl (fun g6 => ?_) (fun g6 => ?_)
    · rw [if_pos g6] at h
      exact zr_wk [none, none, none] trivial (tX12_again_J39 h)
    · rw [if_neg g6] at h
      refine zr_many 1 (pc' := 27) (L' := [some (.ref 161), some (.int x1), none]) (st' := [.ref 161]) (S1 := zS c (zsi s 161 0 (0 : Int32))) rfl ?_
      refine zq_get rfl (zh_161 _) rfl rfl rfl ?_
      refine zr_many 1 (pc' := 31) (L' := [some (.ref 161), some (.int x1), none]) (st' := [.int x1, .ref 189]) (S1 := zS c (zsi s 161 0 (0 : Int32))) rfl ?_
      obtain ⟨g7, h⟩ := zi_cond_inv h
      refine zq_ild rfl (zh_189 _) rfl g7 rfl ?_
      refine zr_many 1 (pc' := 33) (L' := [some (.ref 161), some (.int x1), none]) (st' := [.ref 161, .int ((zsi s 161 0 (0 : Int32)).1 189 x1.toNatClampNeg)]) (S1 := zS c (zsi s 161 0 (0 : Int32))) rfl ?_
      refine zq_get rfl (zh_161 _) rfl rfl rfl ?_
      refine zq_if2 (b := ((zsi s 161 0 (0 : Int32)).1 189 x1.toNatClampNeg) = ((zsi s 161 0 (0 : Int32)).1 161 7)) rfl Iff.rfl rfl (fun g8 => ?_) (fun g8 => ?_)
      · rw [if_pos g8] at h
        refine zr_many 2 (pc' := 43) (L' := [some (.ref 161), some (.int x1), some (.int (0 : Int32))]) (st' := []) (S1 := zS c (zsi s 161 0 (0 : Int32))) rfl ?_
        obtain ⟨w12, g13, h⟩ := zp_inv h
        refine zr_wk [some (.ref 161), some (.int x1), some (.int (0 : Int32))] ⟨rfl, rfl, rfl, trivial⟩ (zl_cert (Z := fun w43 => zr kX12_again 2 1 43 [some (.ref 161), some (.int x1), some (.int w43.1)] [] (zS c w43.2) _ _) (Y := (fun z => zr kX12_again 2 1 72 [some (.ref 161), none, none] [] (zS c z) _ _)) (fun w o h1 h2 h3 => tX12_again_B43 h1 h2 h3) n _ _ g13 ?_)
        show zr kX12_again 2 1 72 [some (.ref 161), none, none] [] (zS c w12) _ _
        refine zr_many 2 (pc' := 74) (L' := [some (.ref 161), none, none]) (st' := [.int (0 : Int32), .ref 161]) (S1 := zS c w12) rfl ?_
        refine zq_put (s' := (zsi w12 161 31 (0 : Int32))) rfl (zh_161 _) rfl rfl rfl rfl zsi_ne rfl ?_
        refine zr_many 1 (pc' := 78) (L' := [some (.ref 161), none, none]) (st' := [.int (1 : Int32)]) (S1 := zS c (zsi w12 161 31 (0 : Int32))) rfl ?_
        obtain ⟨rfl, rfl⟩ := Prod.mk.inj (Option.some.inj h)
        exact zq_zret rfl (by decide)
      · rw [if_neg g8] at h
        exact zr_wk [none, none, none] trivial (tX12_again_J39 h)
