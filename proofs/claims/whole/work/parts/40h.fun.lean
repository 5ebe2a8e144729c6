/-! ===== printed by wip/gen/dec.py: the methods as functions, each with its run ===== -/
def fX12_leaves (n : Nat) (s : zs) (m1 : Nat) (x2 : Int32) : Option (Int32 × zs) := zp (fX12_isSinger n s x2) (fun r1 => if ¬ r1 = 0 then zp (fX12_crewOf n s m1 x2) (fun r5 => if 0 ≤ r5 then zp (fX12_placeOf n s m1 r5) (fun r9 => cond (zi_in (((10 : Int32) + ((3 : Int32) * x2)) + (0 : Int32)) 42) (cond (zi_in (((10 : Int32) + ((3 : Int32) * x2)) + (1 : Int32)) 42) (some (r5, (zsi (zsi s m1 (((10 : Int32) + ((3 : Int32) * x2)) + (0 : Int32)).toNatClampNeg r9) m1 (((10 : Int32) + ((3 : Int32) * x2)) + (1 : Int32)).toNatClampNeg (-1 : Int32)))) none) none) else some ((-2 : Int32), s)) else some ((-1 : Int32), s))
theorem tX12_leaves {n : Nat} {c : Nat × Nat} {s : zs} {m1 : Nat} {x2 : Int32} {r : Int32} {s' : zs} (hm1 : zR m1) (h : fX12_leaves n s m1 x2 = some (r, s')) : zc 3 2458 [.ref 161, .ref m1, .int x2] (zS c s) (some (.int r)) (zS c s') := by
  refine zc_of (k := kX12_leaves) (rt := 1) (L := [some (.ref 161), some (.ref m1), some (.int x2), none]) zm_2458.1 rfl rfl (by decide) rfl rfl ?_
  unfold fX12_leaves at h
  refine zr_many 2 (pc' := 2) (L' := [some (.ref 161), some (.ref m1), some (.int x2), none]) (st' := [.int x2, .ref 161]) (S1 := zS c s) rfl ?_
  obtain ⟨r1, g3, h⟩ := zp_inv h
  refine zq_call1 rfl rfl (zh_161 _) rfl rfl rfl (tX12_isSinger g3) rfl ?_
  refine zq_if1 (b := ¬ r1 = 0) rfl Iff.rfl rfl (fun g4 => ?_) (fun g4 => ?_)
  · rw [if_pos g4] at h
    refine zr_many 2 (pc' := 12) (L' := [some (.ref 161), some (.ref m1), some (.int x2), none]) (st' := [.int x2, .ref m1]) (S1 := zS c s) rfl ?_
    obtain ⟨r5, g7, h⟩ := zp_inv h
    refine zq_scall1 rfl (by decide) rfl rfl ((tX12_crewOf hm1 g7).up (by decide)) rfl ?_
    refine zr_many 2 (pc' := 17) (L' := [some (.ref 161), some (.ref m1), some (.int x2), some (.int r5)]) (st' := [.int r5]) (S1 := zS c s) rfl ?_
    refine zq_if1 (b := 0 ≤ r5) rfl Iff.rfl rfl (fun g8 => ?_) (fun g8 => ?_)
    · rw [if_pos g8] at h
      refine zr_many 10 (pc' := 34) (L' := [some (.ref 161), some (.ref m1), some (.int x2), some (.int r5)]) (st' := [.int r5, .ref m1, .int (((10 : Int32) + ((3 : Int32) * x2)) + (0 : Int32)), .ref m1]) (S1 := zS c s) rfl ?_
      obtain ⟨r9, g11, h⟩ := zp_inv h
      refine zq_scall1 rfl (by decide) rfl rfl ((tX12_placeOf hm1 g11).up (by decide)) rfl ?_
      obtain ⟨g12, h⟩ := zi_cond_inv h
      refine zq_ist rfl (zhR hm1) (zR_lt hm1) g12 rfl ?_
      refine zr_many 9 (pc' := 48) (L' := [some (.ref 161), some (.ref m1), some (.int x2), some (.int r5)]) (st' := [.int (-1 : Int32), .int (((10 : Int32) + ((3 : Int32) * x2)) + (1 : Int32)), .ref m1]) (S1 := zS c (zsi s m1 (((10 : Int32) + ((3 : Int32) * x2)) + (0 : Int32)).toNatClampNeg r9)) rfl ?_
      obtain ⟨g13, h⟩ := zi_cond_inv h
      refine zq_ist rfl (zhR hm1) (zR_lt hm1) g13 rfl ?_
      refine zr_many 1 (pc' := 50) (L' := [some (.ref 161), some (.ref m1), some (.int x2), some (.int r5)]) (st' := [.int r5]) (S1 := zS c (zsi (zsi s m1 (((10 : Int32) + ((3 : Int32) * x2)) + (0 : Int32)).toNatClampNeg r9) m1 (((10 : Int32) + ((3 : Int32) * x2)) + (1 : Int32)).toNatClampNeg (-1 : Int32))) rfl ?_
      cases h
      exact zq_iret rfl
    · rw [if_neg g8] at h
      refine zr_many 1 (pc' := 22) (L' := [some (.ref 161), some (.ref m1), some (.int x2), some (.int r5)]) (st' := [.int (-2 : Int32)]) (S1 := zS c s) rfl ?_
      cases h
      exact zq_iret rfl
  · rw [if_neg g4] at h
    refine zr_many 1 (pc' := 9) (L' := [some (.ref 161), some (.ref m1), some (.int x2), none]) (st' := [.int (-1 : Int32)]) (S1 := zS c s) rfl ?_
    cases h
    exact zq_iret rfl
def fX12_waterFor_J10 (n : Nat) (s : zs) (y0 : Int32) : Option Int32 := some y0
theorem tX12_waterFor_J10 {n : Nat} {c : Nat × Nat} {s : zs} {y0 : Int32} {r : Int32} (h : fX12_waterFor_J10 n s y0 = some r) : zr kX12_waterFor 1 0 10 [none, none] [.int y0] (zS c s) (some (.int r)) (zS c s) := by
  unfold fX12_waterFor_J10 at h
  cases h
  exact zq_iret rfl
def fX12_waterFor (n : Nat) (s : zs) (x0 : Int32) (x1 : Int32) : Option Int32 := if ¬ x1 = (1 : Int32) then fX12_waterFor_J10 n s (1 : Int32) else fX12_waterFor_J10 n s x0
theorem tX12_waterFor {n : Nat} {c : Nat × Nat} {s : zs} {x0 : Int32} {x1 : Int32} {r : Int32} (h : fX12_waterFor n s x0 x1 = some r) : zc 1 2459 [.int x0, .int x1] (zS c s) (some (.int r)) (zS c s) := by
  refine zc_of (k := kX12_waterFor) (rt := 1) (L := [some (.int x0), some (.int x1)]) zm_2459.1 rfl rfl (by decide) rfl rfl ?_
  unfold fX12_waterFor at h
  refine zr_many 2 (pc' := 2) (L' := [some (.int x0), some (.int x1)]) (st' := [.int (1 : Int32), .int x1]) (S1 := zS c s) rfl ?_
  refine zq_if2 (b := ¬ x1 = (1 : Int32)) rfl Iff.rfl rfl (fun g1 => ?_) (fun g1 => ?_)
  · rw [if_pos g1] at h
    refine zr_many 1 (pc' := 10) (L' := [some (.int x0), some (.int x1)]) (st' := [.int (1 : Int32)]) (S1 := zS c s) rfl ?_
    exact zr_wk [none, none] trivial (tX12_waterFor_J10 h)
  · rw [if_neg g1] at h
    refine zr_many 2 (pc' := 10) (L' := [some (.int x0), some (.int x1)]) (st' := [.int x0]) (S1 := zS c s) rfl ?_
    exact zr_wk [none, none] trivial (tX12_waterFor_J10 h)
def fX12_restsFor_B18 (n : Nat) (m1 : Nat) (x2 : Int32) (x3 : Int32) (w : Int32 × zs) : Option ((Int32 × zs) ⊕ (zs)) := if (w.2.1 161 4) ≤ w.1 then some (Sum.inr w.2) else if ¬ ((w.2.1 m1 9) - (w.2.1 m1 9) / (10 : Int32) * (10 : Int32)) = 0 then some (Sum.inr w.2) else zp (fX12_tiredOf n w.2 m1 w.1) (fun r6 => cond (zi_in (((10 : Int32) + ((3 : Int32) * w.1)) + (2 : Int32)) 42) (some (Sum.inl ((w.1 + (1 : Int32)), (zsi w.2 m1 (((10 : Int32) + ((3 : Int32) * w.1)) + (2 : Int32)).toNatClampNeg (if (0 : Int32) < (r6 - (1 : Int32)) then (r6 - (1 : Int32)) else (0 : Int32)))))) none)
theorem tX12_restsFor_B18 {n : Nat} {c : Nat × Nat} {m1 : Nat} {x2 : Int32} {x3 : Int32} {w : Int32 × zs} {o : _} {v : Option Value} {S' : zi_S} (hm1 : zR m1) (h : fX12_restsFor_B18 n m1 x2 x3 w = some o) (hn : ∀ w, o = Sum.inl w → zr kX12_restsFor 0 1 18 [some (.ref 161), some (.ref m1), some (.int x2), some (.int x3), some (.int w.1)] [] (zS c w.2) v S') (hx : ∀ w, o = Sum.inr w → (fun w => zr kX12_restsFor 0 1 66 [some (.ref 161), some (.ref m1), some (.int x2), some (.int x3), none] [] (zS c w) v S') w) : zr kX12_restsFor 0 1 18 [some (.ref 161), some (.ref m1), some (.int x2), some (.int x3), some (.int w.1)] [] (zS c w.2) v S' := by
  unfold fX12_restsFor_B18 at h
  refine zr_many 2 (pc' := 21) (L' := [some (.ref 161), some (.ref m1), some (.int x2), some (.int x3), some (.int w.1)]) (st' := [.ref 161, .int w.1]) (S1 := zS c w.2) rfl ?_
  refine zq_get rfl (zh_161 _) rfl rfl rfl ?_
  refine zq_if2 (b := (w.2.1 161 4) ≤ w.1) rfl Iff.rfl rfl (fun g3 => ?_) (fun g3 => ?_)
  · rw [if_pos g3] at h
    cases h
    exact zr_wk [some (.ref 161), some (.ref m1), some (.int x2), some (.int x3), none] ⟨rfl, rfl, rfl, rfl, trivial⟩ (hx _ rfl)
  · rw [if_neg g3] at h
    refine zr_many 2 (pc' := 30) (L' := [some (.ref 161), some (.ref m1), some (.int x2), some (.int x3), some (.int w.1)]) (st' := [.int (9 : Int32), .ref m1]) (S1 := zS c w.2) rfl ?_
    refine zq_ild rfl (zhR hm1 _) (zR_lt hm1) (by decide) rfl ?_
    refine zr_many 1 (pc' := 33) (L' := [some (.ref 161), some (.ref m1), some (.int x2), some (.int x3), some (.int w.1)]) (st' := [.int (10 : Int32), .int (w.2.1 m1 9)]) (S1 := zS c w.2) rfl ?_
    refine zq_irem rfl (by decide) rfl ?_
    refine zq_if1 (b := ¬ ((w.2.1 m1 9) - (w.2.1 m1 9) / (10 : Int32) * (10 : Int32)) = 0) rfl Iff.rfl rfl (fun g5 => ?_) (fun g5 => ?_)
    · rw [if_pos g5] at h
      cases h
      exact zr_wk [some (.ref 161), some (.ref m1), some (.int x2), some (.int x3), none] ⟨rfl, rfl, rfl, rfl, trivial⟩ (hx _ rfl)
    · rw [if_neg g5] at h
      refine zr_many 11 (pc' := 51) (L' := [some (.ref 161), some (.ref m1), some (.int x2), some (.int x3), some (.int w.1)]) (st' := [.int w.1, .ref m1, .int (0 : Int32), .int (((10 : Int32) + ((3 : Int32) * w.1)) + (2 : Int32)), .ref m1]) (S1 := zS c w.2) rfl ?_
      obtain ⟨r6, g8, h⟩ := zp_inv h
      refine zq_scall1 rfl (by decide) rfl rfl (tX12_tiredOf hm1 g8) rfl ?_
      refine zr_many 3 (pc' := 59) (L' := [some (.ref 161), some (.ref m1), some (.int x2), some (.int x3), some (.int w.1)]) (st' := [.int (if (0 : Int32) < (r6 - (1 : Int32)) then (r6 - (1 : Int32)) else (0 : Int32)), .int (((10 : Int32) + ((3 : Int32) * w.1)) + (2 : Int32)), .ref m1]) (S1 := zS c w.2) rfl ?_
      obtain ⟨g9, h⟩ := zi_cond_inv h
      refine zq_ist rfl (zhR hm1) (zR_lt hm1) g9 rfl ?_
      refine zr_many 2 (pc' := 18) (L' := [some (.ref 161), some (.ref m1), some (.int x2), some (.int x3), some (.int (w.1 + (1 : Int32)))]) (st' := []) (S1 := zS c (zsi w.2 m1 (((10 : Int32) + ((3 : Int32) * w.1)) + (2 : Int32)).toNatClampNeg (if (0 : Int32) < (r6 - (1 : Int32)) then (r6 - (1 : Int32)) else (0 : Int32)))) rfl ?_
      cases h
      exact zr_wk [some (.ref 161), some (.ref m1), some (.int x2), some (.int x3), some (.int (w.1 + (1 : Int32)))] ⟨rfl, rfl, rfl, rfl, rfl, trivial⟩ (hn _ rfl)
def fX12_restsFor_J66 (n : Nat) (s : zs) (m1 : Nat) (x2 : Int32) (x3 : Int32) : Option ((Int32 × zs) ⊕ (zs)) := some (Sum.inl ((x3 + (1 : Int32)), s))
theorem tX12_restsFor_J66 {n : Nat} {c : Nat × Nat} {s : zs} {m1 : Nat} {x2 : Int32} {x3 : Int32} {o : _} {v : Option Value} {S' : zi_S} (hm1 : zR m1) (h : fX12_restsFor_J66 n s m1 x2 x3 = some o) (hn : ∀ w, o = Sum.inl w → zr kX12_restsFor 0 1 2 [some (.ref 161), some (.ref m1), some (.int x2), some (.int w.1), none] [] (zS c w.2) v S') (hx : ∀ w, o = Sum.inr w → (fun w => zr kX12_restsFor 0 1 72 [none, none, none, none, none] [] (zS c w) v S') w) : zr kX12_restsFor 0 1 66 [some (.ref 161), some (.ref m1), some (.int x2), some (.int x3), none] [] (zS c s) v S' := by
  unfold fX12_restsFor_J66 at h
  refine zr_many 2 (pc' := 2) (L' := [some (.ref 161), some (.ref m1), some (.int x2), some (.int (x3 + (1 : Int32))), none]) (st' := []) (S1 := zS c s) rfl ?_
  cases h
  exact zr_wk [some (.ref 161), some (.ref m1), some (.int x2), some (.int (x3 + (1 : Int32))), none] ⟨rfl, rfl, rfl, rfl, trivial⟩ (hn _ rfl)
def fX12_restsFor_B2 (n : Nat) (m1 : Nat) (x2 : Int32) (w : Int32 × zs) : Option ((Int32 × zs) ⊕ (zs)) := if x2 ≤ w.1 then some (Sum.inr w.2) else zp (zl (fX12_restsFor_B18 n m1 x2 w.1) n ((0 : Int32), (zsi w.2 m1 9 ((w.2.1 m1 9) + (1 : Int32))))) (fun w10 => fX12_restsFor_J66 n w10 m1 x2 w.1)
theorem tX12_restsFor_B2 {n : Nat} {c : Nat × Nat} {m1 : Nat} {x2 : Int32} {w : Int32 × zs} {o : _} {v : Option Value} {S' : zi_S} (hm1 : zR m1) (h : fX12_restsFor_B2 n m1 x2 w = some o) (hn : ∀ w, o = Sum.inl w → zr kX12_restsFor 0 1 2 [some (.ref 161), some (.ref m1), some (.int x2), some (.int w.1), none] [] (zS c w.2) v S') (hx : ∀ w, o = Sum.inr w → (fun w => zr kX12_restsFor 0 1 72 [none, none, none, none, none] [] (zS c w) v S') w) : zr kX12_restsFor 0 1 2 [some (.ref 161), some (.ref m1), some (.int x2), some (.int w.1), none] [] (zS c w.2) v S' := by
  unfold fX12_restsFor_B2 at h
  refine zr_many 2 (pc' := 4) (L' := [some (.ref 161), some (.ref m1), some (.int x2), some (.int w.1), none]) (st' := [.int x2, .int w.1]) (S1 := zS c w.2) rfl ?_
  refine zq_if2 (b := x2 ≤ w.1) rfl Iff.rfl rfl (fun g1 => ?_) (fun g1 => ?_)
  · rw [if_pos g1] at h
    cases h
    exact zr_wk [none, none, none, none, none] trivial (hx _ rfl)
  · rw [if_neg g1] at h
    refine zr_many 3 (pc' := 11) (L' := [some (.ref 161), some (.ref m1), some (.int x2), some (.int w.1), none]) (st' := [.int (9 : Int32), .ref m1, .int (9 : Int32), .ref m1]) (S1 := zS c w.2) rfl ?_
    refine zq_ild rfl (zhR hm1 _) (zR_lt hm1) (by decide) rfl ?_
    refine zr_many 2 (pc' := 14) (L' := [some (.ref 161), some (.ref m1), some (.int x2), some (.int w.1), none]) (st' := [.int ((w.2.1 m1 9) + (1 : Int32)), .int (9 : Int32), .ref m1]) (S1 := zS c w.2) rfl ?_
    refine zq_ist rfl (zhR hm1) (zR_lt hm1) (by decide) rfl ?_
    refine zr_many 2 (pc' := 18) (L' := [some (.ref 161), some (.ref m1), some (.int x2), some (.int w.1), some (.int (0 : Int32))]) (st' := []) (S1 := zS c (zsi w.2 m1 9 ((w.2.1 m1 9) + (1 : Int32)))) rfl ?_
    obtain ⟨w10, g11, h⟩ := zp_inv h
    refine zr_wk [some (.ref 161), some (.ref m1), some (.int x2), some (.int w.1), some (.int (0 : Int32))] ⟨rfl, rfl, rfl, rfl, rfl, trivial⟩ (zl_cert (Z := fun w => zr kX12_restsFor 0 1 18 [some (.ref 161), some (.ref m1), some (.int x2), some (.int w.1), some (.int w.1)] [] (zS c w.2) _ _) (Y := (fun w => zr kX12_restsFor 0 1 66 [some (.ref 161), some (.ref m1), some (.int x2), some (.int w.1), none] [] (zS c w) _ _)) (fun w o h1 h2 h3 => tX12_restsFor_B18 hm1 h1 h2 h3) n _ _ g11 ?_)
    show zr kX12_restsFor 0 1 66 [some (.ref 161), some (.ref m1), some (.int x2), some (.int w.1), none] [] (zS c w10) _ _
    exact zr_wk [some (.ref 161), some (.ref m1), some (.int x2), some (.int w.1), none] ⟨rfl, rfl, rfl, rfl, trivial⟩ (tX12_restsFor_J66 hm1 h hn hx)
def fX12_restsFor (n : Nat) (s : zs) (m1 : Nat) (x2 : Int32) : Option zs := zp (zl (fX12_restsFor_B2 n m1 x2) n ((0 : Int32), s)) (fun w12 => some w12)
theorem tX12_restsFor {n : Nat} {c : Nat × Nat} {s : zs} {m1 : Nat} {x2 : Int32} {s' : zs} (hm1 : zR m1) (h : fX12_restsFor n s m1 x2 = some s') : zc 2 2462 [.ref 161, .ref m1, .int x2] (zS c s) none (zS c s') := by
  refine zc_of (k := kX12_restsFor) (rt := 0) (L := [some (.ref 161), some (.ref m1), some (.int x2), none, none]) zm_2462.1 rfl rfl (by decide) rfl rfl ?_
  unfold fX12_restsFor at h
  refine zr_many 2 (pc' := 2) (L' := [some (.ref 161), some (.ref m1), some (.int x2), some (.int (0 : Int32)), none]) (st' := []) (S1 := zS c s) rfl ?_
  obtain ⟨w12, g13, h⟩ := zp_inv h
  refine zr_wk [some (.ref 161), some (.ref m1), some (.int x2), some (.int (0 : Int32)), none] ⟨rfl, rfl, rfl, rfl, trivial⟩ (zl_cert (Z := fun w => zr kX12_restsFor 0 1 2 [some (.ref 161), some (.ref m1), some (.int x2), some (.int w.1), none] [] (zS c w.2) _ _) (Y := (fun w => zr kX12_restsFor 0 1 72 [none, none, none, none, none] [] (zS c w) _ _)) (fun w o h1 h2 h3 => tX12_restsFor_B2 hm1 h1 h2 h3) n _ _ g13 ?_)
  show zr kX12_restsFor 0 1 72 [none, none, none, none, none] [] (zS c w12) _ _
  cases h
  exact zq_vret rfl
def fX12_hire (n : Nat) (s : zs) (x1 : Int32) (x2 : Int32) : Option (Int32 × zs) := zp (fX12_putsBy n (zsi s 161 0 (0 : Int32))) (fun s2 => zb (fX12_hiresTo n s2 169 x1 x2) (fun r4 s5 => zb (fX12_counts n s5 r4) (fun r7 s8 => some (r7, s8))))
theorem tX12_hire {n : Nat} {c : Nat × Nat} {s : zs} {x1 : Int32} {x2 : Int32} {r : Int32} {s' : zs} (h : fX12_hire n s x1 x2 = some (r, s')) : zc 4 2463 [.ref 161, .int x1, .int x2] (zS c s) (some (.int r)) (zS c s') := by
  refine zc_of (k := kX12_hire) (rt := 1) (L := [some (.ref 161), some (.int x1), some (.int x2)]) zm_2463.1 rfl rfl (by decide) rfl rfl ?_
  unfold fX12_hire at h
  refine zr_many 2 (pc' := 2) (L' := [some (.ref 161), some (.int x1), some (.int x2)]) (st' := [.int (0 : Int32), .ref 161]) (S1 := zS c s) rfl ?_
  refine zq_put (s' := (zsi s 161 0 (0 : Int32))) rfl (zh_161 _) rfl rfl rfl rfl zsi_ne rfl ?_
  refine zr_many 1 (pc' := 6) (L' := [some (.ref 161), some (.int x1), some (.int x2)]) (st' := [.ref 161]) (S1 := zS c (zsi s 161 0 (0 : Int32))) rfl ?_
  obtain ⟨s2, g3, h⟩ := zp_inv h
  refine zq_call0 rfl rfl (zh_161 _) rfl rfl rfl ((tX12_putsBy g3).up (by decide)) rfl ?_
  refine zr_many 3 (pc' := 12) (L' := [some (.ref 161), some (.int x1), some (.int x2)]) (st' := [.ref 161, .ref 161, .ref 161]) (S1 := zS c s2) rfl ?_
  refine zq_get rfl (zh_161 _) rfl rfl rfl ?_
  refine zr_many 2 (pc' := 17) (L' := [some (.ref 161), some (.int x1), some (.int x2)]) (st' := [.int x2, .int x1, .ref 169, .ref 161, .ref 161]) (S1 := zS c s2) rfl ?_
  obtain ⟨r4, s5, g6, h⟩ := zb_inv h
  refine zq_call1 rfl rfl (zh_161 _) rfl rfl rfl (tX12_hiresTo zR_n g6) rfl ?_
  obtain ⟨r7, s8, g9, h⟩ := zb_inv h
  refine zq_call1 rfl rfl (zh_161 _) rfl rfl rfl ((tX12_counts g9).up (by decide)) rfl ?_
  cases h
  exact zq_iret rfl
def fX12_leave (n : Nat) (s : zs) (x1 : Int32) : Option (Int32 × zs) := zp (fX12_putsBy n (zsi s 161 0 (0 : Int32))) (fun s2 => zb (fX12_leaves n s2 169 x1) (fun r4 s5 => zb (fX12_counts n s5 r4) (fun r7 s8 => some (r7, s8))))
theorem tX12_leave {n : Nat} {c : Nat × Nat} {s : zs} {x1 : Int32} {r : Int32} {s' : zs} (h : fX12_leave n s x1 = some (r, s')) : zc 4 2464 [.ref 161, .int x1] (zS c s) (some (.int r)) (zS c s') := by
  refine zc_of (k := kX12_leave) (rt := 1) (L := [some (.ref 161), some (.int x1)]) zm_2464.1 rfl rfl (by decide) rfl rfl ?_
  unfold fX12_leave at h
  refine zr_many 2 (pc' := 2) (L' := [some (.ref 161), some (.int x1)]) (st' := [.int (0 : Int32), .ref 161]) (S1 := zS c s) rfl ?_
  refine zq_put (s' := (zsi s 161 0 (0 : Int32))) rfl (zh_161 _) rfl rfl rfl rfl zsi_ne rfl ?_
  refine zr_many 1 (pc' := 6) (L' := [some (.ref 161), some (.int x1)]) (st' := [.ref 161]) (S1 := zS c (zsi s 161 0 (0 : Int32))) rfl ?_
  obtain ⟨s2, g3, h⟩ := zp_inv h
  refine zq_call0 rfl rfl (zh_161 _) rfl rfl rfl ((tX12_putsBy g3).up (by decide)) rfl ?_
  refine zr_many 3 (pc' := 12) (L' := [some (.ref 161), some (.int x1)]) (st' := [.ref 161, .ref 161, .ref 161]) (S1 := zS c s2) rfl ?_
  refine zq_get rfl (zh_161 _) rfl rfl rfl ?_
  refine zr_many 1 (pc' := 16) (L' := [some (.ref 161), some (.int x1)]) (st' := [.int x1, .ref 169, .ref 161, .ref 161]) (S1 := zS c s2) rfl ?_
  obtain ⟨r4, s5, g6, h⟩ := zb_inv h
  refine zq_call1 rfl rfl (zh_161 _) rfl rfl rfl (tX12_leaves zR_n g6) rfl ?_
  obtain ⟨r7, s8, g9, h⟩ := zb_inv h
  refine zq_call1 rfl rfl (zh_161 _) rfl rfl rfl ((tX12_counts g9).up (by decide)) rfl ?_
  cases h
  exact zq_iret rfl
def fX12_rest (n : Nat) (s : zs) (x1 : Int32) : Option (Int32 × zs) := zp (fX12_in n (zsi s 161 0 (0 : Int32)) x1.toInt64 (0 : Int64) (600 : Int64)) (fun r1 => if ¬ r1 = 0 then zp (fX12_putsBy n (zsi s 161 0 (0 : Int32))) (fun s6 => zp (fX12_restsFor n s6 169 x1) (fun s9 => zb (fX12_adds n s9 (s9.1 169 9)) (fun r12 s13 => some (r12, s13)))) else some ((-1 : Int32), (zsi s 161 0 (0 : Int32))))
theorem tX12_rest {n : Nat} {c : Nat × Nat} {s : zs} {x1 : Int32} {r : Int32} {s' : zs} (h : fX12_rest n s x1 = some (r, s')) : zc 3 2466 [.ref 161, .int x1] (zS c s) (some (.int r)) (zS c s') := by
  refine zc_of (k := kX12_rest) (rt := 1) (L := [some (.ref 161), some (.int x1)]) zm_2466.1 rfl rfl (by decide) rfl rfl ?_
  unfold fX12_rest at h
  refine zr_many 2 (pc' := 2) (L' := [some (.ref 161), some (.int x1)]) (st' := [.int (0 : Int32), .ref 161]) (S1 := zS c s) rfl ?_
  refine zq_put (s' := (zsi s 161 0 (0 : Int32))) rfl (zh_161 _) rfl rfl rfl rfl zsi_ne rfl ?_
  refine zr_many 4 (pc' := 11) (L' := [some (.ref 161), some (.int x1)]) (st' := [.long (600 : Int64), .long (0 : Int64), .long x1.toInt64]) (S1 := zS c (zsi s 161 0 (0 : Int32))) rfl ?_
  obtain ⟨r1, g3, h⟩ := zp_inv h
  refine zq_scall1 rfl (by decide) rfl rfl ((tX12_in g3).up (by decide)) rfl ?_
  refine zq_if1 (b := ¬ r1 = 0) rfl Iff.rfl rfl (fun g4 => ?_) (fun g4 => ?_)
  · rw [if_pos g4] at h
    refine zr_many 1 (pc' := 20) (L' := [some (.ref 161), some (.int x1)]) (st' := [.ref 161]) (S1 := zS c (zsi s 161 0 (0 : Int32))) rfl ?_
    obtain ⟨s6, g7, h⟩ := zp_inv h
    refine zq_call0 rfl rfl (zh_161 _) rfl rfl rfl ((tX12_putsBy g7).up (by decide)) rfl ?_
    refine zr_many 2 (pc' := 25) (L' := [some (.ref 161), some (.int x1)]) (st' := [.ref 161, .ref 161]) (S1 := zS c s6) rfl ?_
    refine zq_get rfl (zh_161 _) rfl rfl rfl ?_
    refine zr_many 1 (pc' := 29) (L' := [some (.ref 161), some (.int x1)]) (st' := [.int x1, .ref 169, .ref 161]) (S1 := zS c s6) rfl ?_
    obtain ⟨s9, g10, h⟩ := zp_inv h
    refine zq_call0 rfl rfl (zh_161 _) rfl rfl rfl (tX12_restsFor zR_n g10) rfl ?_
    refine zr_many 2 (pc' := 34) (L' := [some (.ref 161), some (.int x1)]) (st' := [.ref 161, .ref 161]) (S1 := zS c s9) rfl ?_
    refine zq_get rfl (zh_161 _) rfl rfl rfl ?_
    refine zr_many 1 (pc' := 39) (L' := [some (.ref 161), some (.int x1)]) (st' := [.int (9 : Int32), .ref 169, .ref 161]) (S1 := zS c s9) rfl ?_
    refine zq_ild rfl (zh_169 _) rfl (by decide) rfl ?_
    obtain ⟨r12, s13, g14, h⟩ := zb_inv h
    refine zq_call1 rfl rfl (zh_161 _) rfl rfl rfl ((tX12_adds g14).up (by decide)) rfl ?_
    cases h
    exact zq_iret rfl
  · rw [if_neg g4] at h
    refine zr_many 1 (pc' := 18) (L' := [some (.ref 161), some (.int x1)]) (st' := [.int (-1 : Int32)]) (S1 := zS c (zsi s 161 0 (0 : Int32))) rfl ?_
    cases h
    exact zq_iret rfl
def fX12_isPair_J21 (n : Nat) (s : zs) (y0 : Int32) : Option Int32 := if y0 = 0 ∨ y0 = 1 then some y0 else none
theorem tX12_isPair_J21 {n : Nat} {c : Nat × Nat} {s : zs} {y0 : Int32} {r : Int32} (h : fX12_isPair_J21 n s y0 = some r) : zr kX12_isPair 2 2 21 [none, none, none] [.int y0] (zS c s) (some (.int r)) (zS c s) := by
  unfold fX12_isPair_J21 at h
  obtain ⟨gz, h⟩ := zt_inv h
  cases h
  exact zq_zret rfl gz
def fX12_isPair_J20 (n : Nat) (s : zs) : Option Int32 := fX12_isPair_J21 n s (0 : Int32)
theorem tX12_isPair_J20 {n : Nat} {c : Nat × Nat} {s : zs} {r : Int32} (h : fX12_isPair_J20 n s = some r) : zr kX12_isPair 2 2 20 [none, none, none] [] (zS c s) (some (.int r)) (zS c s) := by
  unfold fX12_isPair_J20 at h
  refine zr_many 1 (pc' := 21) (L' := [none, none, none]) (st' := [.int (0 : Int32)]) (S1 := zS c s) rfl ?_
  exact zr_wk [none, none, none] trivial (tX12_isPair_J21 h)
def fX12_isPair (n : Nat) (s : zs) (x1 : Int32) (x2 : Int32) : Option Int32 := zp (fX12_isBarge n s x1) (fun r1 => if r1 = 0 then fX12_isPair_J20 n s else zp (fX12_isLock n s x2) (fun r5 => if r5 = 0 then fX12_isPair_J20 n s else fX12_isPair_J21 n s (1 : Int32)))
theorem tX12_isPair {n : Nat} {c : Nat × Nat} {s : zs} {x1 : Int32} {x2 : Int32} {r : Int32} (h : fX12_isPair n s x1 x2 = some r) : zc 3 2470 [.ref 161, .int x1, .int x2] (zS c s) (some (.int r)) (zS c s) := by
  refine zc_of (k := kX12_isPair) (rt := 2) (L := [some (.ref 161), some (.int x1), some (.int x2)]) zm_2470.1 rfl rfl (by decide) rfl rfl ?_
  unfold fX12_isPair at h
  refine zr_many 2 (pc' := 2) (L' := [some (.ref 161), some (.int x1), some (.int x2)]) (st' := [.int x1, .ref 161]) (S1 := zS c s) rfl ?_
  obtain ⟨r1, g3, h⟩ := zp_inv h
  refine zq_call1 rfl rfl (zh_161 _) rfl rfl rfl (tX12_isBarge g3) rfl ?_
  refine zq_if1 (b := r1 = 0) rfl Iff.rfl rfl (fun g4 => ?_) (fun g4 => ?_)
  · rw [if_pos g4] at h
    exact zr_wk [none, none, none] trivial (tX12_isPair_J20 h)
  · rw [if_neg g4] at h
    refine zr_many 2 (pc' := 10) (L' := [some (.ref 161), some (.int x1), some (.int x2)]) (st' := [.int x2, .ref 161]) (S1 := zS c s) rfl ?_
    obtain ⟨r5, g7, h⟩ := zp_inv h
    refine zq_call1 rfl rfl (zh_161 _) rfl rfl rfl (tX12_isLock g7) rfl ?_
    refine zq_if1 (b := r5 = 0) rfl Iff.rfl rfl (fun g8 => ?_) (fun g8 => ?_)
    · rw [if_pos g8] at h
      exact zr_wk [none, none, none] trivial (tX12_isPair_J20 h)
    · rw [if_neg g8] at h
      refine zr_many 2 (pc' := 21) (L' := [some (.ref 161), some (.int x1), some (.int x2)]) (st' := [.int (1 : Int32)]) (S1 := zS c s) rfl ?_
      exact zr_wk [none, none, none] trivial (tX12_isPair_J21 h)
def fX12_fees_J31 (n : Nat) (s : zs) (x1 : Int32) (x3 : Int32) (y0 : Int32) (y1 : Int32) : Option ((Int32 × Int32) ⊕ (Int32)) := some (Sum.inl ((y0 + y1), (x3 + (1 : Int32))))
theorem tX12_fees_J31 {n : Nat} {c : Nat × Nat} {s : zs} {x1 : Int32} {x3 : Int32} {y0 : Int32} {y1 : Int32} {o : _} {v : Option Value} {S' : zi_S} (h : fX12_fees_J31 n s x1 x3 y0 y1 = some o) (hn : ∀ w, o = Sum.inl w → zr kX12_fees 1 1 4 [some (.ref 161), some (.int x1), some (.int w.1), some (.int w.2)] [] (zS c s) v S') (hx : ∀ w, o = Sum.inr w → (fun w => zr kX12_fees 1 1 39 [none, none, some (.int w), none] [] (zS c s) v S') w) : zr kX12_fees 1 1 31 [some (.ref 161), some (.int x1), none, some (.int x3)] [.int y1, .int y0] (zS c s) v S' := by
  unfold fX12_fees_J31 at h
  refine zr_many 4 (pc' := 4) (L' := [some (.ref 161), some (.int x1), some (.int (y0 + y1)), some (.int (x3 + (1 : Int32)))]) (st' := []) (S1 := zS c s) rfl ?_
  cases h
  exact zr_wk [some (.ref 161), some (.int x1), some (.int (y0 + y1)), some (.int (x3 + (1 : Int32)))] ⟨rfl, rfl, rfl, rfl, trivial⟩ (hn _ rfl)
def fX12_fees_B4 (n : Nat) (s : zs) (x1 : Int32) (w : Int32 × Int32) : Option ((Int32 × Int32) ⊕ (Int32)) := if (s.1 161 4) ≤ w.2 then some (Sum.inr w.1) else zp (fX12_has n s x1 w.2) (fun r2 => if r2 = 0 then fX12_fees_J31 n s x1 w.2 w.1 (0 : Int32) else cond (zi_in w.2 8) (fX12_fees_J31 n s x1 w.2 w.1 (s.1 167 w.2.toNatClampNeg)) none)
theorem tX12_fees_B4 {n : Nat} {c : Nat × Nat} {s : zs} {x1 : Int32} {w : Int32 × Int32} {o : _} {v : Option Value} {S' : zi_S} (h : fX12_fees_B4 n s x1 w = some o) (hn : ∀ w, o = Sum.inl w → zr kX12_fees 1 1 4 [some (.ref 161), some (.int x1), some (.int w.1), some (.int w.2)] [] (zS c s) v S') (hx : ∀ w, o = Sum.inr w → (fun w => zr kX12_fees 1 1 39 [none, none, some (.int w), none] [] (zS c s) v S') w) : zr kX12_fees 1 1 4 [some (.ref 161), some (.int x1), some (.int w.1), some (.int w.2)] [] (zS c s) v S' := by
  unfold fX12_fees_B4 at h
  refine zr_many 2 (pc' := 6) (L' := [some (.ref 161), some (.int x1), some (.int w.1), some (.int w.2)]) (st' := [.ref 161, .int w.2]) (S1 := zS c s) rfl ?_
  refine zq_get rfl (zh_161 _) rfl rfl rfl ?_
  refine zq_if2 (b := (s.1 161 4) ≤ w.2) rfl Iff.rfl rfl (fun g1 => ?_) (fun g1 => ?_)
  · rw [if_pos g1] at h
    cases h
    exact zr_wk [none, none, some (.int w.1), none] ⟨rfl, trivial⟩ (hx _ rfl)
  · rw [if_neg g1] at h
    refine zr_many 3 (pc' := 15) (L' := [some (.ref 161), some (.int x1), some (.int w.1), some (.int w.2)]) (st' := [.int w.2, .int x1, .int w.1]) (S1 := zS c s) rfl ?_
    obtain ⟨r2, g4, h⟩ := zp_inv h
    refine zq_scall1 rfl (by decide) rfl rfl (tX12_has g4) rfl ?_
    refine zq_if1 (b := r2 = 0) rfl Iff.rfl rfl (fun g5 => ?_) (fun g5 => ?_)
    · rw [if_pos g5] at h
      refine zr_many 1 (pc' := 31) (L' := [some (.ref 161), some (.int x1), some (.int w.1), some (.int w.2)]) (st' := [.int (0 : Int32), .int w.1]) (S1 := zS c s) rfl ?_
      exact zr_wk [some (.ref 161), some (.int x1), none, some (.int w.2)] ⟨rfl, rfl, rfl, trivial⟩ (tX12_fees_J31 h hn hx)
    · rw [if_neg g5] at h
      refine zr_many 1 (pc' := 22) (L' := [some (.ref 161), some (.int x1), some (.int w.1), some (.int w.2)]) (st' := [.ref 161, .int w.1]) (S1 := zS c s) rfl ?_
      refine zq_get rfl (zh_161 _) rfl rfl rfl ?_
      refine zr_many 1 (pc' := 26) (L' := [some (.ref 161), some (.int x1), some (.int w.1), some (.int w.2)]) (st' := [.int w.2, .ref 167, .int w.1]) (S1 := zS c s) rfl ?_
      obtain ⟨g6, h⟩ := zi_cond_inv h
      refine zq_ild rfl (zh_167 _) rfl g6 rfl ?_
      refine zr_many 1 (pc' := 31) (L' := [some (.ref 161), some (.int x1), some (.int w.1), some (.int w.2)]) (st' := [.int (s.1 167 w.2.toNatClampNeg), .int w.1]) (S1 := zS c s) rfl ?_
      exact zr_wk [some (.ref 161), some (.int x1), none, some (.int w.2)] ⟨rfl, rfl, rfl, trivial⟩ (tX12_fees_J31 h hn hx)
def fX12_fees (n : Nat) (s : zs) (x1 : Int32) : Option Int32 := zp (zl (fX12_fees_B4 n s x1) n ((0 : Int32), (0 : Int32))) (fun w7 => some w7)
theorem tX12_fees {n : Nat} {c : Nat × Nat} {s : zs} {x1 : Int32} {r : Int32} (h : fX12_fees n s x1 = some r) : zc 2 2476 [.ref 161, .int x1] (zS c s) (some (.int r)) (zS c s) := by
  refine zc_of (k := kX12_fees) (rt := 1) (L := [some (.ref 161), some (.int x1), none, none]) zm_2476.1 rfl rfl (by decide) rfl rfl ?_
  unfold fX12_fees at h
  refine zr_many 4 (pc' := 4) (L' := [some (.ref 161), some (.int x1), some (.int (0 : Int32)), some (.int (0 : Int32))]) (st' := []) (S1 := zS c s) rfl ?_
  obtain ⟨w7, g8, h⟩ := zp_inv h
  refine zr_wk [some (.ref 161), some (.int x1), some (.int (0 : Int32)), some (.int (0 : Int32))] ⟨rfl, rfl, rfl, rfl, trivial⟩ (zl_cert (Z := fun w => zr kX12_fees 1 1 4 [some (.ref 161), some (.int x1), some (.int w.1), some (.int w.2)] [] (zS c s) _ _) (Y := (fun w => zr kX12_fees 1 1 39 [none, none, some (.int w), none] [] (zS c s) _ _)) (fun w o h1 h2 h3 => tX12_fees_B4 h1 h2 h3) n _ _ g8 ?_)
  show zr kX12_fees 1 1 39 [none, none, some (.int w7), none] [] (zS c s) _ _
  refine zr_many 1 (pc' := 40) (L' := [none, none, some (.int w7), none]) (st' := [.int w7]) (S1 := zS c s) rfl ?_
  cases h
  exact zq_iret rfl
def fX12_isCheaper_J39 (n : Nat) (s : zs) (y0 : Int32) : Option Int32 := if y0 = 0 ∨ y0 = 1 then some y0 else none
theorem tX12_isCheaper_J39 {n : Nat} {c : Nat × Nat} {s : zs} {y0 : Int32} {r : Int32} (h : fX12_isCheaper_J39 n s y0 = some r) : zr kX12_isCheaper 2 2 39 [none, none, none] [.int y0] (zS c s) (some (.int r)) (zS c s) := by
  unfold fX12_isCheaper_J39 at h
  obtain ⟨gz, h⟩ := zt_inv h
  cases h
  exact zq_zret rfl gz
def fX12_isCheaper_J34 (n : Nat) (s : zs) : Option Int32 := fX12_isCheaper_J39 n s (1 : Int32)
theorem tX12_isCheaper_J34 {n : Nat} {c : Nat × Nat} {s : zs} {r : Int32} (h : fX12_isCheaper_J34 n s = some r) : zr kX12_isCheaper 2 2 34 [none, none, none] [] (zS c s) (some (.int r)) (zS c s) := by
  unfold fX12_isCheaper_J34 at h
  refine zr_many 2 (pc' := 39) (L' := [none, none, none]) (st' := [.int (1 : Int32)]) (S1 := zS c s) rfl ?_
  exact zr_wk [none, none, none] trivial (tX12_isCheaper_J39 h)
def fX12_isCheaper_J17 (n : Nat) (s : zs) (x1 : Int32) (x2 : Int32) : Option Int32 := if x2 < 0 then fX12_isCheaper_J34 n s else zp (fX12_fees n s x1) (fun r3 => zp (fX12_fees n s x2) (fun r6 => if r6 ≤ r3 then fX12_isCheaper_J39 n s (0 : Int32) else fX12_isCheaper_J34 n s))
theorem tX12_isCheaper_J17 {n : Nat} {c : Nat × Nat} {s : zs} {x1 : Int32} {x2 : Int32} {r : Int32} (h : fX12_isCheaper_J17 n s x1 x2 = some r) : zr kX12_isCheaper 2 2 17 [some (.ref 161), some (.int x1), some (.int x2)] [] (zS c s) (some (.int r)) (zS c s) := by
  unfold fX12_isCheaper_J17 at h
  refine zr_many 1 (pc' := 18) (L' := [some (.ref 161), some (.int x1), some (.int x2)]) (st' := [.int x2]) (S1 := zS c s) rfl ?_
  refine zq_if1 (b := x2 < 0) rfl Iff.rfl rfl (fun g2 => ?_) (fun g2 => ?_)
  · rw [if_pos g2] at h
    exact zr_wk [none, none, none] trivial (tX12_isCheaper_J34 h)
  · rw [if_neg g2] at h
    refine zr_many 2 (pc' := 23) (L' := [some (.ref 161), some (.int x1), some (.int x2)]) (st' := [.int x1, .ref 161]) (S1 := zS c s) rfl ?_
    obtain ⟨r3, g5, h⟩ := zp_inv h
    refine zq_call1 rfl rfl (zh_161 _) rfl rfl rfl (tX12_fees g5) rfl ?_
    refine zr_many 2 (pc' := 28) (L' := [some (.ref 161), some (.int x1), some (.int x2)]) (st' := [.int x2, .ref 161, .int r3]) (S1 := zS c s) rfl ?_
    obtain ⟨r6, g8, h⟩ := zp_inv h
    refine zq_call1 rfl rfl (zh_161 _) rfl rfl rfl (tX12_fees g8) rfl ?_
    refine zq_if2 (b := r6 ≤ r3) rfl Iff.rfl rfl (fun g9 => ?_) (fun g9 => ?_)
    · rw [if_pos g9] at h
      refine zr_many 1 (pc' := 39) (L' := [some (.ref 161), some (.int x1), some (.int x2)]) (st' := [.int (0 : Int32)]) (S1 := zS c s) rfl ?_
      exact zr_wk [none, none, none] trivial (tX12_isCheaper_J39 h)
    · rw [if_neg g9] at h
      exact zr_wk [none, none, none] trivial (tX12_isCheaper_J34 h)
def fX12_isCheaper_J56 (n : Nat) (s : zs) (y0 : Int32) : Option Int32 := if y0 = 0 ∨ y0 = 1 then some y0 else none
theorem tX12_isCheaper_J56 {n : Nat} {c : Nat × Nat} {s : zs} {y0 : Int32} {r : Int32} (h : fX12_isCheaper_J56 n s y0 = some r) : zr kX12_isCheaper 2 2 56 [none, none, none] [.int y0] (zS c s) (some (.int r)) (zS c s) := by
  unfold fX12_isCheaper_J56 at h
  obtain ⟨gz, h⟩ := zt_inv h
  cases h
  exact zq_zret rfl gz
def fX12_isCheaper (n : Nat) (s : zs) (x1 : Int32) (x2 : Int32) : Option Int32 := if x2 < 0 then fX12_isCheaper_J17 n s x1 x2 else zp (fX12_fees n s x1) (fun r10 => zp (fX12_fees n s x2) (fun r13 => if r10 = r13 then zp (fJ6_bitCount_0f7a4 n s x1) (fun r17 => zp (fJ6_bitCount_0f7a4 n s x2) (fun r20 => if r20 ≤ r17 then fX12_isCheaper_J56 n s (0 : Int32) else fX12_isCheaper_J56 n s (1 : Int32))) else fX12_isCheaper_J17 n s x1 x2))
theorem tX12_isCheaper {n : Nat} {c : Nat × Nat} {s : zs} {x1 : Int32} {x2 : Int32} {r : Int32} (h : fX12_isCheaper n s x1 x2 = some r) : zc 3 2477 [.ref 161, .int x1, .int x2] (zS c s) (some (.int r)) (zS c s) := by
  refine zc_of (k := kX12_isCheaper) (rt := 2) (L := [some (.ref 161), some (.int x1), some (.int x2)]) zm_2477.1 rfl rfl (by decide) rfl rfl ?_
  unfold fX12_isCheaper at h
  refine zr_many 1 (pc' := 1) (L' := [some (.ref 161), some (.int x1), some (.int x2)]) (st' := [.int x2]) (S1 := zS c s) rfl ?_
  refine zq_if1 (b := x2 < 0) rfl Iff.rfl rfl (fun g1 => ?_) (fun g1 => ?_)
  · rw [if_pos g1] at h
    exact zr_wk [some (.ref 161), some (.int x1), some (.int x2)] ⟨rfl, rfl, rfl, trivial⟩ (tX12_isCheaper_J17 h)
  · rw [if_neg g1] at h
    refine zr_many 2 (pc' := 6) (L' := [some (.ref 161), some (.int x1), some (.int x2)]) (st' := [.int x1, .ref 161]) (S1 := zS c s) rfl ?_
    obtain ⟨r10, g12, h⟩ := zp_inv h
    refine zq_call1 rfl rfl (zh_161 _) rfl rfl rfl (tX12_fees g12) rfl ?_
    refine zr_many 2 (pc' := 11) (L' := [some (.ref 161), some (.int x1), some (.int x2)]) (st' := [.int x2, .ref 161, .int r10]) (S1 := zS c s) rfl ?_
    obtain ⟨r13, g15, h⟩ := zp_inv h
    refine zq_call1 rfl rfl (zh_161 _) rfl rfl rfl (tX12_fees g15) rfl ?_
    refine zq_if2 (b := r10 = r13) rfl Iff.rfl rfl (fun g16 => ?_) (fun g16 => ?_)
    · rw [if_pos g16] at h
      refine zr_many 1 (pc' := 41) (L' := [some (.ref 161), some (.int x1), some (.int x2)]) (st' := [.int x1]) (S1 := zS c s) rfl ?_
      obtain ⟨r17, g19, h⟩ := zp_inv h
      refine zq_scall1 rfl (by decide) rfl rfl ((tJ6_bitCount_0f7a4 g19).up (by decide)) rfl ?_
      refine zr_many 1 (pc' := 45) (L' := [some (.ref 161), some (.int x1), some (.int x2)]) (st' := [.int x2, .int r17]) (S1 := zS c s) rfl ?_
      obtain ⟨r20, g22, h⟩ := zp_inv h
      refine zq_scall1 rfl (by decide) rfl rfl ((tJ6_bitCount_0f7a4 g22).up (by decide)) rfl ?_
      refine zq_if2 (b := r20 ≤ r17) rfl Iff.rfl rfl (fun g23 => ?_) (fun g23 => ?_)
      · rw [if_pos g23] at h
        refine zr_many 1 (pc' := 56) (L' := [some (.ref 161), some (.int x1), some (.int x2)]) (st' := [.int (0 : Int32)]) (S1 := zS c s) rfl ?_
        exact zr_wk [none, none, none] trivial (tX12_isCheaper_J56 h)
      · rw [if_neg g23] at h
        refine zr_many 2 (pc' := 56) (L' := [some (.ref 161), some (.int x1), some (.int x2)]) (st' := [.int (1 : Int32)]) (S1 := zS c s) rfl ?_
        exact zr_wk [none, none, none] trivial (tX12_isCheaper_J56 h)
    · rw [if_neg g16] at h
      exact zr_wk [some (.ref 161), some (.int x1), some (.int x2)] ⟨rfl, rfl, rfl, trivial⟩ (tX12_isCheaper_J17 h)
def fX12_freeAt_J40 (n : Nat) (s : zs) (x1 : Int32) (x3 : Int32) (y0 : Int32) (y1 : Int32) : Option ((Int32 × Int32) ⊕ (Int32)) := some (Sum.inl ((y0 ||| y1), (x3 + (1 : Int32))))
theorem tX12_freeAt_J40 {n : Nat} {c : Nat × Nat} {s : zs} {x1 : Int32} {x3 : Int32} {y0 : Int32} {y1 : Int32} {o : _} {v : Option Value} {S' : zi_S} (h : fX12_freeAt_J40 n s x1 x3 y0 y1 = some o) (hn : ∀ w, o = Sum.inl w → zr kX12_freeAt 1 2 4 [some (.ref 161), some (.int x1), some (.int w.1), some (.int w.2)] [] (zS c s) v S') (hx : ∀ w, o = Sum.inr w → (fun w => zr kX12_freeAt 1 2 48 [none, none, some (.int w), none] [] (zS c s) v S') w) : zr kX12_freeAt 1 2 40 [some (.ref 161), some (.int x1), none, some (.int x3)] [.int y1, .int y0] (zS c s) v S' := by
  unfold fX12_freeAt_J40 at h
  refine zr_many 4 (pc' := 4) (L' := [some (.ref 161), some (.int x1), some (.int (y0 ||| y1)), some (.int (x3 + (1 : Int32)))]) (st' := []) (S1 := zS c s) rfl ?_
  cases h
  exact zr_wk [some (.ref 161), some (.int x1), some (.int (y0 ||| y1)), some (.int (x3 + (1 : Int32)))] ⟨rfl, rfl, rfl, rfl, trivial⟩ (hn _ rfl)
def fX12_freeAt_J39 (n : Nat) (s : zs) (x1 : Int32) (x3 : Int32) (y0 : Int32) : Option ((Int32 × Int32) ⊕ (Int32)) := fX12_freeAt_J40 n s x1 x3 y0 (0 : Int32)
theorem tX12_freeAt_J39 {n : Nat} {c : Nat × Nat} {s : zs} {x1 : Int32} {x3 : Int32} {y0 : Int32} {o : _} {v : Option Value} {S' : zi_S} (h : fX12_freeAt_J39 n s x1 x3 y0 = some o) (hn : ∀ w, o = Sum.inl w → zr kX12_freeAt 1 2 4 [some (.ref 161), some (.int x1), some (.int w.1), some (.int w.2)] [] (zS c s) v S') (hx : ∀ w, o = Sum.inr w → (fun w => zr kX12_freeAt 1 2 48 [none, none, some (.int w), none] [] (zS c s) v S') w) : zr kX12_freeAt 1 2 39 [some (.ref 161), some (.int x1), none, some (.int x3)] [.int y0] (zS c s) v S' := by
  unfold fX12_freeAt_J39 at h
  refine zr_many 1 (pc' := 40) (L' := [some (.ref 161), some (.int x1), none, some (.int x3)]) (st' := [.int (0 : Int32), .int y0]) (S1 := zS c s) rfl ?_
  exact zr_wk [some (.ref 161), some (.int x1), none, some (.int x3)] ⟨rfl, rfl, rfl, trivial⟩ (tX12_freeAt_J40 h hn hx)
def fX12_freeAt_B4 (n : Nat) (s : zs) (x1 : Int32) (w : Int32 × Int32) : Option ((Int32 × Int32) ⊕ (Int32)) := if (s.1 161 4) ≤ w.2 then some (Sum.inr w.1) else zp (fX12_crewOf n s 169 w.2) (fun r2 => if 0 ≤ r2 then fX12_freeAt_J39 n s x1 w.2 w.1 else zp (fX12_whereIs n s w.2) (fun r6 => if ¬ r6 = x1 then fX12_freeAt_J39 n s x1 w.2 w.1 else fX12_freeAt_J40 n s x1 w.2 w.1 ((1 : Int32) <<< (w.2 &&& 31))))
theorem tX12_freeAt_B4 {n : Nat} {c : Nat × Nat} {s : zs} {x1 : Int32} {w : Int32 × Int32} {o : _} {v : Option Value} {S' : zi_S} (h : fX12_freeAt_B4 n s x1 w = some o) (hn : ∀ w, o = Sum.inl w → zr kX12_freeAt 1 2 4 [some (.ref 161), some (.int x1), some (.int w.1), some (.int w.2)] [] (zS c s) v S') (hx : ∀ w, o = Sum.inr w → (fun w => zr kX12_freeAt 1 2 48 [none, none, some (.int w), none] [] (zS c s) v S') w) : zr kX12_freeAt 1 2 4 [some (.ref 161), some (.int x1), some (.int w.1), some (.int w.2)] [] (zS c s) v S' := by
  unfold fX12_freeAt_B4 at h
  refine zr_many 2 (pc' := 6) (L' := [some (.ref 161), some (.int x1), some (.int w.1), some (.int w.2)]) (st' := [.ref 161, .int w.2]) (S1 := zS c s) rfl ?_
  refine zq_get rfl (zh_161 _) rfl rfl rfl ?_
  refine zq_if2 (b := (s.1 161 4) ≤ w.2) rfl Iff.rfl rfl (fun g1 => ?_) (fun g1 => ?_)
  · rw [if_pos g1] at h
    cases h
    exact zr_wk [none, none, some (.int w.1), none] ⟨rfl, trivial⟩ (hx _ rfl)
  · rw [if_neg g1] at h
    refine zr_many 2 (pc' := 14) (L' := [some (.ref 161), some (.int x1), some (.int w.1), some (.int w.2)]) (st' := [.ref 161, .int w.1]) (S1 := zS c s) rfl ?_
    refine zq_get rfl (zh_161 _) rfl rfl rfl ?_
    refine zr_many 1 (pc' := 18) (L' := [some (.ref 161), some (.int x1), some (.int w.1), some (.int w.2)]) (st' := [.int w.2, .ref 169, .int w.1]) (S1 := zS c s) rfl ?_
    obtain ⟨r2, g4, h⟩ := zp_inv h
    refine zq_scall1 rfl (by decide) rfl rfl ((tX12_crewOf zR_n g4).up (by decide)) rfl ?_
    refine zq_if1 (b := 0 ≤ r2) rfl Iff.rfl rfl (fun g5 => ?_) (fun g5 => ?_)
    · rw [if_pos g5] at h
      exact zr_wk [some (.ref 161), some (.int x1), none, some (.int w.2)] ⟨rfl, rfl, rfl, trivial⟩ (tX12_freeAt_J39 h hn hx)
    · rw [if_neg g5] at h
      refine zr_many 2 (pc' := 26) (L' := [some (.ref 161), some (.int x1), some (.int w.1), some (.int w.2)]) (st' := [.int w.2, .ref 161, .int w.1]) (S1 := zS c s) rfl ?_
      obtain ⟨r6, g8, h⟩ := zp_inv h
      refine zq_call1 rfl rfl (zh_161 _) rfl rfl rfl (tX12_whereIs g8) rfl ?_
      refine zr_many 1 (pc' := 30) (L' := [some (.ref 161), some (.int x1), some (.int w.1), some (.int w.2)]) (st' := [.int x1, .int r6, .int w.1]) (S1 := zS c s) rfl ?_
      refine zq_if2 (b := ¬ r6 = x1) rfl Iff.rfl rfl (fun g9 => ?_) (fun g9 => ?_)
      · rw [if_pos g9] at h
        exact zr_wk [some (.ref 161), some (.int x1), none, some (.int w.2)] ⟨rfl, rfl, rfl, trivial⟩ (tX12_freeAt_J39 h hn hx)
      · rw [if_neg g9] at h
        refine zr_many 4 (pc' := 40) (L' := [some (.ref 161), some (.int x1), some (.int w.1), some (.int w.2)]) (st' := [.int ((1 : Int32) <<< (w.2 &&& 31)), .int w.1]) (S1 := zS c s) rfl ?_
        exact zr_wk [some (.ref 161), some (.int x1), none, some (.int w.2)] ⟨rfl, rfl, rfl, trivial⟩ (tX12_freeAt_J40 h hn hx)
def fX12_freeAt (n : Nat) (s : zs) (x1 : Int32) : Option Int32 := zp (zl (fX12_freeAt_B4 n s x1) n ((0 : Int32), (0 : Int32))) (fun w10 => some w10)
theorem tX12_freeAt {n : Nat} {c : Nat × Nat} {s : zs} {x1 : Int32} {r : Int32} (h : fX12_freeAt n s x1 = some r) : zc 3 2479 [.ref 161, .int x1] (zS c s) (some (.int r)) (zS c s) := by
  refine zc_of (k := kX12_freeAt) (rt := 1) (L := [some (.ref 161), some (.int x1), none, none]) zm_2479.1 rfl rfl (by decide) rfl rfl ?_
  unfold fX12_freeAt at h
  refine zr_many 4 (pc' := 4) (L' := [some (.ref 161), some (.int x1), some (.int (0 : Int32)), some (.int (0 : Int32))]) (st' := []) (S1 := zS c s) rfl ?_
  obtain ⟨w10, g11, h⟩ := zp_inv h
  refine zr_wk [some (.ref 161), some (.int x1), some (.int (0 : Int32)), some (.int (0 : Int32))] ⟨rfl, rfl, rfl, rfl, trivial⟩ (zl_cert (Z := fun w => zr kX12_freeAt 1 2 4 [some (.ref 161), some (.int x1), some (.int w.1), some (.int w.2)] [] (zS c s) _ _) (Y := (fun w => zr kX12_freeAt 1 2 48 [none, none, some (.int w), none] [] (zS c s) _ _)) (fun w o h1 h2 h3 => tX12_freeAt_B4 h1 h2 h3) n _ _ g11 ?_)
  show zr kX12_freeAt 1 2 48 [none, none, some (.int w10), none] [] (zS c s) _ _
  refine zr_many 1 (pc' := 49) (L' := [none, none, some (.int w10), none]) (st' := [.int w10]) (S1 := zS c s) rfl ?_
  cases h
  exact zq_iret rfl
def fX12_puts_B2 (n : Nat) (w : Int32 × zs) : Option ((Int32 × zs) ⊕ (zs)) := if (42 : Int32) ≤ w.1 then some (Sum.inr w.2) else cond (zi_in w.1 42) (cond (zi_in w.1 42) (some (Sum.inl ((w.1 + (1 : Int32)), (zsi w.2 170 w.1.toNatClampNeg (w.2.1 169 w.1.toNatClampNeg))))) none) none
theorem tX12_puts_B2 {n : Nat} {c : Nat × Nat} {w : Int32 × zs} {o : _} {v : Option Value} {S' : zi_S} (h : fX12_puts_B2 n w = some o) (hn : ∀ w, o = Sum.inl w → zr kX12_puts 0 0 2 [some (.ref 161), some (.int w.1)] [] (zS c w.2) v S') (hx : ∀ w, o = Sum.inr w → (fun w => zr kX12_puts 0 0 26 [none, none] [] (zS c w) v S') w) : zr kX12_puts 0 0 2 [some (.ref 161), some (.int w.1)] [] (zS c w.2) v S' := by
  unfold fX12_puts_B2 at h
  refine zr_many 2 (pc' := 5) (L' := [some (.ref 161), some (.int w.1)]) (st' := [.int (42 : Int32), .int w.1]) (S1 := zS c w.2) rfl ?_
  refine zq_if2 (b := (42 : Int32) ≤ w.1) rfl Iff.rfl rfl (fun g1 => ?_) (fun g1 => ?_)
  · rw [if_pos g1] at h
    cases h
    exact zr_wk [none, none] trivial (hx _ rfl)
  · rw [if_neg g1] at h
    refine zr_many 1 (pc' := 9) (L' := [some (.ref 161), some (.int w.1)]) (st' := [.ref 161]) (S1 := zS c w.2) rfl ?_
    refine zq_get rfl (zh_161 _) rfl rfl rfl ?_
    refine zr_many 2 (pc' := 14) (L' := [some (.ref 161), some (.int w.1)]) (st' := [.ref 161, .int w.1, .ref 170]) (S1 := zS c w.2) rfl ?_
    refine zq_get rfl (zh_161 _) rfl rfl rfl ?_
    refine zr_many 1 (pc' := 18) (L' := [some (.ref 161), some (.int w.1)]) (st' := [.int w.1, .ref 169, .int w.1, .ref 170]) (S1 := zS c w.2) rfl ?_
    obtain ⟨g2, h⟩ := zi_cond_inv h
    refine zq_ild rfl (zh_169 _) rfl g2 rfl ?_
    obtain ⟨g3, h⟩ := zi_cond_inv h
    refine zq_ist rfl zh_170 rfl g3 rfl ?_
    refine zr_many 2 (pc' := 2) (L' := [some (.ref 161), some (.int (w.1 + (1 : Int32)))]) (st' := []) (S1 := zS c (zsi w.2 170 w.1.toNatClampNeg (w.2.1 169 w.1.toNatClampNeg))) rfl ?_
    cases h
    exact zr_wk [some (.ref 161), some (.int (w.1 + (1 : Int32)))] ⟨rfl, rfl, trivial⟩ (hn _ rfl)
def fX12_puts (n : Nat) (s : zs) : Option zs := zp (zl (fX12_puts_B2 n) n ((0 : Int32), s)) (fun w4 => some w4)
theorem tX12_puts {n : Nat} {c : Nat × Nat} {s : zs} {s' : zs} (h : fX12_puts n s = some s') : zc 1 2481 [.ref 161] (zS c s) none (zS c s') := by
  refine zc_of (k := kX12_puts) (rt := 0) (L := [some (.ref 161), none]) zm_2481.1 rfl rfl (by decide) rfl rfl ?_
  unfold fX12_puts at h
  refine zr_many 2 (pc' := 2) (L' := [some (.ref 161), some (.int (0 : Int32))]) (st' := []) (S1 := zS c s) rfl ?_
  obtain ⟨w4, g5, h⟩ := zp_inv h
  refine zr_wk [some (.ref 161), some (.int (0 : Int32))] ⟨rfl, rfl, trivial⟩ (zl_cert (Z := fun w => zr kX12_puts 0 0 2 [some (.ref 161), some (.int w.1)] [] (zS c w.2) _ _) (Y := (fun w => zr kX12_puts 0 0 26 [none, none] [] (zS c w) _ _)) (fun w o h1 h2 h3 => tX12_puts_B2 h1 h2 h3) n _ _ g5 ?_)
  show zr kX12_puts 0 0 26 [none, none] [] (zS c w4) _ _
  cases h
  exact zq_vret rfl
def fX12_spot (n : Nat) (s : zs) (x0 : Int32) (x1 : Int32) (x2 : Int32) : Option Int32 := some (((((15 : Int32) * x0) + x1) * (2 : Int32)) + x2)
theorem tX12_spot {n : Nat} {c : Nat × Nat} {s : zs} {x0 : Int32} {x1 : Int32} {x2 : Int32} {r : Int32} (h : fX12_spot n s x0 x1 x2 = some r) : zc 1 2487 [.int x0, .int x1, .int x2] (zS c s) (some (.int r)) (zS c s) := by
  refine zc_of (k := kX12_spot) (rt := 1) (L := [some (.int x0), some (.int x1), some (.int x2)]) zm_2487.1 rfl rfl (by decide) rfl rfl ?_
  unfold fX12_spot at h
  refine zr_many 9 (pc' := 10) (L' := [some (.int x0), some (.int x1), some (.int x2)]) (st' := [.int (((((15 : Int32) * x0) + x1) * (2 : Int32)) + x2)]) (S1 := zS c s) rfl ?_
  cases h
  exact zq_iret rfl
def fX12_costOf_J18 (n : Nat) (s : zs) (y0 : Int32) (y1 : Int32) : Option Int32 := zp (fX12_flag n s y1) (fun r5 => some (y0 + r5))
theorem tX12_costOf_J18 {n : Nat} {c : Nat × Nat} {s : zs} {y0 : Int32} {y1 : Int32} {r : Int32} (h : fX12_costOf_J18 n s y0 y1 = some r) : zr kX12_costOf 1 1 18 [none, none] [.int y1, .int y0] (zS c s) (some (.int r)) (zS c s) := by
  unfold fX12_costOf_J18 at h
  obtain ⟨r5, g7, h⟩ := zp_inv h
  refine zq_scall1 rfl (by decide) rfl rfl (tX12_flag g7) rfl ?_
  refine zr_many 1 (pc' := 22) (L' := [none, none]) (st' := [.int (y0 + r5)]) (S1 := zS c s) rfl ?_
  cases h
  exact zq_iret rfl
def fX12_costOf (n : Nat) (s : zs) (x0 : Int32) (x1 : Int32) : Option Int32 := zp (fX12_waterFor n s x0 x1) (fun r1 => if ¬ x0 = x1 then fX12_costOf_J18 n s ((100 : Int32) * r1) (0 : Int32) else fX12_costOf_J18 n s ((100 : Int32) * r1) (1 : Int32))
theorem tX12_costOf {n : Nat} {c : Nat × Nat} {s : zs} {x0 : Int32} {x1 : Int32} {r : Int32} (h : fX12_costOf n s x0 x1 = some r) : zc 2 2488 [.int x0, .int x1] (zS c s) (some (.int r)) (zS c s) := by
  refine zc_of (k := kX12_costOf) (rt := 1) (L := [some (.int x0), some (.int x1)]) zm_2488.1 rfl rfl (by decide) rfl rfl ?_
  unfold fX12_costOf at h
  refine zr_many 3 (pc' := 4) (L' := [some (.int x0), some (.int x1)]) (st' := [.int x1, .int x0, .int (100 : Int32)]) (S1 := zS c s) rfl ?_
  obtain ⟨r1, g3, h⟩ := zp_inv h
  refine zq_scall1 rfl (by decide) rfl rfl (tX12_waterFor g3) rfl ?_
  refine zr_many 3 (pc' := 10) (L' := [some (.int x0), some (.int x1)]) (st' := [.int x1, .int x0, .int ((100 : Int32) * r1)]) (S1 := zS c s) rfl ?_
  refine zq_if2 (b := ¬ x0 = x1) rfl Iff.rfl rfl (fun g4 => ?_) (fun g4 => ?_)
  · rw [if_pos g4] at h
    refine zr_many 1 (pc' := 18) (L' := [some (.int x0), some (.int x1)]) (st' := [.int (0 : Int32), .int ((100 : Int32) * r1)]) (S1 := zS c s) rfl ?_
    exact zr_wk [none, none] trivial (tX12_costOf_J18 h)
  · rw [if_neg g4] at h
    refine zr_many 2 (pc' := 18) (L' := [some (.int x0), some (.int x1)]) (st' := [.int (1 : Int32), .int ((100 : Int32) * r1)]) (S1 := zS c s) rfl ?_
    exact zr_wk [none, none] trivial (tX12_costOf_J18 h)
def fX12_yetBy_J29 (n : Nat) (s : zs) (x1 : Int32) (x2 : Int32) (x3 : Int32) (x4 : Int32) : Option Int32 := zp (fX12_costOf n s x3 x4) (fun r3 => zp (fX12_spot n s (x1 + x4) ((x2 + (1 : Int32)) - x4) x4) (fun r6 => cond (zi_in r6 450) (some (r3 + (s.1 185 r6.toNatClampNeg))) none))
theorem tX12_yetBy_J29 {n : Nat} {c : Nat × Nat} {s : zs} {x1 : Int32} {x2 : Int32} {x3 : Int32} {x4 : Int32} {r : Int32} (h : fX12_yetBy_J29 n s x1 x2 x3 x4 = some r) : zr kX12_yetBy 1 2 29 [some (.ref 161), some (.int x1), some (.int x2), some (.int x3), some (.int x4)] [] (zS c s) (some (.int r)) (zS c s) := by
  unfold fX12_yetBy_J29 at h
  refine zr_many 2 (pc' := 32) (L' := [some (.ref 161), some (.int x1), some (.int x2), some (.int x3), some (.int x4)]) (st' := [.int x4, .int x3]) (S1 := zS c s) rfl ?_
  obtain ⟨r3, g5, h⟩ := zp_inv h
  refine zq_scall1 rfl (by decide) rfl rfl (tX12_costOf g5) rfl ?_
  refine zr_many 1 (pc' := 36) (L' := [some (.ref 161), some (.int x1), some (.int x2), some (.int x3), some (.int x4)]) (st' := [.ref 161, .int r3]) (S1 := zS c s) rfl ?_
  refine zq_get rfl (zh_161 _) rfl rfl rfl ?_
  refine zr_many 9 (pc' := 51) (L' := [some (.ref 161), some (.int x1), some (.int x2), some (.int x3), some (.int x4)]) (st' := [.int x4, .int ((x2 + (1 : Int32)) - x4), .int (x1 + x4), .ref 185, .int r3]) (S1 := zS c s) rfl ?_
  obtain ⟨r6, g8, h⟩ := zp_inv h
  refine zq_scall1 rfl (by decide) rfl rfl ((tX12_spot g8).up (by decide)) rfl ?_
  obtain ⟨g9, h⟩ := zi_cond_inv h
  refine zq_ild rfl (zh_185 _) rfl g9 rfl ?_
  refine zr_many 1 (pc' := 56) (L' := [some (.ref 161), some (.int x1), some (.int x2), some (.int x3), some (.int x4)]) (st' := [.int (r3 + (s.1 185 r6.toNatClampNeg))]) (S1 := zS c s) rfl ?_
  cases h
  exact zq_iret rfl
def fX12_yetBy_J25 (n : Nat) (s : zs) : Option Int32 := some (1000000 : Int32)
theorem tX12_yetBy_J25 {n : Nat} {c : Nat × Nat} {s : zs} {r : Int32} (h : fX12_yetBy_J25 n s = some r) : zr kX12_yetBy 1 2 25 [none, none, none, none, none] [] (zS c s) (some (.int r)) (zS c s) := by
  unfold fX12_yetBy_J25 at h
  refine zr_many 1 (pc' := 28) (L' := [none, none, none, none, none]) (st' := [.int (1000000 : Int32)]) (S1 := zS c s) rfl ?_
  cases h
  exact zq_iret rfl
def fX12_yetBy (n : Nat) (s : zs) (x1 : Int32) (x2 : Int32) (x3 : Int32) (x4 : Int32) : Option Int32 := if ¬ x4 = (1 : Int32) then if ¬ x2 = (s.1 161 43) then fX12_yetBy_J29 n s x1 x2 x3 x4 else fX12_yetBy_J25 n s else if ¬ x1 = (s.1 161 42) then fX12_yetBy_J29 n s x1 x2 x3 x4 else fX12_yetBy_J25 n s
theorem tX12_yetBy {n : Nat} {c : Nat × Nat} {s : zs} {x1 : Int32} {x2 : Int32} {x3 : Int32} {x4 : Int32} {r : Int32} (h : fX12_yetBy n s x1 x2 x3 x4 = some r) : zc 3 2489 [.ref 161, .int x1, .int x2, .int x3, .int x4] (zS c s) (some (.int r)) (zS c s) := by
  refine zc_of (k := kX12_yetBy) (rt := 1) (L := [some (.ref 161), some (.int x1), some (.int x2), some (.int x3), some (.int x4)]) zm_2489.1 rfl rfl (by decide) rfl rfl ?_
  unfold fX12_yetBy at h
  refine zr_many 2 (pc' := 3) (L' := [some (.ref 161), some (.int x1), some (.int x2), some (.int x3), some (.int x4)]) (st' := [.int (1 : Int32), .int x4]) (S1 := zS c s) rfl ?_
  refine zq_if2 (b := ¬ x4 = (1 : Int32)) rfl Iff.rfl rfl (fun g1 => ?_) (fun g1 => ?_)
  · rw [if_pos g1] at h
    refine zr_many 2 (pc' := 19) (L' := [some (.ref 161), some (.int x1), some (.int x2), some (.int x3), some (.int x4)]) (st' := [.ref 161, .int x2]) (S1 := zS c s) rfl ?_
    refine zq_get rfl (zh_161 _) rfl rfl rfl ?_
    refine zq_if2 (b := ¬ x2 = (s.1 161 43)) rfl Iff.rfl rfl (fun g2 => ?_) (fun g2 => ?_)
    · rw [if_pos g2] at h
      exact zr_wk [some (.ref 161), some (.int x1), some (.int x2), some (.int x3), some (.int x4)] ⟨rfl, rfl, rfl, rfl, rfl, trivial⟩ (tX12_yetBy_J29 h)
    · rw [if_neg g2] at h
      exact zr_wk [none, none, none, none, none] trivial (tX12_yetBy_J25 h)
  · rw [if_neg g1] at h
    refine zr_many 2 (pc' := 8) (L' := [some (.ref 161), some (.int x1), some (.int x2), some (.int x3), some (.int x4)]) (st' := [.ref 161, .int x1]) (S1 := zS c s) rfl ?_
    refine zq_get rfl (zh_161 _) rfl rfl rfl ?_
    refine zq_if2 (b := ¬ x1 = (s.1 161 42)) rfl Iff.rfl rfl (fun g10 => ?_) (fun g10 => ?_)
    · rw [if_pos g10] at h
      exact zr_wk [some (.ref 161), some (.int x1), some (.int x2), some (.int x3), some (.int x4)] ⟨rfl, rfl, rfl, rfl, rfl, trivial⟩ (tX12_yetBy_J29 h)
    · rw [if_neg g10] at h
      refine zr_many 1 (pc' := 25) (L' := [some (.ref 161), some (.int x1), some (.int x2), some (.int x3), some (.int x4)]) (st' := []) (S1 := zS c s) rfl ?_
      exact zr_wk [none, none, none, none, none] trivial (tX12_yetBy_J25 h)
def fX12_laysQueue_J78 (n : Nat) (s : zs) (x1 : Int32) (x2 : Int32) (x3 : Int32) (y1 : Int32) (y2 : Int32) : Option ((Int32 × zs) ⊕ (zs)) := cond (zi_in y1 450) (some (Sum.inl ((x3 + (1 : Int32)), (zsi s 185 y1.toNatClampNeg y2)))) none
theorem tX12_laysQueue_J78 {n : Nat} {c : Nat × Nat} {s : zs} {x1 : Int32} {x2 : Int32} {x3 : Int32} {y1 : Int32} {y2 : Int32} {o : _} {v : Option Value} {S' : zi_S} (h : fX12_laysQueue_J78 n s x1 x2 x3 y1 y2 = some o) (hn : ∀ w, o = Sum.inl w → zr kX12_laysQueue 0 3 20 [some (.ref 161), some (.int x1), some (.int x2), some (.int w.1), none] [] (zS c w.2) v S') (hx : ∀ w, o = Sum.inr w → (fun w => zr kX12_laysQueue 0 3 85 [some (.ref 161), some (.int x1), some (.int x2), none, none] [] (zS c w) v S') w) : zr kX12_laysQueue 0 3 78 [some (.ref 161), some (.int x1), some (.int x2), some (.int x3), none] [.int y2, .int y1, .ref 185] (zS c s) v S' := by
  unfold fX12_laysQueue_J78 at h
  obtain ⟨g14, h⟩ := zi_cond_inv h
  refine zq_ist rfl zh_185 rfl g14 rfl ?_
  refine zr_many 2 (pc' := 20) (L' := [some (.ref 161), some (.int x1), some (.int x2), some (.int (x3 + (1 : Int32))), none]) (st' := []) (S1 := zS c (zsi s 185 y1.toNatClampNeg y2)) rfl ?_
  cases h
  exact zr_wk [some (.ref 161), some (.int x1), some (.int x2), some (.int (x3 + (1 : Int32))), none] ⟨rfl, rfl, rfl, rfl, trivial⟩ (hn _ rfl)
def fX12_laysQueue_J76 (n : Nat) (s : zs) (x1 : Int32) (x2 : Int32) (x3 : Int32) (x4 : Int32) (y1 : Int32) : Option ((Int32 × zs) ⊕ (zs)) := fX12_laysQueue_J78 n s x1 x2 x3 y1 x4
theorem tX12_laysQueue_J76 {n : Nat} {c : Nat × Nat} {s : zs} {x1 : Int32} {x2 : Int32} {x3 : Int32} {x4 : Int32} {y1 : Int32} {o : _} {v : Option Value} {S' : zi_S} (h : fX12_laysQueue_J76 n s x1 x2 x3 x4 y1 = some o) (hn : ∀ w, o = Sum.inl w → zr kX12_laysQueue 0 3 20 [some (.ref 161), some (.int x1), some (.int x2), some (.int w.1), none] [] (zS c w.2) v S') (hx : ∀ w, o = Sum.inr w → (fun w => zr kX12_laysQueue 0 3 85 [some (.ref 161), some (.int x1), some (.int x2), none, none] [] (zS c w) v S') w) : zr kX12_laysQueue 0 3 76 [some (.ref 161), some (.int x1), some (.int x2), some (.int x3), some (.int x4)] [.int y1, .ref 185] (zS c s) v S' := by
  unfold fX12_laysQueue_J76 at h
  refine zr_many 1 (pc' := 78) (L' := [some (.ref 161), some (.int x1), some (.int x2), some (.int x3), some (.int x4)]) (st' := [.int x4, .int y1, .ref 185]) (S1 := zS c s) rfl ?_
  exact zr_wk [some (.ref 161), some (.int x1), some (.int x2), some (.int x3), none] ⟨rfl, rfl, rfl, rfl, trivial⟩ (tX12_laysQueue_J78 h hn hx)
def fX12_laysQueue_B20 (n : Nat) (x1 : Int32) (x2 : Int32) (w : Int32 × zs) : Option ((Int32 × zs) ⊕ (zs)) := if (2 : Int32) ≤ w.1 then some (Sum.inr w.2) else zp (fX12_yetBy n w.2 x1 x2 w.1 (0 : Int32)) (fun r4 => zp (fX12_yetBy n w.2 x1 x2 w.1 (1 : Int32)) (fun r7 => zp (fX12_spot n w.2 x1 x2 w.1) (fun r10 => if ¬ x1 = (w.2.1 161 42) then fX12_laysQueue_J76 n w.2 x1 x2 w.1 (if r7 < r4 then r7 else r4) r10 else if ¬ x2 = (w.2.1 161 43) then fX12_laysQueue_J76 n w.2 x1 x2 w.1 (if r7 < r4 then r7 else r4) r10 else fX12_laysQueue_J78 n w.2 x1 x2 w.1 r10 (0 : Int32))))
theorem tX12_laysQueue_B20 {n : Nat} {c : Nat × Nat} {x1 : Int32} {x2 : Int32} {w : Int32 × zs} {o : _} {v : Option Value} {S' : zi_S} (h : fX12_laysQueue_B20 n x1 x2 w = some o) (hn : ∀ w, o = Sum.inl w → zr kX12_laysQueue 0 3 20 [some (.ref 161), some (.int x1), some (.int x2), some (.int w.1), none] [] (zS c w.2) v S') (hx : ∀ w, o = Sum.inr w → (fun w => zr kX12_laysQueue 0 3 85 [some (.ref 161), some (.int x1), some (.int x2), none, none] [] (zS c w) v S') w) : zr kX12_laysQueue 0 3 20 [some (.ref 161), some (.int x1), some (.int x2), some (.int w.1), none] [] (zS c w.2) v S' := by
  unfold fX12_laysQueue_B20 at h
  refine zr_many 2 (pc' := 22) (L' := [some (.ref 161), some (.int x1), some (.int x2), some (.int w.1), none]) (st' := [.int (2 : Int32), .int w.1]) (S1 := zS c w.2) rfl ?_
  refine zq_if2 (b := (2 : Int32) ≤ w.1) rfl Iff.rfl rfl (fun g3 => ?_) (fun g3 => ?_)
  · rw [if_pos g3] at h
    cases h
    exact zr_wk [some (.ref 161), some (.int x1), some (.int x2), none, none] ⟨rfl, rfl, rfl, trivial⟩ (hx _ rfl)
  · rw [if_neg g3] at h
    refine zr_many 5 (pc' := 30) (L' := [some (.ref 161), some (.int x1), some (.int x2), some (.int w.1), none]) (st' := [.int (0 : Int32), .int w.1, .int x2, .int x1, .ref 161]) (S1 := zS c w.2) rfl ?_
    obtain ⟨r4, g6, h⟩ := zp_inv h
    refine zq_call1 rfl rfl (zh_161 _) rfl rfl rfl (tX12_yetBy g6) rfl ?_
    refine zr_many 5 (pc' := 38) (L' := [some (.ref 161), some (.int x1), some (.int x2), some (.int w.1), none]) (st' := [.int (1 : Int32), .int w.1, .int x2, .int x1, .ref 161, .int r4]) (S1 := zS c w.2) rfl ?_
    obtain ⟨r7, g9, h⟩ := zp_inv h
    refine zq_call1 rfl rfl (zh_161 _) rfl rfl rfl (tX12_yetBy g9) rfl ?_
    refine zr_many 3 (pc' := 47) (L' := [some (.ref 161), some (.int x1), some (.int x2), some (.int w.1), some (.int (if r7 < r4 then r7 else r4))]) (st' := [.ref 161]) (S1 := zS c w.2) rfl ?_
    refine zq_get rfl (zh_161 _) rfl rfl rfl ?_
    refine zr_many 3 (pc' := 53) (L' := [some (.ref 161), some (.int x1), some (.int x2), some (.int w.1), some (.int (if r7 < r4 then r7 else r4))]) (st' := [.int w.1, .int x2, .int x1, .ref 185]) (S1 := zS c w.2) rfl ?_
    obtain ⟨r10, g12, h⟩ := zp_inv h
    refine zq_scall1 rfl (by decide) rfl rfl ((tX12_spot g12).up (by decide)) rfl ?_
    refine zr_many 2 (pc' := 58) (L' := [some (.ref 161), some (.int x1), some (.int x2), some (.int w.1), some (.int (if r7 < r4 then r7 else r4))]) (st' := [.ref 161, .int x1, .int r10, .ref 185]) (S1 := zS c w.2) rfl ?_
    refine zq_get rfl (zh_161 _) rfl rfl rfl ?_
    refine zq_if2 (b := ¬ x1 = (w.2.1 161 42)) rfl Iff.rfl rfl (fun g13 => ?_) (fun g13 => ?_)
    · rw [if_pos g13] at h
      exact zr_wk [some (.ref 161), some (.int x1), some (.int x2), some (.int w.1), some (.int (if r7 < r4 then r7 else r4))] ⟨rfl, rfl, rfl, rfl, rfl, trivial⟩ (tX12_laysQueue_J76 h hn hx)
    · rw [if_neg g13] at h
      refine zr_many 2 (pc' := 66) (L' := [some (.ref 161), some (.int x1), some (.int x2), some (.int w.1), some (.int (if r7 < r4 then r7 else r4))]) (st' := [.ref 161, .int x2, .int r10, .ref 185]) (S1 := zS c w.2) rfl ?_
      refine zq_get rfl (zh_161 _) rfl rfl rfl ?_
      refine zq_if2 (b := ¬ x2 = (w.2.1 161 43)) rfl Iff.rfl rfl (fun g15 => ?_) (fun g15 => ?_)
      · rw [if_pos g15] at h
        exact zr_wk [some (.ref 161), some (.int x1), some (.int x2), some (.int w.1), some (.int (if r7 < r4 then r7 else r4))] ⟨rfl, rfl, rfl, rfl, rfl, trivial⟩ (tX12_laysQueue_J76 h hn hx)
      · rw [if_neg g15] at h
        refine zr_many 2 (pc' := 78) (L' := [some (.ref 161), some (.int x1), some (.int x2), some (.int w.1), some (.int (if r7 < r4 then r7 else r4))]) (st' := [.int (0 : Int32), .int r10, .ref 185]) (S1 := zS c w.2) rfl ?_
        exact zr_wk [some (.ref 161), some (.int x1), some (.int x2), some (.int w.1), none] ⟨rfl, rfl, rfl, rfl, trivial⟩ (tX12_laysQueue_J78 h hn hx)
def fX12_laysQueue_B14 (n : Nat) (x1 : Int32) (w : Int32 × zs) : Option ((Int32 × zs) ⊕ (zs)) := if w.1 < 0 then some (Sum.inr w.2) else zp (zl (fX12_laysQueue_B20 n x1 w.1) n ((0 : Int32), w.2)) (fun w16 => some (Sum.inl ((w.1 + (-1 : Int32)), w16)))
theorem tX12_laysQueue_B14 {n : Nat} {c : Nat × Nat} {x1 : Int32} {w : Int32 × zs} {o : _} {v : Option Value} {S' : zi_S} (h : fX12_laysQueue_B14 n x1 w = some o) (hn : ∀ w, o = Sum.inl w → zr kX12_laysQueue 0 3 14 [some (.ref 161), some (.int x1), some (.int w.1), none, none] [] (zS c w.2) v S') (hx : ∀ w, o = Sum.inr w → (fun w => zr kX12_laysQueue 0 3 91 [some (.ref 161), some (.int x1), none, none, none] [] (zS c w) v S') w) : zr kX12_laysQueue 0 3 14 [some (.ref 161), some (.int x1), some (.int w.1), none, none] [] (zS c w.2) v S' := by
  unfold fX12_laysQueue_B14 at h
  refine zr_many 1 (pc' := 15) (L' := [some (.ref 161), some (.int x1), some (.int w.1), none, none]) (st' := [.int w.1]) (S1 := zS c w.2) rfl ?_
  refine zq_if1 (b := w.1 < 0) rfl Iff.rfl rfl (fun g2 => ?_) (fun g2 => ?_)
  · rw [if_pos g2] at h
    cases h
    exact zr_wk [some (.ref 161), some (.int x1), none, none, none] ⟨rfl, rfl, trivial⟩ (hx _ rfl)
  · rw [if_neg g2] at h
    refine zr_many 2 (pc' := 20) (L' := [some (.ref 161), some (.int x1), some (.int w.1), some (.int (0 : Int32)), none]) (st' := []) (S1 := zS c w.2) rfl ?_
    obtain ⟨w16, g17, h⟩ := zp_inv h
    refine zr_wk [some (.ref 161), some (.int x1), some (.int w.1), some (.int (0 : Int32)), none] ⟨rfl, rfl, rfl, rfl, trivial⟩ (zl_cert (Z := fun w => zr kX12_laysQueue 0 3 20 [some (.ref 161), some (.int x1), some (.int w.1), some (.int w.1), none] [] (zS c w.2) _ _) (Y := (fun w => zr kX12_laysQueue 0 3 85 [some (.ref 161), some (.int x1), some (.int w.1), none, none] [] (zS c w) _ _)) (fun w o h1 h2 h3 => tX12_laysQueue_B20 h1 h2 h3) n _ _ g17 ?_)
    show zr kX12_laysQueue 0 3 85 [some (.ref 161), some (.int x1), some (.int w.1), none, none] [] (zS c w16) _ _
    refine zr_many 2 (pc' := 14) (L' := [some (.ref 161), some (.int x1), some (.int (w.1 + (-1 : Int32))), none, none]) (st' := []) (S1 := zS c w16) rfl ?_
    cases h
    exact zr_wk [some (.ref 161), some (.int x1), some (.int (w.1 + (-1 : Int32))), none, none] ⟨rfl, rfl, rfl, trivial⟩ (hn _ rfl)
def fX12_laysQueue_B5 (n : Nat) (w : Int32 × zs) : Option ((Int32 × zs) ⊕ (zs)) := if w.1 < 0 then some (Sum.inr w.2) else zp (zl (fX12_laysQueue_B14 n w.1) n ((w.2.1 161 43), w.2)) (fun w18 => some (Sum.inl ((w.1 + (-1 : Int32)), w18)))
theorem tX12_laysQueue_B5 {n : Nat} {c : Nat × Nat} {w : Int32 × zs} {o : _} {v : Option Value} {S' : zi_S} (h : fX12_laysQueue_B5 n w = some o) (hn : ∀ w, o = Sum.inl w → zr kX12_laysQueue 0 3 5 [some (.ref 161), some (.int w.1), none, none, none] [] (zS c w.2) v S') (hx : ∀ w, o = Sum.inr w → (fun w => zr kX12_laysQueue 0 3 97 [none, none, none, none, none] [] (zS c w) v S') w) : zr kX12_laysQueue 0 3 5 [some (.ref 161), some (.int w.1), none, none, none] [] (zS c w.2) v S' := by
  unfold fX12_laysQueue_B5 at h
  refine zr_many 1 (pc' := 6) (L' := [some (.ref 161), some (.int w.1), none, none, none]) (st' := [.int w.1]) (S1 := zS c w.2) rfl ?_
  refine zq_if1 (b := w.1 < 0) rfl Iff.rfl rfl (fun g1 => ?_) (fun g1 => ?_)
  · rw [if_pos g1] at h
    cases h
    exact zr_wk [none, none, none, none, none] trivial (hx _ rfl)
  · rw [if_neg g1] at h
    refine zr_many 1 (pc' := 10) (L' := [some (.ref 161), some (.int w.1), none, none, none]) (st' := [.ref 161]) (S1 := zS c w.2) rfl ?_
    refine zq_get rfl (zh_161 _) rfl rfl rfl ?_
    refine zr_many 1 (pc' := 14) (L' := [some (.ref 161), some (.int w.1), some (.int (w.2.1 161 43)), none, none]) (st' := []) (S1 := zS c w.2) rfl ?_
    obtain ⟨w18, g19, h⟩ := zp_inv h
    refine zr_wk [some (.ref 161), some (.int w.1), some (.int (w.2.1 161 43)), none, none] ⟨rfl, rfl, rfl, trivial⟩ (zl_cert (Z := fun w => zr kX12_laysQueue 0 3 14 [some (.ref 161), some (.int w.1), some (.int w.1), none, none] [] (zS c w.2) _ _) (Y := (fun w => zr kX12_laysQueue 0 3 91 [some (.ref 161), some (.int w.1), none, none, none] [] (zS c w) _ _)) (fun w o h1 h2 h3 => tX12_laysQueue_B14 h1 h2 h3) n _ _ g19 ?_)
    show zr kX12_laysQueue 0 3 91 [some (.ref 161), some (.int w.1), none, none, none] [] (zS c w18) _ _
    refine zr_many 2 (pc' := 5) (L' := [some (.ref 161), some (.int (w.1 + (-1 : Int32))), none, none, none]) (st' := []) (S1 := zS c w18) rfl ?_
    cases h
    exact zr_wk [some (.ref 161), some (.int (w.1 + (-1 : Int32))), none, none, none] ⟨rfl, rfl, trivial⟩ (hn _ rfl)
def fX12_laysQueue (n : Nat) (s : zs) : Option zs := zp (zl (fX12_laysQueue_B5 n) n ((s.1 161 42), s)) (fun w20 => some w20)
theorem tX12_laysQueue {n : Nat} {c : Nat × Nat} {s : zs} {s' : zs} (h : fX12_laysQueue n s = some s') : zc 4 2490 [.ref 161] (zS c s) none (zS c s') := by
  refine zc_of (k := kX12_laysQueue) (rt := 0) (L := [some (.ref 161), none, none, none, none]) zm_2490.1 rfl rfl (by decide) rfl rfl ?_
  unfold fX12_laysQueue at h
  refine zr_many 1 (pc' := 1) (L' := [some (.ref 161), none, none, none, none]) (st' := [.ref 161]) (S1 := zS c s) rfl ?_
  refine zq_get rfl (zh_161 _) rfl rfl rfl ?_
  refine zr_many 1 (pc' := 5) (L' := [some (.ref 161), some (.int (s.1 161 42)), none, none, none]) (st' := []) (S1 := zS c s) rfl ?_
  obtain ⟨w20, g21, h⟩ := zp_inv h
  refine zr_wk [some (.ref 161), some (.int (s.1 161 42)), none, none, none] ⟨rfl, rfl, trivial⟩ (zl_cert (Z := fun w => zr kX12_laysQueue 0 3 5 [some (.ref 161), some (.int w.1), none, none, none] [] (zS c w.2) _ _) (Y := (fun w => zr kX12_laysQueue 0 3 97 [none, none, none, none, none] [] (zS c w) _ _)) (fun w o h1 h2 h3 => tX12_laysQueue_B5 h1 h2 h3) n _ _ g21 ?_)
  show zr kX12_laysQueue 0 3 97 [none, none, none, none, none] [] (zS c w20) _ _
  cases h
  exact zq_vret rfl
def fX12_heard_J36 (n : Nat) (s : zs) : Option (Int32 × zs) := some ((-1 : Int32), s)
theorem tX12_heard_J36 {n : Nat} {c : Nat × Nat} {s : zs} {r : Int32} {s' : zs} (h : fX12_heard_J36 n s = some (r, s')) : zr kX12_heard 1 1 36 [none, none, none] [] (zS c s) (some (.int r)) (zS c s') := by
  unfold fX12_heard_J36 at h
  refine zr_many 1 (pc' := 37) (L' := [none, none, none]) (st' := [.int (-1 : Int32)]) (S1 := zS c s) rfl ?_
  cases h
  exact zq_iret rfl
def fX12_heard (n : Nat) (s : zs) (x1 : Int32) (x2 : Int32) : Option (Int32 × zs) := zp (fX12_in n (zsi s 161 0 (0 : Int32)) x1.toInt64 (0 : Int64) (25 : Int64)) (fun r1 => if r1 = 0 then fX12_heard_J36 n (zsi s 161 0 (0 : Int32)) else zp (fX12_in n (zsi s 161 0 (0 : Int32)) x2.toInt64 (0 : Int64) (1 : Int64)) (fun r5 => if r5 = 0 then fX12_heard_J36 n (zsi s 161 0 (0 : Int32)) else if ¬ ((zsi s 161 0 (0 : Int32)).1 161 45) = (12 : Int32) then cond (zi_in ((zsi s 161 0 (0 : Int32)).1 161 45) 12) (cond (zi_in ((zsi (zsi s 161 0 (0 : Int32)) 186 ((zsi s 161 0 (0 : Int32)).1 161 45).toNatClampNeg x1).1 161 45) 12) (some (((zsi (zsi (zsi (zsi s 161 0 (0 : Int32)) 186 ((zsi s 161 0 (0 : Int32)).1 161 45).toNatClampNeg x1) 187 ((zsi (zsi s 161 0 (0 : Int32)) 186 ((zsi s 161 0 (0 : Int32)).1 161 45).toNatClampNeg x1).1 161 45).toNatClampNeg x2) 161 45 (((zsi (zsi (zsi s 161 0 (0 : Int32)) 186 ((zsi s 161 0 (0 : Int32)).1 161 45).toNatClampNeg x1) 187 ((zsi (zsi s 161 0 (0 : Int32)) 186 ((zsi s 161 0 (0 : Int32)).1 161 45).toNatClampNeg x1).1 161 45).toNatClampNeg x2).1 161 45) + (1 : Int32))).1 161 45), (zsi (zsi (zsi (zsi s 161 0 (0 : Int32)) 186 ((zsi s 161 0 (0 : Int32)).1 161 45).toNatClampNeg x1) 187 ((zsi (zsi s 161 0 (0 : Int32)) 186 ((zsi s 161 0 (0 : Int32)).1 161 45).toNatClampNeg x1).1 161 45).toNatClampNeg x2) 161 45 (((zsi (zsi (zsi s 161 0 (0 : Int32)) 186 ((zsi s 161 0 (0 : Int32)).1 161 45).toNatClampNeg x1) 187 ((zsi (zsi s 161 0 (0 : Int32)) 186 ((zsi s 161 0 (0 : Int32)).1 161 45).toNatClampNeg x1).1 161 45).toNatClampNeg x2).1 161 45) + (1 : Int32))))) none) none else fX12_heard_J36 n (zsi s 161 0 (0 : Int32))))
theorem tX12_heard {n : Nat} {c : Nat × Nat} {s : zs} {x1 : Int32} {x2 : Int32} {r : Int32} {s' : zs} (h : fX12_heard n s x1 x2 = some (r, s')) : zc 2 2494 [.ref 161, .int x1, .int x2] (zS c s) (some (.int r)) (zS c s') := by
  refine zc_of (k := kX12_heard) (rt := 1) (L := [some (.ref 161), some (.int x1), some (.int x2)]) zm_2494.1 rfl rfl (by decide) rfl rfl ?_
  unfold fX12_heard at h
  refine zr_many 2 (pc' := 2) (L' := [some (.ref 161), some (.int x1), some (.int x2)]) (st' := [.int (0 : Int32), .ref 161]) (S1 := zS c s) rfl ?_
  refine zq_put (s' := (zsi s 161 0 (0 : Int32))) rfl (zh_161 _) rfl rfl rfl rfl zsi_ne rfl ?_
  refine zr_many 4 (pc' := 11) (L' := [some (.ref 161), some (.int x1), some (.int x2)]) (st' := [.long (25 : Int64), .long (0 : Int64), .long x1.toInt64]) (S1 := zS c (zsi s 161 0 (0 : Int32))) rfl ?_
  obtain ⟨r1, g3, h⟩ := zp_inv h
  refine zq_scall1 rfl (by decide) rfl rfl (tX12_in g3) rfl ?_
  refine zq_if1 (b := r1 = 0) rfl Iff.rfl rfl (fun g4 => ?_) (fun g4 => ?_)
  · rw [if_pos g4] at h
    exact zr_wk [none, none, none] trivial (tX12_heard_J36 h)
  · rw [if_neg g4] at h
    refine zr_many 4 (pc' := 21) (L' := [some (.ref 161), some (.int x1), some (.int x2)]) (st' := [.long (1 : Int64), .long (0 : Int64), .long x2.toInt64]) (S1 := zS c (zsi s 161 0 (0 : Int32))) rfl ?_
    obtain ⟨r5, g7, h⟩ := zp_inv h
    refine zq_scall1 rfl (by decide) rfl rfl (tX12_in g7) rfl ?_
    refine zq_if1 (b := r5 = 0) rfl Iff.rfl rfl (fun g8 => ?_) (fun g8 => ?_)
    · rw [if_pos g8] at h
      exact zr_wk [none, none, none] trivial (tX12_heard_J36 h)
    · rw [if_neg g8] at h
      refine zr_many 1 (pc' := 28) (L' := [some (.ref 161), some (.int x1), some (.int x2)]) (st' := [.ref 161]) (S1 := zS c (zsi s 161 0 (0 : Int32))) rfl ?_
      refine zq_get rfl (zh_161 _) rfl rfl rfl ?_
      refine zr_many 1 (pc' := 33) (L' := [some (.ref 161), some (.int x1), some (.int x2)]) (st' := [.int (12 : Int32), .int ((zsi s 161 0 (0 : Int32)).1 161 45)]) (S1 := zS c (zsi s 161 0 (0 : Int32))) rfl ?_
      refine zq_if2 (b := ¬ ((zsi s 161 0 (0 : Int32)).1 161 45) = (12 : Int32)) rfl Iff.rfl rfl (fun g9 => ?_) (fun g9 => ?_)
      · rw [if_pos g9] at h
        refine zr_many 1 (pc' := 39) (L' := [some (.ref 161), some (.int x1), some (.int x2)]) (st' := [.ref 161]) (S1 := zS c (zsi s 161 0 (0 : Int32))) rfl ?_
        refine zq_get rfl (zh_161 _) rfl rfl rfl ?_
        refine zr_many 1 (pc' := 43) (L' := [some (.ref 161), some (.int x1), some (.int x2)]) (st' := [.ref 161, .ref 186]) (S1 := zS c (zsi s 161 0 (0 : Int32))) rfl ?_
        refine zq_get rfl (zh_161 _) rfl rfl rfl ?_
        refine zr_many 1 (pc' := 47) (L' := [some (.ref 161), some (.int x1), some (.int x2)]) (st' := [.int x1, .int ((zsi s 161 0 (0 : Int32)).1 161 45), .ref 186]) (S1 := zS c (zsi s 161 0 (0 : Int32))) rfl ?_
        obtain ⟨g10, h⟩ := zi_cond_inv h
        refine zq_ist rfl zh_186 rfl g10 rfl ?_
        refine zr_many 1 (pc' := 49) (L' := [some (.ref 161), some (.int x1), some (.int x2)]) (st' := [.ref 161]) (S1 := zS c (zsi (zsi s 161 0 (0 : Int32)) 186 ((zsi s 161 0 (0 : Int32)).1 161 45).toNatClampNeg x1)) rfl ?_
        refine zq_get rfl (zh_161 _) rfl rfl rfl ?_
        refine zr_many 1 (pc' := 53) (L' := [some (.ref 161), some (.int x1), some (.int x2)]) (st' := [.ref 161, .ref 187]) (S1 := zS c (zsi (zsi s 161 0 (0 : Int32)) 186 ((zsi s 161 0 (0 : Int32)).1 161 45).toNatClampNeg x1)) rfl ?_
        refine zq_get rfl (zh_161 _) rfl rfl rfl ?_
        refine zr_many 1 (pc' := 57) (L' := [some (.ref 161), some (.int x1), some (.int x2)]) (st' := [.int x2, .int ((zsi (zsi s 161 0 (0 : Int32)) 186 ((zsi s 161 0 (0 : Int32)).1 161 45).toNatClampNeg x1).1 161 45), .ref 187]) (S1 := zS c (zsi (zsi s 161 0 (0 : Int32)) 186 ((zsi s 161 0 (0 : Int32)).1 161 45).toNatClampNeg x1)) rfl ?_
        obtain ⟨g11, h⟩ := zi_cond_inv h
        refine zq_ist rfl zh_187 rfl g11 rfl ?_
        refine zr_many 2 (pc' := 60) (L' := [some (.ref 161), some (.int x1), some (.int x2)]) (st' := [.ref 161, .ref 161]) (S1 := zS c (zsi (zsi (zsi s 161 0 (0 : Int32)) 186 ((zsi s 161 0 (0 : Int32)).1 161 45).toNatClampNeg x1) 187 ((zsi (zsi s 161 0 (0 : Int32)) 186 ((zsi s 161 0 (0 : Int32)).1 161 45).toNatClampNeg x1).1 161 45).toNatClampNeg x2)) rfl ?_
        refine zq_get rfl (zh_161 _) rfl rfl rfl ?_
        refine zr_many 2 (pc' := 65) (L' := [some (.ref 161), some (.int x1), some (.int x2)]) (st' := [.int (((zsi (zsi (zsi s 161 0 (0 : Int32)) 186 ((zsi s 161 0 (0 : Int32)).1 161 45).toNatClampNeg x1) 187 ((zsi (zsi s 161 0 (0 : Int32)) 186 ((zsi s 161 0 (0 : Int32)).1 161 45).toNatClampNeg x1).1 161 45).toNatClampNeg x2).1 161 45) + (1 : Int32)), .ref 161]) (S1 := zS c (zsi (zsi (zsi s 161 0 (0 : Int32)) 186 ((zsi s 161 0 (0 : Int32)).1 161 45).toNatClampNeg x1) 187 ((zsi (zsi s 161 0 (0 : Int32)) 186 ((zsi s 161 0 (0 : Int32)).1 161 45).toNatClampNeg x1).1 161 45).toNatClampNeg x2)) rfl ?_
        refine zq_put (s' := (zsi (zsi (zsi (zsi s 161 0 (0 : Int32)) 186 ((zsi s 161 0 (0 : Int32)).1 161 45).toNatClampNeg x1) 187 ((zsi (zsi s 161 0 (0 : Int32)) 186 ((zsi s 161 0 (0 : Int32)).1 161 45).toNatClampNeg x1).1 161 45).toNatClampNeg x2) 161 45 (((zsi (zsi (zsi s 161 0 (0 : Int32)) 186 ((zsi s 161 0 (0 : Int32)).1 161 45).toNatClampNeg x1) 187 ((zsi (zsi s 161 0 (0 : Int32)) 186 ((zsi s 161 0 (0 : Int32)).1 161 45).toNatClampNeg x1).1 161 45).toNatClampNeg x2).1 161 45) + (1 : Int32)))) rfl (zh_161 _) rfl rfl rfl rfl zsi_ne rfl ?_
        refine zr_many 1 (pc' := 69) (L' := [some (.ref 161), some (.int x1), some (.int x2)]) (st' := [.ref 161]) (S1 := zS c (zsi (zsi (zsi (zsi s 161 0 (0 : Int32)) 186 ((zsi s 161 0 (0 : Int32)).1 161 45).toNatClampNeg x1) 187 ((zsi (zsi s 161 0 (0 : Int32)) 186 ((zsi s 161 0 (0 : Int32)).1 161 45).toNatClampNeg x1).1 161 45).toNatClampNeg x2) 161 45 (((zsi (zsi (zsi s 161 0 (0 : Int32)) 186 ((zsi s 161 0 (0 : Int32)).1 161 45).toNatClampNeg x1) 187 ((zsi (zsi s 161 0 (0 : Int32)) 186 ((zsi s 161 0 (0 : Int32)).1 161 45).toNatClampNeg x1).1 161 45).toNatClampNeg x2).1 161 45) + (1 : Int32)))) rfl ?_
        refine zq_get rfl (zh_161 _) rfl rfl rfl ?_
        cases h
        exact zq_iret rfl
      · rw [if_neg g9] at h
        exact zr_wk [none, none, none] trivial (tX12_heard_J36 h)
def fX12_forget (n : Nat) (s : zs) : Option (Int32 × zs) := some (((zsi s 161 0 (0 : Int32)).1 161 45), (zsi (zsi s 161 0 (0 : Int32)) 161 45 (0 : Int32)))
theorem tX12_forget {n : Nat} {c : Nat × Nat} {s : zs} {r : Int32} {s' : zs} (h : fX12_forget n s = some (r, s')) : zc 1 2495 [.ref 161] (zS c s) (some (.int r)) (zS c s') := by
  refine zc_of (k := kX12_forget) (rt := 1) (L := [some (.ref 161), none]) zm_2495.1 rfl rfl (by decide) rfl rfl ?_
  unfold fX12_forget at h
  refine zr_many 2 (pc' := 2) (L' := [some (.ref 161), none]) (st' := [.int (0 : Int32), .ref 161]) (S1 := zS c s) rfl ?_
  refine zq_put (s' := (zsi s 161 0 (0 : Int32))) rfl (zh_161 _) rfl rfl rfl rfl zsi_ne rfl ?_
  refine zr_many 1 (pc' := 6) (L' := [some (.ref 161), none]) (st' := [.ref 161]) (S1 := zS c (zsi s 161 0 (0 : Int32))) rfl ?_
  refine zq_get rfl (zh_161 _) rfl rfl rfl ?_
  refine zr_many 3 (pc' := 12) (L' := [some (.ref 161), some (.int ((zsi s 161 0 (0 : Int32)).1 161 45))]) (st' := [.int (0 : Int32), .ref 161]) (S1 := zS c (zsi s 161 0 (0 : Int32))) rfl ?_
  refine zq_put (s' := (zsi (zsi s 161 0 (0 : Int32)) 161 45 (0 : Int32))) rfl (zh_161 _) rfl rfl rfl rfl zsi_ne rfl ?_
  refine zr_many 1 (pc' := 16) (L' := [some (.ref 161), some (.int ((zsi s 161 0 (0 : Int32)).1 161 45))]) (st' := [.int ((zsi s 161 0 (0 : Int32)).1 161 45)]) (S1 := zS c (zsi (zsi s 161 0 (0 : Int32)) 161 45 (0 : Int32))) rfl ?_
  cases h
  exact zq_iret rfl
def fX12_singersOf_J42 (n : Nat) (s : zs) (x1 : Int32) (x3 : Int32) (y0 : Int32) (y1 : Int32) : Option ((Int32 × Int32) ⊕ (Int32)) := some (Sum.inl ((y0 ||| y1), (x3 + (1 : Int32))))
theorem tX12_singersOf_J42 {n : Nat} {c : Nat × Nat} {s : zs} {x1 : Int32} {x3 : Int32} {y0 : Int32} {y1 : Int32} {o : _} {v : Option Value} {S' : zi_S} (h : fX12_singersOf_J42 n s x1 x3 y0 y1 = some o) (hn : ∀ w, o = Sum.inl w → zr kX12_singersOf 1 1 4 [some (.ref 161), some (.int x1), some (.int w.1), some (.int w.2)] [] (zS c s) v S') (hx : ∀ w, o = Sum.inr w → (fun w => zr kX12_singersOf 1 1 50 [none, none, some (.int w), none] [] (zS c s) v S') w) : zr kX12_singersOf 1 1 42 [some (.ref 161), some (.int x1), none, some (.int x3)] [.int y1, .int y0] (zS c s) v S' := by
  unfold fX12_singersOf_J42 at h
  refine zr_many 4 (pc' := 4) (L' := [some (.ref 161), some (.int x1), some (.int (y0 ||| y1)), some (.int (x3 + (1 : Int32)))]) (st' := []) (S1 := zS c s) rfl ?_
  cases h
  exact zr_wk [some (.ref 161), some (.int x1), some (.int (y0 ||| y1)), some (.int (x3 + (1 : Int32)))] ⟨rfl, rfl, rfl, rfl, trivial⟩ (hn _ rfl)
def fX12_singersOf_B4 (n : Nat) (s : zs) (x1 : Int32) (w : Int32 × Int32) : Option ((Int32 × Int32) ⊕ (Int32)) := if (s.1 161 4) ≤ w.2 then some (Sum.inr w.1) else cond (zi_in w.2 8) (cond (zi_in w.2 8) (zp (fX12_in n s x1.toInt64 ((s.1 165 w.2.toNatClampNeg).toInt64) ((s.1 166 w.2.toNatClampNeg).toInt64)) (fun r4 => if r4 = 0 then fX12_singersOf_J42 n s x1 w.2 w.1 (0 : Int32) else fX12_singersOf_J42 n s x1 w.2 w.1 ((1 : Int32) <<< (w.2 &&& 31)))) none) none
theorem tX12_singersOf_B4 {n : Nat} {c : Nat × Nat} {s : zs} {x1 : Int32} {w : Int32 × Int32} {o : _} {v : Option Value} {S' : zi_S} (h : fX12_singersOf_B4 n s x1 w = some o) (hn : ∀ w, o = Sum.inl w → zr kX12_singersOf 1 1 4 [some (.ref 161), some (.int x1), some (.int w.1), some (.int w.2)] [] (zS c s) v S') (hx : ∀ w, o = Sum.inr w → (fun w => zr kX12_singersOf 1 1 50 [none, none, some (.int w), none] [] (zS c s) v S') w) : zr kX12_singersOf 1 1 4 [some (.ref 161), some (.int x1), some (.int w.1), some (.int w.2)] [] (zS c s) v S' := by
  unfold fX12_singersOf_B4 at h
  refine zr_many 2 (pc' := 6) (L' := [some (.ref 161), some (.int x1), some (.int w.1), some (.int w.2)]) (st' := [.ref 161, .int w.2]) (S1 := zS c s) rfl ?_
  refine zq_get rfl (zh_161 _) rfl rfl rfl ?_
  refine zq_if2 (b := (s.1 161 4) ≤ w.2) rfl Iff.rfl rfl (fun g1 => ?_) (fun g1 => ?_)
  · rw [if_pos g1] at h
    cases h
    exact zr_wk [none, none, some (.int w.1), none] ⟨rfl, trivial⟩ (hx _ rfl)
  · rw [if_neg g1] at h
    refine zr_many 4 (pc' := 16) (L' := [some (.ref 161), some (.int x1), some (.int w.1), some (.int w.2)]) (st' := [.ref 161, .long x1.toInt64, .int w.1]) (S1 := zS c s) rfl ?_
    refine zq_get rfl (zh_161 _) rfl rfl rfl ?_
    refine zr_many 1 (pc' := 20) (L' := [some (.ref 161), some (.int x1), some (.int w.1), some (.int w.2)]) (st' := [.int w.2, .ref 165, .long x1.toInt64, .int w.1]) (S1 := zS c s) rfl ?_
    obtain ⟨g2, h⟩ := zi_cond_inv h
    refine zq_ild rfl (zh_165 _) rfl g2 rfl ?_
    refine zr_many 2 (pc' := 23) (L' := [some (.ref 161), some (.int x1), some (.int w.1), some (.int w.2)]) (st' := [.ref 161, .long (s.1 165 w.2.toNatClampNeg).toInt64, .long x1.toInt64, .int w.1]) (S1 := zS c s) rfl ?_
    refine zq_get rfl (zh_161 _) rfl rfl rfl ?_
    refine zr_many 1 (pc' := 27) (L' := [some (.ref 161), some (.int x1), some (.int w.1), some (.int w.2)]) (st' := [.int w.2, .ref 166, .long (s.1 165 w.2.toNatClampNeg).toInt64, .long x1.toInt64, .int w.1]) (S1 := zS c s) rfl ?_
    obtain ⟨g3, h⟩ := zi_cond_inv h
    refine zq_ild rfl (zh_166 _) rfl g3 rfl ?_
    refine zr_many 1 (pc' := 29) (L' := [some (.ref 161), some (.int x1), some (.int w.1), some (.int w.2)]) (st' := [.long (s.1 166 w.2.toNatClampNeg).toInt64, .long (s.1 165 w.2.toNatClampNeg).toInt64, .long x1.toInt64, .int w.1]) (S1 := zS c s) rfl ?_
    obtain ⟨r4, g6, h⟩ := zp_inv h
    refine zq_scall1 rfl (by decide) rfl rfl (tX12_in g6) rfl ?_
    refine zq_if1 (b := r4 = 0) rfl Iff.rfl rfl (fun g7 => ?_) (fun g7 => ?_)
    · rw [if_pos g7] at h
      refine zr_many 1 (pc' := 42) (L' := [some (.ref 161), some (.int x1), some (.int w.1), some (.int w.2)]) (st' := [.int (0 : Int32), .int w.1]) (S1 := zS c s) rfl ?_
      exact zr_wk [some (.ref 161), some (.int x1), none, some (.int w.2)] ⟨rfl, rfl, rfl, trivial⟩ (tX12_singersOf_J42 h hn hx)
    · rw [if_neg g7] at h
      refine zr_many 4 (pc' := 42) (L' := [some (.ref 161), some (.int x1), some (.int w.1), some (.int w.2)]) (st' := [.int ((1 : Int32) <<< (w.2 &&& 31)), .int w.1]) (S1 := zS c s) rfl ?_
      exact zr_wk [some (.ref 161), some (.int x1), none, some (.int w.2)] ⟨rfl, rfl, rfl, trivial⟩ (tX12_singersOf_J42 h hn hx)
def fX12_singersOf (n : Nat) (s : zs) (x1 : Int32) : Option Int32 := zp (zl (fX12_singersOf_B4 n s x1) n ((0 : Int32), (0 : Int32))) (fun w8 => some w8)
theorem tX12_singersOf {n : Nat} {c : Nat × Nat} {s : zs} {x1 : Int32} {r : Int32} (h : fX12_singersOf n s x1 = some r) : zc 2 2496 [.ref 161, .int x1] (zS c s) (some (.int r)) (zS c s) := by
  refine zc_of (k := kX12_singersOf) (rt := 1) (L := [some (.ref 161), some (.int x1), none, none]) zm_2496.1 rfl rfl (by decide) rfl rfl ?_
  unfold fX12_singersOf at h
  refine zr_many 4 (pc' := 4) (L' := [some (.ref 161), some (.int x1), some (.int (0 : Int32)), some (.int (0 : Int32))]) (st' := []) (S1 := zS c s) rfl ?_
  obtain ⟨w8, g9, h⟩ := zp_inv h
  refine zr_wk [some (.ref 161), some (.int x1), some (.int (0 : Int32)), some (.int (0 : Int32))] ⟨rfl, rfl, rfl, rfl, trivial⟩ (zl_cert (Z := fun w => zr kX12_singersOf 1 1 4 [some (.ref 161), some (.int x1), some (.int w.1), some (.int w.2)] [] (zS c s) _ _) (Y := (fun w => zr kX12_singersOf 1 1 50 [none, none, some (.int w), none] [] (zS c s) _ _)) (fun w o h1 h2 h3 => tX12_singersOf_B4 h1 h2 h3) n _ _ g9 ?_)
  show zr kX12_singersOf 1 1 50 [none, none, some (.int w8), none] [] (zS c s) _ _
  refine zr_many 1 (pc' := 51) (L' := [none, none, some (.int w8), none]) (st' := [.int w8]) (S1 := zS c s) rfl ?_
  cases h
  exact zq_iret rfl
def fX12_fitting_J55 (n : Nat) (s : zs) (x2 : Int32) (y0 : Int32) (y1 : Int32) : Option ((Int32 × Int32) ⊕ (Int32)) := some (Sum.inl ((y0 &&& y1), (x2 + (1 : Int32))))
theorem tX12_fitting_J55 {n : Nat} {c : Nat × Nat} {s : zs} {x2 : Int32} {y0 : Int32} {y1 : Int32} {o : _} {v : Option Value} {S' : zi_S} (h : fX12_fitting_J55 n s x2 y0 y1 = some o) (hn : ∀ w, o = Sum.inl w → zr kX12_fitting 1 2 11 [some (.ref 161), some (.int w.1), some (.int w.2)] [] (zS c s) v S') (hx : ∀ w, o = Sum.inr w → (fun w => zr kX12_fitting 1 2 63 [none, some (.int w), none] [] (zS c s) v S') w) : zr kX12_fitting 1 2 55 [some (.ref 161), none, some (.int x2)] [.int y1, .int y0] (zS c s) v S' := by
  unfold fX12_fitting_J55 at h
  refine zr_many 4 (pc' := 11) (L' := [some (.ref 161), some (.int (y0 &&& y1)), some (.int (x2 + (1 : Int32)))]) (st' := []) (S1 := zS c s) rfl ?_
  cases h
  exact zr_wk [some (.ref 161), some (.int (y0 &&& y1)), some (.int (x2 + (1 : Int32)))] ⟨rfl, rfl, rfl, trivial⟩ (hn _ rfl)
def fX12_fitting_B11 (n : Nat) (s : zs) (w : Int32 × Int32) : Option ((Int32 × Int32) ⊕ (Int32)) := if (s.1 161 45) ≤ w.2 then some (Sum.inr w.1) else cond (zi_in w.2 12) (if ¬ (s.1 187 w.2.toNatClampNeg) = (1 : Int32) then cond (zi_in w.2 12) (zp (fX12_singersOf n s (s.1 186 w.2.toNatClampNeg)) (fun r5 => fX12_fitting_J55 n s w.2 w.1 (r5 ^^^ (-1 : Int32)))) none else cond (zi_in w.2 12) (zp (fX12_singersOf n s (s.1 186 w.2.toNatClampNeg)) (fun r9 => fX12_fitting_J55 n s w.2 w.1 r9)) none) none
theorem tX12_fitting_B11 {n : Nat} {c : Nat × Nat} {s : zs} {w : Int32 × Int32} {o : _} {v : Option Value} {S' : zi_S} (h : fX12_fitting_B11 n s w = some o) (hn : ∀ w, o = Sum.inl w → zr kX12_fitting 1 2 11 [some (.ref 161), some (.int w.1), some (.int w.2)] [] (zS c s) v S') (hx : ∀ w, o = Sum.inr w → (fun w => zr kX12_fitting 1 2 63 [none, some (.int w), none] [] (zS c s) v S') w) : zr kX12_fitting 1 2 11 [some (.ref 161), some (.int w.1), some (.int w.2)] [] (zS c s) v S' := by
  unfold fX12_fitting_B11 at h
  refine zr_many 2 (pc' := 13) (L' := [some (.ref 161), some (.int w.1), some (.int w.2)]) (st' := [.ref 161, .int w.2]) (S1 := zS c s) rfl ?_
  refine zq_get rfl (zh_161 _) rfl rfl rfl ?_
  refine zq_if2 (b := (s.1 161 45) ≤ w.2) rfl Iff.rfl rfl (fun g1 => ?_) (fun g1 => ?_)
  · rw [if_pos g1] at h
    cases h
    exact zr_wk [none, some (.int w.1), none] ⟨rfl, trivial⟩ (hx _ rfl)
  · rw [if_neg g1] at h
    refine zr_many 2 (pc' := 21) (L' := [some (.ref 161), some (.int w.1), some (.int w.2)]) (st' := [.ref 161, .int w.1]) (S1 := zS c s) rfl ?_
    refine zq_get rfl (zh_161 _) rfl rfl rfl ?_
    refine zr_many 1 (pc' := 25) (L' := [some (.ref 161), some (.int w.1), some (.int w.2)]) (st' := [.int w.2, .ref 187, .int w.1]) (S1 := zS c s) rfl ?_
    obtain ⟨g2, h⟩ := zi_cond_inv h
    refine zq_ild rfl (zh_187 _) rfl g2 rfl ?_
    refine zr_many 1 (pc' := 27) (L' := [some (.ref 161), some (.int w.1), some (.int w.2)]) (st' := [.int (1 : Int32), .int (s.1 187 w.2.toNatClampNeg), .int w.1]) (S1 := zS c s) rfl ?_
    refine zq_if2 (b := ¬ (s.1 187 w.2.toNatClampNeg) = (1 : Int32)) rfl Iff.rfl rfl (fun g3 => ?_) (fun g3 => ?_)
    · rw [if_pos g3] at h
      refine zr_many 2 (pc' := 45) (L' := [some (.ref 161), some (.int w.1), some (.int w.2)]) (st' := [.ref 161, .ref 161, .int w.1]) (S1 := zS c s) rfl ?_
      refine zq_get rfl (zh_161 _) rfl rfl rfl ?_
      refine zr_many 1 (pc' := 49) (L' := [some (.ref 161), some (.int w.1), some (.int w.2)]) (st' := [.int w.2, .ref 186, .ref 161, .int w.1]) (S1 := zS c s) rfl ?_
      obtain ⟨g4, h⟩ := zi_cond_inv h
      refine zq_ild rfl (zh_186 _) rfl g4 rfl ?_
      obtain ⟨r5, g7, h⟩ := zp_inv h
      refine zq_call1 rfl rfl (zh_161 _) rfl rfl rfl (tX12_singersOf g7) rfl ?_
      refine zr_many 2 (pc' := 55) (L' := [some (.ref 161), some (.int w.1), some (.int w.2)]) (st' := [.int (r5 ^^^ (-1 : Int32)), .int w.1]) (S1 := zS c s) rfl ?_
      exact zr_wk [some (.ref 161), none, some (.int w.2)] ⟨rfl, rfl, trivial⟩ (tX12_fitting_J55 h hn hx)
    · rw [if_neg g3] at h
      refine zr_many 2 (pc' := 32) (L' := [some (.ref 161), some (.int w.1), some (.int w.2)]) (st' := [.ref 161, .ref 161, .int w.1]) (S1 := zS c s) rfl ?_
      refine zq_get rfl (zh_161 _) rfl rfl rfl ?_
      refine zr_many 1 (pc' := 36) (L' := [some (.ref 161), some (.int w.1), some (.int w.2)]) (st' := [.int w.2, .ref 186, .ref 161, .int w.1]) (S1 := zS c s) rfl ?_
      obtain ⟨g8, h⟩ := zi_cond_inv h
      refine zq_ild rfl (zh_186 _) rfl g8 rfl ?_
      obtain ⟨r9, g11, h⟩ := zp_inv h
      refine zq_call1 rfl rfl (zh_161 _) rfl rfl rfl (tX12_singersOf g11) rfl ?_
      refine zr_many 1 (pc' := 55) (L' := [some (.ref 161), some (.int w.1), some (.int w.2)]) (st' := [.int r9, .int w.1]) (S1 := zS c s) rfl ?_
      exact zr_wk [some (.ref 161), none, some (.int w.2)] ⟨rfl, rfl, trivial⟩ (tX12_fitting_J55 h hn hx)
def fX12_fitting (n : Nat) (s : zs) : Option Int32 := zp (zl (fX12_fitting_B11 n s) n ((((1 : Int32) <<< ((s.1 161 4) &&& 31)) - (1 : Int32)), (0 : Int32))) (fun w12 => some w12)
theorem tX12_fitting {n : Nat} {c : Nat × Nat} {s : zs} {r : Int32} (h : fX12_fitting n s = some r) : zc 3 2497 [.ref 161] (zS c s) (some (.int r)) (zS c s) := by
  refine zc_of (k := kX12_fitting) (rt := 1) (L := [some (.ref 161), none, none]) zm_2497.1 rfl rfl (by decide) rfl rfl ?_
  unfold fX12_fitting at h
  refine zr_many 2 (pc' := 2) (L' := [some (.ref 161), none, none]) (st' := [.ref 161, .int (1 : Int32)]) (S1 := zS c s) rfl ?_
  refine zq_get rfl (zh_161 _) rfl rfl rfl ?_
  refine zr_many 6 (pc' := 11) (L' := [some (.ref 161), some (.int (((1 : Int32) <<< ((s.1 161 4) &&& 31)) - (1 : Int32))), some (.int (0 : Int32))]) (st' := []) (S1 := zS c s) rfl ?_
  obtain ⟨w12, g13, h⟩ := zp_inv h
  refine zr_wk [some (.ref 161), some (.int (((1 : Int32) <<< ((s.1 161 4) &&& 31)) - (1 : Int32))), some (.int (0 : Int32))] ⟨rfl, rfl, rfl, trivial⟩ (zl_cert (Z := fun w => zr kX12_fitting 1 2 11 [some (.ref 161), some (.int w.1), some (.int w.2)] [] (zS c s) _ _) (Y := (fun w => zr kX12_fitting 1 2 63 [none, some (.int w), none] [] (zS c s) _ _)) (fun w o h1 h2 h3 => tX12_fitting_B11 h1 h2 h3) n _ _ g13 ?_)
  show zr kX12_fitting 1 2 63 [none, some (.int w12), none] [] (zS c s) _ _
  refine zr_many 1 (pc' := 64) (L' := [none, some (.int w12), none]) (st' := [.int w12]) (S1 := zS c s) rfl ?_
  cases h
  exact zq_iret rfl
def fX12_who (n : Nat) (s : zs) : Option (Int32 × zs) := zp (fX12_fitting n (zsi s 161 0 (0 : Int32))) (fun r1 => zp (fJ6_bitCount_0f7a4 n (zsi (zsi s 161 0 (0 : Int32)) 161 1 (0 : Int32)) r1) (fun r4 => zp (fX12_enters n (zsi (zsi s 161 0 (0 : Int32)) 161 1 (0 : Int32)) r4.toInt64) (fun s8 => some (r1, s8))))
theorem tX12_who {n : Nat} {c : Nat × Nat} {s : zs} {r : Int32} {s' : zs} (h : fX12_who n s = some (r, s')) : zc 4 2498 [.ref 161] (zS c s) (some (.int r)) (zS c s') := by
  refine zc_of (k := kX12_who) (rt := 1) (L := [some (.ref 161), none]) zm_2498.1 rfl rfl (by decide) rfl rfl ?_
  unfold fX12_who at h
  refine zr_many 2 (pc' := 2) (L' := [some (.ref 161), none]) (st' := [.int (0 : Int32), .ref 161]) (S1 := zS c s) rfl ?_
  refine zq_put (s' := (zsi s 161 0 (0 : Int32))) rfl (zh_161 _) rfl rfl rfl rfl zsi_ne rfl ?_
  refine zr_many 1 (pc' := 6) (L' := [some (.ref 161), none]) (st' := [.ref 161]) (S1 := zS c (zsi s 161 0 (0 : Int32))) rfl ?_
  obtain ⟨r1, g3, h⟩ := zp_inv h
  refine zq_call1 rfl rfl (zh_161 _) rfl rfl rfl (tX12_fitting g3) rfl ?_
  refine zr_many 3 (pc' := 12) (L' := [some (.ref 161), some (.int r1)]) (st' := [.int (0 : Int32), .ref 161]) (S1 := zS c (zsi s 161 0 (0 : Int32))) rfl ?_
  refine zq_put (s' := (zsi (zsi s 161 0 (0 : Int32)) 161 1 (0 : Int32))) rfl (zh_161 _) rfl rfl rfl rfl zsi_ne rfl ?_
  refine zr_many 2 (pc' := 17) (L' := [some (.ref 161), some (.int r1)]) (st' := [.int r1, .ref 161]) (S1 := zS c (zsi (zsi s 161 0 (0 : Int32)) 161 1 (0 : Int32))) rfl ?_
  obtain ⟨r4, g6, h⟩ := zp_inv h
  refine zq_scall1 rfl (by decide) rfl rfl ((tJ6_bitCount_0f7a4 g6).up (by decide)) rfl ?_
  refine zr_many 1 (pc' := 21) (L' := [some (.ref 161), some (.int r1)]) (st' := [.long r4.toInt64, .ref 161]) (S1 := zS c (zsi (zsi s 161 0 (0 : Int32)) 161 1 (0 : Int32))) rfl ?_
  obtain ⟨s8, g9, h⟩ := zp_inv h
  refine zq_call0 rfl rfl (zh_161 _) rfl rfl rfl ((tX12_enters g9).up (by decide)) rfl ?_
  refine zr_many 1 (pc' := 25) (L' := [some (.ref 161), some (.int r1)]) (st' := [.int r1]) (S1 := zS c s8) rfl ?_
  cases h
  exact zq_iret rfl
def fX12_listen_J74 (n : Nat) (s : zs) (x1 : Int32) (x3 : Int32) (x4 : Int32) (x5 : Int32) (y0 : Int32) : Option ((Int32 × Int32 × Int32) ⊕ (Int32 × Int32)) := some (Sum.inl (y0, (if x5 < x3 then x5 else x3), (x4 + (1 : Int32))))
theorem tX12_listen_J74 {n : Nat} {c : Nat × Nat} {s : zs} {x1 : Int32} {x3 : Int32} {x4 : Int32} {x5 : Int32} {y0 : Int32} {o : _} {v : Option Value} {S' : zi_S} (h : fX12_listen_J74 n s x1 x3 x4 x5 y0 = some o) (hn : ∀ w, o = Sum.inl w → zr kX12_listen 1 3 26 [some (.ref 161), some (.int x1), some (.int w.1), some (.int w.2.1), some (.int w.2.2), none] [] (zS c s) v S') (hx : ∀ w, o = Sum.inr w → (fun w => zr kX12_listen 1 3 88 [some (.ref 161), none, some (.int w.1), some (.int w.2), none, none] [] (zS c s) v S') w) : zr kX12_listen 1 3 74 [some (.ref 161), some (.int x1), none, some (.int x3), some (.int x4), some (.int x5)] [.int y0] (zS c s) v S' := by
  unfold fX12_listen_J74 at h
  refine zr_many 7 (pc' := 26) (L' := [some (.ref 161), some (.int x1), some (.int y0), some (.int (if x5 < x3 then x5 else x3)), some (.int (x4 + (1 : Int32))), some (.int x5)]) (st' := []) (S1 := zS c s) rfl ?_
  cases h
  exact zr_wk [some (.ref 161), some (.int x1), some (.int y0), some (.int (if x5 < x3 then x5 else x3)), some (.int (x4 + (1 : Int32))), none] ⟨rfl, rfl, rfl, rfl, rfl, trivial⟩ (hn _ rfl)
def fX12_listen_B26 (n : Nat) (s : zs) (x1 : Int32) (w : Int32 × Int32 × Int32) : Option ((Int32 × Int32 × Int32) ⊕ (Int32 × Int32)) := if (26 : Int32) ≤ w.2.2 then some (Sum.inr (w.1, w.2.1)) else zp (fX12_singersOf n s w.2.2) (fun r6 => zp (fJ6_bitCount_0f7a4 n s (x1 &&& r6)) (fun r9 => zp (fX12_singersOf n s w.2.2) (fun r12 => zp (fJ6_bitCount_0f7a4 n s (x1 &&& (r12 ^^^ (-1 : Int32)))) (fun r15 => if w.2.1 ≤ (if r9 < r15 then r15 else r9) then fX12_listen_J74 n s x1 w.2.1 w.2.2 (if r9 < r15 then r15 else r9) w.1 else fX12_listen_J74 n s x1 w.2.1 w.2.2 (if r9 < r15 then r15 else r9) w.2.2))))
theorem tX12_listen_B26 {n : Nat} {c : Nat × Nat} {s : zs} {x1 : Int32} {w : Int32 × Int32 × Int32} {o : _} {v : Option Value} {S' : zi_S} (h : fX12_listen_B26 n s x1 w = some o) (hn : ∀ w, o = Sum.inl w → zr kX12_listen 1 3 26 [some (.ref 161), some (.int x1), some (.int w.1), some (.int w.2.1), some (.int w.2.2), none] [] (zS c s) v S') (hx : ∀ w, o = Sum.inr w → (fun w => zr kX12_listen 1 3 88 [some (.ref 161), none, some (.int w.1), some (.int w.2), none, none] [] (zS c s) v S') w) : zr kX12_listen 1 3 26 [some (.ref 161), some (.int x1), some (.int w.1), some (.int w.2.1), some (.int w.2.2), none] [] (zS c s) v S' := by
  unfold fX12_listen_B26 at h
  refine zr_many 2 (pc' := 30) (L' := [some (.ref 161), some (.int x1), some (.int w.1), some (.int w.2.1), some (.int w.2.2), none]) (st' := [.int (26 : Int32), .int w.2.2]) (S1 := zS c s) rfl ?_
  refine zq_if2 (b := (26 : Int32) ≤ w.2.2) rfl Iff.rfl rfl (fun g5 => ?_) (fun g5 => ?_)
  · rw [if_pos g5] at h
    cases h
    exact zr_wk [some (.ref 161), none, some (.int w.1), some (.int w.2.1), none, none] ⟨rfl, rfl, rfl, trivial⟩ (hx _ rfl)
  · rw [if_neg g5] at h
    refine zr_many 3 (pc' := 37) (L' := [some (.ref 161), some (.int x1), some (.int w.1), some (.int w.2.1), some (.int w.2.2), none]) (st' := [.int w.2.2, .ref 161, .int x1]) (S1 := zS c s) rfl ?_
    obtain ⟨r6, g8, h⟩ := zp_inv h
    refine zq_call1 rfl rfl (zh_161 _) rfl rfl rfl ((tX12_singersOf g8).up (by decide)) rfl ?_
    refine zr_many 1 (pc' := 41) (L' := [some (.ref 161), some (.int x1), some (.int w.1), some (.int w.2.1), some (.int w.2.2), none]) (st' := [.int (x1 &&& r6)]) (S1 := zS c s) rfl ?_
    obtain ⟨r9, g11, h⟩ := zp_inv h
    refine zq_scall1 rfl (by decide) rfl rfl ((tJ6_bitCount_0f7a4 g11).up (by decide)) rfl ?_
    refine zr_many 3 (pc' := 48) (L' := [some (.ref 161), some (.int x1), some (.int w.1), some (.int w.2.1), some (.int w.2.2), none]) (st' := [.int w.2.2, .ref 161, .int x1, .int r9]) (S1 := zS c s) rfl ?_
    obtain ⟨r12, g14, h⟩ := zp_inv h
    refine zq_call1 rfl rfl (zh_161 _) rfl rfl rfl ((tX12_singersOf g14).up (by decide)) rfl ?_
    refine zr_many 3 (pc' := 54) (L' := [some (.ref 161), some (.int x1), some (.int w.1), some (.int w.2.1), some (.int w.2.2), none]) (st' := [.int (x1 &&& (r12 ^^^ (-1 : Int32))), .int r9]) (S1 := zS c s) rfl ?_
    obtain ⟨r15, g17, h⟩ := zp_inv h
    refine zq_scall1 rfl (by decide) rfl rfl ((tJ6_bitCount_0f7a4 g17).up (by decide)) rfl ?_
    refine zr_many 4 (pc' := 65) (L' := [some (.ref 161), some (.int x1), some (.int w.1), some (.int w.2.1), some (.int w.2.2), some (.int (if r9 < r15 then r15 else r9))]) (st' := [.int w.2.1, .int (if r9 < r15 then r15 else r9)]) (S1 := zS c s) rfl ?_
    refine zq_if2 (b := w.2.1 ≤ (if r9 < r15 then r15 else r9)) rfl Iff.rfl rfl (fun g18 => ?_) (fun g18 => ?_)
    · rw [if_pos g18] at h
      refine zr_many 1 (pc' := 74) (L' := [some (.ref 161), some (.int x1), some (.int w.1), some (.int w.2.1), some (.int w.2.2), some (.int (if r9 < r15 then r15 else r9))]) (st' := [.int w.1]) (S1 := zS c s) rfl ?_
      exact zr_wk [some (.ref 161), some (.int x1), none, some (.int w.2.1), some (.int w.2.2), some (.int (if r9 < r15 then r15 else r9))] ⟨rfl, rfl, rfl, rfl, rfl, trivial⟩ (tX12_listen_J74 h hn hx)
    · rw [if_neg g18] at h
      refine zr_many 2 (pc' := 74) (L' := [some (.ref 161), some (.int x1), some (.int w.1), some (.int w.2.1), some (.int w.2.2), some (.int (if r9 < r15 then r15 else r9))]) (st' := [.int w.2.2]) (S1 := zS c s) rfl ?_
      exact zr_wk [some (.ref 161), some (.int x1), none, some (.int w.2.1), some (.int w.2.2), some (.int (if r9 < r15 then r15 else r9))] ⟨rfl, rfl, rfl, rfl, rfl, trivial⟩ (tX12_listen_J74 h hn hx)
def fX12_listen (n : Nat) (s : zs) : Option (Int32 × zs) := zp (fX12_fitting n (zsi s 161 0 (0 : Int32))) (fun r1 => if ¬ r1 = 0 then zp (zl (fX12_listen_B26 n (zsi s 161 0 (0 : Int32)) r1) n ((-1 : Int32), (1000000 : Int32), (0 : Int32))) (fun w19 => zp (fX12_enters n (zsi (zsi s 161 0 (0 : Int32)) 161 1 (0 : Int32)) w19.2.toInt64) (fun s21 => some (w19.1, s21))) else some ((-2 : Int32), (zsi s 161 0 (0 : Int32))))
theorem tX12_listen {n : Nat} {c : Nat × Nat} {s : zs} {r : Int32} {s' : zs} (h : fX12_listen n s = some (r, s')) : zc 4 2499 [.ref 161] (zS c s) (some (.int r)) (zS c s') := by
  refine zc_of (k := kX12_listen) (rt := 1) (L := [some (.ref 161), none, none, none, none, none]) zm_2499.1 rfl rfl (by decide) rfl rfl ?_
  unfold fX12_listen at h
  refine zr_many 2 (pc' := 2) (L' := [some (.ref 161), none, none, none, none, none]) (st' := [.int (0 : Int32), .ref 161]) (S1 := zS c s) rfl ?_
  refine zq_put (s' := (zsi s 161 0 (0 : Int32))) rfl (zh_161 _) rfl rfl rfl rfl zsi_ne rfl ?_
  refine zr_many 1 (pc' := 6) (L' := [some (.ref 161), none, none, none, none, none]) (st' := [.ref 161]) (S1 := zS c (zsi s 161 0 (0 : Int32))) rfl ?_
  obtain ⟨r1, g3, h⟩ := zp_inv h
  refine zq_call1 rfl rfl (zh_161 _) rfl rfl rfl (tX12_fitting g3) rfl ?_
  refine zr_many 2 (pc' := 11) (L' := [some (.ref 161), some (.int r1), none, none, none, none]) (st' := [.int r1]) (S1 := zS c (zsi s 161 0 (0 : Int32))) rfl ?_
  refine zq_if1 (b := ¬ r1 = 0) rfl Iff.rfl rfl (fun g4 => ?_) (fun g4 => ?_)
  · rw [if_pos g4] at h
    refine zr_many 6 (pc' := 26) (L' := [some (.ref 161), some (.int r1), some (.int (-1 : Int32)), some (.int (1000000 : Int32)), some (.int (0 : Int32)), none]) (st' := []) (S1 := zS c (zsi s 161 0 (0 : Int32))) rfl ?_
    obtain ⟨w19, g23, h⟩ := zp_inv h
    refine zr_wk [some (.ref 161), some (.int r1), some (.int (-1 : Int32)), some (.int (1000000 : Int32)), some (.int (0 : Int32)), none] ⟨rfl, rfl, rfl, rfl, rfl, trivial⟩ (zl_cert (Z := fun w => zr kX12_listen 1 3 26 [some (.ref 161), some (.int r1), some (.int w.1), some (.int w.2.1), some (.int w.2.2), none] [] (zS c (zsi s 161 0 (0 : Int32))) _ _) (Y := (fun w => zr kX12_listen 1 3 88 [some (.ref 161), none, some (.int w.1), some (.int w.2), none, none] [] (zS c (zsi s 161 0 (0 : Int32))) _ _)) (fun w o h1 h2 h3 => tX12_listen_B26 h1 h2 h3) n _ _ g23 ?_)
    show zr kX12_listen 1 3 88 [some (.ref 161), none, some (.int w19.1), some (.int w19.2), none, none] [] (zS c (zsi s 161 0 (0 : Int32))) _ _
    refine zr_many 2 (pc' := 90) (L' := [some (.ref 161), none, some (.int w19.1), some (.int w19.2), none, none]) (st' := [.int (0 : Int32), .ref 161]) (S1 := zS c (zsi s 161 0 (0 : Int32))) rfl ?_
    refine zq_put (s' := (zsi (zsi s 161 0 (0 : Int32)) 161 1 (0 : Int32))) rfl (zh_161 _) rfl rfl rfl rfl zsi_ne rfl ?_
    refine zr_many 3 (pc' := 96) (L' := [some (.ref 161), none, some (.int w19.1), some (.int w19.2), none, none]) (st' := [.long w19.2.toInt64, .ref 161]) (S1 := zS c (zsi (zsi s 161 0 (0 : Int32)) 161 1 (0 : Int32))) rfl ?_
    obtain ⟨s21, g22, h⟩ := zp_inv h
    refine zq_call0 rfl rfl (zh_161 _) rfl rfl rfl ((tX12_enters g22).up (by decide)) rfl ?_
    refine zr_many 1 (pc' := 100) (L' := [some (.ref 161), none, some (.int w19.1), some (.int w19.2), none, none]) (st' := [.int w19.1]) (S1 := zS c s21) rfl ?_
    cases h
    exact zq_iret rfl
  · rw [if_neg g4] at h
    refine zr_many 1 (pc' := 16) (L' := [some (.ref 161), some (.int r1), none, none, none, none]) (st' := [.int (-2 : Int32)]) (S1 := zS c (zsi s 161 0 (0 : Int32))) rfl ?_
    cases h
    exact zq_iret rfl
def fX12_isParted_J98 (n : Nat) (s : zs) (x1 : Int32) (x2 : Int32) (x4 : Int32) (x6 : Int32) (y0 : Int32) (y1 : Int32) : Option ((Int32 × Int32) ⊕ (Int32)) := some (Sum.inl ((y0 &&& y1), (x6 + (1 : Int32))))
theorem tX12_isParted_J98 {n : Nat} {c : Nat × Nat} {s : zs} {x1 : Int32} {x2 : Int32} {x4 : Int32} {x6 : Int32} {y0 : Int32} {y1 : Int32} {o : _} {v : Option Value} {S' : zi_S} (h : fX12_isParted_J98 n s x1 x2 x4 x6 y0 y1 = some o) (hn : ∀ w, o = Sum.inl w → zr kX12_isParted 2 2 44 [some (.ref 161), some (.int x1), some (.int x2), none, some (.int x4), some (.int w.1), some (.int w.2), none] [] (zS c s) v S') (hx : ∀ w, o = Sum.inr w → (fun w => zr kX12_isParted 2 2 107 [some (.ref 161), some (.int x1), some (.int x2), none, some (.int x4), some (.int w), none, none] [] (zS c s) v S') w) : zr kX12_isParted 2 2 98 [some (.ref 161), some (.int x1), some (.int x2), none, some (.int x4), none, some (.int x6), none] [.int y1, .int y0] (zS c s) v S' := by
  unfold fX12_isParted_J98 at h
  refine zr_many 4 (pc' := 44) (L' := [some (.ref 161), some (.int x1), some (.int x2), none, some (.int x4), some (.int (y0 &&& y1)), some (.int (x6 + (1 : Int32))), none]) (st' := []) (S1 := zS c s) rfl ?_
  cases h
  exact zr_wk [some (.ref 161), some (.int x1), some (.int x2), none, some (.int x4), some (.int (y0 &&& y1)), some (.int (x6 + (1 : Int32))), none] ⟨rfl, rfl, rfl, rfl, rfl, rfl, trivial⟩ (hn _ rfl)
def fX12_isParted_B44 (n : Nat) (s : zs) (x1 : Int32) (x2 : Int32) (x4 : Int32) (w : Int32 × Int32) : Option ((Int32 × Int32) ⊕ (Int32)) := if (26 : Int32) ≤ w.2 then some (Sum.inr w.1) else if w.1 = 0 then some (Sum.inr w.1) else zp (fX12_singersOf n s w.2) (fun r9 => zp (fX12_has n s x2 w.2) (fun r12 => if ¬ r12 = 0 then zp (fX12_has n s r9 x4) (fun r16 => if r16 = 0 then fX12_isParted_J98 n s x1 x2 x4 w.2 w.1 (r9 ^^^ (-1 : Int32)) else fX12_isParted_J98 n s x1 x2 x4 w.2 w.1 r9) else fX12_isParted_J98 n s x1 x2 x4 w.2 w.1 (-1 : Int32)))
theorem tX12_isParted_B44 {n : Nat} {c : Nat × Nat} {s : zs} {x1 : Int32} {x2 : Int32} {x4 : Int32} {w : Int32 × Int32} {o : _} {v : Option Value} {S' : zi_S} (h : fX12_isParted_B44 n s x1 x2 x4 w = some o) (hn : ∀ w, o = Sum.inl w → zr kX12_isParted 2 2 44 [some (.ref 161), some (.int x1), some (.int x2), none, some (.int x4), some (.int w.1), some (.int w.2), none] [] (zS c s) v S') (hx : ∀ w, o = Sum.inr w → (fun w => zr kX12_isParted 2 2 107 [some (.ref 161), some (.int x1), some (.int x2), none, some (.int x4), some (.int w), none, none] [] (zS c s) v S') w) : zr kX12_isParted 2 2 44 [some (.ref 161), some (.int x1), some (.int x2), none, some (.int x4), some (.int w.1), some (.int w.2), none] [] (zS c s) v S' := by
  unfold fX12_isParted_B44 at h
  refine zr_many 2 (pc' := 48) (L' := [some (.ref 161), some (.int x1), some (.int x2), none, some (.int x4), some (.int w.1), some (.int w.2), none]) (st' := [.int (26 : Int32), .int w.2]) (S1 := zS c s) rfl ?_
  refine zq_if2 (b := (26 : Int32) ≤ w.2) rfl Iff.rfl rfl (fun g7 => ?_) (fun g7 => ?_)
  · rw [if_pos g7] at h
    cases h
    exact zr_wk [some (.ref 161), some (.int x1), some (.int x2), none, some (.int x4), some (.int w.1), none, none] ⟨rfl, rfl, rfl, rfl, rfl, trivial⟩ (hx _ rfl)
  · rw [if_neg g7] at h
    refine zr_many 1 (pc' := 53) (L' := [some (.ref 161), some (.int x1), some (.int x2), none, some (.int x4), some (.int w.1), some (.int w.2), none]) (st' := [.int w.1]) (S1 := zS c s) rfl ?_
    refine zq_if1 (b := w.1 = 0) rfl Iff.rfl rfl (fun g8 => ?_) (fun g8 => ?_)
    · rw [if_pos g8] at h
      cases h
      exact zr_wk [some (.ref 161), some (.int x1), some (.int x2), none, some (.int x4), some (.int w.1), none, none] ⟨rfl, rfl, rfl, rfl, rfl, trivial⟩ (hx _ rfl)
    · rw [if_neg g8] at h
      refine zr_many 2 (pc' := 59) (L' := [some (.ref 161), some (.int x1), some (.int x2), none, some (.int x4), some (.int w.1), some (.int w.2), none]) (st' := [.int w.2, .ref 161]) (S1 := zS c s) rfl ?_
      obtain ⟨r9, g11, h⟩ := zp_inv h
      refine zq_call1 rfl rfl (zh_161 _) rfl rfl rfl (tX12_singersOf g11) rfl ?_
      refine zr_many 4 (pc' := 69) (L' := [some (.ref 161), some (.int x1), some (.int x2), none, some (.int x4), some (.int w.1), some (.int w.2), some (.int r9)]) (st' := [.int w.2, .int x2, .int w.1]) (S1 := zS c s) rfl ?_
      obtain ⟨r12, g14, h⟩ := zp_inv h
      refine zq_scall1 rfl (by decide) rfl rfl ((tX12_has g14).up (by decide)) rfl ?_
      refine zq_if1 (b := ¬ r12 = 0) rfl Iff.rfl rfl (fun g15 => ?_) (fun g15 => ?_)
      · rw [if_pos g15] at h
        refine zr_many 2 (pc' := 83) (L' := [some (.ref 161), some (.int x1), some (.int x2), none, some (.int x4), some (.int w.1), some (.int w.2), some (.int r9)]) (st' := [.int x4, .int r9, .int w.1]) (S1 := zS c s) rfl ?_
        obtain ⟨r16, g18, h⟩ := zp_inv h
        refine zq_scall1 rfl (by decide) rfl rfl ((tX12_has g18).up (by decide)) rfl ?_
        refine zq_if1 (b := r16 = 0) rfl Iff.rfl rfl (fun g19 => ?_) (fun g19 => ?_)
        · rw [if_pos g19] at h
          refine zr_many 3 (pc' := 98) (L' := [some (.ref 161), some (.int x1), some (.int x2), none, some (.int x4), some (.int w.1), some (.int w.2), some (.int r9)]) (st' := [.int (r9 ^^^ (-1 : Int32)), .int w.1]) (S1 := zS c s) rfl ?_
          exact zr_wk [some (.ref 161), some (.int x1), some (.int x2), none, some (.int x4), none, some (.int w.2), none] ⟨rfl, rfl, rfl, rfl, rfl, trivial⟩ (tX12_isParted_J98 h hn hx)
        · rw [if_neg g19] at h
          refine zr_many 2 (pc' := 98) (L' := [some (.ref 161), some (.int x1), some (.int x2), none, some (.int x4), some (.int w.1), some (.int w.2), some (.int r9)]) (st' := [.int r9, .int w.1]) (S1 := zS c s) rfl ?_
          exact zr_wk [some (.ref 161), some (.int x1), some (.int x2), none, some (.int x4), none, some (.int w.2), none] ⟨rfl, rfl, rfl, rfl, rfl, trivial⟩ (tX12_isParted_J98 h hn hx)
      · rw [if_neg g15] at h
        refine zr_many 2 (pc' := 98) (L' := [some (.ref 161), some (.int x1), some (.int x2), none, some (.int x4), some (.int w.1), some (.int w.2), some (.int r9)]) (st' := [.int (-1 : Int32), .int w.1]) (S1 := zS c s) rfl ?_
        exact zr_wk [some (.ref 161), some (.int x1), some (.int x2), none, some (.int x4), none, some (.int w.2), none] ⟨rfl, rfl, rfl, rfl, rfl, trivial⟩ (tX12_isParted_J98 h hn hx)
def fX12_isParted_J117 (n : Nat) (s : zs) (x1 : Int32) (x2 : Int32) (x4 : Int32) (y0 : Int32) : Option ((Int32 × Int32) ⊕ (Int32)) := some (Sum.inl (y0, (x4 + (1 : Int32))))
theorem tX12_isParted_J117 {n : Nat} {c : Nat × Nat} {s : zs} {x1 : Int32} {x2 : Int32} {x4 : Int32} {y0 : Int32} {o : _} {v : Option Value} {S' : zi_S} (h : fX12_isParted_J117 n s x1 x2 x4 y0 = some o) (hn : ∀ w, o = Sum.inl w → zr kX12_isParted 2 2 5 [some (.ref 161), some (.int x1), some (.int x2), some (.int w.1), some (.int w.2), none, none, none] [] (zS c s) v S') (hx : ∀ w, o = Sum.inr w → (fun w => zr kX12_isParted 2 2 124 [none, none, none, some (.int w), none, none, none, none] [] (zS c s) v S') w) : zr kX12_isParted 2 2 117 [some (.ref 161), some (.int x1), some (.int x2), none, some (.int x4), none, none, none] [.int y0] (zS c s) v S' := by
  unfold fX12_isParted_J117 at h
  refine zr_many 3 (pc' := 5) (L' := [some (.ref 161), some (.int x1), some (.int x2), some (.int y0), some (.int (x4 + (1 : Int32))), none, none, none]) (st' := []) (S1 := zS c s) rfl ?_
  cases h
  exact zr_wk [some (.ref 161), some (.int x1), some (.int x2), some (.int y0), some (.int (x4 + (1 : Int32))), none, none, none] ⟨rfl, rfl, rfl, rfl, rfl, trivial⟩ (hn _ rfl)
def fX12_isParted_J107 (n : Nat) (s : zs) (x1 : Int32) (x2 : Int32) (x4 : Int32) (x5 : Int32) : Option ((Int32 × Int32) ⊕ (Int32)) := if ¬ x5 = 0 then fX12_isParted_J117 n s x1 x2 x4 (0 : Int32) else fX12_isParted_J117 n s x1 x2 x4 (1 : Int32)
theorem tX12_isParted_J107 {n : Nat} {c : Nat × Nat} {s : zs} {x1 : Int32} {x2 : Int32} {x4 : Int32} {x5 : Int32} {o : _} {v : Option Value} {S' : zi_S} (h : fX12_isParted_J107 n s x1 x2 x4 x5 = some o) (hn : ∀ w, o = Sum.inl w → zr kX12_isParted 2 2 5 [some (.ref 161), some (.int x1), some (.int x2), some (.int w.1), some (.int w.2), none, none, none] [] (zS c s) v S') (hx : ∀ w, o = Sum.inr w → (fun w => zr kX12_isParted 2 2 124 [none, none, none, some (.int w), none, none, none, none] [] (zS c s) v S') w) : zr kX12_isParted 2 2 107 [some (.ref 161), some (.int x1), some (.int x2), none, some (.int x4), some (.int x5), none, none] [] (zS c s) v S' := by
  unfold fX12_isParted_J107 at h
  refine zr_many 1 (pc' := 109) (L' := [some (.ref 161), some (.int x1), some (.int x2), none, some (.int x4), some (.int x5), none, none]) (st' := [.int x5]) (S1 := zS c s) rfl ?_
  refine zq_if1 (b := ¬ x5 = 0) rfl Iff.rfl rfl (fun g21 => ?_) (fun g21 => ?_)
  · rw [if_pos g21] at h
    refine zr_many 1 (pc' := 117) (L' := [some (.ref 161), some (.int x1), some (.int x2), none, some (.int x4), some (.int x5), none, none]) (st' := [.int (0 : Int32)]) (S1 := zS c s) rfl ?_
    exact zr_wk [some (.ref 161), some (.int x1), some (.int x2), none, some (.int x4), none, none, none] ⟨rfl, rfl, rfl, rfl, trivial⟩ (tX12_isParted_J117 h hn hx)
  · rw [if_neg g21] at h
    refine zr_many 2 (pc' := 117) (L' := [some (.ref 161), some (.int x1), some (.int x2), none, some (.int x4), some (.int x5), none, none]) (st' := [.int (1 : Int32)]) (S1 := zS c s) rfl ?_
    exact zr_wk [some (.ref 161), some (.int x1), some (.int x2), none, some (.int x4), none, none, none] ⟨rfl, rfl, rfl, rfl, trivial⟩ (tX12_isParted_J117 h hn hx)
def fX12_isParted_J39 (n : Nat) (s : zs) (x1 : Int32) (x2 : Int32) (x4 : Int32) (y0 : Int32) : Option ((Int32 × Int32) ⊕ (Int32)) := zp (zl (fX12_isParted_B44 n s x1 x2 x4) n (y0, (0 : Int32))) (fun w20 => fX12_isParted_J107 n s x1 x2 x4 w20)
theorem tX12_isParted_J39 {n : Nat} {c : Nat × Nat} {s : zs} {x1 : Int32} {x2 : Int32} {x4 : Int32} {y0 : Int32} {o : _} {v : Option Value} {S' : zi_S} (h : fX12_isParted_J39 n s x1 x2 x4 y0 = some o) (hn : ∀ w, o = Sum.inl w → zr kX12_isParted 2 2 5 [some (.ref 161), some (.int x1), some (.int x2), some (.int w.1), some (.int w.2), none, none, none] [] (zS c s) v S') (hx : ∀ w, o = Sum.inr w → (fun w => zr kX12_isParted 2 2 124 [none, none, none, some (.int w), none, none, none, none] [] (zS c s) v S') w) : zr kX12_isParted 2 2 39 [some (.ref 161), some (.int x1), some (.int x2), none, some (.int x4), none, none, none] [.int y0] (zS c s) v S' := by
  unfold fX12_isParted_J39 at h
  refine zr_many 3 (pc' := 44) (L' := [some (.ref 161), some (.int x1), some (.int x2), none, some (.int x4), some (.int y0), some (.int (0 : Int32)), none]) (st' := []) (S1 := zS c s) rfl ?_
  obtain ⟨w20, g22, h⟩ := zp_inv h
  refine zr_wk [some (.ref 161), some (.int x1), some (.int x2), none, some (.int x4), some (.int y0), some (.int (0 : Int32)), none] ⟨rfl, rfl, rfl, rfl, rfl, rfl, trivial⟩ (zl_cert (Z := fun w => zr kX12_isParted 2 2 44 [some (.ref 161), some (.int x1), some (.int x2), none, some (.int x4), some (.int w.1), some (.int w.2), none] [] (zS c s) _ _) (Y := (fun w => zr kX12_isParted 2 2 107 [some (.ref 161), some (.int x1), some (.int x2), none, some (.int x4), some (.int w), none, none] [] (zS c s) _ _)) (fun w o h1 h2 h3 => tX12_isParted_B44 h1 h2 h3) n _ _ g22 ?_)
  show zr kX12_isParted 2 2 107 [some (.ref 161), some (.int x1), some (.int x2), none, some (.int x4), some (.int w20), none, none] [] (zS c s) _ _
  exact zr_wk [some (.ref 161), some (.int x1), some (.int x2), none, some (.int x4), some (.int w20), none, none] ⟨rfl, rfl, rfl, rfl, rfl, trivial⟩ (tX12_isParted_J107 h hn hx)
def fX12_isParted_B5 (n : Nat) (s : zs) (x1 : Int32) (x2 : Int32) (w : Int32 × Int32) : Option ((Int32 × Int32) ⊕ (Int32)) := if (s.1 161 4) ≤ w.2 then some (Sum.inr w.1) else if w.1 = 0 then some (Sum.inr w.1) else zp (fX12_has n s x1 w.2) (fun r3 => if r3 = 0 then fX12_isParted_J39 n s x1 x2 w.2 (0 : Int32) else fX12_isParted_J39 n s x1 x2 w.2 (x1 &&& (((1 : Int32) <<< (w.2 &&& 31)) ^^^ (-1 : Int32))))
theorem tX12_isParted_B5 {n : Nat} {c : Nat × Nat} {s : zs} {x1 : Int32} {x2 : Int32} {w : Int32 × Int32} {o : _} {v : Option Value} {S' : zi_S} (h : fX12_isParted_B5 n s x1 x2 w = some o) (hn : ∀ w, o = Sum.inl w → zr kX12_isParted 2 2 5 [some (.ref 161), some (.int x1), some (.int x2), some (.int w.1), some (.int w.2), none, none, none] [] (zS c s) v S') (hx : ∀ w, o = Sum.inr w → (fun w => zr kX12_isParted 2 2 124 [none, none, none, some (.int w), none, none, none, none] [] (zS c s) v S') w) : zr kX12_isParted 2 2 5 [some (.ref 161), some (.int x1), some (.int x2), some (.int w.1), some (.int w.2), none, none, none] [] (zS c s) v S' := by
  unfold fX12_isParted_B5 at h
  refine zr_many 2 (pc' := 8) (L' := [some (.ref 161), some (.int x1), some (.int x2), some (.int w.1), some (.int w.2), none, none, none]) (st' := [.ref 161, .int w.2]) (S1 := zS c s) rfl ?_
  refine zq_get rfl (zh_161 _) rfl rfl rfl ?_
  refine zq_if2 (b := (s.1 161 4) ≤ w.2) rfl Iff.rfl rfl (fun g1 => ?_) (fun g1 => ?_)
  · rw [if_pos g1] at h
    cases h
    exact zr_wk [none, none, none, some (.int w.1), none, none, none, none] ⟨rfl, trivial⟩ (hx _ rfl)
  · rw [if_neg g1] at h
    refine zr_many 1 (pc' := 15) (L' := [some (.ref 161), some (.int x1), some (.int x2), some (.int w.1), some (.int w.2), none, none, none]) (st' := [.int w.1]) (S1 := zS c s) rfl ?_
    refine zq_if1 (b := w.1 = 0) rfl Iff.rfl rfl (fun g2 => ?_) (fun g2 => ?_)
    · rw [if_pos g2] at h
      cases h
      exact zr_wk [none, none, none, some (.int w.1), none, none, none, none] ⟨rfl, trivial⟩ (hx _ rfl)
    · rw [if_neg g2] at h
      refine zr_many 2 (pc' := 21) (L' := [some (.ref 161), some (.int x1), some (.int x2), some (.int w.1), some (.int w.2), none, none, none]) (st' := [.int w.2, .int x1]) (S1 := zS c s) rfl ?_
      obtain ⟨r3, g5, h⟩ := zp_inv h
      refine zq_scall1 rfl (by decide) rfl rfl ((tX12_has g5).up (by decide)) rfl ?_
      refine zq_if1 (b := r3 = 0) rfl Iff.rfl rfl (fun g6 => ?_) (fun g6 => ?_)
      · rw [if_pos g6] at h
        refine zr_many 1 (pc' := 39) (L' := [some (.ref 161), some (.int x1), some (.int x2), some (.int w.1), some (.int w.2), none, none, none]) (st' := [.int (0 : Int32)]) (S1 := zS c s) rfl ?_
        exact zr_wk [some (.ref 161), some (.int x1), some (.int x2), none, some (.int w.2), none, none, none] ⟨rfl, rfl, rfl, rfl, trivial⟩ (tX12_isParted_J39 h hn hx)
      · rw [if_neg g6] at h
        refine zr_many 8 (pc' := 39) (L' := [some (.ref 161), some (.int x1), some (.int x2), some (.int w.1), some (.int w.2), none, none, none]) (st' := [.int (x1 &&& (((1 : Int32) <<< (w.2 &&& 31)) ^^^ (-1 : Int32)))]) (S1 := zS c s) rfl ?_
        exact zr_wk [some (.ref 161), some (.int x1), some (.int x2), none, some (.int w.2), none, none, none] ⟨rfl, rfl, rfl, rfl, trivial⟩ (tX12_isParted_J39 h hn hx)
def fX12_isParted_J124 (n : Nat) (s : zs) (x3 : Int32) : Option Int32 := if x3 = 0 ∨ x3 = 1 then some x3 else none
theorem tX12_isParted_J124 {n : Nat} {c : Nat × Nat} {s : zs} {x3 : Int32} {r : Int32} (h : fX12_isParted_J124 n s x3 = some r) : zr kX12_isParted 2 2 124 [none, none, none, some (.int x3), none, none, none, none] [] (zS c s) (some (.int r)) (zS c s) := by
  unfold fX12_isParted_J124 at h
  refine zr_many 1 (pc' := 125) (L' := [none, none, none, some (.int x3), none, none, none, none]) (st' := [.int x3]) (S1 := zS c s) rfl ?_
  obtain ⟨gz, h⟩ := zt_inv h
  cases h
  exact zq_zret rfl gz
def fX12_isParted (n : Nat) (s : zs) (x1 : Int32) (x2 : Int32) : Option Int32 := zp (zl (fX12_isParted_B5 n s x1 x2) n ((1 : Int32), (0 : Int32))) (fun w23 => fX12_isParted_J124 n s w23)
theorem tX12_isParted {n : Nat} {c : Nat × Nat} {s : zs} {x1 : Int32} {x2 : Int32} {r : Int32} (h : fX12_isParted n s x1 x2 = some r) : zc 3 2500 [.ref 161, .int x1, .int x2] (zS c s) (some (.int r)) (zS c s) := by
  refine zc_of (k := kX12_isParted) (rt := 2) (L := [some (.ref 161), some (.int x1), some (.int x2), none, none, none, none, none]) zm_2500.1 rfl rfl (by decide) rfl rfl ?_
  unfold fX12_isParted at h
  refine zr_many 4 (pc' := 5) (L' := [some (.ref 161), some (.int x1), some (.int x2), some (.int (1 : Int32)), some (.int (0 : Int32)), none, none, none]) (st' := []) (S1 := zS c s) rfl ?_
  obtain ⟨w23, g24, h⟩ := zp_inv h
  refine zr_wk [some (.ref 161), some (.int x1), some (.int x2), some (.int (1 : Int32)), some (.int (0 : Int32)), none, none, none] ⟨rfl, rfl, rfl, rfl, rfl, trivial⟩ (zl_cert (Z := fun w => zr kX12_isParted 2 2 5 [some (.ref 161), some (.int x1), some (.int x2), some (.int w.1), some (.int w.2), none, none, none] [] (zS c s) _ _) (Y := (fun w => zr kX12_isParted 2 2 124 [none, none, none, some (.int w), none, none, none, none] [] (zS c s) _ _)) (fun w o h1 h2 h3 => tX12_isParted_B5 h1 h2 h3) n _ _ g24 ?_)
  show zr kX12_isParted 2 2 124 [none, none, none, some (.int w23), none, none, none, none] [] (zS c s) _ _
  exact zr_wk [none, none, none, some (.int w23), none, none, none, none] ⟨rfl, trivial⟩ (tX12_isParted_J124 h)
def fX12_bets_B36 (n : Nat) (x1 : Int32) (x3 : Int64) (w : Int64 × Int32 × zs) : Option ((Int64 × Int32 × zs) ⊕ (Int64 × zs)) := if x1 ≤ w.2.1 then some (Sum.inr (w.1, w.2.2)) else some (Sum.inl ((w.1 * x3), (w.2.1 + (1 : Int32)), (zsl w.2.2 161 49 ((w.2.2.2 161 49) * (10000 : Int64)))))
theorem tX12_bets_B36 {n : Nat} {c : Nat × Nat} {x1 : Int32} {x3 : Int64} {w : Int64 × Int32 × zs} {o : _} {v : Option Value} {S' : zi_S} (h : fX12_bets_B36 n x1 x3 w = some o) (hn : ∀ w, o = Sum.inl w → zr kX12_bets 0 0 36 [some (.ref 161), some (.int x1), none, some (.long x3), none, some (.long w.1), none, some (.int w.2.1)] [] (zS c w.2.2) v S') (hx : ∀ w, o = Sum.inr w → (fun w => zr kX12_bets 0 0 66 [some (.ref 161), none, none, none, none, some (.long w.1), none, none] [] (zS c w.2) v S') w) : zr kX12_bets 0 0 36 [some (.ref 161), some (.int x1), none, some (.long x3), none, some (.long w.1), none, some (.int w.2.1)] [] (zS c w.2.2) v S' := by
  unfold fX12_bets_B36 at h
  refine zr_many 2 (pc' := 39) (L' := [some (.ref 161), some (.int x1), none, some (.long x3), none, some (.long w.1), none, some (.int w.2.1)]) (st' := [.int x1, .int w.2.1]) (S1 := zS c w.2.2) rfl ?_
  refine zq_if2 (b := x1 ≤ w.2.1) rfl Iff.rfl rfl (fun g1 => ?_) (fun g1 => ?_)
  · rw [if_pos g1] at h
    cases h
    exact zr_wk [some (.ref 161), none, none, none, none, some (.long w.1), none, none] ⟨rfl, rfl, trivial⟩ (hx _ rfl)
  · rw [if_neg g1] at h
    refine zr_many 6 (pc' := 50) (L' := [some (.ref 161), some (.int x1), none, some (.long x3), none, some (.long (w.1 * x3)), none, some (.int w.2.1)]) (st' := [.ref 161, .ref 161]) (S1 := zS c w.2.2) rfl ?_
    refine zq_get rfl (zh_161 _) rfl rfl rfl ?_
    refine zr_many 2 (pc' := 57) (L' := [some (.ref 161), some (.int x1), none, some (.long x3), none, some (.long (w.1 * x3)), none, some (.int w.2.1)]) (st' := [.long ((w.2.2.2 161 49) * (10000 : Int64)), .ref 161]) (S1 := zS c w.2.2) rfl ?_
    refine zq_put (s' := (zsl w.2.2 161 49 ((w.2.2.2 161 49) * (10000 : Int64)))) rfl (zh_161 _) rfl rfl rfl rfl zsl_ne rfl ?_
    refine zr_many 2 (pc' := 36) (L' := [some (.ref 161), some (.int x1), none, some (.long x3), none, some (.long (w.1 * x3)), none, some (.int (w.2.1 + (1 : Int32)))]) (st' := []) (S1 := zS c (zsl w.2.2 161 49 ((w.2.2.2 161 49) * (10000 : Int64)))) rfl ?_
    cases h
    exact zr_wk [some (.ref 161), some (.int x1), none, some (.long x3), none, some (.long (w.1 * x3)), none, some (.int (w.2.1 + (1 : Int32)))] ⟨rfl, rfl, rfl, rfl, rfl, trivial⟩ (hn _ rfl)
def fX12_bets (n : Nat) (s : zs) (x1 : Int32) (x2 : Int32) : Option zs := zp (zl (fX12_bets_B36 n x1 (((10000 : Int32) - (((((10 : Int32) - x2) * ((10 : Int32) - x2)) * ((10 : Int32) - x2)) * ((10 : Int32) - x2))).toInt64)) n ((1 : Int64), (0 : Int32), (zsl s 161 49 (1 : Int64)))) (fun w2 => some (zsl w2.2 161 48 ((w2.2.2 161 49) - w2.1)))
theorem tX12_bets {n : Nat} {c : Nat × Nat} {s : zs} {x1 : Int32} {x2 : Int32} {s' : zs} (h : fX12_bets n s x1 x2 = some s') : zc 1 2503 [.ref 161, .int x1, .int x2] (zS c s) none (zS c s') := by
  refine zc_of (k := kX12_bets) (rt := 0) (L := [some (.ref 161), some (.int x1), some (.int x2), none, none, none, none, none]) zm_2503.1 rfl rfl (by decide) rfl rfl ?_
  unfold fX12_bets at h
  refine zr_many 23 (pc' := 30) (L' := [some (.ref 161), some (.int x1), some (.int x2), some (.long ((10000 : Int32) - (((((10 : Int32) - x2) * ((10 : Int32) - x2)) * ((10 : Int32) - x2)) * ((10 : Int32) - x2))).toInt64), none, some (.long (1 : Int64)), none, none]) (st' := [.long (1 : Int64), .ref 161]) (S1 := zS c s) rfl ?_
  refine zq_put (s' := (zsl s 161 49 (1 : Int64))) rfl (zh_161 _) rfl rfl rfl rfl zsl_ne rfl ?_
  refine zr_many 2 (pc' := 36) (L' := [some (.ref 161), some (.int x1), some (.int x2), some (.long ((10000 : Int32) - (((((10 : Int32) - x2) * ((10 : Int32) - x2)) * ((10 : Int32) - x2)) * ((10 : Int32) - x2))).toInt64), none, some (.long (1 : Int64)), none, some (.int (0 : Int32))]) (st' := []) (S1 := zS c (zsl s 161 49 (1 : Int64))) rfl ?_
  obtain ⟨w2, g3, h⟩ := zp_inv h
  refine zr_wk [some (.ref 161), some (.int x1), none, some (.long ((10000 : Int32) - (((((10 : Int32) - x2) * ((10 : Int32) - x2)) * ((10 : Int32) - x2)) * ((10 : Int32) - x2))).toInt64), none, some (.long (1 : Int64)), none, some (.int (0 : Int32))] ⟨rfl, rfl, rfl, rfl, rfl, trivial⟩ (zl_cert (Z := fun w => zr kX12_bets 0 0 36 [some (.ref 161), some (.int x1), none, some (.long ((10000 : Int32) - (((((10 : Int32) - x2) * ((10 : Int32) - x2)) * ((10 : Int32) - x2)) * ((10 : Int32) - x2))).toInt64), none, some (.long w.1), none, some (.int w.2.1)] [] (zS c w.2.2) _ _) (Y := (fun w => zr kX12_bets 0 0 66 [some (.ref 161), none, none, none, none, some (.long w.1), none, none] [] (zS c w.2) _ _)) (fun w o h1 h2 h3 => tX12_bets_B36 h1 h2 h3) n _ _ g3 ?_)
  show zr kX12_bets 0 0 66 [some (.ref 161), none, none, none, none, some (.long w2.1), none, none] [] (zS c w2.2) _ _
  refine zr_many 2 (pc' := 68) (L' := [some (.ref 161), none, none, none, none, some (.long w2.1), none, none]) (st' := [.ref 161, .ref 161]) (S1 := zS c w2.2) rfl ?_
  refine zq_get rfl (zh_161 _) rfl rfl rfl ?_
  refine zr_many 2 (pc' := 74) (L' := [some (.ref 161), none, none, none, none, some (.long w2.1), none, none]) (st' := [.long ((w2.2.2 161 49) - w2.1), .ref 161]) (S1 := zS c w2.2) rfl ?_
  refine zq_put (s' := (zsl w2.2 161 48 ((w2.2.2 161 49) - w2.1))) rfl (zh_161 _) rfl rfl rfl rfl zsl_ne rfl ?_
  cases h
  exact zq_vret rfl
def fX12_tries_J29 (n : Nat) (s : zs) : Option (Int32 × zs) := some ((-1 : Int32), s)
theorem tX12_tries_J29 {n : Nat} {c : Nat × Nat} {s : zs} {r : Int32} {s' : zs} (h : fX12_tries_J29 n s = some (r, s')) : zr kX12_tries 1 1 29 [none, none, none, none] [] (zS c s) (some (.int r)) (zS c s') := by
  unfold fX12_tries_J29 at h
  refine zr_many 1 (pc' := 30) (L' := [none, none, none, none]) (st' := [.int (-1 : Int32)]) (S1 := zS c s) rfl ?_
  cases h
  exact zq_iret rfl
def fX12_tries_B33 (n : Nat) (x1 : Int32) (x2 : Int32) (w : Int32 × zs) : Option ((Int32 × zs) ⊕ ((Int32 × zs) ⊕ (zs))) := if (4 : Int32) < w.1 then some (Sum.inr (Sum.inr w.2)) else zp (fX12_bets n w.2 w.1 x1) (fun s11 => if (lg_cmp ((100 : Int64) * (s11.2 161 48)) (x2.toInt64 * (s11.2 161 49))) < 0 then some (Sum.inl ((w.1 + (1 : Int32)), s11)) else some (Sum.inr (Sum.inl (w.1, s11))))
theorem tX12_tries_B33 {n : Nat} {c : Nat × Nat} {x1 : Int32} {x2 : Int32} {w : Int32 × zs} {o : _} {v : Option Value} {S' : zi_S} (h : fX12_tries_B33 n x1 x2 w = some o) (hn : ∀ w, o = Sum.inl w → zr kX12_tries 1 1 33 [some (.ref 161), some (.int x1), some (.int x2), some (.int w.1)] [] (zS c w.2) v S') (hx : ∀ w, o = Sum.inr w → (Sum.elim (fun w => zr kX12_tries 1 1 63 [none, none, none, some (.int w.1)] [] (zS c w.2) v S') (fun w => zr kX12_tries 1 1 71 [none, none, none, none] [] (zS c w) v S')) w) : zr kX12_tries 1 1 33 [some (.ref 161), some (.int x1), some (.int x2), some (.int w.1)] [] (zS c w.2) v S' := by
  unfold fX12_tries_B33 at h
  refine zr_many 2 (pc' := 35) (L' := [some (.ref 161), some (.int x1), some (.int x2), some (.int w.1)]) (st' := [.int (4 : Int32), .int w.1]) (S1 := zS c w.2) rfl ?_
  refine zq_if2 (b := (4 : Int32) < w.1) rfl Iff.rfl rfl (fun g9 => ?_) (fun g9 => ?_)
  · rw [if_pos g9] at h
    cases h
    exact zr_wk [none, none, none, none] trivial (hx _ rfl)
  · rw [if_neg g9] at h
    refine zr_many 3 (pc' := 41) (L' := [some (.ref 161), some (.int x1), some (.int x2), some (.int w.1)]) (st' := [.int x1, .int w.1, .ref 161]) (S1 := zS c w.2) rfl ?_
    obtain ⟨s11, g12, h⟩ := zp_inv h
    refine zq_call0 rfl rfl (zh_161 _) rfl rfl rfl (tX12_bets g12) rfl ?_
    refine zr_many 2 (pc' := 48) (L' := [some (.ref 161), some (.int x1), some (.int x2), some (.int w.1)]) (st' := [.ref 161, .long (100 : Int64)]) (S1 := zS c s11) rfl ?_
    refine zq_get rfl (zh_161 _) rfl rfl rfl ?_
    refine zr_many 4 (pc' := 55) (L' := [some (.ref 161), some (.int x1), some (.int x2), some (.int w.1)]) (st' := [.ref 161, .long x2.toInt64, .long ((100 : Int64) * (s11.2 161 48))]) (S1 := zS c s11) rfl ?_
    refine zq_get rfl (zh_161 _) rfl rfl rfl ?_
    refine zr_many 2 (pc' := 60) (L' := [some (.ref 161), some (.int x1), some (.int x2), some (.int w.1)]) (st' := [.int (lg_cmp ((100 : Int64) * (s11.2 161 48)) (x2.toInt64 * (s11.2 161 49)))]) (S1 := zS c s11) rfl ?_
    refine zq_if1 (b := (lg_cmp ((100 : Int64) * (s11.2 161 48)) (x2.toInt64 * (s11.2 161 49))) < 0) rfl Iff.rfl rfl (fun g13 => ?_) (fun g13 => ?_)
    · rw [if_pos g13] at h
      refine zr_many 2 (pc' := 33) (L' := [some (.ref 161), some (.int x1), some (.int x2), some (.int (w.1 + (1 : Int32)))]) (st' := []) (S1 := zS c s11) rfl ?_
      cases h
      exact zr_wk [some (.ref 161), some (.int x1), some (.int x2), some (.int (w.1 + (1 : Int32)))] ⟨rfl, rfl, rfl, rfl, trivial⟩ (hn _ rfl)
    · rw [if_neg g13] at h
      cases h
      exact zr_wk [none, none, none, some (.int w.1)] ⟨rfl, trivial⟩ (hx _ rfl)
def fX12_tries (n : Nat) (s : zs) (x1 : Int32) (x2 : Int32) : Option (Int32 × zs) := zp (fX12_in n (zsi s 161 0 (0 : Int32)) x1.toInt64 (0 : Int64) (10 : Int64)) (fun r1 => if r1 = 0 then fX12_tries_J29 n (zsi s 161 0 (0 : Int32)) else zp (fX12_in n (zsi s 161 0 (0 : Int32)) x2.toInt64 (0 : Int64) (100 : Int64)) (fun r5 => if ¬ r5 = 0 then zw (zl (fX12_tries_B33 n x1 x2) n ((1 : Int32), (zsi s 161 0 (0 : Int32)))) (fun w14 => some (w14.1, w14.2)) (fun w15 => some ((-2 : Int32), w15)) else fX12_tries_J29 n (zsi s 161 0 (0 : Int32))))
theorem tX12_tries {n : Nat} {c : Nat × Nat} {s : zs} {x1 : Int32} {x2 : Int32} {r : Int32} {s' : zs} (h : fX12_tries n s x1 x2 = some (r, s')) : zc 2 2505 [.ref 161, .int x1, .int x2] (zS c s) (some (.int r)) (zS c s') := by
  refine zc_of (k := kX12_tries) (rt := 1) (L := [some (.ref 161), some (.int x1), some (.int x2), none]) zm_2505.1 rfl rfl (by decide) rfl rfl ?_
  unfold fX12_tries at h
  refine zr_many 2 (pc' := 2) (L' := [some (.ref 161), some (.int x1), some (.int x2), none]) (st' := [.int (0 : Int32), .ref 161]) (S1 := zS c s) rfl ?_
  refine zq_put (s' := (zsi s 161 0 (0 : Int32))) rfl (zh_161 _) rfl rfl rfl rfl zsi_ne rfl ?_
  refine zr_many 4 (pc' := 11) (L' := [some (.ref 161), some (.int x1), some (.int x2), none]) (st' := [.long (10 : Int64), .long (0 : Int64), .long x1.toInt64]) (S1 := zS c (zsi s 161 0 (0 : Int32))) rfl ?_
  obtain ⟨r1, g3, h⟩ := zp_inv h
  refine zq_scall1 rfl (by decide) rfl rfl (tX12_in g3) rfl ?_
  refine zq_if1 (b := r1 = 0) rfl Iff.rfl rfl (fun g4 => ?_) (fun g4 => ?_)
  · rw [if_pos g4] at h
    exact zr_wk [none, none, none, none] trivial (tX12_tries_J29 h)
  · rw [if_neg g4] at h
    refine zr_many 4 (pc' := 23) (L' := [some (.ref 161), some (.int x1), some (.int x2), none]) (st' := [.long (100 : Int64), .long (0 : Int64), .long x2.toInt64]) (S1 := zS c (zsi s 161 0 (0 : Int32))) rfl ?_
    obtain ⟨r5, g7, h⟩ := zp_inv h
    refine zq_scall1 rfl (by decide) rfl rfl (tX12_in g7) rfl ?_
    refine zq_if1 (b := ¬ r5 = 0) rfl Iff.rfl rfl (fun g8 => ?_) (fun g8 => ?_)
    · rw [if_pos g8] at h
      refine zr_many 2 (pc' := 33) (L' := [some (.ref 161), some (.int x1), some (.int x2), some (.int (1 : Int32))]) (st' := []) (S1 := zS c (zsi s 161 0 (0 : Int32))) rfl ?_
      rcases zw_inv h with ⟨w14, g16, h⟩ | ⟨w15, g16, h⟩
      · skip
        refine zr_wk [some (.ref 161), some (.int x1), some (.int x2), some (.int (1 : Int32))] ⟨rfl, rfl, rfl, rfl, trivial⟩ (zl_cert (Z := fun w => zr kX12_tries 1 1 33 [some (.ref 161), some (.int x1), some (.int x2), some (.int w.1)] [] (zS c w.2) _ _) (Y := (Sum.elim (fun w => zr kX12_tries 1 1 63 [none, none, none, some (.int w.1)] [] (zS c w.2) _ _) (fun w => zr kX12_tries 1 1 71 [none, none, none, none] [] (zS c w) _ _))) (fun w o h1 h2 h3 => tX12_tries_B33 h1 h2 h3) n _ _ g16 ?_)
        show zr kX12_tries 1 1 63 [none, none, none, some (.int w14.1)] [] (zS c w14.2) _ _
        refine zr_many 1 (pc' := 64) (L' := [none, none, none, some (.int w14.1)]) (st' := [.int w14.1]) (S1 := zS c w14.2) rfl ?_
        cases h
        exact zq_iret rfl
      · skip
        refine zr_wk [some (.ref 161), some (.int x1), some (.int x2), some (.int (1 : Int32))] ⟨rfl, rfl, rfl, rfl, trivial⟩ (zl_cert (Z := fun w => zr kX12_tries 1 1 33 [some (.ref 161), some (.int x1), some (.int x2), some (.int w.1)] [] (zS c w.2) _ _) (Y := (Sum.elim (fun w => zr kX12_tries 1 1 63 [none, none, none, some (.int w.1)] [] (zS c w.2) _ _) (fun w => zr kX12_tries 1 1 71 [none, none, none, none] [] (zS c w) _ _))) (fun w o h1 h2 h3 => tX12_tries_B33 h1 h2 h3) n _ _ g16 ?_)
        show zr kX12_tries 1 1 71 [none, none, none, none] [] (zS c w15) _ _
        refine zr_many 1 (pc' := 73) (L' := [none, none, none, none]) (st' := [.int (-2 : Int32)]) (S1 := zS c w15) rfl ?_
        cases h
        exact zq_iret rfl
    · rw [if_neg g8] at h
      exact zr_wk [none, none, none, none] trivial (tX12_tries_J29 h)
def fX12_earns_J25 (n : Nat) (s : zs) (y0 : Int32) : Option Int32 := some y0
theorem tX12_earns_J25 {n : Nat} {c : Nat × Nat} {s : zs} {y0 : Int32} {r : Int32} (h : fX12_earns_J25 n s y0 = some r) : zr kX12_earns 1 0 25 [none, none, none] [.int y0] (zS c s) (some (.int r)) (zS c s) := by
  unfold fX12_earns_J25 at h
  cases h
  exact zq_iret rfl
def fX12_earns (n : Nat) (s : zs) (x0 : Int32) (x1 : Int32) (x2 : Int32) : Option Int32 := if x1 ≤ x0 then if ¬ x0 = x1 then fX12_earns_J25 n s (0 : Int32) else fX12_earns_J25 n s ((x0 - x2) / (2 : Int32)) else fX12_earns_J25 n s (x0 - x2)
theorem tX12_earns {n : Nat} {c : Nat × Nat} {s : zs} {x0 : Int32} {x1 : Int32} {x2 : Int32} {r : Int32} (h : fX12_earns n s x0 x1 x2 = some r) : zc 1 2506 [.int x0, .int x1, .int x2] (zS c s) (some (.int r)) (zS c s) := by
  refine zc_of (k := kX12_earns) (rt := 1) (L := [some (.int x0), some (.int x1), some (.int x2)]) zm_2506.1 rfl rfl (by decide) rfl rfl ?_
  unfold fX12_earns at h
  refine zr_many 2 (pc' := 2) (L' := [some (.int x0), some (.int x1), some (.int x2)]) (st' := [.int x1, .int x0]) (S1 := zS c s) rfl ?_
  refine zq_if2 (b := x1 ≤ x0) rfl Iff.rfl rfl (fun g1 => ?_) (fun g1 => ?_)
  · rw [if_pos g1] at h
    refine zr_many 2 (pc' := 13) (L' := [some (.int x0), some (.int x1), some (.int x2)]) (st' := [.int x1, .int x0]) (S1 := zS c s) rfl ?_
    refine zq_if2 (b := ¬ x0 = x1) rfl Iff.rfl rfl (fun g2 => ?_) (fun g2 => ?_)
    · rw [if_pos g2] at h
      refine zr_many 1 (pc' := 25) (L' := [some (.int x0), some (.int x1), some (.int x2)]) (st' := [.int (0 : Int32)]) (S1 := zS c s) rfl ?_
      exact zr_wk [none, none, none] trivial (tX12_earns_J25 h)
    · rw [if_neg g2] at h
      refine zr_many 4 (pc' := 20) (L' := [some (.int x0), some (.int x1), some (.int x2)]) (st' := [.int (2 : Int32), .int (x0 - x2)]) (S1 := zS c s) rfl ?_
      refine zq_idiv rfl (by decide) rfl ?_
      refine zr_many 1 (pc' := 25) (L' := [some (.int x0), some (.int x1), some (.int x2)]) (st' := [.int ((x0 - x2) / (2 : Int32))]) (S1 := zS c s) rfl ?_
      exact zr_wk [none, none, none] trivial (tX12_earns_J25 h)
  · rw [if_neg g1] at h
    refine zr_many 4 (pc' := 25) (L' := [some (.int x0), some (.int x1), some (.int x2)]) (st' := [.int (x0 - x2)]) (S1 := zS c s) rfl ?_
    exact zr_wk [none, none, none] trivial (tX12_earns_J25 h)
def fX12_isRest_J37 (n : Nat) (s : zs) (x0 : Int32) (x1 : Int32) (x2 : Int32) (x4 : Int32) (y0 : Int32) : Option ((Int32 × Int32) ⊕ (Int32)) := some (Sum.inl (y0, (x4 + (1 : Int32))))
theorem tX12_isRest_J37 {n : Nat} {c : Nat × Nat} {s : zs} {x0 : Int32} {x1 : Int32} {x2 : Int32} {x4 : Int32} {y0 : Int32} {o : _} {v : Option Value} {S' : zi_S} (h : fX12_isRest_J37 n s x0 x1 x2 x4 y0 = some o) (hn : ∀ w, o = Sum.inl w → zr kX12_isRest 2 1 5 [some (.int x0), some (.int x1), some (.int x2), some (.int w.1), some (.int w.2)] [] (zS c s) v S') (hx : ∀ w, o = Sum.inr w → (fun w => zr kX12_isRest 2 1 44 [none, none, none, some (.int w), none] [] (zS c s) v S') w) : zr kX12_isRest 2 1 37 [some (.int x0), some (.int x1), some (.int x2), none, some (.int x4)] [.int y0] (zS c s) v S' := by
  unfold fX12_isRest_J37 at h
  refine zr_many 3 (pc' := 5) (L' := [some (.int x0), some (.int x1), some (.int x2), some (.int y0), some (.int (x4 + (1 : Int32)))]) (st' := []) (S1 := zS c s) rfl ?_
  cases h
  exact zr_wk [some (.int x0), some (.int x1), some (.int x2), some (.int y0), some (.int (x4 + (1 : Int32)))] ⟨rfl, rfl, rfl, rfl, rfl, trivial⟩ (hn _ rfl)
def fX12_isRest_J36 (n : Nat) (s : zs) (x0 : Int32) (x1 : Int32) (x2 : Int32) (x4 : Int32) : Option ((Int32 × Int32) ⊕ (Int32)) := fX12_isRest_J37 n s x0 x1 x2 x4 (0 : Int32)
theorem tX12_isRest_J36 {n : Nat} {c : Nat × Nat} {s : zs} {x0 : Int32} {x1 : Int32} {x2 : Int32} {x4 : Int32} {o : _} {v : Option Value} {S' : zi_S} (h : fX12_isRest_J36 n s x0 x1 x2 x4 = some o) (hn : ∀ w, o = Sum.inl w → zr kX12_isRest 2 1 5 [some (.int x0), some (.int x1), some (.int x2), some (.int w.1), some (.int w.2)] [] (zS c s) v S') (hx : ∀ w, o = Sum.inr w → (fun w => zr kX12_isRest 2 1 44 [none, none, none, some (.int w), none] [] (zS c s) v S') w) : zr kX12_isRest 2 1 36 [some (.int x0), some (.int x1), some (.int x2), none, some (.int x4)] [] (zS c s) v S' := by
  unfold fX12_isRest_J36 at h
  refine zr_many 1 (pc' := 37) (L' := [some (.int x0), some (.int x1), some (.int x2), none, some (.int x4)]) (st' := [.int (0 : Int32)]) (S1 := zS c s) rfl ?_
  exact zr_wk [some (.int x0), some (.int x1), some (.int x2), none, some (.int x4)] ⟨rfl, rfl, rfl, rfl, trivial⟩ (tX12_isRest_J37 h hn hx)
def fX12_isRest_B5 (n : Nat) (s : zs) (x0 : Int32) (x1 : Int32) (x2 : Int32) (w : Int32 × Int32) : Option ((Int32 × Int32) ⊕ (Int32)) := if (9 : Int32) < w.2 then some (Sum.inr w.1) else if w.1 = 0 then fX12_isRest_J36 n s x0 x1 x2 w.2 else zp (fX12_earns n s w.2 x1 x2) (fun r3 => zp (fX12_earns n s x0 x1 x2) (fun r6 => if r6 < r3 then fX12_isRest_J36 n s x0 x1 x2 w.2 else fX12_isRest_J37 n s x0 x1 x2 w.2 (1 : Int32)))
theorem tX12_isRest_B5 {n : Nat} {c : Nat × Nat} {s : zs} {x0 : Int32} {x1 : Int32} {x2 : Int32} {w : Int32 × Int32} {o : _} {v : Option Value} {S' : zi_S} (h : fX12_isRest_B5 n s x0 x1 x2 w = some o) (hn : ∀ w, o = Sum.inl w → zr kX12_isRest 2 1 5 [some (.int x0), some (.int x1), some (.int x2), some (.int w.1), some (.int w.2)] [] (zS c s) v S') (hx : ∀ w, o = Sum.inr w → (fun w => zr kX12_isRest 2 1 44 [none, none, none, some (.int w), none] [] (zS c s) v S') w) : zr kX12_isRest 2 1 5 [some (.int x0), some (.int x1), some (.int x2), some (.int w.1), some (.int w.2)] [] (zS c s) v S' := by
  unfold fX12_isRest_B5 at h
  refine zr_many 2 (pc' := 9) (L' := [some (.int x0), some (.int x1), some (.int x2), some (.int w.1), some (.int w.2)]) (st' := [.int (9 : Int32), .int w.2]) (S1 := zS c s) rfl ?_
  refine zq_if2 (b := (9 : Int32) < w.2) rfl Iff.rfl rfl (fun g1 => ?_) (fun g1 => ?_)
  · rw [if_pos g1] at h
    cases h
    exact zr_wk [none, none, none, some (.int w.1), none] ⟨rfl, trivial⟩ (hx _ rfl)
  · rw [if_neg g1] at h
    refine zr_many 1 (pc' := 13) (L' := [some (.int x0), some (.int x1), some (.int x2), some (.int w.1), some (.int w.2)]) (st' := [.int w.1]) (S1 := zS c s) rfl ?_
    refine zq_if1 (b := w.1 = 0) rfl Iff.rfl rfl (fun g2 => ?_) (fun g2 => ?_)
    · rw [if_pos g2] at h
      exact zr_wk [some (.int x0), some (.int x1), some (.int x2), none, some (.int w.2)] ⟨rfl, rfl, rfl, rfl, trivial⟩ (tX12_isRest_J36 h hn hx)
    · rw [if_neg g2] at h
      refine zr_many 3 (pc' := 20) (L' := [some (.int x0), some (.int x1), some (.int x2), some (.int w.1), some (.int w.2)]) (st' := [.int x2, .int x1, .int w.2]) (S1 := zS c s) rfl ?_
      obtain ⟨r3, g5, h⟩ := zp_inv h
      refine zq_scall1 rfl (by decide) rfl rfl (tX12_earns g5) rfl ?_
      refine zr_many 3 (pc' := 26) (L' := [some (.int x0), some (.int x1), some (.int x2), some (.int w.1), some (.int w.2)]) (st' := [.int x2, .int x1, .int x0, .int r3]) (S1 := zS c s) rfl ?_
      obtain ⟨r6, g8, h⟩ := zp_inv h
      refine zq_scall1 rfl (by decide) rfl rfl (tX12_earns g8) rfl ?_
      refine zq_if2 (b := r6 < r3) rfl Iff.rfl rfl (fun g9 => ?_) (fun g9 => ?_)
      · rw [if_pos g9] at h
        exact zr_wk [some (.int x0), some (.int x1), some (.int x2), none, some (.int w.2)] ⟨rfl, rfl, rfl, rfl, trivial⟩ (tX12_isRest_J36 h hn hx)
      · rw [if_neg g9] at h
        refine zr_many 2 (pc' := 37) (L' := [some (.int x0), some (.int x1), some (.int x2), some (.int w.1), some (.int w.2)]) (st' := [.int (1 : Int32)]) (S1 := zS c s) rfl ?_
        exact zr_wk [some (.int x0), some (.int x1), some (.int x2), none, some (.int w.2)] ⟨rfl, rfl, rfl, rfl, trivial⟩ (tX12_isRest_J37 h hn hx)
def fX12_isRest (n : Nat) (s : zs) (x0 : Int32) (x1 : Int32) (x2 : Int32) : Option Int32 := zp (zl (fX12_isRest_B5 n s x0 x1 x2) n ((1 : Int32), (0 : Int32))) (fun w10 => if w10 = 0 ∨ w10 = 1 then some w10 else none)
theorem tX12_isRest {n : Nat} {c : Nat × Nat} {s : zs} {x0 : Int32} {x1 : Int32} {x2 : Int32} {r : Int32} (h : fX12_isRest n s x0 x1 x2 = some r) : zc 2 2507 [.int x0, .int x1, .int x2] (zS c s) (some (.int r)) (zS c s) := by
  refine zc_of (k := kX12_isRest) (rt := 2) (L := [some (.int x0), some (.int x1), some (.int x2), none, none]) zm_2507.1 rfl rfl (by decide) rfl rfl ?_
  unfold fX12_isRest at h
  refine zr_many 4 (pc' := 5) (L' := [some (.int x0), some (.int x1), some (.int x2), some (.int (1 : Int32)), some (.int (0 : Int32))]) (st' := []) (S1 := zS c s) rfl ?_
  obtain ⟨w10, g11, h⟩ := zp_inv h
  refine zr_wk [some (.int x0), some (.int x1), some (.int x2), some (.int (1 : Int32)), some (.int (0 : Int32))] ⟨rfl, rfl, rfl, rfl, rfl, trivial⟩ (zl_cert (Z := fun w => zr kX12_isRest 2 1 5 [some (.int x0), some (.int x1), some (.int x2), some (.int w.1), some (.int w.2)] [] (zS c s) _ _) (Y := (fun w => zr kX12_isRest 2 1 44 [none, none, none, some (.int w), none] [] (zS c s) _ _)) (fun w o h1 h2 h3 => tX12_isRest_B5 h1 h2 h3) n _ _ g11 ?_)
  show zr kX12_isRest 2 1 44 [none, none, none, some (.int w10), none] [] (zS c s) _ _
  refine zr_many 1 (pc' := 45) (L' := [none, none, none, some (.int w10), none]) (st' := [.int w10]) (S1 := zS c s) rfl ?_
  obtain ⟨gz, h⟩ := zt_inv h
  cases h
  exact zq_zret rfl gz
def fX12_rests_J84 (n : Nat) (s : zs) (x1 : Int32) (x2 : Int32) (x3 : Int32) (x4 : Int32) : Option ((Int32 × Int32 × zs) ⊕ (Int32 × zs)) := some (Sum.inl (x2, (x4 + (1 : Int32)), s))
theorem tX12_rests_J84 {n : Nat} {c : Nat × Nat} {s : zs} {x1 : Int32} {x2 : Int32} {x3 : Int32} {x4 : Int32} {o : _} {v : Option Value} {S' : zi_S} (h : fX12_rests_J84 n s x1 x2 x3 x4 = some o) (hn : ∀ w, o = Sum.inl w → zr kX12_rests 1 2 37 [some (.ref 161), some (.int x1), some (.int w.1), some (.int x3), some (.int w.2.1)] [] (zS c w.2.2) v S') (hx : ∀ w, o = Sum.inr w → (fun w => zr kX12_rests 1 2 90 [some (.ref 161), some (.int x1), some (.int w.1), some (.int x3), none] [] (zS c w.2) v S') w) : zr kX12_rests 1 2 84 [some (.ref 161), some (.int x1), some (.int x2), some (.int x3), some (.int x4)] [] (zS c s) v S' := by
  unfold fX12_rests_J84 at h
  refine zr_many 2 (pc' := 37) (L' := [some (.ref 161), some (.int x1), some (.int x2), some (.int x3), some (.int (x4 + (1 : Int32)))]) (st' := []) (S1 := zS c s) rfl ?_
  cases h
  exact zr_wk [some (.ref 161), some (.int x1), some (.int x2), some (.int x3), some (.int (x4 + (1 : Int32)))] ⟨rfl, rfl, rfl, rfl, rfl, trivial⟩ (hn _ rfl)
def fX12_rests_J81 (n : Nat) (s : zs) (x1 : Int32) (x2 : Int32) (x3 : Int32) (x4 : Int32) : Option ((Int32 × Int32 × zs) ⊕ (Int32 × zs)) := fX12_rests_J84 n s x1 (x2 + (1 : Int32)) x3 x4
theorem tX12_rests_J81 {n : Nat} {c : Nat × Nat} {s : zs} {x1 : Int32} {x2 : Int32} {x3 : Int32} {x4 : Int32} {o : _} {v : Option Value} {S' : zi_S} (h : fX12_rests_J81 n s x1 x2 x3 x4 = some o) (hn : ∀ w, o = Sum.inl w → zr kX12_rests 1 2 37 [some (.ref 161), some (.int x1), some (.int w.1), some (.int x3), some (.int w.2.1)] [] (zS c w.2.2) v S') (hx : ∀ w, o = Sum.inr w → (fun w => zr kX12_rests 1 2 90 [some (.ref 161), some (.int x1), some (.int w.1), some (.int x3), none] [] (zS c w.2) v S') w) : zr kX12_rests 1 2 81 [some (.ref 161), some (.int x1), some (.int x2), some (.int x3), some (.int x4)] [] (zS c s) v S' := by
  unfold fX12_rests_J81 at h
  refine zr_many 1 (pc' := 84) (L' := [some (.ref 161), some (.int x1), some (.int (x2 + (1 : Int32))), some (.int x3), some (.int x4)]) (st' := []) (S1 := zS c s) rfl ?_
  exact zr_wk [some (.ref 161), some (.int x1), some (.int (x2 + (1 : Int32))), some (.int x3), some (.int x4)] ⟨rfl, rfl, rfl, rfl, rfl, trivial⟩ (tX12_rests_J84 h hn hx)
def fX12_rests_B37 (n : Nat) (x1 : Int32) (x3 : Int32) (w : Int32 × Int32 × zs) : Option ((Int32 × Int32 × zs) ⊕ (Int32 × zs)) := if (9 : Int32) < w.2.1 then some (Sum.inr (w.1, w.2.2)) else zp (fX12_isRest n w.2.2 x3 w.2.1 x1) (fun r7 => if r7 = 0 then fX12_rests_J84 n w.2.2 x1 w.1 x3 w.2.1 else zp (fX12_isRest n w.2.2 w.2.1 x3 x1) (fun r11 => if r11 = 0 then fX12_rests_J84 n w.2.2 x1 w.1 x3 w.2.1 else if ¬ w.1 = 0 then fX12_rests_J81 n w.2.2 x1 w.1 x3 w.2.1 else zp (fX12_enters n w.2.2 x3.toInt64) (fun s17 => zp (fX12_enters n s17 w.2.1.toInt64) (fun s20 => fX12_rests_J81 n s20 x1 w.1 x3 w.2.1))))
theorem tX12_rests_B37 {n : Nat} {c : Nat × Nat} {x1 : Int32} {x3 : Int32} {w : Int32 × Int32 × zs} {o : _} {v : Option Value} {S' : zi_S} (h : fX12_rests_B37 n x1 x3 w = some o) (hn : ∀ w, o = Sum.inl w → zr kX12_rests 1 2 37 [some (.ref 161), some (.int x1), some (.int w.1), some (.int x3), some (.int w.2.1)] [] (zS c w.2.2) v S') (hx : ∀ w, o = Sum.inr w → (fun w => zr kX12_rests 1 2 90 [some (.ref 161), some (.int x1), some (.int w.1), some (.int x3), none] [] (zS c w.2) v S') w) : zr kX12_rests 1 2 37 [some (.ref 161), some (.int x1), some (.int w.1), some (.int x3), some (.int w.2.1)] [] (zS c w.2.2) v S' := by
  unfold fX12_rests_B37 at h
  refine zr_many 2 (pc' := 41) (L' := [some (.ref 161), some (.int x1), some (.int w.1), some (.int x3), some (.int w.2.1)]) (st' := [.int (9 : Int32), .int w.2.1]) (S1 := zS c w.2.2) rfl ?_
  refine zq_if2 (b := (9 : Int32) < w.2.1) rfl Iff.rfl rfl (fun g6 => ?_) (fun g6 => ?_)
  · rw [if_pos g6] at h
    cases h
    exact zr_wk [some (.ref 161), some (.int x1), some (.int w.1), some (.int x3), none] ⟨rfl, rfl, rfl, rfl, trivial⟩ (hx _ rfl)
  · rw [if_neg g6] at h
    refine zr_many 3 (pc' := 48) (L' := [some (.ref 161), some (.int x1), some (.int w.1), some (.int x3), some (.int w.2.1)]) (st' := [.int x1, .int w.2.1, .int x3]) (S1 := zS c w.2.2) rfl ?_
    obtain ⟨r7, g9, h⟩ := zp_inv h
    refine zq_scall1 rfl (by decide) rfl rfl (tX12_isRest g9) rfl ?_
    refine zq_if1 (b := r7 = 0) rfl Iff.rfl rfl (fun g10 => ?_) (fun g10 => ?_)
    · rw [if_pos g10] at h
      exact zr_wk [some (.ref 161), some (.int x1), some (.int w.1), some (.int x3), some (.int w.2.1)] ⟨rfl, rfl, rfl, rfl, rfl, trivial⟩ (tX12_rests_J84 h hn hx)
    · rw [if_neg g10] at h
      refine zr_many 3 (pc' := 58) (L' := [some (.ref 161), some (.int x1), some (.int w.1), some (.int x3), some (.int w.2.1)]) (st' := [.int x1, .int x3, .int w.2.1]) (S1 := zS c w.2.2) rfl ?_
      obtain ⟨r11, g13, h⟩ := zp_inv h
      refine zq_scall1 rfl (by decide) rfl rfl (tX12_isRest g13) rfl ?_
      refine zq_if1 (b := r11 = 0) rfl Iff.rfl rfl (fun g14 => ?_) (fun g14 => ?_)
      · rw [if_pos g14] at h
        exact zr_wk [some (.ref 161), some (.int x1), some (.int w.1), some (.int x3), some (.int w.2.1)] ⟨rfl, rfl, rfl, rfl, rfl, trivial⟩ (tX12_rests_J84 h hn hx)
      · rw [if_neg g14] at h
        refine zr_many 1 (pc' := 65) (L' := [some (.ref 161), some (.int x1), some (.int w.1), some (.int x3), some (.int w.2.1)]) (st' := [.int w.1]) (S1 := zS c w.2.2) rfl ?_
        refine zq_if1 (b := ¬ w.1 = 0) rfl Iff.rfl rfl (fun g15 => ?_) (fun g15 => ?_)
        · rw [if_pos g15] at h
          exact zr_wk [some (.ref 161), some (.int x1), some (.int w.1), some (.int x3), some (.int w.2.1)] ⟨rfl, rfl, rfl, rfl, rfl, trivial⟩ (tX12_rests_J81 h hn hx)
        · rw [if_neg g15] at h
          refine zr_many 3 (pc' := 71) (L' := [some (.ref 161), some (.int x1), some (.int w.1), some (.int x3), some (.int w.2.1)]) (st' := [.long x3.toInt64, .ref 161]) (S1 := zS c w.2.2) rfl ?_
          obtain ⟨s17, g18, h⟩ := zp_inv h
          refine zq_call0 rfl rfl (zh_161 _) rfl rfl rfl ((tX12_enters g18).up (by decide)) rfl ?_
          refine zr_many 3 (pc' := 78) (L' := [some (.ref 161), some (.int x1), some (.int w.1), some (.int x3), some (.int w.2.1)]) (st' := [.long w.2.1.toInt64, .ref 161]) (S1 := zS c s17) rfl ?_
          obtain ⟨s20, g21, h⟩ := zp_inv h
          refine zq_call0 rfl rfl (zh_161 _) rfl rfl rfl ((tX12_enters g21).up (by decide)) rfl ?_
          exact zr_wk [some (.ref 161), some (.int x1), some (.int w.1), some (.int x3), some (.int w.2.1)] ⟨rfl, rfl, rfl, rfl, rfl, trivial⟩ (tX12_rests_J81 h hn hx)
def fX12_rests_B28 (n : Nat) (x1 : Int32) (w : Int32 × Int32 × zs) : Option ((Int32 × Int32 × zs) ⊕ (Int32 × zs)) := if (9 : Int32) < w.2.1 then some (Sum.inr (w.1, w.2.2)) else zp (zl (fX12_rests_B37 n x1 w.2.1) n (w.1, (0 : Int32), w.2.2)) (fun w22 => some (Sum.inl (w22.1, (w.2.1 + (1 : Int32)), w22.2)))
theorem tX12_rests_B28 {n : Nat} {c : Nat × Nat} {x1 : Int32} {w : Int32 × Int32 × zs} {o : _} {v : Option Value} {S' : zi_S} (h : fX12_rests_B28 n x1 w = some o) (hn : ∀ w, o = Sum.inl w → zr kX12_rests 1 2 28 [some (.ref 161), some (.int x1), some (.int w.1), some (.int w.2.1), none] [] (zS c w.2.2) v S') (hx : ∀ w, o = Sum.inr w → (fun w => zr kX12_rests 1 2 96 [none, none, some (.int w.1), none, none] [] (zS c w.2) v S') w) : zr kX12_rests 1 2 28 [some (.ref 161), some (.int x1), some (.int w.1), some (.int w.2.1), none] [] (zS c w.2.2) v S' := by
  unfold fX12_rests_B28 at h
  refine zr_many 2 (pc' := 31) (L' := [some (.ref 161), some (.int x1), some (.int w.1), some (.int w.2.1), none]) (st' := [.int (9 : Int32), .int w.2.1]) (S1 := zS c w.2.2) rfl ?_
  refine zq_if2 (b := (9 : Int32) < w.2.1) rfl Iff.rfl rfl (fun g5 => ?_) (fun g5 => ?_)
  · rw [if_pos g5] at h
    cases h
    exact zr_wk [none, none, some (.int w.1), none, none] ⟨rfl, trivial⟩ (hx _ rfl)
  · rw [if_neg g5] at h
    refine zr_many 2 (pc' := 37) (L' := [some (.ref 161), some (.int x1), some (.int w.1), some (.int w.2.1), some (.int (0 : Int32))]) (st' := []) (S1 := zS c w.2.2) rfl ?_
    obtain ⟨w22, g23, h⟩ := zp_inv h
    refine zr_wk [some (.ref 161), some (.int x1), some (.int w.1), some (.int w.2.1), some (.int (0 : Int32))] ⟨rfl, rfl, rfl, rfl, rfl, trivial⟩ (zl_cert (Z := fun w => zr kX12_rests 1 2 37 [some (.ref 161), some (.int x1), some (.int w.1), some (.int w.2.1), some (.int w.2.1)] [] (zS c w.2.2) _ _) (Y := (fun w => zr kX12_rests 1 2 90 [some (.ref 161), some (.int x1), some (.int w.1), some (.int w.2.1), none] [] (zS c w.2) _ _)) (fun w o h1 h2 h3 => tX12_rests_B37 h1 h2 h3) n _ _ g23 ?_)
    show zr kX12_rests 1 2 90 [some (.ref 161), some (.int x1), some (.int w22.1), some (.int w.2.1), none] [] (zS c w22.2) _ _
    refine zr_many 2 (pc' := 28) (L' := [some (.ref 161), some (.int x1), some (.int w22.1), some (.int (w.2.1 + (1 : Int32))), none]) (st' := []) (S1 := zS c w22.2) rfl ?_
    cases h
    exact zr_wk [some (.ref 161), some (.int x1), some (.int w22.1), some (.int (w.2.1 + (1 : Int32))), none] ⟨rfl, rfl, rfl, rfl, trivial⟩ (hn _ rfl)
def fX12_rests (n : Nat) (s : zs) (x1 : Int32) : Option (Int32 × zs) := zp (fX12_in n (zsi s 161 0 (0 : Int32)) x1.toInt64 (0 : Int64) (9 : Int64)) (fun r1 => if ¬ r1 = 0 then zp (zl (fX12_rests_B28 n x1) n ((0 : Int32), (0 : Int32), (zsi (zsi s 161 0 (0 : Int32)) 161 1 (0 : Int32)))) (fun w24 => some (w24.1, w24.2)) else some ((-1 : Int32), (zsi s 161 0 (0 : Int32))))
theorem tX12_rests {n : Nat} {c : Nat × Nat} {s : zs} {x1 : Int32} {r : Int32} {s' : zs} (h : fX12_rests n s x1 = some (r, s')) : zc 3 2508 [.ref 161, .int x1] (zS c s) (some (.int r)) (zS c s') := by
  refine zc_of (k := kX12_rests) (rt := 1) (L := [some (.ref 161), some (.int x1), none, none, none]) zm_2508.1 rfl rfl (by decide) rfl rfl ?_
  unfold fX12_rests at h
  refine zr_many 2 (pc' := 2) (L' := [some (.ref 161), some (.int x1), none, none, none]) (st' := [.int (0 : Int32), .ref 161]) (S1 := zS c s) rfl ?_
  refine zq_put (s' := (zsi s 161 0 (0 : Int32))) rfl (zh_161 _) rfl rfl rfl rfl zsi_ne rfl ?_
  refine zr_many 4 (pc' := 11) (L' := [some (.ref 161), some (.int x1), none, none, none]) (st' := [.long (9 : Int64), .long (0 : Int64), .long x1.toInt64]) (S1 := zS c (zsi s 161 0 (0 : Int32))) rfl ?_
  obtain ⟨r1, g3, h⟩ := zp_inv h
  refine zq_scall1 rfl (by decide) rfl rfl ((tX12_in g3).up (by decide)) rfl ?_
  refine zq_if1 (b := ¬ r1 = 0) rfl Iff.rfl rfl (fun g4 => ?_) (fun g4 => ?_)
  · rw [if_pos g4] at h
    refine zr_many 4 (pc' := 23) (L' := [some (.ref 161), some (.int x1), some (.int (0 : Int32)), none, none]) (st' := [.int (0 : Int32), .ref 161]) (S1 := zS c (zsi s 161 0 (0 : Int32))) rfl ?_
    refine zq_put (s' := (zsi (zsi s 161 0 (0 : Int32)) 161 1 (0 : Int32))) rfl (zh_161 _) rfl rfl rfl rfl zsi_ne rfl ?_
    refine zr_many 2 (pc' := 28) (L' := [some (.ref 161), some (.int x1), some (.int (0 : Int32)), some (.int (0 : Int32)), none]) (st' := []) (S1 := zS c (zsi (zsi s 161 0 (0 : Int32)) 161 1 (0 : Int32))) rfl ?_
    obtain ⟨w24, g25, h⟩ := zp_inv h
    refine zr_wk [some (.ref 161), some (.int x1), some (.int (0 : Int32)), some (.int (0 : Int32)), none] ⟨rfl, rfl, rfl, rfl, trivial⟩ (zl_cert (Z := fun w => zr kX12_rests 1 2 28 [some (.ref 161), some (.int x1), some (.int w.1), some (.int w.2.1), none] [] (zS c w.2.2) _ _) (Y := (fun w => zr kX12_rests 1 2 96 [none, none, some (.int w.1), none, none] [] (zS c w.2) _ _)) (fun w o h1 h2 h3 => tX12_rests_B28 h1 h2 h3) n _ _ g25 ?_)
    show zr kX12_rests 1 2 96 [none, none, some (.int w24.1), none, none] [] (zS c w24.2) _ _
    refine zr_many 1 (pc' := 97) (L' := [none, none, some (.int w24.1), none, none]) (st' := [.int w24.1]) (S1 := zS c w24.2) rfl ?_
    cases h
    exact zq_iret rfl
  · rw [if_neg g4] at h
    refine zr_many 1 (pc' := 18) (L' := [some (.ref 161), some (.int x1), none, none, none]) (st' := [.int (-1 : Int32)]) (S1 := zS c (zsi s 161 0 (0 : Int32))) rfl ?_
    cases h
    exact zq_iret rfl
def fX12_keep_B38 (n : Nat) (x1 : Int32) (w : Int32 × zs) : Option ((Int32 × zs) ⊕ (zs)) := if (42 : Int32) ≤ w.1 then some (Sum.inr w.2) else cond (zi_in w.1 42) (cond (zi_in (((42 : Int32) * x1) + w.1) 126) (some (Sum.inl ((w.1 + (1 : Int32)), (zsi w.2 190 (((42 : Int32) * x1) + w.1).toNatClampNeg (w.2.1 169 w.1.toNatClampNeg))))) none) none
theorem tX12_keep_B38 {n : Nat} {c : Nat × Nat} {x1 : Int32} {w : Int32 × zs} {o : _} {v : Option Value} {S' : zi_S} (h : fX12_keep_B38 n x1 w = some o) (hn : ∀ w, o = Sum.inl w → zr kX12_keep 2 1 38 [some (.ref 161), some (.int x1), some (.int w.1)] [] (zS c w.2) v S') (hx : ∀ w, o = Sum.inr w → (fun w => zr kX12_keep 2 1 67 [none, none, none] [] (zS c w) v S') w) : zr kX12_keep 2 1 38 [some (.ref 161), some (.int x1), some (.int w.1)] [] (zS c w.2) v S' := by
  unfold fX12_keep_B38 at h
  refine zr_many 2 (pc' := 41) (L' := [some (.ref 161), some (.int x1), some (.int w.1)]) (st' := [.int (42 : Int32), .int w.1]) (S1 := zS c w.2) rfl ?_
  refine zq_if2 (b := (42 : Int32) ≤ w.1) rfl Iff.rfl rfl (fun g5 => ?_) (fun g5 => ?_)
  · rw [if_pos g5] at h
    cases h
    exact zr_wk [none, none, none] trivial (hx _ rfl)
  · rw [if_neg g5] at h
    refine zr_many 1 (pc' := 45) (L' := [some (.ref 161), some (.int x1), some (.int w.1)]) (st' := [.ref 161]) (S1 := zS c w.2) rfl ?_
    refine zq_get rfl (zh_161 _) rfl rfl rfl ?_
    refine zr_many 6 (pc' := 55) (L' := [some (.ref 161), some (.int x1), some (.int w.1)]) (st' := [.ref 161, .int (((42 : Int32) * x1) + w.1), .ref 190]) (S1 := zS c w.2) rfl ?_
    refine zq_get rfl (zh_161 _) rfl rfl rfl ?_
    refine zr_many 1 (pc' := 59) (L' := [some (.ref 161), some (.int x1), some (.int w.1)]) (st' := [.int w.1, .ref 169, .int (((42 : Int32) * x1) + w.1), .ref 190]) (S1 := zS c w.2) rfl ?_
    obtain ⟨g6, h⟩ := zi_cond_inv h
    refine zq_ild rfl (zh_169 _) rfl g6 rfl ?_
    obtain ⟨g7, h⟩ := zi_cond_inv h
    refine zq_ist rfl zh_190 rfl g7 rfl ?_
    refine zr_many 2 (pc' := 38) (L' := [some (.ref 161), some (.int x1), some (.int (w.1 + (1 : Int32)))]) (st' := []) (S1 := zS c (zsi w.2 190 (((42 : Int32) * x1) + w.1).toNatClampNeg (w.2.1 169 w.1.toNatClampNeg))) rfl ?_
    cases h
    exact zr_wk [some (.ref 161), some (.int x1), some (.int (w.1 + (1 : Int32)))] ⟨rfl, rfl, rfl, trivial⟩ (hn _ rfl)
def fX12_keep (n : Nat) (s : zs) (x1 : Int32) : Option (Int32 × zs) := zp (fX12_in n (zsi s 161 0 (0 : Int32)) x1.toInt64 (0 : Int64) (2 : Int64)) (fun r1 => if ¬ r1 = 0 then cond (zi_in x1 3) (cond (zi_in x1 3) (zp (zl (fX12_keep_B38 n x1) n ((0 : Int32), (zsi (zsi (zsi s 161 0 (0 : Int32)) 188 x1.toNatClampNeg (vp_nar .boolean (1 : Int32))) 189 x1.toNatClampNeg ((zsi (zsi s 161 0 (0 : Int32)) 188 x1.toNatClampNeg (vp_nar .boolean (1 : Int32))).1 161 7)))) (fun w8 => some ((1 : Int32), w8))) none) none else some ((0 : Int32), (zsi s 161 0 (0 : Int32))))
theorem tX12_keep {n : Nat} {c : Nat × Nat} {s : zs} {x1 : Int32} {r : Int32} {s' : zs} (h : fX12_keep n s x1 = some (r, s')) : zc 2 2511 [.ref 161, .int x1] (zS c s) (some (.int r)) (zS c s') := by
  refine zc_of (k := kX12_keep) (rt := 2) (L := [some (.ref 161), some (.int x1), none]) zm_2511.1 rfl rfl (by decide) rfl rfl ?_
  unfold fX12_keep at h
  refine zr_many 2 (pc' := 2) (L' := [some (.ref 161), some (.int x1), none]) (st' := [.int (0 : Int32), .ref 161]) (S1 := zS c s) rfl ?_
  refine zq_put (s' := (zsi s 161 0 (0 : Int32))) rfl (zh_161 _) rfl rfl rfl rfl zsi_ne rfl ?_
  refine zr_many 4 (pc' := 11) (L' := [some (.ref 161), some (.int x1), none]) (st' := [.long (2 : Int64), .long (0 : Int64), .long x1.toInt64]) (S1 := zS c (zsi s 161 0 (0 : Int32))) rfl ?_
  obtain ⟨r1, g3, h⟩ := zp_inv h
  refine zq_scall1 rfl (by decide) rfl rfl (tX12_in g3) rfl ?_
  refine zq_if1 (b := ¬ r1 = 0) rfl Iff.rfl rfl (fun g4 => ?_) (fun g4 => ?_)
  · rw [if_pos g4] at h
    refine zr_many 1 (pc' := 20) (L' := [some (.ref 161), some (.int x1), none]) (st' := [.ref 161]) (S1 := zS c (zsi s 161 0 (0 : Int32))) rfl ?_
    refine zq_get rfl (zh_161 _) rfl rfl rfl ?_
    refine zr_many 2 (pc' := 25) (L' := [some (.ref 161), some (.int x1), none]) (st' := [.int (1 : Int32), .int x1, .ref 188]) (S1 := zS c (zsi s 161 0 (0 : Int32))) rfl ?_
    obtain ⟨g10, h⟩ := zi_cond_inv h
    refine zq_zst rfl zh_188 rfl g10 rfl ?_
    refine zr_many 1 (pc' := 27) (L' := [some (.ref 161), some (.int x1), none]) (st' := [.ref 161]) (S1 := zS c (zsi (zsi s 161 0 (0 : Int32)) 188 x1.toNatClampNeg (vp_nar .boolean (1 : Int32)))) rfl ?_
    refine zq_get rfl (zh_161 _) rfl rfl rfl ?_
    refine zr_many 2 (pc' := 32) (L' := [some (.ref 161), some (.int x1), none]) (st' := [.ref 161, .int x1, .ref 189]) (S1 := zS c (zsi (zsi s 161 0 (0 : Int32)) 188 x1.toNatClampNeg (vp_nar .boolean (1 : Int32)))) rfl ?_
    refine zq_get rfl (zh_161 _) rfl rfl rfl ?_
    obtain ⟨g11, h⟩ := zi_cond_inv h
    refine zq_ist rfl zh_189 rfl g11 rfl ?_
    refine zr_many 2 (pc' := 38) (L' := [some (.ref 161), some (.int x1), some (.int (0 : Int32))]) (st' := []) (S1 := zS c (zsi (zsi (zsi s 161 0 (0 : Int32)) 188 x1.toNatClampNeg (vp_nar .boolean (1 : Int32))) 189 x1.toNatClampNeg ((zsi (zsi s 161 0 (0 : Int32)) 188 x1.toNatClampNeg (vp_nar .boolean (1 : Int32))).1 161 7))) rfl ?_
    obtain ⟨w8, g9, h⟩ := zp_inv h
    refine zr_wk [some (.ref 161), some (.int x1), some (.int (0 : Int32))] ⟨rfl, rfl, rfl, trivial⟩ (zl_cert (Z := fun w => zr kX12_keep 2 1 38 [some (.ref 161), some (.int x1), some (.int w.1)] [] (zS c w.2) _ _) (Y := (fun w => zr kX12_keep 2 1 67 [none, none, none] [] (zS c w) _ _)) (fun w o h1 h2 h3 => tX12_keep_B38 h1 h2 h3) n _ _ g9 ?_)
    show zr kX12_keep 2 1 67 [none, none, none] [] (zS c w8) _ _
    refine zr_many 1 (pc' := 68) (L' := [none, none, none]) (st' := [.int (1 : Int32)]) (S1 := zS c w8) rfl ?_
    cases h
    exact zq_zret rfl (by decide)
  · rw [if_neg g4] at h
    refine zr_many 1 (pc' := 18) (L' := [some (.ref 161), some (.int x1), none]) (st' := [.int (0 : Int32)]) (S1 := zS c (zsi s 161 0 (0 : Int32))) rfl ?_
    cases h
    exact zq_zret rfl (by decide)
