/-! ===== printed by wip/gen/dec.py: the methods as functions, each with its run ===== -/
def fX12_tiredAll_J34 (n : Nat) (s : zs) (m1 : Nat) (x2 : Int32) (x4 : Int32) (y0 : Int32) (y1 : Int32) : Option ((Int32 × Int32) ⊕ (Int32)) := some (Sum.inl ((y0 + y1), (x4 + (1 : Int32))))
theorem tX12_tiredAll_J34 {n : Nat} {c : Nat × Nat} {s : zs} {m1 : Nat} {x2 : Int32} {x4 : Int32} {y0 : Int32} {y1 : Int32} {o : _} {v : Option Value} {S' : zi_S} (hm1 : zR m1) (h : fX12_tiredAll_J34 n s m1 x2 x4 y0 y1 = some o) (hn : ∀ w5, o = Sum.inl w5 → zr kX12_tiredAll 1 1 5 [some (.ref 161), some (.ref m1), some (.int x2), some (.int w5.1), some (.int w5.2)] [] (zS c s) v S') (hx : ∀ z, o = Sum.inr z → (fun z => zr kX12_tiredAll 1 1 42 [none, none, none, some (.int z), none] [] (zS c s) v S') z) : zr kX12_tiredAll 1 1 34 [some (.ref 161), some (.ref m1), some (.int x2), none, some (.int x4)] [.int y1, .int y0] (zS c s) v S' := by
  unfold fX12_tiredAll_J34 at h
  refine zr_many 4 (pc' := 5) (L' := [some (.ref 161), some (.ref m1), some (.int x2), some (.int (y0 + y1)), some (.int (x4 + (1 : Int32)))]) (st' := []) (S1 := zS c s) rfl ?_
  obtain rfl := Option.some.inj h
  exact zr_wk [some (.ref 161), some (.ref m1), some (.int x2), some (.int (y0 + y1)), some (.int (x4 + (1 : Int32)))] ⟨rfl, rfl, rfl, rfl, rfl, trivial⟩ (hn ((y0 + y1), (x4 + (1 : Int32))) rfl)
def fX12_tiredAll_B5 (n : Nat) (s : zs) (m1 : Nat) (x2 : Int32) (w5 : Int32 × Int32) : Option ((Int32 × Int32) ⊕ (Int32)) := if (s.1 161 4) ≤ w5.2 then some (Sum.inr w5.1) else zp (fX12_has n s x2 w5.2) (fun r2 => if r2 = 0 then fX12_tiredAll_J34 n s m1 x2 w5.2 w5.1 (0 : Int32) else zp (fX12_tiredOf n s m1 w5.2) (fun r6 => fX12_tiredAll_J34 n s m1 x2 w5.2 w5.1 r6))
theorem tX12_tiredAll_B5 {n : Nat} {c : Nat × Nat} {s : zs} {m1 : Nat} {x2 : Int32} {w5 : Int32 × Int32} {o : _} {v : Option Value} {S' : zi_S} (hm1 : zR m1) (h : fX12_tiredAll_B5 n s m1 x2 w5 = some o) (hn : ∀ w5, o = Sum.inl w5 → zr kX12_tiredAll 1 1 5 [some (.ref 161), some (.ref m1), some (.int x2), some (.int w5.1), some (.int w5.2)] [] (zS c s) v S') (hx : ∀ z, o = Sum.inr z → (fun z => zr kX12_tiredAll 1 1 42 [none, none, none, some (.int z), none] [] (zS c s) v S') z) : zr kX12_tiredAll 1 1 5 [some (.ref 161), some (.ref m1), some (.int x2), some (.int w5.1), some (.int w5.2)] [] (zS c s) v S' := by
  unfold fX12_tiredAll_B5 at h
  refine zr_many 2 (pc' := 8) (L' := [some (.ref 161), some (.ref m1), some (.int x2), some (.int w5.1), some (.int w5.2)]) (st' := [.ref 161, .int w5.2]) (S1 := zS c s) rfl ?_
  refine zq_get rfl (zh_161 _) rfl rfl rfl ?_
  refine zq_if2 (b := (s.1 161 4) ≤ w5.2) rfl Iff.rfl rfl (fun g1 => ?_) (fun g1 => ?_)
  · rw [if_pos g1] at h
    obtain rfl := Option.some.inj h
    exact zr_wk [none, none, none, some (.int w5.1), none] ⟨rfl, trivial⟩ (hx w5.1 rfl)
  · rw [if_neg g1] at h
    refine zr_many 3 (pc' := 18) (L' := [some (.ref 161), some (.ref m1), some (.int x2), some (.int w5.1), some (.int w5.2)]) (st' := [.int w5.2, .int x2, .int w5.1]) (S1 := zS c s) rfl ?_
    obtain ⟨r2, g4, h⟩ := zp_inv h
    refine zq_scall1 rfl (by decide) rfl rfl (tX12_has g4) rfl ?_
    refine zq_if1 (b := r2 = 0) rfl Iff.rfl rfl (fun g5 => ?_) (fun g5 => ?_)
    · rw [if_pos g5] at h
      refine zr_many 1 (pc' := 34) (L' := [some (.ref 161), some (.ref m1), some (.int x2), some (.int w5.1), some (.int w5.2)]) (st' := [.int (0 : Int32), .int w5.1]) (S1 := zS c s) rfl ?_
      exact zr_wk [some (.ref 161), some (.ref m1), some (.int x2), none, some (.int w5.2)] ⟨rfl, rfl, rfl, rfl, trivial⟩ (tX12_tiredAll_J34 hm1 h hn hx)
    · rw [if_neg g5] at h
      refine zr_many 2 (pc' := 27) (L' := [some (.ref 161), some (.ref m1), some (.int x2), some (.int w5.1), some (.int w5.2)]) (st' := [.int w5.2, .ref m1, .int w5.1]) (S1 := zS c s) rfl ?_
      obtain ⟨r6, g8, h⟩ := zp_inv h
      refine zq_scall1 rfl (by decide) rfl rfl (tX12_tiredOf hm1 g8) rfl ?_
      refine zr_many 1 (pc' := 34) (L' := [some (.ref 161), some (.ref m1), some (.int x2), some (.int w5.1), some (.int w5.2)]) (st' := [.int r6, .int w5.1]) (S1 := zS c s) rfl ?_
      exact zr_wk [some (.ref 161), some (.ref m1), some (.int x2), none, some (.int w5.2)] ⟨rfl, rfl, rfl, rfl, trivial⟩ (tX12_tiredAll_J34 hm1 h hn hx)
def fX12_tiredAll (n : Nat) (s : zs) (m1 : Nat) (x2 : Int32) : Option Int32 := zp (zl (fX12_tiredAll_B5 n s m1 x2) n ((0 : Int32), (0 : Int32))) (fun w9 => some w9)
theorem tX12_tiredAll {n : Nat} {c : Nat × Nat} {s : zs} {m1 : Nat} {x2 : Int32} {r : Int32} (hm1 : zR m1) (h : fX12_tiredAll n s m1 x2 = some r) : zc 2 2441 [.ref 161, .ref m1, .int x2] (zS c s) (some (.int r)) (zS c s) := by
  refine zc_of (k := kX12_tiredAll) (rt := 1) (L := [some (.ref 161), some (.ref m1), some (.int x2), none, none]) zm_2441.1 rfl rfl (by decide) rfl rfl ?_
  unfold fX12_tiredAll at h
  refine zr_many 4 (pc' := 5) (L' := [some (.ref 161), some (.ref m1), some (.int x2), some (.int (0 : Int32)), some (.int (0 : Int32))]) (st' := []) (S1 := zS c s) rfl ?_
  obtain ⟨w9, g10, h⟩ := zp_inv h
  refine zr_wk [some (.ref 161), some (.ref m1), some (.int x2), some (.int (0 : Int32)), some (.int (0 : Int32))] ⟨rfl, rfl, rfl, rfl, rfl, trivial⟩ (zl_cert (Z := fun w5 => zr kX12_tiredAll 1 1 5 [some (.ref 161), some (.ref m1), some (.int x2), some (.int w5.1), some (.int w5.2)] [] (zS c s) _ _) (Y := (fun z => zr kX12_tiredAll 1 1 42 [none, none, none, some (.int z), none] [] (zS c s) _ _)) (fun w o h1 h2 h3 => tX12_tiredAll_B5 hm1 h1 h2 h3) n _ _ g10 ?_)
  show zr kX12_tiredAll 1 1 42 [none, none, none, some (.int w9), none] [] (zS c s) _ _
  refine zr_many 1 (pc' := 43) (L' := [none, none, none, some (.int w9), none]) (st' := [.int w9]) (S1 := zS c s) rfl ?_
  obtain rfl := Option.some.inj h
  exact zq_iret rfl
def fX12_minutes_J63 (n : Nat) (s : zs) (m1 : Nat) (x4 : Int32) (x5 : Int32) (y1 : Int32) (y2 : Int32) : Option (Int32 × zs) := zp (fX12_flag n s y2) (fun r15 => cond (zi_in y1 7) (zt (zsi s 176 y1.toNatClampNeg r15) (fun s18 => zp (fJ6_bitCount_0f7a4 n (zsi s18 176 4 x4) x5) (fun r20 => zt (zsi s18 176 4 x4) (fun s23 => zt (zsi s23 176 5 r20) (fun s26 => zb (fX12_ruled n (zsi s26 176 6 ((s26.1 m1 9) - (s26.1 m1 9) / (60 : Int32) * (60 : Int32)))) (fun r28 s29 => some (r28, s29))))))) none)
theorem tX12_minutes_J63 {n : Nat} {c : Nat × Nat} {s : zs} {m1 : Nat} {x4 : Int32} {x5 : Int32} {y1 : Int32} {y2 : Int32} {r : Int32} {s' : zs} (hm1 : zR m1) (h : fX12_minutes_J63 n s m1 x4 x5 y1 y2 = some (r, s')) : zr kX12_minutes 1 3 63 [some (.ref 161), some (.ref m1), none, none, some (.int x4), some (.int x5)] [.int y2, .int y1, .ref 176] (zS c s) (some (.int r)) (zS c s') := by
  unfold fX12_minutes_J63 at h
  obtain ⟨r15, g17, h⟩ := zp_inv h
  refine zq_scall1 rfl (by decide) rfl rfl ((tX12_flag g17).up (by decide)) rfl ?_
  obtain ⟨g31, h⟩ := zi_cond_inv h
  refine zq_ist rfl zh_176 rfl g31 rfl ?_
  refine zr_many 1 (pc' := 68) (L' := [some (.ref 161), some (.ref m1), none, none, some (.int x4), some (.int x5)]) (st' := [.ref 161]) (S1 := zS c (zsi s 176 y1.toNatClampNeg r15)) rfl ?_
  refine zq_get rfl (zh_161 _) rfl rfl rfl ?_
  refine zr_many 2 (pc' := 74) (L' := [some (.ref 161), some (.ref m1), none, none, some (.int x4), some (.int x5)]) (st' := [.int x4, .int (4 : Int32), .ref 176]) (S1 := zS c (zsi s 176 y1.toNatClampNeg r15)) rfl ?_
  obtain ⟨s18, e19, h⟩ := zt_in h
  rw [← e19]
  refine zq_ist rfl zh_176 rfl (by decide) rfl ?_
  refine zr_many 1 (pc' := 76) (L' := [some (.ref 161), some (.ref m1), none, none, some (.int x4), some (.int x5)]) (st' := [.ref 161]) (S1 := zS c (zsi s18 176 4 x4)) rfl ?_
  refine zq_get rfl (zh_161 _) rfl rfl rfl ?_
  refine zr_many 2 (pc' := 82) (L' := [some (.ref 161), some (.ref m1), none, none, some (.int x4), some (.int x5)]) (st' := [.int x5, .int (5 : Int32), .ref 176]) (S1 := zS c (zsi s18 176 4 x4)) rfl ?_
  obtain ⟨r20, g22, h⟩ := zp_inv h
  refine zq_scall1 rfl (by decide) rfl rfl ((tJ6_bitCount_0f7a4 g22).up (by decide)) rfl ?_
  obtain ⟨s23, e24, h⟩ := zt_in h
  rw [← e24]
  refine zq_ist rfl zh_176 rfl (by decide) rfl ?_
  refine zr_many 1 (pc' := 87) (L' := [some (.ref 161), some (.ref m1), none, none, some (.int x4), some (.int x5)]) (st' := [.ref 161]) (S1 := zS c (zsi s23 176 5 r20)) rfl ?_
  refine zq_get rfl (zh_161 _) rfl rfl rfl ?_
  refine zr_many 3 (pc' := 95) (L' := [some (.ref 161), some (.ref m1), none, none, some (.int x4), some (.int x5)]) (st' := [.int (9 : Int32), .ref m1, .int (6 : Int32), .ref 176]) (S1 := zS c (zsi s23 176 5 r20)) rfl ?_
  refine zq_ild rfl (zhR hm1 _) (zR_lt hm1) (by decide) rfl ?_
  refine zr_many 1 (pc' := 98) (L' := [some (.ref 161), some (.ref m1), none, none, some (.int x4), some (.int x5)]) (st' := [.int (60 : Int32), .int ((zsi s23 176 5 r20).1 m1 9), .int (6 : Int32), .ref 176]) (S1 := zS c (zsi s23 176 5 r20)) rfl ?_
  refine zq_irem rfl (by decide) rfl ?_
  obtain ⟨s26, e27, h⟩ := zt_in h
  rw [← e27]
  refine zq_ist rfl zh_176 rfl (by decide) rfl ?_
  refine zr_many 1 (pc' := 101) (L' := [some (.ref 161), some (.ref m1), none, none, some (.int x4), some (.int x5)]) (st' := [.ref 161]) (S1 := zS c (zsi s26 176 6 ((s26.1 m1 9) - (s26.1 m1 9) / (60 : Int32) * (60 : Int32)))) rfl ?_
  obtain ⟨r28, s29, g30, h⟩ := zb_inv h
  refine zq_call1 rfl rfl (zh_161 _) rfl rfl rfl (tX12_ruled g30) rfl ?_
  obtain ⟨rfl, rfl⟩ := Prod.mk.inj (Option.some.inj h)
  exact zq_iret rfl
def fX12_minutes (n : Nat) (s : zs) (m1 : Nat) (x2 : Int32) (x3 : Int32) (x4 : Int32) : Option (Int32 × zs) := zp (fX12_crew n s m1 x2) (fun r1 => cond (zi_in x3 8) (zp (fX12_tiredAll n (zsi s 176 0 (s.1 164 x3.toNatClampNeg)) m1 r1) (fun r5 => zt (zsi s 176 0 (s.1 164 x3.toNatClampNeg)) (fun s8 => cond (zi_in x2 4) (zt (zsi s8 176 1 r5) (fun s11 => cond (zi_in x3 42) (if ¬ ((zsi s11 176 2 (s11.1 168 x2.toNatClampNeg)).1 m1 x3.toNatClampNeg) = x4 then fX12_minutes_J63 n (zsi s11 176 2 (s11.1 168 x2.toNatClampNeg)) m1 x4 r1 (3 : Int32) (0 : Int32) else fX12_minutes_J63 n (zsi s11 176 2 (s11.1 168 x2.toNatClampNeg)) m1 x4 r1 (3 : Int32) (1 : Int32)) none)) none))) none)
theorem tX12_minutes {n : Nat} {c : Nat × Nat} {s : zs} {m1 : Nat} {x2 : Int32} {x3 : Int32} {x4 : Int32} {r : Int32} {s' : zs} (hm1 : zR m1) (h : fX12_minutes n s m1 x2 x3 x4 = some (r, s')) : zc 4 2442 [.ref 161, .ref m1, .int x2, .int x3, .int x4] (zS c s) (some (.int r)) (zS c s') := by
  refine zc_of (k := kX12_minutes) (rt := 1) (L := [some (.ref 161), some (.ref m1), some (.int x2), some (.int x3), some (.int x4), none]) zm_2442.1 rfl rfl (by decide) rfl rfl ?_
  unfold fX12_minutes at h
  refine zr_many 3 (pc' := 3) (L' := [some (.ref 161), some (.ref m1), some (.int x2), some (.int x3), some (.int x4), none]) (st' := [.int x2, .ref m1, .ref 161]) (S1 := zS c s) rfl ?_
  obtain ⟨r1, g3, h⟩ := zp_inv h
  refine zq_call1 rfl rfl (zh_161 _) rfl rfl rfl ((tX12_crew hm1 g3).up (by decide)) rfl ?_
  refine zr_many 2 (pc' := 9) (L' := [some (.ref 161), some (.ref m1), some (.int x2), some (.int x3), some (.int x4), some (.int r1)]) (st' := [.ref 161]) (S1 := zS c s) rfl ?_
  refine zq_get rfl (zh_161 _) rfl rfl rfl ?_
  refine zr_many 2 (pc' := 14) (L' := [some (.ref 161), some (.ref m1), some (.int x2), some (.int x3), some (.int x4), some (.int r1)]) (st' := [.ref 161, .int (0 : Int32), .ref 176]) (S1 := zS c s) rfl ?_
  refine zq_get rfl (zh_161 _) rfl rfl rfl ?_
  refine zr_many 1 (pc' := 18) (L' := [some (.ref 161), some (.ref m1), some (.int x2), some (.int x3), some (.int x4), some (.int r1)]) (st' := [.int x3, .ref 164, .int (0 : Int32), .ref 176]) (S1 := zS c s) rfl ?_
  obtain ⟨g4, h⟩ := zi_cond_inv h
  refine zq_ild rfl (zh_164 _) rfl g4 rfl ?_
  refine zq_ist rfl zh_176 rfl (by decide) rfl ?_
  refine zr_many 1 (pc' := 21) (L' := [some (.ref 161), some (.ref m1), some (.int x2), some (.int x3), some (.int x4), some (.int r1)]) (st' := [.ref 161]) (S1 := zS c (zsi s 176 0 (s.1 164 x3.toNatClampNeg))) rfl ?_
  refine zq_get rfl (zh_161 _) rfl rfl rfl ?_
  refine zr_many 4 (pc' := 29) (L' := [some (.ref 161), some (.ref m1), some (.int x2), some (.int x3), some (.int x4), some (.int r1)]) (st' := [.int r1, .ref m1, .ref 161, .int (1 : Int32), .ref 176]) (S1 := zS c (zsi s 176 0 (s.1 164 x3.toNatClampNeg))) rfl ?_
  obtain ⟨r5, g7, h⟩ := zp_inv h
  refine zq_call1 rfl rfl (zh_161 _) rfl rfl rfl ((tX12_tiredAll hm1 g7).up (by decide)) rfl ?_
  obtain ⟨s8, e9, h⟩ := zt_in h
  rw [← e9]
  refine zq_ist rfl zh_176 rfl (by decide) rfl ?_
  refine zr_many 1 (pc' := 34) (L' := [some (.ref 161), some (.ref m1), some (.int x2), some (.int x3), some (.int x4), some (.int r1)]) (st' := [.ref 161]) (S1 := zS c (zsi s8 176 1 r5)) rfl ?_
  refine zq_get rfl (zh_161 _) rfl rfl rfl ?_
  refine zr_many 2 (pc' := 39) (L' := [some (.ref 161), some (.ref m1), some (.int x2), some (.int x3), some (.int x4), some (.int r1)]) (st' := [.ref 161, .int (2 : Int32), .ref 176]) (S1 := zS c (zsi s8 176 1 r5)) rfl ?_
  refine zq_get rfl (zh_161 _) rfl rfl rfl ?_
  refine zr_many 1 (pc' := 43) (L' := [some (.ref 161), some (.ref m1), some (.int x2), some (.int x3), some (.int x4), some (.int r1)]) (st' := [.int x2, .ref 168, .int (2 : Int32), .ref 176]) (S1 := zS c (zsi s8 176 1 r5)) rfl ?_
  obtain ⟨g10, h⟩ := zi_cond_inv h
  refine zq_ild rfl (zh_168 _) rfl g10 rfl ?_
  obtain ⟨s11, e12, h⟩ := zt_in h
  rw [← e12]
  refine zq_ist rfl zh_176 rfl (by decide) rfl ?_
  refine zr_many 1 (pc' := 46) (L' := [some (.ref 161), some (.ref m1), some (.int x2), some (.int x3), some (.int x4), some (.int r1)]) (st' := [.ref 161]) (S1 := zS c (zsi s11 176 2 (s11.1 168 x2.toNatClampNeg))) rfl ?_
  refine zq_get rfl (zh_161 _) rfl rfl rfl ?_
  refine zr_many 3 (pc' := 52) (L' := [some (.ref 161), some (.ref m1), some (.int x2), some (.int x3), some (.int x4), some (.int r1)]) (st' := [.int x3, .ref m1, .int (3 : Int32), .ref 176]) (S1 := zS c (zsi s11 176 2 (s11.1 168 x2.toNatClampNeg))) rfl ?_
  obtain ⟨g13, h⟩ := zi_cond_inv h
  refine zq_ild rfl (zhR hm1 _) (zR_lt hm1) g13 rfl ?_
  refine zr_many 1 (pc' := 55) (L' := [some (.ref 161), some (.ref m1), some (.int x2), some (.int x3), some (.int x4), some (.int r1)]) (st' := [.int x4, .int ((zsi s11 176 2 (s11.1 168 x2.toNatClampNeg)).1 m1 x3.toNatClampNeg), .int (3 : Int32), .ref 176]) (S1 := zS c (zsi s11 176 2 (s11.1 168 x2.toNatClampNeg))) rfl ?_
  refine zq_if2 (b := ¬ ((zsi s11 176 2 (s11.1 168 x2.toNatClampNeg)).1 m1 x3.toNatClampNeg) = x4) rfl Iff.rfl rfl (fun g14 => ?_) (fun g14 => ?_)
  · rw [if_pos g14] at h
    refine zr_many 1 (pc' := 63) (L' := [some (.ref 161), some (.ref m1), some (.int x2), some (.int x3), some (.int x4), some (.int r1)]) (st' := [.int (0 : Int32), .int (3 : Int32), .ref 176]) (S1 := zS c (zsi s11 176 2 (s11.1 168 x2.toNatClampNeg))) rfl ?_
    exact zr_wk [some (.ref 161), some (.ref m1), none, none, some (.int x4), some (.int r1)] ⟨rfl, rfl, rfl, rfl, trivial⟩ (tX12_minutes_J63 hm1 h)
  · rw [if_neg g14] at h
    refine zr_many 2 (pc' := 63) (L' := [some (.ref 161), some (.ref m1), some (.int x2), some (.int x3), some (.int x4), some (.int r1)]) (st' := [.int (1 : Int32), .int (3 : Int32), .ref 176]) (S1 := zS c (zsi s11 176 2 (s11.1 168 x2.toNatClampNeg))) rfl ?_
    exact zr_wk [some (.ref 161), some (.ref m1), none, none, some (.int x4), some (.int r1)] ⟨rfl, rfl, rfl, rfl, trivial⟩ (tX12_minutes_J63 hm1 h)
def fX12_laysNotes_B2 (n : Nat) (x1 : Int32) (x2 : Int32) (w2 : Int32 × zs) : Option ((Int32 × zs) ⊕ (zs)) := if (4 : Int32) ≤ w2.1 then some (Sum.inr w2.2) else cond (zi_in (((4 : Int32) * x1) + w2.1) 32) (cond (zi_in w2.1 4) (some (Sum.inl ((w2.1 + (1 : Int32)), (zsi w2.2 177 w2.1.toNatClampNeg ((w2.2.1 163 (((4 : Int32) * x1) + w2.1).toNatClampNeg) + x2))))) none) none
theorem tX12_laysNotes_B2 {n : Nat} {c : Nat × Nat} {x1 : Int32} {x2 : Int32} {w2 : Int32 × zs} {o : _} {v : Option Value} {S' : zi_S} (h : fX12_laysNotes_B2 n x1 x2 w2 = some o) (hn : ∀ w2, o = Sum.inl w2 → zr kX12_laysNotes 0 0 2 [some (.ref 161), some (.int x1), some (.int x2), some (.int w2.1)] [] (zS c w2.2) v S') (hx : ∀ z, o = Sum.inr z → (fun z => zr kX12_laysNotes 0 0 31 [none, none, none, none] [] (zS c z) v S') z) : zr kX12_laysNotes 0 0 2 [some (.ref 161), some (.int x1), some (.int x2), some (.int w2.1)] [] (zS c w2.2) v S' := by
  unfold fX12_laysNotes_B2 at h
  refine zr_many 2 (pc' := 4) (L' := [some (.ref 161), some (.int x1), some (.int x2), some (.int w2.1)]) (st' := [.int (4 : Int32), .int w2.1]) (S1 := zS c w2.2) rfl ?_
  refine zq_if2 (b := (4 : Int32) ≤ w2.1) rfl Iff.rfl rfl (fun g1 => ?_) (fun g1 => ?_)
  · rw [if_pos g1] at h
    obtain rfl := Option.some.inj h
    exact zr_wk [none, none, none, none] trivial (hx w2.2 rfl)
  · rw [if_neg g1] at h
    refine zr_many 1 (pc' := 8) (L' := [some (.ref 161), some (.int x1), some (.int x2), some (.int w2.1)]) (st' := [.ref 161]) (S1 := zS c w2.2) rfl ?_
    refine zq_get rfl (zh_161 _) rfl rfl rfl ?_
    refine zr_many 2 (pc' := 13) (L' := [some (.ref 161), some (.int x1), some (.int x2), some (.int w2.1)]) (st' := [.ref 161, .int w2.1, .ref 177]) (S1 := zS c w2.2) rfl ?_
    refine zq_get rfl (zh_161 _) rfl rfl rfl ?_
    refine zr_many 5 (pc' := 21) (L' := [some (.ref 161), some (.int x1), some (.int x2), some (.int w2.1)]) (st' := [.int (((4 : Int32) * x1) + w2.1), .ref 163, .int w2.1, .ref 177]) (S1 := zS c w2.2) rfl ?_
    obtain ⟨g2, h⟩ := zi_cond_inv h
    refine zq_ild rfl (zh_163 _) rfl g2 rfl ?_
    refine zr_many 2 (pc' := 24) (L' := [some (.ref 161), some (.int x1), some (.int x2), some (.int w2.1)]) (st' := [.int ((w2.2.1 163 (((4 : Int32) * x1) + w2.1).toNatClampNeg) + x2), .int w2.1, .ref 177]) (S1 := zS c w2.2) rfl ?_
    obtain ⟨g3, h⟩ := zi_cond_inv h
    refine zq_ist rfl zh_177 rfl g3 rfl ?_
    refine zr_many 2 (pc' := 2) (L' := [some (.ref 161), some (.int x1), some (.int x2), some (.int (w2.1 + (1 : Int32)))]) (st' := []) (S1 := zS c (zsi w2.2 177 w2.1.toNatClampNeg ((w2.2.1 163 (((4 : Int32) * x1) + w2.1).toNatClampNeg) + x2))) rfl ?_
    obtain rfl := Option.some.inj h
    exact zr_wk [some (.ref 161), some (.int x1), some (.int x2), some (.int (w2.1 + (1 : Int32)))] ⟨rfl, rfl, rfl, rfl, trivial⟩ (hn ((w2.1 + (1 : Int32)), (zsi w2.2 177 w2.1.toNatClampNeg ((w2.2.1 163 (((4 : Int32) * x1) + w2.1).toNatClampNeg) + x2))) rfl)
def fX12_laysNotes (n : Nat) (s : zs) (x1 : Int32) (x2 : Int32) : Option zs := zp (zl (fX12_laysNotes_B2 n x1 x2) n ((0 : Int32), s)) (fun w4 => some w4)
theorem tX12_laysNotes {n : Nat} {c : Nat × Nat} {s : zs} {x1 : Int32} {x2 : Int32} {s' : zs} (h : fX12_laysNotes n s x1 x2 = some s') : zc 1 2443 [.ref 161, .int x1, .int x2] (zS c s) none (zS c s') := by
  refine zc_of (k := kX12_laysNotes) (rt := 0) (L := [some (.ref 161), some (.int x1), some (.int x2), none]) zm_2443.1 rfl rfl (by decide) rfl rfl ?_
  unfold fX12_laysNotes at h
  refine zr_many 2 (pc' := 2) (L' := [some (.ref 161), some (.int x1), some (.int x2), some (.int (0 : Int32))]) (st' := []) (S1 := zS c s) rfl ?_
  obtain ⟨w4, g5, h⟩ := zp_inv h
  refine zr_wk [some (.ref 161), some (.int x1), some (.int x2), some (.int (0 : Int32))] ⟨rfl, rfl, rfl, rfl, trivial⟩ (zl_cert (Z := fun w2 => zr kX12_laysNotes 0 0 2 [some (.ref 161), some (.int x1), some (.int x2), some (.int w2.1)] [] (zS c w2.2) _ _) (Y := (fun z => zr kX12_laysNotes 0 0 31 [none, none, none, none] [] (zS c z) _ _)) (fun w o h1 h2 h3 => tX12_laysNotes_B2 h1 h2 h3) n _ _ g5 ?_)
  show zr kX12_laysNotes 0 0 31 [none, none, none, none] [] (zS c w4) _ _
  obtain rfl := Option.some.inj h
  exact zq_vret rfl
def fX12_canSing_J44 (n : Nat) (s : zs) (y0 : Int32) : Option Int32 := if y0 = 0 ∨ y0 = 1 then some y0 else none
theorem tX12_canSing_J44 {n : Nat} {c : Nat × Nat} {s : zs} {y0 : Int32} {r : Int32} (h : fX12_canSing_J44 n s y0 = some r) : zr kX12_canSing 2 1 44 [none, none, none, none] [.int y0] (zS c s) (some (.int r)) (zS c s) := by
  unfold fX12_canSing_J44 at h
  obtain ⟨gz, h⟩ := zt_inv h
  obtain rfl := Option.some.inj h
  exact zq_zret rfl gz
def fX12_canSing_J43 (n : Nat) (s : zs) : Option Int32 := fX12_canSing_J44 n s (0 : Int32)
theorem tX12_canSing_J43 {n : Nat} {c : Nat × Nat} {s : zs} {r : Int32} (h : fX12_canSing_J43 n s = some r) : zr kX12_canSing 2 1 43 [none, none, none, none] [] (zS c s) (some (.int r)) (zS c s) := by
  unfold fX12_canSing_J43 at h
  refine zr_many 1 (pc' := 44) (L' := [none, none, none, none]) (st' := [.int (0 : Int32)]) (S1 := zS c s) rfl ?_
  exact zr_wk [none, none, none, none] trivial (tX12_canSing_J44 h)
def fX12_canSing (n : Nat) (s : zs) (m1 : Nat) (x2 : Int32) (x3 : Int32) : Option Int32 := zp (fX12_has n s (s.1 161 6) x3) (fun r1 => if ¬ r1 = 0 then fX12_canSing_J43 n s else cond (zi_in x2 8) (cond (zi_in x2 8) (zp (fX12_tiredOf n s m1 x2) (fun r7 => zp (fX12_in n s x3.toInt64 ((s.1 165 x2.toNatClampNeg).toInt64) (((s.1 166 x2.toNatClampNeg) - r7).toInt64)) (fun r10 => if r10 = 0 then fX12_canSing_J43 n s else fX12_canSing_J44 n s (1 : Int32)))) none) none)
theorem tX12_canSing {n : Nat} {c : Nat × Nat} {s : zs} {m1 : Nat} {x2 : Int32} {x3 : Int32} {r : Int32} (hm1 : zR m1) (h : fX12_canSing n s m1 x2 x3 = some r) : zc 2 2444 [.ref 161, .ref m1, .int x2, .int x3] (zS c s) (some (.int r)) (zS c s) := by
  refine zc_of (k := kX12_canSing) (rt := 2) (L := [some (.ref 161), some (.ref m1), some (.int x2), some (.int x3)]) zm_2444.1 rfl rfl (by decide) rfl rfl ?_
  unfold fX12_canSing at h
  refine zr_many 1 (pc' := 1) (L' := [some (.ref 161), some (.ref m1), some (.int x2), some (.int x3)]) (st' := [.ref 161]) (S1 := zS c s) rfl ?_
  refine zq_get rfl (zh_161 _) rfl rfl rfl ?_
  refine zr_many 1 (pc' := 5) (L' := [some (.ref 161), some (.ref m1), some (.int x2), some (.int x3)]) (st' := [.int x3, .int (s.1 161 6)]) (S1 := zS c s) rfl ?_
  obtain ⟨r1, g3, h⟩ := zp_inv h
  refine zq_scall1 rfl (by decide) rfl rfl (tX12_has g3) rfl ?_
  refine zq_if1 (b := ¬ r1 = 0) rfl Iff.rfl rfl (fun g4 => ?_) (fun g4 => ?_)
  · rw [if_pos g4] at h
    exact zr_wk [none, none, none, none] trivial (tX12_canSing_J43 h)
  · rw [if_neg g4] at h
    refine zr_many 3 (pc' := 14) (L' := [some (.ref 161), some (.ref m1), some (.int x2), some (.int x3)]) (st' := [.ref 161, .long x3.toInt64]) (S1 := zS c s) rfl ?_
    refine zq_get rfl (zh_161 _) rfl rfl rfl ?_
    refine zr_many 1 (pc' := 18) (L' := [some (.ref 161), some (.ref m1), some (.int x2), some (.int x3)]) (st' := [.int x2, .ref 165, .long x3.toInt64]) (S1 := zS c s) rfl ?_
    obtain ⟨g5, h⟩ := zi_cond_inv h
    refine zq_ild rfl (zh_165 _) rfl g5 rfl ?_
    refine zr_many 2 (pc' := 21) (L' := [some (.ref 161), some (.ref m1), some (.int x2), some (.int x3)]) (st' := [.ref 161, .long (s.1 165 x2.toNatClampNeg).toInt64, .long x3.toInt64]) (S1 := zS c s) rfl ?_
    refine zq_get rfl (zh_161 _) rfl rfl rfl ?_
    refine zr_many 1 (pc' := 25) (L' := [some (.ref 161), some (.ref m1), some (.int x2), some (.int x3)]) (st' := [.int x2, .ref 166, .long (s.1 165 x2.toNatClampNeg).toInt64, .long x3.toInt64]) (S1 := zS c s) rfl ?_
    obtain ⟨g6, h⟩ := zi_cond_inv h
    refine zq_ild rfl (zh_166 _) rfl g6 rfl ?_
    refine zr_many 2 (pc' := 28) (L' := [some (.ref 161), some (.ref m1), some (.int x2), some (.int x3)]) (st' := [.int x2, .ref m1, .int (s.1 166 x2.toNatClampNeg), .long (s.1 165 x2.toNatClampNeg).toInt64, .long x3.toInt64]) (S1 := zS c s) rfl ?_
    obtain ⟨r7, g9, h⟩ := zp_inv h
    refine zq_scall1 rfl (by decide) rfl rfl (tX12_tiredOf hm1 g9) rfl ?_
    refine zr_many 2 (pc' := 33) (L' := [some (.ref 161), some (.ref m1), some (.int x2), some (.int x3)]) (st' := [.long ((s.1 166 x2.toNatClampNeg) - r7).toInt64, .long (s.1 165 x2.toNatClampNeg).toInt64, .long x3.toInt64]) (S1 := zS c s) rfl ?_
    obtain ⟨r10, g12, h⟩ := zp_inv h
    refine zq_scall1 rfl (by decide) rfl rfl (tX12_in g12) rfl ?_
    refine zq_if1 (b := r10 = 0) rfl Iff.rfl rfl (fun g13 => ?_) (fun g13 => ?_)
    · rw [if_pos g13] at h
      exact zr_wk [none, none, none, none] trivial (tX12_canSing_J43 h)
    · rw [if_neg g13] at h
      refine zr_many 2 (pc' := 44) (L' := [some (.ref 161), some (.ref m1), some (.int x2), some (.int x3)]) (st' := [.int (1 : Int32)]) (S1 := zS c s) rfl ?_
      exact zr_wk [none, none, none, none] trivial (tX12_canSing_J44 h)
def fX12_singsFrom_J99 (n : Nat) (rc0 : zs → Nat → Int32 → Int32 → Int32 → Option (Int32 × zs)) (s : zs) (m1 : Nat) (x2 : Int32) (x3 : Int32) (x4 : Int32) (x5 : Int32) : Option ((Int32 × zs) ⊕ ((zs) ⊕ (zs))) := some (Sum.inl ((x5 + (1 : Int32)), s))
theorem tX12_singsFrom_J99 {n : Nat} {rc0 : zs → Nat → Int32 → Int32 → Int32 → Option (Int32 × zs)} {d : Nat} (hd : 2 ≤ d) (hrc0 : ∀ {c : Nat × Nat} {s : zs} {a1 : Nat} {a2 : Int32} {a3 : Int32} {a4 : Int32} {r : Int32} {s' : zs}, zR a1 → rc0 s a1 a2 a3 a4 = some (r, s') → zc d 2445 [.ref 161, .ref a1, .int a2, .int a3, .int a4] (zS c s) (some (.int r)) (zS c s')) {c : Nat × Nat} {s : zs} {m1 : Nat} {x2 : Int32} {x3 : Int32} {x4 : Int32} {x5 : Int32} {o : _} {v : Option Value} {S' : zi_S} (hm1 : zR m1) (h : fX12_singsFrom_J99 n rc0 s m1 x2 x3 x4 x5 = some o) (hn : ∀ w32, o = Sum.inl w32 → zr kX12_singsFrom 2 d 32 [some (.ref 161), some (.ref m1), some (.int x2), some (.int x3), some (.int x4), some (.int w32.1)] [] (zS c w32.2) v S') (hx : ∀ z, o = Sum.inr z → (Sum.elim (fun z => zr kX12_singsFrom 2 d 97 [none, none, none, none, none, none] [] (zS c z) v S') (fun z => zr kX12_singsFrom 2 d 105 [none, none, none, none, none, none] [] (zS c z) v S')) z) : zr kX12_singsFrom 2 d 99 [some (.ref 161), some (.ref m1), some (.int x2), some (.int x3), some (.int x4), some (.int x5)] [] (zS c s) v S' := by
  unfold fX12_singsFrom_J99 at h
  refine zr_many 2 (pc' := 32) (L' := [some (.ref 161), some (.ref m1), some (.int x2), some (.int x3), some (.int x4), some (.int (x5 + (1 : Int32)))]) (st' := []) (S1 := zS c s) rfl ?_
  obtain rfl := Option.some.inj h
  exact zr_wk [some (.ref 161), some (.ref m1), some (.int x2), some (.int x3), some (.int x4), some (.int (x5 + (1 : Int32)))] ⟨rfl, rfl, rfl, rfl, rfl, rfl, trivial⟩ (hn ((x5 + (1 : Int32)), s) rfl)
def fX12_singsFrom_B32 (n : Nat) (rc0 : zs → Nat → Int32 → Int32 → Int32 → Option (Int32 × zs)) (m1 : Nat) (x2 : Int32) (x3 : Int32) (x4 : Int32) (w32 : Int32 × zs) : Option ((Int32 × zs) ⊕ ((zs) ⊕ (zs))) := if (w32.2.1 161 4) ≤ w32.1 then some (Sum.inr (Sum.inr w32.2)) else zp (fX12_has n w32.2 x2 w32.1) (fun r7 => if r7 = 0 then fX12_singsFrom_J99 n rc0 w32.2 m1 x2 x3 x4 w32.1 else cond (zi_in x4 4) (zp (fX12_canSing n w32.2 m1 w32.1 (w32.2.1 177 x4.toNatClampNeg)) (fun r12 => if r12 = 0 then fX12_singsFrom_J99 n rc0 w32.2 m1 x2 x3 x4 w32.1 else cond (zi_in x4 4) (zb (rc0 (zsi w32.2 178 x4.toNatClampNeg w32.1) m1 (x2 &&& (((1 : Int32) <<< (w32.1 &&& 31)) ^^^ (-1 : Int32))) x3 (x4 + (1 : Int32))) (fun r16 s17 => if r16 = 0 then fX12_singsFrom_J99 n rc0 s17 m1 x2 x3 x4 w32.1 else some (Sum.inr (Sum.inl s17)))) none)) none)
theorem tX12_singsFrom_B32 {n : Nat} {rc0 : zs → Nat → Int32 → Int32 → Int32 → Option (Int32 × zs)} {d : Nat} (hd : 2 ≤ d) (hrc0 : ∀ {c : Nat × Nat} {s : zs} {a1 : Nat} {a2 : Int32} {a3 : Int32} {a4 : Int32} {r : Int32} {s' : zs}, zR a1 → rc0 s a1 a2 a3 a4 = some (r, s') → zc d 2445 [.ref 161, .ref a1, .int a2, .int a3, .int a4] (zS c s) (some (.int r)) (zS c s')) {c : Nat × Nat} {m1 : Nat} {x2 : Int32} {x3 : Int32} {x4 : Int32} {w32 : Int32 × zs} {o : _} {v : Option Value} {S' : zi_S} (hm1 : zR m1) (h : fX12_singsFrom_B32 n rc0 m1 x2 x3 x4 w32 = some o) (hn : ∀ w32, o = Sum.inl w32 → zr kX12_singsFrom 2 d 32 [some (.ref 161), some (.ref m1), some (.int x2), some (.int x3), some (.int x4), some (.int w32.1)] [] (zS c w32.2) v S') (hx : ∀ z, o = Sum.inr z → (Sum.elim (fun z => zr kX12_singsFrom 2 d 97 [none, none, none, none, none, none] [] (zS c z) v S') (fun z => zr kX12_singsFrom 2 d 105 [none, none, none, none, none, none] [] (zS c z) v S')) z) : zr kX12_singsFrom 2 d 32 [some (.ref 161), some (.ref m1), some (.int x2), some (.int x3), some (.int x4), some (.int w32.1)] [] (zS c w32.2) v S' := by
  unfold fX12_singsFrom_B32 at h
  refine zr_many 2 (pc' := 35) (L' := [some (.ref 161), some (.ref m1), some (.int x2), some (.int x3), some (.int x4), some (.int w32.1)]) (st' := [.ref 161, .int w32.1]) (S1 := zS c w32.2) rfl ?_
  refine zq_get rfl (zh_161 _) rfl rfl rfl ?_
  refine zq_if2 (b := (w32.2.1 161 4) ≤ w32.1) rfl Iff.rfl rfl (fun g6 => ?_) (fun g6 => ?_)
  · rw [if_pos g6] at h
    obtain rfl := Option.some.inj h
    exact zr_wk [none, none, none, none, none, none] trivial (hx (Sum.inr w32.2) rfl)
  · rw [if_neg g6] at h
    refine zr_many 2 (pc' := 44) (L' := [some (.ref 161), some (.ref m1), some (.int x2), some (.int x3), some (.int x4), some (.int w32.1)]) (st' := [.int w32.1, .int x2]) (S1 := zS c w32.2) rfl ?_
    obtain ⟨r7, g9, h⟩ := zp_inv h
    refine zq_scall1 rfl (by decide) rfl rfl ((tX12_has g9).up (by omega)) rfl ?_
    refine zq_if1 (b := r7 = 0) rfl Iff.rfl rfl (fun g10 => ?_) (fun g10 => ?_)
    · rw [if_pos g10] at h
      exact zr_wk [some (.ref 161), some (.ref m1), some (.int x2), some (.int x3), some (.int x4), some (.int w32.1)] ⟨rfl, rfl, rfl, rfl, rfl, rfl, trivial⟩ (tX12_singsFrom_J99 hd hrc0 hm1 h hn hx)
    · rw [if_neg g10] at h
      refine zr_many 4 (pc' := 55) (L' := [some (.ref 161), some (.ref m1), some (.int x2), some (.int x3), some (.int x4), some (.int w32.1)]) (st' := [.ref 161, .int w32.1, .ref m1, .ref 161]) (S1 := zS c w32.2) rfl ?_
      refine zq_get rfl (zh_161 _) rfl rfl rfl ?_
      refine zr_many 1 (pc' := 60) (L' := [some (.ref 161), some (.ref m1), some (.int x2), some (.int x3), some (.int x4), some (.int w32.1)]) (st' := [.int x4, .ref 177, .int w32.1, .ref m1, .ref 161]) (S1 := zS c w32.2) rfl ?_
      obtain ⟨g11, h⟩ := zi_cond_inv h
      refine zq_ild rfl (zh_177 _) rfl g11 rfl ?_
      obtain ⟨r12, g14, h⟩ := zp_inv h
      refine zq_call1 rfl rfl (zh_161 _) rfl rfl rfl ((tX12_canSing hm1 g14).up (by omega)) rfl ?_
      refine zq_if1 (b := r12 = 0) rfl Iff.rfl rfl (fun g15 => ?_) (fun g15 => ?_)
      · rw [if_pos g15] at h
        exact zr_wk [some (.ref 161), some (.ref m1), some (.int x2), some (.int x3), some (.int x4), some (.int w32.1)] ⟨rfl, rfl, rfl, rfl, rfl, rfl, trivial⟩ (tX12_singsFrom_J99 hd hrc0 hm1 h hn hx)
      · rw [if_neg g15] at h
        refine zr_many 1 (pc' := 68) (L' := [some (.ref 161), some (.ref m1), some (.int x2), some (.int x3), some (.int x4), some (.int w32.1)]) (st' := [.ref 161]) (S1 := zS c w32.2) rfl ?_
        refine zq_get rfl (zh_161 _) rfl rfl rfl ?_
        refine zr_many 2 (pc' := 75) (L' := [some (.ref 161), some (.ref m1), some (.int x2), some (.int x3), some (.int x4), some (.int w32.1)]) (st' := [.int w32.1, .int x4, .ref 178]) (S1 := zS c w32.2) rfl ?_
        obtain ⟨g20, h⟩ := zi_cond_inv h
        refine zq_ist rfl zh_178 rfl g20 rfl ?_
        refine zr_many 13 (pc' := 91) (L' := [some (.ref 161), some (.ref m1), some (.int x2), some (.int x3), some (.int x4), some (.int w32.1)]) (st' := [.int (x4 + (1 : Int32)), .int x3, .int (x2 &&& (((1 : Int32) <<< (w32.1 &&& 31)) ^^^ (-1 : Int32))), .ref m1, .ref 161]) (S1 := zS c (zsi w32.2 178 x4.toNatClampNeg w32.1)) rfl ?_
        obtain ⟨r16, s17, g18, h⟩ := zb_inv h
        refine zq_call1 rfl rfl (zh_161 _) rfl rfl rfl (hrc0 hm1 g18) rfl ?_
        refine zq_if1 (b := r16 = 0) rfl Iff.rfl rfl (fun g19 => ?_) (fun g19 => ?_)
        · rw [if_pos g19] at h
          exact zr_wk [some (.ref 161), some (.ref m1), some (.int x2), some (.int x3), some (.int x4), some (.int w32.1)] ⟨rfl, rfl, rfl, rfl, rfl, rfl, trivial⟩ (tX12_singsFrom_J99 hd hrc0 hm1 h hn hx)
        · rw [if_neg g19] at h
          obtain rfl := Option.some.inj h
          exact zr_wk [none, none, none, none, none, none] trivial (hx (Sum.inl s17) rfl)
def fX12_singsFrom_M (n : Nat) (rc0 : zs → Nat → Int32 → Int32 → Int32 → Option (Int32 × zs)) (s : zs) (m1 : Nat) (x2 : Int32) (x3 : Int32) (x4 : Int32) : Option (Int32 × zs) := if ¬ x4 = (4 : Int32) then zp (fX12_has n s x3 x4) (fun r2 => if ¬ r2 = 0 then zp (zl (fX12_singsFrom_B32 n rc0 m1 x2 x3 x4) n ((0 : Int32), s)) (Sum.elim (fun w21 => some ((1 : Int32), w21)) (fun w22 => some ((0 : Int32), w22))) else zb (rc0 s m1 x2 x3 (x4 + (1 : Int32))) (fun r24 s25 => if r24 = 0 ∨ r24 = 1 then some (r24, s25) else none)) else some ((1 : Int32), s)
theorem tX12_singsFrom_M {n : Nat} {rc0 : zs → Nat → Int32 → Int32 → Int32 → Option (Int32 × zs)} {d : Nat} (hd : 2 ≤ d) (hrc0 : ∀ {c : Nat × Nat} {s : zs} {a1 : Nat} {a2 : Int32} {a3 : Int32} {a4 : Int32} {r : Int32} {s' : zs}, zR a1 → rc0 s a1 a2 a3 a4 = some (r, s') → zc d 2445 [.ref 161, .ref a1, .int a2, .int a3, .int a4] (zS c s) (some (.int r)) (zS c s')) {c : Nat × Nat} {s : zs} {m1 : Nat} {x2 : Int32} {x3 : Int32} {x4 : Int32} {r : Int32} {s' : zs} (hm1 : zR m1) (h : fX12_singsFrom_M n rc0 s m1 x2 x3 x4 = some (r, s')) : zc (d + 1) 2445 [.ref 161, .ref m1, .int x2, .int x3, .int x4] (zS c s) (some (.int r)) (zS c s') := by
  refine zc_of (k := kX12_singsFrom) (rt := 2) (L := [some (.ref 161), some (.ref m1), some (.int x2), some (.int x3), some (.int x4), none]) zm_2445.1 rfl rfl (by decide) rfl rfl ?_
  unfold fX12_singsFrom_M at h
  refine zr_many 2 (pc' := 3) (L' := [some (.ref 161), some (.ref m1), some (.int x2), some (.int x3), some (.int x4), none]) (st' := [.int (4 : Int32), .int x4]) (S1 := zS c s) rfl ?_
  refine zq_if2 (b := ¬ x4 = (4 : Int32)) rfl Iff.rfl rfl (fun g1 => ?_) (fun g1 => ?_)
  · rw [if_pos g1] at h
    refine zr_many 2 (pc' := 11) (L' := [some (.ref 161), some (.ref m1), some (.int x2), some (.int x3), some (.int x4), none]) (st' := [.int x4, .int x3]) (S1 := zS c s) rfl ?_
    obtain ⟨r2, g4, h⟩ := zp_inv h
    refine zq_scall1 rfl (by decide) rfl rfl ((tX12_has g4).up (by omega)) rfl ?_
    refine zq_if1 (b := ¬ r2 = 0) rfl Iff.rfl rfl (fun g5 => ?_) (fun g5 => ?_)
    · rw [if_pos g5] at h
      refine zr_many 2 (pc' := 32) (L' := [some (.ref 161), some (.ref m1), some (.int x2), some (.int x3), some (.int x4), some (.int (0 : Int32))]) (st' := []) (S1 := zS c s) rfl ?_
      obtain ⟨w27, g23, h⟩ := zp_inv h
      rcases w27 with w21 | w22
      · simp only [Sum.elim_inl, Sum.elim_inr] at h
        refine zr_wk [some (.ref 161), some (.ref m1), some (.int x2), some (.int x3), some (.int x4), some (.int (0 : Int32))] ⟨rfl, rfl, rfl, rfl, rfl, rfl, trivial⟩ (zl_cert (Z := fun w32 => zr kX12_singsFrom 2 d 32 [some (.ref 161), some (.ref m1), some (.int x2), some (.int x3), some (.int x4), some (.int w32.1)] [] (zS c w32.2) _ _) (Y := (Sum.elim (fun z => zr kX12_singsFrom 2 d 97 [none, none, none, none, none, none] [] (zS c z) _ _) (fun z => zr kX12_singsFrom 2 d 105 [none, none, none, none, none, none] [] (zS c z) _ _))) (fun w o h1 h2 h3 => tX12_singsFrom_B32 hd hrc0 hm1 h1 h2 h3) n _ _ g23 ?_)
        show zr kX12_singsFrom 2 d 97 [none, none, none, none, none, none] [] (zS c w21) _ _
        refine zr_many 1 (pc' := 98) (L' := [none, none, none, none, none, none]) (st' := [.int (1 : Int32)]) (S1 := zS c w21) rfl ?_
        obtain ⟨rfl, rfl⟩ := Prod.mk.inj (Option.some.inj h)
        exact zq_zret rfl (by decide)
      · simp only [Sum.elim_inl, Sum.elim_inr] at h
        refine zr_wk [some (.ref 161), some (.ref m1), some (.int x2), some (.int x3), some (.int x4), some (.int (0 : Int32))] ⟨rfl, rfl, rfl, rfl, rfl, rfl, trivial⟩ (zl_cert (Z := fun w32 => zr kX12_singsFrom 2 d 32 [some (.ref 161), some (.ref m1), some (.int x2), some (.int x3), some (.int x4), some (.int w32.1)] [] (zS c w32.2) _ _) (Y := (Sum.elim (fun z => zr kX12_singsFrom 2 d 97 [none, none, none, none, none, none] [] (zS c z) _ _) (fun z => zr kX12_singsFrom 2 d 105 [none, none, none, none, none, none] [] (zS c z) _ _))) (fun w o h1 h2 h3 => tX12_singsFrom_B32 hd hrc0 hm1 h1 h2 h3) n _ _ g23 ?_)
        show zr kX12_singsFrom 2 d 105 [none, none, none, none, none, none] [] (zS c w22) _ _
        refine zr_many 1 (pc' := 106) (L' := [none, none, none, none, none, none]) (st' := [.int (0 : Int32)]) (S1 := zS c w22) rfl ?_
        obtain ⟨rfl, rfl⟩ := Prod.mk.inj (Option.some.inj h)
        exact zq_zret rfl (by decide)
    · rw [if_neg g5] at h
      refine zr_many 7 (pc' := 25) (L' := [some (.ref 161), some (.ref m1), some (.int x2), some (.int x3), some (.int x4), none]) (st' := [.int (x4 + (1 : Int32)), .int x3, .int x2, .ref m1, .ref 161]) (S1 := zS c s) rfl ?_
      obtain ⟨r24, s25, g26, h⟩ := zb_inv h
      refine zq_call1 rfl rfl (zh_161 _) rfl rfl rfl (hrc0 hm1 g26) rfl ?_
      obtain ⟨gz, h⟩ := zt_inv h
      obtain ⟨rfl, rfl⟩ := Prod.mk.inj (Option.some.inj h)
      exact zq_zret rfl gz
  · rw [if_neg g1] at h
    refine zr_many 1 (pc' := 7) (L' := [some (.ref 161), some (.ref m1), some (.int x2), some (.int x3), some (.int x4), none]) (st' := [.int (1 : Int32)]) (S1 := zS c s) rfl ?_
    obtain ⟨rfl, rfl⟩ := Prod.mk.inj (Option.some.inj h)
    exact zq_zret rfl (by decide)
def fX12_singsFrom (n : Nat) : Nat → zs → Nat → Int32 → Int32 → Int32 → Option (Int32 × zs)
  | 0 => fun _ _ _ _ _ => none
  | u + 1 => fun s a1 a2 a3 a4 => fX12_singsFrom_M n (fX12_singsFrom n u) s a1 a2 a3 a4
theorem tX12_singsFrom_u {n : Nat} : ∀ (u : Nat) {c : Nat × Nat} {s : zs} {a1 : Nat} {a2 : Int32} {a3 : Int32} {a4 : Int32} {r : Int32} {s' : zs}, zR a1 → fX12_singsFrom n u s a1 a2 a3 a4 = some (r, s') → zc (2 + 1 * u) 2445 [.ref 161, .ref a1, .int a2, .int a3, .int a4] (zS c s) (some (.int r)) (zS c s') := by
  intro u
  induction u with
  | zero => intros; rename_i h; cases h
  | succ u ih =>
    intro _ _ _ _ _ _ _ _ q0 h
    exact (tX12_singsFrom_M (d := 2 + 1 * u) (by omega) ih q0 h).up (by omega)
theorem tX12_singsFrom {n : Nat} : ∀ {c : Nat × Nat} {s : zs} {a1 : Nat} {a2 : Int32} {a3 : Int32} {a4 : Int32} {r : Int32} {s' : zs}, zR a1 → fX12_singsFrom n 6 s a1 a2 a3 a4 = some (r, s') → zc 8 2445 [.ref 161, .ref a1, .int a2, .int a3, .int a4] (zS c s) (some (.int r)) (zS c s') := tX12_singsFrom_u 6
def fX12_singsChord (n : Nat) (s : zs) (m1 : Nat) (x2 : Int32) (x3 : Int32) : Option (Int32 × zs) := zp (fX12_laysNotes n s x3 (0 : Int32)) (fun s2 => zb (fX12_singsFrom n 6 s2 m1 x2 (15 : Int32) (0 : Int32)) (fun r4 s5 => if r4 = 0 ∨ r4 = 1 then some (r4, s5) else none))
theorem tX12_singsChord {n : Nat} {c : Nat × Nat} {s : zs} {m1 : Nat} {x2 : Int32} {x3 : Int32} {r : Int32} {s' : zs} (hm1 : zR m1) (h : fX12_singsChord n s m1 x2 x3 = some (r, s')) : zc 9 2446 [.ref 161, .ref m1, .int x2, .int x3] (zS c s) (some (.int r)) (zS c s') := by
  refine zc_of (k := kX12_singsChord) (rt := 2) (L := [some (.ref 161), some (.ref m1), some (.int x2), some (.int x3)]) zm_2446.1 rfl rfl (by decide) rfl rfl ?_
  unfold fX12_singsChord at h
  refine zr_many 3 (pc' := 3) (L' := [some (.ref 161), some (.ref m1), some (.int x2), some (.int x3)]) (st' := [.int (0 : Int32), .int x3, .ref 161]) (S1 := zS c s) rfl ?_
  obtain ⟨s2, g3, h⟩ := zp_inv h
  refine zq_call0 rfl rfl (zh_161 _) rfl rfl rfl ((tX12_laysNotes g3).up (by decide)) rfl ?_
  refine zr_many 5 (pc' := 12) (L' := [some (.ref 161), some (.ref m1), some (.int x2), some (.int x3)]) (st' := [.int (0 : Int32), .int (15 : Int32), .int x2, .ref m1, .ref 161]) (S1 := zS c s2) rfl ?_
  obtain ⟨r4, s5, g6, h⟩ := zb_inv h
  refine zq_call1 rfl rfl (zh_161 _) rfl rfl rfl (tX12_singsFrom hm1 g6) rfl ?_
  obtain ⟨gz, h⟩ := zt_inv h
  obtain ⟨rfl, rfl⟩ := Prod.mk.inj (Option.some.inj h)
  exact zq_zret rfl gz
def fX12_tellsSung_B7 (n : Nat) (w7 : Int32 × zs) : Option ((Int32 × zs) ⊕ (zs)) := if (4 : Int32) ≤ w7.1 then some (Sum.inr w7.2) else cond (zi_in w7.1 4) (zp (fX12_enters n w7.2 ((w7.2.1 178 w7.1.toNatClampNeg).toInt64)) (fun s4 => some (Sum.inl ((w7.1 + (1 : Int32)), s4)))) none
theorem tX12_tellsSung_B7 {n : Nat} {c : Nat × Nat} {w7 : Int32 × zs} {o : _} {v : Option Value} {S' : zi_S} (h : fX12_tellsSung_B7 n w7 = some o) (hn : ∀ w7, o = Sum.inl w7 → zr kX12_tellsSung 0 1 7 [some (.ref 161), some (.int w7.1)] [] (zS c w7.2) v S') (hx : ∀ z, o = Sum.inr z → (fun z => zr kX12_tellsSung 0 1 29 [none, none] [] (zS c z) v S') z) : zr kX12_tellsSung 0 1 7 [some (.ref 161), some (.int w7.1)] [] (zS c w7.2) v S' := by
  unfold fX12_tellsSung_B7 at h
  refine zr_many 2 (pc' := 9) (L' := [some (.ref 161), some (.int w7.1)]) (st' := [.int (4 : Int32), .int w7.1]) (S1 := zS c w7.2) rfl ?_
  refine zq_if2 (b := (4 : Int32) ≤ w7.1) rfl Iff.rfl rfl (fun g1 => ?_) (fun g1 => ?_)
  · rw [if_pos g1] at h
    obtain rfl := Option.some.inj h
    exact zr_wk [none, none] trivial (hx w7.2 rfl)
  · rw [if_neg g1] at h
    refine zr_many 2 (pc' := 14) (L' := [some (.ref 161), some (.int w7.1)]) (st' := [.ref 161, .ref 161]) (S1 := zS c w7.2) rfl ?_
    refine zq_get rfl (zh_161 _) rfl rfl rfl ?_
    refine zr_many 1 (pc' := 18) (L' := [some (.ref 161), some (.int w7.1)]) (st' := [.int w7.1, .ref 178, .ref 161]) (S1 := zS c w7.2) rfl ?_
    obtain ⟨g2, h⟩ := zi_cond_inv h
    refine zq_ild rfl (zh_178 _) rfl g2 rfl ?_
    refine zr_many 1 (pc' := 20) (L' := [some (.ref 161), some (.int w7.1)]) (st' := [.long (w7.2.1 178 w7.1.toNatClampNeg).toInt64, .ref 161]) (S1 := zS c w7.2) rfl ?_
    obtain ⟨s4, g5, h⟩ := zp_inv h
    refine zq_call0 rfl rfl (zh_161 _) rfl rfl rfl (tX12_enters g5) rfl ?_
    refine zr_many 2 (pc' := 7) (L' := [some (.ref 161), some (.int (w7.1 + (1 : Int32)))]) (st' := []) (S1 := zS c s4) rfl ?_
    obtain rfl := Option.some.inj h
    exact zr_wk [some (.ref 161), some (.int (w7.1 + (1 : Int32)))] ⟨rfl, rfl, trivial⟩ (hn ((w7.1 + (1 : Int32)), s4) rfl)
def fX12_tellsSung (n : Nat) (s : zs) : Option zs := zp (zl (fX12_tellsSung_B7 n) n ((0 : Int32), (zsi s 161 1 (0 : Int32)))) (fun w6 => some w6)
theorem tX12_tellsSung {n : Nat} {c : Nat × Nat} {s : zs} {s' : zs} (h : fX12_tellsSung n s = some s') : zc 2 2447 [.ref 161] (zS c s) none (zS c s') := by
  refine zc_of (k := kX12_tellsSung) (rt := 0) (L := [some (.ref 161), none]) zm_2447.1 rfl rfl (by decide) rfl rfl ?_
  unfold fX12_tellsSung at h
  refine zr_many 2 (pc' := 2) (L' := [some (.ref 161), none]) (st' := [.int (0 : Int32), .ref 161]) (S1 := zS c s) rfl ?_
  refine zq_put (s' := (zsi s 161 1 (0 : Int32))) rfl (zh_161 _) rfl rfl rfl rfl zsi_ne rfl ?_
  refine zr_many 2 (pc' := 7) (L' := [some (.ref 161), some (.int (0 : Int32))]) (st' := []) (S1 := zS c (zsi s 161 1 (0 : Int32))) rfl ?_
  obtain ⟨w6, g7, h⟩ := zp_inv h
  refine zr_wk [some (.ref 161), some (.int (0 : Int32))] ⟨rfl, rfl, trivial⟩ (zl_cert (Z := fun w7 => zr kX12_tellsSung 0 1 7 [some (.ref 161), some (.int w7.1)] [] (zS c w7.2) _ _) (Y := (fun z => zr kX12_tellsSung 0 1 29 [none, none] [] (zS c z) _ _)) (fun w o h1 h2 h3 => tX12_tellsSung_B7 h1 h2 h3) n _ _ g7 ?_)
  show zr kX12_tellsSung 0 1 29 [none, none] [] (zS c w6) _ _
  obtain rfl := Option.some.inj h
  exact zq_vret rfl
def fX12_lock_J25 (n : Nat) (s : zs) : Option (Int32 × zs) := zb (fX12_refuse n s) (fun r5 s6 => some (r5, s6))
theorem tX12_lock_J25 {n : Nat} {c : Nat × Nat} {s : zs} {r : Int32} {s' : zs} (h : fX12_lock_J25 n s = some (r, s')) : zr kX12_lock 1 2 25 [some (.ref 161), none, none] [] (zS c s) (some (.int r)) (zS c s') := by
  unfold fX12_lock_J25 at h
  refine zr_many 1 (pc' := 26) (L' := [some (.ref 161), none, none]) (st' := [.ref 161]) (S1 := zS c s) rfl ?_
  obtain ⟨r5, s6, g7, h⟩ := zb_inv h
  refine zq_call1 rfl rfl (zh_161 _) rfl rfl rfl ((tX12_refuse g7).up (by decide)) rfl ?_
  obtain ⟨rfl, rfl⟩ := Prod.mk.inj (Option.some.inj h)
  exact zq_iret rfl
def fX12_lock_J68 (n : Nat) (s : zs) (y0 : Int32) : Option (Int32 × zs) := some (y0, s)
theorem tX12_lock_J68 {n : Nat} {c : Nat × Nat} {s : zs} {y0 : Int32} {r : Int32} {s' : zs} (h : fX12_lock_J68 n s y0 = some (r, s')) : zr kX12_lock 1 2 68 [none, none, none] [.int y0] (zS c s) (some (.int r)) (zS c s') := by
  unfold fX12_lock_J68 at h
  obtain ⟨rfl, rfl⟩ := Prod.mk.inj (Option.some.inj h)
  exact zq_iret rfl
def fX12_lock (n : Nat) (s : zs) (x1 : Int32) (x2 : Int32) : Option (Int32 × zs) := zp (fX12_isLock n (zsi s 161 0 (0 : Int32)) x1) (fun r1 => if r1 = 0 then fX12_lock_J25 n (zsi s 161 0 (0 : Int32)) else zp (fX12_in n (zsi s 161 0 (0 : Int32)) x2.toInt64 (0 : Int64) (5 : Int64)) (fun r8 => if ¬ r8 = 0 then if (4 : Int32) ≤ x2 then if ¬ x2 = (4 : Int32) then cond (zi_in x1 42) (fX12_lock_J68 n (zsi s 161 0 (0 : Int32)) ((zsi s 161 0 (0 : Int32)).1 169 x1.toNatClampNeg)) none else cond (zi_in x1 8) (fX12_lock_J68 n (zsi s 161 0 (0 : Int32)) ((zsi s 161 0 (0 : Int32)).1 164 x1.toNatClampNeg)) none else cond (zi_in (((4 : Int32) * x1) + x2) 32) (fX12_lock_J68 n (zsi s 161 0 (0 : Int32)) ((zsi s 161 0 (0 : Int32)).1 163 (((4 : Int32) * x1) + x2).toNatClampNeg)) none else fX12_lock_J25 n (zsi s 161 0 (0 : Int32))))
theorem tX12_lock {n : Nat} {c : Nat × Nat} {s : zs} {x1 : Int32} {x2 : Int32} {r : Int32} {s' : zs} (h : fX12_lock n s x1 x2 = some (r, s')) : zc 3 2448 [.ref 161, .int x1, .int x2] (zS c s) (some (.int r)) (zS c s') := by
  refine zc_of (k := kX12_lock) (rt := 1) (L := [some (.ref 161), some (.int x1), some (.int x2)]) zm_2448.1 rfl rfl (by decide) rfl rfl ?_
  unfold fX12_lock at h
  refine zr_many 2 (pc' := 2) (L' := [some (.ref 161), some (.int x1), some (.int x2)]) (st' := [.int (0 : Int32), .ref 161]) (S1 := zS c s) rfl ?_
  refine zq_put (s' := (zsi s 161 0 (0 : Int32))) rfl (zh_161 _) rfl rfl rfl rfl zsi_ne rfl ?_
  refine zr_many 2 (pc' := 7) (L' := [some (.ref 161), some (.int x1), some (.int x2)]) (st' := [.int x1, .ref 161]) (S1 := zS c (zsi s 161 0 (0 : Int32))) rfl ?_
  obtain ⟨r1, g3, h⟩ := zp_inv h
  refine zq_call1 rfl rfl (zh_161 _) rfl rfl rfl (tX12_isLock g3) rfl ?_
  refine zq_if1 (b := r1 = 0) rfl Iff.rfl rfl (fun g4 => ?_) (fun g4 => ?_)
  · rw [if_pos g4] at h
    exact zr_wk [some (.ref 161), none, none] ⟨rfl, trivial⟩ (tX12_lock_J25 h)
  · rw [if_neg g4] at h
    refine zr_many 4 (pc' := 19) (L' := [some (.ref 161), some (.int x1), some (.int x2)]) (st' := [.long (5 : Int64), .long (0 : Int64), .long x2.toInt64]) (S1 := zS c (zsi s 161 0 (0 : Int32))) rfl ?_
    obtain ⟨r8, g10, h⟩ := zp_inv h
    refine zq_scall1 rfl (by decide) rfl rfl ((tX12_in g10).up (by decide)) rfl ?_
    refine zq_if1 (b := ¬ r8 = 0) rfl Iff.rfl rfl (fun g11 => ?_) (fun g11 => ?_)
    · rw [if_pos g11] at h
      refine zr_many 2 (pc' := 32) (L' := [some (.ref 161), some (.int x1), some (.int x2)]) (st' := [.int (4 : Int32), .int x2]) (S1 := zS c (zsi s 161 0 (0 : Int32))) rfl ?_
      refine zq_if2 (b := (4 : Int32) ≤ x2) rfl Iff.rfl rfl (fun g12 => ?_) (fun g12 => ?_)
      · rw [if_pos g12] at h
        refine zr_many 2 (pc' := 50) (L' := [some (.ref 161), some (.int x1), some (.int x2)]) (st' := [.int (4 : Int32), .int x2]) (S1 := zS c (zsi s 161 0 (0 : Int32))) rfl ?_
        refine zq_if2 (b := ¬ x2 = (4 : Int32)) rfl Iff.rfl rfl (fun g13 => ?_) (fun g13 => ?_)
        · rw [if_pos g13] at h
          refine zr_many 1 (pc' := 63) (L' := [some (.ref 161), some (.int x1), some (.int x2)]) (st' := [.ref 161]) (S1 := zS c (zsi s 161 0 (0 : Int32))) rfl ?_
          refine zq_get rfl (zh_161 _) rfl rfl rfl ?_
          refine zr_many 1 (pc' := 67) (L' := [some (.ref 161), some (.int x1), some (.int x2)]) (st' := [.int x1, .ref 169]) (S1 := zS c (zsi s 161 0 (0 : Int32))) rfl ?_
          obtain ⟨g14, h⟩ := zi_cond_inv h
          refine zq_ild rfl (zh_169 _) rfl g14 rfl ?_
          exact zr_wk [none, none, none] trivial (tX12_lock_J68 h)
        · rw [if_neg g13] at h
          refine zr_many 1 (pc' := 54) (L' := [some (.ref 161), some (.int x1), some (.int x2)]) (st' := [.ref 161]) (S1 := zS c (zsi s 161 0 (0 : Int32))) rfl ?_
          refine zq_get rfl (zh_161 _) rfl rfl rfl ?_
          refine zr_many 1 (pc' := 58) (L' := [some (.ref 161), some (.int x1), some (.int x2)]) (st' := [.int x1, .ref 164]) (S1 := zS c (zsi s 161 0 (0 : Int32))) rfl ?_
          obtain ⟨g15, h⟩ := zi_cond_inv h
          refine zq_ild rfl (zh_164 _) rfl g15 rfl ?_
          refine zr_many 1 (pc' := 68) (L' := [some (.ref 161), some (.int x1), some (.int x2)]) (st' := [.int ((zsi s 161 0 (0 : Int32)).1 164 x1.toNatClampNeg)]) (S1 := zS c (zsi s 161 0 (0 : Int32))) rfl ?_
          exact zr_wk [none, none, none] trivial (tX12_lock_J68 h)
      · rw [if_neg g12] at h
        refine zr_many 1 (pc' := 36) (L' := [some (.ref 161), some (.int x1), some (.int x2)]) (st' := [.ref 161]) (S1 := zS c (zsi s 161 0 (0 : Int32))) rfl ?_
        refine zq_get rfl (zh_161 _) rfl rfl rfl ?_
        refine zr_many 5 (pc' := 44) (L' := [some (.ref 161), some (.int x1), some (.int x2)]) (st' := [.int (((4 : Int32) * x1) + x2), .ref 163]) (S1 := zS c (zsi s 161 0 (0 : Int32))) rfl ?_
        obtain ⟨g16, h⟩ := zi_cond_inv h
        refine zq_ild rfl (zh_163 _) rfl g16 rfl ?_
        refine zr_many 1 (pc' := 68) (L' := [some (.ref 161), some (.int x1), some (.int x2)]) (st' := [.int ((zsi s 161 0 (0 : Int32)).1 163 (((4 : Int32) * x1) + x2).toNatClampNeg)]) (S1 := zS c (zsi s 161 0 (0 : Int32))) rfl ?_
        exact zr_wk [none, none, none] trivial (tX12_lock_J68 h)
    · rw [if_neg g11] at h
      exact zr_wk [some (.ref 161), none, none] ⟨rfl, trivial⟩ (tX12_lock_J25 h)
def fX12_singer_J25 (n : Nat) (s : zs) : Option (Int32 × zs) := zb (fX12_refuse n s) (fun r5 s6 => some (r5, s6))
theorem tX12_singer_J25 {n : Nat} {c : Nat × Nat} {s : zs} {r : Int32} {s' : zs} (h : fX12_singer_J25 n s = some (r, s')) : zr kX12_singer 1 2 25 [some (.ref 161), none, none] [] (zS c s) (some (.int r)) (zS c s') := by
  unfold fX12_singer_J25 at h
  refine zr_many 1 (pc' := 26) (L' := [some (.ref 161), none, none]) (st' := [.ref 161]) (S1 := zS c s) rfl ?_
  obtain ⟨r5, s6, g7, h⟩ := zb_inv h
  refine zq_call1 rfl rfl (zh_161 _) rfl rfl rfl ((tX12_refuse g7).up (by decide)) rfl ?_
  obtain ⟨rfl, rfl⟩ := Prod.mk.inj (Option.some.inj h)
  exact zq_iret rfl
def fX12_singer (n : Nat) (s : zs) (x1 : Int32) (x2 : Int32) : Option (Int32 × zs) := zp (fX12_isSinger n (zsi s 161 0 (0 : Int32)) x1) (fun r1 => if r1 = 0 then fX12_singer_J25 n (zsi s 161 0 (0 : Int32)) else zp (fX12_in n (zsi s 161 0 (0 : Int32)) x2.toInt64 (0 : Int64) (5 : Int64)) (fun r8 => if ¬ r8 = 0 then if x2 = (0 : Int32) then cond (zi_in x1 8) (some (((zsi s 161 0 (0 : Int32)).1 165 x1.toNatClampNeg), (zsi s 161 0 (0 : Int32)))) none else if x2 = (1 : Int32) then cond (zi_in x1 8) (some (((zsi s 161 0 (0 : Int32)).1 166 x1.toNatClampNeg), (zsi s 161 0 (0 : Int32)))) none else if x2 = (2 : Int32) then cond (zi_in x1 8) (some (((zsi s 161 0 (0 : Int32)).1 167 x1.toNatClampNeg), (zsi s 161 0 (0 : Int32)))) none else if x2 = (3 : Int32) then zp (fX12_tiredOf n (zsi s 161 0 (0 : Int32)) 169 x1) (fun r19 => some (r19, (zsi s 161 0 (0 : Int32)))) else if x2 = (4 : Int32) then zp (fX12_whereIs n (zsi s 161 0 (0 : Int32)) x1) (fun r23 => some (r23, (zsi s 161 0 (0 : Int32)))) else zp (fX12_crewOf n (zsi s 161 0 (0 : Int32)) 169 x1) (fun r26 => some (r26, (zsi s 161 0 (0 : Int32)))) else fX12_singer_J25 n (zsi s 161 0 (0 : Int32))))
theorem tX12_singer {n : Nat} {c : Nat × Nat} {s : zs} {x1 : Int32} {x2 : Int32} {r : Int32} {s' : zs} (h : fX12_singer n s x1 x2 = some (r, s')) : zc 3 2449 [.ref 161, .int x1, .int x2] (zS c s) (some (.int r)) (zS c s') := by
  refine zc_of (k := kX12_singer) (rt := 1) (L := [some (.ref 161), some (.int x1), some (.int x2)]) zm_2449.1 rfl rfl (by decide) rfl rfl ?_
  unfold fX12_singer at h
  refine zr_many 2 (pc' := 2) (L' := [some (.ref 161), some (.int x1), some (.int x2)]) (st' := [.int (0 : Int32), .ref 161]) (S1 := zS c s) rfl ?_
  refine zq_put (s' := (zsi s 161 0 (0 : Int32))) rfl (zh_161 _) rfl rfl rfl rfl zsi_ne rfl ?_
  refine zr_many 2 (pc' := 7) (L' := [some (.ref 161), some (.int x1), some (.int x2)]) (st' := [.int x1, .ref 161]) (S1 := zS c (zsi s 161 0 (0 : Int32))) rfl ?_
  obtain ⟨r1, g3, h⟩ := zp_inv h
  refine zq_call1 rfl rfl (zh_161 _) rfl rfl rfl (tX12_isSinger g3) rfl ?_
  refine zq_if1 (b := r1 = 0) rfl Iff.rfl rfl (fun g4 => ?_) (fun g4 => ?_)
  · rw [if_pos g4] at h
    exact zr_wk [some (.ref 161), none, none] ⟨rfl, trivial⟩ (tX12_singer_J25 h)
  · rw [if_neg g4] at h
    refine zr_many 4 (pc' := 19) (L' := [some (.ref 161), some (.int x1), some (.int x2)]) (st' := [.long (5 : Int64), .long (0 : Int64), .long x2.toInt64]) (S1 := zS c (zsi s 161 0 (0 : Int32))) rfl ?_
    obtain ⟨r8, g10, h⟩ := zp_inv h
    refine zq_scall1 rfl (by decide) rfl rfl ((tX12_in g10).up (by decide)) rfl ?_
    refine zq_if1 (b := ¬ r8 = 0) rfl Iff.rfl rfl (fun g11 => ?_) (fun g11 => ?_)
    · rw [if_pos g11] at h
      refine zr_many 1 (pc' := 31) (L' := [some (.ref 161), some (.int x1), some (.int x2)]) (st' := [.int x2]) (S1 := zS c (zsi s 161 0 (0 : Int32))) rfl ?_
      refine zq_sw (Or.inl ⟨_, _, _, _, rfl⟩) ?_
      by_cases g12 : x2 = (0 : Int32)
      · rw [if_pos g12] at h
        rw [zi_sw_pos g12]
        refine zr_many 1 (pc' := 65) (L' := [some (.ref 161), some (.int x1), some (.int x2)]) (st' := [.ref 161]) (S1 := zS c (zsi s 161 0 (0 : Int32))) rfl ?_
        refine zq_get rfl (zh_161 _) rfl rfl rfl ?_
        refine zr_many 1 (pc' := 69) (L' := [some (.ref 161), some (.int x1), some (.int x2)]) (st' := [.int x1, .ref 165]) (S1 := zS c (zsi s 161 0 (0 : Int32))) rfl ?_
        obtain ⟨g13, h⟩ := zi_cond_inv h
        refine zq_ild rfl (zh_165 _) rfl g13 rfl ?_
        obtain ⟨rfl, rfl⟩ := Prod.mk.inj (Option.some.inj h)
        exact zq_iret rfl
      rw [if_neg g12] at h
      rw [zi_sw_neg g12]
      by_cases g14 : x2 = (1 : Int32)
      · rw [if_pos g14] at h
        rw [zi_sw_pos g14]
        refine zr_many 1 (pc' := 72) (L' := [some (.ref 161), some (.int x1), some (.int x2)]) (st' := [.ref 161]) (S1 := zS c (zsi s 161 0 (0 : Int32))) rfl ?_
        refine zq_get rfl (zh_161 _) rfl rfl rfl ?_
        refine zr_many 1 (pc' := 76) (L' := [some (.ref 161), some (.int x1), some (.int x2)]) (st' := [.int x1, .ref 166]) (S1 := zS c (zsi s 161 0 (0 : Int32))) rfl ?_
        obtain ⟨g15, h⟩ := zi_cond_inv h
        refine zq_ild rfl (zh_166 _) rfl g15 rfl ?_
        obtain ⟨rfl, rfl⟩ := Prod.mk.inj (Option.some.inj h)
        exact zq_iret rfl
      rw [if_neg g14] at h
      rw [zi_sw_neg g14]
      by_cases g16 : x2 = (2 : Int32)
      · rw [if_pos g16] at h
        rw [zi_sw_pos g16]
        refine zr_many 1 (pc' := 79) (L' := [some (.ref 161), some (.int x1), some (.int x2)]) (st' := [.ref 161]) (S1 := zS c (zsi s 161 0 (0 : Int32))) rfl ?_
        refine zq_get rfl (zh_161 _) rfl rfl rfl ?_
        refine zr_many 1 (pc' := 83) (L' := [some (.ref 161), some (.int x1), some (.int x2)]) (st' := [.int x1, .ref 167]) (S1 := zS c (zsi s 161 0 (0 : Int32))) rfl ?_
        obtain ⟨g17, h⟩ := zi_cond_inv h
        refine zq_ild rfl (zh_167 _) rfl g17 rfl ?_
        obtain ⟨rfl, rfl⟩ := Prod.mk.inj (Option.some.inj h)
        exact zq_iret rfl
      rw [if_neg g16] at h
      rw [zi_sw_neg g16]
      by_cases g18 : x2 = (3 : Int32)
      · rw [if_pos g18] at h
        rw [zi_sw_pos g18]
        refine zr_many 1 (pc' := 86) (L' := [some (.ref 161), some (.int x1), some (.int x2)]) (st' := [.ref 161]) (S1 := zS c (zsi s 161 0 (0 : Int32))) rfl ?_
        refine zq_get rfl (zh_161 _) rfl rfl rfl ?_
        refine zr_many 1 (pc' := 90) (L' := [some (.ref 161), some (.int x1), some (.int x2)]) (st' := [.int x1, .ref 169]) (S1 := zS c (zsi s 161 0 (0 : Int32))) rfl ?_
        obtain ⟨r19, g21, h⟩ := zp_inv h
        refine zq_scall1 rfl (by decide) rfl rfl ((tX12_tiredOf zR_n g21).up (by decide)) rfl ?_
        obtain ⟨rfl, rfl⟩ := Prod.mk.inj (Option.some.inj h)
        exact zq_iret rfl
      rw [if_neg g18] at h
      rw [zi_sw_neg g18]
      by_cases g22 : x2 = (4 : Int32)
      · rw [if_pos g22] at h
        rw [zi_sw_pos g22]
        refine zr_many 2 (pc' := 96) (L' := [some (.ref 161), some (.int x1), some (.int x2)]) (st' := [.int x1, .ref 161]) (S1 := zS c (zsi s 161 0 (0 : Int32))) rfl ?_
        obtain ⟨r23, g25, h⟩ := zp_inv h
        refine zq_call1 rfl rfl (zh_161 _) rfl rfl rfl (tX12_whereIs g25) rfl ?_
        obtain ⟨rfl, rfl⟩ := Prod.mk.inj (Option.some.inj h)
        exact zq_iret rfl
      rw [if_neg g22] at h
      rw [zi_sw_neg g22]
      simp only [zi_sw]
      refine zr_many 1 (pc' := 101) (L' := [some (.ref 161), some (.int x1), some (.int x2)]) (st' := [.ref 161]) (S1 := zS c (zsi s 161 0 (0 : Int32))) rfl ?_
      refine zq_get rfl (zh_161 _) rfl rfl rfl ?_
      refine zr_many 1 (pc' := 105) (L' := [some (.ref 161), some (.int x1), some (.int x2)]) (st' := [.int x1, .ref 169]) (S1 := zS c (zsi s 161 0 (0 : Int32))) rfl ?_
      obtain ⟨r26, g28, h⟩ := zp_inv h
      refine zq_scall1 rfl (by decide) rfl rfl ((tX12_crewOf zR_n g28).up (by decide)) rfl ?_
      obtain ⟨rfl, rfl⟩ := Prod.mk.inj (Option.some.inj h)
      exact zq_iret rfl
    · rw [if_neg g11] at h
      exact zr_wk [some (.ref 161), none, none] ⟨rfl, trivial⟩ (tX12_singer_J25 h)
def fX12_barge_J25 (n : Nat) (s : zs) : Option (Int32 × zs) := zb (fX12_refuse n s) (fun r5 s6 => some (r5, s6))
theorem tX12_barge_J25 {n : Nat} {c : Nat × Nat} {s : zs} {r : Int32} {s' : zs} (h : fX12_barge_J25 n s = some (r, s')) : zr kX12_barge 1 2 25 [some (.ref 161), none, none] [] (zS c s) (some (.int r)) (zS c s') := by
  unfold fX12_barge_J25 at h
  refine zr_many 1 (pc' := 26) (L' := [some (.ref 161), none, none]) (st' := [.ref 161]) (S1 := zS c s) rfl ?_
  obtain ⟨r5, s6, g7, h⟩ := zb_inv h
  refine zq_call1 rfl rfl (zh_161 _) rfl rfl rfl ((tX12_refuse g7).up (by decide)) rfl ?_
  obtain ⟨rfl, rfl⟩ := Prod.mk.inj (Option.some.inj h)
  exact zq_iret rfl
def fX12_barge_J89 (n : Nat) (s : zs) (y0 : Int32) : Option (Int32 × zs) := some (y0, s)
theorem tX12_barge_J89 {n : Nat} {c : Nat × Nat} {s : zs} {y0 : Int32} {r : Int32} {s' : zs} (h : fX12_barge_J89 n s y0 = some (r, s')) : zr kX12_barge 1 2 89 [none, none, none] [.int y0] (zS c s) (some (.int r)) (zS c s') := by
  unfold fX12_barge_J89 at h
  obtain ⟨rfl, rfl⟩ := Prod.mk.inj (Option.some.inj h)
  exact zq_iret rfl
def fX12_barge (n : Nat) (s : zs) (x1 : Int32) (x2 : Int32) : Option (Int32 × zs) := zp (fX12_isBarge n (zsi s 161 0 (0 : Int32)) x1) (fun r1 => if r1 = 0 then fX12_barge_J25 n (zsi s 161 0 (0 : Int32)) else zp (fX12_in n (zsi s 161 0 (0 : Int32)) x2.toInt64 (0 : Int64) (3 : Int64)) (fun r8 => if ¬ r8 = 0 then if ¬ x2 = 0 then if ¬ x2 = (1 : Int32) then if ¬ x2 = (2 : Int32) then zp (fX12_crew n (zsi s 161 0 (0 : Int32)) 169 x1) (fun r15 => fX12_barge_J89 n (zsi s 161 0 (0 : Int32)) r15) else cond (zi_in (((34 : Int32) + ((2 : Int32) * x1)) + (1 : Int32)) 42) (fX12_barge_J89 n (zsi s 161 0 (0 : Int32)) ((zsi s 161 0 (0 : Int32)).1 169 (((34 : Int32) + ((2 : Int32) * x1)) + (1 : Int32)).toNatClampNeg)) none else cond (zi_in x1 4) (fX12_barge_J89 n (zsi s 161 0 (0 : Int32)) ((zsi s 161 0 (0 : Int32)).1 168 x1.toNatClampNeg)) none else zp (fX12_placeOf n (zsi s 161 0 (0 : Int32)) 169 x1) (fun r20 => fX12_barge_J89 n (zsi s 161 0 (0 : Int32)) r20) else fX12_barge_J25 n (zsi s 161 0 (0 : Int32))))
theorem tX12_barge {n : Nat} {c : Nat × Nat} {s : zs} {x1 : Int32} {x2 : Int32} {r : Int32} {s' : zs} (h : fX12_barge n s x1 x2 = some (r, s')) : zc 3 2450 [.ref 161, .int x1, .int x2] (zS c s) (some (.int r)) (zS c s') := by
  refine zc_of (k := kX12_barge) (rt := 1) (L := [some (.ref 161), some (.int x1), some (.int x2)]) zm_2450.1 rfl rfl (by decide) rfl rfl ?_
  unfold fX12_barge at h
  refine zr_many 2 (pc' := 2) (L' := [some (.ref 161), some (.int x1), some (.int x2)]) (st' := [.int (0 : Int32), .ref 161]) (S1 := zS c s) rfl ?_
  refine zq_put (s' := (zsi s 161 0 (0 : Int32))) rfl (zh_161 _) rfl rfl rfl rfl zsi_ne rfl ?_
  refine zr_many 2 (pc' := 7) (L' := [some (.ref 161), some (.int x1), some (.int x2)]) (st' := [.int x1, .ref 161]) (S1 := zS c (zsi s 161 0 (0 : Int32))) rfl ?_
  obtain ⟨r1, g3, h⟩ := zp_inv h
  refine zq_call1 rfl rfl (zh_161 _) rfl rfl rfl (tX12_isBarge g3) rfl ?_
  refine zq_if1 (b := r1 = 0) rfl Iff.rfl rfl (fun g4 => ?_) (fun g4 => ?_)
  · rw [if_pos g4] at h
    exact zr_wk [some (.ref 161), none, none] ⟨rfl, trivial⟩ (tX12_barge_J25 h)
  · rw [if_neg g4] at h
    refine zr_many 4 (pc' := 19) (L' := [some (.ref 161), some (.int x1), some (.int x2)]) (st' := [.long (3 : Int64), .long (0 : Int64), .long x2.toInt64]) (S1 := zS c (zsi s 161 0 (0 : Int32))) rfl ?_
    obtain ⟨r8, g10, h⟩ := zp_inv h
    refine zq_scall1 rfl (by decide) rfl rfl ((tX12_in g10).up (by decide)) rfl ?_
    refine zq_if1 (b := ¬ r8 = 0) rfl Iff.rfl rfl (fun g11 => ?_) (fun g11 => ?_)
    · rw [if_pos g11] at h
      refine zr_many 1 (pc' := 31) (L' := [some (.ref 161), some (.int x1), some (.int x2)]) (st' := [.int x2]) (S1 := zS c (zsi s 161 0 (0 : Int32))) rfl ?_
      refine zq_if1 (b := ¬ x2 = 0) rfl Iff.rfl rfl (fun g12 => ?_) (fun g12 => ?_)
      · rw [if_pos g12] at h
        refine zr_many 2 (pc' := 47) (L' := [some (.ref 161), some (.int x1), some (.int x2)]) (st' := [.int (1 : Int32), .int x2]) (S1 := zS c (zsi s 161 0 (0 : Int32))) rfl ?_
        refine zq_if2 (b := ¬ x2 = (1 : Int32)) rfl Iff.rfl rfl (fun g13 => ?_) (fun g13 => ?_)
        · rw [if_pos g13] at h
          refine zr_many 2 (pc' := 61) (L' := [some (.ref 161), some (.int x1), some (.int x2)]) (st' := [.int (2 : Int32), .int x2]) (S1 := zS c (zsi s 161 0 (0 : Int32))) rfl ?_
          refine zq_if2 (b := ¬ x2 = (2 : Int32)) rfl Iff.rfl rfl (fun g14 => ?_) (fun g14 => ?_)
          · rw [if_pos g14] at h
            refine zr_many 2 (pc' := 82) (L' := [some (.ref 161), some (.int x1), some (.int x2)]) (st' := [.ref 161, .ref 161]) (S1 := zS c (zsi s 161 0 (0 : Int32))) rfl ?_
            refine zq_get rfl (zh_161 _) rfl rfl rfl ?_
            refine zr_many 1 (pc' := 86) (L' := [some (.ref 161), some (.int x1), some (.int x2)]) (st' := [.int x1, .ref 169, .ref 161]) (S1 := zS c (zsi s 161 0 (0 : Int32))) rfl ?_
            obtain ⟨r15, g17, h⟩ := zp_inv h
            refine zq_call1 rfl rfl (zh_161 _) rfl rfl rfl (tX12_crew zR_n g17) rfl ?_
            exact zr_wk [none, none, none] trivial (tX12_barge_J89 h)
          · rw [if_neg g14] at h
            refine zr_many 1 (pc' := 65) (L' := [some (.ref 161), some (.int x1), some (.int x2)]) (st' := [.ref 161]) (S1 := zS c (zsi s 161 0 (0 : Int32))) rfl ?_
            refine zq_get rfl (zh_161 _) rfl rfl rfl ?_
            refine zr_many 7 (pc' := 76) (L' := [some (.ref 161), some (.int x1), some (.int x2)]) (st' := [.int (((34 : Int32) + ((2 : Int32) * x1)) + (1 : Int32)), .ref 169]) (S1 := zS c (zsi s 161 0 (0 : Int32))) rfl ?_
            obtain ⟨g18, h⟩ := zi_cond_inv h
            refine zq_ild rfl (zh_169 _) rfl g18 rfl ?_
            refine zr_many 1 (pc' := 89) (L' := [some (.ref 161), some (.int x1), some (.int x2)]) (st' := [.int ((zsi s 161 0 (0 : Int32)).1 169 (((34 : Int32) + ((2 : Int32) * x1)) + (1 : Int32)).toNatClampNeg)]) (S1 := zS c (zsi s 161 0 (0 : Int32))) rfl ?_
            exact zr_wk [none, none, none] trivial (tX12_barge_J89 h)
        · rw [if_neg g13] at h
          refine zr_many 1 (pc' := 51) (L' := [some (.ref 161), some (.int x1), some (.int x2)]) (st' := [.ref 161]) (S1 := zS c (zsi s 161 0 (0 : Int32))) rfl ?_
          refine zq_get rfl (zh_161 _) rfl rfl rfl ?_
          refine zr_many 1 (pc' := 55) (L' := [some (.ref 161), some (.int x1), some (.int x2)]) (st' := [.int x1, .ref 168]) (S1 := zS c (zsi s 161 0 (0 : Int32))) rfl ?_
          obtain ⟨g19, h⟩ := zi_cond_inv h
          refine zq_ild rfl (zh_168 _) rfl g19 rfl ?_
          refine zr_many 1 (pc' := 89) (L' := [some (.ref 161), some (.int x1), some (.int x2)]) (st' := [.int ((zsi s 161 0 (0 : Int32)).1 168 x1.toNatClampNeg)]) (S1 := zS c (zsi s 161 0 (0 : Int32))) rfl ?_
          exact zr_wk [none, none, none] trivial (tX12_barge_J89 h)
      · rw [if_neg g12] at h
        refine zr_many 1 (pc' := 35) (L' := [some (.ref 161), some (.int x1), some (.int x2)]) (st' := [.ref 161]) (S1 := zS c (zsi s 161 0 (0 : Int32))) rfl ?_
        refine zq_get rfl (zh_161 _) rfl rfl rfl ?_
        refine zr_many 1 (pc' := 39) (L' := [some (.ref 161), some (.int x1), some (.int x2)]) (st' := [.int x1, .ref 169]) (S1 := zS c (zsi s 161 0 (0 : Int32))) rfl ?_
        obtain ⟨r20, g22, h⟩ := zp_inv h
        refine zq_scall1 rfl (by decide) rfl rfl ((tX12_placeOf zR_n g22).up (by decide)) rfl ?_
        refine zr_many 1 (pc' := 89) (L' := [some (.ref 161), some (.int x1), some (.int x2)]) (st' := [.int r20]) (S1 := zS c (zsi s 161 0 (0 : Int32))) rfl ?_
        exact zr_wk [none, none, none] trivial (tX12_barge_J89 h)
    · rw [if_neg g11] at h
      exact zr_wk [some (.ref 161), none, none] ⟨rfl, trivial⟩ (tX12_barge_J25 h)
def fX12_set_J37 (n : Nat) (s : zs) : Option (Int32 × zs) := some ((-1 : Int32), s)
theorem tX12_set_J37 {n : Nat} {c : Nat × Nat} {s : zs} {r : Int32} {s' : zs} (h : fX12_set_J37 n s = some (r, s')) : zr kX12_set 1 1 37 [none, none, none, none] [] (zS c s) (some (.int r)) (zS c s') := by
  unfold fX12_set_J37 at h
  refine zr_many 1 (pc' := 38) (L' := [none, none, none, none]) (st' := [.int (-1 : Int32)]) (S1 := zS c s) rfl ?_
  obtain ⟨rfl, rfl⟩ := Prod.mk.inj (Option.some.inj h)
  exact zq_iret rfl
def fX12_set_J94 (n : Nat) (s : zs) (x3 : Int32) (y1 : Int32) : Option (Int32 × zs) := some (x3, (zsi s 161 6 y1))
theorem tX12_set_J94 {n : Nat} {c : Nat × Nat} {s : zs} {x3 : Int32} {y1 : Int32} {r : Int32} {s' : zs} (h : fX12_set_J94 n s x3 y1 = some (r, s')) : zr kX12_set 1 1 94 [none, none, none, some (.int x3)] [.int y1, .ref 161] (zS c s) (some (.int r)) (zS c s') := by
  unfold fX12_set_J94 at h
  refine zq_put (s' := (zsi s 161 6 y1)) rfl (zh_161 _) rfl rfl rfl rfl zsi_ne rfl ?_
  refine zr_many 1 (pc' := 98) (L' := [none, none, none, some (.int x3)]) (st' := [.int x3]) (S1 := zS c (zsi s 161 6 y1)) rfl ?_
  obtain ⟨rfl, rfl⟩ := Prod.mk.inj (Option.some.inj h)
  exact zq_iret rfl
def fX12_set_J79 (n : Nat) (s : zs) (x1 : Int32) (x2 : Int32) (x3 : Int32) (y1 : Int32) (y2 : Int32) : Option (Int32 × zs) := cond (zi_in y1 42) (if ¬ x1 = (1 : Int32) then fX12_set_J94 n (zsi s 169 y1.toNatClampNeg y2) x3 ((zsi s 169 y1.toNatClampNeg y2).1 161 6) else fX12_set_J94 n (zsi s 169 y1.toNatClampNeg y2) x3 x2) none
theorem tX12_set_J79 {n : Nat} {c : Nat × Nat} {s : zs} {x1 : Int32} {x2 : Int32} {x3 : Int32} {y1 : Int32} {y2 : Int32} {r : Int32} {s' : zs} (h : fX12_set_J79 n s x1 x2 x3 y1 y2 = some (r, s')) : zr kX12_set 1 1 79 [some (.ref 161), some (.int x1), some (.int x2), some (.int x3)] [.int y2, .int y1, .ref 169] (zS c s) (some (.int r)) (zS c s') := by
  unfold fX12_set_J79 at h
  obtain ⟨g14, h⟩ := zi_cond_inv h
  refine zq_ist rfl zh_169 rfl g14 rfl ?_
  refine zr_many 3 (pc' := 83) (L' := [some (.ref 161), some (.int x1), some (.int x2), some (.int x3)]) (st' := [.int (1 : Int32), .int x1, .ref 161]) (S1 := zS c (zsi s 169 y1.toNatClampNeg y2)) rfl ?_
  refine zq_if2 (b := ¬ x1 = (1 : Int32)) rfl Iff.rfl rfl (fun g13 => ?_) (fun g13 => ?_)
  · rw [if_pos g13] at h
    refine zr_many 1 (pc' := 91) (L' := [some (.ref 161), some (.int x1), some (.int x2), some (.int x3)]) (st' := [.ref 161, .ref 161]) (S1 := zS c (zsi s 169 y1.toNatClampNeg y2)) rfl ?_
    refine zq_get rfl (zh_161 _) rfl rfl rfl ?_
    exact zr_wk [none, none, none, some (.int x3)] ⟨rfl, trivial⟩ (tX12_set_J94 h)
  · rw [if_neg g13] at h
    refine zr_many 2 (pc' := 94) (L' := [some (.ref 161), some (.int x1), some (.int x2), some (.int x3)]) (st' := [.int x2, .ref 161]) (S1 := zS c (zsi s 169 y1.toNatClampNeg y2)) rfl ?_
    exact zr_wk [none, none, none, some (.int x3)] ⟨rfl, trivial⟩ (tX12_set_J94 h)
def fX12_set_J57 (n : Nat) (s : zs) (x1 : Int32) (x2 : Int32) (y0 : Int32) : Option (Int32 × zs) := if ¬ x1 = 0 then fX12_set_J79 n s x1 x2 y0 (8 : Int32) (s.1 169 8) else fX12_set_J79 n s x1 x2 y0 (8 : Int32) x2
theorem tX12_set_J57 {n : Nat} {c : Nat × Nat} {s : zs} {x1 : Int32} {x2 : Int32} {y0 : Int32} {r : Int32} {s' : zs} (h : fX12_set_J57 n s x1 x2 y0 = some (r, s')) : zr kX12_set 1 1 57 [some (.ref 161), some (.int x1), some (.int x2), none] [.int y0] (zS c s) (some (.int r)) (zS c s') := by
  unfold fX12_set_J57 at h
  refine zr_many 2 (pc' := 59) (L' := [some (.ref 161), some (.int x1), some (.int x2), some (.int y0)]) (st' := [.ref 161]) (S1 := zS c s) rfl ?_
  refine zq_get rfl (zh_161 _) rfl rfl rfl ?_
  refine zr_many 2 (pc' := 65) (L' := [some (.ref 161), some (.int x1), some (.int x2), some (.int y0)]) (st' := [.int x1, .int (8 : Int32), .ref 169]) (S1 := zS c s) rfl ?_
  refine zq_if1 (b := ¬ x1 = 0) rfl Iff.rfl rfl (fun g11 => ?_) (fun g11 => ?_)
  · rw [if_pos g11] at h
    refine zr_many 1 (pc' := 73) (L' := [some (.ref 161), some (.int x1), some (.int x2), some (.int y0)]) (st' := [.ref 161, .int (8 : Int32), .ref 169]) (S1 := zS c s) rfl ?_
    refine zq_get rfl (zh_161 _) rfl rfl rfl ?_
    refine zr_many 1 (pc' := 78) (L' := [some (.ref 161), some (.int x1), some (.int x2), some (.int y0)]) (st' := [.int (8 : Int32), .ref 169, .int (8 : Int32), .ref 169]) (S1 := zS c s) rfl ?_
    refine zq_ild rfl (zh_169 _) rfl (by decide) rfl ?_
    exact zr_wk [some (.ref 161), some (.int x1), some (.int x2), some (.int y0)] ⟨rfl, rfl, rfl, rfl, trivial⟩ (tX12_set_J79 h)
  · rw [if_neg g11] at h
    refine zr_many 2 (pc' := 79) (L' := [some (.ref 161), some (.int x1), some (.int x2), some (.int y0)]) (st' := [.int x2, .int (8 : Int32), .ref 169]) (S1 := zS c s) rfl ?_
    exact zr_wk [some (.ref 161), some (.int x1), some (.int x2), some (.int y0)] ⟨rfl, rfl, rfl, rfl, trivial⟩ (tX12_set_J79 h)
def fX12_set_J31 (n : Nat) (s : zs) (x1 : Int32) (x2 : Int32) (y0 : Int64) (y1 : Int64) (y2 : Int64) : Option (Int32 × zs) := zp (fX12_in n s y0 y1 y2) (fun r6 => if ¬ r6 = 0 then if ¬ x1 = 0 then fX12_set_J57 n s x1 x2 (s.1 161 6) else fX12_set_J57 n s x1 x2 (s.1 169 8) else fX12_set_J37 n s)
theorem tX12_set_J31 {n : Nat} {c : Nat × Nat} {s : zs} {x1 : Int32} {x2 : Int32} {y0 : Int64} {y1 : Int64} {y2 : Int64} {r : Int32} {s' : zs} (h : fX12_set_J31 n s x1 x2 y0 y1 y2 = some (r, s')) : zr kX12_set 1 1 31 [some (.ref 161), some (.int x1), some (.int x2), none] [.long y2, .long y1, .long y0] (zS c s) (some (.int r)) (zS c s') := by
  unfold fX12_set_J31 at h
  obtain ⟨r6, g8, h⟩ := zp_inv h
  refine zq_scall1 rfl (by decide) rfl rfl (tX12_in g8) rfl ?_
  refine zq_if1 (b := ¬ r6 = 0) rfl Iff.rfl rfl (fun g9 => ?_) (fun g9 => ?_)
  · rw [if_pos g9] at h
    refine zr_many 1 (pc' := 40) (L' := [some (.ref 161), some (.int x1), some (.int x2), none]) (st' := [.int x1]) (S1 := zS c s) rfl ?_
    refine zq_if1 (b := ¬ x1 = 0) rfl Iff.rfl rfl (fun g10 => ?_) (fun g10 => ?_)
    · rw [if_pos g10] at h
      refine zr_many 1 (pc' := 54) (L' := [some (.ref 161), some (.int x1), some (.int x2), none]) (st' := [.ref 161]) (S1 := zS c s) rfl ?_
      refine zq_get rfl (zh_161 _) rfl rfl rfl ?_
      exact zr_wk [some (.ref 161), some (.int x1), some (.int x2), none] ⟨rfl, rfl, rfl, trivial⟩ (tX12_set_J57 h)
    · rw [if_neg g10] at h
      refine zr_many 1 (pc' := 44) (L' := [some (.ref 161), some (.int x1), some (.int x2), none]) (st' := [.ref 161]) (S1 := zS c s) rfl ?_
      refine zq_get rfl (zh_161 _) rfl rfl rfl ?_
      refine zr_many 1 (pc' := 49) (L' := [some (.ref 161), some (.int x1), some (.int x2), none]) (st' := [.int (8 : Int32), .ref 169]) (S1 := zS c s) rfl ?_
      refine zq_ild rfl (zh_169 _) rfl (by decide) rfl ?_
      refine zr_many 1 (pc' := 57) (L' := [some (.ref 161), some (.int x1), some (.int x2), none]) (st' := [.int (s.1 169 8)]) (S1 := zS c s) rfl ?_
      exact zr_wk [some (.ref 161), some (.int x1), some (.int x2), none] ⟨rfl, rfl, rfl, trivial⟩ (tX12_set_J57 h)
  · rw [if_neg g9] at h
    exact zr_wk [none, none, none, none] trivial (tX12_set_J37 h)
def fX12_set (n : Nat) (s : zs) (x1 : Int32) (x2 : Int32) : Option (Int32 × zs) := zp (fX12_in n (zsi s 161 0 (0 : Int32)) x1.toInt64 (0 : Int64) (1 : Int64)) (fun r1 => if r1 = 0 then fX12_set_J37 n (zsi s 161 0 (0 : Int32)) else if ¬ x1 = 0 then fX12_set_J31 n (zsi s 161 0 (0 : Int32)) x1 x2 x2.toInt64 (0 : Int64) (67108863 : Int64) else fX12_set_J31 n (zsi s 161 0 (0 : Int32)) x1 x2 x2.toInt64 (0 : Int64) (999 : Int64))
theorem tX12_set {n : Nat} {c : Nat × Nat} {s : zs} {x1 : Int32} {x2 : Int32} {r : Int32} {s' : zs} (h : fX12_set n s x1 x2 = some (r, s')) : zc 2 2451 [.ref 161, .int x1, .int x2] (zS c s) (some (.int r)) (zS c s') := by
  refine zc_of (k := kX12_set) (rt := 1) (L := [some (.ref 161), some (.int x1), some (.int x2), none]) zm_2451.1 rfl rfl (by decide) rfl rfl ?_
  unfold fX12_set at h
  refine zr_many 2 (pc' := 2) (L' := [some (.ref 161), some (.int x1), some (.int x2), none]) (st' := [.int (0 : Int32), .ref 161]) (S1 := zS c s) rfl ?_
  refine zq_put (s' := (zsi s 161 0 (0 : Int32))) rfl (zh_161 _) rfl rfl rfl rfl zsi_ne rfl ?_
  refine zr_many 4 (pc' := 9) (L' := [some (.ref 161), some (.int x1), some (.int x2), none]) (st' := [.long (1 : Int64), .long (0 : Int64), .long x1.toInt64]) (S1 := zS c (zsi s 161 0 (0 : Int32))) rfl ?_
  obtain ⟨r1, g3, h⟩ := zp_inv h
  refine zq_scall1 rfl (by decide) rfl rfl (tX12_in g3) rfl ?_
  refine zq_if1 (b := r1 = 0) rfl Iff.rfl rfl (fun g4 => ?_) (fun g4 => ?_)
  · rw [if_pos g4] at h
    exact zr_wk [none, none, none, none] trivial (tX12_set_J37 h)
  · rw [if_neg g4] at h
    refine zr_many 4 (pc' := 19) (L' := [some (.ref 161), some (.int x1), some (.int x2), none]) (st' := [.int x1, .long (0 : Int64), .long x2.toInt64]) (S1 := zS c (zsi s 161 0 (0 : Int32))) rfl ?_
    refine zq_if1 (b := ¬ x1 = 0) rfl Iff.rfl rfl (fun g5 => ?_) (fun g5 => ?_)
    · rw [if_pos g5] at h
      refine zr_many 1 (pc' := 31) (L' := [some (.ref 161), some (.int x1), some (.int x2), none]) (st' := [.long (67108863 : Int64), .long (0 : Int64), .long x2.toInt64]) (S1 := zS c (zsi s 161 0 (0 : Int32))) rfl ?_
      exact zr_wk [some (.ref 161), some (.int x1), some (.int x2), none] ⟨rfl, rfl, rfl, trivial⟩ (tX12_set_J31 h)
    · rw [if_neg g5] at h
      refine zr_many 2 (pc' := 31) (L' := [some (.ref 161), some (.int x1), some (.int x2), none]) (st' := [.long (999 : Int64), .long (0 : Int64), .long x2.toInt64]) (S1 := zS c (zsi s 161 0 (0 : Int32))) rfl ?_
      exact zr_wk [some (.ref 161), some (.int x1), some (.int x2), none] ⟨rfl, rfl, rfl, trivial⟩ (tX12_set_J31 h)
def fX12_sheet_J23 (n : Nat) (s : zs) : Option (Int32 × zs) := some ((-1 : Int32), s)
theorem tX12_sheet_J23 {n : Nat} {c : Nat × Nat} {s : zs} {r : Int32} {s' : zs} (h : fX12_sheet_J23 n s = some (r, s')) : zr kX12_sheet 1 1 23 [none, none, none, none, none, none, none, none, none] [] (zS c s) (some (.int r)) (zS c s') := by
  unfold fX12_sheet_J23 at h
  refine zr_many 1 (pc' := 24) (L' := [none, none, none, none, none, none, none, none, none]) (st' := [.int (-1 : Int32)]) (S1 := zS c s) rfl ?_
  obtain ⟨rfl, rfl⟩ := Prod.mk.inj (Option.some.inj h)
  exact zq_iret rfl
def fX12_sheet_J112 (n : Nat) (s : zs) (x1 : Int32) (x2 : Int32) (x4 : Int32) (x5 : Int32) (x6 : Int32) (x7 : Int32) (y1 : Int32) (y2 : Int32) : Option ((Int32 × Int32 × Int32 × zs) ⊕ (Int32 × zs)) := cond (zi_in y1 8) (cond (zi_in x7 8) (some (Sum.inl ((x5 + ((zsi s 167 y1.toNatClampNeg y2).1 167 x7.toNatClampNeg)), (x6 + x4), (x7 + (1 : Int32)), (zsi s 167 y1.toNatClampNeg y2)))) none) none
theorem tX12_sheet_J112 {n : Nat} {c : Nat × Nat} {s : zs} {x1 : Int32} {x2 : Int32} {x4 : Int32} {x5 : Int32} {x6 : Int32} {x7 : Int32} {y1 : Int32} {y2 : Int32} {o : _} {v : Option Value} {S' : zi_S} (h : fX12_sheet_J112 n s x1 x2 x4 x5 x6 x7 y1 y2 = some o) (hn : ∀ w46, o = Sum.inl w46 → zr kX12_sheet 1 1 46 [some (.ref 161), some (.int x1), some (.int x2), none, some (.int x4), some (.int w46.1), some (.int w46.2.1), some (.int w46.2.2.1), none] [] (zS c w46.2.2.2) v S') (hx : ∀ z, o = Sum.inr z → (fun z => zr kX12_sheet 1 1 138 [none, some (.int x1), none, none, none, some (.int z.1), none, none, none] [] (zS c z.2) v S') z) : zr kX12_sheet 1 1 112 [some (.ref 161), some (.int x1), some (.int x2), none, some (.int x4), some (.int x5), some (.int x6), some (.int x7), none] [.int y2, .int y1, .ref 167] (zS c s) v S' := by
  unfold fX12_sheet_J112 at h
  obtain ⟨g12, h⟩ := zi_cond_inv h
  refine zq_ist rfl zh_167 rfl g12 rfl ?_
  refine zr_many 2 (pc' := 116) (L' := [some (.ref 161), some (.int x1), some (.int x2), none, some (.int x4), some (.int x5), some (.int x6), some (.int x7), none]) (st' := [.ref 161, .int x5]) (S1 := zS c (zsi s 167 y1.toNatClampNeg y2)) rfl ?_
  refine zq_get rfl (zh_161 _) rfl rfl rfl ?_
  refine zr_many 1 (pc' := 121) (L' := [some (.ref 161), some (.int x1), some (.int x2), none, some (.int x4), some (.int x5), some (.int x6), some (.int x7), none]) (st' := [.int x7, .ref 167, .int x5]) (S1 := zS c (zsi s 167 y1.toNatClampNeg y2)) rfl ?_
  obtain ⟨g11, h⟩ := zi_cond_inv h
  refine zq_ild rfl (zh_167 _) rfl g11 rfl ?_
  refine zr_many 8 (pc' := 46) (L' := [some (.ref 161), some (.int x1), some (.int x2), none, some (.int x4), some (.int (x5 + ((zsi s 167 y1.toNatClampNeg y2).1 167 x7.toNatClampNeg))), some (.int (x6 + x4)), some (.int (x7 + (1 : Int32))), none]) (st' := []) (S1 := zS c (zsi s 167 y1.toNatClampNeg y2)) rfl ?_
  obtain rfl := Option.some.inj h
  exact zr_wk [some (.ref 161), some (.int x1), some (.int x2), none, some (.int x4), some (.int (x5 + ((zsi s 167 y1.toNatClampNeg y2).1 167 x7.toNatClampNeg))), some (.int (x6 + x4)), some (.int (x7 + (1 : Int32))), none] ⟨rfl, rfl, rfl, rfl, rfl, rfl, rfl, trivial⟩ (hn ((x5 + ((zsi s 167 y1.toNatClampNeg y2).1 167 x7.toNatClampNeg)), (x6 + x4), (x7 + (1 : Int32)), (zsi s 167 y1.toNatClampNeg y2)) rfl)
def fX12_sheet_J97 (n : Nat) (s : zs) (x1 : Int32) (x2 : Int32) (x4 : Int32) (x5 : Int32) (x6 : Int32) (x7 : Int32) (y1 : Int32) : Option ((Int32 × Int32 × Int32 × zs) ⊕ (Int32 × zs)) := fX12_sheet_J112 n s x1 x2 x4 x5 x6 x7 y1 (0 : Int32)
theorem tX12_sheet_J97 {n : Nat} {c : Nat × Nat} {s : zs} {x1 : Int32} {x2 : Int32} {x4 : Int32} {x5 : Int32} {x6 : Int32} {x7 : Int32} {y1 : Int32} {o : _} {v : Option Value} {S' : zi_S} (h : fX12_sheet_J97 n s x1 x2 x4 x5 x6 x7 y1 = some o) (hn : ∀ w46, o = Sum.inl w46 → zr kX12_sheet 1 1 46 [some (.ref 161), some (.int x1), some (.int x2), none, some (.int x4), some (.int w46.1), some (.int w46.2.1), some (.int w46.2.2.1), none] [] (zS c w46.2.2.2) v S') (hx : ∀ z, o = Sum.inr z → (fun z => zr kX12_sheet 1 1 138 [none, some (.int x1), none, none, none, some (.int z.1), none, none, none] [] (zS c z.2) v S') z) : zr kX12_sheet 1 1 97 [some (.ref 161), some (.int x1), some (.int x2), none, some (.int x4), some (.int x5), some (.int x6), some (.int x7), none] [.int y1, .ref 167] (zS c s) v S' := by
  unfold fX12_sheet_J97 at h
  refine zr_many 2 (pc' := 112) (L' := [some (.ref 161), some (.int x1), some (.int x2), none, some (.int x4), some (.int x5), some (.int x6), some (.int x7), none]) (st' := [.int (0 : Int32), .int y1, .ref 167]) (S1 := zS c s) rfl ?_
  exact zr_wk [some (.ref 161), some (.int x1), some (.int x2), none, some (.int x4), some (.int x5), some (.int x6), some (.int x7), none] ⟨rfl, rfl, rfl, rfl, rfl, rfl, rfl, trivial⟩ (tX12_sheet_J112 h hn hx)
def fX12_sheet_J78 (n : Nat) (s : zs) (x1 : Int32) (x2 : Int32) (x4 : Int32) (x5 : Int32) (x6 : Int32) (x7 : Int32) (y0 : Int32) : Option ((Int32 × Int32 × Int32 × zs) ⊕ (Int32 × zs)) := if x1 = (3 : Int32) then fX12_sheet_J97 n s x1 x2 x4 x5 x6 x7 x7 else if x7 < x2 then fX12_sheet_J112 n s x1 x2 x4 x5 x6 x7 x7 (if (0 : Int32) < (if y0 < (99 : Int32) then y0 else (99 : Int32)) then (if y0 < (99 : Int32) then y0 else (99 : Int32)) else (0 : Int32)) else fX12_sheet_J97 n s x1 x2 x4 x5 x6 x7 x7
theorem tX12_sheet_J78 {n : Nat} {c : Nat × Nat} {s : zs} {x1 : Int32} {x2 : Int32} {x4 : Int32} {x5 : Int32} {x6 : Int32} {x7 : Int32} {y0 : Int32} {o : _} {v : Option Value} {S' : zi_S} (h : fX12_sheet_J78 n s x1 x2 x4 x5 x6 x7 y0 = some o) (hn : ∀ w46, o = Sum.inl w46 → zr kX12_sheet 1 1 46 [some (.ref 161), some (.int x1), some (.int x2), none, some (.int x4), some (.int w46.1), some (.int w46.2.1), some (.int w46.2.2.1), none] [] (zS c w46.2.2.2) v S') (hx : ∀ z, o = Sum.inr z → (fun z => zr kX12_sheet 1 1 138 [none, some (.int x1), none, none, none, some (.int z.1), none, none, none] [] (zS c z.2) v S') z) : zr kX12_sheet 1 1 78 [some (.ref 161), some (.int x1), some (.int x2), none, some (.int x4), some (.int x5), some (.int x6), some (.int x7), none] [.int y0] (zS c s) v S' := by
  unfold fX12_sheet_J78 at h
  refine zr_many 2 (pc' := 81) (L' := [some (.ref 161), some (.int x1), some (.int x2), none, some (.int x4), some (.int x5), some (.int x6), some (.int x7), some (.int y0)]) (st' := [.ref 161]) (S1 := zS c s) rfl ?_
  refine zq_get rfl (zh_161 _) rfl rfl rfl ?_
  refine zr_many 3 (pc' := 88) (L' := [some (.ref 161), some (.int x1), some (.int x2), none, some (.int x4), some (.int x5), some (.int x6), some (.int x7), some (.int y0)]) (st' := [.int (3 : Int32), .int x1, .int x7, .ref 167]) (S1 := zS c s) rfl ?_
  refine zq_if2 (b := x1 = (3 : Int32)) rfl Iff.rfl rfl (fun g10 => ?_) (fun g10 => ?_)
  · rw [if_pos g10] at h
    exact zr_wk [some (.ref 161), some (.int x1), some (.int x2), none, some (.int x4), some (.int x5), some (.int x6), some (.int x7), none] ⟨rfl, rfl, rfl, rfl, rfl, rfl, rfl, trivial⟩ (tX12_sheet_J97 h hn hx)
  · rw [if_neg g10] at h
    refine zr_many 2 (pc' := 94) (L' := [some (.ref 161), some (.int x1), some (.int x2), none, some (.int x4), some (.int x5), some (.int x6), some (.int x7), some (.int y0)]) (st' := [.int x2, .int x7, .int x7, .ref 167]) (S1 := zS c s) rfl ?_
    refine zq_if2 (b := x7 < x2) rfl Iff.rfl rfl (fun g13 => ?_) (fun g13 => ?_)
    · rw [if_pos g13] at h
      refine zr_many 5 (pc' := 112) (L' := [some (.ref 161), some (.int x1), some (.int x2), none, some (.int x4), some (.int x5), some (.int x6), some (.int x7), some (.int y0)]) (st' := [.int (if (0 : Int32) < (if y0 < (99 : Int32) then y0 else (99 : Int32)) then (if y0 < (99 : Int32) then y0 else (99 : Int32)) else (0 : Int32)), .int x7, .ref 167]) (S1 := zS c s) rfl ?_
      exact zr_wk [some (.ref 161), some (.int x1), some (.int x2), none, some (.int x4), some (.int x5), some (.int x6), some (.int x7), none] ⟨rfl, rfl, rfl, rfl, rfl, rfl, rfl, trivial⟩ (tX12_sheet_J112 h hn hx)
    · rw [if_neg g13] at h
      exact zr_wk [some (.ref 161), some (.int x1), some (.int x2), none, some (.int x4), some (.int x5), some (.int x6), some (.int x7), none] ⟨rfl, rfl, rfl, rfl, rfl, rfl, rfl, trivial⟩ (tX12_sheet_J97 h hn hx)
def fX12_sheet_B46 (n : Nat) (x1 : Int32) (x2 : Int32) (x4 : Int32) (w46 : Int32 × Int32 × Int32 × zs) : Option ((Int32 × Int32 × Int32 × zs) ⊕ (Int32 × zs)) := if (w46.2.2.2.1 161 4) ≤ w46.2.2.1 then some (Sum.inr (w46.1, w46.2.2.2)) else if ¬ x1 = 0 then if ¬ x1 = (1 : Int32) then fX12_sheet_J78 n w46.2.2.2 x1 x2 x4 w46.1 w46.2.1 w46.2.2.1 w46.2.1 else fX12_sheet_J78 n w46.2.2.2 x1 x2 x4 w46.1 w46.2.1 w46.2.2.1 w46.2.1.toInt16.toInt32 else fX12_sheet_J78 n w46.2.2.2 x1 x2 x4 w46.1 w46.2.1 w46.2.2.1 w46.2.1.toInt8.toInt32
theorem tX12_sheet_B46 {n : Nat} {c : Nat × Nat} {x1 : Int32} {x2 : Int32} {x4 : Int32} {w46 : Int32 × Int32 × Int32 × zs} {o : _} {v : Option Value} {S' : zi_S} (h : fX12_sheet_B46 n x1 x2 x4 w46 = some o) (hn : ∀ w46, o = Sum.inl w46 → zr kX12_sheet 1 1 46 [some (.ref 161), some (.int x1), some (.int x2), none, some (.int x4), some (.int w46.1), some (.int w46.2.1), some (.int w46.2.2.1), none] [] (zS c w46.2.2.2) v S') (hx : ∀ z, o = Sum.inr z → (fun z => zr kX12_sheet 1 1 138 [none, some (.int x1), none, none, none, some (.int z.1), none, none, none] [] (zS c z.2) v S') z) : zr kX12_sheet 1 1 46 [some (.ref 161), some (.int x1), some (.int x2), none, some (.int x4), some (.int w46.1), some (.int w46.2.1), some (.int w46.2.2.1), none] [] (zS c w46.2.2.2) v S' := by
  unfold fX12_sheet_B46 at h
  refine zr_many 2 (pc' := 49) (L' := [some (.ref 161), some (.int x1), some (.int x2), none, some (.int x4), some (.int w46.1), some (.int w46.2.1), some (.int w46.2.2.1), none]) (st' := [.ref 161, .int w46.2.2.1]) (S1 := zS c w46.2.2.2) rfl ?_
  refine zq_get rfl (zh_161 _) rfl rfl rfl ?_
  refine zq_if2 (b := (w46.2.2.2.1 161 4) ≤ w46.2.2.1) rfl Iff.rfl rfl (fun g7 => ?_) (fun g7 => ?_)
  · rw [if_pos g7] at h
    obtain rfl := Option.some.inj h
    exact zr_wk [none, some (.int x1), none, none, none, some (.int w46.1), none, none, none] ⟨rfl, rfl, trivial⟩ (hx (w46.1, w46.2.2.2) rfl)
  · rw [if_neg g7] at h
    refine zr_many 1 (pc' := 56) (L' := [some (.ref 161), some (.int x1), some (.int x2), none, some (.int x4), some (.int w46.1), some (.int w46.2.1), some (.int w46.2.2.1), none]) (st' := [.int x1]) (S1 := zS c w46.2.2.2) rfl ?_
    refine zq_if1 (b := ¬ x1 = 0) rfl Iff.rfl rfl (fun g8 => ?_) (fun g8 => ?_)
    · rw [if_pos g8] at h
      refine zr_many 2 (pc' := 67) (L' := [some (.ref 161), some (.int x1), some (.int x2), none, some (.int x4), some (.int w46.1), some (.int w46.2.1), some (.int w46.2.2.1), none]) (st' := [.int (1 : Int32), .int x1]) (S1 := zS c w46.2.2.2) rfl ?_
      refine zq_if2 (b := ¬ x1 = (1 : Int32)) rfl Iff.rfl rfl (fun g9 => ?_) (fun g9 => ?_)
      · rw [if_pos g9] at h
        refine zr_many 1 (pc' := 78) (L' := [some (.ref 161), some (.int x1), some (.int x2), none, some (.int x4), some (.int w46.1), some (.int w46.2.1), some (.int w46.2.2.1), none]) (st' := [.int w46.2.1]) (S1 := zS c w46.2.2.2) rfl ?_
        exact zr_wk [some (.ref 161), some (.int x1), some (.int x2), none, some (.int x4), some (.int w46.1), some (.int w46.2.1), some (.int w46.2.2.1), none] ⟨rfl, rfl, rfl, rfl, rfl, rfl, rfl, trivial⟩ (tX12_sheet_J78 h hn hx)
      · rw [if_neg g9] at h
        refine zr_many 3 (pc' := 78) (L' := [some (.ref 161), some (.int x1), some (.int x2), none, some (.int x4), some (.int w46.1), some (.int w46.2.1), some (.int w46.2.2.1), none]) (st' := [.int w46.2.1.toInt16.toInt32]) (S1 := zS c w46.2.2.2) rfl ?_
        exact zr_wk [some (.ref 161), some (.int x1), some (.int x2), none, some (.int x4), some (.int w46.1), some (.int w46.2.1), some (.int w46.2.2.1), none] ⟨rfl, rfl, rfl, rfl, rfl, rfl, rfl, trivial⟩ (tX12_sheet_J78 h hn hx)
    · rw [if_neg g8] at h
      refine zr_many 3 (pc' := 78) (L' := [some (.ref 161), some (.int x1), some (.int x2), none, some (.int x4), some (.int w46.1), some (.int w46.2.1), some (.int w46.2.2.1), none]) (st' := [.int w46.2.1.toInt8.toInt32]) (S1 := zS c w46.2.2.2) rfl ?_
      exact zr_wk [some (.ref 161), some (.int x1), some (.int x2), none, some (.int x4), some (.int w46.1), some (.int w46.2.1), some (.int w46.2.2.1), none] ⟨rfl, rfl, rfl, rfl, rfl, rfl, rfl, trivial⟩ (tX12_sheet_J78 h hn hx)
def fX12_sheet_J150 (n : Nat) (s : zs) (y0 : Int32) : Option (Int32 × zs) := some (y0, s)
theorem tX12_sheet_J150 {n : Nat} {c : Nat × Nat} {s : zs} {y0 : Int32} {r : Int32} {s' : zs} (h : fX12_sheet_J150 n s y0 = some (r, s')) : zr kX12_sheet 1 1 150 [none, none, none, none, none, none, none, none, none] [.int y0] (zS c s) (some (.int r)) (zS c s') := by
  unfold fX12_sheet_J150 at h
  obtain ⟨rfl, rfl⟩ := Prod.mk.inj (Option.some.inj h)
  exact zq_iret rfl
def fX12_sheet_J37 (n : Nat) (s : zs) (x1 : Int32) (x2 : Int32) (x3 : Int32) (x4 : Int32) : Option (Int32 × zs) := zp (zl (fX12_sheet_B46 n x1 x2 x4) n ((0 : Int32), x3, (0 : Int32), s)) (fun w14 => if ¬ x1 = (3 : Int32) then fX12_sheet_J150 n w14.2 w14.1 else fX12_sheet_J150 n w14.2 (-3 : Int32))
theorem tX12_sheet_J37 {n : Nat} {c : Nat × Nat} {s : zs} {x1 : Int32} {x2 : Int32} {x3 : Int32} {x4 : Int32} {r : Int32} {s' : zs} (h : fX12_sheet_J37 n s x1 x2 x3 x4 = some (r, s')) : zr kX12_sheet 1 1 37 [some (.ref 161), some (.int x1), some (.int x2), some (.int x3), some (.int x4), none, none, none, none] [] (zS c s) (some (.int r)) (zS c s') := by
  unfold fX12_sheet_J37 at h
  refine zr_many 6 (pc' := 46) (L' := [some (.ref 161), some (.int x1), some (.int x2), some (.int x3), some (.int x4), some (.int (0 : Int32)), some (.int x3), some (.int (0 : Int32)), none]) (st' := []) (S1 := zS c s) rfl ?_
  obtain ⟨w14, g16, h⟩ := zp_inv h
  refine zr_wk [some (.ref 161), some (.int x1), some (.int x2), none, some (.int x4), some (.int (0 : Int32)), some (.int x3), some (.int (0 : Int32)), none] ⟨rfl, rfl, rfl, rfl, rfl, rfl, rfl, trivial⟩ (zl_cert (Z := fun w46 => zr kX12_sheet 1 1 46 [some (.ref 161), some (.int x1), some (.int x2), none, some (.int x4), some (.int w46.1), some (.int w46.2.1), some (.int w46.2.2.1), none] [] (zS c w46.2.2.2) _ _) (Y := (fun z => zr kX12_sheet 1 1 138 [none, some (.int x1), none, none, none, some (.int z.1), none, none, none] [] (zS c z.2) _ _)) (fun w o h1 h2 h3 => tX12_sheet_B46 h1 h2 h3) n _ _ g16 ?_)
  show zr kX12_sheet 1 1 138 [none, some (.int x1), none, none, none, some (.int w14.1), none, none, none] [] (zS c w14.2) _ _
  refine zr_many 2 (pc' := 140) (L' := [none, some (.int x1), none, none, none, some (.int w14.1), none, none, none]) (st' := [.int (3 : Int32), .int x1]) (S1 := zS c w14.2) rfl ?_
  refine zq_if2 (b := ¬ x1 = (3 : Int32)) rfl Iff.rfl rfl (fun g15 => ?_) (fun g15 => ?_)
  · rw [if_pos g15] at h
    refine zr_many 1 (pc' := 150) (L' := [none, some (.int x1), none, none, none, some (.int w14.1), none, none, none]) (st' := [.int w14.1]) (S1 := zS c w14.2) rfl ?_
    exact zr_wk [none, none, none, none, none, none, none, none, none] trivial (tX12_sheet_J150 h)
  · rw [if_neg g15] at h
    refine zr_many 2 (pc' := 150) (L' := [none, some (.int x1), none, none, none, some (.int w14.1), none, none, none]) (st' := [.int (-3 : Int32)]) (S1 := zS c w14.2) rfl ?_
    exact zr_wk [none, none, none, none, none, none, none, none, none] trivial (tX12_sheet_J150 h)
def fX12_sheet (n : Nat) (s : zs) (x1 : Int32) (x2 : Int32) (x3 : Int32) (x4 : Int32) : Option (Int32 × zs) := zp (fX12_in n (zsi s 161 0 (0 : Int32)) x1.toInt64 (0 : Int64) (3 : Int64)) (fun r1 => if r1 = 0 then fX12_sheet_J23 n (zsi s 161 0 (0 : Int32)) else if x2 ≤ (8 : Int32) then if x1 = (3 : Int32) then fX12_sheet_J37 n (zsi s 161 0 (0 : Int32)) x1 x2 x3 x4 else if 0 ≤ x2 then fX12_sheet_J37 n (zsi s 161 0 (0 : Int32)) x1 x2 x3 x4 else some ((-2 : Int32), (zsi s 161 0 (0 : Int32))) else fX12_sheet_J23 n (zsi s 161 0 (0 : Int32)))
theorem tX12_sheet {n : Nat} {c : Nat × Nat} {s : zs} {x1 : Int32} {x2 : Int32} {x3 : Int32} {x4 : Int32} {r : Int32} {s' : zs} (h : fX12_sheet n s x1 x2 x3 x4 = some (r, s')) : zc 2 2452 [.ref 161, .int x1, .int x2, .int x3, .int x4] (zS c s) (some (.int r)) (zS c s') := by
  refine zc_of (k := kX12_sheet) (rt := 1) (L := [some (.ref 161), some (.int x1), some (.int x2), some (.int x3), some (.int x4), none, none, none, none]) zm_2452.1 rfl rfl (by decide) rfl rfl ?_
  unfold fX12_sheet at h
  refine zr_many 2 (pc' := 2) (L' := [some (.ref 161), some (.int x1), some (.int x2), some (.int x3), some (.int x4), none, none, none, none]) (st' := [.int (0 : Int32), .ref 161]) (S1 := zS c s) rfl ?_
  refine zq_put (s' := (zsi s 161 0 (0 : Int32))) rfl (zh_161 _) rfl rfl rfl rfl zsi_ne rfl ?_
  refine zr_many 4 (pc' := 11) (L' := [some (.ref 161), some (.int x1), some (.int x2), some (.int x3), some (.int x4), none, none, none, none]) (st' := [.long (3 : Int64), .long (0 : Int64), .long x1.toInt64]) (S1 := zS c (zsi s 161 0 (0 : Int32))) rfl ?_
  obtain ⟨r1, g3, h⟩ := zp_inv h
  refine zq_scall1 rfl (by decide) rfl rfl (tX12_in g3) rfl ?_
  refine zq_if1 (b := r1 = 0) rfl Iff.rfl rfl (fun g4 => ?_) (fun g4 => ?_)
  · rw [if_pos g4] at h
    exact zr_wk [none, none, none, none, none, none, none, none, none] trivial (tX12_sheet_J23 h)
  · rw [if_neg g4] at h
    refine zr_many 2 (pc' := 20) (L' := [some (.ref 161), some (.int x1), some (.int x2), some (.int x3), some (.int x4), none, none, none, none]) (st' := [.int (8 : Int32), .int x2]) (S1 := zS c (zsi s 161 0 (0 : Int32))) rfl ?_
    refine zq_if2 (b := x2 ≤ (8 : Int32)) rfl Iff.rfl rfl (fun g5 => ?_) (fun g5 => ?_)
    · rw [if_pos g5] at h
      refine zr_many 2 (pc' := 27) (L' := [some (.ref 161), some (.int x1), some (.int x2), some (.int x3), some (.int x4), none, none, none, none]) (st' := [.int (3 : Int32), .int x1]) (S1 := zS c (zsi s 161 0 (0 : Int32))) rfl ?_
      refine zq_if2 (b := x1 = (3 : Int32)) rfl Iff.rfl rfl (fun g6 => ?_) (fun g6 => ?_)
      · rw [if_pos g6] at h
        exact zr_wk [some (.ref 161), some (.int x1), some (.int x2), some (.int x3), some (.int x4), none, none, none, none] ⟨rfl, rfl, rfl, rfl, rfl, trivial⟩ (tX12_sheet_J37 h)
      · rw [if_neg g6] at h
        refine zr_many 1 (pc' := 31) (L' := [some (.ref 161), some (.int x1), some (.int x2), some (.int x3), some (.int x4), none, none, none, none]) (st' := [.int x2]) (S1 := zS c (zsi s 161 0 (0 : Int32))) rfl ?_
        refine zq_if1 (b := 0 ≤ x2) rfl Iff.rfl rfl (fun g17 => ?_) (fun g17 => ?_)
        · rw [if_pos g17] at h
          exact zr_wk [some (.ref 161), some (.int x1), some (.int x2), some (.int x3), some (.int x4), none, none, none, none] ⟨rfl, rfl, rfl, rfl, rfl, trivial⟩ (tX12_sheet_J37 h)
        · rw [if_neg g17] at h
          refine zr_many 1 (pc' := 36) (L' := [some (.ref 161), some (.int x1), some (.int x2), some (.int x3), some (.int x4), none, none, none, none]) (st' := [.int (-2 : Int32)]) (S1 := zS c (zsi s 161 0 (0 : Int32))) rfl ?_
          obtain ⟨rfl, rfl⟩ := Prod.mk.inj (Option.some.inj h)
          exact zq_iret rfl
    · rw [if_neg g5] at h
      exact zr_wk [none, none, none, none, none, none, none, none, none] trivial (tX12_sheet_J23 h)
def fX12_putsBy_B2 (n : Nat) (w2 : Int32 × zs) : Option ((Int32 × zs) ⊕ (zs)) := if (42 : Int32) ≤ w2.1 then some (Sum.inr w2.2) else cond (zi_in w2.1 42) (cond (zi_in (((42 : Int32) * (w2.2.1 161 31)) + w2.1) 672) (some (Sum.inl ((w2.1 + (1 : Int32)), (zsi w2.2 179 (((42 : Int32) * (w2.2.1 161 31)) + w2.1).toNatClampNeg (w2.2.1 169 w2.1.toNatClampNeg))))) none) none
theorem tX12_putsBy_B2 {n : Nat} {c : Nat × Nat} {w2 : Int32 × zs} {o : _} {v : Option Value} {S' : zi_S} (h : fX12_putsBy_B2 n w2 = some o) (hn : ∀ w2, o = Sum.inl w2 → zr kX12_putsBy 0 0 2 [some (.ref 161), some (.int w2.1)] [] (zS c w2.2) v S') (hx : ∀ z, o = Sum.inr z → (fun z => zr kX12_putsBy 0 0 34 [none, none] [] (zS c z) v S') z) : zr kX12_putsBy 0 0 2 [some (.ref 161), some (.int w2.1)] [] (zS c w2.2) v S' := by
  unfold fX12_putsBy_B2 at h
  refine zr_many 2 (pc' := 5) (L' := [some (.ref 161), some (.int w2.1)]) (st' := [.int (42 : Int32), .int w2.1]) (S1 := zS c w2.2) rfl ?_
  refine zq_if2 (b := (42 : Int32) ≤ w2.1) rfl Iff.rfl rfl (fun g1 => ?_) (fun g1 => ?_)
  · rw [if_pos g1] at h
    obtain rfl := Option.some.inj h
    exact zr_wk [none, none] trivial (hx w2.2 rfl)
  · rw [if_neg g1] at h
    refine zr_many 1 (pc' := 9) (L' := [some (.ref 161), some (.int w2.1)]) (st' := [.ref 161]) (S1 := zS c w2.2) rfl ?_
    refine zq_get rfl (zh_161 _) rfl rfl rfl ?_
    refine zr_many 2 (pc' := 15) (L' := [some (.ref 161), some (.int w2.1)]) (st' := [.ref 161, .int (42 : Int32), .ref 179]) (S1 := zS c w2.2) rfl ?_
    refine zq_get rfl (zh_161 _) rfl rfl rfl ?_
    refine zr_many 4 (pc' := 22) (L' := [some (.ref 161), some (.int w2.1)]) (st' := [.ref 161, .int (((42 : Int32) * (w2.2.1 161 31)) + w2.1), .ref 179]) (S1 := zS c w2.2) rfl ?_
    refine zq_get rfl (zh_161 _) rfl rfl rfl ?_
    refine zr_many 1 (pc' := 26) (L' := [some (.ref 161), some (.int w2.1)]) (st' := [.int w2.1, .ref 169, .int (((42 : Int32) * (w2.2.1 161 31)) + w2.1), .ref 179]) (S1 := zS c w2.2) rfl ?_
    obtain ⟨g2, h⟩ := zi_cond_inv h
    refine zq_ild rfl (zh_169 _) rfl g2 rfl ?_
    obtain ⟨g3, h⟩ := zi_cond_inv h
    refine zq_ist rfl zh_179 rfl g3 rfl ?_
    refine zr_many 2 (pc' := 2) (L' := [some (.ref 161), some (.int (w2.1 + (1 : Int32)))]) (st' := []) (S1 := zS c (zsi w2.2 179 (((42 : Int32) * (w2.2.1 161 31)) + w2.1).toNatClampNeg (w2.2.1 169 w2.1.toNatClampNeg))) rfl ?_
    obtain rfl := Option.some.inj h
    exact zr_wk [some (.ref 161), some (.int (w2.1 + (1 : Int32)))] ⟨rfl, rfl, trivial⟩ (hn ((w2.1 + (1 : Int32)), (zsi w2.2 179 (((42 : Int32) * (w2.2.1 161 31)) + w2.1).toNatClampNeg (w2.2.1 169 w2.1.toNatClampNeg))) rfl)
def fX12_putsBy (n : Nat) (s : zs) : Option zs := zp (zl (fX12_putsBy_B2 n) n ((0 : Int32), s)) (fun w4 => some w4)
theorem tX12_putsBy {n : Nat} {c : Nat × Nat} {s : zs} {s' : zs} (h : fX12_putsBy n s = some s') : zc 1 2453 [.ref 161] (zS c s) none (zS c s') := by
  refine zc_of (k := kX12_putsBy) (rt := 0) (L := [some (.ref 161), none]) zm_2453.1 rfl rfl (by decide) rfl rfl ?_
  unfold fX12_putsBy at h
  refine zr_many 2 (pc' := 2) (L' := [some (.ref 161), some (.int (0 : Int32))]) (st' := []) (S1 := zS c s) rfl ?_
  obtain ⟨w4, g5, h⟩ := zp_inv h
  refine zr_wk [some (.ref 161), some (.int (0 : Int32))] ⟨rfl, rfl, trivial⟩ (zl_cert (Z := fun w2 => zr kX12_putsBy 0 0 2 [some (.ref 161), some (.int w2.1)] [] (zS c w2.2) _ _) (Y := (fun z => zr kX12_putsBy 0 0 34 [none, none] [] (zS c z) _ _)) (fun w o h1 h2 h3 => tX12_putsBy_B2 h1 h2 h3) n _ _ g5 ?_)
  show zr kX12_putsBy 0 0 34 [none, none] [] (zS c w4) _ _
  obtain rfl := Option.some.inj h
  exact zq_vret rfl
def fX12_adds_J59 (n : Nat) (s : zs) (x1 : Int32) : Option (Int32 × zs) := some (x1, s)
theorem tX12_adds_J59 {n : Nat} {c : Nat × Nat} {s : zs} {x1 : Int32} {r : Int32} {s' : zs} (h : fX12_adds_J59 n s x1 = some (r, s')) : zr kX12_adds 1 0 59 [none, some (.int x1), none] [] (zS c s) (some (.int r)) (zS c s') := by
  unfold fX12_adds_J59 at h
  refine zr_many 1 (pc' := 60) (L' := [none, some (.int x1), none]) (st' := [.int x1]) (S1 := zS c s) rfl ?_
  obtain ⟨rfl, rfl⟩ := Prod.mk.inj (Option.some.inj h)
  exact zq_iret rfl
def fX12_adds_B21 (n : Nat) (x1 : Int32) (w21 : Int32 × zs) : Option ((Int32 × zs) ⊕ (zs)) := if (630 : Int32) ≤ w21.1 then some (Sum.inr w21.2) else cond (zi_in (w21.1 + (42 : Int32)) 672) (cond (zi_in w21.1 672) (some (Sum.inl ((w21.1 + (1 : Int32)), (zsi w21.2 179 w21.1.toNatClampNeg (w21.2.1 179 (w21.1 + (42 : Int32)).toNatClampNeg))))) none) none
theorem tX12_adds_B21 {n : Nat} {c : Nat × Nat} {x1 : Int32} {w21 : Int32 × zs} {o : _} {v : Option Value} {S' : zi_S} (h : fX12_adds_B21 n x1 w21 = some o) (hn : ∀ w21, o = Sum.inl w21 → zr kX12_adds 1 0 21 [some (.ref 161), some (.int x1), some (.int w21.1)] [] (zS c w21.2) v S') (hx : ∀ z, o = Sum.inr z → (fun z => zr kX12_adds 1 0 49 [some (.ref 161), some (.int x1), none] [] (zS c z) v S') z) : zr kX12_adds 1 0 21 [some (.ref 161), some (.int x1), some (.int w21.1)] [] (zS c w21.2) v S' := by
  unfold fX12_adds_B21 at h
  refine zr_many 2 (pc' := 25) (L' := [some (.ref 161), some (.int x1), some (.int w21.1)]) (st' := [.int (630 : Int32), .int w21.1]) (S1 := zS c w21.2) rfl ?_
  refine zq_if2 (b := (630 : Int32) ≤ w21.1) rfl Iff.rfl rfl (fun g2 => ?_) (fun g2 => ?_)
  · rw [if_pos g2] at h
    obtain rfl := Option.some.inj h
    exact zr_wk [some (.ref 161), some (.int x1), none] ⟨rfl, rfl, trivial⟩ (hx w21.2 rfl)
  · rw [if_neg g2] at h
    refine zr_many 1 (pc' := 29) (L' := [some (.ref 161), some (.int x1), some (.int w21.1)]) (st' := [.ref 161]) (S1 := zS c w21.2) rfl ?_
    refine zq_get rfl (zh_161 _) rfl rfl rfl ?_
    refine zr_many 2 (pc' := 34) (L' := [some (.ref 161), some (.int x1), some (.int w21.1)]) (st' := [.ref 161, .int w21.1, .ref 179]) (S1 := zS c w21.2) rfl ?_
    refine zq_get rfl (zh_161 _) rfl rfl rfl ?_
    refine zr_many 3 (pc' := 41) (L' := [some (.ref 161), some (.int x1), some (.int w21.1)]) (st' := [.int (w21.1 + (42 : Int32)), .ref 179, .int w21.1, .ref 179]) (S1 := zS c w21.2) rfl ?_
    obtain ⟨g3, h⟩ := zi_cond_inv h
    refine zq_ild rfl (zh_179 _) rfl g3 rfl ?_
    obtain ⟨g4, h⟩ := zi_cond_inv h
    refine zq_ist rfl zh_179 rfl g4 rfl ?_
    refine zr_many 2 (pc' := 21) (L' := [some (.ref 161), some (.int x1), some (.int (w21.1 + (1 : Int32)))]) (st' := []) (S1 := zS c (zsi w21.2 179 w21.1.toNatClampNeg (w21.2.1 179 (w21.1 + (42 : Int32)).toNatClampNeg))) rfl ?_
    obtain rfl := Option.some.inj h
    exact zr_wk [some (.ref 161), some (.int x1), some (.int (w21.1 + (1 : Int32)))] ⟨rfl, rfl, rfl, trivial⟩ (hn ((w21.1 + (1 : Int32)), (zsi w21.2 179 w21.1.toNatClampNeg (w21.2.1 179 (w21.1 + (42 : Int32)).toNatClampNeg))) rfl)
def fX12_adds (n : Nat) (s : zs) (x1 : Int32) : Option (Int32 × zs) := if ((zsi s 161 31 ((s.1 161 31) + (1 : Int32))).1 161 31) ≤ (15 : Int32) then fX12_adds_J59 n (zsi s 161 31 ((s.1 161 31) + (1 : Int32))) x1 else zp (zl (fX12_adds_B21 n x1) n ((0 : Int32), (zsi s 161 31 ((s.1 161 31) + (1 : Int32))))) (fun w5 => fX12_adds_J59 n (zsi w5 161 31 ((w5.1 161 31) - (1 : Int32))) x1)
theorem tX12_adds {n : Nat} {c : Nat × Nat} {s : zs} {x1 : Int32} {r : Int32} {s' : zs} (h : fX12_adds n s x1 = some (r, s')) : zc 1 2454 [.ref 161, .int x1] (zS c s) (some (.int r)) (zS c s') := by
  refine zc_of (k := kX12_adds) (rt := 1) (L := [some (.ref 161), some (.int x1), none]) zm_2454.1 rfl rfl (by decide) rfl rfl ?_
  unfold fX12_adds at h
  refine zr_many 2 (pc' := 2) (L' := [some (.ref 161), some (.int x1), none]) (st' := [.ref 161, .ref 161]) (S1 := zS c s) rfl ?_
  refine zq_get rfl (zh_161 _) rfl rfl rfl ?_
  refine zr_many 2 (pc' := 7) (L' := [some (.ref 161), some (.int x1), none]) (st' := [.int ((s.1 161 31) + (1 : Int32)), .ref 161]) (S1 := zS c s) rfl ?_
  refine zq_put (s' := (zsi s 161 31 ((s.1 161 31) + (1 : Int32)))) rfl (zh_161 _) rfl rfl rfl rfl zsi_ne rfl ?_
  refine zr_many 1 (pc' := 11) (L' := [some (.ref 161), some (.int x1), none]) (st' := [.ref 161]) (S1 := zS c (zsi s 161 31 ((s.1 161 31) + (1 : Int32)))) rfl ?_
  refine zq_get rfl (zh_161 _) rfl rfl rfl ?_
  refine zr_many 1 (pc' := 16) (L' := [some (.ref 161), some (.int x1), none]) (st' := [.int (15 : Int32), .int ((zsi s 161 31 ((s.1 161 31) + (1 : Int32))).1 161 31)]) (S1 := zS c (zsi s 161 31 ((s.1 161 31) + (1 : Int32)))) rfl ?_
  refine zq_if2 (b := ((zsi s 161 31 ((s.1 161 31) + (1 : Int32))).1 161 31) ≤ (15 : Int32)) rfl Iff.rfl rfl (fun g1 => ?_) (fun g1 => ?_)
  · rw [if_pos g1] at h
    exact zr_wk [none, some (.int x1), none] ⟨rfl, trivial⟩ (tX12_adds_J59 h)
  · rw [if_neg g1] at h
    refine zr_many 2 (pc' := 21) (L' := [some (.ref 161), some (.int x1), some (.int (0 : Int32))]) (st' := []) (S1 := zS c (zsi s 161 31 ((s.1 161 31) + (1 : Int32)))) rfl ?_
    obtain ⟨w5, g6, h⟩ := zp_inv h
    refine zr_wk [some (.ref 161), some (.int x1), some (.int (0 : Int32))] ⟨rfl, rfl, rfl, trivial⟩ (zl_cert (Z := fun w21 => zr kX12_adds 1 0 21 [some (.ref 161), some (.int x1), some (.int w21.1)] [] (zS c w21.2) _ _) (Y := (fun z => zr kX12_adds 1 0 49 [some (.ref 161), some (.int x1), none] [] (zS c z) _ _)) (fun w o h1 h2 h3 => tX12_adds_B21 h1 h2 h3) n _ _ g6 ?_)
    show zr kX12_adds 1 0 49 [some (.ref 161), some (.int x1), none] [] (zS c w5) _ _
    refine zr_many 2 (pc' := 51) (L' := [some (.ref 161), some (.int x1), none]) (st' := [.ref 161, .ref 161]) (S1 := zS c w5) rfl ?_
    refine zq_get rfl (zh_161 _) rfl rfl rfl ?_
    refine zr_many 2 (pc' := 56) (L' := [some (.ref 161), some (.int x1), none]) (st' := [.int ((w5.1 161 31) - (1 : Int32)), .ref 161]) (S1 := zS c w5) rfl ?_
    refine zq_put (s' := (zsi w5 161 31 ((w5.1 161 31) - (1 : Int32)))) rfl (zh_161 _) rfl rfl rfl rfl zsi_ne rfl ?_
    exact zr_wk [none, some (.int x1), none] ⟨rfl, trivial⟩ (tX12_adds_J59 h)
def fX12_counts_J13 (n : Nat) (s : zs) (y0 : Int32) : Option (Int32 × zs) := some (y0, s)
theorem tX12_counts_J13 {n : Nat} {c : Nat × Nat} {s : zs} {y0 : Int32} {r : Int32} {s' : zs} (h : fX12_counts_J13 n s y0 = some (r, s')) : zr kX12_counts 1 1 13 [none, none] [.int y0] (zS c s) (some (.int r)) (zS c s') := by
  unfold fX12_counts_J13 at h
  obtain ⟨rfl, rfl⟩ := Prod.mk.inj (Option.some.inj h)
  exact zq_iret rfl
def fX12_counts (n : Nat) (s : zs) (x1 : Int32) : Option (Int32 × zs) := if 0 ≤ x1 then zb (fX12_adds n s x1) (fun r2 s3 => fX12_counts_J13 n s3 r2) else fX12_counts_J13 n s x1
theorem tX12_counts {n : Nat} {c : Nat × Nat} {s : zs} {x1 : Int32} {r : Int32} {s' : zs} (h : fX12_counts n s x1 = some (r, s')) : zc 2 2455 [.ref 161, .int x1] (zS c s) (some (.int r)) (zS c s') := by
  refine zc_of (k := kX12_counts) (rt := 1) (L := [some (.ref 161), some (.int x1)]) zm_2455.1 rfl rfl (by decide) rfl rfl ?_
  unfold fX12_counts at h
  refine zr_many 1 (pc' := 1) (L' := [some (.ref 161), some (.int x1)]) (st' := [.int x1]) (S1 := zS c s) rfl ?_
  refine zq_if1 (b := 0 ≤ x1) rfl Iff.rfl rfl (fun g1 => ?_) (fun g1 => ?_)
  · rw [if_pos g1] at h
    refine zr_many 2 (pc' := 10) (L' := [some (.ref 161), some (.int x1)]) (st' := [.int x1, .ref 161]) (S1 := zS c s) rfl ?_
    obtain ⟨r2, s3, g4, h⟩ := zb_inv h
    refine zq_call1 rfl rfl (zh_161 _) rfl rfl rfl (tX12_adds g4) rfl ?_
    exact zr_wk [none, none] trivial (tX12_counts_J13 h)
  · rw [if_neg g1] at h
    refine zr_many 2 (pc' := 13) (L' := [some (.ref 161), some (.int x1)]) (st' := [.int x1]) (S1 := zS c s) rfl ?_
    exact zr_wk [none, none] trivial (tX12_counts_J13 h)
def fX12_undo_B26 (n : Nat) (w26 : Int32 × zs) : Option ((Int32 × zs) ⊕ (zs)) := if (42 : Int32) ≤ w26.1 then some (Sum.inr w26.2) else cond (zi_in (((42 : Int32) * (w26.2.1 161 31)) + w26.1) 672) (cond (zi_in w26.1 42) (some (Sum.inl ((w26.1 + (1 : Int32)), (zsi w26.2 169 w26.1.toNatClampNeg (w26.2.1 179 (((42 : Int32) * (w26.2.1 161 31)) + w26.1).toNatClampNeg))))) none) none
theorem tX12_undo_B26 {n : Nat} {c : Nat × Nat} {w26 : Int32 × zs} {o : _} {v : Option Value} {S' : zi_S} (h : fX12_undo_B26 n w26 = some o) (hn : ∀ w26, o = Sum.inl w26 → zr kX12_undo 1 0 26 [some (.ref 161), some (.int w26.1)] [] (zS c w26.2) v S') (hx : ∀ z, o = Sum.inr z → (fun z => zr kX12_undo 1 0 58 [some (.ref 161), none] [] (zS c z) v S') z) : zr kX12_undo 1 0 26 [some (.ref 161), some (.int w26.1)] [] (zS c w26.2) v S' := by
  unfold fX12_undo_B26 at h
  refine zr_many 2 (pc' := 29) (L' := [some (.ref 161), some (.int w26.1)]) (st' := [.int (42 : Int32), .int w26.1]) (S1 := zS c w26.2) rfl ?_
  refine zq_if2 (b := (42 : Int32) ≤ w26.1) rfl Iff.rfl rfl (fun g4 => ?_) (fun g4 => ?_)
  · rw [if_pos g4] at h
    obtain rfl := Option.some.inj h
    exact zr_wk [some (.ref 161), none] ⟨rfl, trivial⟩ (hx w26.2 rfl)
  · rw [if_neg g4] at h
    refine zr_many 1 (pc' := 33) (L' := [some (.ref 161), some (.int w26.1)]) (st' := [.ref 161]) (S1 := zS c w26.2) rfl ?_
    refine zq_get rfl (zh_161 _) rfl rfl rfl ?_
    refine zr_many 2 (pc' := 38) (L' := [some (.ref 161), some (.int w26.1)]) (st' := [.ref 161, .int w26.1, .ref 169]) (S1 := zS c w26.2) rfl ?_
    refine zq_get rfl (zh_161 _) rfl rfl rfl ?_
    refine zr_many 2 (pc' := 44) (L' := [some (.ref 161), some (.int w26.1)]) (st' := [.ref 161, .int (42 : Int32), .ref 179, .int w26.1, .ref 169]) (S1 := zS c w26.2) rfl ?_
    refine zq_get rfl (zh_161 _) rfl rfl rfl ?_
    refine zr_many 3 (pc' := 50) (L' := [some (.ref 161), some (.int w26.1)]) (st' := [.int (((42 : Int32) * (w26.2.1 161 31)) + w26.1), .ref 179, .int w26.1, .ref 169]) (S1 := zS c w26.2) rfl ?_
    obtain ⟨g5, h⟩ := zi_cond_inv h
    refine zq_ild rfl (zh_179 _) rfl g5 rfl ?_
    obtain ⟨g6, h⟩ := zi_cond_inv h
    refine zq_ist rfl zh_169 rfl g6 rfl ?_
    refine zr_many 2 (pc' := 26) (L' := [some (.ref 161), some (.int (w26.1 + (1 : Int32)))]) (st' := []) (S1 := zS c (zsi w26.2 169 w26.1.toNatClampNeg (w26.2.1 179 (((42 : Int32) * (w26.2.1 161 31)) + w26.1).toNatClampNeg))) rfl ?_
    obtain rfl := Option.some.inj h
    exact zr_wk [some (.ref 161), some (.int (w26.1 + (1 : Int32)))] ⟨rfl, rfl, trivial⟩ (hn ((w26.1 + (1 : Int32)), (zsi w26.2 169 w26.1.toNatClampNeg (w26.2.1 179 (((42 : Int32) * (w26.2.1 161 31)) + w26.1).toNatClampNeg))) rfl)
def fX12_undo (n : Nat) (s : zs) : Option (Int32 × zs) := if ¬ ((zsi s 161 0 (0 : Int32)).1 161 31) = 0 then zt (zsi s 161 0 (0 : Int32)) (fun s2 => zp (zl (fX12_undo_B26 n) n ((0 : Int32), (zsi s2 161 31 ((s2.1 161 31) - (1 : Int32))))) (fun w7 => some ((w7.1 161 31), w7))) else some ((-1 : Int32), (zsi s 161 0 (0 : Int32)))
theorem tX12_undo {n : Nat} {c : Nat × Nat} {s : zs} {r : Int32} {s' : zs} (h : fX12_undo n s = some (r, s')) : zc 1 2456 [.ref 161] (zS c s) (some (.int r)) (zS c s') := by
  refine zc_of (k := kX12_undo) (rt := 1) (L := [some (.ref 161), none]) zm_2456.1 rfl rfl (by decide) rfl rfl ?_
  unfold fX12_undo at h
  refine zr_many 2 (pc' := 2) (L' := [some (.ref 161), none]) (st' := [.int (0 : Int32), .ref 161]) (S1 := zS c s) rfl ?_
  refine zq_put (s' := (zsi s 161 0 (0 : Int32))) rfl (zh_161 _) rfl rfl rfl rfl zsi_ne rfl ?_
  refine zr_many 1 (pc' := 6) (L' := [some (.ref 161), none]) (st' := [.ref 161]) (S1 := zS c (zsi s 161 0 (0 : Int32))) rfl ?_
  refine zq_get rfl (zh_161 _) rfl rfl rfl ?_
  refine zq_if1 (b := ¬ ((zsi s 161 0 (0 : Int32)).1 161 31) = 0) rfl Iff.rfl rfl (fun g1 => ?_) (fun g1 => ?_)
  · rw [if_pos g1] at h
    refine zr_many 2 (pc' := 16) (L' := [some (.ref 161), none]) (st' := [.ref 161, .ref 161]) (S1 := zS c (zsi s 161 0 (0 : Int32))) rfl ?_
    refine zq_get rfl (zh_161 _) rfl rfl rfl ?_
    refine zr_many 2 (pc' := 21) (L' := [some (.ref 161), none]) (st' := [.int (((zsi s 161 0 (0 : Int32)).1 161 31) - (1 : Int32)), .ref 161]) (S1 := zS c (zsi s 161 0 (0 : Int32))) rfl ?_
    obtain ⟨s2, e3, h⟩ := zt_in h
    rw [← e3]
    refine zq_put (s' := (zsi s2 161 31 ((s2.1 161 31) - (1 : Int32)))) rfl (zh_161 _) rfl rfl rfl rfl zsi_ne rfl ?_
    refine zr_many 2 (pc' := 26) (L' := [some (.ref 161), some (.int (0 : Int32))]) (st' := []) (S1 := zS c (zsi s2 161 31 ((s2.1 161 31) - (1 : Int32)))) rfl ?_
    obtain ⟨w7, g8, h⟩ := zp_inv h
    refine zr_wk [some (.ref 161), some (.int (0 : Int32))] ⟨rfl, rfl, trivial⟩ (zl_cert (Z := fun w26 => zr kX12_undo 1 0 26 [some (.ref 161), some (.int w26.1)] [] (zS c w26.2) _ _) (Y := (fun z => zr kX12_undo 1 0 58 [some (.ref 161), none] [] (zS c z) _ _)) (fun w o h1 h2 h3 => tX12_undo_B26 h1 h2 h3) n _ _ g8 ?_)
    show zr kX12_undo 1 0 58 [some (.ref 161), none] [] (zS c w7) _ _
    refine zr_many 1 (pc' := 59) (L' := [some (.ref 161), none]) (st' := [.ref 161]) (S1 := zS c w7) rfl ?_
    refine zq_get rfl (zh_161 _) rfl rfl rfl ?_
    obtain ⟨rfl, rfl⟩ := Prod.mk.inj (Option.some.inj h)
    exact zq_iret rfl
  · rw [if_neg g1] at h
    refine zr_many 1 (pc' := 13) (L' := [some (.ref 161), none]) (st' := [.int (-1 : Int32)]) (S1 := zS c (zsi s 161 0 (0 : Int32))) rfl ?_
    obtain ⟨rfl, rfl⟩ := Prod.mk.inj (Option.some.inj h)
    exact zq_iret rfl
def fX12_hiresTo_J16 (n : Nat) (s : zs) : Option (Int32 × zs) := some ((-1 : Int32), s)
theorem tX12_hiresTo_J16 {n : Nat} {c : Nat × Nat} {s : zs} {r : Int32} {s' : zs} (h : fX12_hiresTo_J16 n s = some (r, s')) : zr kX12_hiresTo 1 2 16 [none, none, none, none, none] [] (zS c s) (some (.int r)) (zS c s') := by
  unfold fX12_hiresTo_J16 at h
  refine zr_many 1 (pc' := 17) (L' := [none, none, none, none, none]) (st' := [.int (-1 : Int32)]) (S1 := zS c s) rfl ?_
  obtain ⟨rfl, rfl⟩ := Prod.mk.inj (Option.some.inj h)
  exact zq_iret rfl
def fX12_hiresTo_J44 (n : Nat) (s : zs) : Option (Int32 × zs) := some ((-2 : Int32), s)
theorem tX12_hiresTo_J44 {n : Nat} {c : Nat × Nat} {s : zs} {r : Int32} {s' : zs} (h : fX12_hiresTo_J44 n s = some (r, s')) : zr kX12_hiresTo 1 2 44 [none, none, none, none, none] [] (zS c s) (some (.int r)) (zS c s') := by
  unfold fX12_hiresTo_J44 at h
  refine zr_many 1 (pc' := 46) (L' := [none, none, none, none, none]) (st' := [.int (-2 : Int32)]) (S1 := zS c s) rfl ?_
  obtain ⟨rfl, rfl⟩ := Prod.mk.inj (Option.some.inj h)
  exact zq_iret rfl
def fX12_hiresTo (n : Nat) (s : zs) (m1 : Nat) (x2 : Int32) (x3 : Int32) : Option (Int32 × zs) := zp (fX12_isBarge n s x2) (fun r1 => if r1 = 0 then fX12_hiresTo_J16 n s else zp (fX12_isSinger n s x3) (fun r5 => if ¬ r5 = 0 then zp (fX12_crewOf n s m1 x3) (fun r9 => if 0 ≤ r9 then fX12_hiresTo_J44 n s else cond (zi_in (((10 : Int32) + ((3 : Int32) * x3)) + (0 : Int32)) 42) (zp (fX12_placeOf n s m1 x2) (fun r14 => if (s.1 m1 (((10 : Int32) + ((3 : Int32) * x3)) + (0 : Int32)).toNatClampNeg) = r14 then cond (zi_in (((34 : Int32) + ((2 : Int32) * x2)) + (1 : Int32)) 42) (cond (zi_in x3 8) (if (s.1 167 x3.toNatClampNeg) ≤ (s.1 m1 (((34 : Int32) + ((2 : Int32) * x2)) + (1 : Int32)).toNatClampNeg) then cond (zi_in (((34 : Int32) + ((2 : Int32) * x2)) + (1 : Int32)) 42) (cond (zi_in x3 8) (cond (zi_in (((34 : Int32) + ((2 : Int32) * x2)) + (1 : Int32)) 42) (zt (zsi s m1 (((34 : Int32) + ((2 : Int32) * x2)) + (1 : Int32)).toNatClampNeg ((s.1 m1 (((34 : Int32) + ((2 : Int32) * x2)) + (1 : Int32)).toNatClampNeg) - (s.1 167 x3.toNatClampNeg))) (fun s23 => cond (zi_in (((10 : Int32) + ((3 : Int32) * x3)) + (1 : Int32)) 42) (cond (zi_in (((34 : Int32) + ((2 : Int32) * x2)) + (1 : Int32)) 42) (some (((zsi s23 m1 (((10 : Int32) + ((3 : Int32) * x3)) + (1 : Int32)).toNatClampNeg x2).1 m1 (((34 : Int32) + ((2 : Int32) * x2)) + (1 : Int32)).toNatClampNeg), (zsi s23 m1 (((10 : Int32) + ((3 : Int32) * x3)) + (1 : Int32)).toNatClampNeg x2))) none) none)) none) none) none else some ((-3 : Int32), s)) none) none else fX12_hiresTo_J44 n s)) none) else fX12_hiresTo_J16 n s))
theorem tX12_hiresTo {n : Nat} {c : Nat × Nat} {s : zs} {m1 : Nat} {x2 : Int32} {x3 : Int32} {r : Int32} {s' : zs} (hm1 : zR m1) (h : fX12_hiresTo n s m1 x2 x3 = some (r, s')) : zc 3 2457 [.ref 161, .ref m1, .int x2, .int x3] (zS c s) (some (.int r)) (zS c s') := by
  refine zc_of (k := kX12_hiresTo) (rt := 1) (L := [some (.ref 161), some (.ref m1), some (.int x2), some (.int x3), none]) zm_2457.1 rfl rfl (by decide) rfl rfl ?_
  unfold fX12_hiresTo at h
  refine zr_many 2 (pc' := 2) (L' := [some (.ref 161), some (.ref m1), some (.int x2), some (.int x3), none]) (st' := [.int x2, .ref 161]) (S1 := zS c s) rfl ?_
  obtain ⟨r1, g3, h⟩ := zp_inv h
  refine zq_call1 rfl rfl (zh_161 _) rfl rfl rfl (tX12_isBarge g3) rfl ?_
  refine zq_if1 (b := r1 = 0) rfl Iff.rfl rfl (fun g4 => ?_) (fun g4 => ?_)
  · rw [if_pos g4] at h
    exact zr_wk [none, none, none, none, none] trivial (tX12_hiresTo_J16 h)
  · rw [if_neg g4] at h
    refine zr_many 2 (pc' := 10) (L' := [some (.ref 161), some (.ref m1), some (.int x2), some (.int x3), none]) (st' := [.int x3, .ref 161]) (S1 := zS c s) rfl ?_
    obtain ⟨r5, g7, h⟩ := zp_inv h
    refine zq_call1 rfl rfl (zh_161 _) rfl rfl rfl (tX12_isSinger g7) rfl ?_
    refine zq_if1 (b := ¬ r5 = 0) rfl Iff.rfl rfl (fun g8 => ?_) (fun g8 => ?_)
    · rw [if_pos g8] at h
      refine zr_many 2 (pc' := 20) (L' := [some (.ref 161), some (.ref m1), some (.int x2), some (.int x3), none]) (st' := [.int x3, .ref m1]) (S1 := zS c s) rfl ?_
      obtain ⟨r9, g11, h⟩ := zp_inv h
      refine zq_scall1 rfl (by decide) rfl rfl ((tX12_crewOf hm1 g11).up (by decide)) rfl ?_
      refine zq_if1 (b := 0 ≤ r9) rfl Iff.rfl rfl (fun g12 => ?_) (fun g12 => ?_)
      · rw [if_pos g12] at h
        exact zr_wk [none, none, none, none, none] trivial (tX12_hiresTo_J44 h)
      · rw [if_neg g12] at h
        refine zr_many 8 (pc' := 35) (L' := [some (.ref 161), some (.ref m1), some (.int x2), some (.int x3), none]) (st' := [.int (((10 : Int32) + ((3 : Int32) * x3)) + (0 : Int32)), .ref m1]) (S1 := zS c s) rfl ?_
        obtain ⟨g13, h⟩ := zi_cond_inv h
        refine zq_ild rfl (zhR hm1 _) (zR_lt hm1) g13 rfl ?_
        refine zr_many 2 (pc' := 38) (L' := [some (.ref 161), some (.ref m1), some (.int x2), some (.int x3), none]) (st' := [.int x2, .ref m1, .int (s.1 m1 (((10 : Int32) + ((3 : Int32) * x3)) + (0 : Int32)).toNatClampNeg)]) (S1 := zS c s) rfl ?_
        obtain ⟨r14, g16, h⟩ := zp_inv h
        refine zq_scall1 rfl (by decide) rfl rfl ((tX12_placeOf hm1 g16).up (by decide)) rfl ?_
        refine zq_if2 (b := (s.1 m1 (((10 : Int32) + ((3 : Int32) * x3)) + (0 : Int32)).toNatClampNeg) = r14) rfl Iff.rfl rfl (fun g17 => ?_) (fun g17 => ?_)
        · rw [if_pos g17] at h
          refine zr_many 10 (pc' := 60) (L' := [some (.ref 161), some (.ref m1), some (.int x2), some (.int x3), some (.int (((34 : Int32) + ((2 : Int32) * x2)) + (1 : Int32)))]) (st' := [.int (((34 : Int32) + ((2 : Int32) * x2)) + (1 : Int32)), .ref m1]) (S1 := zS c s) rfl ?_
          obtain ⟨g18, h⟩ := zi_cond_inv h
          refine zq_ild rfl (zhR hm1 _) (zR_lt hm1) g18 rfl ?_
          refine zr_many 1 (pc' := 62) (L' := [some (.ref 161), some (.ref m1), some (.int x2), some (.int x3), some (.int (((34 : Int32) + ((2 : Int32) * x2)) + (1 : Int32)))]) (st' := [.ref 161, .int (s.1 m1 (((34 : Int32) + ((2 : Int32) * x2)) + (1 : Int32)).toNatClampNeg)]) (S1 := zS c s) rfl ?_
          refine zq_get rfl (zh_161 _) rfl rfl rfl ?_
          refine zr_many 1 (pc' := 66) (L' := [some (.ref 161), some (.ref m1), some (.int x2), some (.int x3), some (.int (((34 : Int32) + ((2 : Int32) * x2)) + (1 : Int32)))]) (st' := [.int x3, .ref 167, .int (s.1 m1 (((34 : Int32) + ((2 : Int32) * x2)) + (1 : Int32)).toNatClampNeg)]) (S1 := zS c s) rfl ?_
          obtain ⟨g19, h⟩ := zi_cond_inv h
          refine zq_ild rfl (zh_167 _) rfl g19 rfl ?_
          refine zq_if2 (b := (s.1 167 x3.toNatClampNeg) ≤ (s.1 m1 (((34 : Int32) + ((2 : Int32) * x2)) + (1 : Int32)).toNatClampNeg)) rfl Iff.rfl rfl (fun g20 => ?_) (fun g20 => ?_)
          · rw [if_pos g20] at h
            refine zr_many 3 (pc' := 77) (L' := [some (.ref 161), some (.ref m1), some (.int x2), some (.int x3), some (.int (((34 : Int32) + ((2 : Int32) * x2)) + (1 : Int32)))]) (st' := [.int (((34 : Int32) + ((2 : Int32) * x2)) + (1 : Int32)), .ref m1, .int (((34 : Int32) + ((2 : Int32) * x2)) + (1 : Int32)), .ref m1]) (S1 := zS c s) rfl ?_
            obtain ⟨g21, h⟩ := zi_cond_inv h
            refine zq_ild rfl (zhR hm1 _) (zR_lt hm1) g21 rfl ?_
            refine zr_many 1 (pc' := 79) (L' := [some (.ref 161), some (.ref m1), some (.int x2), some (.int x3), some (.int (((34 : Int32) + ((2 : Int32) * x2)) + (1 : Int32)))]) (st' := [.ref 161, .int (s.1 m1 (((34 : Int32) + ((2 : Int32) * x2)) + (1 : Int32)).toNatClampNeg), .int (((34 : Int32) + ((2 : Int32) * x2)) + (1 : Int32)), .ref m1]) (S1 := zS c s) rfl ?_
            refine zq_get rfl (zh_161 _) rfl rfl rfl ?_
            refine zr_many 1 (pc' := 83) (L' := [some (.ref 161), some (.ref m1), some (.int x2), some (.int x3), some (.int (((34 : Int32) + ((2 : Int32) * x2)) + (1 : Int32)))]) (st' := [.int x3, .ref 167, .int (s.1 m1 (((34 : Int32) + ((2 : Int32) * x2)) + (1 : Int32)).toNatClampNeg), .int (((34 : Int32) + ((2 : Int32) * x2)) + (1 : Int32)), .ref m1]) (S1 := zS c s) rfl ?_
            obtain ⟨g22, h⟩ := zi_cond_inv h
            refine zq_ild rfl (zh_167 _) rfl g22 rfl ?_
            refine zr_many 1 (pc' := 85) (L' := [some (.ref 161), some (.ref m1), some (.int x2), some (.int x3), some (.int (((34 : Int32) + ((2 : Int32) * x2)) + (1 : Int32)))]) (st' := [.int ((s.1 m1 (((34 : Int32) + ((2 : Int32) * x2)) + (1 : Int32)).toNatClampNeg) - (s.1 167 x3.toNatClampNeg)), .int (((34 : Int32) + ((2 : Int32) * x2)) + (1 : Int32)), .ref m1]) (S1 := zS c s) rfl ?_
            obtain ⟨g26, h⟩ := zi_cond_inv h
            refine zq_ist rfl (zhR hm1) (zR_lt hm1) g26 rfl ?_
            refine zr_many 9 (pc' := 96) (L' := [some (.ref 161), some (.ref m1), some (.int x2), some (.int x3), some (.int (((34 : Int32) + ((2 : Int32) * x2)) + (1 : Int32)))]) (st' := [.int x2, .int (((10 : Int32) + ((3 : Int32) * x3)) + (1 : Int32)), .ref m1]) (S1 := zS c (zsi s m1 (((34 : Int32) + ((2 : Int32) * x2)) + (1 : Int32)).toNatClampNeg ((s.1 m1 (((34 : Int32) + ((2 : Int32) * x2)) + (1 : Int32)).toNatClampNeg) - (s.1 167 x3.toNatClampNeg)))) rfl ?_
            obtain ⟨s23, e24, h⟩ := zt_in h
            rw [← e24]
            obtain ⟨g27, h⟩ := zi_cond_inv h
            refine zq_ist rfl (zhR hm1) (zR_lt hm1) g27 rfl ?_
            refine zr_many 2 (pc' := 100) (L' := [some (.ref 161), some (.ref m1), some (.int x2), some (.int x3), some (.int (((34 : Int32) + ((2 : Int32) * x2)) + (1 : Int32)))]) (st' := [.int (((34 : Int32) + ((2 : Int32) * x2)) + (1 : Int32)), .ref m1]) (S1 := zS c (zsi s23 m1 (((10 : Int32) + ((3 : Int32) * x3)) + (1 : Int32)).toNatClampNeg x2)) rfl ?_
            obtain ⟨g25, h⟩ := zi_cond_inv h
            refine zq_ild rfl (zhR hm1 _) (zR_lt hm1) g25 rfl ?_
            obtain ⟨rfl, rfl⟩ := Prod.mk.inj (Option.some.inj h)
            exact zq_iret rfl
          · rw [if_neg g20] at h
            refine zr_many 1 (pc' := 72) (L' := [some (.ref 161), some (.ref m1), some (.int x2), some (.int x3), some (.int (((34 : Int32) + ((2 : Int32) * x2)) + (1 : Int32)))]) (st' := [.int (-3 : Int32)]) (S1 := zS c s) rfl ?_
            obtain ⟨rfl, rfl⟩ := Prod.mk.inj (Option.some.inj h)
            exact zq_iret rfl
        · rw [if_neg g17] at h
          exact zr_wk [none, none, none, none, none] trivial (tX12_hiresTo_J44 h)
    · rw [if_neg g8] at h
      exact zr_wk [none, none, none, none, none] trivial (tX12_hiresTo_J16 h)
def fX12_leaves (n : Nat) (s : zs) (m1 : Nat) (x2 : Int32) : Option (Int32 × zs) := zp (fX12_isSinger n s x2) (fun r1 => if ¬ r1 = 0 then zp (fX12_crewOf n s m1 x2) (fun r5 => if 0 ≤ r5 then zp (fX12_placeOf n s m1 r5) (fun r9 => cond (zi_in (((10 : Int32) + ((3 : Int32) * x2)) + (0 : Int32)) 42) (zt (zsi s m1 (((10 : Int32) + ((3 : Int32) * x2)) + (0 : Int32)).toNatClampNeg r9) (fun s12 => cond (zi_in (((10 : Int32) + ((3 : Int32) * x2)) + (1 : Int32)) 42) (some (r5, (zsi s12 m1 (((10 : Int32) + ((3 : Int32) * x2)) + (1 : Int32)).toNatClampNeg (-1 : Int32)))) none)) none) else some ((-2 : Int32), s)) else some ((-1 : Int32), s))
theorem tX12_leaves {n : Nat} {c : Nat × Nat} {s : zs} {m1 : Nat} {x2 : Int32} {r : Int32} {s' : zs} (hm1 : zR m1) (h : fX12_leaves n s m1 x2 = some (r, s')) : zc 3 2458 [.ref 161, .ref m1, .int x2] (zS c s) (some (.int r)) (zS c s') := by
  refine zc_of (k := kX12_leaves) (rt := 1) (L := [some (.ref 161), some (.ref m1), some (.int x2), none]) zm_2458.1 rfl rfl (by decide) rfl rfl ?_
  unfold fX12_leaves at h
  refine zr_many 2 (pc' := 2) (L' := [some (.ref 161), some (.ref m1), some (.int x2), none]) (st' := [.int x2, .ref 161]) (S1 := zS c s) rfl ?_
  obtain ⟨r1, g3, h⟩ := zp_inv h
  refine zq_call1 rfl rfl (zh_161 _) rfl rfl rfl (tX12_isSinger g3) rfl ?_
  refine zq_if1 (b := ¬ r1 = 0) rfl Iff.rfl rfl (fun g4 => ?_) (fun g4 => ?_)
  · rw [if_pos g4] at h
    refine zr_many 2 (pc' := 12) (L' := [some (.ref 161), some (.ref m1), some (.int x2), none]) (st' := [.int x2, .ref m1]) (S1 := zS c s) rfl ?_
    obtain ⟨r5, g7, h⟩ := zp_inv h
    refine zq_scall1 rfl (by decide) rfl rfl ((tX12_crewOf hm1 g7).up (by decide)) rfl ?_
    refine zr_many 2 (pc' := 17) (L' := [some (.ref 161), some (.ref m1), some (.int x2), some (.int r5)]) (st' := [.int r5]) (S1 := zS c s) rfl ?_
    refine zq_if1 (b := 0 ≤ r5) rfl Iff.rfl rfl (fun g8 => ?_) (fun g8 => ?_)
    · rw [if_pos g8] at h
      refine zr_many 10 (pc' := 34) (L' := [some (.ref 161), some (.ref m1), some (.int x2), some (.int r5)]) (st' := [.int r5, .ref m1, .int (((10 : Int32) + ((3 : Int32) * x2)) + (0 : Int32)), .ref m1]) (S1 := zS c s) rfl ?_
      obtain ⟨r9, g11, h⟩ := zp_inv h
      refine zq_scall1 rfl (by decide) rfl rfl ((tX12_placeOf hm1 g11).up (by decide)) rfl ?_
      obtain ⟨g14, h⟩ := zi_cond_inv h
      refine zq_ist rfl (zhR hm1) (zR_lt hm1) g14 rfl ?_
      refine zr_many 9 (pc' := 48) (L' := [some (.ref 161), some (.ref m1), some (.int x2), some (.int r5)]) (st' := [.int (-1 : Int32), .int (((10 : Int32) + ((3 : Int32) * x2)) + (1 : Int32)), .ref m1]) (S1 := zS c (zsi s m1 (((10 : Int32) + ((3 : Int32) * x2)) + (0 : Int32)).toNatClampNeg r9)) rfl ?_
      obtain ⟨s12, e13, h⟩ := zt_in h
      rw [← e13]
      obtain ⟨g15, h⟩ := zi_cond_inv h
      refine zq_ist rfl (zhR hm1) (zR_lt hm1) g15 rfl ?_
      refine zr_many 1 (pc' := 50) (L' := [some (.ref 161), some (.ref m1), some (.int x2), some (.int r5)]) (st' := [.int r5]) (S1 := zS c (zsi s12 m1 (((10 : Int32) + ((3 : Int32) * x2)) + (1 : Int32)).toNatClampNeg (-1 : Int32))) rfl ?_
      obtain ⟨rfl, rfl⟩ := Prod.mk.inj (Option.some.inj h)
      exact zq_iret rfl
    · rw [if_neg g8] at h
      refine zr_many 1 (pc' := 22) (L' := [some (.ref 161), some (.ref m1), some (.int x2), some (.int r5)]) (st' := [.int (-2 : Int32)]) (S1 := zS c s) rfl ?_
      obtain ⟨rfl, rfl⟩ := Prod.mk.inj (Option.some.inj h)
      exact zq_iret rfl
  · rw [if_neg g4] at h
    refine zr_many 1 (pc' := 9) (L' := [some (.ref 161), some (.ref m1), some (.int x2), none]) (st' := [.int (-1 : Int32)]) (S1 := zS c s) rfl ?_
    obtain ⟨rfl, rfl⟩ := Prod.mk.inj (Option.some.inj h)
    exact zq_iret rfl
def fX12_waterFor_J10 (n : Nat) (s : zs) (y0 : Int32) : Option Int32 := some y0
theorem tX12_waterFor_J10 {n : Nat} {c : Nat × Nat} {s : zs} {y0 : Int32} {r : Int32} (h : fX12_waterFor_J10 n s y0 = some r) : zr kX12_waterFor 1 0 10 [none, none] [.int y0] (zS c s) (some (.int r)) (zS c s) := by
  unfold fX12_waterFor_J10 at h
  obtain rfl := Option.some.inj h
  exact zq_iret rfl
def fX12_waterFor (n : Nat) (s : zs) (x0 : Int32) (x1 : Int32) : Option Int32 := if ¬ x1 = (1 : Int32) then fX12_waterFor_J10 n s (1 : Int32) else fX12_waterFor_J10 n s x0
theorem tX12_waterFor {n : Nat} {c : Nat × Nat} {s : zs} {x0 : Int32} {x1 : Int32} {r : Int32} (h : fX12_waterFor n s x0 x1 = some r) : zc 1 2459 [.int x0, .int x1] (zS c s) (some (.int r)) (zS c s) := by
  refine zc_of (k := kX12_waterFor) (rt := 1) (L := [some (.int x0), some (.int x1)]) zm_2459.1 rfl rfl (by decide) rfl rfl ?_
  unfold fX12_waterFor at h
  refine zr_many 2 (pc' := 2) (L' := [some (.int x0), some (.int x1)]) (st' := [.int (1 : Int32), .int x1]) (S1 := zS c s) rfl ?_
  refine zq_if2 (b := ¬ x1 = (1 : Int32)) rfl Iff.rfl rfl (fun g1 => ?_) (fun g1 => ?_)
  · rw [if_pos g1] at h
    refine zr_many 1 (pc' := 10) (L' := [some (.int x0), some (.int x1)]) (st' := [.int (1 : Int32)]) (S1 := zS c s) rfl ?_
    exact zr_wk [none, none] trivial (tX12_waterFor_J10 h)
  · rw [if_neg g1] at h
    refine zr_many 2 (pc' := 10) (L' := [some (.int x0), some (.int x1)]) (st' := [.int x0]) (S1 := zS c s) rfl ?_
    exact zr_wk [none, none] trivial (tX12_waterFor_J10 h)
def fX12_whyNot_J18 (n : Nat) (s : zs) : Option (Int32 × zs) := some ((-1 : Int32), s)
theorem tX12_whyNot_J18 {n : Nat} {c : Nat × Nat} {s : zs} {r : Int32} {s' : zs} (h : fX12_whyNot_J18 n s = some (r, s')) : zr kX12_whyNot 1 9 18 [none, none, none, none, none] [] (zS c s) (some (.int r)) (zS c s') := by
  unfold fX12_whyNot_J18 at h
  refine zr_many 1 (pc' := 19) (L' := [none, none, none, none, none]) (st' := [.int (-1 : Int32)]) (S1 := zS c s) rfl ?_
  obtain ⟨rfl, rfl⟩ := Prod.mk.inj (Option.some.inj h)
  exact zq_iret rfl
def fX12_whyNot_J83 (n : Nat) (s : zs) (y0 : Int32) : Option (Int32 × zs) := some (y0, s)
theorem tX12_whyNot_J83 {n : Nat} {c : Nat × Nat} {s : zs} {y0 : Int32} {r : Int32} {s' : zs} (h : fX12_whyNot_J83 n s y0 = some (r, s')) : zr kX12_whyNot 1 9 83 [none, none, none, none, none] [.int y0] (zS c s) (some (.int r)) (zS c s') := by
  unfold fX12_whyNot_J83 at h
  obtain ⟨rfl, rfl⟩ := Prod.mk.inj (Option.some.inj h)
  exact zq_iret rfl
def fX12_whyNot (n : Nat) (s : zs) (m1 : Nat) (x2 : Int32) (x3 : Int32) : Option (Int32 × zs) := zp (fX12_isBarge n s x2) (fun r1 => if r1 = 0 then fX12_whyNot_J18 n s else zp (fX12_in n s x3.toInt64 (0 : Int64) (1 : Int64)) (fun r5 => if ¬ r5 = 0 then zp (fX12_placeOf n s m1 x2) (fun r9 => zp (fX12_isLock n s ((r9 - (1 : Int32)) + x3)) (fun r12 => if ¬ r12 = 0 then zp (fX12_crew n s m1 x2) (fun r16 => zb (fX12_singsChord n s m1 r16 ((r9 - (1 : Int32)) + x3)) (fun r19 s20 => if ¬ r19 = 0 then cond (zi_in ((r9 - (1 : Int32)) + x3) 42) (zp (fX12_waterFor n s20 (s20.1 m1 ((r9 - (1 : Int32)) + x3).toNatClampNeg) x3) (fun r25 => if r25 ≤ (s20.1 m1 8) then fX12_whyNot_J83 n s20 (0 : Int32) else fX12_whyNot_J83 n s20 (-4 : Int32))) none else some ((-3 : Int32), s20))) else some ((-2 : Int32), s))) else fX12_whyNot_J18 n s))
theorem tX12_whyNot {n : Nat} {c : Nat × Nat} {s : zs} {m1 : Nat} {x2 : Int32} {x3 : Int32} {r : Int32} {s' : zs} (hm1 : zR m1) (h : fX12_whyNot n s m1 x2 x3 = some (r, s')) : zc 10 2460 [.ref 161, .ref m1, .int x2, .int x3] (zS c s) (some (.int r)) (zS c s') := by
  refine zc_of (k := kX12_whyNot) (rt := 1) (L := [some (.ref 161), some (.ref m1), some (.int x2), some (.int x3), none]) zm_2460.1 rfl rfl (by decide) rfl rfl ?_
  unfold fX12_whyNot at h
  refine zr_many 2 (pc' := 2) (L' := [some (.ref 161), some (.ref m1), some (.int x2), some (.int x3), none]) (st' := [.int x2, .ref 161]) (S1 := zS c s) rfl ?_
  obtain ⟨r1, g3, h⟩ := zp_inv h
  refine zq_call1 rfl rfl (zh_161 _) rfl rfl rfl ((tX12_isBarge g3).up (by decide)) rfl ?_
  refine zq_if1 (b := r1 = 0) rfl Iff.rfl rfl (fun g4 => ?_) (fun g4 => ?_)
  · rw [if_pos g4] at h
    exact zr_wk [none, none, none, none, none] trivial (tX12_whyNot_J18 h)
  · rw [if_neg g4] at h
    refine zr_many 4 (pc' := 12) (L' := [some (.ref 161), some (.ref m1), some (.int x2), some (.int x3), none]) (st' := [.long (1 : Int64), .long (0 : Int64), .long x3.toInt64]) (S1 := zS c s) rfl ?_
    obtain ⟨r5, g7, h⟩ := zp_inv h
    refine zq_scall1 rfl (by decide) rfl rfl ((tX12_in g7).up (by decide)) rfl ?_
    refine zq_if1 (b := ¬ r5 = 0) rfl Iff.rfl rfl (fun g8 => ?_) (fun g8 => ?_)
    · rw [if_pos g8] at h
      refine zr_many 2 (pc' := 22) (L' := [some (.ref 161), some (.ref m1), some (.int x2), some (.int x3), none]) (st' := [.int x2, .ref m1]) (S1 := zS c s) rfl ?_
      obtain ⟨r9, g11, h⟩ := zp_inv h
      refine zq_scall1 rfl (by decide) rfl rfl ((tX12_placeOf hm1 g11).up (by decide)) rfl ?_
      refine zr_many 7 (pc' := 34) (L' := [some (.ref 161), some (.ref m1), some (.int x2), some (.int x3), some (.int ((r9 - (1 : Int32)) + x3))]) (st' := [.int ((r9 - (1 : Int32)) + x3), .ref 161]) (S1 := zS c s) rfl ?_
      obtain ⟨r12, g14, h⟩ := zp_inv h
      refine zq_call1 rfl rfl (zh_161 _) rfl rfl rfl ((tX12_isLock g14).up (by decide)) rfl ?_
      refine zq_if1 (b := ¬ r12 = 0) rfl Iff.rfl rfl (fun g15 => ?_) (fun g15 => ?_)
      · rw [if_pos g15] at h
        refine zr_many 5 (pc' := 48) (L' := [some (.ref 161), some (.ref m1), some (.int x2), some (.int x3), some (.int ((r9 - (1 : Int32)) + x3))]) (st' := [.int x2, .ref m1, .ref 161, .ref m1, .ref 161]) (S1 := zS c s) rfl ?_
        obtain ⟨r16, g18, h⟩ := zp_inv h
        refine zq_call1 rfl rfl (zh_161 _) rfl rfl rfl ((tX12_crew hm1 g18).up (by decide)) rfl ?_
        refine zr_many 1 (pc' := 53) (L' := [some (.ref 161), some (.ref m1), some (.int x2), some (.int x3), some (.int ((r9 - (1 : Int32)) + x3))]) (st' := [.int ((r9 - (1 : Int32)) + x3), .int r16, .ref m1, .ref 161]) (S1 := zS c s) rfl ?_
        obtain ⟨r19, s20, g21, h⟩ := zb_inv h
        refine zq_call1 rfl rfl (zh_161 _) rfl rfl rfl (tX12_singsChord hm1 g21) rfl ?_
        refine zq_if1 (b := ¬ r19 = 0) rfl Iff.rfl rfl (fun g22 => ?_) (fun g22 => ?_)
        · rw [if_pos g22] at h
          refine zr_many 2 (pc' := 65) (L' := [some (.ref 161), some (.ref m1), some (.int x2), some (.int x3), some (.int ((r9 - (1 : Int32)) + x3))]) (st' := [.int (8 : Int32), .ref m1]) (S1 := zS c s20) rfl ?_
          refine zq_ild rfl (zhR hm1 _) (zR_lt hm1) (by decide) rfl ?_
          refine zr_many 2 (pc' := 69) (L' := [some (.ref 161), some (.ref m1), some (.int x2), some (.int x3), some (.int ((r9 - (1 : Int32)) + x3))]) (st' := [.int ((r9 - (1 : Int32)) + x3), .ref m1, .int (s20.1 m1 8)]) (S1 := zS c s20) rfl ?_
          obtain ⟨g24, h⟩ := zi_cond_inv h
          refine zq_ild rfl (zhR hm1 _) (zR_lt hm1) g24 rfl ?_
          refine zr_many 1 (pc' := 71) (L' := [some (.ref 161), some (.ref m1), some (.int x2), some (.int x3), some (.int ((r9 - (1 : Int32)) + x3))]) (st' := [.int x3, .int (s20.1 m1 ((r9 - (1 : Int32)) + x3).toNatClampNeg), .int (s20.1 m1 8)]) (S1 := zS c s20) rfl ?_
          obtain ⟨r25, g27, h⟩ := zp_inv h
          refine zq_scall1 rfl (by decide) rfl rfl ((tX12_waterFor g27).up (by decide)) rfl ?_
          refine zq_if2 (b := r25 ≤ (s20.1 m1 8)) rfl Iff.rfl rfl (fun g28 => ?_) (fun g28 => ?_)
          · rw [if_pos g28] at h
            refine zr_many 1 (pc' := 83) (L' := [some (.ref 161), some (.ref m1), some (.int x2), some (.int x3), some (.int ((r9 - (1 : Int32)) + x3))]) (st' := [.int (0 : Int32)]) (S1 := zS c s20) rfl ?_
            exact zr_wk [none, none, none, none, none] trivial (tX12_whyNot_J83 h)
          · rw [if_neg g28] at h
            refine zr_many 2 (pc' := 83) (L' := [some (.ref 161), some (.ref m1), some (.int x2), some (.int x3), some (.int ((r9 - (1 : Int32)) + x3))]) (st' := [.int (-4 : Int32)]) (S1 := zS c s20) rfl ?_
            exact zr_wk [none, none, none, none, none] trivial (tX12_whyNot_J83 h)
        · rw [if_neg g22] at h
          refine zr_many 1 (pc' := 61) (L' := [some (.ref 161), some (.ref m1), some (.int x2), some (.int x3), some (.int ((r9 - (1 : Int32)) + x3))]) (st' := [.int (-3 : Int32)]) (S1 := zS c s20) rfl ?_
          obtain ⟨rfl, rfl⟩ := Prod.mk.inj (Option.some.inj h)
          exact zq_iret rfl
      · rw [if_neg g15] at h
        refine zr_many 1 (pc' := 42) (L' := [some (.ref 161), some (.ref m1), some (.int x2), some (.int x3), some (.int ((r9 - (1 : Int32)) + x3))]) (st' := [.int (-2 : Int32)]) (S1 := zS c s) rfl ?_
        obtain ⟨rfl, rfl⟩ := Prod.mk.inj (Option.some.inj h)
        exact zq_iret rfl
    · rw [if_neg g8] at h
      exact zr_wk [none, none, none, none, none] trivial (tX12_whyNot_J18 h)
def fX12_passes_B89 (n : Nat) (m1 : Nat) (x6 : Int32) (w89 : Int32 × zs) : Option ((Int32 × zs) ⊕ (zs)) := if (4 : Int32) ≤ w89.1 then some (Sum.inr w89.2) else cond (zi_in w89.1 4) (cond (zi_in (((10 : Int32) + ((3 : Int32) * (w89.2.1 178 w89.1.toNatClampNeg))) + (2 : Int32)) 42) (cond (zi_in (((10 : Int32) + ((3 : Int32) * (w89.2.1 178 w89.1.toNatClampNeg))) + (2 : Int32)) 42) (some (Sum.inl ((w89.1 + (1 : Int32)), (zsi w89.2 m1 (((10 : Int32) + ((3 : Int32) * (w89.2.1 178 w89.1.toNatClampNeg))) + (2 : Int32)).toNatClampNeg (if ((w89.2.1 m1 (((10 : Int32) + ((3 : Int32) * (w89.2.1 178 w89.1.toNatClampNeg))) + (2 : Int32)).toNatClampNeg) + (1 : Int32)) < (9 : Int32) then ((w89.2.1 m1 (((10 : Int32) + ((3 : Int32) * (w89.2.1 178 w89.1.toNatClampNeg))) + (2 : Int32)).toNatClampNeg) + (1 : Int32)) else (9 : Int32)))))) none) none) none
theorem tX12_passes_B89 {n : Nat} {c : Nat × Nat} {m1 : Nat} {x6 : Int32} {w89 : Int32 × zs} {o : _} {v : Option Value} {S' : zi_S} (hm1 : zR m1) (h : fX12_passes_B89 n m1 x6 w89 = some o) (hn : ∀ w89, o = Sum.inl w89 → zr kX12_passes 1 10 89 [some (.ref 161), some (.ref m1), none, none, none, none, some (.int x6), some (.int w89.1), none] [] (zS c w89.2) v S') (hx : ∀ z, o = Sum.inr z → (fun z => zr kX12_passes 1 10 132 [none, none, none, none, none, none, some (.int x6), none, none] [] (zS c z) v S') z) : zr kX12_passes 1 10 89 [some (.ref 161), some (.ref m1), none, none, none, none, some (.int x6), some (.int w89.1), none] [] (zS c w89.2) v S' := by
  unfold fX12_passes_B89 at h
  refine zr_many 2 (pc' := 92) (L' := [some (.ref 161), some (.ref m1), none, none, none, none, some (.int x6), some (.int w89.1), none]) (st' := [.int (4 : Int32), .int w89.1]) (S1 := zS c w89.2) rfl ?_
  refine zq_if2 (b := (4 : Int32) ≤ w89.1) rfl Iff.rfl rfl (fun g24 => ?_) (fun g24 => ?_)
  · rw [if_pos g24] at h
    obtain rfl := Option.some.inj h
    exact zr_wk [none, none, none, none, none, none, some (.int x6), none, none] ⟨rfl, trivial⟩ (hx w89.2 rfl)
  · rw [if_neg g24] at h
    refine zr_many 3 (pc' := 99) (L' := [some (.ref 161), some (.ref m1), none, none, none, none, some (.int x6), some (.int w89.1), none]) (st' := [.ref 161, .int (3 : Int32), .int (10 : Int32)]) (S1 := zS c w89.2) rfl ?_
    refine zq_get rfl (zh_161 _) rfl rfl rfl ?_
    refine zr_many 1 (pc' := 104) (L' := [some (.ref 161), some (.ref m1), none, none, none, none, some (.int x6), some (.int w89.1), none]) (st' := [.int w89.1, .ref 178, .int (3 : Int32), .int (10 : Int32)]) (S1 := zS c w89.2) rfl ?_
    obtain ⟨g25, h⟩ := zi_cond_inv h
    refine zq_ild rfl (zh_178 _) rfl g25 rfl ?_
    refine zr_many 10 (pc' := 119) (L' := [some (.ref 161), some (.ref m1), none, none, none, none, some (.int x6), some (.int w89.1), some (.int (((10 : Int32) + ((3 : Int32) * (w89.2.1 178 w89.1.toNatClampNeg))) + (2 : Int32)))]) (st' := [.int (((10 : Int32) + ((3 : Int32) * (w89.2.1 178 w89.1.toNatClampNeg))) + (2 : Int32)), .ref m1, .int (9 : Int32), .int (((10 : Int32) + ((3 : Int32) * (w89.2.1 178 w89.1.toNatClampNeg))) + (2 : Int32)), .ref m1]) (S1 := zS c w89.2) rfl ?_
    obtain ⟨g26, h⟩ := zi_cond_inv h
    refine zq_ild rfl (zhR hm1 _) (zR_lt hm1) g26 rfl ?_
    refine zr_many 3 (pc' := 125) (L' := [some (.ref 161), some (.ref m1), none, none, none, none, some (.int x6), some (.int w89.1), some (.int (((10 : Int32) + ((3 : Int32) * (w89.2.1 178 w89.1.toNatClampNeg))) + (2 : Int32)))]) (st' := [.int (if ((w89.2.1 m1 (((10 : Int32) + ((3 : Int32) * (w89.2.1 178 w89.1.toNatClampNeg))) + (2 : Int32)).toNatClampNeg) + (1 : Int32)) < (9 : Int32) then ((w89.2.1 m1 (((10 : Int32) + ((3 : Int32) * (w89.2.1 178 w89.1.toNatClampNeg))) + (2 : Int32)).toNatClampNeg) + (1 : Int32)) else (9 : Int32)), .int (((10 : Int32) + ((3 : Int32) * (w89.2.1 178 w89.1.toNatClampNeg))) + (2 : Int32)), .ref m1]) (S1 := zS c w89.2) rfl ?_
    obtain ⟨g27, h⟩ := zi_cond_inv h
    refine zq_ist rfl (zhR hm1) (zR_lt hm1) g27 rfl ?_
    refine zr_many 2 (pc' := 89) (L' := [some (.ref 161), some (.ref m1), none, none, none, none, some (.int x6), some (.int (w89.1 + (1 : Int32))), some (.int (((10 : Int32) + ((3 : Int32) * (w89.2.1 178 w89.1.toNatClampNeg))) + (2 : Int32)))]) (st' := []) (S1 := zS c (zsi w89.2 m1 (((10 : Int32) + ((3 : Int32) * (w89.2.1 178 w89.1.toNatClampNeg))) + (2 : Int32)).toNatClampNeg (if ((w89.2.1 m1 (((10 : Int32) + ((3 : Int32) * (w89.2.1 178 w89.1.toNatClampNeg))) + (2 : Int32)).toNatClampNeg) + (1 : Int32)) < (9 : Int32) then ((w89.2.1 m1 (((10 : Int32) + ((3 : Int32) * (w89.2.1 178 w89.1.toNatClampNeg))) + (2 : Int32)).toNatClampNeg) + (1 : Int32)) else (9 : Int32)))) rfl ?_
    obtain rfl := Option.some.inj h
    exact zr_wk [some (.ref 161), some (.ref m1), none, none, none, none, some (.int x6), some (.int (w89.1 + (1 : Int32))), none] ⟨rfl, rfl, rfl, rfl, trivial⟩ (hn ((w89.1 + (1 : Int32)), (zsi w89.2 m1 (((10 : Int32) + ((3 : Int32) * (w89.2.1 178 w89.1.toNatClampNeg))) + (2 : Int32)).toNatClampNeg (if ((w89.2.1 m1 (((10 : Int32) + ((3 : Int32) * (w89.2.1 178 w89.1.toNatClampNeg))) + (2 : Int32)).toNatClampNeg) + (1 : Int32)) < (9 : Int32) then ((w89.2.1 m1 (((10 : Int32) + ((3 : Int32) * (w89.2.1 178 w89.1.toNatClampNeg))) + (2 : Int32)).toNatClampNeg) + (1 : Int32)) else (9 : Int32)))) rfl)
def fX12_passes (n : Nat) (s : zs) (m1 : Nat) (x2 : Int32) (x3 : Int32) : Option (Int32 × zs) := zb (fX12_whyNot n s m1 x2 x3) (fun r1 s2 => if 0 ≤ r1 then zp (fX12_placeOf n s2 m1 x2) (fun r5 => zb (fX12_minutes n s2 m1 x2 ((r5 - (1 : Int32)) + x3) x3) (fun r8 s9 => cond (zi_in ((r5 - (1 : Int32)) + x3) 42) (zp (fX12_waterFor n s9 (s9.1 m1 ((r5 - (1 : Int32)) + x3).toNatClampNeg) x3) (fun r13 => zt (zsi s9 m1 8 ((s9.1 m1 8) - r13)) (fun s16 => cond (zi_in ((r5 - (1 : Int32)) + x3) 42) (cond (zi_in (((34 : Int32) + ((2 : Int32) * x2)) + (0 : Int32)) 42) (zt (zsi s16 m1 ((r5 - (1 : Int32)) + x3).toNatClampNeg x3) (fun s19 => cond (zi_in (((34 : Int32) + ((2 : Int32) * x2)) + (0 : Int32)) 42) (zt (zsi s19 m1 (((34 : Int32) + ((2 : Int32) * x2)) + (0 : Int32)).toNatClampNeg ((s19.1 m1 (((34 : Int32) + ((2 : Int32) * x2)) + (0 : Int32)).toNatClampNeg) + (((2 : Int32) * x3) - (1 : Int32)))) (fun s22 => zp (zl (fX12_passes_B89 n m1 r8) n ((0 : Int32), (zsi s22 m1 9 ((s22.1 m1 9) + r8)))) (fun w28 => some (r8, w28)))) none)) none) none))) none)) else some (r1, s2))
theorem tX12_passes {n : Nat} {c : Nat × Nat} {s : zs} {m1 : Nat} {x2 : Int32} {x3 : Int32} {r : Int32} {s' : zs} (hm1 : zR m1) (h : fX12_passes n s m1 x2 x3 = some (r, s')) : zc 11 2461 [.ref 161, .ref m1, .int x2, .int x3] (zS c s) (some (.int r)) (zS c s') := by
  refine zc_of (k := kX12_passes) (rt := 1) (L := [some (.ref 161), some (.ref m1), some (.int x2), some (.int x3), none, none, none, none, none]) zm_2461.1 rfl rfl (by decide) rfl rfl ?_
  unfold fX12_passes at h
  refine zr_many 4 (pc' := 4) (L' := [some (.ref 161), some (.ref m1), some (.int x2), some (.int x3), none, none, none, none, none]) (st' := [.int x3, .int x2, .ref m1, .ref 161]) (S1 := zS c s) rfl ?_
  obtain ⟨r1, s2, g3, h⟩ := zb_inv h
  refine zq_call1 rfl rfl (zh_161 _) rfl rfl rfl (tX12_whyNot hm1 g3) rfl ?_
  refine zr_many 2 (pc' := 11) (L' := [some (.ref 161), some (.ref m1), some (.int x2), some (.int x3), some (.int r1), none, none, none, none]) (st' := [.int r1]) (S1 := zS c s2) rfl ?_
  refine zq_if1 (b := 0 ≤ r1) rfl Iff.rfl rfl (fun g4 => ?_) (fun g4 => ?_)
  · rw [if_pos g4] at h
    refine zr_many 2 (pc' := 19) (L' := [some (.ref 161), some (.ref m1), some (.int x2), some (.int x3), some (.int r1), none, none, none, none]) (st' := [.int x2, .ref m1]) (S1 := zS c s2) rfl ?_
    obtain ⟨r5, g7, h⟩ := zp_inv h
    refine zq_scall1 rfl (by decide) rfl rfl ((tX12_placeOf hm1 g7).up (by decide)) rfl ?_
    refine zr_many 10 (pc' := 34) (L' := [some (.ref 161), some (.ref m1), some (.int x2), some (.int x3), some (.int r1), some (.int ((r5 - (1 : Int32)) + x3)), none, none, none]) (st' := [.int x3, .int ((r5 - (1 : Int32)) + x3), .int x2, .ref m1, .ref 161]) (S1 := zS c s2) rfl ?_
    obtain ⟨r8, s9, g10, h⟩ := zb_inv h
    refine zq_call1 rfl rfl (zh_161 _) rfl rfl rfl ((tX12_minutes hm1 g10).up (by decide)) rfl ?_
    refine zr_many 4 (pc' := 43) (L' := [some (.ref 161), some (.ref m1), some (.int x2), some (.int x3), some (.int r1), some (.int ((r5 - (1 : Int32)) + x3)), some (.int r8), none, none]) (st' := [.int (8 : Int32), .ref m1, .int (8 : Int32), .ref m1]) (S1 := zS c s9) rfl ?_
    refine zq_ild rfl (zhR hm1 _) (zR_lt hm1) (by decide) rfl ?_
    refine zr_many 2 (pc' := 47) (L' := [some (.ref 161), some (.ref m1), some (.int x2), some (.int x3), some (.int r1), some (.int ((r5 - (1 : Int32)) + x3)), some (.int r8), none, none]) (st' := [.int ((r5 - (1 : Int32)) + x3), .ref m1, .int (s9.1 m1 8), .int (8 : Int32), .ref m1]) (S1 := zS c s9) rfl ?_
    obtain ⟨g12, h⟩ := zi_cond_inv h
    refine zq_ild rfl (zhR hm1 _) (zR_lt hm1) g12 rfl ?_
    refine zr_many 1 (pc' := 49) (L' := [some (.ref 161), some (.ref m1), some (.int x2), some (.int x3), some (.int r1), some (.int ((r5 - (1 : Int32)) + x3)), some (.int r8), none, none]) (st' := [.int x3, .int (s9.1 m1 ((r5 - (1 : Int32)) + x3).toNatClampNeg), .int (s9.1 m1 8), .int (8 : Int32), .ref m1]) (S1 := zS c s9) rfl ?_
    obtain ⟨r13, g15, h⟩ := zp_inv h
    refine zq_scall1 rfl (by decide) rfl rfl ((tX12_waterFor g15).up (by decide)) rfl ?_
    refine zr_many 1 (pc' := 53) (L' := [some (.ref 161), some (.ref m1), some (.int x2), some (.int x3), some (.int r1), some (.int ((r5 - (1 : Int32)) + x3)), some (.int r8), none, none]) (st' := [.int ((s9.1 m1 8) - r13), .int (8 : Int32), .ref m1]) (S1 := zS c s9) rfl ?_
    refine zq_ist rfl (zhR hm1) (zR_lt hm1) (by decide) rfl ?_
    refine zr_many 3 (pc' := 58) (L' := [some (.ref 161), some (.ref m1), some (.int x2), some (.int x3), some (.int r1), some (.int ((r5 - (1 : Int32)) + x3)), some (.int r8), none, none]) (st' := [.int x3, .int ((r5 - (1 : Int32)) + x3), .ref m1]) (S1 := zS c (zsi s9 m1 8 ((s9.1 m1 8) - r13))) rfl ?_
    obtain ⟨s16, e17, h⟩ := zt_in h
    rw [← e17]
    obtain ⟨g30, h⟩ := zi_cond_inv h
    refine zq_ist rfl (zhR hm1) (zR_lt hm1) g30 rfl ?_
    refine zr_many 9 (pc' := 69) (L' := [some (.ref 161), some (.ref m1), some (.int x2), some (.int x3), some (.int r1), some (.int ((r5 - (1 : Int32)) + x3)), some (.int r8), none, none]) (st' := [.int (((34 : Int32) + ((2 : Int32) * x2)) + (0 : Int32)), .ref m1, .int (((34 : Int32) + ((2 : Int32) * x2)) + (0 : Int32)), .ref m1]) (S1 := zS c (zsi s16 m1 ((r5 - (1 : Int32)) + x3).toNatClampNeg x3)) rfl ?_
    obtain ⟨g18, h⟩ := zi_cond_inv h
    refine zq_ild rfl (zhR hm1 _) (zR_lt hm1) g18 rfl ?_
    refine zr_many 6 (pc' := 76) (L' := [some (.ref 161), some (.ref m1), some (.int x2), some (.int x3), some (.int r1), some (.int ((r5 - (1 : Int32)) + x3)), some (.int r8), none, none]) (st' := [.int (((zsi s16 m1 ((r5 - (1 : Int32)) + x3).toNatClampNeg x3).1 m1 (((34 : Int32) + ((2 : Int32) * x2)) + (0 : Int32)).toNatClampNeg) + (((2 : Int32) * x3) - (1 : Int32))), .int (((34 : Int32) + ((2 : Int32) * x2)) + (0 : Int32)), .ref m1]) (S1 := zS c (zsi s16 m1 ((r5 - (1 : Int32)) + x3).toNatClampNeg x3)) rfl ?_
    obtain ⟨s19, e20, h⟩ := zt_in h
    rw [← e20]
    obtain ⟨g31, h⟩ := zi_cond_inv h
    refine zq_ist rfl (zhR hm1) (zR_lt hm1) g31 rfl ?_
    refine zr_many 3 (pc' := 81) (L' := [some (.ref 161), some (.ref m1), some (.int x2), some (.int x3), some (.int r1), some (.int ((r5 - (1 : Int32)) + x3)), some (.int r8), none, none]) (st' := [.int (9 : Int32), .ref m1, .int (9 : Int32), .ref m1]) (S1 := zS c (zsi s19 m1 (((34 : Int32) + ((2 : Int32) * x2)) + (0 : Int32)).toNatClampNeg ((s19.1 m1 (((34 : Int32) + ((2 : Int32) * x2)) + (0 : Int32)).toNatClampNeg) + (((2 : Int32) * x3) - (1 : Int32))))) rfl ?_
    refine zq_ild rfl (zhR hm1 _) (zR_lt hm1) (by decide) rfl ?_
    refine zr_many 2 (pc' := 85) (L' := [some (.ref 161), some (.ref m1), some (.int x2), some (.int x3), some (.int r1), some (.int ((r5 - (1 : Int32)) + x3)), some (.int r8), none, none]) (st' := [.int (((zsi s19 m1 (((34 : Int32) + ((2 : Int32) * x2)) + (0 : Int32)).toNatClampNeg ((s19.1 m1 (((34 : Int32) + ((2 : Int32) * x2)) + (0 : Int32)).toNatClampNeg) + (((2 : Int32) * x3) - (1 : Int32)))).1 m1 9) + r8), .int (9 : Int32), .ref m1]) (S1 := zS c (zsi s19 m1 (((34 : Int32) + ((2 : Int32) * x2)) + (0 : Int32)).toNatClampNeg ((s19.1 m1 (((34 : Int32) + ((2 : Int32) * x2)) + (0 : Int32)).toNatClampNeg) + (((2 : Int32) * x3) - (1 : Int32))))) rfl ?_
    obtain ⟨s22, e23, h⟩ := zt_in h
    rw [← e23]
    refine zq_ist rfl (zhR hm1) (zR_lt hm1) (by decide) rfl ?_
    refine zr_many 2 (pc' := 89) (L' := [some (.ref 161), some (.ref m1), some (.int x2), some (.int x3), some (.int r1), some (.int ((r5 - (1 : Int32)) + x3)), some (.int r8), some (.int (0 : Int32)), none]) (st' := []) (S1 := zS c (zsi s22 m1 9 ((s22.1 m1 9) + r8))) rfl ?_
    obtain ⟨w28, g29, h⟩ := zp_inv h
    refine zr_wk [some (.ref 161), some (.ref m1), none, none, none, none, some (.int r8), some (.int (0 : Int32)), none] ⟨rfl, rfl, rfl, rfl, trivial⟩ (zl_cert (Z := fun w89 => zr kX12_passes 1 10 89 [some (.ref 161), some (.ref m1), none, none, none, none, some (.int r8), some (.int w89.1), none] [] (zS c w89.2) _ _) (Y := (fun z => zr kX12_passes 1 10 132 [none, none, none, none, none, none, some (.int r8), none, none] [] (zS c z) _ _)) (fun w o h1 h2 h3 => tX12_passes_B89 hm1 h1 h2 h3) n _ _ g29 ?_)
    show zr kX12_passes 1 10 132 [none, none, none, none, none, none, some (.int r8), none, none] [] (zS c w28) _ _
    refine zr_many 1 (pc' := 134) (L' := [none, none, none, none, none, none, some (.int r8), none, none]) (st' := [.int r8]) (S1 := zS c w28) rfl ?_
    obtain ⟨rfl, rfl⟩ := Prod.mk.inj (Option.some.inj h)
    exact zq_iret rfl
  · rw [if_neg g4] at h
    refine zr_many 1 (pc' := 16) (L' := [some (.ref 161), some (.ref m1), some (.int x2), some (.int x3), some (.int r1), none, none, none, none]) (st' := [.int r1]) (S1 := zS c s2) rfl ?_
    obtain ⟨rfl, rfl⟩ := Prod.mk.inj (Option.some.inj h)
    exact zq_iret rfl
def fX12_restsFor_B18 (n : Nat) (m1 : Nat) (x2 : Int32) (x3 : Int32) (w18 : Int32 × zs) : Option ((Int32 × zs) ⊕ (zs)) := if (w18.2.1 161 4) ≤ w18.1 then some (Sum.inr w18.2) else if ¬ ((w18.2.1 m1 9) - (w18.2.1 m1 9) / (10 : Int32) * (10 : Int32)) = 0 then some (Sum.inr w18.2) else zp (fX12_tiredOf n w18.2 m1 w18.1) (fun r6 => cond (zi_in (((10 : Int32) + ((3 : Int32) * w18.1)) + (2 : Int32)) 42) (some (Sum.inl ((w18.1 + (1 : Int32)), (zsi w18.2 m1 (((10 : Int32) + ((3 : Int32) * w18.1)) + (2 : Int32)).toNatClampNeg (if (0 : Int32) < (r6 - (1 : Int32)) then (r6 - (1 : Int32)) else (0 : Int32)))))) none)
theorem tX12_restsFor_B18 {n : Nat} {c : Nat × Nat} {m1 : Nat} {x2 : Int32} {x3 : Int32} {w18 : Int32 × zs} {o : _} {v : Option Value} {S' : zi_S} (hm1 : zR m1) (h : fX12_restsFor_B18 n m1 x2 x3 w18 = some o) (hn : ∀ w18, o = Sum.inl w18 → zr kX12_restsFor 0 1 18 [some (.ref 161), some (.ref m1), some (.int x2), some (.int x3), some (.int w18.1)] [] (zS c w18.2) v S') (hx : ∀ z, o = Sum.inr z → (fun z => zr kX12_restsFor 0 1 66 [some (.ref 161), some (.ref m1), some (.int x2), some (.int x3), none] [] (zS c z) v S') z) : zr kX12_restsFor 0 1 18 [some (.ref 161), some (.ref m1), some (.int x2), some (.int x3), some (.int w18.1)] [] (zS c w18.2) v S' := by
  unfold fX12_restsFor_B18 at h
  refine zr_many 2 (pc' := 21) (L' := [some (.ref 161), some (.ref m1), some (.int x2), some (.int x3), some (.int w18.1)]) (st' := [.ref 161, .int w18.1]) (S1 := zS c w18.2) rfl ?_
  refine zq_get rfl (zh_161 _) rfl rfl rfl ?_
  refine zq_if2 (b := (w18.2.1 161 4) ≤ w18.1) rfl Iff.rfl rfl (fun g3 => ?_) (fun g3 => ?_)
  · rw [if_pos g3] at h
    obtain rfl := Option.some.inj h
    exact zr_wk [some (.ref 161), some (.ref m1), some (.int x2), some (.int x3), none] ⟨rfl, rfl, rfl, rfl, trivial⟩ (hx w18.2 rfl)
  · rw [if_neg g3] at h
    refine zr_many 2 (pc' := 30) (L' := [some (.ref 161), some (.ref m1), some (.int x2), some (.int x3), some (.int w18.1)]) (st' := [.int (9 : Int32), .ref m1]) (S1 := zS c w18.2) rfl ?_
    refine zq_ild rfl (zhR hm1 _) (zR_lt hm1) (by decide) rfl ?_
    refine zr_many 1 (pc' := 33) (L' := [some (.ref 161), some (.ref m1), some (.int x2), some (.int x3), some (.int w18.1)]) (st' := [.int (10 : Int32), .int (w18.2.1 m1 9)]) (S1 := zS c w18.2) rfl ?_
    refine zq_irem rfl (by decide) rfl ?_
    refine zq_if1 (b := ¬ ((w18.2.1 m1 9) - (w18.2.1 m1 9) / (10 : Int32) * (10 : Int32)) = 0) rfl Iff.rfl rfl (fun g5 => ?_) (fun g5 => ?_)
    · rw [if_pos g5] at h
      obtain rfl := Option.some.inj h
      exact zr_wk [some (.ref 161), some (.ref m1), some (.int x2), some (.int x3), none] ⟨rfl, rfl, rfl, rfl, trivial⟩ (hx w18.2 rfl)
    · rw [if_neg g5] at h
      refine zr_many 11 (pc' := 51) (L' := [some (.ref 161), some (.ref m1), some (.int x2), some (.int x3), some (.int w18.1)]) (st' := [.int w18.1, .ref m1, .int (0 : Int32), .int (((10 : Int32) + ((3 : Int32) * w18.1)) + (2 : Int32)), .ref m1]) (S1 := zS c w18.2) rfl ?_
      obtain ⟨r6, g8, h⟩ := zp_inv h
      refine zq_scall1 rfl (by decide) rfl rfl (tX12_tiredOf hm1 g8) rfl ?_
      refine zr_many 3 (pc' := 59) (L' := [some (.ref 161), some (.ref m1), some (.int x2), some (.int x3), some (.int w18.1)]) (st' := [.int (if (0 : Int32) < (r6 - (1 : Int32)) then (r6 - (1 : Int32)) else (0 : Int32)), .int (((10 : Int32) + ((3 : Int32) * w18.1)) + (2 : Int32)), .ref m1]) (S1 := zS c w18.2) rfl ?_
      obtain ⟨g9, h⟩ := zi_cond_inv h
      refine zq_ist rfl (zhR hm1) (zR_lt hm1) g9 rfl ?_
      refine zr_many 2 (pc' := 18) (L' := [some (.ref 161), some (.ref m1), some (.int x2), some (.int x3), some (.int (w18.1 + (1 : Int32)))]) (st' := []) (S1 := zS c (zsi w18.2 m1 (((10 : Int32) + ((3 : Int32) * w18.1)) + (2 : Int32)).toNatClampNeg (if (0 : Int32) < (r6 - (1 : Int32)) then (r6 - (1 : Int32)) else (0 : Int32)))) rfl ?_
      obtain rfl := Option.some.inj h
      exact zr_wk [some (.ref 161), some (.ref m1), some (.int x2), some (.int x3), some (.int (w18.1 + (1 : Int32)))] ⟨rfl, rfl, rfl, rfl, rfl, trivial⟩ (hn ((w18.1 + (1 : Int32)), (zsi w18.2 m1 (((10 : Int32) + ((3 : Int32) * w18.1)) + (2 : Int32)).toNatClampNeg (if (0 : Int32) < (r6 - (1 : Int32)) then (r6 - (1 : Int32)) else (0 : Int32)))) rfl)
def fX12_restsFor_J66 (n : Nat) (s : zs) (m1 : Nat) (x2 : Int32) (x3 : Int32) : Option ((Int32 × zs) ⊕ (zs)) := some (Sum.inl ((x3 + (1 : Int32)), s))
theorem tX12_restsFor_J66 {n : Nat} {c : Nat × Nat} {s : zs} {m1 : Nat} {x2 : Int32} {x3 : Int32} {o : _} {v : Option Value} {S' : zi_S} (hm1 : zR m1) (h : fX12_restsFor_J66 n s m1 x2 x3 = some o) (hn : ∀ w2, o = Sum.inl w2 → zr kX12_restsFor 0 1 2 [some (.ref 161), some (.ref m1), some (.int x2), some (.int w2.1), none] [] (zS c w2.2) v S') (hx : ∀ z, o = Sum.inr z → (fun z => zr kX12_restsFor 0 1 72 [none, none, none, none, none] [] (zS c z) v S') z) : zr kX12_restsFor 0 1 66 [some (.ref 161), some (.ref m1), some (.int x2), some (.int x3), none] [] (zS c s) v S' := by
  unfold fX12_restsFor_J66 at h
  refine zr_many 2 (pc' := 2) (L' := [some (.ref 161), some (.ref m1), some (.int x2), some (.int (x3 + (1 : Int32))), none]) (st' := []) (S1 := zS c s) rfl ?_
  obtain rfl := Option.some.inj h
  exact zr_wk [some (.ref 161), some (.ref m1), some (.int x2), some (.int (x3 + (1 : Int32))), none] ⟨rfl, rfl, rfl, rfl, trivial⟩ (hn ((x3 + (1 : Int32)), s) rfl)
def fX12_restsFor_B2 (n : Nat) (m1 : Nat) (x2 : Int32) (w2 : Int32 × zs) : Option ((Int32 × zs) ⊕ (zs)) := if x2 ≤ w2.1 then some (Sum.inr w2.2) else zp (zl (fX12_restsFor_B18 n m1 x2 w2.1) n ((0 : Int32), (zsi w2.2 m1 9 ((w2.2.1 m1 9) + (1 : Int32))))) (fun w10 => fX12_restsFor_J66 n w10 m1 x2 w2.1)
theorem tX12_restsFor_B2 {n : Nat} {c : Nat × Nat} {m1 : Nat} {x2 : Int32} {w2 : Int32 × zs} {o : _} {v : Option Value} {S' : zi_S} (hm1 : zR m1) (h : fX12_restsFor_B2 n m1 x2 w2 = some o) (hn : ∀ w2, o = Sum.inl w2 → zr kX12_restsFor 0 1 2 [some (.ref 161), some (.ref m1), some (.int x2), some (.int w2.1), none] [] (zS c w2.2) v S') (hx : ∀ z, o = Sum.inr z → (fun z => zr kX12_restsFor 0 1 72 [none, none, none, none, none] [] (zS c z) v S') z) : zr kX12_restsFor 0 1 2 [some (.ref 161), some (.ref m1), some (.int x2), some (.int w2.1), none] [] (zS c w2.2) v S' := by
  unfold fX12_restsFor_B2 at h
  refine zr_many 2 (pc' := 4) (L' := [some (.ref 161), some (.ref m1), some (.int x2), some (.int w2.1), none]) (st' := [.int x2, .int w2.1]) (S1 := zS c w2.2) rfl ?_
  refine zq_if2 (b := x2 ≤ w2.1) rfl Iff.rfl rfl (fun g1 => ?_) (fun g1 => ?_)
  · rw [if_pos g1] at h
    obtain rfl := Option.some.inj h
    exact zr_wk [none, none, none, none, none] trivial (hx w2.2 rfl)
  · rw [if_neg g1] at h
    refine zr_many 3 (pc' := 11) (L' := [some (.ref 161), some (.ref m1), some (.int x2), some (.int w2.1), none]) (st' := [.int (9 : Int32), .ref m1, .int (9 : Int32), .ref m1]) (S1 := zS c w2.2) rfl ?_
    refine zq_ild rfl (zhR hm1 _) (zR_lt hm1) (by decide) rfl ?_
    refine zr_many 2 (pc' := 14) (L' := [some (.ref 161), some (.ref m1), some (.int x2), some (.int w2.1), none]) (st' := [.int ((w2.2.1 m1 9) + (1 : Int32)), .int (9 : Int32), .ref m1]) (S1 := zS c w2.2) rfl ?_
    refine zq_ist rfl (zhR hm1) (zR_lt hm1) (by decide) rfl ?_
    refine zr_many 2 (pc' := 18) (L' := [some (.ref 161), some (.ref m1), some (.int x2), some (.int w2.1), some (.int (0 : Int32))]) (st' := []) (S1 := zS c (zsi w2.2 m1 9 ((w2.2.1 m1 9) + (1 : Int32)))) rfl ?_
    obtain ⟨w10, g11, h⟩ := zp_inv h
    refine zr_wk [some (.ref 161), some (.ref m1), some (.int x2), some (.int w2.1), some (.int (0 : Int32))] ⟨rfl, rfl, rfl, rfl, rfl, trivial⟩ (zl_cert (Z := fun w18 => zr kX12_restsFor 0 1 18 [some (.ref 161), some (.ref m1), some (.int x2), some (.int w2.1), some (.int w18.1)] [] (zS c w18.2) _ _) (Y := (fun z => zr kX12_restsFor 0 1 66 [some (.ref 161), some (.ref m1), some (.int x2), some (.int w2.1), none] [] (zS c z) _ _)) (fun w o h1 h2 h3 => tX12_restsFor_B18 hm1 h1 h2 h3) n _ _ g11 ?_)
    show zr kX12_restsFor 0 1 66 [some (.ref 161), some (.ref m1), some (.int x2), some (.int w2.1), none] [] (zS c w10) _ _
    exact zr_wk [some (.ref 161), some (.ref m1), some (.int x2), some (.int w2.1), none] ⟨rfl, rfl, rfl, rfl, trivial⟩ (tX12_restsFor_J66 hm1 h hn hx)
def fX12_restsFor (n : Nat) (s : zs) (m1 : Nat) (x2 : Int32) : Option zs := zp (zl (fX12_restsFor_B2 n m1 x2) n ((0 : Int32), s)) (fun w12 => some w12)
theorem tX12_restsFor {n : Nat} {c : Nat × Nat} {s : zs} {m1 : Nat} {x2 : Int32} {s' : zs} (hm1 : zR m1) (h : fX12_restsFor n s m1 x2 = some s') : zc 2 2462 [.ref 161, .ref m1, .int x2] (zS c s) none (zS c s') := by
  refine zc_of (k := kX12_restsFor) (rt := 0) (L := [some (.ref 161), some (.ref m1), some (.int x2), none, none]) zm_2462.1 rfl rfl (by decide) rfl rfl ?_
  unfold fX12_restsFor at h
  refine zr_many 2 (pc' := 2) (L' := [some (.ref 161), some (.ref m1), some (.int x2), some (.int (0 : Int32)), none]) (st' := []) (S1 := zS c s) rfl ?_
  obtain ⟨w12, g13, h⟩ := zp_inv h
  refine zr_wk [some (.ref 161), some (.ref m1), some (.int x2), some (.int (0 : Int32)), none] ⟨rfl, rfl, rfl, rfl, trivial⟩ (zl_cert (Z := fun w2 => zr kX12_restsFor 0 1 2 [some (.ref 161), some (.ref m1), some (.int x2), some (.int w2.1), none] [] (zS c w2.2) _ _) (Y := (fun z => zr kX12_restsFor 0 1 72 [none, none, none, none, none] [] (zS c z) _ _)) (fun w o h1 h2 h3 => tX12_restsFor_B2 hm1 h1 h2 h3) n _ _ g13 ?_)
  show zr kX12_restsFor 0 1 72 [none, none, none, none, none] [] (zS c w12) _ _
  obtain rfl := Option.some.inj h
  exact zq_vret rfl
